/-! bs_: the bytes of the keys that are made, both ways -/
theorem bs_wr_o (B : Nat → Int32) {a m i : Nat} (v : Int64) (h : i < a ∨ a + m ≤ i) : bs_wr B a v m i = B i := by
  unfold bs_wr
  rw [if_neg (by omega)]
theorem bs_lvm_in {A B : Nat → Int32} {c a : Nat} (z r : Int64) (fl : Int32) (ha : a + 17 ≤ 160) (h : ∀ j, j < 160 → A j = B (c + j)) {j : Nat} (hj : j < 160) : bs_lvm A a z r fl j = bs_lvm B (c + a) z r fl (c + j) := by
  have w1 := bs_wr_at A a z B c h 8 (by omega)
  have w2 := bs_wr_at _ (a + 8) r _ c w1 8 (by omega) j hj
  rw [← Nat.add_assoc] at w2
  unfold bs_lvm upd
  by_cases h1 : j = a + 16
  · rw [if_pos h1, if_pos (show c + j = c + a + 16 by omega)]
  · rw [if_neg h1, if_neg (show ¬ c + j = c + a + 16 by omega)]
    exact w2
theorem bs_lvm_out (B : Nat → Int32) {a i : Nat} (z r : Int64) (fl : Int32) (h : i < a ∨ a + 17 ≤ i) : bs_lvm B a z r fl i = B i := by
  unfold bs_lvm upd
  rw [if_neg (show ¬ i = a + 16 by omega), bs_wr_o _ r (by omega), bs_wr_o _ z (by omega)]
theorem bs_lvl_t {A B : Nat → Int32} {n d : Nat} (hn : n < 2) (hd : d < 8) (z r : Int64) (fl : Int32) (h : ∀ j, j < 160 → A j = B (160 * n + j)) : ∀ j, j < 160 → bs_lvl A d z r fl j = bs_lv2 B d z r fl (160 * n + j) := by
  intro j hj
  show bs_lvm A (16 + 17 * d) z r fl j = bs_lvm (bs_lvm B (160 * 0 + 16 + 17 * d) z r fl) (160 * 1 + 16 + 17 * d) z r fl (160 * n + j)
  have hn2 : n = 0 ∨ n = 1 := by omega
  rcases hn2 with rfl | rfl
  · rw [bs_lvm_out _ z r fl (show 160 * 0 + j < 160 * 1 + 16 + 17 * d ∨ 160 * 1 + 16 + 17 * d + 17 ≤ 160 * 0 + j by omega), bs_lvm_in z r fl (by omega) h hj]
    exact congrArg (fun q => bs_lvm B q z r fl (160 * 0 + j)) (by omega)
  · have h2 : ∀ j, j < 160 → A j = bs_lvm B (160 * 0 + 16 + 17 * d) z r fl (160 * 1 + j) := fun j hj => by
      rw [bs_lvm_out B z r fl (show 160 * 1 + j < 160 * 0 + 16 + 17 * d ∨ 160 * 0 + 16 + 17 * d + 17 ≤ 160 * 1 + j by omega)]
      exact h j hj
    rw [bs_lvm_in z r fl (by omega) h2 hj]
    exact congrArg (fun q => bs_lvm (bs_lvm B (160 * 0 + 16 + 17 * d) z r fl) q z r fl (160 * 1 + j)) (by omega)
theorem bs_t_mkb {K : Nat → Nat} (hK : ∀ j, K j < 256) (pl : Nat) (y : bs_N6) {fb fk : Nat → Int32} {n : Nat} (hn : n < 2) (h : ∀ j, j < 160 → fb j = fk (160 * n + j)) : ∀ i, i ≤ 8 → ∀ j, j < 160 → bs_mkb bs_CTf bs_SBf (bs_kw (bs_Kx K 0)) (bs_kw (bs_Kx K 1)) pl (bs_uy y) fb i j = bs_ykb K pl y fk i (160 * n + j)
  | 0, _, j, hj => h j hj
  | i + 1, hi, j, hj => by
    have hx : bs_bit pl i < 2 := Nat.mod_lt _ (by decide)
    unfold bs_mkb bs_ykb
    rw [bs_t_mks hK pl y i, bs_t_z1 hK hx, bs_t_z2 hK hx, bs_t_zf hK hx]
    exact bs_lvl_t hn (by omega) _ _ _ (bs_t_mkb hK pl y hn h i (by omega)) j hj
theorem bs_t_last {A B : Nat → Int32} {n : Nat} (hn : n < 2) (v : Int64) (h : ∀ j, j < 160 → A j = B (160 * n + j)) {j : Nat} (hj : j < 160) : bs_wr A 152 v 8 j = bs_yk9 B v (160 * n + j) := by
  unfold bs_yk9
  have hn2 : n = 0 ∨ n = 1 := by omega
  rcases hn2 with rfl | rfl
  · rw [bs_wr_o _ v (show 160 * 0 + j < 160 * 1 + 152 ∨ 160 * 1 + 152 + 8 ≤ 160 * 0 + j by omega)]
    exact bs_wr_at A 152 v B (160 * 0) h 8 (by decide) j hj
  · exact bs_wr_at A 152 v _ (160 * 1) (fun j hj => by rw [bs_wr_o _ v (show 160 * 1 + j < 160 * 0 + 152 ∨ 160 * 0 + 152 + 8 ≤ 160 * 1 + j by omega)]; exact h j hj) 8 (by decide) j hj
theorem bs_t_root0 {A B : Nat → Int32} (f0 g0 f1 g1 : Int64) (h : ∀ j, j < 160 → A j = B (160 * 0 + j)) {j : Nat} (hj : j < 160) : bs_wr (bs_wr A 0 f0 8) 8 g0 8 j = bs_yk0 B f0 g0 f1 g1 (160 * 0 + j) := by
  unfold bs_yk0
  rw [bs_wr_o _ g1 (show 160 * 0 + j < 160 * 1 + 8 ∨ 160 * 1 + 8 + 8 ≤ 160 * 0 + j by omega), bs_wr_o _ f1 (show 160 * 0 + j < 160 * 1 ∨ 160 * 1 + 8 ≤ 160 * 0 + j by omega)]
  exact bs_wr_at _ 8 g0 _ (160 * 0) (bs_wr_at A 0 f0 B (160 * 0) h 8 (by decide)) 8 (by decide) j hj
theorem bs_t_root1 {A B : Nat → Int32} (f0 g0 f1 g1 : Int64) (h : ∀ j, j < 160 → A j = B (160 * 1 + j)) {j : Nat} (hj : j < 160) : bs_wr (bs_wr A 0 f1 8) 8 g1 8 j = bs_yk0 B f0 g0 f1 g1 (160 * 1 + j) := by
  unfold bs_yk0
  have h2 : ∀ j, j < 160 → A j = bs_wr (bs_wr B (160 * 0) f0 8) (160 * 0 + 8) g0 8 (160 * 1 + j) := fun j hj => by
    rw [bs_wr_o _ g0 (show 160 * 1 + j < 160 * 0 + 8 ∨ 160 * 0 + 8 + 8 ≤ 160 * 1 + j by omega), bs_wr_o _ f0 (show 160 * 1 + j < 160 * 0 ∨ 160 * 0 + 8 ≤ 160 * 1 + j by omega)]
    exact h j hj
  exact bs_wr_at _ 8 g1 _ (160 * 1) (bs_wr_at A 0 f1 _ (160 * 1) h2 8 (by decide)) 8 (by decide) j hj
