/-! bs_: the number of the chosen; the making of keys, both ways -/
theorem bs_t_8 {K : Nat → Nat} (hK : ∀ j, K j < 256) {fk fb : Nat → Int32} {n pl : Nat} (hn : n < 2) (hpl : pl < 256) (hf : ∀ j, j < 160 → fb j = fk (160 * n + j)) : bs_nd bs_CTf bs_SBf (bs_kw (bs_Kx K 0)) (bs_kw (bs_Kx K 1)) fb (nI n) 8 (256 + pl) = ((bs_w8 K fk n pl).1, (bs_w8 K fk n pl).2.1, bs_z (bs_w8 K fk n pl).2.2) := by
  have h := bs_t_nd hK hn hpl hf 8 (by decide)
  rw [show (256 + pl) / 2 ^ (8 - 8) = 256 + pl from Nat.div_one _] at h
  exact h
theorem bs_t_cs {K : Nat → Nat} (hK : ∀ j, K j < 256) {fk fb : Nat → Int32} {n : Nat} (hn : n < 2) (hf : ∀ j, j < 160 → fb j = fk (160 * n + j)) : ∀ m, m ≤ 256 → bs_cs bs_CTf bs_SBf (bs_kw (bs_Kx K 0)) (bs_kw (bs_Kx K 1)) fb (nI n) m = nI (bs_cn (bs_cm K fk n) m)
  | 0, _ => rfl
  | m + 1, hm => by
    show bs_cs bs_CTf bs_SBf (bs_kw (bs_Kx K 0)) (bs_kw (bs_Kx K 1)) fb (nI n) m + (bs_nd bs_CTf bs_SBf (bs_kw (bs_Kx K 0)) (bs_kw (bs_Kx K 1)) fb (nI n) 8 (256 + m)).2.2 = _
    rw [bs_t_cs hK hn hf m (by omega), bs_t_8 hK hn (by omega) hf]
    show nI (bs_cn (bs_cm K fk n) m) + bs_z (bs_cm K fk n m) = _
    cases h : bs_cm K fk n m
    · rw [← bs_cn_n h]
      exact nI_add _ 0
    · rw [← bs_cn_y h]
      exact nI_add _ 1
def bs_uy (y : bs_N6) : bs_M6 := (y.1, y.2.1, y.2.2.1, y.2.2.2.1, bs_z y.2.2.2.2.1, bs_z y.2.2.2.2.2)
theorem bs_t_zf0 (p q r s : Bool) : ((((nI 1 <<< (nI 0 &&& 31)) ^^^ (bs_z p <<< (nI 1 &&& 31))) ^^^ (bs_z q <<< (nI 0 &&& 31))) ^^^ (bs_z r <<< (nI 1 &&& 31))) ^^^ (bs_z s <<< (nI 0 &&& 31)) = bs_fl1 ((true ^^ q) ^^ s) 0 ||| bs_fl1 (p ^^ r) 1 := by
  cases p <;> cases q <;> cases r <;> cases s <;> decide +kernel
theorem bs_t_zf1 (p q r s : Bool) : ((((nI 1 <<< (nI 1 &&& 31)) ^^^ (bs_z p <<< (nI 0 &&& 31))) ^^^ (bs_z q <<< (nI 1 &&& 31))) ^^^ (bs_z r <<< (nI 0 &&& 31))) ^^^ (bs_z s <<< (nI 1 &&& 31)) = bs_fl1 ((true ^^ q) ^^ s) 1 ||| bs_fl1 (p ^^ r) 0 := by
  cases p <;> cases q <;> cases r <;> cases s <;> decide +kernel
theorem bs_t_gb0 (p q : Bool) : (bs_fl1 p 0 ||| bs_fl1 q 1) >>> (nI 0 &&& 31) &&& nI 1 = bs_z p := by cases p <;> cases q <;> decide +kernel
theorem bs_t_gb1 (p q : Bool) : (bs_fl1 p 1 ||| bs_fl1 q 0) >>> (nI 1 &&& 31) &&& nI 1 = bs_z p := by cases p <;> cases q <;> decide +kernel
theorem bs_t_z1 {K : Nat → Nat} (hK : ∀ j, K j < 256) {x : Nat} (hx : x < 2) (y : bs_N6) : bs_z1 bs_CTf bs_SBf (bs_kw (bs_Kx K 0)) (bs_kw (bs_Kx K 1)) x (bs_uy y) = bs_y1 K x y := by
  have h1 : ∀ j, bs_Kx K (1 - x) j < 256 := fun j => hK _
  unfold bs_z1 bs_y1
  rw [bs_wx_K K (show 1 - x < 2 by omega), bs_t_h1 h1, bs_t_h1 h1, Int64.zero_xor]
  rfl
theorem bs_t_z2 {K : Nat → Nat} (hK : ∀ j, K j < 256) {x : Nat} (hx : x < 2) (y : bs_N6) : bs_z2 bs_CTf bs_SBf (bs_kw (bs_Kx K 0)) (bs_kw (bs_Kx K 1)) x (bs_uy y) = bs_y2 K x y := by
  have h1 : ∀ j, bs_Kx K (1 - x) j < 256 := fun j => hK _
  unfold bs_z2 bs_y2
  rw [bs_wx_K K (show 1 - x < 2 by omega), bs_t_h2 h1, bs_t_h2 h1, Int64.zero_xor]
  rfl
theorem bs_t_zf {K : Nat → Nat} (hK : ∀ j, K j < 256) {x : Nat} (hx : x < 2) (y : bs_N6) : bs_zf bs_CTf bs_SBf (bs_kw (bs_Kx K 0)) (bs_kw (bs_Kx K 1)) x (bs_uy y) = bs_yf K x y := by
  have h1 : ∀ j, bs_Kx K (1 - x) j < 256 := fun j => hK _
  have h2 : ∀ j, bs_Kx K x j < 256 := fun j => hK _
  unfold bs_zf bs_yf bs_yw bs_yo
  rw [bs_wx_K K (show 1 - x < 2 by omega), bs_wx_K K hx, bs_t_hb h1, bs_t_hb h2, bs_t_hb h1, bs_t_hb h2]
  have h : x = 0 ∨ x = 1 := by omega
  rcases h with rfl | rfl
  · exact bs_t_zf0 _ _ _ _
  · exact bs_t_zf1 _ _ _ _
theorem bs_t_go (t : Bool) (a z : Int64) : bs_go (bs_z t) a z = bs_gm t a z := by
  unfold bs_go bs_gm
  cases t
  · rw [if_neg (by decide +kernel)]
    rfl
  · rw [if_pos rfl]
    rfl
theorem bs_t_gb {x : Nat} (hx : x < 2) (t m p q : Bool) : bs_gb (bs_z t) (bs_z m) (bs_fl1 p x ||| bs_fl1 q (1 - x)) x = bs_z (m ^^ (t && p)) := by
  have e : (bs_fl1 p x ||| bs_fl1 q (1 - x)) >>> (nI x &&& 31) &&& nI 1 = bs_z p := by
    have h : x = 0 ∨ x = 1 := by omega
    rcases h with rfl | rfl
    · exact bs_t_gb0 p q
    · exact bs_t_gb1 p q
  unfold bs_gb
  rw [e]
  cases t
  · rw [if_neg (by decide +kernel), Bool.false_and, Bool.xor_false]
  · rw [if_pos (show bs_z true = nI 1 from rfl), Bool.true_and, bs_z_x]
theorem bs_t_mst {K : Nat → Nat} (hK : ∀ j, K j < 256) {x : Nat} (hx : x < 2) (y : bs_N6) : bs_mst bs_CTf bs_SBf (bs_kw (bs_Kx K 0)) (bs_kw (bs_Kx K 1)) x (bs_uy y) = bs_uy (bs_yst K x y) := by
  have h2 : ∀ j, bs_Kx K x j < 256 := fun j => hK _
  unfold bs_mst
  rw [bs_t_z1 hK hx, bs_t_z2 hK hx, bs_t_zf hK hx, bs_wx_K K hx, bs_t_h1 h2, bs_t_h1 h2, bs_t_h2 h2, bs_t_h2 h2, bs_t_hb h2, bs_t_hb h2]
  show (bs_go (bs_z y.2.2.2.2.1) _ _, bs_go (bs_z y.2.2.2.2.2) _ _, bs_go (bs_z y.2.2.2.2.1) _ _, bs_go (bs_z y.2.2.2.2.2) _ _, bs_gb (bs_z y.2.2.2.2.1) (bs_z _) (bs_fl1 (bs_yw K x y) x ||| bs_fl1 (bs_yo K x y) (1 - x)) x, bs_gb (bs_z y.2.2.2.2.2) (bs_z _) (bs_fl1 (bs_yw K x y) x ||| bs_fl1 (bs_yo K x y) (1 - x)) x) = _
  rw [bs_t_go, bs_t_go, bs_t_go, bs_t_go, bs_t_gb hx, bs_t_gb hx]
  rfl
theorem bs_t_mks {K : Nat → Nat} (hK : ∀ j, K j < 256) (pl : Nat) (y : bs_N6) : ∀ i, bs_mks bs_CTf bs_SBf (bs_kw (bs_Kx K 0)) (bs_kw (bs_Kx K 1)) pl (bs_uy y) i = bs_uy (bs_ymk K pl y i)
  | 0 => rfl
  | i + 1 => by
    show bs_mst _ _ _ _ (bs_bit pl i) (bs_mks bs_CTf bs_SBf (bs_kw (bs_Kx K 0)) (bs_kw (bs_Kx K 1)) pl (bs_uy y) i) = _
    rw [bs_t_mks hK pl y i, bs_t_mst hK (show bs_bit pl i < 2 from Nat.mod_lt _ (by decide))]
    rfl
/-- a key's bytes among all, level by level: key n of the reference is the class's key -/
theorem bs_wr_at (f : Nat → Int32) (a : Nat) (v : Int64) (g : Nat → Int32) (c : Nat) {L : Nat} (h : ∀ j, j < L → f j = g (c + j)) : ∀ m, a + m ≤ L → ∀ j, j < L → bs_wr f a v m j = bs_wr g (c + a) v m (c + j)
  | 0, _, j, hj => by rw [bs_wr_0, bs_wr_0]; exact h j hj
  | m + 1, hm, j, hj => by
    rw [← bs_wr_s, ← bs_wr_s]
    unfold upd
    by_cases h2 : j = a + m
    · rw [if_pos h2, if_pos (by omega)]
    · rw [if_neg h2, if_neg (by omega)]
      exact bs_wr_at f a v g c h m (by omega) j hj
