/-! bs_: the class's walk is the reference's -/
theorem bs_rd_sh {fb fk : Nat → Int32} {a c : Nat} : ∀ m, (∀ i, i < m → fb (a + i) = fk (c + i)) → bs_rd fb a m = bs_rd fk c m
  | 0, _ => rfl
  | m + 1, h => by
    show j_lshl (bs_rd fb a m) (nI 8) ||| (fb (a + m)).toInt64 = j_lshl (bs_rd fk c m) (nI 8) ||| (fk (c + m)).toInt64
    rw [bs_rd_sh m (fun i hi => h i (by omega)), h m (by omega)]
theorem bs_z_e (t : Bool) : (bs_z t = nI 1) ↔ t = true := by cases t <;> decide +kernel
theorem bs_z_x (a b : Bool) : bs_z a ^^^ bs_z b = bs_z (a ^^ b) := by cases a <;> cases b <;> decide +kernel
theorem bs_a1 (y : Int32) : y &&& nI 1 = bs_z (decide (y &&& nI 1 = nI 1)) := by
  obtain ⟨n, hn, rfl⟩ := wb_of32 y
  rw [xi_and_1]
  have h : n % 2 = 0 ∨ n % 2 = 1 := by omega
  rcases h with h | h <;> rw [h] <;> decide +kernel
theorem bs_wx_K (K : Nat → Nat) {x : Nat} (hx : x < 2) : bs_wx (bs_kw (bs_Kx K 0)) (bs_kw (bs_Kx K 1)) x = bs_kw (bs_Kx K x) := by
  have h : x = 0 ∨ x = 1 := by omega
  rcases h with rfl | rfl <;> rfl
theorem bs_way2 {pl d : Nat} (hp : pl < 256) (hd : d < 8) : (256 + pl) / 2 ^ (7 - d) % 2 = bs_bit pl d := by
  unfold bs_bit
  have h : d = 0 ∨ d = 1 ∨ d = 2 ∨ d = 3 ∨ d = 4 ∨ d = 5 ∨ d = 6 ∨ d = 7 := by omega
  rcases h with rfl | rfl | rfl | rfl | rfl | rfl | rfl | rfl <;> omega
theorem bs_t_nd {K : Nat → Nat} (hK : ∀ j, K j < 256) {fk fb : Nat → Int32} {n pl : Nat} (hn : n < 2) (hpl : pl < 256) (hf : ∀ j, j < 160 → fb j = fk (160 * n + j)) :
    ∀ d, d ≤ 8 → bs_nd bs_CTf bs_SBf (bs_kw (bs_Kx K 0)) (bs_kw (bs_Kx K 1)) fb (nI n) d ((256 + pl) / 2 ^ (8 - d)) =
      ((bs_wk K fk (160 * n) pl (decide (n = 1)) d).1, (bs_wk K fk (160 * n) pl (decide (n = 1)) d).2.1, bs_z (bs_wk K fk (160 * n) pl (decide (n = 1)) d).2.2)
  | 0, _ => by
    show (bs_rd fb 0 8, bs_rd fb 8 8, nI n) = (bs_rd fk (160 * n) 8, bs_rd fk (160 * n + 8) 8, bs_z (decide (n = 1)))
    have r1 : bs_rd fb 0 8 = bs_rd fk (160 * n) 8 := bs_rd_sh 8 (fun i hi => by rw [hf _ (by omega)]; exact congrArg fk (by omega))
    have r2 : bs_rd fb 8 8 = bs_rd fk (160 * n + 8) 8 := bs_rd_sh 8 (fun i hi => by rw [hf _ (by omega)]; exact congrArg fk (by omega))
    rw [r1, r2]
    have h : n = 0 ∨ n = 1 := by omega
    rcases h with rfl | rfl <;> rfl
  | d + 1, hd => by
    have ih := bs_t_nd hK hn hpl hf d (by omega)
    have hx : bs_bit pl d < 2 := Nat.mod_lt _ (by decide)
    have hKx : ∀ j, bs_Kx K (bs_bit pl d) j < 256 := fun j => hK _
    have e1 : (256 + pl) / 2 ^ (8 - (d + 1)) / 2 = (256 + pl) / 2 ^ (8 - d) := by
      rw [show 8 - (d + 1) = 7 - d by omega]
      exact (bs_way hpl (by omega)).1
    have e2 : (256 + pl) / 2 ^ (8 - (d + 1)) % 2 = bs_bit pl d := by
      rw [show 8 - (d + 1) = 7 - d by omega]
      exact bs_way2 hpl (by omega)
    have r1 : bs_rd fb (16 + 17 * d) 8 = bs_rd fk (160 * n + 16 + 17 * d) 8 := bs_rd_sh 8 (fun i hi => by rw [hf _ (by omega)]; exact congrArg fk (by omega))
    have r2 : bs_rd fb (16 + 17 * d + 8) 8 = bs_rd fk (160 * n + 16 + 17 * d + 8) 8 := bs_rd_sh 8 (fun i hi => by rw [hf _ (by omega)]; exact congrArg fk (by omega))
    have r3 : fb (16 + 17 * d + 16) = fk (160 * n + 16 + 17 * d + 16) := by rw [hf _ (by omega)]; exact congrArg fk (by omega)
    unfold bs_nd bs_wk
    rw [e1, e2, ih, bs_wx_K K hx]
    generalize bs_wk K fk (160 * n) pl (decide (n = 1)) d = v
    obtain ⟨F, G, t⟩ := v
    generalize bs_bit pl d = x at hKx hx ⊢
    show (bs_s1 _ _ _ fb d F G (bs_z t), bs_s2 _ _ _ fb d F G (bs_z t), bs_s3 _ _ _ fb d x F G (bs_z t)) = _
    unfold bs_s1 bs_s2 bs_s3
    rw [bs_t_h1 hKx, bs_t_h2 hKx, bs_t_hb hKx, r1, r2, r3]
    cases t
    · have h0 : ¬ bs_z false = nI 1 := by decide +kernel
      rw [if_neg h0, if_neg h0, if_neg h0]
      show (_, _, _) = (_, _, bs_z (_ ^^ (false && _)))
      rw [Bool.false_and, Bool.xor_false]
      rfl
    · have h0 : bs_z true = nI 1 := rfl
      rw [if_pos h0, if_pos h0, if_pos h0, bs_a1, bs_z_x]
      rfl
/-- choices and shares of both -/
theorem bs_t_cb {K : Nat → Nat} (hK : ∀ j, K j < 256) {fk fb : Nat → Int32} {n pl : Nat} (hn : n < 2) (hpl : pl < 256) (hf : ∀ j, j < 160 → fb j = fk (160 * n + j)) : bs_cb bs_CTf bs_SBf (bs_kw (bs_Kx K 0)) (bs_kw (bs_Kx K 1)) fb (nI n) pl = bs_cm K fk n pl := by
  have h : bs_nd bs_CTf bs_SBf (bs_kw (bs_Kx K 0)) (bs_kw (bs_Kx K 1)) fb (nI n) 8 (256 + pl) = ((bs_w8 K fk n pl).1, (bs_w8 K fk n pl).2.1, bs_z (bs_w8 K fk n pl).2.2) := by
    have h := bs_t_nd hK hn hpl hf 8 (by decide)
    rw [show (256 + pl) / 2 ^ (8 - 8) = 256 + pl from Nat.div_one _] at h
    exact h
  unfold bs_cb bs_cm
  rw [h]
  show decide (bs_z (bs_w8 K fk n pl).2.2 = nI 1) = _
  cases (bs_w8 K fk n pl).2.2 <;> decide +kernel
theorem bs_t_sh {K : Nat → Nat} (hK : ∀ j, K j < 256) {fk fb : Nat → Int32} {n pl : Nat} (hn : n < 2) (hpl : pl < 256) (hf : ∀ j, j < 160 → fb j = fk (160 * n + j)) : bs_sh bs_CTf bs_SBf (bs_kw (bs_Kx K 0)) (bs_kw (bs_Kx K 1)) fb (nI n) pl = bs_shm K fk n pl := by
  have h : bs_nd bs_CTf bs_SBf (bs_kw (bs_Kx K 0)) (bs_kw (bs_Kx K 1)) fb (nI n) 8 (256 + pl) = ((bs_w8 K fk n pl).1, (bs_w8 K fk n pl).2.1, bs_z (bs_w8 K fk n pl).2.2) := by
    have h := bs_t_nd hK hn hpl hf 8 (by decide)
    rw [show (256 + pl) / 2 ^ (8 - 8) = 256 + pl from Nat.div_one _] at h
    exact h
  have r1 : bs_rd fb 152 8 = bs_rd fk (160 * n + 152) 8 := bs_rd_sh 8 (fun i hi => by rw [hf _ (by omega)]; exact congrArg fk (by omega))
  unfold bs_sh bs_shm
  rw [h, r1]
  show (if bs_z (bs_w8 K fk n pl).2.2 = nI 1 then _ else _) = _
  cases (bs_w8 K fk n pl).2.2
  · rw [if_neg (by decide +kernel)]
    rfl
  · rw [if_pos rfl]
    rfl
