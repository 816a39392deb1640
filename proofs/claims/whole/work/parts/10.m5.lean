/-! bs_: the bytes of a long, from the upper one -/
def bs_lb (x : Int64) (k : Nat) : Nat := x.toBitVec.toNat / 2 ^ (56 - 8 * k) % 256
theorem bs_lb_lt (x : Int64) (k : Nat) : bs_lb x k < 256 := Nat.mod_lt _ (by decide)
theorem bs_nI_255 (n : Nat) : nI n &&& nI 255 = nI (n % 256) := by
  rw [pk_and (nI n) 8 (by decide)]
  show nI ((BitVec.ofNat 32 n).toNat % 256) = _
  rw [BitVec.toNat_ofNat, Nat.mod_mod_of_dvd _ (by decide)]
/-- (int) (v >>> (56 - 8 * k)) & 0xFF -/
theorem bs_lb_c (x : Int64) {k : Nat} (hk : k < 8) : (j_lushr x (nI (56 - 8 * k))).toInt32 &&& nI 255 = nI (bs_lb x k) := by
  obtain ⟨n, hn, rfl⟩ := wb_of x
  have e := wb_shr hn (show 56 - 8 * k < 64 by omega)
  show ((lN n).toUInt64 >>> ((nI (56 - 8 * k)).toInt64.toUInt64 &&& Int64.toUInt64 63)).toInt64.toInt32 &&& nI 255 = _
  rw [e, lN_i, bs_nI_255]
  unfold bs_lb
  rw [wb_tn hn]
theorem bs_sshr (x : Int64) {s : Nat} (hs : s ≤ 56) : j_lshr x (nI s) &&& 255 = lN (x.toBitVec.toNat / 2 ^ s % 256) := by
  apply wb_inj
  have h64 : s < 64 := by omega
  have e0 : ((nI s).toInt64 &&& 63) = lN s := wb_c s h64
  show (x >>> ((nI s).toInt64 &&& 63) &&& 255).toBitVec = _
  rw [e0, Int64.toBitVec_and, Int64.toBitVec_shiftRight, wb_tb, wb_tb, wb_sm s h64, BitVec.sshiftRight_eq', BitVec.toNat_ofNat, Nat.mod_eq_of_lt (show s < 2 ^ 64 by omega)]
  apply BitVec.eq_of_getLsbD_eq
  intro i hi
  rw [BitVec.getLsbD_and, BitVec.getLsbD_sshiftRight]
  by_cases h8 : i < 8
  · have h1 : (255 : Int64).toBitVec.getLsbD i = true := (by decide +kernel : ∀ i, i < 8 → (255 : Int64).toBitVec.getLsbD i = true) i h8
    rw [h1, Bool.and_true, BitVec.getLsbD_ofNat, show (256 : Nat) = 2 ^ 8 from rfl, Nat.testBit_mod_two_pow, Nat.testBit_div_two_pow]
    have h2 : s + i < 64 := by omega
    simp [hi, h2, h8, BitVec.getLsbD, Nat.add_comm]
  · have h1 : (255 : Int64).toBitVec.getLsbD i = false := (by decide +kernel : ∀ i, i < 64 → ¬ i < 8 → (255 : Int64).toBitVec.getLsbD i = false) i hi h8
    rw [h1, Bool.and_false, BitVec.getLsbD_ofNat, show (256 : Nat) = 2 ^ 8 from rfl, Nat.testBit_mod_two_pow]
    simp [h8]
/-- (int) (v >> 56 - 8 * k & 255L) -/
theorem bs_lb_m (x : Int64) {k : Nat} (hk : k < 8) : (j_lshr x (nI (56 - 8 * k)) &&& 255).toInt32 = nI (bs_lb x k) := by
  rw [bs_sshr x (by omega), lN_i]
  rfl
/-- eight bytes read: v << 8 | f[at + n] -/
def bs_rd (f : Nat → Int32) (a : Nat) : Nat → Int64
  | 0 => 0
  | n + 1 => j_lshl (bs_rd f a n) (nI 8) ||| (f (a + n)).toInt64
def bs_rdN (b : Nat → Nat) : Nat → Nat
  | 0 => 0
  | n + 1 => bs_rdN b n * 256 + b n
theorem bs_rdN_lt (b : Nat → Nat) (h : ∀ i, b i < 256) : ∀ n, n ≤ 8 → bs_rdN b n < 256 ^ n
  | 0, _ => Nat.zero_lt_one
  | n + 1, hn => by
    have h1 := bs_rdN_lt b h n (by omega)
    have h2 := h n
    unfold bs_rdN
    rw [Nat.pow_succ]
    omega
theorem bs_rd_nat (f : Nat → Int32) (a : Nat) (b : Nat → Nat) (hb : ∀ i, b i < 256) : ∀ n, n ≤ 8 → (∀ i, i < n → f (a + i) = nI (b i)) → bs_rd f a n = lN (bs_rdN b n)
  | 0, _, _ => rfl
  | n + 1, hn, hf => by
    have ih := bs_rd_nat f a b hb n (by omega) (fun i hi => hf i (by omega))
    have h1 := bs_rdN_lt b hb n (by omega)
    have h2 := hb n
    have h3 : bs_rdN b n < 2 ^ 56 := Nat.lt_of_lt_of_le h1 (by
      have : 256 ^ n ≤ 256 ^ 7 := Nat.pow_le_pow_right (by decide) (by omega)
      exact Nat.le_trans this (by decide))
    unfold bs_rd
    rw [ih, hf n (by omega), nI_l (by omega)]
    show lN (bs_rdN b n) <<< ((nI 8).toInt64 &&& 63) ||| lN (b n) = _
    rw [wb_shl _ (by decide), g_or (k := 8) (p := 2 ^ 8) rfl (by omega) (by omega)]
    rfl
/-- what was written is read back -/
theorem bs_rd_lb (f : Nat → Int32) (a : Nat) (v : Int64) (hf : ∀ i, i < 8 → f (a + i) = nI (bs_lb v i)) : bs_rd f a 8 = v := by
  rw [bs_rd_nat f a (bs_lb v) (bs_lb_lt v) 8 (by decide) hf]
  obtain ⟨n, hn, rfl⟩ := wb_of v
  refine congrArg lN ?_
  simp only [bs_rdN, bs_lb, wb_tn hn]
  omega
/-- eight bytes written -/
def bs_wr (f : Nat → Int32) (a : Nat) (v : Int64) (n : Nat) : Nat → Int32 := fun j => if a ≤ j ∧ j < a + n then nI (bs_lb v (j - a)) else f j
theorem bs_wr_0 (f : Nat → Int32) (a : Nat) (v : Int64) : bs_wr f a v 0 = f := by
  funext j
  unfold bs_wr
  rw [if_neg (by omega)]
theorem bs_wr_s (f : Nat → Int32) (a : Nat) (v : Int64) (n : Nat) : upd (bs_wr f a v n) (a + n) (nI (bs_lb v n)) = bs_wr f a v (n + 1) := by
  funext j
  unfold bs_wr upd
  by_cases h : j = a + n
  · subst h
    rw [if_pos rfl, if_pos (by omega), Nat.add_sub_cancel_left]
  · rw [if_neg h]
    dsimp only
    by_cases h2 : a ≤ j ∧ j < a + n
    · rw [if_pos h2, if_pos (by omega)]
    · rw [if_neg h2, if_neg (by omega)]
