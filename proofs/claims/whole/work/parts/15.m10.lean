/-! bs_: the digest's longs -/
theorem bs_L61 : (2305843009213693951 : Int64) = lN (2 ^ 61 - 1) := by decide +kernel
theorem bs_L40 : (1099511627775 : Int64) = lN (2 ^ 40 - 1) := by decide +kernel
theorem bs_L32 : (4294967295 : Int64) = lN (2 ^ 32 - 1) := by decide +kernel
theorem bs_L21 : (2097151 : Int64) = lN (2 ^ 21 - 1) := by decide +kernel
theorem bs_LF : (1000003 : Int64) = lN 1000003 := by decide +kernel
theorem bs_jush {n k : Nat} (hn : n < 2 ^ 64) (hk : k < 64) : j_lushr (lN n) (nI k) = lN (n / 2 ^ k) := wb_shr hn hk
theorem bs_jshl (n : Nat) {k : Nat} (hk : k < 64) : j_lshl (lN n) (nI k) = lN (n * 2 ^ k) := wb_shl n hk
theorem bs_rd1 {n : Nat} (h : n < 2 ^ 62) : (lN n &&& 2305843009213693951) + j_lushr (lN n) (nI 61) = lN (n % 2305843009213693952 + n / 2305843009213693952) := by
  rw [bs_L61, wb_mask (by omega) (by decide), bs_jush (by omega) (by decide), lN_add]
theorem bs_tf1 {s : Nat} (h : s < 2 ^ 64) : j_lushr (lN s) (nI 40) * 1000003 = lN (s / 1099511627776 * 1000003) := by
  rw [bs_jush h (by decide), bs_LF, lN_mul]
theorem bs_tf2 {s : Nat} (h : s < 2 ^ 64) : (lN s &&& 1099511627775) * 1000003 = lN (s % 1099511627776 * 1000003) := by
  rw [bs_L40, wb_mask h (by decide), bs_LF, lN_mul]
theorem bs_tf3 {a u w : Nat} (h : u < 2 ^ 64) : ((lN a + j_lushr (lN u) (nI 21)) + j_lshl (lN u &&& 2097151) (nI 40)) + lN w = lN (a + u / 2097152 + u % 2097152 * 1099511627776 + w) := by
  rw [bs_jush h (by decide), bs_L21, wb_mask h (by decide), bs_jshl _ (by decide), lN_add, lN_add, lN_add]
/-- a long as a number -/
def bs_u (x : Int64) : Nat := x.toBitVec.toNat
theorem bs_u_lt (x : Int64) : bs_u x < 2 ^ 64 := x.toBitVec.isLt
theorem bs_u_eq (x : Int64) : x = lN (bs_u x) := by
  apply wb_inj
  rw [wb_tb]
  unfold bs_u
  simp
theorem bs_lo32 (x : Int64) : x &&& 4294967295 = lN (bs_u x % 4294967296) := by
  have h := bs_u_eq x
  have h2 := bs_u_lt x
  generalize bs_u x = n at h h2
  rw [h, bs_L32, wb_mask h2 (by decide)]
theorem bs_hi32 (x : Int64) : j_lushr x (nI 32) = lN (bs_u x / 4294967296) := by
  have h := bs_u_eq x
  have h2 := bs_u_lt x
  generalize bs_u x = n at h h2
  rw [h, bs_jush h2 (by decide)]
/-- the digest behind i places, from the last one down -/
def bs_dg (f : Nat → Int64) : Nat → Nat
  | 0 => 0
  | i + 1 => bs_fur (bs_fur (bs_dg f i) (bs_u (f (255 - i)) % 4294967296)) (bs_u (f (255 - i)) / 4294967296)
theorem bs_dg_lt (f : Nat → Int64) : ∀ i, bs_dg f i < 2305843009213693951
  | 0 => by unfold bs_dg; decide
  | i + 1 => bs_fur_lt _ _
/-- how many places differ -/
def bs_chg (f g : Nat → Int64) : Nat → Nat
  | 0 => 0
  | n + 1 => if f n = g n then bs_chg f g n else bs_chg f g n + 1
theorem bs_chg_le (f g : Nat → Int64) : ∀ n, bs_chg f g n ≤ n
  | 0 => Nat.le_refl 0
  | n + 1 => by
    have h := bs_chg_le f g n
    unfold bs_chg
    split <;> omega
/-- the oldest version that is held -/
theorem bs_old {v : Nat} (hv : v < 2 ^ 30) : (if nI 0 < nI v - nI 9 + nI 1 then nI v - nI 9 + nI 1 else nI 0) = nI (v - 8) := by
  rcases Nat.lt_or_ge v 9 with h | h
  · have e : (nI v - nI 9 + nI 1).toInt = (v : Int) - 8 := by
      rw [Int32.toInt_add, pk_sub_toInt (by omega) (by decide), nI_toInt (by decide)]
      rw [Int.bmod_eq_of_le (by omega) (by omega)]
      omega
    have n0 : ¬ nI 0 < nI v - nI 9 + nI 1 := by
      rw [Int32.lt_iff_toInt_lt, e, nI_toInt (by decide)]
      omega
    rw [if_neg n0, show v - 8 = 0 by omega]
  · have e : nI v - nI 9 + nI 1 = nI (v - 8) := by
      rw [pk_sub h, nI_add]
      exact congrArg nI (by omega)
    rw [e, if_pos (nI_lt (by omega) (by omega))]
