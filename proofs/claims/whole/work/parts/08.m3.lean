/-! bs_: the bytes of an int; what the class computes in the cipher, in its own operations -/
def bs_by (x : Int32) (k : Nat) : Nat := x.toBitVec.toNat / 2 ^ k % 256
theorem bs_by_lt (x : Int32) (k : Nat) : bs_by x k < 256 := Nat.mod_lt _ (by decide)
theorem bs_ushr_tn (x y : Int32) (k : Nat) (hs : ((y.toUInt32 &&& Int32.toUInt32 31).toBitVec % 32).toNat = k) : (j_ushr x y).toBitVec.toNat = x.toBitVec.toNat / 2 ^ k := pk_ushr x y k hs
theorem bs_by24 (x : Int32) : j_ushr x (nI 24) = nI (bs_by x 24) := by
  have h := bs_ushr_tn x (nI 24) 24 (by decide)
  have hb : x.toBitVec.toNat < 2 ^ 32 := x.toBitVec.isLt
  have e : bs_by x 24 = x.toBitVec.toNat / 2 ^ 24 := by unfold bs_by; omega
  apply Int32.toBitVec_inj.mp
  apply BitVec.eq_of_toNat_eq
  rw [h, pk_tn (Nat.lt_trans (bs_by_lt x 24) (by decide)), e]
theorem bs_by_and (x : Int32) (k : Nat) (y : Int32) (h : y.toBitVec.toNat = x.toBitVec.toNat / 2 ^ k) : y &&& nI 255 = nI (bs_by x k) := by
  rw [pk_and y 8 (by decide), h]
  rfl
theorem bs_by16 (x : Int32) : (j_ushr x (nI 16)) &&& nI 255 = nI (bs_by x 16) := bs_by_and x 16 _ (bs_ushr_tn x (nI 16) 16 (by decide))
theorem bs_by8 (x : Int32) : (j_ushr x (nI 8)) &&& nI 255 = nI (bs_by x 8) := bs_by_and x 8 _ (bs_ushr_tn x (nI 8) 8 (by decide))
theorem bs_by0 (x : Int32) : x &&& nI 255 = nI (bs_by x 0) := bs_by_and x 0 x (by rw [Nat.pow_zero, Nat.div_one])
/-- mixed(p, q, r, s) with the table C -/
def bs_mix (C : Nat → Int32) (p q r s : Int32) : Int32 :=
  C (bs_by p 24) ^^^ (j_ushr (C (bs_by q 16)) (nI 8) ||| C (bs_by q 16) <<< (nI 24 &&& 31)) ^^^ (j_ushr (C (bs_by r 8)) (nI 16) ||| C (bs_by r 8) <<< (nI 16 &&& 31)) ^^^ (j_ushr (C (bs_by s 0)) (nI 24) ||| C (bs_by s 0) <<< (nI 8 &&& 31))
/-- substituted(p, q, r, s) with the table S -/
def bs_sbt (S : Nat → Int32) (p q r s : Int32) : Int32 :=
  S (bs_by p 24) <<< (nI 24 &&& 31) ||| S (bs_by q 16) <<< (nI 16 &&& 31) ||| S (bs_by r 8) <<< (nI 8 &&& 31) ||| S (bs_by s 0)
/-- joined(upper, lower) -/
def bs_join (u w : Int32) : Int64 := j_lshl u.toInt64 (nI 32) ||| (w.toInt64 &&& 4294967295)
/-- timesX(b), of a byte -/
theorem bs_tXj : ∀ n, n < 256 → (if nI n &&& nI 128 = 0 then nI n <<< (nI 1 &&& 31) else nI n <<< (nI 1 &&& 31) ^^^ nI 283) = nI (bs_tX n) := bs_dec (by decide +kernel)
