/-! bs_: words of four bytes under the class's operations -/
theorem bs_by_w4 {a b c d : Nat} (ha : a < 256) (hb : b < 256) (hc : c < 256) (hd : d < 256) : bs_by (nI (bs_w4 a b c d)) 24 = a ∧ bs_by (nI (bs_w4 a b c d)) 16 = b ∧ bs_by (nI (bs_w4 a b c d)) 8 = c ∧ bs_by (nI (bs_w4 a b c d)) 0 = d := by
  unfold bs_by
  rw [pk_tn (bs_w4_lt ha hb hc hd)]
  unfold bs_w4
  refine ⟨?_, ?_, ?_, ?_⟩ <;> omega
theorem bs_nI_or (a b : Nat) : nI a ||| nI b = nI (a ||| b) := by
  apply Int32.toBitVec_inj.1
  show BitVec.ofNat 32 a ||| BitVec.ofNat 32 b = BitVec.ofNat 32 (a ||| b)
  apply BitVec.eq_of_getLsbD_eq
  intro i hi
  simp [hi]
theorem bs_nI_mod (n : Nat) : nI (n % 2 ^ 32) = nI n := by
  apply Int32.toBitVec_inj.1
  show BitVec.ofNat 32 (n % 2 ^ 32) = BitVec.ofNat 32 n
  apply BitVec.eq_of_toNat_eq
  rw [BitVec.toNat_ofNat, BitVec.toNat_ofNat, Nat.mod_mod]
theorem bs_shl (n k : Nat) (hk : k < 32) : nI n <<< (nI k &&& 31) = nI (n * 2 ^ k) := by
  apply Int32.toBitVec_inj.1
  apply BitVec.eq_of_toNat_eq
  have hs : ((nI k &&& 31).toBitVec.smod 32).toNat = k := (by decide +kernel : ∀ n, n < 32 → ((nI n &&& 31).toBitVec.smod 32).toNat = n) k hk
  rw [pk_shl (nI n) (nI k &&& 31) k hs]
  show (BitVec.ofNat 32 n).toNat * 2 ^ k % 2 ^ 32 = (BitVec.ofNat 32 (n * 2 ^ k)).toNat
  rw [BitVec.toNat_ofNat, BitVec.toNat_ofNat, Nat.mod_mul_mod]
theorem bs_ushr {n k : Nat} (hn : n < 2 ^ 32) (hk : k < 32) : j_ushr (nI n) (nI k) = nI (n / 2 ^ k) :=
  pk_ushrN hn (nI k) k ((by decide +kernel : ∀ n, n < 32 → (((nI n).toUInt32 &&& Int32.toUInt32 31).toBitVec % 32).toNat = n) k hk)
/-- a word turned by one, two, three bytes -/
theorem bs_rot8 {a b c d : Nat} (ha : a < 256) (hb : b < 256) (hc : c < 256) (hd : d < 256) : (j_ushr (nI (bs_w4 a b c d)) (nI 8) ||| nI (bs_w4 a b c d) <<< (nI 24 &&& 31)) = nI (bs_w4 d a b c) := by
  rw [bs_ushr (bs_w4_lt ha hb hc hd) (by decide), bs_shl _ 24 (by decide), ← bs_nI_mod (bs_w4 a b c d * 2 ^ 24), bs_nI_or]
  have e1 : bs_w4 a b c d / 2 ^ 8 = 2 ^ 16 * a + (2 ^ 8 * b + c) := by unfold bs_w4; omega
  have e2 : bs_w4 a b c d * 2 ^ 24 % 2 ^ 32 = 2 ^ 24 * d := by unfold bs_w4; omega
  rw [e1, e2, Nat.or_comm, bs_or_cat 24 (by omega)]
  rfl
theorem bs_rot16 {a b c d : Nat} (ha : a < 256) (hb : b < 256) (hc : c < 256) (hd : d < 256) : (j_ushr (nI (bs_w4 a b c d)) (nI 16) ||| nI (bs_w4 a b c d) <<< (nI 16 &&& 31)) = nI (bs_w4 c d a b) := by
  rw [bs_ushr (bs_w4_lt ha hb hc hd) (by decide), bs_shl _ 16 (by decide), ← bs_nI_mod (bs_w4 a b c d * 2 ^ 16), bs_nI_or]
  have e1 : bs_w4 a b c d / 2 ^ 16 = 2 ^ 8 * a + b := by unfold bs_w4; omega
  have e2 : bs_w4 a b c d * 2 ^ 16 % 2 ^ 32 = 2 ^ 16 * (2 ^ 8 * c + d) := by unfold bs_w4; omega
  rw [e1, e2, Nat.or_comm, bs_or_cat 16 (by omega)]
  refine congrArg nI ?_
  unfold bs_w4
  omega
theorem bs_rot24 {a b c d : Nat} (ha : a < 256) (hb : b < 256) (hc : c < 256) (hd : d < 256) : (j_ushr (nI (bs_w4 a b c d)) (nI 24) ||| nI (bs_w4 a b c d) <<< (nI 8 &&& 31)) = nI (bs_w4 b c d a) := by
  rw [bs_ushr (bs_w4_lt ha hb hc hd) (by decide), bs_shl _ 8 (by decide), ← bs_nI_mod (bs_w4 a b c d * 2 ^ 8), bs_nI_or]
  have e1 : bs_w4 a b c d / 2 ^ 24 = a := by unfold bs_w4; omega
  have e2 : bs_w4 a b c d * 2 ^ 8 % 2 ^ 32 = 2 ^ 8 * (2 ^ 16 * b + (2 ^ 8 * c + d)) := by unfold bs_w4; omega
  rw [e1, e2, Nat.or_comm, bs_or_cat 8 (by omega)]
  refine congrArg nI ?_
  unfold bs_w4
  omega
theorem bs_nI_xor (a b : Nat) : nI a ^^^ nI b = nI (a ^^^ b) := by
  apply Int32.toBitVec_inj.1
  show BitVec.ofNat 32 a ^^^ BitVec.ofNat 32 b = BitVec.ofNat 32 (a ^^^ b)
  apply BitVec.eq_of_getLsbD_eq
  intro i hi
  simp [hi]
/-- the class's tables, as the constructor leaves them -/
def bs_SBf (n : Nat) : Int32 := nI (bs_SB n)
def bs_CTf (n : Nat) : Int32 := nI (bs_w4 (bs_tX (bs_SB n)) (bs_SB n) (bs_SB n) (bs_tX (bs_SB n) ^^^ bs_SB n))
def bs_x3 (n : Nat) : Nat := bs_tX n ^^^ n
theorem bs_x3_lt {n : Nat} (h : n < 256) : bs_x3 n < 256 := bs_xor_lt (bs_tX_lt n h) h
/-- S, ROWS and COLUMNS of one column -/
theorem bs_mix_eq {a0 a1 a2 a3 b0 b1 b2 b3 c0 c1 c2 c3 d0 d1 d2 d3 : Nat} (ha0 : a0 < 256) (ha1 : a1 < 256) (ha2 : a2 < 256) (ha3 : a3 < 256) (hb0 : b0 < 256) (hb1 : b1 < 256) (hb2 : b2 < 256) (hb3 : b3 < 256) (hc0 : c0 < 256) (hc1 : c1 < 256) (hc2 : c2 < 256) (hc3 : c3 < 256) (hd0 : d0 < 256) (hd1 : d1 < 256) (hd2 : d2 < 256) (hd3 : d3 < 256) :
    bs_mix bs_CTf (nI (bs_w4 a0 a1 a2 a3)) (nI (bs_w4 b0 b1 b2 b3)) (nI (bs_w4 c0 c1 c2 c3)) (nI (bs_w4 d0 d1 d2 d3)) =
      nI (bs_w4 (bs_tX (bs_SB a0) ^^^ bs_x3 (bs_SB b1) ^^^ bs_SB c2 ^^^ bs_SB d3) (bs_SB a0 ^^^ bs_tX (bs_SB b1) ^^^ bs_x3 (bs_SB c2) ^^^ bs_SB d3) (bs_SB a0 ^^^ bs_SB b1 ^^^ bs_tX (bs_SB c2) ^^^ bs_x3 (bs_SB d3)) (bs_x3 (bs_SB a0) ^^^ bs_SB b1 ^^^ bs_SB c2 ^^^ bs_tX (bs_SB d3))) := by
  have s1 := bs_SB_lt a0 ha0
  have s2 := bs_SB_lt b1 hb1
  have s3 := bs_SB_lt c2 hc2
  have s4 := bs_SB_lt d3 hd3
  have t1 := bs_tX_lt _ s1
  have t2 := bs_tX_lt _ s2
  have t3 := bs_tX_lt _ s3
  have t4 := bs_tX_lt _ s4
  have x1 := bs_x3_lt s1
  have x2 := bs_x3_lt s2
  have x3 := bs_x3_lt s3
  have x4 := bs_x3_lt s4
  unfold bs_mix
  rw [(bs_by_w4 ha0 ha1 ha2 ha3).1, (bs_by_w4 hb0 hb1 hb2 hb3).2.1, (bs_by_w4 hc0 hc1 hc2 hc3).2.2.1, (bs_by_w4 hd0 hd1 hd2 hd3).2.2.2]
  unfold bs_CTf
  rw [show bs_tX (bs_SB a0) ^^^ bs_SB a0 = bs_x3 (bs_SB a0) from rfl, show bs_tX (bs_SB b1) ^^^ bs_SB b1 = bs_x3 (bs_SB b1) from rfl, show bs_tX (bs_SB c2) ^^^ bs_SB c2 = bs_x3 (bs_SB c2) from rfl, show bs_tX (bs_SB d3) ^^^ bs_SB d3 = bs_x3 (bs_SB d3) from rfl]
  rw [bs_rot8 t2 s2 s2 x2, bs_rot16 t3 s3 s3 x3, bs_rot24 t4 s4 s4 x4, bs_nI_xor, bs_nI_xor, bs_nI_xor]
  rw [bs_w4_xor s1 s1 x1 t2 s2 s2, bs_w4_xor (bs_xor_lt s1 t2) (bs_xor_lt s1 s2) (bs_xor_lt x1 s2) x3 t3 s3, bs_w4_xor (bs_xor_lt (bs_xor_lt s1 t2) x3) (bs_xor_lt (bs_xor_lt s1 s2) t3) (bs_xor_lt (bs_xor_lt x1 s2) s3) s4 x4 t4]
/-- S and ROWS of one column -/
theorem bs_sbt_eq {a0 a1 a2 a3 b0 b1 b2 b3 c0 c1 c2 c3 d0 d1 d2 d3 : Nat} (ha0 : a0 < 256) (ha1 : a1 < 256) (ha2 : a2 < 256) (ha3 : a3 < 256) (hb0 : b0 < 256) (hb1 : b1 < 256) (hb2 : b2 < 256) (hb3 : b3 < 256) (hc0 : c0 < 256) (hc1 : c1 < 256) (hc2 : c2 < 256) (hc3 : c3 < 256) (hd0 : d0 < 256) (hd1 : d1 < 256) (hd2 : d2 < 256) (hd3 : d3 < 256) :
    bs_sbt bs_SBf (nI (bs_w4 a0 a1 a2 a3)) (nI (bs_w4 b0 b1 b2 b3)) (nI (bs_w4 c0 c1 c2 c3)) (nI (bs_w4 d0 d1 d2 d3)) = nI (bs_w4 (bs_SB a0) (bs_SB b1) (bs_SB c2) (bs_SB d3)) := by
  have s1 := bs_SB_lt a0 ha0
  have s2 := bs_SB_lt b1 hb1
  have s3 := bs_SB_lt c2 hc2
  have s4 := bs_SB_lt d3 hd3
  unfold bs_sbt
  rw [(bs_by_w4 ha0 ha1 ha2 ha3).1, (bs_by_w4 hb0 hb1 hb2 hb3).2.1, (bs_by_w4 hc0 hc1 hc2 hc3).2.2.1, (bs_by_w4 hd0 hd1 hd2 hd3).2.2.2]
  unfold bs_SBf
  rw [bs_shl _ 24 (by decide), bs_shl _ 16 (by decide), bs_shl _ 8 (by decide), bs_nI_or, bs_nI_or, bs_nI_or]
  refine congrArg nI ?_
  rw [Nat.mul_comm _ (2 ^ 24), Nat.mul_comm _ (2 ^ 16), Nat.mul_comm _ (2 ^ 8), Nat.or_assoc, Nat.or_assoc, bs_or_cat 8 (by omega), bs_or_cat 16 (by omega), bs_or_cat 24 (by omega)]
  rfl
