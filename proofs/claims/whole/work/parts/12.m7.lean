/-! bs_: two longs are sixteen bytes are four words -/
def bs_B0 (f g : Int64) (j : Nat) : Nat := if j < 8 then bs_lb f j else bs_lb g (j - 8)
theorem bs_B0_lt (f g : Int64) (j : Nat) : bs_B0 f g j < 256 := by
  unfold bs_B0
  split
  · exact bs_lb_lt _ _
  · exact bs_lb_lt _ _
theorem bs_hi_wd (f : Int64) : (j_lushr f (nI 32)).toInt32 = nI (bs_w4 (bs_lb f 0) (bs_lb f 1) (bs_lb f 2) (bs_lb f 3)) := by
  obtain ⟨n, hn, rfl⟩ := wb_of f
  have e := wb_shr hn (show 32 < 64 by decide)
  show ((lN n).toUInt64 >>> ((nI 32).toInt64.toUInt64 &&& Int64.toUInt64 63)).toInt64.toInt32 = _
  rw [e, lN_i]
  refine congrArg nI ?_
  simp only [bs_w4, bs_lb, wb_tn hn]
  omega
theorem bs_lo_wd (f : Int64) : f.toInt32 = nI (bs_w4 (bs_lb f 4) (bs_lb f 5) (bs_lb f 6) (bs_lb f 7)) := by
  obtain ⟨n, hn, rfl⟩ := wb_of f
  rw [lN_i, ← bs_nI_mod n]
  refine congrArg nI ?_
  simp only [bs_w4, bs_lb, wb_tn hn]
  omega
theorem bs_in_wd {K : Nat → Nat} (hK : ∀ j, K j < 256) (f g : Int64) : bs_in (bs_kw K) f g = bs_x4 (bs_ra (bs_B0 f g) K) := by
  unfold bs_in
  rw [bs_hi_wd f, bs_lo_wd f, bs_hi_wd g, bs_lo_wd g]
  have key : ∀ i, nI (bs_wd (bs_B0 f g) i) ^^^ bs_kw K i = nI (bs_wd (bs_ra (bs_B0 f g) K) i) := by
    intro i
    unfold bs_kw
    rw [bs_nI_xor, bs_wd_xor (bs_B0_lt f g) hK]
  exact congr (congrArg Prod.mk (key 0)) (congr (congrArg Prod.mk (key 1)) (congr (congrArg Prod.mk (key 2)) (key 3)))
theorem bs_i2l {U : Nat} (h : U < 2 ^ 32) : ∃ X, X < 2 ^ 64 ∧ (nI U).toInt64 = lN X ∧ X % 2 ^ 32 = U := by
  obtain ⟨n, hn, e⟩ := wb_of (nI U).toInt64
  refine ⟨n, hn, e, ?_⟩
  have h1 : ((nI U).toInt64).toInt32 = nI U := lg_l2i_i2l (nI U)
  rw [e, lN_i] at h1
  have h2 := congrArg (fun z : Int32 => z.toBitVec.toNat) h1
  have h3 : (BitVec.ofNat 32 n).toNat = (BitVec.ofNat 32 U).toNat := h2
  rw [BitVec.toNat_ofNat, BitVec.toNat_ofNat, Nat.mod_eq_of_lt h] at h3
  exact h3
theorem bs_join_eq {U V : Nat} (hU : U < 2 ^ 32) (hV : V < 2 ^ 32) : bs_join (nI U) (nI V) = lN (U * 2 ^ 32 + V) := by
  obtain ⟨X, hX, eX, mX⟩ := bs_i2l hU
  obtain ⟨Y, hY, eY, mY⟩ := bs_i2l hV
  unfold bs_join
  rw [eX, eY, show (4294967295 : Int64) = lN (2 ^ 32 - 1) from by decide +kernel, wb_mask hY (by decide), mY]
  show lN X <<< ((nI 32).toInt64 &&& 63) ||| lN V = _
  rw [wb_shl _ (by decide), wb_mod (X * 2 ^ 32), show X * 2 ^ 32 % 2 ^ 64 = U * 2 ^ 32 by omega, g_or (k := 32) (p := 2 ^ 32) rfl hV (by omega)]
/-- eight bytes are a long, as the reference reads them and as the class joins them -/
theorem bs_half_eq {B : Nat → Nat} (h : ∀ j, B j < 256) (i : Nat) : bs_join (nI (bs_wd B (2 * i))) (nI (bs_wd B (2 * i + 1))) = bs_rd (fun j => nI (B j)) (8 * i) 8 := by
  rw [bs_join_eq (bs_wd_lt h _) (bs_wd_lt h _), bs_rd_nat (fun j => nI (B j)) (8 * i) (fun j => B (8 * i + j)) (fun j => h _) 8 (by decide) (fun j _ => rfl)]
  refine congrArg lN ?_
  simp only [bs_rdN, bs_wd, bs_w4]
  rw [show 4 * (2 * i) = 8 * i by omega, show 4 * (2 * i + 1) = 8 * i + 4 by omega, show 8 * i + 4 + 1 = 8 * i + 5 by omega, show 8 * i + 4 + 2 = 8 * i + 6 by omega, show 8 * i + 4 + 3 = 8 * i + 7 by omega, show 8 * i + 0 = 8 * i by omega]
  omega
/-- the cipher: both ways -/
theorem bs_enc_eq {K : Nat → Nat} (hK : ∀ j, K j < 256) (f g : Int64) :
    bs_e1 bs_CTf bs_SBf (bs_kw K) f g = bs_rd (fun j => nI (bs_rr K (bs_B0 f g) 10 j)) 0 8 ∧ bs_e2 bs_CTf bs_SBf (bs_kw K) f g = bs_rd (fun j => nI (bs_rr K (bs_B0 f g) 10 j)) 8 8 := by
  have hB := bs_B0_lt f g
  have h9 : bs_rnds bs_CTf (bs_kw K) (bs_in (bs_kw K) f g) 9 = bs_x4 (bs_rr K (bs_B0 f g) 9) := by
    rw [bs_in_wd hK, bs_rnds_wd hK hB 9 (by decide)]
  have hb9 := bs_rr_lt hK hB 9
  obtain ⟨m0, m1, m2, m3⟩ := bs_sbt_wd hb9
  have hr10 : bs_rr K (bs_B0 f g) 10 = bs_ra (bs_rs (bs_rr K (bs_B0 f g) 9)) (fun k => K (160 + k)) := by
    show bs_ra (if 9 + 1 < 10 then _ else _) _ = _
    rw [if_neg (by decide)]
  have key : ∀ i, nI (bs_wd (bs_rs (bs_rr K (bs_B0 f g) 9)) i) ^^^ bs_kw K (40 + i) = nI (bs_wd (bs_rr K (bs_B0 f g) 10) i) := by
    intro i
    unfold bs_kw
    have e : bs_wd K (40 + i) = bs_wd (fun k => K (160 + k)) i := by
      unfold bs_wd
      rw [show 4 * (40 + i) = 160 + 4 * i by omega]
      rfl
    rw [e, bs_nI_xor, bs_wd_xor (bs_rs_lt _) (fun j => hK _), ← hr10]
  have h10 := bs_rr_lt hK hB 10
  constructor
  · unfold bs_e1
    rw [h9]
    show bs_join (bs_sbt bs_SBf (nI (bs_wd _ 0)) (nI (bs_wd _ 1)) (nI (bs_wd _ 2)) (nI (bs_wd _ 3)) ^^^ bs_kw K 40) (bs_sbt bs_SBf (nI (bs_wd _ 1)) (nI (bs_wd _ 2)) (nI (bs_wd _ 3)) (nI (bs_wd _ 0)) ^^^ bs_kw K 41) = _
    rw [m0, m1, key 0, key 1]
    exact bs_half_eq h10 0
  · unfold bs_e2
    rw [h9]
    show bs_join (bs_sbt bs_SBf (nI (bs_wd _ 2)) (nI (bs_wd _ 3)) (nI (bs_wd _ 0)) (nI (bs_wd _ 1)) ^^^ bs_kw K 42) (bs_sbt bs_SBf (nI (bs_wd _ 3)) (nI (bs_wd _ 0)) (nI (bs_wd _ 1)) (nI (bs_wd _ 2)) ^^^ bs_kw K 43) = _
    rw [m2, m3, key 2, key 3]
    exact bs_half_eq h10 1
/-- what half leaves -/
def bs_h1 (C S w : Nat → Int32) (f h : Int64) : Int64 := bs_e1 C S w f h ^^^ f
def bs_hl (C S w : Nat → Int32) (f h : Int64) : Int64 := bs_e2 C S w f h ^^^ h
def bs_hb (C S w : Nat → Int32) (f h : Int64) : Int32 := (bs_hl C S w f h).toInt32 &&& nI 1
def bs_h2 (C S w : Nat → Int32) (f h : Int64) : Int64 := bs_hl C S w f h ^^^ (bs_hb C S w f h).toInt64
