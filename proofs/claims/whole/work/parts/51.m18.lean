/-! bs_: the fixed keys; the class's half is the reference's -/
def bs_KK (j : Nat) : Nat := if j < 176 then bs_K0l.getD j 0 else bs_K1l.getD (j - 176) 0
theorem bs_KK_l0 : ∀ j, j < 176 → bs_K0l.getD j 0 < 256 := bs_dec (by decide +kernel)
theorem bs_KK_l1 : ∀ j, j < 176 → bs_K1l.getD j 0 < 256 := bs_dec (by decide +kernel)
theorem bs_KK_n1 : bs_K1l.length = 176 := by decide +kernel
theorem bs_KK_lt (j : Nat) : bs_KK j < 256 := by
  unfold bs_KK
  by_cases h : j < 176
  · rw [if_pos h]
    exact bs_KK_l0 j h
  · rw [if_neg h]
    by_cases h2 : j - 176 < 176
    · exact bs_KK_l1 _ h2
    · rw [List.getD_eq_getElem?_getD, List.getElem?_eq_none (by rw [bs_KK_n1]; omega)]
      decide
theorem bs_KK_r0 : ∀ i, i < 40 → ∀ k, k < 4 → bs_KK (0 + 4 * (i + 4) - 16 + k) ^^^ bs_rv bs_KK 0 i k = bs_KK (0 + 4 * (i + 4) + k) ^^^ (if k = 0 then bs_rp i else 0) := by decide +kernel
theorem bs_KK_r1 : ∀ i, i < 40 → ∀ k, k < 4 → bs_KK (176 + 4 * (i + 4) - 16 + k) ^^^ bs_rv bs_KK 176 i k = bs_KK (176 + 4 * (i + 4) + k) ^^^ (if k = 0 then bs_rp i else 0) := by decide +kernel
theorem bs_KK_i0 : ∀ k, k < 16 → bs_KK k = 16 * k + 1 := by decide +kernel
theorem bs_KK_i1 : ∀ k, k < 16 → bs_KK (176 + k) = (15 * k + 2) % 256 := by decide +kernel
theorem bs_one_bits : ∀ i, i < 64 → (1 : Int64).toBitVec.getLsbD i = !((-2 : Int64).toBitVec.getLsbD i) := by decide +kernel
theorem bs_low (x : Int64) : x ^^^ (x &&& 1) = x &&& (-2) := by
  apply wb_inj
  rw [Int64.toBitVec_xor, Int64.toBitVec_and, Int64.toBitVec_and]
  apply BitVec.eq_of_getLsbD_eq
  intro i hi
  rw [BitVec.getLsbD_xor, BitVec.getLsbD_and, BitVec.getLsbD_and, bs_one_bits i hi]
  cases x.toBitVec.getLsbD i <;> cases (-2 : Int64).toBitVec.getLsbD i <;> rfl
theorem bs_L1 : (1 : Int64) = lN (2 ^ 1 - 1) := by decide +kernel
theorem bs_bit0 (x : Int64) : ∃ n, n < 2 ∧ x.toInt32 &&& nI 1 = nI n ∧ x &&& 1 = lN n := by
  obtain ⟨n, hn, rfl⟩ := wb_of x
  refine ⟨n % 2, Nat.mod_lt _ (by decide), ?_, ?_⟩
  · rw [lN_i, xi_and_1]
  · rw [bs_L1, wb_mask hn (by decide)]
theorem bs_bz (x : Int64) : x.toInt32 &&& nI 1 = bs_z (decide (x &&& 1 = 1)) := by
  obtain ⟨n, hn, e1, e2⟩ := bs_bit0 x
  rw [e1, e2]
  have h : n = 0 ∨ n = 1 := by omega
  rcases h with rfl | rfl <;> decide +kernel
theorem bs_bl64 (x : Int64) : (x.toInt32 &&& nI 1).toInt64 = x &&& 1 := by
  obtain ⟨n, hn, e1, e2⟩ := bs_bit0 x
  rw [e1, e2, nI_l (by omega)]
theorem bs_t_h1 {K : Nat → Nat} (hK : ∀ j, K j < 256) (f g : Int64) : bs_h1 bs_CTf bs_SBf (bs_kw K) f g = bs_m1 K f g := by
  unfold bs_h1
  rw [(bs_enc_eq hK f g).1]
  exact Int64.xor_comm _ _
theorem bs_t_hl {K : Nat → Nat} (hK : ∀ j, K j < 256) (f g : Int64) : bs_hl bs_CTf bs_SBf (bs_kw K) f g = bs_ml K f g := by
  unfold bs_hl
  rw [(bs_enc_eq hK f g).2]
  exact Int64.xor_comm _ _
theorem bs_t_hb {K : Nat → Nat} (hK : ∀ j, K j < 256) (f g : Int64) : bs_hb bs_CTf bs_SBf (bs_kw K) f g = bs_z (bs_mb K f g) := by
  unfold bs_hb
  rw [bs_t_hl hK]
  exact bs_bz _
theorem bs_t_h2 {K : Nat → Nat} (hK : ∀ j, K j < 256) (f g : Int64) : bs_h2 bs_CTf bs_SBf (bs_kw K) f g = bs_m2 K f g := by
  unfold bs_h2 bs_hb
  rw [bs_t_hl hK, bs_bl64]
  exact bs_low _
