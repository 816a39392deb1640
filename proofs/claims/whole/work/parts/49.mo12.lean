/-! BlindShelfModel: product, inverse, spread -/
def bs_pq (a b : Nat) : Nat → Nat × Nat
  | 0 => (0, a)
  | k + 1 => (if b / 2 ^ k % 2 = 1 then (bs_pq a b k).1 ^^^ (bs_pq a b k).2 else (bs_pq a b k).1, bs_tX (bs_pq a b k).2)
theorem bs_pq_A (a b : Nat) : ∀ n k, bs_prodA b n k (bs_pq a b k).1 (bs_pq a b k).2 = (bs_pq a b (k + n)).1
  | 0, _ => rfl
  | n + 1, k => by
    rw [show k + (n + 1) = (k + 1) + n by omega, ← bs_pq_A a b n (k + 1)]
    rfl
theorem bs_pq_8 (a b : Nat) : (bs_pq a b 8).1 = bs_prod a b := (bs_pq_A a b 8 0).symm
theorem bs_pq_lt {a : Nat} (b : Nat) (ha : a < 256) : ∀ k, (bs_pq a b k).2 < 256
  | 0 => ha
  | k + 1 => bs_tX_lt _ (bs_pq_lt b ha k)
theorem bs_pq_y {a b k : Nat} (h : b / 2 ^ k % 2 = 1) : (bs_pq a b k).1 ^^^ (bs_pq a b k).2 = (bs_pq a b (k + 1)).1 := by
  show _ = if b / 2 ^ k % 2 = 1 then (bs_pq a b k).1 ^^^ (bs_pq a b k).2 else (bs_pq a b k).1
  rw [if_pos h]
theorem bs_pq_n {a b k : Nat} (h : ¬ b / 2 ^ k % 2 = 1) : (bs_pq a b k).1 = (bs_pq a b (k + 1)).1 := by
  show _ = if b / 2 ^ k % 2 = 1 then (bs_pq a b k).1 ^^^ (bs_pq a b k).2 else (bs_pq a b k).1
  rw [if_neg h]
theorem bs_pq_t {a b k : Nat} (h : (bs_pq a b k).2 < 128) : 2 * (bs_pq a b k).2 = (bs_pq a b (k + 1)).2 := by
  show _ = if (bs_pq a b k).2 < 128 then 2 * (bs_pq a b k).2 else (2 * (bs_pq a b k).2) ^^^ 283
  rw [if_pos h]
theorem bs_pq_u {a b k : Nat} (h : ¬ (bs_pq a b k).2 < 128) : (2 * (bs_pq a b k).2) ^^^ 283 = (bs_pq a b (k + 1)).2 := by
  show _ = if (bs_pq a b k).2 < 128 then 2 * (bs_pq a b k).2 else (2 * (bs_pq a b k).2) ^^^ 283
  rw [if_neg h]
theorem bs_ivy {b n : Nat} (h : bs_prod b (n + 1) = 1) : n + 1 = bs_invA b (n + 1) := by
  show _ = if bs_prod b (n + 1) = 1 then n + 1 else bs_invA b n
  rw [if_pos h]
theorem bs_ivn {b n : Nat} (h : ¬ bs_prod b (n + 1) = 1) : bs_invA b n = bs_invA b (n + 1) := by
  show _ = if bs_prod b (n + 1) = 1 then n + 1 else bs_invA b n
  rw [if_neg h]
def bs_sx (i k : Nat) : Nat := if k = 0 then i else (i + 3 + k) % 8
theorem bs_sx_lt {i : Nat} (k : Nat) (h : i < 8) : bs_sx i k < 8 := by
  unfold bs_sx
  split <;> omega
theorem bs_sx_0 {i k : Nat} (h : k = 0) : i = bs_sx i k := by
  unfold bs_sx
  rw [if_pos h]
theorem bs_sx_n {i k : Nat} (h : ¬ k = 0) : (i + 3 + k) % 8 = bs_sx i k := by
  unfold bs_sx
  rw [if_neg h]
def bs_sa (c i : Nat) : Nat → Nat
  | 0 => 99 / 2 ^ i % 2
  | k + 1 => bs_sa c i k ^^^ (c / 2 ^ bs_sx i k % 2)
def bs_sp (c : Nat) : Nat → Nat
  | 0 => 0
  | i + 1 => bs_sp c i ||| (bs_sa c i 5 * 2 ^ i)
theorem bs_sp_SB : ∀ b, b < 256 → bs_sp (bs_IV b) 8 = bs_SB b := bs_dec (by decide +kernel)
theorem bs_nIor (a b : Nat) : nI a ||| nI b = nI (a ||| b) := by
  apply Int32.toBitVec_inj.mp
  show BitVec.ofNat 32 a ||| BitVec.ofNat 32 b = BitVec.ofNat 32 (a ||| b)
  apply BitVec.eq_of_getLsbD_eq
  intro i hi
  simp [BitVec.getLsbD_or, BitVec.getLsbD_ofNat, hi]
set_option maxHeartbeats 4000000 in
set_option maxRecDepth 100000 in
theorem c_MO_product (l : Launch) (dC : Nat → ClassId) (dI : Nat → Nat → Nat) (sz : Nat) (a b9 : Nat) (ha : a < 256) (hb9 : b9 < 256) : Met l yMO_product wsMO_product { frames := 0, cells := 0, slots := 0, locals := 0 } (va_Pc [.int (nI a), .int (nI b9)] (fun U => U.heap.size = sz ∧ va_P (dC, dI) vwCl [] U.heap ∧ va_K (dC, dI) vwCl [] U ∧ va_D (fun _ => True) [])) (va_Qi (fun (r : Int32) (_ : Unit) => r = nI (bs_prod a b9)) (fun (_ : Unit) t => va_P (dC, dI) vwCl [] t.heap ∧ va_K (dC, dI) vwCl [] t ∧ va_D (va_A [] sz) []) (va_A [] sz)) 0 0 (va_A [] sz) := by
  refine Met.ofW (cc := cMO_product) (maxL := 5) (ret := (some .int)) (by decide) rfl ?_
  intro p e s m args below meth c s₁ Bo9 hml hv
  obtain ⟨rfl, hsz, hP, hK, hD0⟩ := hv
  have hx := Bo9.exec
  have hb := Bo9.bytes
  have hr := Bo9.returns
  have hts := fun w (h : w ∈ wT) => atoms_spec (ws := wsMO_product) Bo9.pre w (List.mem_cons_of_mem _ h)
  have hown : s.vm.findClass RMO = some m.cls := findClass_of_methodNamed Bo9.named
  have hlocks := Bo9.notSynchronized
  subst hsz
  have hD := hD0.self (sz := s.heap.size)
  generalize hAe : va_A [] s.heap.size = A at hD ⊢
  have hA : ∀ q : Nat, s.heap.size ≤ q → A q := fun q h => by rw [← hAe]; exact Or.inr h
  have hl := lv_entry ([.int (nI a), .int (nI b9)]) (n := 5) (Nat.le_of_ble_eq_true rfl)
  rw [lg_entry_eq]
  generalize (lg_sl ([.int (nI a), .int (nI b9)]) ++ List.replicate (5 - (lg_sl ([.int (nI a), .int (nI b9)])).length) Slot.unset).toArray = ls at hl ⊢
  have hl : lv_has ls 5 [(0, .int (nI a)), (1, .int (nI b9))] := hl
  refine xs_q (fun H Q hH hQ => ?_)
  have hS : va_S A s.heap H [] := by rw [hH]; exact va_S.rf
  have hP : va_P (dC, dI) vwCl [] H := by rw [hH]; exact hP
  refine lv_iconst (v := nI 0) hx hb dMO_product_0 (by decide) ?_
  refine lv_istore_n (lv' := [(2, .int (nI 0)), (0, .int (nI a)), (1, .int (nI b9))]) hx hb dMO_product_1 rfl hl (by decide) rfl (fun ls hl => ?_)
  refine lv_iload_n hx hb dMO_product_2 rfl (lv_at hl 1 rfl) ?_
  refine lv_istore_n (lv' := [(3, .int (nI a)), (2, .int (nI 0)), (0, .int (nI a)), (1, .int (nI b9))]) hx hb dMO_product_3 rfl hl (by decide) rfl (fun ls hl => ?_)
  refine lv_iconst (v := nI 0) hx hb dMO_product_4 (by decide) ?_
  refine lv_istore (lv' := [(4, .int (nI 0)), (3, .int (nI a)), (2, .int (nI 0)), (0, .int (nI a)), (1, .int (nI b9))]) hx hb dMO_product_5 hl (by decide) rfl (fun ls hl => ?_)
  have loop : ∀ (n i : Nat), i + n = 8 → ∀ (H : Heap) (locs : List Loc) (ls : Array Slot), va_P (dC, dI) vwCl [] H → va_D A [] → va_S A s.heap H locs → lv_has ls 5 [(0, .int (nI a)), (1, .int (nI b9)), (2, .int (nI ((bs_pq a b9 i).1))), (3, .int (nI ((bs_pq a b9 i).2))), (4, .int (nI i))] → W p l e (headSpec wsMO_product { frames := 0, cells := 0, slots := 0, locals := 0 }).room s m ([.int (nI a), .int (nI b9)] : List Value).toArray below meth c H locs 0 0 Q (F0 m 7 ls []) := by
    intro n
    induction n with
    | zero =>
      intro i hi H locs ls hP hD hS hl
      obtain rfl : i = 8 := by omega
      refine lv_iload hx hb dMO_product_7 (lv_at hl 4 rfl) ?_
      refine lv_bipush (v := nI 8) hx hb dMO_product_9 (by decide) ?_
      refine lv_icmp_ge (tgt := 59) hx hb dMO_product_11 (by decide) (fun _ => ?_) (fun h => absurd (nI_le (by omega) (by omega)) h)
      refine lv_iload_n hx hb dMO_product_59 rfl (lv_at hl 2 rfl) ?_
      have hP : va_P (dC, dI) vwCl [] H := hP
      have hD : va_D A [] := hD
      subst hQ
      exact W.iret (v := nI ((bs_pq a b9 8).1)) hx hb hr (fun t ht hW => ⟨⟨nI ((bs_pq a b9 8).1), (), rfl, congrArg nI (bs_pq_8 a b9), by rw [ht]; exact hP, va_K.moved hW.alike hK, hD⟩, hS.F ht⟩) hS.2.2 dMO_product_60
    | succ n ih =>
      intro i hi H locs ls hP hD hS hl
      have q0 := bs_pq_lt b9 ha i
      refine lv_iload hx hb dMO_product_7 (lv_at hl 4 rfl) ?_
      refine lv_bipush (v := nI 8) hx hb dMO_product_9 (by decide) ?_
      refine lv_icmp_ge (tgt := 59) hx hb dMO_product_11 (by decide) (fun h => absurd h (nI_ge (by omega) (by omega))) (fun _ => ?_)
      refine lv_iload_n hx hb dMO_product_14 rfl (lv_at hl 1 rfl) ?_
      refine lv_iload hx hb dMO_product_15 (lv_at hl 4 rfl) ?_
      refine lv_ishr hx hb dMO_product_17 ?_
      refine xt_i (y := nI (b9 / 2 ^ i)) (xi_shr (by omega) (by omega)) ?_
      refine lv_iconst (v := nI 1) hx hb dMO_product_18 (by decide) ?_
      refine lv_iand hx hb dMO_product_19 ?_
      refine xt_i (y := nI ((b9 / 2 ^ i) % 2)) (xi_and_1 _) ?_
      refine lv_iconst (v := nI 1) hx hb dMO_product_20 (by decide) ?_
      have k1 : ∀ (H : Heap) (locs : List Loc), va_P (dC, dI) vwCl [] H → va_D A [] → va_S A s.heap H locs → W p l e (headSpec wsMO_product { frames := 0, cells := 0, slots := 0, locals := 0 }).room s m ([.int (nI a), .int (nI b9)] : List Value).toArray below meth c H locs 0 0 Q (F0 m 31 ls [.int (nI ((bs_pq a b9 (i + 1)).1))]) := by
        intro H locs hP hD hS
        refine lv_istore_n (lv' := [(2, .int (nI ((bs_pq a b9 (i + 1)).1))), (0, .int (nI a)), (1, .int (nI b9)), (3, .int (nI ((bs_pq a b9 i).2))), (4, .int (nI i))]) hx hb dMO_product_31 rfl hl (by decide) rfl (fun ls hl => ?_)
        refine lv_iload_n hx hb dMO_product_32 rfl (lv_at hl 3 rfl) ?_
        refine lv_sipush (v := nI 128) hx hb dMO_product_33 (by decide) ?_
        have k2 : ∀ (H : Heap) (locs : List Loc), va_P (dC, dI) vwCl [] H → va_D A [] → va_S A s.heap H locs → W p l e (headSpec wsMO_product { frames := 0, cells := 0, slots := 0, locals := 0 }).room s m ([.int (nI a), .int (nI b9)] : List Value).toArray below meth c H locs 0 0 Q (F0 m 52 ls [.int (nI ((bs_pq a b9 (i + 1)).2))]) := by
          intro H locs hP hD hS
          refine lv_istore_n (lv' := [(3, .int (nI ((bs_pq a b9 (i + 1)).2))), (2, .int (nI ((bs_pq a b9 (i + 1)).1))), (0, .int (nI a)), (1, .int (nI b9)), (4, .int (nI i))]) hx hb dMO_product_52 rfl hl (by decide) rfl (fun ls hl => ?_)
          refine lv_iinc (k := 4) (v := nI (i + 1)) (lv' := [(4, .int (nI (i + 1))), (3, .int (nI ((bs_pq a b9 (i + 1)).2))), (2, .int (nI ((bs_pq a b9 (i + 1)).1))), (0, .int (nI a)), (1, .int (nI b9))]) hx hb dMO_product_53 hl rfl (xi_1 _) (by decide) rfl (fun ls hl => ?_)
          refine lv_goto (tgt := 7) hx hb dMO_product_56 (by decide) ?_
          have hP : va_P (dC, dI) vwCl [] H := hP
          have hD : va_D A [] := hD
          have hl := lv_sub hl (l' := [(0, .int (nI a)), (1, .int (nI b9)), (2, .int (nI ((bs_pq a b9 (i + 1)).1))), (3, .int (nI ((bs_pq a b9 (i + 1)).2))), (4, .int (nI (i + 1)))]) [3, 4, 2, 1, 0] rfl
          have hl : lv_has ls 5 [(0, .int (nI a)), (1, .int (nI b9)), (2, .int (nI ((bs_pq a b9 (i + 1)).1))), (3, .int (nI ((bs_pq a b9 (i + 1)).2))), (4, .int (nI (i + 1)))] := hl
          exact ih (i + 1) (by omega) H _ ls hP hD hS hl
        refine lv_icmp_ge (tgt := 45) hx hb dMO_product_36 (by decide) (fun hc2 => ?_) (fun hc2 => ?_)
        · refine lv_iconst (v := nI 2) hx hb dMO_product_45 (by decide) ?_
          refine lv_iload_n hx hb dMO_product_46 rfl (lv_at hl 3 rfl) ?_
          refine lv_imul hx hb dMO_product_47 ?_
          refine xt_i (y := nI (2 * ((bs_pq a b9 i).2))) (pk_mul _ _) ?_
          refine lv_sipush (v := nI 283) hx hb dMO_product_48 (by decide) ?_
          refine lv_ixor hx hb dMO_product_51 ?_
          refine xt_i (y := nI ((2 * ((bs_pq a b9 i).2)) ^^^ 283)) (bs_nI_xor _ _) ?_
          refine xt_i (y := nI ((bs_pq a b9 (i + 1)).2)) (congrArg nI (bs_pq_u (by rw [nI_leI (by decide) (by omega)] at hc2; omega))) ?_
          have hP : va_P (dC, dI) vwCl [] H := hP
          have hD : va_D A [] := hD
          exact k2 H _ hP hD hS
        · refine lv_iconst (v := nI 2) hx hb dMO_product_39 (by decide) ?_
          refine lv_iload_n hx hb dMO_product_40 rfl (lv_at hl 3 rfl) ?_
          refine lv_imul hx hb dMO_product_41 ?_
          refine xt_i (y := nI (2 * ((bs_pq a b9 i).2))) (pk_mul _ _) ?_
          refine lv_goto (tgt := 52) hx hb dMO_product_42 (by decide) ?_
          refine xt_i (y := nI ((bs_pq a b9 (i + 1)).2)) (congrArg nI (bs_pq_t (by rw [nI_leI (by decide) (by omega)] at hc2; omega))) ?_
          have hP : va_P (dC, dI) vwCl [] H := hP
          have hD : va_D A [] := hD
          exact k2 H _ hP hD hS
      refine lv_icmp_ne (tgt := 30) hx hb dMO_product_21 (by decide) (fun hc => ?_) (fun hc => ?_)
      · refine lv_iload_n hx hb dMO_product_30 rfl (lv_at hl 2 rfl) ?_
        refine xt_i (y := nI ((bs_pq a b9 (i + 1)).1)) (congrArg nI (bs_pq_n (fun q => hc (by rw [q])))) ?_
        have hP : va_P (dC, dI) vwCl [] H := hP
        have hD : va_D A [] := hD
        exact k1 H _ hP hD hS
      · refine lv_iload_n hx hb dMO_product_24 rfl (lv_at hl 2 rfl) ?_
        refine lv_iload_n hx hb dMO_product_25 rfl (lv_at hl 3 rfl) ?_
        refine lv_ixor hx hb dMO_product_26 ?_
        refine xt_i (y := nI (((bs_pq a b9 i).1) ^^^ ((bs_pq a b9 i).2))) (bs_nI_xor _ _) ?_
        refine lv_goto (tgt := 31) hx hb dMO_product_27 (by decide) ?_
        refine xt_i (y := nI ((bs_pq a b9 (i + 1)).1)) (congrArg nI (bs_pq_y ((nI_eq (by omega) (by decide)).mp hc))) ?_
        have hP : va_P (dC, dI) vwCl [] H := hP
        have hD : va_D A [] := hD
        exact k1 H _ hP hD hS
  have hP : va_P (dC, dI) vwCl [] H := hP
  have hD : va_D A [] := hD
  have hl := lv_sub hl (l' := [(0, .int (nI a)), (1, .int (nI b9)), (2, .int (nI 0)), (3, .int (nI a)), (4, .int (nI 0))]) [3, 4, 2, 1, 0] rfl
  have hl : lv_has ls 5 [(0, .int (nI a)), (1, .int (nI b9)), (2, .int (nI ((bs_pq a b9 0).1))), (3, .int (nI ((bs_pq a b9 0).2))), (4, .int (nI 0))] := hl
  exact loop (8 - 0) 0 (by omega) H _ ls hP hD hS hl
set_option maxHeartbeats 4000000 in
set_option maxRecDepth 100000 in
theorem c_MO_inverse (l : Launch) (dC : Nat → ClassId) (dI : Nat → Nat → Nat) (sz : Nat) (b9 : Nat) (hb9 : b9 < 256) : Met l yMO_inverse wsMO_inverse { frames := 1, cells := 0, slots := 0, locals := 24 } (va_Pc [.int (nI b9)] (fun U => U.heap.size = sz ∧ va_P (dC, dI) vwCl [] U.heap ∧ va_K (dC, dI) vwCl [] U ∧ va_D (fun _ => True) [])) (va_Qi (fun (r : Int32) (_ : Unit) => r = nI (bs_IV b9)) (fun (_ : Unit) t => va_P (dC, dI) vwCl [] t.heap ∧ va_K (dC, dI) vwCl [] t ∧ va_D (va_A [] sz) []) (va_A [] sz)) 0 0 (va_A [] sz) := by
  refine Met.ofW (cc := cMO_inverse) (maxL := 3) (ret := (some .int)) (by decide) rfl ?_
  intro p e s m args below meth c s₁ Bo9 hml hv
  obtain ⟨rfl, hsz, hP, hK, hD0⟩ := hv
  have hx := Bo9.exec
  have hb := Bo9.bytes
  have hr := Bo9.returns
  have hts := fun w (h : w ∈ wT) => atoms_spec (ws := wsMO_inverse) Bo9.pre w (List.mem_cons_of_mem _ h)
  have hown : s.vm.findClass RMO = some m.cls := findClass_of_methodNamed Bo9.named
  have hlocks := Bo9.notSynchronized
  subst hsz
  have hD := hD0.self (sz := s.heap.size)
  generalize hAe : va_A [] s.heap.size = A at hD ⊢
  have hA : ∀ q : Nat, s.heap.size ≤ q → A q := fun q h => by rw [← hAe]; exact Or.inr h
  have hl := lv_entry ([.int (nI b9)]) (n := 3) (Nat.le_of_ble_eq_true rfl)
  rw [lg_entry_eq]
  generalize (lg_sl ([.int (nI b9)]) ++ List.replicate (3 - (lg_sl ([.int (nI b9)])).length) Slot.unset).toArray = ls at hl ⊢
  have hl : lv_has ls 3 [(0, .int (nI b9))] := hl
  refine xs_q (fun H Q hH hQ => ?_)
  have hS : va_S A s.heap H [] := by rw [hH]; exact va_S.rf
  have hP : va_P (dC, dI) vwCl [] H := by rw [hH]; exact hP
  refine lv_iconst (v := nI 0) hx hb dMO_inverse_0 (by decide) ?_
  refine lv_istore_n (lv' := [(1, .int (nI 0)), (0, .int (nI b9))]) hx hb dMO_inverse_1 rfl hl (by decide) rfl (fun ls hl => ?_)
  refine lv_iconst (v := nI 1) hx hb dMO_inverse_2 (by decide) ?_
  refine lv_istore_n (lv' := [(2, .int (nI 1)), (1, .int (nI 0)), (0, .int (nI b9))]) hx hb dMO_inverse_3 rfl hl (by decide) rfl (fun ls hl => ?_)
  have loop : ∀ (n i : Nat), i + n = 255 → ∀ (H : Heap) (locs : List Loc) (ls : Array Slot), va_P (dC, dI) vwCl [] H → va_D A [] → va_S A s.heap H locs → lv_has ls 3 [(0, .int (nI b9)), (1, .int (nI (bs_invA b9 i))), (2, .int (nI (i + 1)))] → W p l e (headSpec wsMO_inverse { frames := 1, cells := 0, slots := 0, locals := 24 }).room s m ([.int (nI b9)] : List Value).toArray below meth c H locs 0 0 Q (F0 m 4 ls []) := by
    intro n
    induction n with
    | zero =>
      intro i hi H locs ls hP hD hS hl
      obtain rfl : i = 255 := by omega
      refine lv_iload_n hx hb dMO_inverse_4 rfl (lv_at hl 2 rfl) ?_
      refine lv_sipush (v := nI 256) hx hb dMO_inverse_5 (by decide) ?_
      refine lv_icmp_ge (tgt := 32) hx hb dMO_inverse_8 (by decide) (fun _ => ?_) (fun h => absurd (nI_le (by omega) (by omega)) h)
      refine lv_iload_n hx hb dMO_inverse_32 rfl (lv_at hl 1 rfl) ?_
      have hP : va_P (dC, dI) vwCl [] H := hP
      have hD : va_D A [] := hD
      subst hQ
      exact W.iret (v := nI (bs_invA b9 255)) hx hb hr (fun t ht hW => ⟨⟨nI (bs_invA b9 255), (), rfl, congrArg nI (bs_inv b9 hb9), by rw [ht]; exact hP, va_K.moved hW.alike hK, hD⟩, hS.F ht⟩) hS.2.2 dMO_inverse_33
    | succ n ih =>
      intro i hi H locs ls hP hD hS hl
      refine lv_iload_n hx hb dMO_inverse_4 rfl (lv_at hl 2 rfl) ?_
      refine lv_sipush (v := nI 256) hx hb dMO_inverse_5 (by decide) ?_
      refine lv_icmp_ge (tgt := 32) hx hb dMO_inverse_8 (by decide) (fun h => absurd h (nI_ge (by omega) (by omega))) (fun _ => ?_)
      refine lv_iload_n hx hb dMO_inverse_11 rfl (lv_at hl 0 rfl) ?_
      refine lv_iload_n hx hb dMO_inverse_12 rfl (lv_at hl 2 rfl) ?_
      have hPc := hP.sub (ws' := []) [] rfl
      have hDc := hD.sub (ws' := []) [] (by decide) rfl
      have hKc := hK.sub (tys' := []) [] rfl
      have hFc := va_free (wc := []) hD hS hA [] rfl
      refine va_calli (va_runS (As := [.int (nI b9), .int (nI (i + 1))]) (rest := []) ⟨hx, hb, hml, hown, hts⟩ (c_MO_product l dC dI H.size b9 (i + 1) hb9 (by omega)) (va_cwS 2 hts (wT_3 w_m_MO_72 w_t_MO_product w_n_MO w_c_MO_product) rfl rfl rfl (by decide +kernel) ⟨Nat.le_of_ble_eq_true rfl, Nat.le_of_ble_eq_true rfl⟩) ⟨fun a U g mk q => by obtain ⟨q0, q1, qP, qK, qD⟩ := q; exact ⟨q0, q1, qP, va_K.moved (u := U) (U := U.calling g mk a) (Vm.Alike.refl U.vm) qK, qD⟩, fun U hU hW => ⟨rfl, by rw [hU], by rw [hU]; exact hPc, va_K.moved hW.alike hKc, hDc.weaken (fun _ _ _ _ => trivial)⟩⟩ rfl rfl hl.1 rfl (lv_room (Nat.le_of_ble_eq_true rfl)) dMO_inverse_13 ⟨Nat.zero_le _, Nat.zero_le _⟩) hS (fun q _ h => hFc q h) hFc (fun r u t H1 locs ht hvm hw hB hz1 hk1 hS => ?_)
      obtain ⟨hP1, hK1, hD1⟩ := hB
      rw [ht] at hP1
      have hK1 := va_K.moved hvm.symm hK1
      have hw : r = nI (bs_prod b9 (i + 1)) := hw
      subst hw
      obtain ⟨hP, hD⟩ := va_join (wr := []) (w1 := []) hP hD [] [] rfl rfl (by decide) (by decide) hk1 hFc hP1 hD1
      generalize H1 = H at hP hS ⊢
      have hP : va_P (dC, dI) vwCl [] H := hP
      have hD : va_D A [] := hD
      refine lv_iconst (v := nI 1) hx hb dMO_inverse_16 (by decide) ?_
      have q0 := bs_prod_lt b9 (i + 1) hb9
      have k1 : ∀ (H : Heap) (locs : List Loc), va_P (dC, dI) vwCl [] H → va_D A [] → va_S A s.heap H locs → W p l e (headSpec wsMO_inverse { frames := 1, cells := 0, slots := 0, locals := 24 }).room s m ([.int (nI b9)] : List Value).toArray below meth c H locs 0 0 Q (F0 m 25 ls [.int (nI (bs_invA b9 (i + 1)))]) := by
        intro H locs hP hD hS
        refine lv_istore_n (lv' := [(1, .int (nI (bs_invA b9 (i + 1)))), (0, .int (nI b9)), (2, .int (nI (i + 1)))]) hx hb dMO_inverse_25 rfl hl (by decide) rfl (fun ls hl => ?_)
        refine lv_iinc (k := 2) (v := nI (i + 1 + 1)) (lv' := [(2, .int (nI (i + 1 + 1))), (1, .int (nI (bs_invA b9 (i + 1)))), (0, .int (nI b9))]) hx hb dMO_inverse_26 hl rfl (xi_1 _) (by decide) rfl (fun ls hl => ?_)
        refine lv_goto (tgt := 4) hx hb dMO_inverse_29 (by decide) ?_
        have hP : va_P (dC, dI) vwCl [] H := hP
        have hD : va_D A [] := hD
        have hl := lv_sub hl (l' := [(0, .int (nI b9)), (1, .int (nI (bs_invA b9 (i + 1)))), (2, .int (nI (i + 1 + 1)))]) [2, 1, 0] rfl
        have hl : lv_has ls 3 [(0, .int (nI b9)), (1, .int (nI (bs_invA b9 (i + 1)))), (2, .int (nI (i + 1 + 1)))] := hl
        exact ih (i + 1) (by omega) H _ ls hP hD hS hl
      refine lv_icmp_ne (tgt := 24) hx hb dMO_inverse_17 (by decide) (fun hc => ?_) (fun hc => ?_)
      · refine lv_iload_n hx hb dMO_inverse_24 rfl (lv_at hl 1 rfl) ?_
        refine xt_i (y := nI (bs_invA b9 (i + 1))) (congrArg nI (bs_ivn (fun q => hc (by rw [q])))) ?_
        have hP : va_P (dC, dI) vwCl [] H := hP
        have hD : va_D A [] := hD
        exact k1 H _ hP hD hS
      · refine lv_iload_n hx hb dMO_inverse_20 rfl (lv_at hl 2 rfl) ?_
        refine lv_goto (tgt := 25) hx hb dMO_inverse_21 (by decide) ?_
        refine xt_i (y := nI (bs_invA b9 (i + 1))) (congrArg nI (bs_ivy ((nI_eq (by omega) (by decide)).mp hc))) ?_
        have hP : va_P (dC, dI) vwCl [] H := hP
        have hD : va_D A [] := hD
        exact k1 H _ hP hD hS
  have hP : va_P (dC, dI) vwCl [] H := hP
  have hD : va_D A [] := hD
  have hl := lv_sub hl (l' := [(0, .int (nI b9)), (1, .int (nI 0)), (2, .int (nI 1))]) [2, 1, 0] rfl
  have hl : lv_has ls 3 [(0, .int (nI b9)), (1, .int (nI (bs_invA b9 0))), (2, .int (nI (0 + 1)))] := hl
  exact loop (255 - 0) 0 (by omega) H _ ls hP hD hS hl
set_option maxHeartbeats 4000000 in
set_option maxRecDepth 100000 in
theorem c_MO_spread (l : Launch) (dC : Nat → ClassId) (dI : Nat → Nat → Nat) (sz : Nat) (c9 : Nat) (hc9 : c9 < 256) : Met l yMO_spread wsMO_spread { frames := 0, cells := 0, slots := 0, locals := 0 } (va_Pc [.int (nI c9)] (fun U => U.heap.size = sz ∧ va_P (dC, dI) vwCl [] U.heap ∧ va_K (dC, dI) vwCl [] U ∧ va_D (fun _ => True) [])) (va_Qi (fun (r : Int32) (_ : Unit) => r = nI (bs_sp c9 8)) (fun (_ : Unit) t => va_P (dC, dI) vwCl [] t.heap ∧ va_K (dC, dI) vwCl [] t ∧ va_D (va_A [] sz) []) (va_A [] sz)) 0 0 (va_A [] sz) := by
  refine Met.ofW (cc := cMO_spread) (maxL := 5) (ret := (some .int)) (by decide) rfl ?_
  intro p e s m args below meth c s₁ Bo9 hml hv
  obtain ⟨rfl, hsz, hP, hK, hD0⟩ := hv
  have hx := Bo9.exec
  have hb := Bo9.bytes
  have hr := Bo9.returns
  have hts := fun w (h : w ∈ wT) => atoms_spec (ws := wsMO_spread) Bo9.pre w (List.mem_cons_of_mem _ h)
  have hown : s.vm.findClass RMO = some m.cls := findClass_of_methodNamed Bo9.named
  have hlocks := Bo9.notSynchronized
  subst hsz
  have hD := hD0.self (sz := s.heap.size)
  generalize hAe : va_A [] s.heap.size = A at hD ⊢
  have hA : ∀ q : Nat, s.heap.size ≤ q → A q := fun q h => by rw [← hAe]; exact Or.inr h
  have hl := lv_entry ([.int (nI c9)]) (n := 5) (Nat.le_of_ble_eq_true rfl)
  rw [lg_entry_eq]
  generalize (lg_sl ([.int (nI c9)]) ++ List.replicate (5 - (lg_sl ([.int (nI c9)])).length) Slot.unset).toArray = ls at hl ⊢
  have hl : lv_has ls 5 [(0, .int (nI c9))] := hl
  refine xs_q (fun H Q hH hQ => ?_)
  have hS : va_S A s.heap H [] := by rw [hH]; exact va_S.rf
  have hP : va_P (dC, dI) vwCl [] H := by rw [hH]; exact hP
  refine lv_iconst (v := nI 0) hx hb dMO_spread_0 (by decide) ?_
  refine lv_istore_n (lv' := [(1, .int (nI 0)), (0, .int (nI c9))]) hx hb dMO_spread_1 rfl hl (by decide) rfl (fun ls hl => ?_)
  refine lv_iconst (v := nI 0) hx hb dMO_spread_2 (by decide) ?_
  refine lv_istore_n (lv' := [(2, .int (nI 0)), (1, .int (nI 0)), (0, .int (nI c9))]) hx hb dMO_spread_3 rfl hl (by decide) rfl (fun ls hl => ?_)
  have loop : ∀ (n i : Nat), i + n = 8 → ∀ (H : Heap) (locs : List Loc) (ls : Array Slot), va_P (dC, dI) vwCl [] H → va_D A [] → va_S A s.heap H locs → lv_has ls 5 [(0, .int (nI c9)), (1, .int (nI (bs_sp c9 i))), (2, .int (nI i))] → W p l e (headSpec wsMO_spread { frames := 0, cells := 0, slots := 0, locals := 0 }).room s m ([.int (nI c9)] : List Value).toArray below meth c H locs 0 0 Q (F0 m 4 ls []) := by
    intro n
    induction n with
    | zero =>
      intro i hi H locs ls hP hD hS hl
      obtain rfl : i = 8 := by omega
      refine lv_iload_n hx hb dMO_spread_4 rfl (lv_at hl 2 rfl) ?_
      refine lv_bipush (v := nI 8) hx hb dMO_spread_5 (by decide) ?_
      refine lv_icmp_ge (tgt := 69) hx hb dMO_spread_7 (by decide) (fun _ => ?_) (fun h => absurd (nI_le (by omega) (by omega)) h)
      refine lv_iload_n hx hb dMO_spread_69 rfl (lv_at hl 1 rfl) ?_
      have hP : va_P (dC, dI) vwCl [] H := hP
      have hD : va_D A [] := hD
      subst hQ
      exact W.iret (v := nI (bs_sp c9 8)) hx hb hr (fun t ht hW => ⟨⟨nI (bs_sp c9 8), (), rfl, rfl, by rw [ht]; exact hP, va_K.moved hW.alike hK, hD⟩, hS.F ht⟩) hS.2.2 dMO_spread_70
    | succ n ih =>
      intro i hi H locs ls hP hD hS hl
      refine lv_iload_n hx hb dMO_spread_4 rfl (lv_at hl 2 rfl) ?_
      refine lv_bipush (v := nI 8) hx hb dMO_spread_5 (by decide) ?_
      refine lv_icmp_ge (tgt := 69) hx hb dMO_spread_7 (by decide) (fun h => absurd h (nI_ge (by omega) (by omega))) (fun _ => ?_)
      refine lv_bipush (v := nI 99) hx hb dMO_spread_10 (by decide) ?_
      refine lv_iload_n hx hb dMO_spread_12 rfl (lv_at hl 2 rfl) ?_
      refine lv_ishr hx hb dMO_spread_13 ?_
      refine xt_i (y := nI (99 / 2 ^ i)) (xi_shr (by decide) (by omega)) ?_
      refine lv_iconst (v := nI 1) hx hb dMO_spread_14 (by decide) ?_
      refine lv_iand hx hb dMO_spread_15 ?_
      refine xt_i (y := nI ((99 / 2 ^ i) % 2)) (xi_and_1 _) ?_
      refine lv_istore_n (lv' := [(3, .int (nI ((99 / 2 ^ i) % 2))), (0, .int (nI c9)), (1, .int (nI (bs_sp c9 i))), (2, .int (nI i))]) hx hb dMO_spread_16 rfl hl (by decide) rfl (fun ls hl => ?_)
      refine lv_iconst (v := nI 0) hx hb dMO_spread_17 (by decide) ?_
      refine lv_istore (lv' := [(4, .int (nI 0)), (3, .int (nI ((99 / 2 ^ i) % 2))), (0, .int (nI c9)), (1, .int (nI (bs_sp c9 i))), (2, .int (nI i))]) hx hb dMO_spread_18 hl (by decide) rfl (fun ls hl => ?_)
      have loop2 : ∀ (n_k9 k9 : Nat), k9 + n_k9 = 5 → ∀ (H : Heap) (locs : List Loc) (ls : Array Slot), va_P (dC, dI) vwCl [] H → va_D A [] → va_S A s.heap H locs → lv_has ls 5 [(0, .int (nI c9)), (1, .int (nI (bs_sp c9 i))), (2, .int (nI i)), (3, .int (nI (bs_sa c9 i k9))), (4, .int (nI k9))] → W p l e (headSpec wsMO_spread { frames := 0, cells := 0, slots := 0, locals := 0 }).room s m ([.int (nI c9)] : List Value).toArray below meth c H locs 0 0 Q (F0 m 20 ls []) := by
        intro n_k9
        induction n_k9 with
        | zero =>
          intro k9 hi_k9 H locs ls hP hD hS hl
          obtain rfl : k9 = 5 := by omega
          refine lv_iload hx hb dMO_spread_20 (lv_at hl 4 rfl) ?_
          refine lv_iconst (v := nI 5) hx hb dMO_spread_22 (by decide) ?_
          refine lv_icmp_ge (tgt := 57) hx hb dMO_spread_23 (by decide) (fun _ => ?_) (fun h => absurd (nI_le (by omega) (by omega)) h)
          refine lv_iload_n hx hb dMO_spread_57 rfl (lv_at hl 1 rfl) ?_
          refine lv_iload_n hx hb dMO_spread_58 rfl (lv_at hl 3 rfl) ?_
          refine lv_iload_n hx hb dMO_spread_59 rfl (lv_at hl 2 rfl) ?_
          refine lv_ishl hx hb dMO_spread_60 ?_
          refine xt_i (y := nI ((bs_sa c9 i 5) * 2 ^ i)) (xi_shl _ _ (by omega)) ?_
          refine lv_ior hx hb dMO_spread_61 ?_
          refine xt_i (y := nI (bs_sp c9 (i + 1))) (bs_nIor _ _) ?_
          refine lv_istore_n (lv' := [(1, .int (nI (bs_sp c9 (i + 1)))), (0, .int (nI c9)), (2, .int (nI i)), (3, .int (nI (bs_sa c9 i 5))), (4, .int (nI 5))]) hx hb dMO_spread_62 rfl hl (by decide) rfl (fun ls hl => ?_)
          refine lv_iinc (k := 2) (v := nI (i + 1)) (lv' := [(2, .int (nI (i + 1))), (1, .int (nI (bs_sp c9 (i + 1)))), (0, .int (nI c9)), (3, .int (nI (bs_sa c9 i 5))), (4, .int (nI 5))]) hx hb dMO_spread_63 hl rfl (xi_1 _) (by decide) rfl (fun ls hl => ?_)
          refine lv_goto (tgt := 4) hx hb dMO_spread_66 (by decide) ?_
          have hP : va_P (dC, dI) vwCl [] H := hP
          have hD : va_D A [] := hD
          have hl := lv_sub hl (l' := [(0, .int (nI c9)), (1, .int (nI (bs_sp c9 (i + 1)))), (2, .int (nI (i + 1)))]) [2, 1, 0] rfl
          have hl : lv_has ls 5 [(0, .int (nI c9)), (1, .int (nI (bs_sp c9 (i + 1)))), (2, .int (nI (i + 1)))] := hl
          exact ih (i + 1) (by omega) H _ ls hP hD hS hl
        | succ n_k9 ih_k9 =>
          intro k9 hi_k9 H locs ls hP hD hS hl
          have q0 := bs_sx_lt k9 (show i < 8 by omega)
          refine lv_iload hx hb dMO_spread_20 (lv_at hl 4 rfl) ?_
          refine lv_iconst (v := nI 5) hx hb dMO_spread_22 (by decide) ?_
          refine lv_icmp_ge (tgt := 57) hx hb dMO_spread_23 (by decide) (fun h => absurd h (nI_ge (by omega) (by omega))) (fun _ => ?_)
          refine lv_iload_n hx hb dMO_spread_26 rfl (lv_at hl 3 rfl) ?_
          refine lv_iload_n hx hb dMO_spread_27 rfl (lv_at hl 0 rfl) ?_
          refine lv_iload hx hb dMO_spread_28 (lv_at hl 4 rfl) ?_
          have k1 : ∀ (H : Heap) (locs : List Loc), va_P (dC, dI) vwCl [] H → va_D A [] → va_S A s.heap H locs → W p l e (headSpec wsMO_spread { frames := 0, cells := 0, slots := 0, locals := 0 }).room s m ([.int (nI c9)] : List Value).toArray below meth c H locs 0 0 Q (F0 m 46 ls [.int (nI (bs_sx i k9)), .int (nI c9), .int (nI (bs_sa c9 i k9))]) := by
            intro H locs hP hD hS
            refine lv_ishr hx hb dMO_spread_46 ?_
            refine xt_i (y := nI (c9 / 2 ^ (bs_sx i k9))) (xi_shr (by omega) (by omega)) ?_
            refine lv_iconst (v := nI 1) hx hb dMO_spread_47 (by decide) ?_
            refine lv_iand hx hb dMO_spread_48 ?_
            refine xt_i (y := nI ((c9 / 2 ^ (bs_sx i k9)) % 2)) (xi_and_1 _) ?_
            refine lv_ixor hx hb dMO_spread_49 ?_
            refine xt_i (y := nI ((bs_sa c9 i k9) ^^^ ((c9 / 2 ^ (bs_sx i k9)) % 2))) (bs_nI_xor _ _) ?_
            refine lv_istore_n (lv' := [(3, .int (nI ((bs_sa c9 i k9) ^^^ ((c9 / 2 ^ (bs_sx i k9)) % 2)))), (0, .int (nI c9)), (1, .int (nI (bs_sp c9 i))), (2, .int (nI i)), (4, .int (nI k9))]) hx hb dMO_spread_50 rfl hl (by decide) rfl (fun ls hl => ?_)
            refine lv_iinc (k := 4) (v := nI (k9 + 1)) (lv' := [(4, .int (nI (k9 + 1))), (3, .int (nI ((bs_sa c9 i k9) ^^^ ((c9 / 2 ^ (bs_sx i k9)) % 2)))), (0, .int (nI c9)), (1, .int (nI (bs_sp c9 i))), (2, .int (nI i))]) hx hb dMO_spread_51 hl rfl (xi_1 _) (by decide) rfl (fun ls hl => ?_)
            refine lv_goto (tgt := 20) hx hb dMO_spread_54 (by decide) ?_
            have hP : va_P (dC, dI) vwCl [] H := hP
            have hD : va_D A [] := hD
            have hl := lv_sub hl (l' := [(0, .int (nI c9)), (1, .int (nI (bs_sp c9 i))), (2, .int (nI i)), (3, .int (nI ((bs_sa c9 i k9) ^^^ ((c9 / 2 ^ (bs_sx i k9)) % 2)))), (4, .int (nI (k9 + 1)))]) [2, 3, 4, 1, 0] rfl
            have hl : lv_has ls 5 [(0, .int (nI c9)), (1, .int (nI (bs_sp c9 i))), (2, .int (nI i)), (3, .int (nI (bs_sa c9 i (k9 + 1)))), (4, .int (nI (k9 + 1)))] := hl
            exact ih_k9 (k9 + 1) (by omega) H _ ls hP hD hS hl
          refine lv_if_ne (tgt := 37) hx hb dMO_spread_30 (by decide) (fun hc => ?_) (fun hc => ?_)
          · refine lv_iload_n hx hb dMO_spread_37 rfl (lv_at hl 2 rfl) ?_
            refine lv_iconst (v := nI 3) hx hb dMO_spread_38 (by decide) ?_
            refine lv_iadd hx hb dMO_spread_39 ?_
            refine xt_i (y := nI (i + 3)) (nI_add _ _) ?_
            refine lv_iload hx hb dMO_spread_40 (lv_at hl 4 rfl) ?_
            refine lv_iadd hx hb dMO_spread_42 ?_
            refine xt_i (y := nI (i + 3 + k9)) (nI_add _ _) ?_
            refine lv_bipush (v := nI 8) hx hb dMO_spread_43 (by decide) ?_
            refine lv_irem hx hb dMO_spread_45 (by decide) ?_
            refine xt_i (y := nI ((i + 3 + k9) % 8)) (pk_rem (by omega) (by decide) (by decide)) ?_
            refine xt_i (y := nI (bs_sx i k9)) (congrArg nI (bs_sx_n (fun q => hc (by rw [q]; rfl)))) ?_
            have hP : va_P (dC, dI) vwCl [] H := hP
            have hD : va_D A [] := hD
            exact k1 H _ hP hD hS
          · refine lv_iload_n hx hb dMO_spread_33 rfl (lv_at hl 2 rfl) ?_
            refine lv_goto (tgt := 46) hx hb dMO_spread_34 (by decide) ?_
            refine xt_i (y := nI (bs_sx i k9)) (congrArg nI (bs_sx_0 ((nI_eq (by omega) (by decide)).mp hc))) ?_
            have hP : va_P (dC, dI) vwCl [] H := hP
            have hD : va_D A [] := hD
            exact k1 H _ hP hD hS
      have hP : va_P (dC, dI) vwCl [] H := hP
      have hD : va_D A [] := hD
      have hl := lv_sub hl (l' := [(0, .int (nI c9)), (1, .int (nI (bs_sp c9 i))), (2, .int (nI i)), (3, .int (nI ((99 / 2 ^ i) % 2))), (4, .int (nI 0))]) [2, 3, 4, 1, 0] rfl
      have hl : lv_has ls 5 [(0, .int (nI c9)), (1, .int (nI (bs_sp c9 i))), (2, .int (nI i)), (3, .int (nI (bs_sa c9 i 0))), (4, .int (nI 0))] := hl
      exact loop2 (5 - 0) 0 (by omega) H _ ls hP hD hS hl
  have hP : va_P (dC, dI) vwCl [] H := hP
  have hD : va_D A [] := hD
  have hl := lv_sub hl (l' := [(0, .int (nI c9)), (1, .int (nI 0)), (2, .int (nI 0))]) [2, 1, 0] rfl
  have hl : lv_has ls 5 [(0, .int (nI c9)), (1, .int (nI (bs_sp c9 0))), (2, .int (nI 0))] := hl
  exact loop (8 - 0) 0 (by omega) H _ ls hP hD hS hl
