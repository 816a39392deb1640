/-! Math.floorMod; Digest; Shelf -/
theorem dJM_floorMod_0 : decode cJM_floorMod 0 = .ok (.iload_n 0, 1) := by decide +kernel
theorem dJM_floorMod_1 : decode cJM_floorMod 1 = .ok (.iload_n 1, 1) := by decide +kernel
theorem dJM_floorMod_2 : decode cJM_floorMod 2 = .ok (.irem, 1) := by decide +kernel
theorem dJM_floorMod_3 : decode cJM_floorMod 3 = .ok (.istore_n 2, 1) := by decide +kernel
theorem dJM_floorMod_4 : decode cJM_floorMod 4 = .ok (.iload_n 0, 1) := by decide +kernel
theorem dJM_floorMod_5 : decode cJM_floorMod 5 = .ok (.iload_n 1, 1) := by decide +kernel
theorem dJM_floorMod_6 : decode cJM_floorMod 6 = .ok (.ixor, 1) := by decide +kernel
theorem dJM_floorMod_7 : decode cJM_floorMod 7 = .ok (.ifCond .ge 11, 3) := by decide +kernel
theorem dJM_floorMod_10 : decode cJM_floorMod 10 = .ok (.iload_n 2, 1) := by decide +kernel
theorem dJM_floorMod_11 : decode cJM_floorMod 11 = .ok (.ifCond .eq 7, 3) := by decide +kernel
theorem dJM_floorMod_14 : decode cJM_floorMod 14 = .ok (.iload_n 2, 1) := by decide +kernel
theorem dJM_floorMod_15 : decode cJM_floorMod 15 = .ok (.iload_n 1, 1) := by decide +kernel
theorem dJM_floorMod_16 : decode cJM_floorMod 16 = .ok (.iadd, 1) := by decide +kernel
theorem dJM_floorMod_17 : decode cJM_floorMod 17 = .ok (.ireturn, 1) := by decide +kernel
theorem dJM_floorMod_18 : decode cJM_floorMod 18 = .ok (.iload_n 2, 1) := by decide +kernel
theorem dJM_floorMod_19 : decode cJM_floorMod 19 = .ok (.ireturn, 1) := by decide +kernel
set_option maxHeartbeats 4000000 in
set_option maxRecDepth 100000 in
theorem c_JM_floorMod (l : Launch) (dC : Nat → ClassId) (dI : Nat → Nat → Nat) (sz : Nat) (a : Nat) (ha : a < 2 ^ 31) : Met l yJM_floorMod wsJM_floorMod { frames := 0, cells := 0, slots := 0, locals := 0 } (va_Pc [.int (nI a), .int (nI 9)] (fun U => U.heap.size = sz ∧ va_P (dC, dI) vwCl [] U.heap ∧ va_K (dC, dI) vwCl [] U ∧ va_D (fun _ => True) [])) (va_Qi (fun (r : Int32) (_ : Unit) => r = nI (a % 9)) (fun (_ : Unit) t => va_P (dC, dI) vwCl [] t.heap ∧ va_K (dC, dI) vwCl [] t ∧ va_D (va_A [] sz) []) (va_A [] sz)) 0 0 (va_A [] sz) := by
  refine va_MetF (cc := cJM_floorMod) (maxL := 3) (ret := (some .int)) (by decide +kernel) rfl ?_
  intro p e s m args below meth c s₁ B hml hv
  obtain ⟨rfl, hsz, hP, hK, hD0⟩ := hv
  have hx := B.exec
  have hb := B.bytes
  have hr := B.returns
  have hts := fun w (h : w ∈ wT) => atoms_spec (ws := wsJM_floorMod) B.pre w (List.mem_cons_of_mem _ h)
  have hown : s.vm.findClass RJM = some m.cls := findClass_of_methodNamed B.named
  have hlocks := B.notSynchronized
  subst hsz
  have hD := hD0.self (sz := s.heap.size)
  generalize hAe : va_A [] s.heap.size = A at hD ⊢
  have hA : ∀ q : Nat, s.heap.size ≤ q → A q := fun q h => by rw [← hAe]; exact Or.inr h
  have hl := lv_entry ([.int (nI a), .int (nI 9)]) (n := 3) (Nat.le_of_ble_eq_true rfl)
  rw [lg_entry_eq]
  generalize (lg_sl ([.int (nI a), .int (nI 9)]) ++ List.replicate (3 - (lg_sl ([.int (nI a), .int (nI 9)])).length) Slot.unset).toArray = ls at hl ⊢
  have hl : lv_has ls 3 [(0, .int (nI a)), (1, .int (nI 9))] := hl
  refine xs_q (fun H Q hH hQ => ?_)
  have hS : va_S A s.heap H [] := by rw [hH]; exact va_S.rf
  have hP : va_P (dC, dI) vwCl [] H := by rw [hH]; exact hP
  refine lv_iload_n hx hb dJM_floorMod_0 rfl (lv_at hl 0 rfl) ?_
  refine lv_iload_n hx hb dJM_floorMod_1 rfl (lv_at hl 1 rfl) ?_
  refine lv_irem hx hb dJM_floorMod_2 (by decide) ?_
  refine xt_i (y := nI (a % 9)) (pk_rem (by omega) (by decide) (by decide)) ?_
  refine lv_istore_n (lv' := [(2, .int (nI (a % 9))), (0, .int (nI a)), (1, .int (nI 9))]) hx hb dJM_floorMod_3 rfl hl (by decide) rfl (fun ls hl => ?_)
  refine lv_iload_n hx hb dJM_floorMod_4 rfl (lv_at hl 1 rfl) ?_
  refine lv_iload_n hx hb dJM_floorMod_5 rfl (lv_at hl 2 rfl) ?_
  refine lv_ixor hx hb dJM_floorMod_6 ?_
  refine lv_if_ge (tgt := 18) hx hb dJM_floorMod_7 (by decide) (fun _ => ?_) (fun h => absurd (by rw [bs_nI_xor]; exact nI_pos' (Nat.xor_lt_two_pow (n := 31) ha (by decide))) h)
  refine lv_iload_n hx hb dJM_floorMod_18 rfl (lv_at hl 0 rfl) ?_
  have hP : va_P (dC, dI) vwCl [] H := hP
  have hD : va_D A [] := hD
  subst hQ
  exact W.iret (v := nI (a % 9)) hx hb hr (fun t ht hW => ⟨⟨nI (a % 9), (), rfl, rfl, by rw [ht]; exact hP, va_K.moved hW.alike hK, hD⟩, hS.F ht⟩) hS.2.2 dJM_floorMod_19
set_option maxHeartbeats 4000000 in
set_option maxRecDepth 100000 in
theorem c_DG_reduced (l : Launch) (dC : Nat → ClassId) (dI : Nat → Nat → Nat) (sz : Nat) (n : Nat) (hn : n < 2 * 2305843009213693951) : Met l yDG_reduced wsDG_reduced { frames := 0, cells := 0, slots := 0, locals := 0 } (va_Pc [.long (lN n)] (fun U => U.heap.size = sz ∧ va_P (dC, dI) vwCl [] U.heap ∧ va_K (dC, dI) vwCl [] U ∧ va_D (fun _ => True) [])) (va_Ql (fun (r : Int64) (_ : Unit) => r = lN (n % 2305843009213693951)) (fun (_ : Unit) t => va_P (dC, dI) vwCl [] t.heap ∧ va_K (dC, dI) vwCl [] t ∧ va_D (va_A [] sz) []) (va_A [] sz)) 0 0 (va_A [] sz) := by
  refine Met.ofW (cc := cDG_reduced) (maxL := 4) (ret := (some .long)) (by decide) rfl ?_
  intro p e s m args below meth c s₁ B hml hv
  obtain ⟨rfl, hsz, hP, hK, hD0⟩ := hv
  have hx := B.exec
  have hb := B.bytes
  have hr := B.returns
  have hts := fun w (h : w ∈ wT) => atoms_spec (ws := wsDG_reduced) B.pre w (List.mem_cons_of_mem _ h)
  have hown : s.vm.findClass RDG = some m.cls := findClass_of_methodNamed B.named
  have hlocks := B.notSynchronized
  subst hsz
  have hD := hD0.self (sz := s.heap.size)
  generalize hAe : va_A [] s.heap.size = A at hD ⊢
  have hA : ∀ q : Nat, s.heap.size ≤ q → A q := fun q h => by rw [← hAe]; exact Or.inr h
  have hl := lv_entry ([.long (lN n)]) (n := 4) (Nat.le_of_ble_eq_true rfl)
  rw [lg_entry_eq]
  generalize (lg_sl ([.long (lN n)]) ++ List.replicate (4 - (lg_sl ([.long (lN n)])).length) Slot.unset).toArray = ls at hl ⊢
  have hl : lv_has ls 4 [(0, .long (lN n))] := hl
  refine xs_q (fun H Q hH hQ => ?_)
  have hS : va_S A s.heap H [] := by rw [hH]; exact va_S.rf
  have hP : va_P (dC, dI) vwCl [] H := by rw [hH]; exact hP
  refine lv_lload_n hx hb dDG_reduced_0 rfl (lv_at hl 0 rfl) ?_
  refine lv_ldc2 (v := 2305843009213693951) hx hb hown (hts _ w_j_DG_25) dDG_reduced_1 ?_
  refine lv_land hx hb dDG_reduced_4 ?_
  refine lv_lload_n hx hb dDG_reduced_5 rfl (lv_at hl 0 rfl) ?_
  refine lv_bipush (v := nI 61) hx hb dDG_reduced_6 (by decide) ?_
  refine lv_lushr (v := j_lushr (lN n) (nI 61)) hx hb dDG_reduced_8 rfl ?_
  refine lv_ladd hx hb dDG_reduced_9 ?_
  refine xt_l (y := lN (n % 2305843009213693952 + n / 2305843009213693952)) (bs_rd1 (by omega)) ?_
  refine lv_lstore_n (lv' := [(2, .long (lN (n % 2305843009213693952 + n / 2305843009213693952))), (0, .long (lN n))]) hx hb dDG_reduced_10 rfl hl (by decide) rfl (fun ls hl => ?_)
  refine lv_lload_n hx hb dDG_reduced_11 rfl (lv_at hl 0 rfl) ?_
  refine lv_ldc2 (v := 2305843009213693951) hx hb hown (hts _ w_j_DG_25) dDG_reduced_12 ?_
  refine W.lcmp hx hb dDG_reduced_15 ?_
  have key := bs_fold (n := n) rfl hn
  have e7 : (2305843009213693951 : Int64) = lN 2305843009213693951 := by decide +kernel
  refine lv_if_lt (tgt := 27) hx hb dDG_reduced_16 (by decide) (fun hc => ?_) (fun hc => ?_)
  · have hc2 := (lg_cmp_lt _ _).mp hc
    rw [e7, pk_lLT (by omega) (by decide)] at hc2
    rw [if_neg (by omega)] at key
    refine lv_lload_n hx hb dDG_reduced_27 rfl (lv_at hl 0 rfl) ?_
    have hP : va_P (dC, dI) vwCl [] H := hP
    have hD : va_D A [] := hD
    subst hQ
    exact W.lret (v := lN (n % 2305843009213693952 + n / 2305843009213693952)) hx hb hr (fun t ht hW => ⟨⟨lN (n % 2305843009213693952 + n / 2305843009213693952), (), rfl, congrArg lN key, by rw [ht]; exact hP, va_K.moved hW.alike hK, hD⟩, hS.F ht⟩) hS.2.2 dDG_reduced_28
  · have hc2 : ¬ lN (n % 2305843009213693952 + n / 2305843009213693952) < (2305843009213693951 : Int64) := fun q => hc ((lg_cmp_lt _ _).mpr q)
    rw [e7, pk_lLT (by omega) (by decide)] at hc2
    rw [if_pos (by omega)] at key
    refine lv_lload_n hx hb dDG_reduced_19 rfl (lv_at hl 0 rfl) ?_
    refine lv_ldc2 (v := 2305843009213693951) hx hb hown (hts _ w_j_DG_25) dDG_reduced_20 ?_
    refine lv_lsub hx hb dDG_reduced_23 ?_
    refine lv_goto (tgt := 28) hx hb dDG_reduced_24 (by decide) ?_
    have hP : va_P (dC, dI) vwCl [] H := hP
    have hD : va_D A [] := hD
    subst hQ
    exact W.lret (v := (lN (n % 2305843009213693952 + n / 2305843009213693952)) - 2305843009213693951) hx hb hr (fun t ht hW => ⟨⟨(lN (n % 2305843009213693952 + n / 2305843009213693952)) - 2305843009213693951, (), rfl, by rw [e7, lN_sub (by omega)]; exact congrArg lN key, by rw [ht]; exact hP, va_K.moved hW.alike hK, hD⟩, hS.F ht⟩) hS.2.2 dDG_reduced_28
set_option maxHeartbeats 4000000 in
set_option maxRecDepth 100000 in
theorem c_DG_timesFactorPlus (l : Launch) (dC : Nat → ClassId) (dI : Nat → Nat → Nat) (sz : Nat) (s9 w9 : Nat) (h1 : s9 < 2305843009213693951) (h2 : w9 < 4294967296) : Met l yDG_timesFactorPlus wsDG_timesFactorPlus { frames := 1, cells := 0, slots := 0, locals := 23 } (va_Pc [.long (lN s9), .long (lN w9)] (fun U => U.heap.size = sz ∧ va_P (dC, dI) vwCl [] U.heap ∧ va_K (dC, dI) vwCl [] U ∧ va_D (fun _ => True) [])) (va_Ql (fun (r : Int64) (_ : Unit) => r = lN (bs_fur s9 w9)) (fun (_ : Unit) t => va_P (dC, dI) vwCl [] t.heap ∧ va_K (dC, dI) vwCl [] t ∧ va_D (va_A [] sz) []) (va_A [] sz)) 0 0 (va_A [] sz) := by
  refine Met.ofW (cc := cDG_timesFactorPlus) (maxL := 8) (ret := (some .long)) (by decide) rfl ?_
  intro p e s m args below meth c s₁ B hml hv
  obtain ⟨rfl, hsz, hP, hK, hD0⟩ := hv
  have hx := B.exec
  have hb := B.bytes
  have hr := B.returns
  have hts := fun w (h : w ∈ wT) => atoms_spec (ws := wsDG_timesFactorPlus) B.pre w (List.mem_cons_of_mem _ h)
  have hown : s.vm.findClass RDG = some m.cls := findClass_of_methodNamed B.named
  have hlocks := B.notSynchronized
  subst hsz
  have hD := hD0.self (sz := s.heap.size)
  generalize hAe : va_A [] s.heap.size = A at hD ⊢
  have hA : ∀ q : Nat, s.heap.size ≤ q → A q := fun q h => by rw [← hAe]; exact Or.inr h
  have hl := lv_entry ([.long (lN s9), .long (lN w9)]) (n := 8) (Nat.le_of_ble_eq_true rfl)
  rw [lg_entry_eq]
  generalize (lg_sl ([.long (lN s9), .long (lN w9)]) ++ List.replicate (8 - (lg_sl ([.long (lN s9), .long (lN w9)])).length) Slot.unset).toArray = ls at hl ⊢
  have hl : lv_has ls 8 [(0, .long (lN s9)), (2, .long (lN w9))] := hl
  refine xs_q (fun H Q hH hQ => ?_)
  have hS : va_S A s.heap H [] := by rw [hH]; exact va_S.rf
  have hP : va_P (dC, dI) vwCl [] H := by rw [hH]; exact hP
  refine lv_lload_n hx hb dDG_timesFactorPlus_0 rfl (lv_at hl 0 rfl) ?_
  refine lv_bipush (v := nI 40) hx hb dDG_timesFactorPlus_1 (by decide) ?_
  refine lv_lushr (v := j_lushr (lN s9) (nI 40)) hx hb dDG_timesFactorPlus_3 rfl ?_
  refine lv_ldc2 (v := 1000003) hx hb hown (hts _ w_j_DG_15) dDG_timesFactorPlus_4 ?_
  refine lv_lmul hx hb dDG_timesFactorPlus_7 ?_
  refine xt_l (y := lN (s9 / 1099511627776 * 1000003)) (bs_tf1 (by omega)) ?_
  refine lv_lstore (lv' := [(4, .long (lN (s9 / 1099511627776 * 1000003))), (0, .long (lN s9)), (2, .long (lN w9))]) hx hb dDG_timesFactorPlus_8 hl (by decide) rfl (fun ls hl => ?_)
  refine lv_lload_n hx hb dDG_timesFactorPlus_10 rfl (lv_at hl 1 rfl) ?_
  refine lv_ldc2 (v := 1099511627775) hx hb hown (hts _ w_j_DG_17) dDG_timesFactorPlus_11 ?_
  refine lv_land hx hb dDG_timesFactorPlus_14 ?_
  refine lv_ldc2 (v := 1000003) hx hb hown (hts _ w_j_DG_15) dDG_timesFactorPlus_15 ?_
  refine lv_lmul hx hb dDG_timesFactorPlus_18 ?_
  refine xt_l (y := lN (s9 % 1099511627776 * 1000003)) (bs_tf2 (by omega)) ?_
  refine lv_lstore (lv' := [(6, .long (lN (s9 % 1099511627776 * 1000003))), (4, .long (lN (s9 / 1099511627776 * 1000003))), (0, .long (lN s9)), (2, .long (lN w9))]) hx hb dDG_timesFactorPlus_19 hl (by decide) rfl (fun ls hl => ?_)
  refine lv_lload hx hb dDG_timesFactorPlus_21 (lv_at hl 0 rfl) ?_
  refine lv_lload hx hb dDG_timesFactorPlus_23 (lv_at hl 1 rfl) ?_
  refine lv_bipush (v := nI 21) hx hb dDG_timesFactorPlus_25 (by decide) ?_
  refine lv_lushr (v := j_lushr (lN (s9 / 1099511627776 * 1000003)) (nI 21)) hx hb dDG_timesFactorPlus_27 rfl ?_
  refine lv_ladd hx hb dDG_timesFactorPlus_28 ?_
  refine lv_lload hx hb dDG_timesFactorPlus_29 (lv_at hl 1 rfl) ?_
  refine lv_ldc2 (v := 2097151) hx hb hown (hts _ w_j_DG_19) dDG_timesFactorPlus_31 ?_
  refine lv_land hx hb dDG_timesFactorPlus_34 ?_
  refine lv_bipush (v := nI 40) hx hb dDG_timesFactorPlus_35 (by decide) ?_
  refine lv_lshl (v := j_lshl ((lN (s9 / 1099511627776 * 1000003)) &&& 2097151) (nI 40)) hx hb dDG_timesFactorPlus_37 rfl ?_
  refine lv_ladd hx hb dDG_timesFactorPlus_38 ?_
  refine lv_lload_n hx hb dDG_timesFactorPlus_39 rfl (lv_at hl 3 rfl) ?_
  refine lv_ladd hx hb dDG_timesFactorPlus_40 ?_
  refine xt_l (y := lN (s9 % 1099511627776 * 1000003 + s9 / 1099511627776 * 1000003 / 2097152 + s9 / 1099511627776 * 1000003 % 2097152 * 1099511627776 + w9)) (bs_tf3 (by omega)) ?_
  have key := bs_furC h1 h2
  have hPc := hP.sub (ws' := []) [] rfl
  have hDc := hD.sub (ws' := []) [] (by decide) rfl
  have hKc := hK.sub (tys' := []) [] rfl
  have hFc := va_free (wc := []) hD hS hA [] rfl
  refine va_calll (va_runS (As := [.long (lN (s9 % 1099511627776 * 1000003 + s9 / 1099511627776 * 1000003 / 2097152 + s9 / 1099511627776 * 1000003 % 2097152 * 1099511627776 + w9))]) (rest := []) ⟨hx, hb, hml, hown, hts⟩ (c_DG_reduced l dC dI H.size (s9 % 1099511627776 * 1000003 + s9 / 1099511627776 * 1000003 / 2097152 + s9 / 1099511627776 * 1000003 % 2097152 * 1099511627776 + w9) key.2) (va_cwS 1 hts (wT_3 w_m_DG_21 w_t_DG_reduced w_n_DG w_c_DG_reduced) rfl rfl rfl (by decide +kernel) ⟨Nat.le_of_ble_eq_true rfl, Nat.le_of_ble_eq_true rfl⟩) ⟨fun a U g mk q => by obtain ⟨q0, q1, qP, qK, qD⟩ := q; exact ⟨q0, q1, qP, va_K.moved (u := U) (U := U.calling g mk a) (Vm.Alike.refl U.vm) qK, qD⟩, fun U hU hW => ⟨rfl, by rw [hU], by rw [hU]; exact hPc, va_K.moved hW.alike hKc, hDc.weaken (fun _ _ _ _ => trivial)⟩⟩ rfl rfl hl.1 rfl (lv_room (Nat.le_of_ble_eq_true rfl)) dDG_timesFactorPlus_41 ⟨Nat.zero_le _, Nat.zero_le _⟩) hS (fun q _ h => hFc q h) hFc (fun r u t H1 locs ht hvm hw hB hz1 hk1 hS => ?_)
  obtain ⟨hP1, hK1, hD1⟩ := hB
  rw [ht] at hP1
  have hK1 := va_K.moved hvm.symm hK1
  have hw : r = lN ((s9 % 1099511627776 * 1000003 + s9 / 1099511627776 * 1000003 / 2097152 + s9 / 1099511627776 * 1000003 % 2097152 * 1099511627776 + w9) % 2305843009213693951) := hw
  subst hw
  obtain ⟨hP, hD⟩ := va_join (wr := []) (w1 := []) hP hD [] [] rfl rfl (by decide) (by decide) hk1 hFc hP1 hD1
  generalize H1 = H at hP hS ⊢
  have hP : va_P (dC, dI) vwCl [] H := hP
  have hD : va_D A [] := hD
  have hP : va_P (dC, dI) vwCl [] H := hP
  have hD : va_D A [] := hD
  subst hQ
  exact W.lret (v := lN ((s9 % 1099511627776 * 1000003 + s9 / 1099511627776 * 1000003 / 2097152 + s9 / 1099511627776 * 1000003 % 2097152 * 1099511627776 + w9) % 2305843009213693951)) hx hb hr (fun t ht hW => ⟨⟨lN ((s9 % 1099511627776 * 1000003 + s9 / 1099511627776 * 1000003 / 2097152 + s9 / 1099511627776 * 1000003 % 2097152 * 1099511627776 + w9) % 2305843009213693951), (), rfl, congrArg lN key.1, by rw [ht]; exact hP, va_K.moved hW.alike hK, hD⟩, hS.F ht⟩) hS.2.2 dDG_timesFactorPlus_44
set_option maxHeartbeats 4000000 in
set_option maxRecDepth 100000 in
theorem c_DG_of (l : Launch) (dC : Nat → ClassId) (dI : Nat → Nat → Nat) (sz : Nat) (a : Nat) (cL : ClassId) (f : Nat → Int64)  : Met l yDG_of wsDG_of { frames := 2, cells := 0, slots := 0, locals := 50 } (va_Pc [.ref a] (fun U => U.heap.size = sz ∧ va_P (dC, dI) vwCl [(a, .inl (cL, 256, .inr (.inl f)))] U.heap ∧ va_K (dC, dI) vwCl [(cL, .long)] U ∧ va_D (fun _ => True) [(a, .inl (cL, 256, .inr (.inl f)))])) (va_Ql (fun (r : Int64) (_ : Unit) => r = lN (bs_dg f 256)) (fun (_ : Unit) t => va_P (dC, dI) vwCl [(a, .inl (cL, 256, .inr (.inl f)))] t.heap ∧ va_K (dC, dI) vwCl [(cL, .long)] t ∧ va_D (va_A [(a, .inl (cL, 256, .inr (.inl f)))] sz) [(a, .inl (cL, 256, .inr (.inl f)))]) (va_A [(a, .inl (cL, 256, .inr (.inl f)))] sz)) 0 0 (va_A [(a, .inl (cL, 256, .inr (.inl f)))] sz) := by
  refine Met.ofW (cc := cDG_of) (maxL := 4) (ret := (some .long)) (by decide) rfl ?_
  intro p e s m args below meth c s₁ B hml hv
  obtain ⟨rfl, hsz, hP, hK, hD0⟩ := hv
  have hx := B.exec
  have hb := B.bytes
  have hr := B.returns
  have hts := fun w (h : w ∈ wT) => atoms_spec (ws := wsDG_of) B.pre w (List.mem_cons_of_mem _ h)
  have hown : s.vm.findClass RDG = some m.cls := findClass_of_methodNamed B.named
  have hlocks := B.notSynchronized
  subst hsz
  have hD := hD0.self (sz := s.heap.size)
  generalize hAe : va_A [(a, .inl (cL, 256, .inr (.inl f)))] s.heap.size = A at hD ⊢
  have hA : ∀ q : Nat, s.heap.size ≤ q → A q := fun q h => by rw [← hAe]; exact Or.inr h
  have hl := lv_entry ([.ref a]) (n := 4) (Nat.le_of_ble_eq_true rfl)
  rw [lg_entry_eq]
  generalize (lg_sl ([.ref a]) ++ List.replicate (4 - (lg_sl ([.ref a])).length) Slot.unset).toArray = ls at hl ⊢
  have hl : lv_has ls 4 [(0, .ref a)] := hl
  refine xs_q (fun H Q hH hQ => ?_)
  have hS : va_S A s.heap H [] := by rw [hH]; exact va_S.rf
  have hP : va_P (dC, dI) vwCl [(a, .inl (cL, 256, .inr (.inl f)))] H := by rw [hH]; exact hP
  refine lv_lconst (v := 0) hx hb dDG_of_0 (by decide) ?_
  refine lv_lstore_n (lv' := [(1, .long 0), (0, .ref a)]) hx hb dDG_of_1 rfl hl (by decide) rfl (fun ls hl => ?_)
  refine lv_aload_n hx hb dDG_of_2 rfl (lv_at hl 1 rfl) ?_
  refine va_alen (v := nI 256) hx hb hK hP 0 0 rfl rfl rfl dDG_of_3 ?_
  refine lv_iconst (v := nI 1) hx hb dDG_of_4 (by decide) ?_
  refine lv_isub hx hb dDG_of_5 ?_
  refine xt_i (y := nI (256 - 1)) (pk_sub (by omega)) ?_
  refine lv_istore_n (lv' := [(3, .int (nI (256 - 1))), (1, .long 0), (0, .ref a)]) hx hb dDG_of_6 rfl hl (by decide) rfl (fun ls hl => ?_)
  have loop : ∀ (n i : Nat), i + n = 256 → ∀ (H : Heap) (locs : List Loc) (ls : Array Slot), va_P (dC, dI) vwCl [(a, .inl (cL, 256, .inr (.inl f)))] H → va_D A [(a, .inl (cL, 256, .inr (.inl f)))] → va_S A s.heap H locs → lv_has ls 4 [(0, .ref a), (1, .long (lN (bs_dg f i))), (3, .int (nI (256 - i) + (-1)))] → W p l e (headSpec wsDG_of { frames := 2, cells := 0, slots := 0, locals := 50 }).room s m ([.ref a] : List Value).toArray below meth c H locs 0 0 Q (F0 m 7 ls []) := by
    intro n
    induction n with
    | zero =>
      intro i hi H locs ls hP hD hS hl
      obtain rfl : i = 256 := by omega
      refine lv_iload_n hx hb dDG_of_7 rfl (lv_at hl 2 rfl) ?_
      refine lv_if_lt (tgt := 40) hx hb dDG_of_8 (by decide) (fun _ => ?_) (fun h => absurd (by decide) h)
      refine lv_lload_n hx hb dDG_of_40 rfl (lv_at hl 1 rfl) ?_
      have hP : va_P (dC, dI) vwCl [(a, .inl (cL, 256, .inr (.inl f)))] H := hP
      have hD : va_D A [(a, .inl (cL, 256, .inr (.inl f)))] := hD
      subst hQ
      exact W.lret (v := lN (bs_dg f 256)) hx hb hr (fun t ht hW => ⟨⟨lN (bs_dg f 256), (), rfl, rfl, by rw [ht]; exact hP, va_K.moved hW.alike hK, hD⟩, hS.F ht⟩) hS.2.2 dDG_of_41
    | succ n ih =>
      intro i hi H locs ls hP hD hS hl
      have e3 : nI (256 - i) + (-1) = nI (255 - i) := by rw [show 256 - i = (255 - i) + 1 by omega]; exact pk_m1 _
      rw [e3] at hl
      have d0 := bs_dg_lt f i
      refine lv_iload_n hx hb dDG_of_7 rfl (lv_at hl 2 rfl) ?_
      refine lv_if_lt (tgt := 40) hx hb dDG_of_8 (by decide) (fun h => absurd h (nI_pos (by omega))) (fun _ => ?_)
      refine lv_lload_n hx hb dDG_of_11 rfl (lv_at hl 1 rfl) ?_
      refine lv_aload_n hx hb dDG_of_12 rfl (lv_at hl 0 rfl) ?_
      refine lv_iload_n hx hb dDG_of_13 rfl (lv_at hl 2 rfl) ?_
      refine xa_lald hx hb hK hP 0 0 rfl rfl (255 - i) (by omega) (by decide) dDG_of_14 ?_
      refine lv_ldc2 (v := 4294967295) hx hb hown (hts _ w_j_DG_9) dDG_of_15 ?_
      refine lv_land hx hb dDG_of_18 ?_
      refine xt_l (y := lN (bs_u (f (255 - i)) % 4294967296)) (bs_lo32 _) ?_
      have hPc := hP.sub (ws' := []) [] rfl
      have hDc := hD.sub (ws' := []) [] (by decide) rfl
      have hKc := hK.sub (tys' := []) [] rfl
      have hFc := va_free (wc := []) hD hS hA [] rfl
      refine va_calll (va_runS (As := [.long (lN (bs_dg f i)), .long (lN (bs_u (f (255 - i)) % 4294967296))]) (rest := []) ⟨hx, hb, hml, hown, hts⟩ (c_DG_timesFactorPlus l dC dI H.size (bs_dg f i) (bs_u (f (255 - i)) % 4294967296) d0 (Nat.mod_lt _ (by decide))) (va_cwS 2 hts (wT_3 w_m_DG_11 w_t_DG_timesFactorPlus w_n_DG w_c_DG_timesFactorPlus) rfl rfl rfl (by decide +kernel) ⟨Nat.le_of_ble_eq_true rfl, Nat.le_of_ble_eq_true rfl⟩) ⟨fun a U g mk q => by obtain ⟨q0, q1, qP, qK, qD⟩ := q; exact ⟨q0, q1, qP, va_K.moved (u := U) (U := U.calling g mk a) (Vm.Alike.refl U.vm) qK, qD⟩, fun U hU hW => ⟨rfl, by rw [hU], by rw [hU]; exact hPc, va_K.moved hW.alike hKc, hDc.weaken (fun _ _ _ _ => trivial)⟩⟩ rfl rfl hl.1 rfl (lv_room (Nat.le_of_ble_eq_true rfl)) dDG_of_19 ⟨Nat.zero_le _, Nat.zero_le _⟩) hS (fun q _ h => hFc q h) hFc (fun r u t H1 locs ht hvm hw hB hz1 hk1 hS => ?_)
      obtain ⟨hP1, hK1, hD1⟩ := hB
      rw [ht] at hP1
      have hK1 := va_K.moved hvm.symm hK1
      have hw : r = lN (bs_fur (bs_dg f i) (bs_u (f (255 - i)) % 4294967296)) := hw
      subst hw
      obtain ⟨hP, hD⟩ := va_join (wr := [(a, .inl (cL, 256, .inr (.inl f)))]) (w1 := []) hP hD [] [0] rfl rfl (by decide) (by decide) hk1 hFc hP1 hD1
      generalize H1 = H at hP hS ⊢
      have hP : va_P (dC, dI) vwCl [(a, .inl (cL, 256, .inr (.inl f)))] H := hP
      have hD : va_D A [(a, .inl (cL, 256, .inr (.inl f)))] := hD
      refine lv_lstore_n (lv' := [(1, .long (lN (bs_fur (bs_dg f i) (bs_u (f (255 - i)) % 4294967296)))), (0, .ref a), (3, .int (nI (255 - i)))]) hx hb dDG_of_22 rfl hl (by decide) rfl (fun ls hl => ?_)
      refine lv_lload_n hx hb dDG_of_23 rfl (lv_at hl 0 rfl) ?_
      refine lv_aload_n hx hb dDG_of_24 rfl (lv_at hl 1 rfl) ?_
      refine lv_iload_n hx hb dDG_of_25 rfl (lv_at hl 2 rfl) ?_
      refine xa_lald hx hb hK hP 0 0 rfl rfl (255 - i) (by omega) (by decide) dDG_of_26 ?_
      refine lv_bipush (v := nI 32) hx hb dDG_of_27 (by decide) ?_
      refine lv_lushr (v := j_lushr (f (255 - i)) (nI 32)) hx hb dDG_of_29 rfl ?_
      refine xt_l (y := lN (bs_u (f (255 - i)) / 4294967296)) (bs_hi32 _) ?_
      have u0 := bs_u_lt (f (255 - i))
      have hPc := hP.sub (ws' := []) [] rfl
      have hDc := hD.sub (ws' := []) [] (by decide) rfl
      have hKc := hK.sub (tys' := []) [] rfl
      have hFc := va_free (wc := []) hD hS hA [] rfl
      refine va_calll (va_runS (As := [.long (lN (bs_fur (bs_dg f i) (bs_u (f (255 - i)) % 4294967296))), .long (lN (bs_u (f (255 - i)) / 4294967296))]) (rest := []) ⟨hx, hb, hml, hown, hts⟩ (c_DG_timesFactorPlus l dC dI H.size (bs_fur (bs_dg f i) (bs_u (f (255 - i)) % 4294967296)) (bs_u (f (255 - i)) / 4294967296) (bs_fur_lt _ _) (by omega)) (va_cwS 2 hts (wT_3 w_m_DG_11 w_t_DG_timesFactorPlus w_n_DG w_c_DG_timesFactorPlus) rfl rfl rfl (by decide +kernel) ⟨Nat.le_of_ble_eq_true rfl, Nat.le_of_ble_eq_true rfl⟩) ⟨fun a U g mk q => by obtain ⟨q0, q1, qP, qK, qD⟩ := q; exact ⟨q0, q1, qP, va_K.moved (u := U) (U := U.calling g mk a) (Vm.Alike.refl U.vm) qK, qD⟩, fun U hU hW => ⟨rfl, by rw [hU], by rw [hU]; exact hPc, va_K.moved hW.alike hKc, hDc.weaken (fun _ _ _ _ => trivial)⟩⟩ rfl rfl hl.1 rfl (lv_room (Nat.le_of_ble_eq_true rfl)) dDG_of_30 ⟨Nat.zero_le _, Nat.zero_le _⟩) hS (fun q _ h => hFc q h) hFc (fun r u t H1 locs ht hvm hw hB hz1 hk1 hS => ?_)
      obtain ⟨hP1, hK1, hD1⟩ := hB
      rw [ht] at hP1
      have hK1 := va_K.moved hvm.symm hK1
      have hw : r = lN (bs_fur (bs_fur (bs_dg f i) (bs_u (f (255 - i)) % 4294967296)) (bs_u (f (255 - i)) / 4294967296)) := hw
      subst hw
      obtain ⟨hP, hD⟩ := va_join (wr := [(a, .inl (cL, 256, .inr (.inl f)))]) (w1 := []) hP hD [] [0] rfl rfl (by decide) (by decide) hk1 hFc hP1 hD1
      generalize H1 = H at hP hS ⊢
      have hP : va_P (dC, dI) vwCl [(a, .inl (cL, 256, .inr (.inl f)))] H := hP
      have hD : va_D A [(a, .inl (cL, 256, .inr (.inl f)))] := hD
      refine lv_lstore_n (lv' := [(1, .long (lN (bs_fur (bs_fur (bs_dg f i) (bs_u (f (255 - i)) % 4294967296)) (bs_u (f (255 - i)) / 4294967296)))), (0, .ref a), (3, .int (nI (255 - i)))]) hx hb dDG_of_33 rfl hl (by decide) rfl (fun ls hl => ?_)
      refine lv_iinc (k := 2) (v := nI (256 - (i + 1)) + (-1)) (lv' := [(3, .int (nI (256 - (i + 1)) + (-1))), (1, .long (lN (bs_fur (bs_fur (bs_dg f i) (bs_u (f (255 - i)) % 4294967296)) (bs_u (f (255 - i)) / 4294967296)))), (0, .ref a)]) hx hb dDG_of_34 hl rfl (by rw [show 256 - (i + 1) = 255 - i by omega, show Int32.ofInt (-1) = (-1 : Int32) from by decide]) (by decide) rfl (fun ls hl => ?_)
      refine lv_goto (tgt := 7) hx hb dDG_of_37 (by decide) ?_
      have hP : va_P (dC, dI) vwCl [(a, .inl (cL, 256, .inr (.inl f)))] H := hP
      have hD : va_D A [(a, .inl (cL, 256, .inr (.inl f)))] := hD
      have hl := lv_sub hl (l' := [(0, .ref a), (1, .long (lN (bs_fur (bs_fur (bs_dg f i) (bs_u (f (255 - i)) % 4294967296)) (bs_u (f (255 - i)) / 4294967296)))), (3, .int (nI (256 - (i + 1)) + (-1)))]) [2, 1, 0] rfl
      have hl : lv_has ls 4 [(0, .ref a), (1, .long (lN (bs_dg f (i + 1)))), (3, .int (nI (256 - (i + 1)) + (-1)))] := hl
      exact ih (i + 1) (by omega) H _ ls hP hD hS hl
  have hP : va_P (dC, dI) vwCl [(a, .inl (cL, 256, .inr (.inl f)))] H := hP
  have hD : va_D A [(a, .inl (cL, 256, .inr (.inl f)))] := hD
  have hl := lv_sub hl (l' := [(0, .ref a), (1, .long 0), (3, .int (nI (256 - 1)))]) [2, 1, 0] rfl
  have hl : lv_has ls 4 [(0, .ref a), (1, .long (lN (bs_dg f 0))), (3, .int (nI (256 - 0) + (-1)))] := hl
  exact loop (256 - 0) 0 (by omega) H _ ls hP hD hS hl
