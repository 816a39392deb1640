/-! BlindShelf: where its methods throw -/
set_option maxHeartbeats 4000000 in
set_option maxRecDepth 100000 in
theorem c_BS_put_n1 (l : Launch) (dC : Nat → ClassId) (dI : Nat → Nat → Nat) (sz : Nat) (bo : Nat) (x y : Int32) (w : Int64) (hl9 : l.stackTraces = false) (hn : bs_ii x 2 = false) : xe_Met l yBS_put wsBS_put { frames := 7, cells := 1, slots := 6, locals := 150 } (va_Pc [.ref bo, .int x, .int y, .long w] (fun U => U.heap.size = sz ∧ va_P (dC, dI) vwCl [] U.heap ∧ va_K (dC, dI) vwCl [] U ∧ va_D (fun _ => True) [] ∧ xe_P (va_A [] sz) U U.heap)) "java/lang/IllegalArgumentException" (fun st t => (va_P (dC, dI) vwCl [] t.heap ∧ va_K (dC, dI) vwCl [] t ∧ va_D (va_A [] sz) []) ∧ va_F (va_A [] sz) st t) 1 6 (va_A [] sz) := by
  refine xe_ofW (cc := cBS_put) (maxL := 5) (ret := none) (by decide) rfl ?_
  intro p e s m args below meth c s₁ Bo9 hml hne hv
  obtain ⟨rfl, hsz, hP, hK, hD0, hX⟩ := hv
  have hx := Bo9.exec
  have hb := Bo9.bytes
  have hr := Bo9.returns
  have hts := fun w (h : w ∈ wT) => atoms_spec (ws := wsBS_put) Bo9.pre w (List.mem_cons_of_mem _ h)
  have hown : s.vm.findClass RBS = some m.cls := findClass_of_methodNamed Bo9.named
  have hlocks := Bo9.notSynchronized
  have hno := xe_none hne
  subst hsz
  have hD := hD0.self (sz := s.heap.size)
  generalize hAe : va_A [] s.heap.size = A at hD hX ⊢
  have hA : ∀ q : Nat, s.heap.size ≤ q → A q := fun q h => by rw [← hAe]; exact Or.inr h
  have hl := lv_entry ([.ref bo, .int x, .int y, .long w]) (n := 5) (Nat.le_of_ble_eq_true rfl)
  rw [lg_entry_eq]
  generalize (lg_sl ([.ref bo, .int x, .int y, .long w]) ++ List.replicate (5 - (lg_sl ([.ref bo, .int x, .int y, .long w])).length) Slot.unset).toArray = ls at hl ⊢
  have hl : lv_has ls 5 [(0, .ref bo), (1, .int x), (2, .int y), (3, .long w)] := hl
  refine xs_q (fun H Q hH hQ => ?_)
  have hS : va_S A s.heap H [] := by rw [hH]; exact va_S.rf
  have hP : va_P (dC, dI) vwCl [] H := by rw [hH]; exact hP
  refine lv_iload_n hx hb dBS_put_0 rfl (lv_at hl 1 rfl) ?_
  have hPc := hP.sub (ws' := []) [] rfl
  have hDc := hD.sub (ws' := []) [] (by decide) rfl
  have hKc := hK.sub (tys' := []) [] rfl
  have hFc := va_free (wc := []) hD hS hA [] rfl
  have hXc := (hX.kept hS.2.1).narrow hFc
  refine xe_call (xe_runS (As := [.int x]) (rest := []) ⟨hx, hb, hml, hown, hts⟩ (c_BS_requireServer_n l dC dI H.size x hl9 hn) (va_cwS 1 hts (wT_3 w_m_BS_39 w_t_BS_requireServer w_n_BS w_c_BS_requireServer) rfl rfl rfl (by decide +kernel) ⟨Nat.le_of_ble_eq_true rfl, Nat.le_of_ble_eq_true rfl⟩) ⟨fun a U g mk q => by obtain ⟨q0, q1, qP, qK, qD, qX⟩ := q; exact ⟨q0, q1, qP, va_K.moved (u := U) (U := U.calling g mk a) (Vm.Alike.refl U.vm) qK, qD, qX.same rfl⟩, fun U hU hW => ⟨rfl, by rw [hU], by rw [hU]; exact hPc, va_K.moved hW.alike hKc, hDc.weaken (fun _ _ _ _ => trivial), by rw [hU]; exact hXc.warm hW⟩⟩ rfl rfl hl.1 rfl (lv_room (Nat.le_of_ble_eq_true rfl)) dBS_put_1 ⟨Nat.le_of_ble_eq_true rfl, Nat.le_of_ble_eq_true rfl⟩) hS (fun q _ h => hFc q h) hFc (fun ce9 q9 t H1 locs ht hvm hB hz1 hk1 hS hce9 hcv9 hcl9 => ?_)
  obtain ⟨hP1, hK1, hD1⟩ := hB
  rw [ht] at hP1
  obtain ⟨hP, hD⟩ := va_join (wr := []) (w1 := []) hP hD [] [] rfl rfl (by decide) (by decide) hk1 hFc hP1 hD1
  generalize H1 = H at hP hS hce9 ⊢
  have hP : va_P (dC, dI) vwCl [] H := hP
  have hD : va_D A [] := hD
  have hP : va_P (dC, dI) vwCl [] H := hP
  have hD : va_D A [] := hD
  subst hQ
  exact xe_out (hno _) hlocks hce9 hcv9 hcl9 (fun t ht ha => ⟨⟨by rw [ht]; exact hP, va_K.moved ha hK, hD⟩, hS.F ht⟩) hS.2.2 (Nat.le_of_ble_eq_true rfl) (Nat.le_of_ble_eq_true rfl)
set_option maxHeartbeats 4000000 in
set_option maxRecDepth 100000 in
theorem c_BS_put_n2 (l : Launch) (dC : Nat → ClassId) (dI : Nat → Nat → Nat) (sz : Nat) (bo x9 : Nat) (y : Int32) (w : Int64) (hl9 : l.stackTraces = false) (hx9 : x9 < 2) (hn : bs_ii y 256 = false) : xe_Met l yBS_put wsBS_put { frames := 7, cells := 1, slots := 6, locals := 150 } (va_Pc [.ref bo, .int (nI x9), .int y, .long w] (fun U => U.heap.size = sz ∧ va_P (dC, dI) vwCl [] U.heap ∧ va_K (dC, dI) vwCl [] U ∧ va_D (fun _ => True) [] ∧ xe_P (va_A [] sz) U U.heap)) "java/lang/IllegalArgumentException" (fun st t => (va_P (dC, dI) vwCl [] t.heap ∧ va_K (dC, dI) vwCl [] t ∧ va_D (va_A [] sz) []) ∧ va_F (va_A [] sz) st t) 1 6 (va_A [] sz) := by
  refine xe_ofW (cc := cBS_put) (maxL := 5) (ret := none) (by decide) rfl ?_
  intro p e s m args below meth c s₁ Bo9 hml hne hv
  obtain ⟨rfl, hsz, hP, hK, hD0, hX⟩ := hv
  have hx := Bo9.exec
  have hb := Bo9.bytes
  have hr := Bo9.returns
  have hts := fun w (h : w ∈ wT) => atoms_spec (ws := wsBS_put) Bo9.pre w (List.mem_cons_of_mem _ h)
  have hown : s.vm.findClass RBS = some m.cls := findClass_of_methodNamed Bo9.named
  have hlocks := Bo9.notSynchronized
  have hno := xe_none hne
  subst hsz
  have hD := hD0.self (sz := s.heap.size)
  generalize hAe : va_A [] s.heap.size = A at hD hX ⊢
  have hA : ∀ q : Nat, s.heap.size ≤ q → A q := fun q h => by rw [← hAe]; exact Or.inr h
  have hl := lv_entry ([.ref bo, .int (nI x9), .int y, .long w]) (n := 5) (Nat.le_of_ble_eq_true rfl)
  rw [lg_entry_eq]
  generalize (lg_sl ([.ref bo, .int (nI x9), .int y, .long w]) ++ List.replicate (5 - (lg_sl ([.ref bo, .int (nI x9), .int y, .long w])).length) Slot.unset).toArray = ls at hl ⊢
  have hl : lv_has ls 5 [(0, .ref bo), (1, .int (nI x9)), (2, .int y), (3, .long w)] := hl
  refine xs_q (fun H Q hH hQ => ?_)
  have hS : va_S A s.heap H [] := by rw [hH]; exact va_S.rf
  have hP : va_P (dC, dI) vwCl [] H := by rw [hH]; exact hP
  refine lv_iload_n hx hb dBS_put_0 rfl (lv_at hl 1 rfl) ?_
  have hPc := hP.sub (ws' := []) [] rfl
  have hDc := hD.sub (ws' := []) [] (by decide) rfl
  have hKc := hK.sub (tys' := []) [] rfl
  have hFc := va_free (wc := []) hD hS hA [] rfl
  refine va_callv (va_runS (As := [.int (nI x9)]) (rest := []) ⟨hx, hb, hml, hown, hts⟩ (c_BS_requireServer_y l dC dI H.size x9 hx9) (va_cwS 1 hts (wT_3 w_m_BS_39 w_t_BS_requireServer w_n_BS w_c_BS_requireServer) rfl rfl rfl (by decide +kernel) ⟨Nat.le_of_ble_eq_true rfl, Nat.le_of_ble_eq_true rfl⟩) ⟨fun a U g mk q => by obtain ⟨q0, q1, qP, qK, qD⟩ := q; exact ⟨q0, q1, qP, va_K.moved (u := U) (U := U.calling g mk a) (Vm.Alike.refl U.vm) qK, qD⟩, fun U hU hW => ⟨rfl, by rw [hU], by rw [hU]; exact hPc, va_K.moved hW.alike hKc, hDc.weaken (fun _ _ _ _ => trivial)⟩⟩ rfl rfl hl.1 rfl (lv_room (Nat.le_of_ble_eq_true rfl)) dBS_put_1 ⟨Nat.zero_le _, Nat.zero_le _⟩) hS (fun q _ h => hFc q h) hFc (fun u t H1 locs ht hvm hw hB hz1 hk1 hS => ?_)
  obtain ⟨hP1, hK1, hD1⟩ := hB
  rw [ht] at hP1
  have hK1 := va_K.moved hvm.symm hK1
  obtain ⟨hP, hD⟩ := va_join (wr := []) (w1 := []) hP hD [] [] rfl rfl (by decide) (by decide) hk1 hFc hP1 hD1
  generalize H1 = H at hP hS ⊢
  have hP : va_P (dC, dI) vwCl [] H := hP
  have hD : va_D A [] := hD
  refine lv_iload_n hx hb dBS_put_4 rfl (lv_at hl 2 rfl) ?_
  have hPc := hP.sub (ws' := []) [] rfl
  have hDc := hD.sub (ws' := []) [] (by decide) rfl
  have hKc := hK.sub (tys' := []) [] rfl
  have hFc := va_free (wc := []) hD hS hA [] rfl
  have hXc := (hX.kept hS.2.1).narrow hFc
  refine xe_call (xe_runS (As := [.int y]) (rest := []) ⟨hx, hb, hml, hown, hts⟩ (c_BS_requirePlace_n l dC dI H.size y hl9 hn) (va_cwS 1 hts (wT_3 w_m_BS_42 w_t_BS_requirePlace w_n_BS w_c_BS_requirePlace) rfl rfl rfl (by decide +kernel) ⟨Nat.le_of_ble_eq_true rfl, Nat.le_of_ble_eq_true rfl⟩) ⟨fun a U g mk q => by obtain ⟨q0, q1, qP, qK, qD, qX⟩ := q; exact ⟨q0, q1, qP, va_K.moved (u := U) (U := U.calling g mk a) (Vm.Alike.refl U.vm) qK, qD, qX.same rfl⟩, fun U hU hW => ⟨rfl, by rw [hU], by rw [hU]; exact hPc, va_K.moved hW.alike hKc, hDc.weaken (fun _ _ _ _ => trivial), by rw [hU]; exact hXc.warm hW⟩⟩ rfl rfl hl.1 rfl (lv_room (Nat.le_of_ble_eq_true rfl)) dBS_put_5 ⟨Nat.le_of_ble_eq_true rfl, Nat.le_of_ble_eq_true rfl⟩) hS (fun q _ h => hFc q h) hFc (fun ce9 q9 t H1 locs ht hvm hB hz1 hk1 hS hce9 hcv9 hcl9 => ?_)
  obtain ⟨hP1, hK1, hD1⟩ := hB
  rw [ht] at hP1
  obtain ⟨hP, hD⟩ := va_join (wr := []) (w1 := []) hP hD [] [] rfl rfl (by decide) (by decide) hk1 hFc hP1 hD1
  generalize H1 = H at hP hS hce9 ⊢
  have hP : va_P (dC, dI) vwCl [] H := hP
  have hD : va_D A [] := hD
  have hP : va_P (dC, dI) vwCl [] H := hP
  have hD : va_D A [] := hD
  subst hQ
  exact xe_out (hno _) hlocks hce9 hcv9 hcl9 (fun t ht ha => ⟨⟨by rw [ht]; exact hP, va_K.moved ha hK, hD⟩, hS.F ht⟩) hS.2.2 (Nat.le_of_ble_eq_true rfl) (Nat.le_of_ble_eq_true rfl)
set_option maxHeartbeats 4000000 in
set_option maxRecDepth 100000 in
theorem c_BS_close_n (l : Launch) (dC : Nat → ClassId) (dI : Nat → Nat → Nat) (sz : Nat) (bo : Nat) (x : Int32) (hl9 : l.stackTraces = false) (hn : bs_ii x 2 = false) : xe_Met l yBS_close wsBS_close { frames := 7, cells := 1, slots := 6, locals := 150 } (va_Pc [.ref bo, .int x] (fun U => U.heap.size = sz ∧ va_P (dC, dI) vwCl [] U.heap ∧ va_K (dC, dI) vwCl [] U ∧ va_D (fun _ => True) [] ∧ xe_P (va_A [] sz) U U.heap)) "java/lang/IllegalArgumentException" (fun st t => (va_P (dC, dI) vwCl [] t.heap ∧ va_K (dC, dI) vwCl [] t ∧ va_D (va_A [] sz) []) ∧ va_F (va_A [] sz) st t) 1 6 (va_A [] sz) := by
  refine xe_ofW (cc := cBS_close) (maxL := 2) (ret := (some .int)) (by decide) rfl ?_
  intro p e s m args below meth c s₁ Bo9 hml hne hv
  obtain ⟨rfl, hsz, hP, hK, hD0, hX⟩ := hv
  have hx := Bo9.exec
  have hb := Bo9.bytes
  have hr := Bo9.returns
  have hts := fun w (h : w ∈ wT) => atoms_spec (ws := wsBS_close) Bo9.pre w (List.mem_cons_of_mem _ h)
  have hown : s.vm.findClass RBS = some m.cls := findClass_of_methodNamed Bo9.named
  have hlocks := Bo9.notSynchronized
  have hno := xe_none hne
  subst hsz
  have hD := hD0.self (sz := s.heap.size)
  generalize hAe : va_A [] s.heap.size = A at hD hX ⊢
  have hA : ∀ q : Nat, s.heap.size ≤ q → A q := fun q h => by rw [← hAe]; exact Or.inr h
  have hl := lv_entry ([.ref bo, .int x]) (n := 2) (Nat.le_of_ble_eq_true rfl)
  rw [lg_entry_eq]
  generalize (lg_sl ([.ref bo, .int x]) ++ List.replicate (2 - (lg_sl ([.ref bo, .int x])).length) Slot.unset).toArray = ls at hl ⊢
  have hl : lv_has ls 2 [(0, .ref bo), (1, .int x)] := hl
  refine xs_q (fun H Q hH hQ => ?_)
  have hS : va_S A s.heap H [] := by rw [hH]; exact va_S.rf
  have hP : va_P (dC, dI) vwCl [] H := by rw [hH]; exact hP
  refine lv_iload_n hx hb dBS_close_0 rfl (lv_at hl 1 rfl) ?_
  have hPc := hP.sub (ws' := []) [] rfl
  have hDc := hD.sub (ws' := []) [] (by decide) rfl
  have hKc := hK.sub (tys' := []) [] rfl
  have hFc := va_free (wc := []) hD hS hA [] rfl
  have hXc := (hX.kept hS.2.1).narrow hFc
  refine xe_call (xe_runS (As := [.int x]) (rest := []) ⟨hx, hb, hml, hown, hts⟩ (c_BS_requireServer_n l dC dI H.size x hl9 hn) (va_cwS 1 hts (wT_3 w_m_BS_39 w_t_BS_requireServer w_n_BS w_c_BS_requireServer) rfl rfl rfl (by decide +kernel) ⟨Nat.le_of_ble_eq_true rfl, Nat.le_of_ble_eq_true rfl⟩) ⟨fun a U g mk q => by obtain ⟨q0, q1, qP, qK, qD, qX⟩ := q; exact ⟨q0, q1, qP, va_K.moved (u := U) (U := U.calling g mk a) (Vm.Alike.refl U.vm) qK, qD, qX.same rfl⟩, fun U hU hW => ⟨rfl, by rw [hU], by rw [hU]; exact hPc, va_K.moved hW.alike hKc, hDc.weaken (fun _ _ _ _ => trivial), by rw [hU]; exact hXc.warm hW⟩⟩ rfl rfl hl.1 rfl (lv_room (Nat.le_of_ble_eq_true rfl)) dBS_close_1 ⟨Nat.le_of_ble_eq_true rfl, Nat.le_of_ble_eq_true rfl⟩) hS (fun q _ h => hFc q h) hFc (fun ce9 q9 t H1 locs ht hvm hB hz1 hk1 hS hce9 hcv9 hcl9 => ?_)
  obtain ⟨hP1, hK1, hD1⟩ := hB
  rw [ht] at hP1
  obtain ⟨hP, hD⟩ := va_join (wr := []) (w1 := []) hP hD [] [] rfl rfl (by decide) (by decide) hk1 hFc hP1 hD1
  generalize H1 = H at hP hS hce9 ⊢
  have hP : va_P (dC, dI) vwCl [] H := hP
  have hD : va_D A [] := hD
  have hP : va_P (dC, dI) vwCl [] H := hP
  have hD : va_D A [] := hD
  subst hQ
  exact xe_out (hno _) hlocks hce9 hcv9 hcl9 (fun t ht ha => ⟨⟨by rw [ht]; exact hP, va_K.moved ha hK, hD⟩, hS.F ht⟩) hS.2.2 (Nat.le_of_ble_eq_true rfl) (Nat.le_of_ble_eq_true rfl)
set_option maxHeartbeats 4000000 in
set_option maxRecDepth 100000 in
theorem c_BS_makeKeys_n (l : Launch) (dC : Nat → ClassId) (dI : Nat → Nat → Nat) (sz : Nat) (bo : Nat) (y : Int32) (w1 w2 w3 w4 w5 : Int64) (hl9 : l.stackTraces = false) (hn : bs_ii y 256 = false) : xe_Met l yBS_makeKeys wsBS_makeKeys { frames := 7, cells := 1, slots := 6, locals := 150 } (va_Pc [.ref bo, .int y, .long w1, .long w2, .long w3, .long w4, .long w5] (fun U => U.heap.size = sz ∧ va_P (dC, dI) vwCl [] U.heap ∧ va_K (dC, dI) vwCl [] U ∧ va_D (fun _ => True) [] ∧ xe_P (va_A [] sz) U U.heap)) "java/lang/IllegalArgumentException" (fun st t => (va_P (dC, dI) vwCl [] t.heap ∧ va_K (dC, dI) vwCl [] t ∧ va_D (va_A [] sz) []) ∧ va_F (va_A [] sz) st t) 1 6 (va_A [] sz) := by
  refine xe_ofW (cc := cBS_makeKeys) (maxL := 12) (ret := none) (by decide) rfl ?_
  intro p e s m args below meth c s₁ Bo9 hml hne hv
  obtain ⟨rfl, hsz, hP, hK, hD0, hX⟩ := hv
  have hx := Bo9.exec
  have hb := Bo9.bytes
  have hr := Bo9.returns
  have hts := fun w (h : w ∈ wT) => atoms_spec (ws := wsBS_makeKeys) Bo9.pre w (List.mem_cons_of_mem _ h)
  have hown : s.vm.findClass RBS = some m.cls := findClass_of_methodNamed Bo9.named
  have hlocks := Bo9.notSynchronized
  have hno := xe_none hne
  subst hsz
  have hD := hD0.self (sz := s.heap.size)
  generalize hAe : va_A [] s.heap.size = A at hD hX ⊢
  have hA : ∀ q : Nat, s.heap.size ≤ q → A q := fun q h => by rw [← hAe]; exact Or.inr h
  have hl := lv_entry ([.ref bo, .int y, .long w1, .long w2, .long w3, .long w4, .long w5]) (n := 12) (Nat.le_of_ble_eq_true rfl)
  rw [lg_entry_eq]
  generalize (lg_sl ([.ref bo, .int y, .long w1, .long w2, .long w3, .long w4, .long w5]) ++ List.replicate (12 - (lg_sl ([.ref bo, .int y, .long w1, .long w2, .long w3, .long w4, .long w5])).length) Slot.unset).toArray = ls at hl ⊢
  have hl : lv_has ls 12 [(0, .ref bo), (1, .int y), (2, .long w1), (4, .long w2), (6, .long w3), (8, .long w4), (10, .long w5)] := hl
  refine xs_q (fun H Q hH hQ => ?_)
  have hS : va_S A s.heap H [] := by rw [hH]; exact va_S.rf
  have hP : va_P (dC, dI) vwCl [] H := by rw [hH]; exact hP
  refine lv_iload_n hx hb dBS_makeKeys_0 rfl (lv_at hl 1 rfl) ?_
  have hPc := hP.sub (ws' := []) [] rfl
  have hDc := hD.sub (ws' := []) [] (by decide) rfl
  have hKc := hK.sub (tys' := []) [] rfl
  have hFc := va_free (wc := []) hD hS hA [] rfl
  have hXc := (hX.kept hS.2.1).narrow hFc
  refine xe_call (xe_runS (As := [.int y]) (rest := []) ⟨hx, hb, hml, hown, hts⟩ (c_BS_requirePlace_n l dC dI H.size y hl9 hn) (va_cwS 1 hts (wT_3 w_m_BS_42 w_t_BS_requirePlace w_n_BS w_c_BS_requirePlace) rfl rfl rfl (by decide +kernel) ⟨Nat.le_of_ble_eq_true rfl, Nat.le_of_ble_eq_true rfl⟩) ⟨fun a U g mk q => by obtain ⟨q0, q1, qP, qK, qD, qX⟩ := q; exact ⟨q0, q1, qP, va_K.moved (u := U) (U := U.calling g mk a) (Vm.Alike.refl U.vm) qK, qD, qX.same rfl⟩, fun U hU hW => ⟨rfl, by rw [hU], by rw [hU]; exact hPc, va_K.moved hW.alike hKc, hDc.weaken (fun _ _ _ _ => trivial), by rw [hU]; exact hXc.warm hW⟩⟩ rfl rfl hl.1 rfl (lv_room (Nat.le_of_ble_eq_true rfl)) dBS_makeKeys_1 ⟨Nat.le_of_ble_eq_true rfl, Nat.le_of_ble_eq_true rfl⟩) hS (fun q _ h => hFc q h) hFc (fun ce9 q9 t H1 locs ht hvm hB hz1 hk1 hS hce9 hcv9 hcl9 => ?_)
  obtain ⟨hP1, hK1, hD1⟩ := hB
  rw [ht] at hP1
  obtain ⟨hP, hD⟩ := va_join (wr := []) (w1 := []) hP hD [] [] rfl rfl (by decide) (by decide) hk1 hFc hP1 hD1
  generalize H1 = H at hP hS hce9 ⊢
  have hP : va_P (dC, dI) vwCl [] H := hP
  have hD : va_D A [] := hD
  have hP : va_P (dC, dI) vwCl [] H := hP
  have hD : va_D A [] := hD
  subst hQ
  exact xe_out (hno _) hlocks hce9 hcv9 hcl9 (fun t ht ha => ⟨⟨by rw [ht]; exact hP, va_K.moved ha hK, hD⟩, hS.F ht⟩) hS.2.2 (Nat.le_of_ble_eq_true rfl) (Nat.le_of_ble_eq_true rfl)
set_option maxHeartbeats 4000000 in
set_option maxRecDepth 100000 in
theorem c_BS_keyByte_n (l : Launch) (dC : Nat → ClassId) (dI : Nat → Nat → Nat) (sz : Nat) (bo : Nat) (x y : Int32) (hl9 : l.stackTraces = false) (hn : (bs_ii x 2 && bs_ii y 160) = false) : xe_Met l yBS_keyByte wsBS_keyByte { frames := 7, cells := 1, slots := 6, locals := 151 } (va_Pc [.ref bo, .int x, .int y] (fun U => U.heap.size = sz ∧ va_P (dC, dI) vwCl [] U.heap ∧ va_K (dC, dI) vwCl [] U ∧ va_D (fun _ => True) [] ∧ xe_P (va_A [] sz) U U.heap)) "java/lang/IndexOutOfBoundsException" (fun st t => (va_P (dC, dI) vwCl [] t.heap ∧ va_K (dC, dI) vwCl [] t ∧ va_D (va_A [] sz) []) ∧ va_F (va_A [] sz) st t) 1 6 (va_A [] sz) := by
  refine xe_ofW (cc := cBS_keyByte) (maxL := 3) (ret := (some .int)) (by decide) rfl ?_
  intro p e s m args below meth c s₁ Bo9 hml hne hv
  obtain ⟨rfl, hsz, hP, hK, hD0, hX⟩ := hv
  have hx := Bo9.exec
  have hb := Bo9.bytes
  have hr := Bo9.returns
  have hts := fun w (h : w ∈ wT) => atoms_spec (ws := wsBS_keyByte) Bo9.pre w (List.mem_cons_of_mem _ h)
  have hown : s.vm.findClass RBS = some m.cls := findClass_of_methodNamed Bo9.named
  have hlocks := Bo9.notSynchronized
  have hno := xe_none hne
  subst hsz
  have hD := hD0.self (sz := s.heap.size)
  generalize hAe : va_A [] s.heap.size = A at hD hX ⊢
  have hA : ∀ q : Nat, s.heap.size ≤ q → A q := fun q h => by rw [← hAe]; exact Or.inr h
  have hl := lv_entry ([.ref bo, .int x, .int y]) (n := 3) (Nat.le_of_ble_eq_true rfl)
  rw [lg_entry_eq]
  generalize (lg_sl ([.ref bo, .int x, .int y]) ++ List.replicate (3 - (lg_sl ([.ref bo, .int x, .int y])).length) Slot.unset).toArray = ls at hl ⊢
  have hl : lv_has ls 3 [(0, .ref bo), (1, .int x), (2, .int y)] := hl
  refine xs_q (fun H Q hH hQ => ?_)
  have hS : va_S A s.heap H [] := by rw [hH]; exact va_S.rf
  have hP : va_P (dC, dI) vwCl [] H := by rw [hH]; exact hP
  refine lv_iload_n hx hb dBS_keyByte_0 rfl (lv_at hl 1 rfl) ?_
  refine lv_iload_n hx hb dBS_keyByte_1 rfl (lv_at hl 2 rfl) ?_
  have hPc := hP.sub (ws' := []) [] rfl
  have hDc := hD.sub (ws' := []) [] (by decide) rfl
  have hKc := hK.sub (tys' := []) [] rfl
  have hFc := va_free (wc := []) hD hS hA [] rfl
  have hXc := (hX.kept hS.2.1).narrow hFc
  refine xe_call (xe_runS (As := [.int x, .int y]) (rest := []) ⟨hx, hb, hml, hown, hts⟩ (c_BS_requireKeyByte_n l dC dI H.size x y hl9 hn) (va_cwS 2 hts (wT_3 w_m_BS_67 w_t_BS_requireKeyByte w_n_BS w_c_BS_requireKeyByte) rfl rfl rfl (by decide +kernel) ⟨Nat.le_of_ble_eq_true rfl, Nat.le_of_ble_eq_true rfl⟩) ⟨fun a U g mk q => by obtain ⟨q0, q1, qP, qK, qD, qX⟩ := q; exact ⟨q0, q1, qP, va_K.moved (u := U) (U := U.calling g mk a) (Vm.Alike.refl U.vm) qK, qD, qX.same rfl⟩, fun U hU hW => ⟨rfl, by rw [hU], by rw [hU]; exact hPc, va_K.moved hW.alike hKc, hDc.weaken (fun _ _ _ _ => trivial), by rw [hU]; exact hXc.warm hW⟩⟩ rfl rfl hl.1 rfl (lv_room (Nat.le_of_ble_eq_true rfl)) dBS_keyByte_2 ⟨Nat.le_of_ble_eq_true rfl, Nat.le_of_ble_eq_true rfl⟩) hS (fun q _ h => hFc q h) hFc (fun ce9 q9 t H1 locs ht hvm hB hz1 hk1 hS hce9 hcv9 hcl9 => ?_)
  obtain ⟨hP1, hK1, hD1⟩ := hB
  rw [ht] at hP1
  obtain ⟨hP, hD⟩ := va_join (wr := []) (w1 := []) hP hD [] [] rfl rfl (by decide) (by decide) hk1 hFc hP1 hD1
  generalize H1 = H at hP hS hce9 ⊢
  have hP : va_P (dC, dI) vwCl [] H := hP
  have hD : va_D A [] := hD
  have hP : va_P (dC, dI) vwCl [] H := hP
  have hD : va_D A [] := hD
  subst hQ
  exact xe_out (hno _) hlocks hce9 hcv9 hcl9 (fun t ht ha => ⟨⟨by rw [ht]; exact hP, va_K.moved ha hK, hD⟩, hS.F ht⟩) hS.2.2 (Nat.le_of_ble_eq_true rfl) (Nat.le_of_ble_eq_true rfl)
set_option maxHeartbeats 4000000 in
set_option maxRecDepth 100000 in
theorem c_BS_setKeyByte_n (l : Launch) (dC : Nat → ClassId) (dI : Nat → Nat → Nat) (sz : Nat) (bo : Nat) (x y w : Int32) (hl9 : l.stackTraces = false) (hn : (bs_ii x 2 && bs_ii y 160) = false) : xe_Met l yBS_setKeyByte wsBS_setKeyByte { frames := 7, cells := 1, slots := 6, locals := 151 } (va_Pc [.ref bo, .int x, .int y, .int w] (fun U => U.heap.size = sz ∧ va_P (dC, dI) vwCl [] U.heap ∧ va_K (dC, dI) vwCl [] U ∧ va_D (fun _ => True) [] ∧ xe_P (va_A [] sz) U U.heap)) "java/lang/IndexOutOfBoundsException" (fun st t => (va_P (dC, dI) vwCl [] t.heap ∧ va_K (dC, dI) vwCl [] t ∧ va_D (va_A [] sz) []) ∧ va_F (va_A [] sz) st t) 1 6 (va_A [] sz) := by
  refine xe_ofW (cc := cBS_setKeyByte) (maxL := 4) (ret := none) (by decide) rfl ?_
  intro p e s m args below meth c s₁ Bo9 hml hne hv
  obtain ⟨rfl, hsz, hP, hK, hD0, hX⟩ := hv
  have hx := Bo9.exec
  have hb := Bo9.bytes
  have hr := Bo9.returns
  have hts := fun w (h : w ∈ wT) => atoms_spec (ws := wsBS_setKeyByte) Bo9.pre w (List.mem_cons_of_mem _ h)
  have hown : s.vm.findClass RBS = some m.cls := findClass_of_methodNamed Bo9.named
  have hlocks := Bo9.notSynchronized
  have hno := xe_none hne
  subst hsz
  have hD := hD0.self (sz := s.heap.size)
  generalize hAe : va_A [] s.heap.size = A at hD hX ⊢
  have hA : ∀ q : Nat, s.heap.size ≤ q → A q := fun q h => by rw [← hAe]; exact Or.inr h
  have hl := lv_entry ([.ref bo, .int x, .int y, .int w]) (n := 4) (Nat.le_of_ble_eq_true rfl)
  rw [lg_entry_eq]
  generalize (lg_sl ([.ref bo, .int x, .int y, .int w]) ++ List.replicate (4 - (lg_sl ([.ref bo, .int x, .int y, .int w])).length) Slot.unset).toArray = ls at hl ⊢
  have hl : lv_has ls 4 [(0, .ref bo), (1, .int x), (2, .int y), (3, .int w)] := hl
  refine xs_q (fun H Q hH hQ => ?_)
  have hS : va_S A s.heap H [] := by rw [hH]; exact va_S.rf
  have hP : va_P (dC, dI) vwCl [] H := by rw [hH]; exact hP
  refine lv_iload_n hx hb dBS_setKeyByte_0 rfl (lv_at hl 1 rfl) ?_
  refine lv_iload_n hx hb dBS_setKeyByte_1 rfl (lv_at hl 2 rfl) ?_
  have hPc := hP.sub (ws' := []) [] rfl
  have hDc := hD.sub (ws' := []) [] (by decide) rfl
  have hKc := hK.sub (tys' := []) [] rfl
  have hFc := va_free (wc := []) hD hS hA [] rfl
  have hXc := (hX.kept hS.2.1).narrow hFc
  refine xe_call (xe_runS (As := [.int x, .int y]) (rest := []) ⟨hx, hb, hml, hown, hts⟩ (c_BS_requireKeyByte_n l dC dI H.size x y hl9 hn) (va_cwS 2 hts (wT_3 w_m_BS_67 w_t_BS_requireKeyByte w_n_BS w_c_BS_requireKeyByte) rfl rfl rfl (by decide +kernel) ⟨Nat.le_of_ble_eq_true rfl, Nat.le_of_ble_eq_true rfl⟩) ⟨fun a U g mk q => by obtain ⟨q0, q1, qP, qK, qD, qX⟩ := q; exact ⟨q0, q1, qP, va_K.moved (u := U) (U := U.calling g mk a) (Vm.Alike.refl U.vm) qK, qD, qX.same rfl⟩, fun U hU hW => ⟨rfl, by rw [hU], by rw [hU]; exact hPc, va_K.moved hW.alike hKc, hDc.weaken (fun _ _ _ _ => trivial), by rw [hU]; exact hXc.warm hW⟩⟩ rfl rfl hl.1 rfl (lv_room (Nat.le_of_ble_eq_true rfl)) dBS_setKeyByte_2 ⟨Nat.le_of_ble_eq_true rfl, Nat.le_of_ble_eq_true rfl⟩) hS (fun q _ h => hFc q h) hFc (fun ce9 q9 t H1 locs ht hvm hB hz1 hk1 hS hce9 hcv9 hcl9 => ?_)
  obtain ⟨hP1, hK1, hD1⟩ := hB
  rw [ht] at hP1
  obtain ⟨hP, hD⟩ := va_join (wr := []) (w1 := []) hP hD [] [] rfl rfl (by decide) (by decide) hk1 hFc hP1 hD1
  generalize H1 = H at hP hS hce9 ⊢
  have hP : va_P (dC, dI) vwCl [] H := hP
  have hD : va_D A [] := hD
  have hP : va_P (dC, dI) vwCl [] H := hP
  have hD : va_D A [] := hD
  subst hQ
  exact xe_out (hno _) hlocks hce9 hcv9 hcl9 (fun t ht ha => ⟨⟨by rw [ht]; exact hP, va_K.moved ha hK, hD⟩, hS.F ht⟩) hS.2.2 (Nat.le_of_ble_eq_true rfl) (Nat.le_of_ble_eq_true rfl)
set_option maxHeartbeats 4000000 in
set_option maxRecDepth 100000 in
theorem c_BS_choice_n (l : Launch) (dC : Nat → ClassId) (dI : Nat → Nat → Nat) (sz : Nat) (bo : Nat) (x y : Int32) (hl9 : l.stackTraces = false) (hn : (bs_ii x 2 && bs_ii y 256) = false) : xe_Met l yBS_choice wsBS_choice { frames := 7, cells := 1, slots := 6, locals := 164 } (va_Pc [.ref bo, .int x, .int y] (fun U => U.heap.size = sz ∧ va_P (dC, dI) vwCl [] U.heap ∧ va_K (dC, dI) vwCl [] U ∧ va_D (fun _ => True) [] ∧ xe_P (va_A [] sz) U U.heap)) "java/lang/IndexOutOfBoundsException" (fun st t => (va_P (dC, dI) vwCl [] t.heap ∧ va_K (dC, dI) vwCl [] t ∧ va_D (va_A [] sz) []) ∧ va_F (va_A [] sz) st t) 1 6 (va_A [] sz) := by
  refine xe_ofW (cc := cBS_choice) (maxL := 3) (ret := (some .boolean)) (by decide) rfl ?_
  intro p e s m args below meth c s₁ Bo9 hml hne hv
  obtain ⟨rfl, hsz, hP, hK, hD0, hX⟩ := hv
  have hx := Bo9.exec
  have hb := Bo9.bytes
  have hr := Bo9.returns
  have hts := fun w (h : w ∈ wT) => atoms_spec (ws := wsBS_choice) Bo9.pre w (List.mem_cons_of_mem _ h)
  have hown : s.vm.findClass RBS = some m.cls := findClass_of_methodNamed Bo9.named
  have hlocks := Bo9.notSynchronized
  have hno := xe_none hne
  subst hsz
  have hD := hD0.self (sz := s.heap.size)
  generalize hAe : va_A [] s.heap.size = A at hD hX ⊢
  have hA : ∀ q : Nat, s.heap.size ≤ q → A q := fun q h => by rw [← hAe]; exact Or.inr h
  have hl := lv_entry ([.ref bo, .int x, .int y]) (n := 3) (Nat.le_of_ble_eq_true rfl)
  rw [lg_entry_eq]
  generalize (lg_sl ([.ref bo, .int x, .int y]) ++ List.replicate (3 - (lg_sl ([.ref bo, .int x, .int y])).length) Slot.unset).toArray = ls at hl ⊢
  have hl : lv_has ls 3 [(0, .ref bo), (1, .int x), (2, .int y)] := hl
  refine xs_q (fun H Q hH hQ => ?_)
  have hS : va_S A s.heap H [] := by rw [hH]; exact va_S.rf
  have hP : va_P (dC, dI) vwCl [] H := by rw [hH]; exact hP
  refine lv_iload_n hx hb dBS_choice_0 rfl (lv_at hl 1 rfl) ?_
  refine lv_iload_n hx hb dBS_choice_1 rfl (lv_at hl 2 rfl) ?_
  have hPc := hP.sub (ws' := []) [] rfl
  have hDc := hD.sub (ws' := []) [] (by decide) rfl
  have hKc := hK.sub (tys' := []) [] rfl
  have hFc := va_free (wc := []) hD hS hA [] rfl
  have hXc := (hX.kept hS.2.1).narrow hFc
  refine xe_call (xe_runS (As := [.int x, .int y]) (rest := []) ⟨hx, hb, hml, hown, hts⟩ (c_BS_requireKeyPlace_n l dC dI H.size x y hl9 hn) (va_cwS 2 hts (wT_3 w_m_BS_78 w_t_BS_requireKeyPlace w_n_BS w_c_BS_requireKeyPlace) rfl rfl rfl (by decide +kernel) ⟨Nat.le_of_ble_eq_true rfl, Nat.le_of_ble_eq_true rfl⟩) ⟨fun a U g mk q => by obtain ⟨q0, q1, qP, qK, qD, qX⟩ := q; exact ⟨q0, q1, qP, va_K.moved (u := U) (U := U.calling g mk a) (Vm.Alike.refl U.vm) qK, qD, qX.same rfl⟩, fun U hU hW => ⟨rfl, by rw [hU], by rw [hU]; exact hPc, va_K.moved hW.alike hKc, hDc.weaken (fun _ _ _ _ => trivial), by rw [hU]; exact hXc.warm hW⟩⟩ rfl rfl hl.1 rfl (lv_room (Nat.le_of_ble_eq_true rfl)) dBS_choice_2 ⟨Nat.le_of_ble_eq_true rfl, Nat.le_of_ble_eq_true rfl⟩) hS (fun q _ h => hFc q h) hFc (fun ce9 q9 t H1 locs ht hvm hB hz1 hk1 hS hce9 hcv9 hcl9 => ?_)
  obtain ⟨hP1, hK1, hD1⟩ := hB
  rw [ht] at hP1
  obtain ⟨hP, hD⟩ := va_join (wr := []) (w1 := []) hP hD [] [] rfl rfl (by decide) (by decide) hk1 hFc hP1 hD1
  generalize H1 = H at hP hS hce9 ⊢
  have hP : va_P (dC, dI) vwCl [] H := hP
  have hD : va_D A [] := hD
  have hP : va_P (dC, dI) vwCl [] H := hP
  have hD : va_D A [] := hD
  subst hQ
  exact xe_out (hno _) hlocks hce9 hcv9 hcl9 (fun t ht ha => ⟨⟨by rw [ht]; exact hP, va_K.moved ha hK, hD⟩, hS.F ht⟩) hS.2.2 (Nat.le_of_ble_eq_true rfl) (Nat.le_of_ble_eq_true rfl)
set_option maxHeartbeats 4000000 in
set_option maxRecDepth 100000 in
theorem c_BS_choice_b (l : Launch) (dC : Nat → ClassId) (dI : Nat → Nat → Nat) (sz : Nat) (bo q mk ka cs : Nat) (k kb kf ks kt : Nat) (num : Int32) (cI : ClassId) (cK : ClassId) (gk : Nat → Option Nat) (fb : Nat → Int32) (x9 : Nat) (i9 : Nat) (hl9 : l.stackTraces = false) (hx9 : x9 < 2) (hi9 : i9 < 256) (hgk : gk x9 = some k) (hg : bs_gd fb 8 = false) : xe_Met l yBS_choice wsBS_choice { frames := 7, cells := 1, slots := 6, locals := 164 } (va_Pc [.ref bo, .int (nI x9), .int (nI i9)] (fun U => U.heap.size = sz ∧ va_P (dC, dI) vwCl [(bo, .inr (5, [.ref q, .ref mk, .ref ka, .ref cs])), (ka, .inl (cK, 2, .inr (.inr (.inr (.inr gk))))), (k, .inr (1, [.ref kb, .int num, .ref kf, .ref ks, .ref kt])), (kb, .inl (cI, 160, .inl fb))] U.heap ∧ va_K (dC, dI) vwCl [(cI, .int), (cK, .object "BlindShelf$Key")] U ∧ va_D (fun _ => True) [(bo, .inr (5, [.ref q, .ref mk, .ref ka, .ref cs])), (ka, .inl (cK, 2, .inr (.inr (.inr (.inr gk))))), (k, .inr (1, [.ref kb, .int num, .ref kf, .ref ks, .ref kt])), (kb, .inl (cI, 160, .inl fb))] ∧ xe_P (va_A [(bo, .inr (5, [.ref q, .ref mk, .ref ka, .ref cs])), (ka, .inl (cK, 2, .inr (.inr (.inr (.inr gk))))), (k, .inr (1, [.ref kb, .int num, .ref kf, .ref ks, .ref kt])), (kb, .inl (cI, 160, .inl fb))] sz) U U.heap)) "java/lang/IllegalStateException" (fun st t => (va_P (dC, dI) vwCl [(bo, .inr (5, [.ref q, .ref mk, .ref ka, .ref cs])), (ka, .inl (cK, 2, .inr (.inr (.inr (.inr gk))))), (k, .inr (1, [.ref kb, .int num, .ref kf, .ref ks, .ref kt])), (kb, .inl (cI, 160, .inl fb))] t.heap ∧ va_K (dC, dI) vwCl [(cI, .int), (cK, .object "BlindShelf$Key")] t ∧ va_D (va_A [(bo, .inr (5, [.ref q, .ref mk, .ref ka, .ref cs])), (ka, .inl (cK, 2, .inr (.inr (.inr (.inr gk))))), (k, .inr (1, [.ref kb, .int num, .ref kf, .ref ks, .ref kt])), (kb, .inl (cI, 160, .inl fb))] sz) [(bo, .inr (5, [.ref q, .ref mk, .ref ka, .ref cs])), (ka, .inl (cK, 2, .inr (.inr (.inr (.inr gk))))), (k, .inr (1, [.ref kb, .int num, .ref kf, .ref ks, .ref kt])), (kb, .inl (cI, 160, .inl fb))]) ∧ va_F (va_A [(bo, .inr (5, [.ref q, .ref mk, .ref ka, .ref cs])), (ka, .inl (cK, 2, .inr (.inr (.inr (.inr gk))))), (k, .inr (1, [.ref kb, .int num, .ref kf, .ref ks, .ref kt])), (kb, .inl (cI, 160, .inl fb))] sz) st t) 1 6 (va_A [(bo, .inr (5, [.ref q, .ref mk, .ref ka, .ref cs])), (ka, .inl (cK, 2, .inr (.inr (.inr (.inr gk))))), (k, .inr (1, [.ref kb, .int num, .ref kf, .ref ks, .ref kt])), (kb, .inl (cI, 160, .inl fb))] sz) := by
  refine xe_ofW (cc := cBS_choice) (maxL := 3) (ret := (some .boolean)) (by decide) rfl ?_
  intro p e s m args below meth c s₁ Bo9 hml hne hv
  obtain ⟨rfl, hsz, hP, hK, hD0, hX⟩ := hv
  have hx := Bo9.exec
  have hb := Bo9.bytes
  have hr := Bo9.returns
  have hts := fun w (h : w ∈ wT) => atoms_spec (ws := wsBS_choice) Bo9.pre w (List.mem_cons_of_mem _ h)
  have hown : s.vm.findClass RBS = some m.cls := findClass_of_methodNamed Bo9.named
  have hlocks := Bo9.notSynchronized
  have hno := xe_none hne
  subst hsz
  have hD := hD0.self (sz := s.heap.size)
  generalize hAe : va_A [(bo, .inr (5, [.ref q, .ref mk, .ref ka, .ref cs])), (ka, .inl (cK, 2, .inr (.inr (.inr (.inr gk))))), (k, .inr (1, [.ref kb, .int num, .ref kf, .ref ks, .ref kt])), (kb, .inl (cI, 160, .inl fb))] s.heap.size = A at hD hX ⊢
  have hA : ∀ q : Nat, s.heap.size ≤ q → A q := fun q h => by rw [← hAe]; exact Or.inr h
  have hl := lv_entry ([.ref bo, .int (nI x9), .int (nI i9)]) (n := 3) (Nat.le_of_ble_eq_true rfl)
  rw [lg_entry_eq]
  generalize (lg_sl ([.ref bo, .int (nI x9), .int (nI i9)]) ++ List.replicate (3 - (lg_sl ([.ref bo, .int (nI x9), .int (nI i9)])).length) Slot.unset).toArray = ls at hl ⊢
  have hl : lv_has ls 3 [(0, .ref bo), (1, .int (nI x9)), (2, .int (nI i9))] := hl
  refine xs_q (fun H Q hH hQ => ?_)
  have hS : va_S A s.heap H [] := by rw [hH]; exact va_S.rf
  have hP : va_P (dC, dI) vwCl [(bo, .inr (5, [.ref q, .ref mk, .ref ka, .ref cs])), (ka, .inl (cK, 2, .inr (.inr (.inr (.inr gk))))), (k, .inr (1, [.ref kb, .int num, .ref kf, .ref ks, .ref kt])), (kb, .inl (cI, 160, .inl fb))] H := by rw [hH]; exact hP
  refine lv_iload_n hx hb dBS_choice_0 rfl (lv_at hl 1 rfl) ?_
  refine lv_iload_n hx hb dBS_choice_1 rfl (lv_at hl 2 rfl) ?_
  have hPc := hP.sub (ws' := []) [] rfl
  have hDc := hD.sub (ws' := []) [] (by decide) rfl
  have hKc := hK.sub (tys' := []) [] rfl
  have hFc := va_free (wc := []) hD hS hA [] rfl
  refine va_callv (va_runS (As := [.int (nI x9), .int (nI i9)]) (rest := []) ⟨hx, hb, hml, hown, hts⟩ (c_BS_requireKeyPlace_y l dC dI H.size x9 i9 hx9 hi9) (va_cwS 2 hts (wT_3 w_m_BS_78 w_t_BS_requireKeyPlace w_n_BS w_c_BS_requireKeyPlace) rfl rfl rfl (by decide +kernel) ⟨Nat.le_of_ble_eq_true rfl, Nat.le_of_ble_eq_true rfl⟩) ⟨fun a U g mk q => by obtain ⟨q0, q1, qP, qK, qD⟩ := q; exact ⟨q0, q1, qP, va_K.moved (u := U) (U := U.calling g mk a) (Vm.Alike.refl U.vm) qK, qD⟩, fun U hU hW => ⟨rfl, by rw [hU], by rw [hU]; exact hPc, va_K.moved hW.alike hKc, hDc.weaken (fun _ _ _ _ => trivial)⟩⟩ rfl rfl hl.1 rfl (lv_room (Nat.le_of_ble_eq_true rfl)) dBS_choice_2 ⟨Nat.zero_le _, Nat.zero_le _⟩) hS (fun q _ h => hFc q h) hFc (fun u t H1 locs ht hvm hw hB hz1 hk1 hS => ?_)
  obtain ⟨hP1, hK1, hD1⟩ := hB
  rw [ht] at hP1
  have hK1 := va_K.moved hvm.symm hK1
  obtain ⟨hP, hD⟩ := va_join (wr := [(bo, .inr (5, [.ref q, .ref mk, .ref ka, .ref cs])), (ka, .inl (cK, 2, .inr (.inr (.inr (.inr gk))))), (k, .inr (1, [.ref kb, .int num, .ref kf, .ref ks, .ref kt])), (kb, .inl (cI, 160, .inl fb))]) (w1 := []) hP hD [] [0, 1, 2, 3] rfl rfl (by decide) (by decide) hk1 hFc hP1 hD1
  generalize H1 = H at hP hS ⊢
  have hP : va_P (dC, dI) vwCl [(bo, .inr (5, [.ref q, .ref mk, .ref ka, .ref cs])), (ka, .inl (cK, 2, .inr (.inr (.inr (.inr gk))))), (k, .inr (1, [.ref kb, .int num, .ref kf, .ref ks, .ref kt])), (kb, .inl (cI, 160, .inl fb))] H := hP
  have hD : va_D A [(bo, .inr (5, [.ref q, .ref mk, .ref ka, .ref cs])), (ka, .inl (cK, 2, .inr (.inr (.inr (.inr gk))))), (k, .inr (1, [.ref kb, .int num, .ref kf, .ref ks, .ref kt])), (kb, .inl (cI, 160, .inl fb))] := hD
  refine lv_aload_n hx hb dBS_choice_5 rfl (lv_at hl 0 rfl) ?_
  refine lv_iload_n hx hb dBS_choice_6 rfl (lv_at hl 1 rfl) ?_
  have hPc := hP.sub (ws' := [(bo, .inr (5, [.ref q, .ref mk, .ref ka, .ref cs])), (ka, .inl (cK, 2, .inr (.inr (.inr (.inr gk))))), (k, .inr (1, [.ref kb, .int num, .ref kf, .ref ks, .ref kt])), (kb, .inl (cI, 160, .inl fb))]) [0, 1, 2, 3] rfl
  have hDc := hD.sub (ws' := [(bo, .inr (5, [.ref q, .ref mk, .ref ka, .ref cs])), (ka, .inl (cK, 2, .inr (.inr (.inr (.inr gk))))), (k, .inr (1, [.ref kb, .int num, .ref kf, .ref ks, .ref kt])), (kb, .inl (cI, 160, .inl fb))]) [0, 1, 2, 3] (by decide) rfl
  have hKc := hK.sub (tys' := [(cI, .int), (cK, .object "BlindShelf$Key")]) [0, 1] rfl
  have hFc := va_free (wc := [(bo, .inr (5, [.ref q, .ref mk, .ref ka, .ref cs])), (ka, .inl (cK, 2, .inr (.inr (.inr (.inr gk))))), (k, .inr (1, [.ref kb, .int num, .ref kf, .ref ks, .ref kt])), (kb, .inl (cI, 160, .inl fb))]) hD hS hA [0, 1, 2, 3] rfl
  have hXc := (hX.kept hS.2.1).narrow hFc
  refine xe_call (xe_runV (C := RBS) (As := [.int (nI x9)]) (rest := []) ⟨hx, hb, hml, hown, hts⟩ (c_BS_requireGood_n l dC dI H.size bo q mk ka cs k kb kf ks kt num cI cK gk fb x9 hl9 hx9 hgk hg) (cwV (C := RBS) 1 hts (wT_4 w_m_BS_81 w_i_BS_requireGood w_s_BS_requireGood w_n_BS w_c_BS_requireGood) rfl rfl rfl (by decide +kernel) ⟨Nat.le_of_ble_eq_true rfl, Nat.le_of_ble_eq_true rfl⟩) ⟨fun a U g mk q => by obtain ⟨q0, q1, qP, qK, qD, qX⟩ := q; exact ⟨q0, q1, qP, va_K.moved (u := U) (U := U.calling g mk a) (Vm.Alike.refl U.vm) qK, qD, qX.same rfl⟩, va_recv hK hP (q0 := 0) (ci := 5) (q := (RBS, TBS, 4)) rfl rfl, fun U hU hW => ⟨rfl, by rw [hU], by rw [hU]; exact hPc, va_K.moved hW.alike hKc, hDc.weaken (fun _ _ _ _ => trivial), by rw [hU]; exact hXc.warm hW⟩⟩ rfl rfl hl.1 rfl (lv_room (Nat.le_of_ble_eq_true rfl)) dBS_choice_7 ⟨Nat.le_of_ble_eq_true rfl, Nat.le_of_ble_eq_true rfl⟩) hS (fun q _ h => hFc q h) hFc (fun ce9 q9 t H1 locs ht hvm hB hz1 hk1 hS hce9 hcv9 hcl9 => ?_)
  obtain ⟨hP1, hK1, hD1⟩ := hB
  rw [ht] at hP1
  obtain ⟨hP, hD⟩ := va_join (wr := []) (w1 := [(bo, .inr (5, [.ref q, .ref mk, .ref ka, .ref cs])), (ka, .inl (cK, 2, .inr (.inr (.inr (.inr gk))))), (k, .inr (1, [.ref kb, .int num, .ref kf, .ref ks, .ref kt])), (kb, .inl (cI, 160, .inl fb))]) hP hD [0, 1, 2, 3] [] rfl rfl (by decide) (by decide) hk1 hFc hP1 hD1
  generalize H1 = H at hP hS hce9 ⊢
  have hP : va_P (dC, dI) vwCl [(bo, .inr (5, [.ref q, .ref mk, .ref ka, .ref cs])), (ka, .inl (cK, 2, .inr (.inr (.inr (.inr gk))))), (k, .inr (1, [.ref kb, .int num, .ref kf, .ref ks, .ref kt])), (kb, .inl (cI, 160, .inl fb))] H := hP
  have hD : va_D A [(bo, .inr (5, [.ref q, .ref mk, .ref ka, .ref cs])), (ka, .inl (cK, 2, .inr (.inr (.inr (.inr gk))))), (k, .inr (1, [.ref kb, .int num, .ref kf, .ref ks, .ref kt])), (kb, .inl (cI, 160, .inl fb))] := hD
  have hP : va_P (dC, dI) vwCl [(bo, .inr (5, [.ref q, .ref mk, .ref ka, .ref cs])), (ka, .inl (cK, 2, .inr (.inr (.inr (.inr gk))))), (k, .inr (1, [.ref kb, .int num, .ref kf, .ref ks, .ref kt])), (kb, .inl (cI, 160, .inl fb))] H := hP
  have hD : va_D A [(bo, .inr (5, [.ref q, .ref mk, .ref ka, .ref cs])), (ka, .inl (cK, 2, .inr (.inr (.inr (.inr gk))))), (k, .inr (1, [.ref kb, .int num, .ref kf, .ref ks, .ref kt])), (kb, .inl (cI, 160, .inl fb))] := hD
  subst hQ
  exact xe_out (hno _) hlocks hce9 hcv9 hcl9 (fun t ht ha => ⟨⟨by rw [ht]; exact hP, va_K.moved ha hK, hD⟩, hS.F ht⟩) hS.2.2 (Nat.le_of_ble_eq_true rfl) (Nat.le_of_ble_eq_true rfl)
set_option maxHeartbeats 4000000 in
set_option maxRecDepth 100000 in
theorem c_BS_share_n (l : Launch) (dC : Nat → ClassId) (dI : Nat → Nat → Nat) (sz : Nat) (bo : Nat) (x y : Int32) (hl9 : l.stackTraces = false) (hn : (bs_ii x 2 && bs_ii y 256) = false) : xe_Met l yBS_share wsBS_share { frames := 7, cells := 1, slots := 6, locals := 166 } (va_Pc [.ref bo, .int x, .int y] (fun U => U.heap.size = sz ∧ va_P (dC, dI) vwCl [] U.heap ∧ va_K (dC, dI) vwCl [] U ∧ va_D (fun _ => True) [] ∧ xe_P (va_A [] sz) U U.heap)) "java/lang/IndexOutOfBoundsException" (fun st t => (va_P (dC, dI) vwCl [] t.heap ∧ va_K (dC, dI) vwCl [] t ∧ va_D (va_A [] sz) []) ∧ va_F (va_A [] sz) st t) 1 6 (va_A [] sz) := by
  refine xe_ofW (cc := cBS_share) (maxL := 3) (ret := (some .long)) (by decide) rfl ?_
  intro p e s m args below meth c s₁ Bo9 hml hne hv
  obtain ⟨rfl, hsz, hP, hK, hD0, hX⟩ := hv
  have hx := Bo9.exec
  have hb := Bo9.bytes
  have hr := Bo9.returns
  have hts := fun w (h : w ∈ wT) => atoms_spec (ws := wsBS_share) Bo9.pre w (List.mem_cons_of_mem _ h)
  have hown : s.vm.findClass RBS = some m.cls := findClass_of_methodNamed Bo9.named
  have hlocks := Bo9.notSynchronized
  have hno := xe_none hne
  subst hsz
  have hD := hD0.self (sz := s.heap.size)
  generalize hAe : va_A [] s.heap.size = A at hD hX ⊢
  have hA : ∀ q : Nat, s.heap.size ≤ q → A q := fun q h => by rw [← hAe]; exact Or.inr h
  have hl := lv_entry ([.ref bo, .int x, .int y]) (n := 3) (Nat.le_of_ble_eq_true rfl)
  rw [lg_entry_eq]
  generalize (lg_sl ([.ref bo, .int x, .int y]) ++ List.replicate (3 - (lg_sl ([.ref bo, .int x, .int y])).length) Slot.unset).toArray = ls at hl ⊢
  have hl : lv_has ls 3 [(0, .ref bo), (1, .int x), (2, .int y)] := hl
  refine xs_q (fun H Q hH hQ => ?_)
  have hS : va_S A s.heap H [] := by rw [hH]; exact va_S.rf
  have hP : va_P (dC, dI) vwCl [] H := by rw [hH]; exact hP
  refine lv_iload_n hx hb dBS_share_0 rfl (lv_at hl 1 rfl) ?_
  refine lv_iload_n hx hb dBS_share_1 rfl (lv_at hl 2 rfl) ?_
  have hPc := hP.sub (ws' := []) [] rfl
  have hDc := hD.sub (ws' := []) [] (by decide) rfl
  have hKc := hK.sub (tys' := []) [] rfl
  have hFc := va_free (wc := []) hD hS hA [] rfl
  have hXc := (hX.kept hS.2.1).narrow hFc
  refine xe_call (xe_runS (As := [.int x, .int y]) (rest := []) ⟨hx, hb, hml, hown, hts⟩ (c_BS_requireKeyPlace_n l dC dI H.size x y hl9 hn) (va_cwS 2 hts (wT_3 w_m_BS_78 w_t_BS_requireKeyPlace w_n_BS w_c_BS_requireKeyPlace) rfl rfl rfl (by decide +kernel) ⟨Nat.le_of_ble_eq_true rfl, Nat.le_of_ble_eq_true rfl⟩) ⟨fun a U g mk q => by obtain ⟨q0, q1, qP, qK, qD, qX⟩ := q; exact ⟨q0, q1, qP, va_K.moved (u := U) (U := U.calling g mk a) (Vm.Alike.refl U.vm) qK, qD, qX.same rfl⟩, fun U hU hW => ⟨rfl, by rw [hU], by rw [hU]; exact hPc, va_K.moved hW.alike hKc, hDc.weaken (fun _ _ _ _ => trivial), by rw [hU]; exact hXc.warm hW⟩⟩ rfl rfl hl.1 rfl (lv_room (Nat.le_of_ble_eq_true rfl)) dBS_share_2 ⟨Nat.le_of_ble_eq_true rfl, Nat.le_of_ble_eq_true rfl⟩) hS (fun q _ h => hFc q h) hFc (fun ce9 q9 t H1 locs ht hvm hB hz1 hk1 hS hce9 hcv9 hcl9 => ?_)
  obtain ⟨hP1, hK1, hD1⟩ := hB
  rw [ht] at hP1
  obtain ⟨hP, hD⟩ := va_join (wr := []) (w1 := []) hP hD [] [] rfl rfl (by decide) (by decide) hk1 hFc hP1 hD1
  generalize H1 = H at hP hS hce9 ⊢
  have hP : va_P (dC, dI) vwCl [] H := hP
  have hD : va_D A [] := hD
  have hP : va_P (dC, dI) vwCl [] H := hP
  have hD : va_D A [] := hD
  subst hQ
  exact xe_out (hno _) hlocks hce9 hcv9 hcl9 (fun t ht ha => ⟨⟨by rw [ht]; exact hP, va_K.moved ha hK, hD⟩, hS.F ht⟩) hS.2.2 (Nat.le_of_ble_eq_true rfl) (Nat.le_of_ble_eq_true rfl)
set_option maxHeartbeats 4000000 in
set_option maxRecDepth 100000 in
theorem c_BS_share_b (l : Launch) (dC : Nat → ClassId) (dI : Nat → Nat → Nat) (sz : Nat) (bo q mk ka cs : Nat) (k kb kf ks kt : Nat) (num : Int32) (cI : ClassId) (cK : ClassId) (gk : Nat → Option Nat) (fb : Nat → Int32) (x9 : Nat) (i9 : Nat) (hl9 : l.stackTraces = false) (hx9 : x9 < 2) (hi9 : i9 < 256) (hgk : gk x9 = some k) (hg : bs_gd fb 8 = false) : xe_Met l yBS_share wsBS_share { frames := 7, cells := 1, slots := 6, locals := 166 } (va_Pc [.ref bo, .int (nI x9), .int (nI i9)] (fun U => U.heap.size = sz ∧ va_P (dC, dI) vwCl [(bo, .inr (5, [.ref q, .ref mk, .ref ka, .ref cs])), (ka, .inl (cK, 2, .inr (.inr (.inr (.inr gk))))), (k, .inr (1, [.ref kb, .int num, .ref kf, .ref ks, .ref kt])), (kb, .inl (cI, 160, .inl fb))] U.heap ∧ va_K (dC, dI) vwCl [(cI, .int), (cK, .object "BlindShelf$Key")] U ∧ va_D (fun _ => True) [(bo, .inr (5, [.ref q, .ref mk, .ref ka, .ref cs])), (ka, .inl (cK, 2, .inr (.inr (.inr (.inr gk))))), (k, .inr (1, [.ref kb, .int num, .ref kf, .ref ks, .ref kt])), (kb, .inl (cI, 160, .inl fb))] ∧ xe_P (va_A [(bo, .inr (5, [.ref q, .ref mk, .ref ka, .ref cs])), (ka, .inl (cK, 2, .inr (.inr (.inr (.inr gk))))), (k, .inr (1, [.ref kb, .int num, .ref kf, .ref ks, .ref kt])), (kb, .inl (cI, 160, .inl fb))] sz) U U.heap)) "java/lang/IllegalStateException" (fun st t => (va_P (dC, dI) vwCl [(bo, .inr (5, [.ref q, .ref mk, .ref ka, .ref cs])), (ka, .inl (cK, 2, .inr (.inr (.inr (.inr gk))))), (k, .inr (1, [.ref kb, .int num, .ref kf, .ref ks, .ref kt])), (kb, .inl (cI, 160, .inl fb))] t.heap ∧ va_K (dC, dI) vwCl [(cI, .int), (cK, .object "BlindShelf$Key")] t ∧ va_D (va_A [(bo, .inr (5, [.ref q, .ref mk, .ref ka, .ref cs])), (ka, .inl (cK, 2, .inr (.inr (.inr (.inr gk))))), (k, .inr (1, [.ref kb, .int num, .ref kf, .ref ks, .ref kt])), (kb, .inl (cI, 160, .inl fb))] sz) [(bo, .inr (5, [.ref q, .ref mk, .ref ka, .ref cs])), (ka, .inl (cK, 2, .inr (.inr (.inr (.inr gk))))), (k, .inr (1, [.ref kb, .int num, .ref kf, .ref ks, .ref kt])), (kb, .inl (cI, 160, .inl fb))]) ∧ va_F (va_A [(bo, .inr (5, [.ref q, .ref mk, .ref ka, .ref cs])), (ka, .inl (cK, 2, .inr (.inr (.inr (.inr gk))))), (k, .inr (1, [.ref kb, .int num, .ref kf, .ref ks, .ref kt])), (kb, .inl (cI, 160, .inl fb))] sz) st t) 1 6 (va_A [(bo, .inr (5, [.ref q, .ref mk, .ref ka, .ref cs])), (ka, .inl (cK, 2, .inr (.inr (.inr (.inr gk))))), (k, .inr (1, [.ref kb, .int num, .ref kf, .ref ks, .ref kt])), (kb, .inl (cI, 160, .inl fb))] sz) := by
  refine xe_ofW (cc := cBS_share) (maxL := 3) (ret := (some .long)) (by decide) rfl ?_
  intro p e s m args below meth c s₁ Bo9 hml hne hv
  obtain ⟨rfl, hsz, hP, hK, hD0, hX⟩ := hv
  have hx := Bo9.exec
  have hb := Bo9.bytes
  have hr := Bo9.returns
  have hts := fun w (h : w ∈ wT) => atoms_spec (ws := wsBS_share) Bo9.pre w (List.mem_cons_of_mem _ h)
  have hown : s.vm.findClass RBS = some m.cls := findClass_of_methodNamed Bo9.named
  have hlocks := Bo9.notSynchronized
  have hno := xe_none hne
  subst hsz
  have hD := hD0.self (sz := s.heap.size)
  generalize hAe : va_A [(bo, .inr (5, [.ref q, .ref mk, .ref ka, .ref cs])), (ka, .inl (cK, 2, .inr (.inr (.inr (.inr gk))))), (k, .inr (1, [.ref kb, .int num, .ref kf, .ref ks, .ref kt])), (kb, .inl (cI, 160, .inl fb))] s.heap.size = A at hD hX ⊢
  have hA : ∀ q : Nat, s.heap.size ≤ q → A q := fun q h => by rw [← hAe]; exact Or.inr h
  have hl := lv_entry ([.ref bo, .int (nI x9), .int (nI i9)]) (n := 3) (Nat.le_of_ble_eq_true rfl)
  rw [lg_entry_eq]
  generalize (lg_sl ([.ref bo, .int (nI x9), .int (nI i9)]) ++ List.replicate (3 - (lg_sl ([.ref bo, .int (nI x9), .int (nI i9)])).length) Slot.unset).toArray = ls at hl ⊢
  have hl : lv_has ls 3 [(0, .ref bo), (1, .int (nI x9)), (2, .int (nI i9))] := hl
  refine xs_q (fun H Q hH hQ => ?_)
  have hS : va_S A s.heap H [] := by rw [hH]; exact va_S.rf
  have hP : va_P (dC, dI) vwCl [(bo, .inr (5, [.ref q, .ref mk, .ref ka, .ref cs])), (ka, .inl (cK, 2, .inr (.inr (.inr (.inr gk))))), (k, .inr (1, [.ref kb, .int num, .ref kf, .ref ks, .ref kt])), (kb, .inl (cI, 160, .inl fb))] H := by rw [hH]; exact hP
  refine lv_iload_n hx hb dBS_share_0 rfl (lv_at hl 1 rfl) ?_
  refine lv_iload_n hx hb dBS_share_1 rfl (lv_at hl 2 rfl) ?_
  have hPc := hP.sub (ws' := []) [] rfl
  have hDc := hD.sub (ws' := []) [] (by decide) rfl
  have hKc := hK.sub (tys' := []) [] rfl
  have hFc := va_free (wc := []) hD hS hA [] rfl
  refine va_callv (va_runS (As := [.int (nI x9), .int (nI i9)]) (rest := []) ⟨hx, hb, hml, hown, hts⟩ (c_BS_requireKeyPlace_y l dC dI H.size x9 i9 hx9 hi9) (va_cwS 2 hts (wT_3 w_m_BS_78 w_t_BS_requireKeyPlace w_n_BS w_c_BS_requireKeyPlace) rfl rfl rfl (by decide +kernel) ⟨Nat.le_of_ble_eq_true rfl, Nat.le_of_ble_eq_true rfl⟩) ⟨fun a U g mk q => by obtain ⟨q0, q1, qP, qK, qD⟩ := q; exact ⟨q0, q1, qP, va_K.moved (u := U) (U := U.calling g mk a) (Vm.Alike.refl U.vm) qK, qD⟩, fun U hU hW => ⟨rfl, by rw [hU], by rw [hU]; exact hPc, va_K.moved hW.alike hKc, hDc.weaken (fun _ _ _ _ => trivial)⟩⟩ rfl rfl hl.1 rfl (lv_room (Nat.le_of_ble_eq_true rfl)) dBS_share_2 ⟨Nat.zero_le _, Nat.zero_le _⟩) hS (fun q _ h => hFc q h) hFc (fun u t H1 locs ht hvm hw hB hz1 hk1 hS => ?_)
  obtain ⟨hP1, hK1, hD1⟩ := hB
  rw [ht] at hP1
  have hK1 := va_K.moved hvm.symm hK1
  obtain ⟨hP, hD⟩ := va_join (wr := [(bo, .inr (5, [.ref q, .ref mk, .ref ka, .ref cs])), (ka, .inl (cK, 2, .inr (.inr (.inr (.inr gk))))), (k, .inr (1, [.ref kb, .int num, .ref kf, .ref ks, .ref kt])), (kb, .inl (cI, 160, .inl fb))]) (w1 := []) hP hD [] [0, 1, 2, 3] rfl rfl (by decide) (by decide) hk1 hFc hP1 hD1
  generalize H1 = H at hP hS ⊢
  have hP : va_P (dC, dI) vwCl [(bo, .inr (5, [.ref q, .ref mk, .ref ka, .ref cs])), (ka, .inl (cK, 2, .inr (.inr (.inr (.inr gk))))), (k, .inr (1, [.ref kb, .int num, .ref kf, .ref ks, .ref kt])), (kb, .inl (cI, 160, .inl fb))] H := hP
  have hD : va_D A [(bo, .inr (5, [.ref q, .ref mk, .ref ka, .ref cs])), (ka, .inl (cK, 2, .inr (.inr (.inr (.inr gk))))), (k, .inr (1, [.ref kb, .int num, .ref kf, .ref ks, .ref kt])), (kb, .inl (cI, 160, .inl fb))] := hD
  refine lv_aload_n hx hb dBS_share_5 rfl (lv_at hl 0 rfl) ?_
  refine lv_iload_n hx hb dBS_share_6 rfl (lv_at hl 1 rfl) ?_
  have hPc := hP.sub (ws' := [(bo, .inr (5, [.ref q, .ref mk, .ref ka, .ref cs])), (ka, .inl (cK, 2, .inr (.inr (.inr (.inr gk))))), (k, .inr (1, [.ref kb, .int num, .ref kf, .ref ks, .ref kt])), (kb, .inl (cI, 160, .inl fb))]) [0, 1, 2, 3] rfl
  have hDc := hD.sub (ws' := [(bo, .inr (5, [.ref q, .ref mk, .ref ka, .ref cs])), (ka, .inl (cK, 2, .inr (.inr (.inr (.inr gk))))), (k, .inr (1, [.ref kb, .int num, .ref kf, .ref ks, .ref kt])), (kb, .inl (cI, 160, .inl fb))]) [0, 1, 2, 3] (by decide) rfl
  have hKc := hK.sub (tys' := [(cI, .int), (cK, .object "BlindShelf$Key")]) [0, 1] rfl
  have hFc := va_free (wc := [(bo, .inr (5, [.ref q, .ref mk, .ref ka, .ref cs])), (ka, .inl (cK, 2, .inr (.inr (.inr (.inr gk))))), (k, .inr (1, [.ref kb, .int num, .ref kf, .ref ks, .ref kt])), (kb, .inl (cI, 160, .inl fb))]) hD hS hA [0, 1, 2, 3] rfl
  have hXc := (hX.kept hS.2.1).narrow hFc
  refine xe_call (xe_runV (C := RBS) (As := [.int (nI x9)]) (rest := []) ⟨hx, hb, hml, hown, hts⟩ (c_BS_requireGood_n l dC dI H.size bo q mk ka cs k kb kf ks kt num cI cK gk fb x9 hl9 hx9 hgk hg) (cwV (C := RBS) 1 hts (wT_4 w_m_BS_81 w_i_BS_requireGood w_s_BS_requireGood w_n_BS w_c_BS_requireGood) rfl rfl rfl (by decide +kernel) ⟨Nat.le_of_ble_eq_true rfl, Nat.le_of_ble_eq_true rfl⟩) ⟨fun a U g mk q => by obtain ⟨q0, q1, qP, qK, qD, qX⟩ := q; exact ⟨q0, q1, qP, va_K.moved (u := U) (U := U.calling g mk a) (Vm.Alike.refl U.vm) qK, qD, qX.same rfl⟩, va_recv hK hP (q0 := 0) (ci := 5) (q := (RBS, TBS, 4)) rfl rfl, fun U hU hW => ⟨rfl, by rw [hU], by rw [hU]; exact hPc, va_K.moved hW.alike hKc, hDc.weaken (fun _ _ _ _ => trivial), by rw [hU]; exact hXc.warm hW⟩⟩ rfl rfl hl.1 rfl (lv_room (Nat.le_of_ble_eq_true rfl)) dBS_share_7 ⟨Nat.le_of_ble_eq_true rfl, Nat.le_of_ble_eq_true rfl⟩) hS (fun q _ h => hFc q h) hFc (fun ce9 q9 t H1 locs ht hvm hB hz1 hk1 hS hce9 hcv9 hcl9 => ?_)
  obtain ⟨hP1, hK1, hD1⟩ := hB
  rw [ht] at hP1
  obtain ⟨hP, hD⟩ := va_join (wr := []) (w1 := [(bo, .inr (5, [.ref q, .ref mk, .ref ka, .ref cs])), (ka, .inl (cK, 2, .inr (.inr (.inr (.inr gk))))), (k, .inr (1, [.ref kb, .int num, .ref kf, .ref ks, .ref kt])), (kb, .inl (cI, 160, .inl fb))]) hP hD [0, 1, 2, 3] [] rfl rfl (by decide) (by decide) hk1 hFc hP1 hD1
  generalize H1 = H at hP hS hce9 ⊢
  have hP : va_P (dC, dI) vwCl [(bo, .inr (5, [.ref q, .ref mk, .ref ka, .ref cs])), (ka, .inl (cK, 2, .inr (.inr (.inr (.inr gk))))), (k, .inr (1, [.ref kb, .int num, .ref kf, .ref ks, .ref kt])), (kb, .inl (cI, 160, .inl fb))] H := hP
  have hD : va_D A [(bo, .inr (5, [.ref q, .ref mk, .ref ka, .ref cs])), (ka, .inl (cK, 2, .inr (.inr (.inr (.inr gk))))), (k, .inr (1, [.ref kb, .int num, .ref kf, .ref ks, .ref kt])), (kb, .inl (cI, 160, .inl fb))] := hD
  have hP : va_P (dC, dI) vwCl [(bo, .inr (5, [.ref q, .ref mk, .ref ka, .ref cs])), (ka, .inl (cK, 2, .inr (.inr (.inr (.inr gk))))), (k, .inr (1, [.ref kb, .int num, .ref kf, .ref ks, .ref kt])), (kb, .inl (cI, 160, .inl fb))] H := hP
  have hD : va_D A [(bo, .inr (5, [.ref q, .ref mk, .ref ka, .ref cs])), (ka, .inl (cK, 2, .inr (.inr (.inr (.inr gk))))), (k, .inr (1, [.ref kb, .int num, .ref kf, .ref ks, .ref kt])), (kb, .inl (cI, 160, .inl fb))] := hD
  subst hQ
  exact xe_out (hno _) hlocks hce9 hcv9 hcl9 (fun t ht ha => ⟨⟨by rw [ht]; exact hP, va_K.moved ha hK, hD⟩, hS.F ht⟩) hS.2.2 (Nat.le_of_ble_eq_true rfl) (Nat.le_of_ble_eq_true rfl)
set_option maxHeartbeats 4000000 in
set_option maxRecDepth 100000 in
theorem c_BS_query_n (l : Launch) (dC : Nat → ClassId) (dI : Nat → Nat → Nat) (sz : Nat) (bo : Nat) (x y : Int32) (hl9 : l.stackTraces = false) (hn : bs_ii x 2 = false) : xe_Met l yBS_query wsBS_query { frames := 7, cells := 1, slots := 6, locals := 164 } (va_Pc [.ref bo, .int x, .int y] (fun U => U.heap.size = sz ∧ va_P (dC, dI) vwCl [] U.heap ∧ va_K (dC, dI) vwCl [] U ∧ va_D (fun _ => True) [] ∧ xe_P (va_A [] sz) U U.heap)) "java/lang/IllegalArgumentException" (fun st t => (va_P (dC, dI) vwCl [] t.heap ∧ va_K (dC, dI) vwCl [] t ∧ va_D (va_A [] sz) []) ∧ va_F (va_A [] sz) st t) 1 6 (va_A [] sz) := by
  refine xe_ofW (cc := cBS_query) (maxL := 7) (ret := (some .long)) (by decide) rfl ?_
  intro p e s m args below meth c s₁ Bo9 hml hne hv
  obtain ⟨rfl, hsz, hP, hK, hD0, hX⟩ := hv
  have hx := Bo9.exec
  have hb := Bo9.bytes
  have hr := Bo9.returns
  have hts := fun w (h : w ∈ wT) => atoms_spec (ws := wsBS_query) Bo9.pre w (List.mem_cons_of_mem _ h)
  have hown : s.vm.findClass RBS = some m.cls := findClass_of_methodNamed Bo9.named
  have hlocks := Bo9.notSynchronized
  have hno := xe_none hne
  subst hsz
  have hD := hD0.self (sz := s.heap.size)
  generalize hAe : va_A [] s.heap.size = A at hD hX ⊢
  have hA : ∀ q : Nat, s.heap.size ≤ q → A q := fun q h => by rw [← hAe]; exact Or.inr h
  have hl := lv_entry ([.ref bo, .int x, .int y]) (n := 7) (Nat.le_of_ble_eq_true rfl)
  rw [lg_entry_eq]
  generalize (lg_sl ([.ref bo, .int x, .int y]) ++ List.replicate (7 - (lg_sl ([.ref bo, .int x, .int y])).length) Slot.unset).toArray = ls at hl ⊢
  have hl : lv_has ls 7 [(0, .ref bo), (1, .int x), (2, .int y)] := hl
  refine xs_q (fun H Q hH hQ => ?_)
  have hS : va_S A s.heap H [] := by rw [hH]; exact va_S.rf
  have hP : va_P (dC, dI) vwCl [] H := by rw [hH]; exact hP
  refine lv_iload_n hx hb dBS_query_0 rfl (lv_at hl 1 rfl) ?_
  have hPc := hP.sub (ws' := []) [] rfl
  have hDc := hD.sub (ws' := []) [] (by decide) rfl
  have hKc := hK.sub (tys' := []) [] rfl
  have hFc := va_free (wc := []) hD hS hA [] rfl
  have hXc := (hX.kept hS.2.1).narrow hFc
  refine xe_call (xe_runS (As := [.int x]) (rest := []) ⟨hx, hb, hml, hown, hts⟩ (c_BS_requireServer_n l dC dI H.size x hl9 hn) (va_cwS 1 hts (wT_3 w_m_BS_39 w_t_BS_requireServer w_n_BS w_c_BS_requireServer) rfl rfl rfl (by decide +kernel) ⟨Nat.le_of_ble_eq_true rfl, Nat.le_of_ble_eq_true rfl⟩) ⟨fun a U g mk q => by obtain ⟨q0, q1, qP, qK, qD, qX⟩ := q; exact ⟨q0, q1, qP, va_K.moved (u := U) (U := U.calling g mk a) (Vm.Alike.refl U.vm) qK, qD, qX.same rfl⟩, fun U hU hW => ⟨rfl, by rw [hU], by rw [hU]; exact hPc, va_K.moved hW.alike hKc, hDc.weaken (fun _ _ _ _ => trivial), by rw [hU]; exact hXc.warm hW⟩⟩ rfl rfl hl.1 rfl (lv_room (Nat.le_of_ble_eq_true rfl)) dBS_query_1 ⟨Nat.le_of_ble_eq_true rfl, Nat.le_of_ble_eq_true rfl⟩) hS (fun q _ h => hFc q h) hFc (fun ce9 q9 t H1 locs ht hvm hB hz1 hk1 hS hce9 hcv9 hcl9 => ?_)
  obtain ⟨hP1, hK1, hD1⟩ := hB
  rw [ht] at hP1
  obtain ⟨hP, hD⟩ := va_join (wr := []) (w1 := []) hP hD [] [] rfl rfl (by decide) (by decide) hk1 hFc hP1 hD1
  generalize H1 = H at hP hS hce9 ⊢
  have hP : va_P (dC, dI) vwCl [] H := hP
  have hD : va_D A [] := hD
  have hP : va_P (dC, dI) vwCl [] H := hP
  have hD : va_D A [] := hD
  subst hQ
  exact xe_out (hno _) hlocks hce9 hcv9 hcl9 (fun t ht ha => ⟨⟨by rw [ht]; exact hP, va_K.moved ha hK, hD⟩, hS.F ht⟩) hS.2.2 (Nat.le_of_ble_eq_true rfl) (Nat.le_of_ble_eq_true rfl)
set_option maxHeartbeats 4000000 in
set_option maxRecDepth 100000 in
theorem c_BS_query_h (l : Launch) (dC : Nat → ClassId) (dI : Nat → Nat → Nat) (sz : Nat) (bo q mk ka cs : Nat) (sv h lt : Nat) (an : Int64) (dp qn : Int32) (cV : ClassId) (gs : Nat → Option Nat) (x9 : Nat) (ra op : Nat) (v : Nat) (lc : Int32) (x : Int32) (hl9 : l.stackTraces = false) (hx9 : x9 < 2) (hgs : gs x9 = some sv) (hv : v < 2 ^ 29) (hu : decide (nI (v - 8) ≤ x ∧ x ≤ nI v) = false) : xe_Met l yBS_query wsBS_query { frames := 7, cells := 1, slots := 6, locals := 164 } (va_Pc [.ref bo, .int (nI x9), .int x] (fun U => U.heap.size = sz ∧ va_P (dC, dI) vwCl [(bo, .inr (5, [.ref q, .ref mk, .ref ka, .ref cs])), (cs, .inl (cV, 2, .inr (.inr (.inr (.inr gs))))), (sv, .inr (3, [.ref h, .ref lt, .long an, .int dp, .int qn])), (h, .inr (4, [.ref ra, .ref op, .int (nI v), .int lc]))] U.heap ∧ va_K (dC, dI) vwCl [(cV, .object "BlindShelf$Server")] U ∧ va_D (fun _ => True) [(bo, .inr (5, [.ref q, .ref mk, .ref ka, .ref cs])), (cs, .inl (cV, 2, .inr (.inr (.inr (.inr gs))))), (sv, .inr (3, [.ref h, .ref lt, .long an, .int dp, .int qn])), (h, .inr (4, [.ref ra, .ref op, .int (nI v), .int lc]))] ∧ xe_P (va_A [(bo, .inr (5, [.ref q, .ref mk, .ref ka, .ref cs])), (cs, .inl (cV, 2, .inr (.inr (.inr (.inr gs))))), (sv, .inr (3, [.ref h, .ref lt, .long an, .int dp, .int qn])), (h, .inr (4, [.ref ra, .ref op, .int (nI v), .int lc]))] sz) U U.heap)) "java/lang/IllegalStateException" (fun st t => (va_P (dC, dI) vwCl [(bo, .inr (5, [.ref q, .ref mk, .ref ka, .ref cs])), (cs, .inl (cV, 2, .inr (.inr (.inr (.inr gs))))), (sv, .inr (3, [.ref h, .ref lt, .long an, .int dp, .int qn])), (h, .inr (4, [.ref ra, .ref op, .int (nI v), .int lc]))] t.heap ∧ va_K (dC, dI) vwCl [(cV, .object "BlindShelf$Server")] t ∧ va_D (va_A [(bo, .inr (5, [.ref q, .ref mk, .ref ka, .ref cs])), (cs, .inl (cV, 2, .inr (.inr (.inr (.inr gs))))), (sv, .inr (3, [.ref h, .ref lt, .long an, .int dp, .int qn])), (h, .inr (4, [.ref ra, .ref op, .int (nI v), .int lc]))] sz) [(bo, .inr (5, [.ref q, .ref mk, .ref ka, .ref cs])), (cs, .inl (cV, 2, .inr (.inr (.inr (.inr gs))))), (sv, .inr (3, [.ref h, .ref lt, .long an, .int dp, .int qn])), (h, .inr (4, [.ref ra, .ref op, .int (nI v), .int lc]))]) ∧ va_F (va_A [(bo, .inr (5, [.ref q, .ref mk, .ref ka, .ref cs])), (cs, .inl (cV, 2, .inr (.inr (.inr (.inr gs))))), (sv, .inr (3, [.ref h, .ref lt, .long an, .int dp, .int qn])), (h, .inr (4, [.ref ra, .ref op, .int (nI v), .int lc]))] sz) st t) 1 6 (va_A [(bo, .inr (5, [.ref q, .ref mk, .ref ka, .ref cs])), (cs, .inl (cV, 2, .inr (.inr (.inr (.inr gs))))), (sv, .inr (3, [.ref h, .ref lt, .long an, .int dp, .int qn])), (h, .inr (4, [.ref ra, .ref op, .int (nI v), .int lc]))] sz) := by
  refine xe_ofW (cc := cBS_query) (maxL := 7) (ret := (some .long)) (by decide) rfl ?_
  intro p e s m args below meth c s₁ Bo9 hml hne hv
  obtain ⟨rfl, hsz, hP, hK, hD0, hX⟩ := hv
  have hx := Bo9.exec
  have hb := Bo9.bytes
  have hr := Bo9.returns
  have hts := fun w (h : w ∈ wT) => atoms_spec (ws := wsBS_query) Bo9.pre w (List.mem_cons_of_mem _ h)
  have hown : s.vm.findClass RBS = some m.cls := findClass_of_methodNamed Bo9.named
  have hlocks := Bo9.notSynchronized
  have hno := xe_none hne
  subst hsz
  have hD := hD0.self (sz := s.heap.size)
  generalize hAe : va_A [(bo, .inr (5, [.ref q, .ref mk, .ref ka, .ref cs])), (cs, .inl (cV, 2, .inr (.inr (.inr (.inr gs))))), (sv, .inr (3, [.ref h, .ref lt, .long an, .int dp, .int qn])), (h, .inr (4, [.ref ra, .ref op, .int (nI v), .int lc]))] s.heap.size = A at hD hX ⊢
  have hA : ∀ q : Nat, s.heap.size ≤ q → A q := fun q h => by rw [← hAe]; exact Or.inr h
  have hl := lv_entry ([.ref bo, .int (nI x9), .int x]) (n := 7) (Nat.le_of_ble_eq_true rfl)
  rw [lg_entry_eq]
  generalize (lg_sl ([.ref bo, .int (nI x9), .int x]) ++ List.replicate (7 - (lg_sl ([.ref bo, .int (nI x9), .int x])).length) Slot.unset).toArray = ls at hl ⊢
  have hl : lv_has ls 7 [(0, .ref bo), (1, .int (nI x9)), (2, .int x)] := hl
  refine xs_q (fun H Q hH hQ => ?_)
  have hS : va_S A s.heap H [] := by rw [hH]; exact va_S.rf
  have hP : va_P (dC, dI) vwCl [(bo, .inr (5, [.ref q, .ref mk, .ref ka, .ref cs])), (cs, .inl (cV, 2, .inr (.inr (.inr (.inr gs))))), (sv, .inr (3, [.ref h, .ref lt, .long an, .int dp, .int qn])), (h, .inr (4, [.ref ra, .ref op, .int (nI v), .int lc]))] H := by rw [hH]; exact hP
  refine lv_iload_n hx hb dBS_query_0 rfl (lv_at hl 1 rfl) ?_
  have hPc := hP.sub (ws' := []) [] rfl
  have hDc := hD.sub (ws' := []) [] (by decide) rfl
  have hKc := hK.sub (tys' := []) [] rfl
  have hFc := va_free (wc := []) hD hS hA [] rfl
  refine va_callv (va_runS (As := [.int (nI x9)]) (rest := []) ⟨hx, hb, hml, hown, hts⟩ (c_BS_requireServer_y l dC dI H.size x9 hx9) (va_cwS 1 hts (wT_3 w_m_BS_39 w_t_BS_requireServer w_n_BS w_c_BS_requireServer) rfl rfl rfl (by decide +kernel) ⟨Nat.le_of_ble_eq_true rfl, Nat.le_of_ble_eq_true rfl⟩) ⟨fun a U g mk q => by obtain ⟨q0, q1, qP, qK, qD⟩ := q; exact ⟨q0, q1, qP, va_K.moved (u := U) (U := U.calling g mk a) (Vm.Alike.refl U.vm) qK, qD⟩, fun U hU hW => ⟨rfl, by rw [hU], by rw [hU]; exact hPc, va_K.moved hW.alike hKc, hDc.weaken (fun _ _ _ _ => trivial)⟩⟩ rfl rfl hl.1 rfl (lv_room (Nat.le_of_ble_eq_true rfl)) dBS_query_1 ⟨Nat.zero_le _, Nat.zero_le _⟩) hS (fun q _ h => hFc q h) hFc (fun u t H1 locs ht hvm hw hB hz1 hk1 hS => ?_)
  obtain ⟨hP1, hK1, hD1⟩ := hB
  rw [ht] at hP1
  have hK1 := va_K.moved hvm.symm hK1
  obtain ⟨hP, hD⟩ := va_join (wr := [(bo, .inr (5, [.ref q, .ref mk, .ref ka, .ref cs])), (cs, .inl (cV, 2, .inr (.inr (.inr (.inr gs))))), (sv, .inr (3, [.ref h, .ref lt, .long an, .int dp, .int qn])), (h, .inr (4, [.ref ra, .ref op, .int (nI v), .int lc]))]) (w1 := []) hP hD [] [0, 1, 2, 3] rfl rfl (by decide) (by decide) hk1 hFc hP1 hD1
  generalize H1 = H at hP hS ⊢
  have hP : va_P (dC, dI) vwCl [(bo, .inr (5, [.ref q, .ref mk, .ref ka, .ref cs])), (cs, .inl (cV, 2, .inr (.inr (.inr (.inr gs))))), (sv, .inr (3, [.ref h, .ref lt, .long an, .int dp, .int qn])), (h, .inr (4, [.ref ra, .ref op, .int (nI v), .int lc]))] H := hP
  have hD : va_D A [(bo, .inr (5, [.ref q, .ref mk, .ref ka, .ref cs])), (cs, .inl (cV, 2, .inr (.inr (.inr (.inr gs))))), (sv, .inr (3, [.ref h, .ref lt, .long an, .int dp, .int qn])), (h, .inr (4, [.ref ra, .ref op, .int (nI v), .int lc]))] := hD
  refine lv_aload_n hx hb dBS_query_4 rfl (lv_at hl 0 rfl) ?_
  refine lv_iload_n hx hb dBS_query_5 rfl (lv_at hl 1 rfl) ?_
  refine lv_iload_n hx hb dBS_query_6 rfl (lv_at hl 2 rfl) ?_
  have hPc := hP.sub (ws' := [(bo, .inr (5, [.ref q, .ref mk, .ref ka, .ref cs])), (cs, .inl (cV, 2, .inr (.inr (.inr (.inr gs))))), (sv, .inr (3, [.ref h, .ref lt, .long an, .int dp, .int qn])), (h, .inr (4, [.ref ra, .ref op, .int (nI v), .int lc]))]) [0, 1, 2, 3] rfl
  have hDc := hD.sub (ws' := [(bo, .inr (5, [.ref q, .ref mk, .ref ka, .ref cs])), (cs, .inl (cV, 2, .inr (.inr (.inr (.inr gs))))), (sv, .inr (3, [.ref h, .ref lt, .long an, .int dp, .int qn])), (h, .inr (4, [.ref ra, .ref op, .int (nI v), .int lc]))]) [0, 1, 2, 3] (by decide) rfl
  have hKc := hK.sub (tys' := [(cV, .object "BlindShelf$Server")]) [0] rfl
  have hFc := va_free (wc := [(bo, .inr (5, [.ref q, .ref mk, .ref ka, .ref cs])), (cs, .inl (cV, 2, .inr (.inr (.inr (.inr gs))))), (sv, .inr (3, [.ref h, .ref lt, .long an, .int dp, .int qn])), (h, .inr (4, [.ref ra, .ref op, .int (nI v), .int lc]))]) hD hS hA [0, 1, 2, 3] rfl
  have hXc := (hX.kept hS.2.1).narrow hFc
  refine xe_call (xe_runV (C := RBS) (As := [.int (nI x9), .int x]) (rest := []) ⟨hx, hb, hml, hown, hts⟩ (c_BS_requireHeld_n l dC dI H.size bo q mk ka cs sv h lt an dp qn cV gs x9 ra op v lc x hl9 hx9 hgs hv hu) (cwV (C := RBS) 2 hts (wT_4 w_m_BS_92 w_i_BS_requireHeld w_s_BS_requireHeld w_n_BS w_c_BS_requireHeld) rfl rfl rfl (by decide +kernel) ⟨Nat.le_of_ble_eq_true rfl, Nat.le_of_ble_eq_true rfl⟩) ⟨fun a U g mk q => by obtain ⟨q0, q1, qP, qK, qD, qX⟩ := q; exact ⟨q0, q1, qP, va_K.moved (u := U) (U := U.calling g mk a) (Vm.Alike.refl U.vm) qK, qD, qX.same rfl⟩, va_recv hK hP (q0 := 0) (ci := 5) (q := (RBS, TBS, 4)) rfl rfl, fun U hU hW => ⟨rfl, by rw [hU], by rw [hU]; exact hPc, va_K.moved hW.alike hKc, hDc.weaken (fun _ _ _ _ => trivial), by rw [hU]; exact hXc.warm hW⟩⟩ rfl rfl hl.1 rfl (lv_room (Nat.le_of_ble_eq_true rfl)) dBS_query_7 ⟨Nat.le_of_ble_eq_true rfl, Nat.le_of_ble_eq_true rfl⟩) hS (fun q _ h => hFc q h) hFc (fun ce9 q9 t H1 locs ht hvm hB hz1 hk1 hS hce9 hcv9 hcl9 => ?_)
  obtain ⟨hP1, hK1, hD1⟩ := hB
  rw [ht] at hP1
  obtain ⟨hP, hD⟩ := va_join (wr := []) (w1 := [(bo, .inr (5, [.ref q, .ref mk, .ref ka, .ref cs])), (cs, .inl (cV, 2, .inr (.inr (.inr (.inr gs))))), (sv, .inr (3, [.ref h, .ref lt, .long an, .int dp, .int qn])), (h, .inr (4, [.ref ra, .ref op, .int (nI v), .int lc]))]) hP hD [0, 1, 2, 3] [] rfl rfl (by decide) (by decide) hk1 hFc hP1 hD1
  generalize H1 = H at hP hS hce9 ⊢
  have hP : va_P (dC, dI) vwCl [(bo, .inr (5, [.ref q, .ref mk, .ref ka, .ref cs])), (cs, .inl (cV, 2, .inr (.inr (.inr (.inr gs))))), (sv, .inr (3, [.ref h, .ref lt, .long an, .int dp, .int qn])), (h, .inr (4, [.ref ra, .ref op, .int (nI v), .int lc]))] H := hP
  have hD : va_D A [(bo, .inr (5, [.ref q, .ref mk, .ref ka, .ref cs])), (cs, .inl (cV, 2, .inr (.inr (.inr (.inr gs))))), (sv, .inr (3, [.ref h, .ref lt, .long an, .int dp, .int qn])), (h, .inr (4, [.ref ra, .ref op, .int (nI v), .int lc]))] := hD
  have hP : va_P (dC, dI) vwCl [(bo, .inr (5, [.ref q, .ref mk, .ref ka, .ref cs])), (cs, .inl (cV, 2, .inr (.inr (.inr (.inr gs))))), (sv, .inr (3, [.ref h, .ref lt, .long an, .int dp, .int qn])), (h, .inr (4, [.ref ra, .ref op, .int (nI v), .int lc]))] H := hP
  have hD : va_D A [(bo, .inr (5, [.ref q, .ref mk, .ref ka, .ref cs])), (cs, .inl (cV, 2, .inr (.inr (.inr (.inr gs))))), (sv, .inr (3, [.ref h, .ref lt, .long an, .int dp, .int qn])), (h, .inr (4, [.ref ra, .ref op, .int (nI v), .int lc]))] := hD
  subst hQ
  exact xe_out (hno _) hlocks hce9 hcv9 hcl9 (fun t ht ha => ⟨⟨by rw [ht]; exact hP, va_K.moved ha hK, hD⟩, hS.F ht⟩) hS.2.2 (Nat.le_of_ble_eq_true rfl) (Nat.le_of_ble_eq_true rfl)
set_option maxHeartbeats 4000000 in
set_option maxRecDepth 100000 in
theorem c_BS_digest_n (l : Launch) (dC : Nat → ClassId) (dI : Nat → Nat → Nat) (sz : Nat) (bo : Nat) (x y : Int32) (hl9 : l.stackTraces = false) (hn : bs_ii x 2 = false) : xe_Met l yBS_digest wsBS_digest { frames := 7, cells := 1, slots := 6, locals := 152 } (va_Pc [.ref bo, .int x, .int y] (fun U => U.heap.size = sz ∧ va_P (dC, dI) vwCl [] U.heap ∧ va_K (dC, dI) vwCl [] U ∧ va_D (fun _ => True) [] ∧ xe_P (va_A [] sz) U U.heap)) "java/lang/IllegalArgumentException" (fun st t => (va_P (dC, dI) vwCl [] t.heap ∧ va_K (dC, dI) vwCl [] t ∧ va_D (va_A [] sz) []) ∧ va_F (va_A [] sz) st t) 1 6 (va_A [] sz) := by
  refine xe_ofW (cc := cBS_digest) (maxL := 3) (ret := (some .long)) (by decide) rfl ?_
  intro p e s m args below meth c s₁ Bo9 hml hne hv
  obtain ⟨rfl, hsz, hP, hK, hD0, hX⟩ := hv
  have hx := Bo9.exec
  have hb := Bo9.bytes
  have hr := Bo9.returns
  have hts := fun w (h : w ∈ wT) => atoms_spec (ws := wsBS_digest) Bo9.pre w (List.mem_cons_of_mem _ h)
  have hown : s.vm.findClass RBS = some m.cls := findClass_of_methodNamed Bo9.named
  have hlocks := Bo9.notSynchronized
  have hno := xe_none hne
  subst hsz
  have hD := hD0.self (sz := s.heap.size)
  generalize hAe : va_A [] s.heap.size = A at hD hX ⊢
  have hA : ∀ q : Nat, s.heap.size ≤ q → A q := fun q h => by rw [← hAe]; exact Or.inr h
  have hl := lv_entry ([.ref bo, .int x, .int y]) (n := 3) (Nat.le_of_ble_eq_true rfl)
  rw [lg_entry_eq]
  generalize (lg_sl ([.ref bo, .int x, .int y]) ++ List.replicate (3 - (lg_sl ([.ref bo, .int x, .int y])).length) Slot.unset).toArray = ls at hl ⊢
  have hl : lv_has ls 3 [(0, .ref bo), (1, .int x), (2, .int y)] := hl
  refine xs_q (fun H Q hH hQ => ?_)
  have hS : va_S A s.heap H [] := by rw [hH]; exact va_S.rf
  have hP : va_P (dC, dI) vwCl [] H := by rw [hH]; exact hP
  refine lv_iload_n hx hb dBS_digest_0 rfl (lv_at hl 1 rfl) ?_
  have hPc := hP.sub (ws' := []) [] rfl
  have hDc := hD.sub (ws' := []) [] (by decide) rfl
  have hKc := hK.sub (tys' := []) [] rfl
  have hFc := va_free (wc := []) hD hS hA [] rfl
  have hXc := (hX.kept hS.2.1).narrow hFc
  refine xe_call (xe_runS (As := [.int x]) (rest := []) ⟨hx, hb, hml, hown, hts⟩ (c_BS_requireServer_n l dC dI H.size x hl9 hn) (va_cwS 1 hts (wT_3 w_m_BS_39 w_t_BS_requireServer w_n_BS w_c_BS_requireServer) rfl rfl rfl (by decide +kernel) ⟨Nat.le_of_ble_eq_true rfl, Nat.le_of_ble_eq_true rfl⟩) ⟨fun a U g mk q => by obtain ⟨q0, q1, qP, qK, qD, qX⟩ := q; exact ⟨q0, q1, qP, va_K.moved (u := U) (U := U.calling g mk a) (Vm.Alike.refl U.vm) qK, qD, qX.same rfl⟩, fun U hU hW => ⟨rfl, by rw [hU], by rw [hU]; exact hPc, va_K.moved hW.alike hKc, hDc.weaken (fun _ _ _ _ => trivial), by rw [hU]; exact hXc.warm hW⟩⟩ rfl rfl hl.1 rfl (lv_room (Nat.le_of_ble_eq_true rfl)) dBS_digest_1 ⟨Nat.le_of_ble_eq_true rfl, Nat.le_of_ble_eq_true rfl⟩) hS (fun q _ h => hFc q h) hFc (fun ce9 q9 t H1 locs ht hvm hB hz1 hk1 hS hce9 hcv9 hcl9 => ?_)
  obtain ⟨hP1, hK1, hD1⟩ := hB
  rw [ht] at hP1
  obtain ⟨hP, hD⟩ := va_join (wr := []) (w1 := []) hP hD [] [] rfl rfl (by decide) (by decide) hk1 hFc hP1 hD1
  generalize H1 = H at hP hS hce9 ⊢
  have hP : va_P (dC, dI) vwCl [] H := hP
  have hD : va_D A [] := hD
  have hP : va_P (dC, dI) vwCl [] H := hP
  have hD : va_D A [] := hD
  subst hQ
  exact xe_out (hno _) hlocks hce9 hcv9 hcl9 (fun t ht ha => ⟨⟨by rw [ht]; exact hP, va_K.moved ha hK, hD⟩, hS.F ht⟩) hS.2.2 (Nat.le_of_ble_eq_true rfl) (Nat.le_of_ble_eq_true rfl)
set_option maxHeartbeats 4000000 in
set_option maxRecDepth 100000 in
theorem c_BS_digest_h (l : Launch) (dC : Nat → ClassId) (dI : Nat → Nat → Nat) (sz : Nat) (bo q mk ka cs : Nat) (sv h lt : Nat) (an : Int64) (dp qn : Int32) (cV : ClassId) (gs : Nat → Option Nat) (x9 : Nat) (ra op : Nat) (v : Nat) (lc : Int32) (x : Int32) (hl9 : l.stackTraces = false) (hx9 : x9 < 2) (hgs : gs x9 = some sv) (hv : v < 2 ^ 29) (hu : decide (nI (v - 8) ≤ x ∧ x ≤ nI v) = false) : xe_Met l yBS_digest wsBS_digest { frames := 7, cells := 1, slots := 6, locals := 152 } (va_Pc [.ref bo, .int (nI x9), .int x] (fun U => U.heap.size = sz ∧ va_P (dC, dI) vwCl [(bo, .inr (5, [.ref q, .ref mk, .ref ka, .ref cs])), (cs, .inl (cV, 2, .inr (.inr (.inr (.inr gs))))), (sv, .inr (3, [.ref h, .ref lt, .long an, .int dp, .int qn])), (h, .inr (4, [.ref ra, .ref op, .int (nI v), .int lc]))] U.heap ∧ va_K (dC, dI) vwCl [(cV, .object "BlindShelf$Server")] U ∧ va_D (fun _ => True) [(bo, .inr (5, [.ref q, .ref mk, .ref ka, .ref cs])), (cs, .inl (cV, 2, .inr (.inr (.inr (.inr gs))))), (sv, .inr (3, [.ref h, .ref lt, .long an, .int dp, .int qn])), (h, .inr (4, [.ref ra, .ref op, .int (nI v), .int lc]))] ∧ xe_P (va_A [(bo, .inr (5, [.ref q, .ref mk, .ref ka, .ref cs])), (cs, .inl (cV, 2, .inr (.inr (.inr (.inr gs))))), (sv, .inr (3, [.ref h, .ref lt, .long an, .int dp, .int qn])), (h, .inr (4, [.ref ra, .ref op, .int (nI v), .int lc]))] sz) U U.heap)) "java/lang/IllegalStateException" (fun st t => (va_P (dC, dI) vwCl [(bo, .inr (5, [.ref q, .ref mk, .ref ka, .ref cs])), (cs, .inl (cV, 2, .inr (.inr (.inr (.inr gs))))), (sv, .inr (3, [.ref h, .ref lt, .long an, .int dp, .int qn])), (h, .inr (4, [.ref ra, .ref op, .int (nI v), .int lc]))] t.heap ∧ va_K (dC, dI) vwCl [(cV, .object "BlindShelf$Server")] t ∧ va_D (va_A [(bo, .inr (5, [.ref q, .ref mk, .ref ka, .ref cs])), (cs, .inl (cV, 2, .inr (.inr (.inr (.inr gs))))), (sv, .inr (3, [.ref h, .ref lt, .long an, .int dp, .int qn])), (h, .inr (4, [.ref ra, .ref op, .int (nI v), .int lc]))] sz) [(bo, .inr (5, [.ref q, .ref mk, .ref ka, .ref cs])), (cs, .inl (cV, 2, .inr (.inr (.inr (.inr gs))))), (sv, .inr (3, [.ref h, .ref lt, .long an, .int dp, .int qn])), (h, .inr (4, [.ref ra, .ref op, .int (nI v), .int lc]))]) ∧ va_F (va_A [(bo, .inr (5, [.ref q, .ref mk, .ref ka, .ref cs])), (cs, .inl (cV, 2, .inr (.inr (.inr (.inr gs))))), (sv, .inr (3, [.ref h, .ref lt, .long an, .int dp, .int qn])), (h, .inr (4, [.ref ra, .ref op, .int (nI v), .int lc]))] sz) st t) 1 6 (va_A [(bo, .inr (5, [.ref q, .ref mk, .ref ka, .ref cs])), (cs, .inl (cV, 2, .inr (.inr (.inr (.inr gs))))), (sv, .inr (3, [.ref h, .ref lt, .long an, .int dp, .int qn])), (h, .inr (4, [.ref ra, .ref op, .int (nI v), .int lc]))] sz) := by
  refine xe_ofW (cc := cBS_digest) (maxL := 3) (ret := (some .long)) (by decide) rfl ?_
  intro p e s m args below meth c s₁ Bo9 hml hne hv
  obtain ⟨rfl, hsz, hP, hK, hD0, hX⟩ := hv
  have hx := Bo9.exec
  have hb := Bo9.bytes
  have hr := Bo9.returns
  have hts := fun w (h : w ∈ wT) => atoms_spec (ws := wsBS_digest) Bo9.pre w (List.mem_cons_of_mem _ h)
  have hown : s.vm.findClass RBS = some m.cls := findClass_of_methodNamed Bo9.named
  have hlocks := Bo9.notSynchronized
  have hno := xe_none hne
  subst hsz
  have hD := hD0.self (sz := s.heap.size)
  generalize hAe : va_A [(bo, .inr (5, [.ref q, .ref mk, .ref ka, .ref cs])), (cs, .inl (cV, 2, .inr (.inr (.inr (.inr gs))))), (sv, .inr (3, [.ref h, .ref lt, .long an, .int dp, .int qn])), (h, .inr (4, [.ref ra, .ref op, .int (nI v), .int lc]))] s.heap.size = A at hD hX ⊢
  have hA : ∀ q : Nat, s.heap.size ≤ q → A q := fun q h => by rw [← hAe]; exact Or.inr h
  have hl := lv_entry ([.ref bo, .int (nI x9), .int x]) (n := 3) (Nat.le_of_ble_eq_true rfl)
  rw [lg_entry_eq]
  generalize (lg_sl ([.ref bo, .int (nI x9), .int x]) ++ List.replicate (3 - (lg_sl ([.ref bo, .int (nI x9), .int x])).length) Slot.unset).toArray = ls at hl ⊢
  have hl : lv_has ls 3 [(0, .ref bo), (1, .int (nI x9)), (2, .int x)] := hl
  refine xs_q (fun H Q hH hQ => ?_)
  have hS : va_S A s.heap H [] := by rw [hH]; exact va_S.rf
  have hP : va_P (dC, dI) vwCl [(bo, .inr (5, [.ref q, .ref mk, .ref ka, .ref cs])), (cs, .inl (cV, 2, .inr (.inr (.inr (.inr gs))))), (sv, .inr (3, [.ref h, .ref lt, .long an, .int dp, .int qn])), (h, .inr (4, [.ref ra, .ref op, .int (nI v), .int lc]))] H := by rw [hH]; exact hP
  refine lv_iload_n hx hb dBS_digest_0 rfl (lv_at hl 1 rfl) ?_
  have hPc := hP.sub (ws' := []) [] rfl
  have hDc := hD.sub (ws' := []) [] (by decide) rfl
  have hKc := hK.sub (tys' := []) [] rfl
  have hFc := va_free (wc := []) hD hS hA [] rfl
  refine va_callv (va_runS (As := [.int (nI x9)]) (rest := []) ⟨hx, hb, hml, hown, hts⟩ (c_BS_requireServer_y l dC dI H.size x9 hx9) (va_cwS 1 hts (wT_3 w_m_BS_39 w_t_BS_requireServer w_n_BS w_c_BS_requireServer) rfl rfl rfl (by decide +kernel) ⟨Nat.le_of_ble_eq_true rfl, Nat.le_of_ble_eq_true rfl⟩) ⟨fun a U g mk q => by obtain ⟨q0, q1, qP, qK, qD⟩ := q; exact ⟨q0, q1, qP, va_K.moved (u := U) (U := U.calling g mk a) (Vm.Alike.refl U.vm) qK, qD⟩, fun U hU hW => ⟨rfl, by rw [hU], by rw [hU]; exact hPc, va_K.moved hW.alike hKc, hDc.weaken (fun _ _ _ _ => trivial)⟩⟩ rfl rfl hl.1 rfl (lv_room (Nat.le_of_ble_eq_true rfl)) dBS_digest_1 ⟨Nat.zero_le _, Nat.zero_le _⟩) hS (fun q _ h => hFc q h) hFc (fun u t H1 locs ht hvm hw hB hz1 hk1 hS => ?_)
  obtain ⟨hP1, hK1, hD1⟩ := hB
  rw [ht] at hP1
  have hK1 := va_K.moved hvm.symm hK1
  obtain ⟨hP, hD⟩ := va_join (wr := [(bo, .inr (5, [.ref q, .ref mk, .ref ka, .ref cs])), (cs, .inl (cV, 2, .inr (.inr (.inr (.inr gs))))), (sv, .inr (3, [.ref h, .ref lt, .long an, .int dp, .int qn])), (h, .inr (4, [.ref ra, .ref op, .int (nI v), .int lc]))]) (w1 := []) hP hD [] [0, 1, 2, 3] rfl rfl (by decide) (by decide) hk1 hFc hP1 hD1
  generalize H1 = H at hP hS ⊢
  have hP : va_P (dC, dI) vwCl [(bo, .inr (5, [.ref q, .ref mk, .ref ka, .ref cs])), (cs, .inl (cV, 2, .inr (.inr (.inr (.inr gs))))), (sv, .inr (3, [.ref h, .ref lt, .long an, .int dp, .int qn])), (h, .inr (4, [.ref ra, .ref op, .int (nI v), .int lc]))] H := hP
  have hD : va_D A [(bo, .inr (5, [.ref q, .ref mk, .ref ka, .ref cs])), (cs, .inl (cV, 2, .inr (.inr (.inr (.inr gs))))), (sv, .inr (3, [.ref h, .ref lt, .long an, .int dp, .int qn])), (h, .inr (4, [.ref ra, .ref op, .int (nI v), .int lc]))] := hD
  refine lv_aload_n hx hb dBS_digest_4 rfl (lv_at hl 0 rfl) ?_
  refine lv_iload_n hx hb dBS_digest_5 rfl (lv_at hl 1 rfl) ?_
  refine lv_iload_n hx hb dBS_digest_6 rfl (lv_at hl 2 rfl) ?_
  have hPc := hP.sub (ws' := [(bo, .inr (5, [.ref q, .ref mk, .ref ka, .ref cs])), (cs, .inl (cV, 2, .inr (.inr (.inr (.inr gs))))), (sv, .inr (3, [.ref h, .ref lt, .long an, .int dp, .int qn])), (h, .inr (4, [.ref ra, .ref op, .int (nI v), .int lc]))]) [0, 1, 2, 3] rfl
  have hDc := hD.sub (ws' := [(bo, .inr (5, [.ref q, .ref mk, .ref ka, .ref cs])), (cs, .inl (cV, 2, .inr (.inr (.inr (.inr gs))))), (sv, .inr (3, [.ref h, .ref lt, .long an, .int dp, .int qn])), (h, .inr (4, [.ref ra, .ref op, .int (nI v), .int lc]))]) [0, 1, 2, 3] (by decide) rfl
  have hKc := hK.sub (tys' := [(cV, .object "BlindShelf$Server")]) [0] rfl
  have hFc := va_free (wc := [(bo, .inr (5, [.ref q, .ref mk, .ref ka, .ref cs])), (cs, .inl (cV, 2, .inr (.inr (.inr (.inr gs))))), (sv, .inr (3, [.ref h, .ref lt, .long an, .int dp, .int qn])), (h, .inr (4, [.ref ra, .ref op, .int (nI v), .int lc]))]) hD hS hA [0, 1, 2, 3] rfl
  have hXc := (hX.kept hS.2.1).narrow hFc
  refine xe_call (xe_runV (C := RBS) (As := [.int (nI x9), .int x]) (rest := []) ⟨hx, hb, hml, hown, hts⟩ (c_BS_requireHeld_n l dC dI H.size bo q mk ka cs sv h lt an dp qn cV gs x9 ra op v lc x hl9 hx9 hgs hv hu) (cwV (C := RBS) 2 hts (wT_4 w_m_BS_92 w_i_BS_requireHeld w_s_BS_requireHeld w_n_BS w_c_BS_requireHeld) rfl rfl rfl (by decide +kernel) ⟨Nat.le_of_ble_eq_true rfl, Nat.le_of_ble_eq_true rfl⟩) ⟨fun a U g mk q => by obtain ⟨q0, q1, qP, qK, qD, qX⟩ := q; exact ⟨q0, q1, qP, va_K.moved (u := U) (U := U.calling g mk a) (Vm.Alike.refl U.vm) qK, qD, qX.same rfl⟩, va_recv hK hP (q0 := 0) (ci := 5) (q := (RBS, TBS, 4)) rfl rfl, fun U hU hW => ⟨rfl, by rw [hU], by rw [hU]; exact hPc, va_K.moved hW.alike hKc, hDc.weaken (fun _ _ _ _ => trivial), by rw [hU]; exact hXc.warm hW⟩⟩ rfl rfl hl.1 rfl (lv_room (Nat.le_of_ble_eq_true rfl)) dBS_digest_7 ⟨Nat.le_of_ble_eq_true rfl, Nat.le_of_ble_eq_true rfl⟩) hS (fun q _ h => hFc q h) hFc (fun ce9 q9 t H1 locs ht hvm hB hz1 hk1 hS hce9 hcv9 hcl9 => ?_)
  obtain ⟨hP1, hK1, hD1⟩ := hB
  rw [ht] at hP1
  obtain ⟨hP, hD⟩ := va_join (wr := []) (w1 := [(bo, .inr (5, [.ref q, .ref mk, .ref ka, .ref cs])), (cs, .inl (cV, 2, .inr (.inr (.inr (.inr gs))))), (sv, .inr (3, [.ref h, .ref lt, .long an, .int dp, .int qn])), (h, .inr (4, [.ref ra, .ref op, .int (nI v), .int lc]))]) hP hD [0, 1, 2, 3] [] rfl rfl (by decide) (by decide) hk1 hFc hP1 hD1
  generalize H1 = H at hP hS hce9 ⊢
  have hP : va_P (dC, dI) vwCl [(bo, .inr (5, [.ref q, .ref mk, .ref ka, .ref cs])), (cs, .inl (cV, 2, .inr (.inr (.inr (.inr gs))))), (sv, .inr (3, [.ref h, .ref lt, .long an, .int dp, .int qn])), (h, .inr (4, [.ref ra, .ref op, .int (nI v), .int lc]))] H := hP
  have hD : va_D A [(bo, .inr (5, [.ref q, .ref mk, .ref ka, .ref cs])), (cs, .inl (cV, 2, .inr (.inr (.inr (.inr gs))))), (sv, .inr (3, [.ref h, .ref lt, .long an, .int dp, .int qn])), (h, .inr (4, [.ref ra, .ref op, .int (nI v), .int lc]))] := hD
  have hP : va_P (dC, dI) vwCl [(bo, .inr (5, [.ref q, .ref mk, .ref ka, .ref cs])), (cs, .inl (cV, 2, .inr (.inr (.inr (.inr gs))))), (sv, .inr (3, [.ref h, .ref lt, .long an, .int dp, .int qn])), (h, .inr (4, [.ref ra, .ref op, .int (nI v), .int lc]))] H := hP
  have hD : va_D A [(bo, .inr (5, [.ref q, .ref mk, .ref ka, .ref cs])), (cs, .inl (cV, 2, .inr (.inr (.inr (.inr gs))))), (sv, .inr (3, [.ref h, .ref lt, .long an, .int dp, .int qn])), (h, .inr (4, [.ref ra, .ref op, .int (nI v), .int lc]))] := hD
  subst hQ
  exact xe_out (hno _) hlocks hce9 hcv9 hcl9 (fun t ht ha => ⟨⟨by rw [ht]; exact hP, va_K.moved ha hK, hD⟩, hS.F ht⟩) hS.2.2 (Nat.le_of_ble_eq_true rfl) (Nat.le_of_ble_eq_true rfl)
set_option maxHeartbeats 4000000 in
set_option maxRecDepth 100000 in
theorem c_BS_query_b (l : Launch) (dC : Nat → ClassId) (dI : Nat → Nat → Nat) (sz : Nat) (bo q mk ka cs : Nat) (sv h lt : Nat) (an : Int64) (dp qn : Int32) (cV : ClassId) (gs : Nat → Option Nat) (x9 : Nat) (ra op : Nat) (v : Nat) (lc : Int32) (k kb kf ks kt : Nat) (num : Int32) (cI : ClassId) (cK : ClassId) (gk : Nat → Option Nat) (fb : Nat → Int32) (vj : Nat) (hl9 : l.stackTraces = false) (hx9 : x9 < 2) (hgs : gs x9 = some sv) (hgk : gk x9 = some k) (hv : v < 2 ^ 29) (hu : decide (nI (v - 8) ≤ nI vj ∧ nI vj ≤ nI v) = true) (hg : bs_gd fb 8 = false) : xe_Met l yBS_query wsBS_query { frames := 7, cells := 1, slots := 6, locals := 164 } (va_Pc [.ref bo, .int (nI x9), .int (nI vj)] (fun U => U.heap.size = sz ∧ va_P (dC, dI) vwCl [(bo, .inr (5, [.ref q, .ref mk, .ref ka, .ref cs])), (cs, .inl (cV, 2, .inr (.inr (.inr (.inr gs))))), (sv, .inr (3, [.ref h, .ref lt, .long an, .int dp, .int qn])), (h, .inr (4, [.ref ra, .ref op, .int (nI v), .int lc])), (ka, .inl (cK, 2, .inr (.inr (.inr (.inr gk))))), (k, .inr (1, [.ref kb, .int num, .ref kf, .ref ks, .ref kt])), (kb, .inl (cI, 160, .inl fb))] U.heap ∧ va_K (dC, dI) vwCl [(cV, .object "BlindShelf$Server"), (cI, .int), (cK, .object "BlindShelf$Key")] U ∧ va_D (fun _ => True) [(bo, .inr (5, [.ref q, .ref mk, .ref ka, .ref cs])), (cs, .inl (cV, 2, .inr (.inr (.inr (.inr gs))))), (sv, .inr (3, [.ref h, .ref lt, .long an, .int dp, .int qn])), (h, .inr (4, [.ref ra, .ref op, .int (nI v), .int lc])), (ka, .inl (cK, 2, .inr (.inr (.inr (.inr gk))))), (k, .inr (1, [.ref kb, .int num, .ref kf, .ref ks, .ref kt])), (kb, .inl (cI, 160, .inl fb))] ∧ xe_P (va_A [(bo, .inr (5, [.ref q, .ref mk, .ref ka, .ref cs])), (cs, .inl (cV, 2, .inr (.inr (.inr (.inr gs))))), (sv, .inr (3, [.ref h, .ref lt, .long an, .int dp, .int qn])), (h, .inr (4, [.ref ra, .ref op, .int (nI v), .int lc])), (ka, .inl (cK, 2, .inr (.inr (.inr (.inr gk))))), (k, .inr (1, [.ref kb, .int num, .ref kf, .ref ks, .ref kt])), (kb, .inl (cI, 160, .inl fb))] sz) U U.heap)) "java/lang/IllegalStateException" (fun st t => (va_P (dC, dI) vwCl [(bo, .inr (5, [.ref q, .ref mk, .ref ka, .ref cs])), (cs, .inl (cV, 2, .inr (.inr (.inr (.inr gs))))), (sv, .inr (3, [.ref h, .ref lt, .long an, .int dp, .int qn])), (h, .inr (4, [.ref ra, .ref op, .int (nI v), .int lc])), (ka, .inl (cK, 2, .inr (.inr (.inr (.inr gk))))), (k, .inr (1, [.ref kb, .int num, .ref kf, .ref ks, .ref kt])), (kb, .inl (cI, 160, .inl fb))] t.heap ∧ va_K (dC, dI) vwCl [(cV, .object "BlindShelf$Server"), (cI, .int), (cK, .object "BlindShelf$Key")] t ∧ va_D (va_A [(bo, .inr (5, [.ref q, .ref mk, .ref ka, .ref cs])), (cs, .inl (cV, 2, .inr (.inr (.inr (.inr gs))))), (sv, .inr (3, [.ref h, .ref lt, .long an, .int dp, .int qn])), (h, .inr (4, [.ref ra, .ref op, .int (nI v), .int lc])), (ka, .inl (cK, 2, .inr (.inr (.inr (.inr gk))))), (k, .inr (1, [.ref kb, .int num, .ref kf, .ref ks, .ref kt])), (kb, .inl (cI, 160, .inl fb))] sz) [(bo, .inr (5, [.ref q, .ref mk, .ref ka, .ref cs])), (cs, .inl (cV, 2, .inr (.inr (.inr (.inr gs))))), (sv, .inr (3, [.ref h, .ref lt, .long an, .int dp, .int qn])), (h, .inr (4, [.ref ra, .ref op, .int (nI v), .int lc])), (ka, .inl (cK, 2, .inr (.inr (.inr (.inr gk))))), (k, .inr (1, [.ref kb, .int num, .ref kf, .ref ks, .ref kt])), (kb, .inl (cI, 160, .inl fb))]) ∧ va_F (va_A [(bo, .inr (5, [.ref q, .ref mk, .ref ka, .ref cs])), (cs, .inl (cV, 2, .inr (.inr (.inr (.inr gs))))), (sv, .inr (3, [.ref h, .ref lt, .long an, .int dp, .int qn])), (h, .inr (4, [.ref ra, .ref op, .int (nI v), .int lc])), (ka, .inl (cK, 2, .inr (.inr (.inr (.inr gk))))), (k, .inr (1, [.ref kb, .int num, .ref kf, .ref ks, .ref kt])), (kb, .inl (cI, 160, .inl fb))] sz) st t) 1 6 (va_A [(bo, .inr (5, [.ref q, .ref mk, .ref ka, .ref cs])), (cs, .inl (cV, 2, .inr (.inr (.inr (.inr gs))))), (sv, .inr (3, [.ref h, .ref lt, .long an, .int dp, .int qn])), (h, .inr (4, [.ref ra, .ref op, .int (nI v), .int lc])), (ka, .inl (cK, 2, .inr (.inr (.inr (.inr gk))))), (k, .inr (1, [.ref kb, .int num, .ref kf, .ref ks, .ref kt])), (kb, .inl (cI, 160, .inl fb))] sz) := by
  refine xe_ofW (cc := cBS_query) (maxL := 7) (ret := (some .long)) (by decide) rfl ?_
  intro p e s m args below meth c s₁ Bo9 hml hne hv
  obtain ⟨rfl, hsz, hP, hK, hD0, hX⟩ := hv
  have hx := Bo9.exec
  have hb := Bo9.bytes
  have hr := Bo9.returns
  have hts := fun w (h : w ∈ wT) => atoms_spec (ws := wsBS_query) Bo9.pre w (List.mem_cons_of_mem _ h)
  have hown : s.vm.findClass RBS = some m.cls := findClass_of_methodNamed Bo9.named
  have hlocks := Bo9.notSynchronized
  have hno := xe_none hne
  subst hsz
  have hD := hD0.self (sz := s.heap.size)
  generalize hAe : va_A [(bo, .inr (5, [.ref q, .ref mk, .ref ka, .ref cs])), (cs, .inl (cV, 2, .inr (.inr (.inr (.inr gs))))), (sv, .inr (3, [.ref h, .ref lt, .long an, .int dp, .int qn])), (h, .inr (4, [.ref ra, .ref op, .int (nI v), .int lc])), (ka, .inl (cK, 2, .inr (.inr (.inr (.inr gk))))), (k, .inr (1, [.ref kb, .int num, .ref kf, .ref ks, .ref kt])), (kb, .inl (cI, 160, .inl fb))] s.heap.size = A at hD hX ⊢
  have hA : ∀ q : Nat, s.heap.size ≤ q → A q := fun q h => by rw [← hAe]; exact Or.inr h
  have hl := lv_entry ([.ref bo, .int (nI x9), .int (nI vj)]) (n := 7) (Nat.le_of_ble_eq_true rfl)
  rw [lg_entry_eq]
  generalize (lg_sl ([.ref bo, .int (nI x9), .int (nI vj)]) ++ List.replicate (7 - (lg_sl ([.ref bo, .int (nI x9), .int (nI vj)])).length) Slot.unset).toArray = ls at hl ⊢
  have hl : lv_has ls 7 [(0, .ref bo), (1, .int (nI x9)), (2, .int (nI vj))] := hl
  refine xs_q (fun H Q hH hQ => ?_)
  have hS : va_S A s.heap H [] := by rw [hH]; exact va_S.rf
  have hP : va_P (dC, dI) vwCl [(bo, .inr (5, [.ref q, .ref mk, .ref ka, .ref cs])), (cs, .inl (cV, 2, .inr (.inr (.inr (.inr gs))))), (sv, .inr (3, [.ref h, .ref lt, .long an, .int dp, .int qn])), (h, .inr (4, [.ref ra, .ref op, .int (nI v), .int lc])), (ka, .inl (cK, 2, .inr (.inr (.inr (.inr gk))))), (k, .inr (1, [.ref kb, .int num, .ref kf, .ref ks, .ref kt])), (kb, .inl (cI, 160, .inl fb))] H := by rw [hH]; exact hP
  refine lv_iload_n hx hb dBS_query_0 rfl (lv_at hl 1 rfl) ?_
  have hPc := hP.sub (ws' := []) [] rfl
  have hDc := hD.sub (ws' := []) [] (by decide) rfl
  have hKc := hK.sub (tys' := []) [] rfl
  have hFc := va_free (wc := []) hD hS hA [] rfl
  refine va_callv (va_runS (As := [.int (nI x9)]) (rest := []) ⟨hx, hb, hml, hown, hts⟩ (c_BS_requireServer_y l dC dI H.size x9 hx9) (va_cwS 1 hts (wT_3 w_m_BS_39 w_t_BS_requireServer w_n_BS w_c_BS_requireServer) rfl rfl rfl (by decide +kernel) ⟨Nat.le_of_ble_eq_true rfl, Nat.le_of_ble_eq_true rfl⟩) ⟨fun a U g mk q => by obtain ⟨q0, q1, qP, qK, qD⟩ := q; exact ⟨q0, q1, qP, va_K.moved (u := U) (U := U.calling g mk a) (Vm.Alike.refl U.vm) qK, qD⟩, fun U hU hW => ⟨rfl, by rw [hU], by rw [hU]; exact hPc, va_K.moved hW.alike hKc, hDc.weaken (fun _ _ _ _ => trivial)⟩⟩ rfl rfl hl.1 rfl (lv_room (Nat.le_of_ble_eq_true rfl)) dBS_query_1 ⟨Nat.zero_le _, Nat.zero_le _⟩) hS (fun q _ h => hFc q h) hFc (fun u t H1 locs ht hvm hw hB hz1 hk1 hS => ?_)
  obtain ⟨hP1, hK1, hD1⟩ := hB
  rw [ht] at hP1
  have hK1 := va_K.moved hvm.symm hK1
  obtain ⟨hP, hD⟩ := va_join (wr := [(bo, .inr (5, [.ref q, .ref mk, .ref ka, .ref cs])), (cs, .inl (cV, 2, .inr (.inr (.inr (.inr gs))))), (sv, .inr (3, [.ref h, .ref lt, .long an, .int dp, .int qn])), (h, .inr (4, [.ref ra, .ref op, .int (nI v), .int lc])), (ka, .inl (cK, 2, .inr (.inr (.inr (.inr gk))))), (k, .inr (1, [.ref kb, .int num, .ref kf, .ref ks, .ref kt])), (kb, .inl (cI, 160, .inl fb))]) (w1 := []) hP hD [] [0, 1, 2, 3, 4, 5, 6] rfl rfl (by decide) (by decide) hk1 hFc hP1 hD1
  generalize H1 = H at hP hS ⊢
  have hP : va_P (dC, dI) vwCl [(bo, .inr (5, [.ref q, .ref mk, .ref ka, .ref cs])), (cs, .inl (cV, 2, .inr (.inr (.inr (.inr gs))))), (sv, .inr (3, [.ref h, .ref lt, .long an, .int dp, .int qn])), (h, .inr (4, [.ref ra, .ref op, .int (nI v), .int lc])), (ka, .inl (cK, 2, .inr (.inr (.inr (.inr gk))))), (k, .inr (1, [.ref kb, .int num, .ref kf, .ref ks, .ref kt])), (kb, .inl (cI, 160, .inl fb))] H := hP
  have hD : va_D A [(bo, .inr (5, [.ref q, .ref mk, .ref ka, .ref cs])), (cs, .inl (cV, 2, .inr (.inr (.inr (.inr gs))))), (sv, .inr (3, [.ref h, .ref lt, .long an, .int dp, .int qn])), (h, .inr (4, [.ref ra, .ref op, .int (nI v), .int lc])), (ka, .inl (cK, 2, .inr (.inr (.inr (.inr gk))))), (k, .inr (1, [.ref kb, .int num, .ref kf, .ref ks, .ref kt])), (kb, .inl (cI, 160, .inl fb))] := hD
  refine lv_aload_n hx hb dBS_query_4 rfl (lv_at hl 0 rfl) ?_
  refine lv_iload_n hx hb dBS_query_5 rfl (lv_at hl 1 rfl) ?_
  refine lv_iload_n hx hb dBS_query_6 rfl (lv_at hl 2 rfl) ?_
  have hPc := hP.sub (ws' := [(bo, .inr (5, [.ref q, .ref mk, .ref ka, .ref cs])), (cs, .inl (cV, 2, .inr (.inr (.inr (.inr gs))))), (sv, .inr (3, [.ref h, .ref lt, .long an, .int dp, .int qn])), (h, .inr (4, [.ref ra, .ref op, .int (nI v), .int lc]))]) [0, 1, 2, 3] rfl
  have hDc := hD.sub (ws' := [(bo, .inr (5, [.ref q, .ref mk, .ref ka, .ref cs])), (cs, .inl (cV, 2, .inr (.inr (.inr (.inr gs))))), (sv, .inr (3, [.ref h, .ref lt, .long an, .int dp, .int qn])), (h, .inr (4, [.ref ra, .ref op, .int (nI v), .int lc]))]) [0, 1, 2, 3] (by decide) rfl
  have hKc := hK.sub (tys' := [(cV, .object "BlindShelf$Server")]) [0] rfl
  have hFc := va_free (wc := [(bo, .inr (5, [.ref q, .ref mk, .ref ka, .ref cs])), (cs, .inl (cV, 2, .inr (.inr (.inr (.inr gs))))), (sv, .inr (3, [.ref h, .ref lt, .long an, .int dp, .int qn])), (h, .inr (4, [.ref ra, .ref op, .int (nI v), .int lc]))]) hD hS hA [0, 1, 2, 3] rfl
  refine va_callv (va_runV (C := RBS) (As := [.int (nI x9), .int (nI vj)]) (rest := []) ⟨hx, hb, hml, hown, hts⟩ (c_BS_requireHeld_y l dC dI H.size bo q mk ka cs sv h lt an dp qn cV gs x9 ra op v lc (nI vj) hx9 hgs hv hu) (cwV (C := RBS) 2 hts (wT_4 w_m_BS_92 w_i_BS_requireHeld w_s_BS_requireHeld w_n_BS w_c_BS_requireHeld) rfl rfl rfl (by decide +kernel) ⟨Nat.le_of_ble_eq_true rfl, Nat.le_of_ble_eq_true rfl⟩) ⟨fun a U g mk q => by obtain ⟨q0, q1, qP, qK, qD⟩ := q; exact ⟨q0, q1, qP, va_K.moved (u := U) (U := U.calling g mk a) (Vm.Alike.refl U.vm) qK, qD⟩, va_recv hK hP (q0 := 0) (ci := 5) (q := (RBS, TBS, 4)) rfl rfl, fun U hU hW => ⟨rfl, by rw [hU], by rw [hU]; exact hPc, va_K.moved hW.alike hKc, hDc.weaken (fun _ _ _ _ => trivial)⟩⟩ rfl rfl hl.1 rfl (lv_room (Nat.le_of_ble_eq_true rfl)) dBS_query_7 ⟨Nat.zero_le _, Nat.zero_le _⟩) hS (fun q _ h => hFc q h) hFc (fun u t H1 locs ht hvm hw hB hz1 hk1 hS => ?_)
  obtain ⟨hP1, hK1, hD1⟩ := hB
  rw [ht] at hP1
  have hK1 := va_K.moved hvm.symm hK1
  obtain ⟨hP, hD⟩ := va_join (wr := [(ka, .inl (cK, 2, .inr (.inr (.inr (.inr gk))))), (k, .inr (1, [.ref kb, .int num, .ref kf, .ref ks, .ref kt])), (kb, .inl (cI, 160, .inl fb))]) (w1 := [(bo, .inr (5, [.ref q, .ref mk, .ref ka, .ref cs])), (cs, .inl (cV, 2, .inr (.inr (.inr (.inr gs))))), (sv, .inr (3, [.ref h, .ref lt, .long an, .int dp, .int qn])), (h, .inr (4, [.ref ra, .ref op, .int (nI v), .int lc]))]) hP hD [0, 1, 2, 3] [4, 5, 6] rfl rfl (by decide) (by decide) hk1 hFc hP1 hD1
  generalize H1 = H at hP hS ⊢
  have hP : va_P (dC, dI) vwCl [(ka, .inl (cK, 2, .inr (.inr (.inr (.inr gk))))), (k, .inr (1, [.ref kb, .int num, .ref kf, .ref ks, .ref kt])), (kb, .inl (cI, 160, .inl fb)), (bo, .inr (5, [.ref q, .ref mk, .ref ka, .ref cs])), (cs, .inl (cV, 2, .inr (.inr (.inr (.inr gs))))), (sv, .inr (3, [.ref h, .ref lt, .long an, .int dp, .int qn])), (h, .inr (4, [.ref ra, .ref op, .int (nI v), .int lc]))] H := hP
  have hD : va_D A [(ka, .inl (cK, 2, .inr (.inr (.inr (.inr gk))))), (k, .inr (1, [.ref kb, .int num, .ref kf, .ref ks, .ref kt])), (kb, .inl (cI, 160, .inl fb)), (bo, .inr (5, [.ref q, .ref mk, .ref ka, .ref cs])), (cs, .inl (cV, 2, .inr (.inr (.inr (.inr gs))))), (sv, .inr (3, [.ref h, .ref lt, .long an, .int dp, .int qn])), (h, .inr (4, [.ref ra, .ref op, .int (nI v), .int lc]))] := hD
  refine lv_aload_n hx hb dBS_query_10 rfl (lv_at hl 0 rfl) ?_
  refine lv_iload_n hx hb dBS_query_11 rfl (lv_at hl 1 rfl) ?_
  have hPc := hP.sub (ws' := [(bo, .inr (5, [.ref q, .ref mk, .ref ka, .ref cs])), (ka, .inl (cK, 2, .inr (.inr (.inr (.inr gk))))), (k, .inr (1, [.ref kb, .int num, .ref kf, .ref ks, .ref kt])), (kb, .inl (cI, 160, .inl fb))]) [3, 0, 1, 2] rfl
  have hDc := hD.sub (ws' := [(bo, .inr (5, [.ref q, .ref mk, .ref ka, .ref cs])), (ka, .inl (cK, 2, .inr (.inr (.inr (.inr gk))))), (k, .inr (1, [.ref kb, .int num, .ref kf, .ref ks, .ref kt])), (kb, .inl (cI, 160, .inl fb))]) [3, 0, 1, 2] (by decide) rfl
  have hKc := hK.sub (tys' := [(cI, .int), (cK, .object "BlindShelf$Key")]) [1, 2] rfl
  have hFc := va_free (wc := [(bo, .inr (5, [.ref q, .ref mk, .ref ka, .ref cs])), (ka, .inl (cK, 2, .inr (.inr (.inr (.inr gk))))), (k, .inr (1, [.ref kb, .int num, .ref kf, .ref ks, .ref kt])), (kb, .inl (cI, 160, .inl fb))]) hD hS hA [3, 0, 1, 2] rfl
  have hXc := (hX.kept hS.2.1).narrow hFc
  refine xe_call (xe_runV (C := RBS) (As := [.int (nI x9)]) (rest := []) ⟨hx, hb, hml, hown, hts⟩ (c_BS_requireGood_n l dC dI H.size bo q mk ka cs k kb kf ks kt num cI cK gk fb x9 hl9 hx9 hgk hg) (cwV (C := RBS) 1 hts (wT_4 w_m_BS_81 w_i_BS_requireGood w_s_BS_requireGood w_n_BS w_c_BS_requireGood) rfl rfl rfl (by decide +kernel) ⟨Nat.le_of_ble_eq_true rfl, Nat.le_of_ble_eq_true rfl⟩) ⟨fun a U g mk q => by obtain ⟨q0, q1, qP, qK, qD, qX⟩ := q; exact ⟨q0, q1, qP, va_K.moved (u := U) (U := U.calling g mk a) (Vm.Alike.refl U.vm) qK, qD, qX.same rfl⟩, va_recv hK hP (q0 := 3) (ci := 5) (q := (RBS, TBS, 4)) rfl rfl, fun U hU hW => ⟨rfl, by rw [hU], by rw [hU]; exact hPc, va_K.moved hW.alike hKc, hDc.weaken (fun _ _ _ _ => trivial), by rw [hU]; exact hXc.warm hW⟩⟩ rfl rfl hl.1 rfl (lv_room (Nat.le_of_ble_eq_true rfl)) dBS_query_12 ⟨Nat.le_of_ble_eq_true rfl, Nat.le_of_ble_eq_true rfl⟩) hS (fun q _ h => hFc q h) hFc (fun ce9 q9 t H1 locs ht hvm hB hz1 hk1 hS hce9 hcv9 hcl9 => ?_)
  obtain ⟨hP1, hK1, hD1⟩ := hB
  rw [ht] at hP1
  obtain ⟨hP, hD⟩ := va_join (wr := [(cs, .inl (cV, 2, .inr (.inr (.inr (.inr gs))))), (sv, .inr (3, [.ref h, .ref lt, .long an, .int dp, .int qn])), (h, .inr (4, [.ref ra, .ref op, .int (nI v), .int lc]))]) (w1 := [(bo, .inr (5, [.ref q, .ref mk, .ref ka, .ref cs])), (ka, .inl (cK, 2, .inr (.inr (.inr (.inr gk))))), (k, .inr (1, [.ref kb, .int num, .ref kf, .ref ks, .ref kt])), (kb, .inl (cI, 160, .inl fb))]) hP hD [3, 0, 1, 2] [4, 5, 6] rfl rfl (by decide) (by decide) hk1 hFc hP1 hD1
  generalize H1 = H at hP hS hce9 ⊢
  have hP : va_P (dC, dI) vwCl [(cs, .inl (cV, 2, .inr (.inr (.inr (.inr gs))))), (sv, .inr (3, [.ref h, .ref lt, .long an, .int dp, .int qn])), (h, .inr (4, [.ref ra, .ref op, .int (nI v), .int lc])), (bo, .inr (5, [.ref q, .ref mk, .ref ka, .ref cs])), (ka, .inl (cK, 2, .inr (.inr (.inr (.inr gk))))), (k, .inr (1, [.ref kb, .int num, .ref kf, .ref ks, .ref kt])), (kb, .inl (cI, 160, .inl fb))] H := hP
  have hD : va_D A [(cs, .inl (cV, 2, .inr (.inr (.inr (.inr gs))))), (sv, .inr (3, [.ref h, .ref lt, .long an, .int dp, .int qn])), (h, .inr (4, [.ref ra, .ref op, .int (nI v), .int lc])), (bo, .inr (5, [.ref q, .ref mk, .ref ka, .ref cs])), (ka, .inl (cK, 2, .inr (.inr (.inr (.inr gk))))), (k, .inr (1, [.ref kb, .int num, .ref kf, .ref ks, .ref kt])), (kb, .inl (cI, 160, .inl fb))] := hD
  have hP := hP.sub (ws' := [(bo, .inr (5, [.ref q, .ref mk, .ref ka, .ref cs])), (cs, .inl (cV, 2, .inr (.inr (.inr (.inr gs))))), (sv, .inr (3, [.ref h, .ref lt, .long an, .int dp, .int qn])), (h, .inr (4, [.ref ra, .ref op, .int (nI v), .int lc])), (ka, .inl (cK, 2, .inr (.inr (.inr (.inr gk))))), (k, .inr (1, [.ref kb, .int num, .ref kf, .ref ks, .ref kt])), (kb, .inl (cI, 160, .inl fb))]) [3, 0, 1, 2, 4, 5, 6] rfl
  have hD := hD.sub (ws' := [(bo, .inr (5, [.ref q, .ref mk, .ref ka, .ref cs])), (cs, .inl (cV, 2, .inr (.inr (.inr (.inr gs))))), (sv, .inr (3, [.ref h, .ref lt, .long an, .int dp, .int qn])), (h, .inr (4, [.ref ra, .ref op, .int (nI v), .int lc])), (ka, .inl (cK, 2, .inr (.inr (.inr (.inr gk))))), (k, .inr (1, [.ref kb, .int num, .ref kf, .ref ks, .ref kt])), (kb, .inl (cI, 160, .inl fb))]) [3, 0, 1, 2, 4, 5, 6] (by decide) rfl
  have hP : va_P (dC, dI) vwCl [(bo, .inr (5, [.ref q, .ref mk, .ref ka, .ref cs])), (cs, .inl (cV, 2, .inr (.inr (.inr (.inr gs))))), (sv, .inr (3, [.ref h, .ref lt, .long an, .int dp, .int qn])), (h, .inr (4, [.ref ra, .ref op, .int (nI v), .int lc])), (ka, .inl (cK, 2, .inr (.inr (.inr (.inr gk))))), (k, .inr (1, [.ref kb, .int num, .ref kf, .ref ks, .ref kt])), (kb, .inl (cI, 160, .inl fb))] H := hP
  have hD : va_D A [(bo, .inr (5, [.ref q, .ref mk, .ref ka, .ref cs])), (cs, .inl (cV, 2, .inr (.inr (.inr (.inr gs))))), (sv, .inr (3, [.ref h, .ref lt, .long an, .int dp, .int qn])), (h, .inr (4, [.ref ra, .ref op, .int (nI v), .int lc])), (ka, .inl (cK, 2, .inr (.inr (.inr (.inr gk))))), (k, .inr (1, [.ref kb, .int num, .ref kf, .ref ks, .ref kt])), (kb, .inl (cI, 160, .inl fb))] := hD
  subst hQ
  exact xe_out (hno _) hlocks hce9 hcv9 hcl9 (fun t ht ha => ⟨⟨by rw [ht]; exact hP, va_K.moved ha hK, hD⟩, hS.F ht⟩) hS.2.2 (Nat.le_of_ble_eq_true rfl) (Nat.le_of_ble_eq_true rfl)
set_option maxHeartbeats 4000000 in
set_option maxRecDepth 100000 in
theorem c_BS_deposit_n (l : Launch) (dC : Nat → ClassId) (dI : Nat → Nat → Nat) (sz : Nat) (bo : Nat) (x : Int32) (hl9 : l.stackTraces = false) (hn : bs_ii x 2 = false) : xe_Met l yBS_deposit wsBS_deposit { frames := 7, cells := 1, slots := 6, locals := 166 } (va_Pc [.ref bo, .int x] (fun U => U.heap.size = sz ∧ va_P (dC, dI) vwCl [] U.heap ∧ va_K (dC, dI) vwCl [] U ∧ va_D (fun _ => True) [] ∧ xe_P (va_A [] sz) U U.heap)) "java/lang/IllegalArgumentException" (fun st t => (va_P (dC, dI) vwCl [] t.heap ∧ va_K (dC, dI) vwCl [] t ∧ va_D (va_A [] sz) []) ∧ va_F (va_A [] sz) st t) 1 6 (va_A [] sz) := by
  refine xe_ofW (cc := cBS_deposit) (maxL := 4) (ret := none) (by decide) rfl ?_
  intro p e s m args below meth c s₁ Bo9 hml hne hv
  obtain ⟨rfl, hsz, hP, hK, hD0, hX⟩ := hv
  have hx := Bo9.exec
  have hb := Bo9.bytes
  have hr := Bo9.returns
  have hts := fun w (h : w ∈ wT) => atoms_spec (ws := wsBS_deposit) Bo9.pre w (List.mem_cons_of_mem _ h)
  have hown : s.vm.findClass RBS = some m.cls := findClass_of_methodNamed Bo9.named
  have hlocks := Bo9.notSynchronized
  have hno := xe_none hne
  subst hsz
  have hD := hD0.self (sz := s.heap.size)
  generalize hAe : va_A [] s.heap.size = A at hD hX ⊢
  have hA : ∀ q : Nat, s.heap.size ≤ q → A q := fun q h => by rw [← hAe]; exact Or.inr h
  have hl := lv_entry ([.ref bo, .int x]) (n := 4) (Nat.le_of_ble_eq_true rfl)
  rw [lg_entry_eq]
  generalize (lg_sl ([.ref bo, .int x]) ++ List.replicate (4 - (lg_sl ([.ref bo, .int x])).length) Slot.unset).toArray = ls at hl ⊢
  have hl : lv_has ls 4 [(0, .ref bo), (1, .int x)] := hl
  refine xs_q (fun H Q hH hQ => ?_)
  have hS : va_S A s.heap H [] := by rw [hH]; exact va_S.rf
  have hP : va_P (dC, dI) vwCl [] H := by rw [hH]; exact hP
  refine lv_iload_n hx hb dBS_deposit_0 rfl (lv_at hl 1 rfl) ?_
  have hPc := hP.sub (ws' := []) [] rfl
  have hDc := hD.sub (ws' := []) [] (by decide) rfl
  have hKc := hK.sub (tys' := []) [] rfl
  have hFc := va_free (wc := []) hD hS hA [] rfl
  have hXc := (hX.kept hS.2.1).narrow hFc
  refine xe_call (xe_runS (As := [.int x]) (rest := []) ⟨hx, hb, hml, hown, hts⟩ (c_BS_requireServer_n l dC dI H.size x hl9 hn) (va_cwS 1 hts (wT_3 w_m_BS_39 w_t_BS_requireServer w_n_BS w_c_BS_requireServer) rfl rfl rfl (by decide +kernel) ⟨Nat.le_of_ble_eq_true rfl, Nat.le_of_ble_eq_true rfl⟩) ⟨fun a U g mk q => by obtain ⟨q0, q1, qP, qK, qD, qX⟩ := q; exact ⟨q0, q1, qP, va_K.moved (u := U) (U := U.calling g mk a) (Vm.Alike.refl U.vm) qK, qD, qX.same rfl⟩, fun U hU hW => ⟨rfl, by rw [hU], by rw [hU]; exact hPc, va_K.moved hW.alike hKc, hDc.weaken (fun _ _ _ _ => trivial), by rw [hU]; exact hXc.warm hW⟩⟩ rfl rfl hl.1 rfl (lv_room (Nat.le_of_ble_eq_true rfl)) dBS_deposit_1 ⟨Nat.le_of_ble_eq_true rfl, Nat.le_of_ble_eq_true rfl⟩) hS (fun q _ h => hFc q h) hFc (fun ce9 q9 t H1 locs ht hvm hB hz1 hk1 hS hce9 hcv9 hcl9 => ?_)
  obtain ⟨hP1, hK1, hD1⟩ := hB
  rw [ht] at hP1
  obtain ⟨hP, hD⟩ := va_join (wr := []) (w1 := []) hP hD [] [] rfl rfl (by decide) (by decide) hk1 hFc hP1 hD1
  generalize H1 = H at hP hS hce9 ⊢
  have hP : va_P (dC, dI) vwCl [] H := hP
  have hD : va_D A [] := hD
  have hP : va_P (dC, dI) vwCl [] H := hP
  have hD : va_D A [] := hD
  subst hQ
  exact xe_out (hno _) hlocks hce9 hcv9 hcl9 (fun t ht ha => ⟨⟨by rw [ht]; exact hP, va_K.moved ha hK, hD⟩, hS.F ht⟩) hS.2.2 (Nat.le_of_ble_eq_true rfl) (Nat.le_of_ble_eq_true rfl)
set_option maxHeartbeats 4000000 in
set_option maxRecDepth 100000 in
theorem c_BS_deposit_b (l : Launch) (dC : Nat → ClassId) (dI : Nat → Nat → Nat) (sz : Nat) (bo q mk ka cs : Nat) (k kb kf ks kt : Nat) (num : Int32) (cI : ClassId) (cK : ClassId) (gk : Nat → Option Nat) (fb : Nat → Int32) (x9 : Nat) (hl9 : l.stackTraces = false) (hx9 : x9 < 2) (hgk : gk x9 = some k) (hg : bs_gd fb 8 = false) : xe_Met l yBS_deposit wsBS_deposit { frames := 7, cells := 1, slots := 6, locals := 166 } (va_Pc [.ref bo, .int (nI x9)] (fun U => U.heap.size = sz ∧ va_P (dC, dI) vwCl [(bo, .inr (5, [.ref q, .ref mk, .ref ka, .ref cs])), (ka, .inl (cK, 2, .inr (.inr (.inr (.inr gk))))), (k, .inr (1, [.ref kb, .int num, .ref kf, .ref ks, .ref kt])), (kb, .inl (cI, 160, .inl fb))] U.heap ∧ va_K (dC, dI) vwCl [(cI, .int), (cK, .object "BlindShelf$Key")] U ∧ va_D (fun _ => True) [(bo, .inr (5, [.ref q, .ref mk, .ref ka, .ref cs])), (ka, .inl (cK, 2, .inr (.inr (.inr (.inr gk))))), (k, .inr (1, [.ref kb, .int num, .ref kf, .ref ks, .ref kt])), (kb, .inl (cI, 160, .inl fb))] ∧ xe_P (va_A [(bo, .inr (5, [.ref q, .ref mk, .ref ka, .ref cs])), (ka, .inl (cK, 2, .inr (.inr (.inr (.inr gk))))), (k, .inr (1, [.ref kb, .int num, .ref kf, .ref ks, .ref kt])), (kb, .inl (cI, 160, .inl fb))] sz) U U.heap)) "java/lang/IllegalStateException" (fun st t => (va_P (dC, dI) vwCl [(bo, .inr (5, [.ref q, .ref mk, .ref ka, .ref cs])), (ka, .inl (cK, 2, .inr (.inr (.inr (.inr gk))))), (k, .inr (1, [.ref kb, .int num, .ref kf, .ref ks, .ref kt])), (kb, .inl (cI, 160, .inl fb))] t.heap ∧ va_K (dC, dI) vwCl [(cI, .int), (cK, .object "BlindShelf$Key")] t ∧ va_D (va_A [(bo, .inr (5, [.ref q, .ref mk, .ref ka, .ref cs])), (ka, .inl (cK, 2, .inr (.inr (.inr (.inr gk))))), (k, .inr (1, [.ref kb, .int num, .ref kf, .ref ks, .ref kt])), (kb, .inl (cI, 160, .inl fb))] sz) [(bo, .inr (5, [.ref q, .ref mk, .ref ka, .ref cs])), (ka, .inl (cK, 2, .inr (.inr (.inr (.inr gk))))), (k, .inr (1, [.ref kb, .int num, .ref kf, .ref ks, .ref kt])), (kb, .inl (cI, 160, .inl fb))]) ∧ va_F (va_A [(bo, .inr (5, [.ref q, .ref mk, .ref ka, .ref cs])), (ka, .inl (cK, 2, .inr (.inr (.inr (.inr gk))))), (k, .inr (1, [.ref kb, .int num, .ref kf, .ref ks, .ref kt])), (kb, .inl (cI, 160, .inl fb))] sz) st t) 1 6 (va_A [(bo, .inr (5, [.ref q, .ref mk, .ref ka, .ref cs])), (ka, .inl (cK, 2, .inr (.inr (.inr (.inr gk))))), (k, .inr (1, [.ref kb, .int num, .ref kf, .ref ks, .ref kt])), (kb, .inl (cI, 160, .inl fb))] sz) := by
  refine xe_ofW (cc := cBS_deposit) (maxL := 4) (ret := none) (by decide) rfl ?_
  intro p e s m args below meth c s₁ Bo9 hml hne hv
  obtain ⟨rfl, hsz, hP, hK, hD0, hX⟩ := hv
  have hx := Bo9.exec
  have hb := Bo9.bytes
  have hr := Bo9.returns
  have hts := fun w (h : w ∈ wT) => atoms_spec (ws := wsBS_deposit) Bo9.pre w (List.mem_cons_of_mem _ h)
  have hown : s.vm.findClass RBS = some m.cls := findClass_of_methodNamed Bo9.named
  have hlocks := Bo9.notSynchronized
  have hno := xe_none hne
  subst hsz
  have hD := hD0.self (sz := s.heap.size)
  generalize hAe : va_A [(bo, .inr (5, [.ref q, .ref mk, .ref ka, .ref cs])), (ka, .inl (cK, 2, .inr (.inr (.inr (.inr gk))))), (k, .inr (1, [.ref kb, .int num, .ref kf, .ref ks, .ref kt])), (kb, .inl (cI, 160, .inl fb))] s.heap.size = A at hD hX ⊢
  have hA : ∀ q : Nat, s.heap.size ≤ q → A q := fun q h => by rw [← hAe]; exact Or.inr h
  have hl := lv_entry ([.ref bo, .int (nI x9)]) (n := 4) (Nat.le_of_ble_eq_true rfl)
  rw [lg_entry_eq]
  generalize (lg_sl ([.ref bo, .int (nI x9)]) ++ List.replicate (4 - (lg_sl ([.ref bo, .int (nI x9)])).length) Slot.unset).toArray = ls at hl ⊢
  have hl : lv_has ls 4 [(0, .ref bo), (1, .int (nI x9))] := hl
  refine xs_q (fun H Q hH hQ => ?_)
  have hS : va_S A s.heap H [] := by rw [hH]; exact va_S.rf
  have hP : va_P (dC, dI) vwCl [(bo, .inr (5, [.ref q, .ref mk, .ref ka, .ref cs])), (ka, .inl (cK, 2, .inr (.inr (.inr (.inr gk))))), (k, .inr (1, [.ref kb, .int num, .ref kf, .ref ks, .ref kt])), (kb, .inl (cI, 160, .inl fb))] H := by rw [hH]; exact hP
  refine lv_iload_n hx hb dBS_deposit_0 rfl (lv_at hl 1 rfl) ?_
  have hPc := hP.sub (ws' := []) [] rfl
  have hDc := hD.sub (ws' := []) [] (by decide) rfl
  have hKc := hK.sub (tys' := []) [] rfl
  have hFc := va_free (wc := []) hD hS hA [] rfl
  refine va_callv (va_runS (As := [.int (nI x9)]) (rest := []) ⟨hx, hb, hml, hown, hts⟩ (c_BS_requireServer_y l dC dI H.size x9 hx9) (va_cwS 1 hts (wT_3 w_m_BS_39 w_t_BS_requireServer w_n_BS w_c_BS_requireServer) rfl rfl rfl (by decide +kernel) ⟨Nat.le_of_ble_eq_true rfl, Nat.le_of_ble_eq_true rfl⟩) ⟨fun a U g mk q => by obtain ⟨q0, q1, qP, qK, qD⟩ := q; exact ⟨q0, q1, qP, va_K.moved (u := U) (U := U.calling g mk a) (Vm.Alike.refl U.vm) qK, qD⟩, fun U hU hW => ⟨rfl, by rw [hU], by rw [hU]; exact hPc, va_K.moved hW.alike hKc, hDc.weaken (fun _ _ _ _ => trivial)⟩⟩ rfl rfl hl.1 rfl (lv_room (Nat.le_of_ble_eq_true rfl)) dBS_deposit_1 ⟨Nat.zero_le _, Nat.zero_le _⟩) hS (fun q _ h => hFc q h) hFc (fun u t H1 locs ht hvm hw hB hz1 hk1 hS => ?_)
  obtain ⟨hP1, hK1, hD1⟩ := hB
  rw [ht] at hP1
  have hK1 := va_K.moved hvm.symm hK1
  obtain ⟨hP, hD⟩ := va_join (wr := [(bo, .inr (5, [.ref q, .ref mk, .ref ka, .ref cs])), (ka, .inl (cK, 2, .inr (.inr (.inr (.inr gk))))), (k, .inr (1, [.ref kb, .int num, .ref kf, .ref ks, .ref kt])), (kb, .inl (cI, 160, .inl fb))]) (w1 := []) hP hD [] [0, 1, 2, 3] rfl rfl (by decide) (by decide) hk1 hFc hP1 hD1
  generalize H1 = H at hP hS ⊢
  have hP : va_P (dC, dI) vwCl [(bo, .inr (5, [.ref q, .ref mk, .ref ka, .ref cs])), (ka, .inl (cK, 2, .inr (.inr (.inr (.inr gk))))), (k, .inr (1, [.ref kb, .int num, .ref kf, .ref ks, .ref kt])), (kb, .inl (cI, 160, .inl fb))] H := hP
  have hD : va_D A [(bo, .inr (5, [.ref q, .ref mk, .ref ka, .ref cs])), (ka, .inl (cK, 2, .inr (.inr (.inr (.inr gk))))), (k, .inr (1, [.ref kb, .int num, .ref kf, .ref ks, .ref kt])), (kb, .inl (cI, 160, .inl fb))] := hD
  refine lv_aload_n hx hb dBS_deposit_4 rfl (lv_at hl 0 rfl) ?_
  refine lv_iload_n hx hb dBS_deposit_5 rfl (lv_at hl 1 rfl) ?_
  have hPc := hP.sub (ws' := [(bo, .inr (5, [.ref q, .ref mk, .ref ka, .ref cs])), (ka, .inl (cK, 2, .inr (.inr (.inr (.inr gk))))), (k, .inr (1, [.ref kb, .int num, .ref kf, .ref ks, .ref kt])), (kb, .inl (cI, 160, .inl fb))]) [0, 1, 2, 3] rfl
  have hDc := hD.sub (ws' := [(bo, .inr (5, [.ref q, .ref mk, .ref ka, .ref cs])), (ka, .inl (cK, 2, .inr (.inr (.inr (.inr gk))))), (k, .inr (1, [.ref kb, .int num, .ref kf, .ref ks, .ref kt])), (kb, .inl (cI, 160, .inl fb))]) [0, 1, 2, 3] (by decide) rfl
  have hKc := hK.sub (tys' := [(cI, .int), (cK, .object "BlindShelf$Key")]) [0, 1] rfl
  have hFc := va_free (wc := [(bo, .inr (5, [.ref q, .ref mk, .ref ka, .ref cs])), (ka, .inl (cK, 2, .inr (.inr (.inr (.inr gk))))), (k, .inr (1, [.ref kb, .int num, .ref kf, .ref ks, .ref kt])), (kb, .inl (cI, 160, .inl fb))]) hD hS hA [0, 1, 2, 3] rfl
  have hXc := (hX.kept hS.2.1).narrow hFc
  refine xe_call (xe_runV (C := RBS) (As := [.int (nI x9)]) (rest := []) ⟨hx, hb, hml, hown, hts⟩ (c_BS_requireGood_n l dC dI H.size bo q mk ka cs k kb kf ks kt num cI cK gk fb x9 hl9 hx9 hgk hg) (cwV (C := RBS) 1 hts (wT_4 w_m_BS_81 w_i_BS_requireGood w_s_BS_requireGood w_n_BS w_c_BS_requireGood) rfl rfl rfl (by decide +kernel) ⟨Nat.le_of_ble_eq_true rfl, Nat.le_of_ble_eq_true rfl⟩) ⟨fun a U g mk q => by obtain ⟨q0, q1, qP, qK, qD, qX⟩ := q; exact ⟨q0, q1, qP, va_K.moved (u := U) (U := U.calling g mk a) (Vm.Alike.refl U.vm) qK, qD, qX.same rfl⟩, va_recv hK hP (q0 := 0) (ci := 5) (q := (RBS, TBS, 4)) rfl rfl, fun U hU hW => ⟨rfl, by rw [hU], by rw [hU]; exact hPc, va_K.moved hW.alike hKc, hDc.weaken (fun _ _ _ _ => trivial), by rw [hU]; exact hXc.warm hW⟩⟩ rfl rfl hl.1 rfl (lv_room (Nat.le_of_ble_eq_true rfl)) dBS_deposit_6 ⟨Nat.le_of_ble_eq_true rfl, Nat.le_of_ble_eq_true rfl⟩) hS (fun q _ h => hFc q h) hFc (fun ce9 q9 t H1 locs ht hvm hB hz1 hk1 hS hce9 hcv9 hcl9 => ?_)
  obtain ⟨hP1, hK1, hD1⟩ := hB
  rw [ht] at hP1
  obtain ⟨hP, hD⟩ := va_join (wr := []) (w1 := [(bo, .inr (5, [.ref q, .ref mk, .ref ka, .ref cs])), (ka, .inl (cK, 2, .inr (.inr (.inr (.inr gk))))), (k, .inr (1, [.ref kb, .int num, .ref kf, .ref ks, .ref kt])), (kb, .inl (cI, 160, .inl fb))]) hP hD [0, 1, 2, 3] [] rfl rfl (by decide) (by decide) hk1 hFc hP1 hD1
  generalize H1 = H at hP hS hce9 ⊢
  have hP : va_P (dC, dI) vwCl [(bo, .inr (5, [.ref q, .ref mk, .ref ka, .ref cs])), (ka, .inl (cK, 2, .inr (.inr (.inr (.inr gk))))), (k, .inr (1, [.ref kb, .int num, .ref kf, .ref ks, .ref kt])), (kb, .inl (cI, 160, .inl fb))] H := hP
  have hD : va_D A [(bo, .inr (5, [.ref q, .ref mk, .ref ka, .ref cs])), (ka, .inl (cK, 2, .inr (.inr (.inr (.inr gk))))), (k, .inr (1, [.ref kb, .int num, .ref kf, .ref ks, .ref kt])), (kb, .inl (cI, 160, .inl fb))] := hD
  have hP : va_P (dC, dI) vwCl [(bo, .inr (5, [.ref q, .ref mk, .ref ka, .ref cs])), (ka, .inl (cK, 2, .inr (.inr (.inr (.inr gk))))), (k, .inr (1, [.ref kb, .int num, .ref kf, .ref ks, .ref kt])), (kb, .inl (cI, 160, .inl fb))] H := hP
  have hD : va_D A [(bo, .inr (5, [.ref q, .ref mk, .ref ka, .ref cs])), (ka, .inl (cK, 2, .inr (.inr (.inr (.inr gk))))), (k, .inr (1, [.ref kb, .int num, .ref kf, .ref ks, .ref kt])), (kb, .inl (cI, 160, .inl fb))] := hD
  subst hQ
  exact xe_out (hno _) hlocks hce9 hcv9 hcl9 (fun t ht ha => ⟨⟨by rw [ht]; exact hP, va_K.moved ha hK, hD⟩, hS.F ht⟩) hS.2.2 (Nat.le_of_ble_eq_true rfl) (Nat.le_of_ble_eq_true rfl)
set_option maxHeartbeats 4000000 in
set_option maxRecDepth 100000 in
theorem c_BS_mailbox_n1 (l : Launch) (dC : Nat → ClassId) (dI : Nat → Nat → Nat) (sz : Nat) (bo : Nat) (x y : Int32) (hl9 : l.stackTraces = false) (hn : bs_ii y 256 = false) : xe_Met l yBS_mailbox wsBS_mailbox { frames := 7, cells := 1, slots := 6, locals := 150 } (va_Pc [.ref bo, .int x, .int y] (fun U => U.heap.size = sz ∧ va_P (dC, dI) vwCl [] U.heap ∧ va_K (dC, dI) vwCl [] U ∧ va_D (fun _ => True) [] ∧ xe_P (va_A [] sz) U U.heap)) "java/lang/IllegalArgumentException" (fun st t => (va_P (dC, dI) vwCl [] t.heap ∧ va_K (dC, dI) vwCl [] t ∧ va_D (va_A [] sz) []) ∧ va_F (va_A [] sz) st t) 1 6 (va_A [] sz) := by
  refine xe_ofW (cc := cBS_mailbox) (maxL := 3) (ret := (some .long)) (by decide) rfl ?_
  intro p e s m args below meth c s₁ Bo9 hml hne hv
  obtain ⟨rfl, hsz, hP, hK, hD0, hX⟩ := hv
  have hx := Bo9.exec
  have hb := Bo9.bytes
  have hr := Bo9.returns
  have hts := fun w (h : w ∈ wT) => atoms_spec (ws := wsBS_mailbox) Bo9.pre w (List.mem_cons_of_mem _ h)
  have hown : s.vm.findClass RBS = some m.cls := findClass_of_methodNamed Bo9.named
  have hlocks := Bo9.notSynchronized
  have hno := xe_none hne
  subst hsz
  have hD := hD0.self (sz := s.heap.size)
  generalize hAe : va_A [] s.heap.size = A at hD hX ⊢
  have hA : ∀ q : Nat, s.heap.size ≤ q → A q := fun q h => by rw [← hAe]; exact Or.inr h
  have hl := lv_entry ([.ref bo, .int x, .int y]) (n := 3) (Nat.le_of_ble_eq_true rfl)
  rw [lg_entry_eq]
  generalize (lg_sl ([.ref bo, .int x, .int y]) ++ List.replicate (3 - (lg_sl ([.ref bo, .int x, .int y])).length) Slot.unset).toArray = ls at hl ⊢
  have hl : lv_has ls 3 [(0, .ref bo), (1, .int x), (2, .int y)] := hl
  refine xs_q (fun H Q hH hQ => ?_)
  have hS : va_S A s.heap H [] := by rw [hH]; exact va_S.rf
  have hP : va_P (dC, dI) vwCl [] H := by rw [hH]; exact hP
  refine lv_iload_n hx hb dBS_mailbox_0 rfl (lv_at hl 2 rfl) ?_
  have hPc := hP.sub (ws' := []) [] rfl
  have hDc := hD.sub (ws' := []) [] (by decide) rfl
  have hKc := hK.sub (tys' := []) [] rfl
  have hFc := va_free (wc := []) hD hS hA [] rfl
  have hXc := (hX.kept hS.2.1).narrow hFc
  refine xe_call (xe_runS (As := [.int y]) (rest := []) ⟨hx, hb, hml, hown, hts⟩ (c_BS_requirePlace_n l dC dI H.size y hl9 hn) (va_cwS 1 hts (wT_3 w_m_BS_42 w_t_BS_requirePlace w_n_BS w_c_BS_requirePlace) rfl rfl rfl (by decide +kernel) ⟨Nat.le_of_ble_eq_true rfl, Nat.le_of_ble_eq_true rfl⟩) ⟨fun a U g mk q => by obtain ⟨q0, q1, qP, qK, qD, qX⟩ := q; exact ⟨q0, q1, qP, va_K.moved (u := U) (U := U.calling g mk a) (Vm.Alike.refl U.vm) qK, qD, qX.same rfl⟩, fun U hU hW => ⟨rfl, by rw [hU], by rw [hU]; exact hPc, va_K.moved hW.alike hKc, hDc.weaken (fun _ _ _ _ => trivial), by rw [hU]; exact hXc.warm hW⟩⟩ rfl rfl hl.1 rfl (lv_room (Nat.le_of_ble_eq_true rfl)) dBS_mailbox_1 ⟨Nat.le_of_ble_eq_true rfl, Nat.le_of_ble_eq_true rfl⟩) hS (fun q _ h => hFc q h) hFc (fun ce9 q9 t H1 locs ht hvm hB hz1 hk1 hS hce9 hcv9 hcl9 => ?_)
  obtain ⟨hP1, hK1, hD1⟩ := hB
  rw [ht] at hP1
  obtain ⟨hP, hD⟩ := va_join (wr := []) (w1 := []) hP hD [] [] rfl rfl (by decide) (by decide) hk1 hFc hP1 hD1
  generalize H1 = H at hP hS hce9 ⊢
  have hP : va_P (dC, dI) vwCl [] H := hP
  have hD : va_D A [] := hD
  have hP : va_P (dC, dI) vwCl [] H := hP
  have hD : va_D A [] := hD
  subst hQ
  exact xe_out (hno _) hlocks hce9 hcv9 hcl9 (fun t ht ha => ⟨⟨by rw [ht]; exact hP, va_K.moved ha hK, hD⟩, hS.F ht⟩) hS.2.2 (Nat.le_of_ble_eq_true rfl) (Nat.le_of_ble_eq_true rfl)
set_option maxHeartbeats 4000000 in
set_option maxRecDepth 100000 in
theorem c_BS_mailbox_n2 (l : Launch) (dC : Nat → ClassId) (dI : Nat → Nat → Nat) (sz : Nat) (bo : Nat) (x : Int32) (i9 : Nat) (hl9 : l.stackTraces = false) (hi9 : i9 < 256) (hx3 : ¬ x = nI 2) (hn : bs_ii x 2 = false) : xe_Met l yBS_mailbox wsBS_mailbox { frames := 7, cells := 1, slots := 6, locals := 150 } (va_Pc [.ref bo, .int x, .int (nI i9)] (fun U => U.heap.size = sz ∧ va_P (dC, dI) vwCl [] U.heap ∧ va_K (dC, dI) vwCl [] U ∧ va_D (fun _ => True) [] ∧ xe_P (va_A [] sz) U U.heap)) "java/lang/IllegalArgumentException" (fun st t => (va_P (dC, dI) vwCl [] t.heap ∧ va_K (dC, dI) vwCl [] t ∧ va_D (va_A [] sz) []) ∧ va_F (va_A [] sz) st t) 1 6 (va_A [] sz) := by
  refine xe_ofW (cc := cBS_mailbox) (maxL := 3) (ret := (some .long)) (by decide) rfl ?_
  intro p e s m args below meth c s₁ Bo9 hml hne hv
  obtain ⟨rfl, hsz, hP, hK, hD0, hX⟩ := hv
  have hx := Bo9.exec
  have hb := Bo9.bytes
  have hr := Bo9.returns
  have hts := fun w (h : w ∈ wT) => atoms_spec (ws := wsBS_mailbox) Bo9.pre w (List.mem_cons_of_mem _ h)
  have hown : s.vm.findClass RBS = some m.cls := findClass_of_methodNamed Bo9.named
  have hlocks := Bo9.notSynchronized
  have hno := xe_none hne
  subst hsz
  have hD := hD0.self (sz := s.heap.size)
  generalize hAe : va_A [] s.heap.size = A at hD hX ⊢
  have hA : ∀ q : Nat, s.heap.size ≤ q → A q := fun q h => by rw [← hAe]; exact Or.inr h
  have hl := lv_entry ([.ref bo, .int x, .int (nI i9)]) (n := 3) (Nat.le_of_ble_eq_true rfl)
  rw [lg_entry_eq]
  generalize (lg_sl ([.ref bo, .int x, .int (nI i9)]) ++ List.replicate (3 - (lg_sl ([.ref bo, .int x, .int (nI i9)])).length) Slot.unset).toArray = ls at hl ⊢
  have hl : lv_has ls 3 [(0, .ref bo), (1, .int x), (2, .int (nI i9))] := hl
  refine xs_q (fun H Q hH hQ => ?_)
  have hS : va_S A s.heap H [] := by rw [hH]; exact va_S.rf
  have hP : va_P (dC, dI) vwCl [] H := by rw [hH]; exact hP
  refine lv_iload_n hx hb dBS_mailbox_0 rfl (lv_at hl 2 rfl) ?_
  have hPc := hP.sub (ws' := []) [] rfl
  have hDc := hD.sub (ws' := []) [] (by decide) rfl
  have hKc := hK.sub (tys' := []) [] rfl
  have hFc := va_free (wc := []) hD hS hA [] rfl
  refine va_callv (va_runS (As := [.int (nI i9)]) (rest := []) ⟨hx, hb, hml, hown, hts⟩ (c_BS_requirePlace_y l dC dI H.size i9 hi9) (va_cwS 1 hts (wT_3 w_m_BS_42 w_t_BS_requirePlace w_n_BS w_c_BS_requirePlace) rfl rfl rfl (by decide +kernel) ⟨Nat.le_of_ble_eq_true rfl, Nat.le_of_ble_eq_true rfl⟩) ⟨fun a U g mk q => by obtain ⟨q0, q1, qP, qK, qD⟩ := q; exact ⟨q0, q1, qP, va_K.moved (u := U) (U := U.calling g mk a) (Vm.Alike.refl U.vm) qK, qD⟩, fun U hU hW => ⟨rfl, by rw [hU], by rw [hU]; exact hPc, va_K.moved hW.alike hKc, hDc.weaken (fun _ _ _ _ => trivial)⟩⟩ rfl rfl hl.1 rfl (lv_room (Nat.le_of_ble_eq_true rfl)) dBS_mailbox_1 ⟨Nat.zero_le _, Nat.zero_le _⟩) hS (fun q _ h => hFc q h) hFc (fun u t H1 locs ht hvm hw hB hz1 hk1 hS => ?_)
  obtain ⟨hP1, hK1, hD1⟩ := hB
  rw [ht] at hP1
  have hK1 := va_K.moved hvm.symm hK1
  obtain ⟨hP, hD⟩ := va_join (wr := []) (w1 := []) hP hD [] [] rfl rfl (by decide) (by decide) hk1 hFc hP1 hD1
  generalize H1 = H at hP hS ⊢
  have hP : va_P (dC, dI) vwCl [] H := hP
  have hD : va_D A [] := hD
  refine lv_iload_n hx hb dBS_mailbox_4 rfl (lv_at hl 1 rfl) ?_
  refine lv_iconst (v := nI 2) hx hb dBS_mailbox_5 (by decide) ?_
  refine lv_icmp_ne (tgt := 33) hx hb dBS_mailbox_6 (by decide) (fun _ => ?_) (fun h => absurd h (hx3))
  refine lv_iload_n hx hb dBS_mailbox_33 rfl (lv_at hl 1 rfl) ?_
  have hPc := hP.sub (ws' := []) [] rfl
  have hDc := hD.sub (ws' := []) [] (by decide) rfl
  have hKc := hK.sub (tys' := []) [] rfl
  have hFc := va_free (wc := []) hD hS hA [] rfl
  have hXc := (hX.kept hS.2.1).narrow hFc
  refine xe_call (xe_runS (As := [.int x]) (rest := []) ⟨hx, hb, hml, hown, hts⟩ (c_BS_requireServer_n l dC dI H.size x hl9 hn) (va_cwS 1 hts (wT_3 w_m_BS_39 w_t_BS_requireServer w_n_BS w_c_BS_requireServer) rfl rfl rfl (by decide +kernel) ⟨Nat.le_of_ble_eq_true rfl, Nat.le_of_ble_eq_true rfl⟩) ⟨fun a U g mk q => by obtain ⟨q0, q1, qP, qK, qD, qX⟩ := q; exact ⟨q0, q1, qP, va_K.moved (u := U) (U := U.calling g mk a) (Vm.Alike.refl U.vm) qK, qD, qX.same rfl⟩, fun U hU hW => ⟨rfl, by rw [hU], by rw [hU]; exact hPc, va_K.moved hW.alike hKc, hDc.weaken (fun _ _ _ _ => trivial), by rw [hU]; exact hXc.warm hW⟩⟩ rfl rfl hl.1 rfl (lv_room (Nat.le_of_ble_eq_true rfl)) dBS_mailbox_34 ⟨Nat.le_of_ble_eq_true rfl, Nat.le_of_ble_eq_true rfl⟩) hS (fun q _ h => hFc q h) hFc (fun ce9 q9 t H1 locs ht hvm hB hz1 hk1 hS hce9 hcv9 hcl9 => ?_)
  obtain ⟨hP1, hK1, hD1⟩ := hB
  rw [ht] at hP1
  obtain ⟨hP, hD⟩ := va_join (wr := []) (w1 := []) hP hD [] [] rfl rfl (by decide) (by decide) hk1 hFc hP1 hD1
  generalize H1 = H at hP hS hce9 ⊢
  have hP : va_P (dC, dI) vwCl [] H := hP
  have hD : va_D A [] := hD
  have hP : va_P (dC, dI) vwCl [] H := hP
  have hD : va_D A [] := hD
  subst hQ
  exact xe_out (hno _) hlocks hce9 hcv9 hcl9 (fun t ht ha => ⟨⟨by rw [ht]; exact hP, va_K.moved ha hK, hD⟩, hS.F ht⟩) hS.2.2 (Nat.le_of_ble_eq_true rfl) (Nat.le_of_ble_eq_true rfl)
set_option maxHeartbeats 4000000 in
set_option maxRecDepth 100000 in
theorem c_BS_record_n1 (l : Launch) (dC : Nat → ClassId) (dI : Nat → Nat → Nat) (sz : Nat) (bo : Nat) (x y w : Int32) (hl9 : l.stackTraces = false) (hn : bs_ii x 2 = false) : xe_Met l yBS_record wsBS_record { frames := 7, cells := 1, slots := 6, locals := 152 } (va_Pc [.ref bo, .int x, .int y, .int w] (fun U => U.heap.size = sz ∧ va_P (dC, dI) vwCl [] U.heap ∧ va_K (dC, dI) vwCl [] U ∧ va_D (fun _ => True) [] ∧ xe_P (va_A [] sz) U U.heap)) "java/lang/IllegalArgumentException" (fun st t => (va_P (dC, dI) vwCl [] t.heap ∧ va_K (dC, dI) vwCl [] t ∧ va_D (va_A [] sz) []) ∧ va_F (va_A [] sz) st t) 1 6 (va_A [] sz) := by
  refine xe_ofW (cc := cBS_record) (maxL := 4) (ret := (some .long)) (by decide) rfl ?_
  intro p e s m args below meth c s₁ Bo9 hml hne hv
  obtain ⟨rfl, hsz, hP, hK, hD0, hX⟩ := hv
  have hx := Bo9.exec
  have hb := Bo9.bytes
  have hr := Bo9.returns
  have hts := fun w (h : w ∈ wT) => atoms_spec (ws := wsBS_record) Bo9.pre w (List.mem_cons_of_mem _ h)
  have hown : s.vm.findClass RBS = some m.cls := findClass_of_methodNamed Bo9.named
  have hlocks := Bo9.notSynchronized
  have hno := xe_none hne
  subst hsz
  have hD := hD0.self (sz := s.heap.size)
  generalize hAe : va_A [] s.heap.size = A at hD hX ⊢
  have hA : ∀ q : Nat, s.heap.size ≤ q → A q := fun q h => by rw [← hAe]; exact Or.inr h
  have hl := lv_entry ([.ref bo, .int x, .int y, .int w]) (n := 4) (Nat.le_of_ble_eq_true rfl)
  rw [lg_entry_eq]
  generalize (lg_sl ([.ref bo, .int x, .int y, .int w]) ++ List.replicate (4 - (lg_sl ([.ref bo, .int x, .int y, .int w])).length) Slot.unset).toArray = ls at hl ⊢
  have hl : lv_has ls 4 [(0, .ref bo), (1, .int x), (2, .int y), (3, .int w)] := hl
  refine xs_q (fun H Q hH hQ => ?_)
  have hS : va_S A s.heap H [] := by rw [hH]; exact va_S.rf
  have hP : va_P (dC, dI) vwCl [] H := by rw [hH]; exact hP
  refine lv_iload_n hx hb dBS_record_0 rfl (lv_at hl 1 rfl) ?_
  have hPc := hP.sub (ws' := []) [] rfl
  have hDc := hD.sub (ws' := []) [] (by decide) rfl
  have hKc := hK.sub (tys' := []) [] rfl
  have hFc := va_free (wc := []) hD hS hA [] rfl
  have hXc := (hX.kept hS.2.1).narrow hFc
  refine xe_call (xe_runS (As := [.int x]) (rest := []) ⟨hx, hb, hml, hown, hts⟩ (c_BS_requireServer_n l dC dI H.size x hl9 hn) (va_cwS 1 hts (wT_3 w_m_BS_39 w_t_BS_requireServer w_n_BS w_c_BS_requireServer) rfl rfl rfl (by decide +kernel) ⟨Nat.le_of_ble_eq_true rfl, Nat.le_of_ble_eq_true rfl⟩) ⟨fun a U g mk q => by obtain ⟨q0, q1, qP, qK, qD, qX⟩ := q; exact ⟨q0, q1, qP, va_K.moved (u := U) (U := U.calling g mk a) (Vm.Alike.refl U.vm) qK, qD, qX.same rfl⟩, fun U hU hW => ⟨rfl, by rw [hU], by rw [hU]; exact hPc, va_K.moved hW.alike hKc, hDc.weaken (fun _ _ _ _ => trivial), by rw [hU]; exact hXc.warm hW⟩⟩ rfl rfl hl.1 rfl (lv_room (Nat.le_of_ble_eq_true rfl)) dBS_record_1 ⟨Nat.le_of_ble_eq_true rfl, Nat.le_of_ble_eq_true rfl⟩) hS (fun q _ h => hFc q h) hFc (fun ce9 q9 t H1 locs ht hvm hB hz1 hk1 hS hce9 hcv9 hcl9 => ?_)
  obtain ⟨hP1, hK1, hD1⟩ := hB
  rw [ht] at hP1
  obtain ⟨hP, hD⟩ := va_join (wr := []) (w1 := []) hP hD [] [] rfl rfl (by decide) (by decide) hk1 hFc hP1 hD1
  generalize H1 = H at hP hS hce9 ⊢
  have hP : va_P (dC, dI) vwCl [] H := hP
  have hD : va_D A [] := hD
  have hP : va_P (dC, dI) vwCl [] H := hP
  have hD : va_D A [] := hD
  subst hQ
  exact xe_out (hno _) hlocks hce9 hcv9 hcl9 (fun t ht ha => ⟨⟨by rw [ht]; exact hP, va_K.moved ha hK, hD⟩, hS.F ht⟩) hS.2.2 (Nat.le_of_ble_eq_true rfl) (Nat.le_of_ble_eq_true rfl)
set_option maxHeartbeats 4000000 in
set_option maxRecDepth 100000 in
theorem c_BS_record_n2 (l : Launch) (dC : Nat → ClassId) (dI : Nat → Nat → Nat) (sz : Nat) (bo x9 : Nat) (w y : Int32) (hl9 : l.stackTraces = false) (hx9 : x9 < 2) (hn : bs_ii y 256 = false) : xe_Met l yBS_record wsBS_record { frames := 7, cells := 1, slots := 6, locals := 152 } (va_Pc [.ref bo, .int (nI x9), .int w, .int y] (fun U => U.heap.size = sz ∧ va_P (dC, dI) vwCl [] U.heap ∧ va_K (dC, dI) vwCl [] U ∧ va_D (fun _ => True) [] ∧ xe_P (va_A [] sz) U U.heap)) "java/lang/IllegalArgumentException" (fun st t => (va_P (dC, dI) vwCl [] t.heap ∧ va_K (dC, dI) vwCl [] t ∧ va_D (va_A [] sz) []) ∧ va_F (va_A [] sz) st t) 1 6 (va_A [] sz) := by
  refine xe_ofW (cc := cBS_record) (maxL := 4) (ret := (some .long)) (by decide) rfl ?_
  intro p e s m args below meth c s₁ Bo9 hml hne hv
  obtain ⟨rfl, hsz, hP, hK, hD0, hX⟩ := hv
  have hx := Bo9.exec
  have hb := Bo9.bytes
  have hr := Bo9.returns
  have hts := fun w (h : w ∈ wT) => atoms_spec (ws := wsBS_record) Bo9.pre w (List.mem_cons_of_mem _ h)
  have hown : s.vm.findClass RBS = some m.cls := findClass_of_methodNamed Bo9.named
  have hlocks := Bo9.notSynchronized
  have hno := xe_none hne
  subst hsz
  have hD := hD0.self (sz := s.heap.size)
  generalize hAe : va_A [] s.heap.size = A at hD hX ⊢
  have hA : ∀ q : Nat, s.heap.size ≤ q → A q := fun q h => by rw [← hAe]; exact Or.inr h
  have hl := lv_entry ([.ref bo, .int (nI x9), .int w, .int y]) (n := 4) (Nat.le_of_ble_eq_true rfl)
  rw [lg_entry_eq]
  generalize (lg_sl ([.ref bo, .int (nI x9), .int w, .int y]) ++ List.replicate (4 - (lg_sl ([.ref bo, .int (nI x9), .int w, .int y])).length) Slot.unset).toArray = ls at hl ⊢
  have hl : lv_has ls 4 [(0, .ref bo), (1, .int (nI x9)), (2, .int w), (3, .int y)] := hl
  refine xs_q (fun H Q hH hQ => ?_)
  have hS : va_S A s.heap H [] := by rw [hH]; exact va_S.rf
  have hP : va_P (dC, dI) vwCl [] H := by rw [hH]; exact hP
  refine lv_iload_n hx hb dBS_record_0 rfl (lv_at hl 1 rfl) ?_
  have hPc := hP.sub (ws' := []) [] rfl
  have hDc := hD.sub (ws' := []) [] (by decide) rfl
  have hKc := hK.sub (tys' := []) [] rfl
  have hFc := va_free (wc := []) hD hS hA [] rfl
  refine va_callv (va_runS (As := [.int (nI x9)]) (rest := []) ⟨hx, hb, hml, hown, hts⟩ (c_BS_requireServer_y l dC dI H.size x9 hx9) (va_cwS 1 hts (wT_3 w_m_BS_39 w_t_BS_requireServer w_n_BS w_c_BS_requireServer) rfl rfl rfl (by decide +kernel) ⟨Nat.le_of_ble_eq_true rfl, Nat.le_of_ble_eq_true rfl⟩) ⟨fun a U g mk q => by obtain ⟨q0, q1, qP, qK, qD⟩ := q; exact ⟨q0, q1, qP, va_K.moved (u := U) (U := U.calling g mk a) (Vm.Alike.refl U.vm) qK, qD⟩, fun U hU hW => ⟨rfl, by rw [hU], by rw [hU]; exact hPc, va_K.moved hW.alike hKc, hDc.weaken (fun _ _ _ _ => trivial)⟩⟩ rfl rfl hl.1 rfl (lv_room (Nat.le_of_ble_eq_true rfl)) dBS_record_1 ⟨Nat.zero_le _, Nat.zero_le _⟩) hS (fun q _ h => hFc q h) hFc (fun u t H1 locs ht hvm hw hB hz1 hk1 hS => ?_)
  obtain ⟨hP1, hK1, hD1⟩ := hB
  rw [ht] at hP1
  have hK1 := va_K.moved hvm.symm hK1
  obtain ⟨hP, hD⟩ := va_join (wr := []) (w1 := []) hP hD [] [] rfl rfl (by decide) (by decide) hk1 hFc hP1 hD1
  generalize H1 = H at hP hS ⊢
  have hP : va_P (dC, dI) vwCl [] H := hP
  have hD : va_D A [] := hD
  refine lv_iload_n hx hb dBS_record_4 rfl (lv_at hl 3 rfl) ?_
  have hPc := hP.sub (ws' := []) [] rfl
  have hDc := hD.sub (ws' := []) [] (by decide) rfl
  have hKc := hK.sub (tys' := []) [] rfl
  have hFc := va_free (wc := []) hD hS hA [] rfl
  have hXc := (hX.kept hS.2.1).narrow hFc
  refine xe_call (xe_runS (As := [.int y]) (rest := []) ⟨hx, hb, hml, hown, hts⟩ (c_BS_requirePlace_n l dC dI H.size y hl9 hn) (va_cwS 1 hts (wT_3 w_m_BS_42 w_t_BS_requirePlace w_n_BS w_c_BS_requirePlace) rfl rfl rfl (by decide +kernel) ⟨Nat.le_of_ble_eq_true rfl, Nat.le_of_ble_eq_true rfl⟩) ⟨fun a U g mk q => by obtain ⟨q0, q1, qP, qK, qD, qX⟩ := q; exact ⟨q0, q1, qP, va_K.moved (u := U) (U := U.calling g mk a) (Vm.Alike.refl U.vm) qK, qD, qX.same rfl⟩, fun U hU hW => ⟨rfl, by rw [hU], by rw [hU]; exact hPc, va_K.moved hW.alike hKc, hDc.weaken (fun _ _ _ _ => trivial), by rw [hU]; exact hXc.warm hW⟩⟩ rfl rfl hl.1 rfl (lv_room (Nat.le_of_ble_eq_true rfl)) dBS_record_5 ⟨Nat.le_of_ble_eq_true rfl, Nat.le_of_ble_eq_true rfl⟩) hS (fun q _ h => hFc q h) hFc (fun ce9 q9 t H1 locs ht hvm hB hz1 hk1 hS hce9 hcv9 hcl9 => ?_)
  obtain ⟨hP1, hK1, hD1⟩ := hB
  rw [ht] at hP1
  obtain ⟨hP, hD⟩ := va_join (wr := []) (w1 := []) hP hD [] [] rfl rfl (by decide) (by decide) hk1 hFc hP1 hD1
  generalize H1 = H at hP hS hce9 ⊢
  have hP : va_P (dC, dI) vwCl [] H := hP
  have hD : va_D A [] := hD
  have hP : va_P (dC, dI) vwCl [] H := hP
  have hD : va_D A [] := hD
  subst hQ
  exact xe_out (hno _) hlocks hce9 hcv9 hcl9 (fun t ht ha => ⟨⟨by rw [ht]; exact hP, va_K.moved ha hK, hD⟩, hS.F ht⟩) hS.2.2 (Nat.le_of_ble_eq_true rfl) (Nat.le_of_ble_eq_true rfl)
set_option maxHeartbeats 4000000 in
set_option maxRecDepth 100000 in
theorem c_BS_record_h (l : Launch) (dC : Nat → ClassId) (dI : Nat → Nat → Nat) (sz : Nat) (bo q mk ka cs : Nat) (sv h lt : Nat) (an : Int64) (dp qn : Int32) (cV : ClassId) (gs : Nat → Option Nat) (x9 : Nat) (ra op : Nat) (v : Nat) (lc : Int32) (x : Int32) (i9 : Nat) (hl9 : l.stackTraces = false) (hx9 : x9 < 2) (hgs : gs x9 = some sv) (hi9 : i9 < 256) (hv : v < 2 ^ 29) (hu : decide (nI (v - 8) ≤ x ∧ x ≤ nI v) = false) : xe_Met l yBS_record wsBS_record { frames := 7, cells := 1, slots := 6, locals := 152 } (va_Pc [.ref bo, .int (nI x9), .int x, .int (nI i9)] (fun U => U.heap.size = sz ∧ va_P (dC, dI) vwCl [(bo, .inr (5, [.ref q, .ref mk, .ref ka, .ref cs])), (cs, .inl (cV, 2, .inr (.inr (.inr (.inr gs))))), (sv, .inr (3, [.ref h, .ref lt, .long an, .int dp, .int qn])), (h, .inr (4, [.ref ra, .ref op, .int (nI v), .int lc]))] U.heap ∧ va_K (dC, dI) vwCl [(cV, .object "BlindShelf$Server")] U ∧ va_D (fun _ => True) [(bo, .inr (5, [.ref q, .ref mk, .ref ka, .ref cs])), (cs, .inl (cV, 2, .inr (.inr (.inr (.inr gs))))), (sv, .inr (3, [.ref h, .ref lt, .long an, .int dp, .int qn])), (h, .inr (4, [.ref ra, .ref op, .int (nI v), .int lc]))] ∧ xe_P (va_A [(bo, .inr (5, [.ref q, .ref mk, .ref ka, .ref cs])), (cs, .inl (cV, 2, .inr (.inr (.inr (.inr gs))))), (sv, .inr (3, [.ref h, .ref lt, .long an, .int dp, .int qn])), (h, .inr (4, [.ref ra, .ref op, .int (nI v), .int lc]))] sz) U U.heap)) "java/lang/IllegalStateException" (fun st t => (va_P (dC, dI) vwCl [(bo, .inr (5, [.ref q, .ref mk, .ref ka, .ref cs])), (cs, .inl (cV, 2, .inr (.inr (.inr (.inr gs))))), (sv, .inr (3, [.ref h, .ref lt, .long an, .int dp, .int qn])), (h, .inr (4, [.ref ra, .ref op, .int (nI v), .int lc]))] t.heap ∧ va_K (dC, dI) vwCl [(cV, .object "BlindShelf$Server")] t ∧ va_D (va_A [(bo, .inr (5, [.ref q, .ref mk, .ref ka, .ref cs])), (cs, .inl (cV, 2, .inr (.inr (.inr (.inr gs))))), (sv, .inr (3, [.ref h, .ref lt, .long an, .int dp, .int qn])), (h, .inr (4, [.ref ra, .ref op, .int (nI v), .int lc]))] sz) [(bo, .inr (5, [.ref q, .ref mk, .ref ka, .ref cs])), (cs, .inl (cV, 2, .inr (.inr (.inr (.inr gs))))), (sv, .inr (3, [.ref h, .ref lt, .long an, .int dp, .int qn])), (h, .inr (4, [.ref ra, .ref op, .int (nI v), .int lc]))]) ∧ va_F (va_A [(bo, .inr (5, [.ref q, .ref mk, .ref ka, .ref cs])), (cs, .inl (cV, 2, .inr (.inr (.inr (.inr gs))))), (sv, .inr (3, [.ref h, .ref lt, .long an, .int dp, .int qn])), (h, .inr (4, [.ref ra, .ref op, .int (nI v), .int lc]))] sz) st t) 1 6 (va_A [(bo, .inr (5, [.ref q, .ref mk, .ref ka, .ref cs])), (cs, .inl (cV, 2, .inr (.inr (.inr (.inr gs))))), (sv, .inr (3, [.ref h, .ref lt, .long an, .int dp, .int qn])), (h, .inr (4, [.ref ra, .ref op, .int (nI v), .int lc]))] sz) := by
  refine xe_ofW (cc := cBS_record) (maxL := 4) (ret := (some .long)) (by decide) rfl ?_
  intro p e s m args below meth c s₁ Bo9 hml hne hv
  obtain ⟨rfl, hsz, hP, hK, hD0, hX⟩ := hv
  have hx := Bo9.exec
  have hb := Bo9.bytes
  have hr := Bo9.returns
  have hts := fun w (h : w ∈ wT) => atoms_spec (ws := wsBS_record) Bo9.pre w (List.mem_cons_of_mem _ h)
  have hown : s.vm.findClass RBS = some m.cls := findClass_of_methodNamed Bo9.named
  have hlocks := Bo9.notSynchronized
  have hno := xe_none hne
  subst hsz
  have hD := hD0.self (sz := s.heap.size)
  generalize hAe : va_A [(bo, .inr (5, [.ref q, .ref mk, .ref ka, .ref cs])), (cs, .inl (cV, 2, .inr (.inr (.inr (.inr gs))))), (sv, .inr (3, [.ref h, .ref lt, .long an, .int dp, .int qn])), (h, .inr (4, [.ref ra, .ref op, .int (nI v), .int lc]))] s.heap.size = A at hD hX ⊢
  have hA : ∀ q : Nat, s.heap.size ≤ q → A q := fun q h => by rw [← hAe]; exact Or.inr h
  have hl := lv_entry ([.ref bo, .int (nI x9), .int x, .int (nI i9)]) (n := 4) (Nat.le_of_ble_eq_true rfl)
  rw [lg_entry_eq]
  generalize (lg_sl ([.ref bo, .int (nI x9), .int x, .int (nI i9)]) ++ List.replicate (4 - (lg_sl ([.ref bo, .int (nI x9), .int x, .int (nI i9)])).length) Slot.unset).toArray = ls at hl ⊢
  have hl : lv_has ls 4 [(0, .ref bo), (1, .int (nI x9)), (2, .int x), (3, .int (nI i9))] := hl
  refine xs_q (fun H Q hH hQ => ?_)
  have hS : va_S A s.heap H [] := by rw [hH]; exact va_S.rf
  have hP : va_P (dC, dI) vwCl [(bo, .inr (5, [.ref q, .ref mk, .ref ka, .ref cs])), (cs, .inl (cV, 2, .inr (.inr (.inr (.inr gs))))), (sv, .inr (3, [.ref h, .ref lt, .long an, .int dp, .int qn])), (h, .inr (4, [.ref ra, .ref op, .int (nI v), .int lc]))] H := by rw [hH]; exact hP
  refine lv_iload_n hx hb dBS_record_0 rfl (lv_at hl 1 rfl) ?_
  have hPc := hP.sub (ws' := []) [] rfl
  have hDc := hD.sub (ws' := []) [] (by decide) rfl
  have hKc := hK.sub (tys' := []) [] rfl
  have hFc := va_free (wc := []) hD hS hA [] rfl
  refine va_callv (va_runS (As := [.int (nI x9)]) (rest := []) ⟨hx, hb, hml, hown, hts⟩ (c_BS_requireServer_y l dC dI H.size x9 hx9) (va_cwS 1 hts (wT_3 w_m_BS_39 w_t_BS_requireServer w_n_BS w_c_BS_requireServer) rfl rfl rfl (by decide +kernel) ⟨Nat.le_of_ble_eq_true rfl, Nat.le_of_ble_eq_true rfl⟩) ⟨fun a U g mk q => by obtain ⟨q0, q1, qP, qK, qD⟩ := q; exact ⟨q0, q1, qP, va_K.moved (u := U) (U := U.calling g mk a) (Vm.Alike.refl U.vm) qK, qD⟩, fun U hU hW => ⟨rfl, by rw [hU], by rw [hU]; exact hPc, va_K.moved hW.alike hKc, hDc.weaken (fun _ _ _ _ => trivial)⟩⟩ rfl rfl hl.1 rfl (lv_room (Nat.le_of_ble_eq_true rfl)) dBS_record_1 ⟨Nat.zero_le _, Nat.zero_le _⟩) hS (fun q _ h => hFc q h) hFc (fun u t H1 locs ht hvm hw hB hz1 hk1 hS => ?_)
  obtain ⟨hP1, hK1, hD1⟩ := hB
  rw [ht] at hP1
  have hK1 := va_K.moved hvm.symm hK1
  obtain ⟨hP, hD⟩ := va_join (wr := [(bo, .inr (5, [.ref q, .ref mk, .ref ka, .ref cs])), (cs, .inl (cV, 2, .inr (.inr (.inr (.inr gs))))), (sv, .inr (3, [.ref h, .ref lt, .long an, .int dp, .int qn])), (h, .inr (4, [.ref ra, .ref op, .int (nI v), .int lc]))]) (w1 := []) hP hD [] [0, 1, 2, 3] rfl rfl (by decide) (by decide) hk1 hFc hP1 hD1
  generalize H1 = H at hP hS ⊢
  have hP : va_P (dC, dI) vwCl [(bo, .inr (5, [.ref q, .ref mk, .ref ka, .ref cs])), (cs, .inl (cV, 2, .inr (.inr (.inr (.inr gs))))), (sv, .inr (3, [.ref h, .ref lt, .long an, .int dp, .int qn])), (h, .inr (4, [.ref ra, .ref op, .int (nI v), .int lc]))] H := hP
  have hD : va_D A [(bo, .inr (5, [.ref q, .ref mk, .ref ka, .ref cs])), (cs, .inl (cV, 2, .inr (.inr (.inr (.inr gs))))), (sv, .inr (3, [.ref h, .ref lt, .long an, .int dp, .int qn])), (h, .inr (4, [.ref ra, .ref op, .int (nI v), .int lc]))] := hD
  refine lv_iload_n hx hb dBS_record_4 rfl (lv_at hl 3 rfl) ?_
  have hPc := hP.sub (ws' := []) [] rfl
  have hDc := hD.sub (ws' := []) [] (by decide) rfl
  have hKc := hK.sub (tys' := []) [] rfl
  have hFc := va_free (wc := []) hD hS hA [] rfl
  refine va_callv (va_runS (As := [.int (nI i9)]) (rest := []) ⟨hx, hb, hml, hown, hts⟩ (c_BS_requirePlace_y l dC dI H.size i9 hi9) (va_cwS 1 hts (wT_3 w_m_BS_42 w_t_BS_requirePlace w_n_BS w_c_BS_requirePlace) rfl rfl rfl (by decide +kernel) ⟨Nat.le_of_ble_eq_true rfl, Nat.le_of_ble_eq_true rfl⟩) ⟨fun a U g mk q => by obtain ⟨q0, q1, qP, qK, qD⟩ := q; exact ⟨q0, q1, qP, va_K.moved (u := U) (U := U.calling g mk a) (Vm.Alike.refl U.vm) qK, qD⟩, fun U hU hW => ⟨rfl, by rw [hU], by rw [hU]; exact hPc, va_K.moved hW.alike hKc, hDc.weaken (fun _ _ _ _ => trivial)⟩⟩ rfl rfl hl.1 rfl (lv_room (Nat.le_of_ble_eq_true rfl)) dBS_record_5 ⟨Nat.zero_le _, Nat.zero_le _⟩) hS (fun q _ h => hFc q h) hFc (fun u t H1 locs ht hvm hw hB hz1 hk1 hS => ?_)
  obtain ⟨hP1, hK1, hD1⟩ := hB
  rw [ht] at hP1
  have hK1 := va_K.moved hvm.symm hK1
  obtain ⟨hP, hD⟩ := va_join (wr := [(bo, .inr (5, [.ref q, .ref mk, .ref ka, .ref cs])), (cs, .inl (cV, 2, .inr (.inr (.inr (.inr gs))))), (sv, .inr (3, [.ref h, .ref lt, .long an, .int dp, .int qn])), (h, .inr (4, [.ref ra, .ref op, .int (nI v), .int lc]))]) (w1 := []) hP hD [] [0, 1, 2, 3] rfl rfl (by decide) (by decide) hk1 hFc hP1 hD1
  generalize H1 = H at hP hS ⊢
  have hP : va_P (dC, dI) vwCl [(bo, .inr (5, [.ref q, .ref mk, .ref ka, .ref cs])), (cs, .inl (cV, 2, .inr (.inr (.inr (.inr gs))))), (sv, .inr (3, [.ref h, .ref lt, .long an, .int dp, .int qn])), (h, .inr (4, [.ref ra, .ref op, .int (nI v), .int lc]))] H := hP
  have hD : va_D A [(bo, .inr (5, [.ref q, .ref mk, .ref ka, .ref cs])), (cs, .inl (cV, 2, .inr (.inr (.inr (.inr gs))))), (sv, .inr (3, [.ref h, .ref lt, .long an, .int dp, .int qn])), (h, .inr (4, [.ref ra, .ref op, .int (nI v), .int lc]))] := hD
  refine lv_aload_n hx hb dBS_record_8 rfl (lv_at hl 0 rfl) ?_
  refine lv_iload_n hx hb dBS_record_9 rfl (lv_at hl 1 rfl) ?_
  refine lv_iload_n hx hb dBS_record_10 rfl (lv_at hl 2 rfl) ?_
  have hPc := hP.sub (ws' := [(bo, .inr (5, [.ref q, .ref mk, .ref ka, .ref cs])), (cs, .inl (cV, 2, .inr (.inr (.inr (.inr gs))))), (sv, .inr (3, [.ref h, .ref lt, .long an, .int dp, .int qn])), (h, .inr (4, [.ref ra, .ref op, .int (nI v), .int lc]))]) [0, 1, 2, 3] rfl
  have hDc := hD.sub (ws' := [(bo, .inr (5, [.ref q, .ref mk, .ref ka, .ref cs])), (cs, .inl (cV, 2, .inr (.inr (.inr (.inr gs))))), (sv, .inr (3, [.ref h, .ref lt, .long an, .int dp, .int qn])), (h, .inr (4, [.ref ra, .ref op, .int (nI v), .int lc]))]) [0, 1, 2, 3] (by decide) rfl
  have hKc := hK.sub (tys' := [(cV, .object "BlindShelf$Server")]) [0] rfl
  have hFc := va_free (wc := [(bo, .inr (5, [.ref q, .ref mk, .ref ka, .ref cs])), (cs, .inl (cV, 2, .inr (.inr (.inr (.inr gs))))), (sv, .inr (3, [.ref h, .ref lt, .long an, .int dp, .int qn])), (h, .inr (4, [.ref ra, .ref op, .int (nI v), .int lc]))]) hD hS hA [0, 1, 2, 3] rfl
  have hXc := (hX.kept hS.2.1).narrow hFc
  refine xe_call (xe_runV (C := RBS) (As := [.int (nI x9), .int x]) (rest := []) ⟨hx, hb, hml, hown, hts⟩ (c_BS_requireHeld_n l dC dI H.size bo q mk ka cs sv h lt an dp qn cV gs x9 ra op v lc x hl9 hx9 hgs hv hu) (cwV (C := RBS) 2 hts (wT_4 w_m_BS_92 w_i_BS_requireHeld w_s_BS_requireHeld w_n_BS w_c_BS_requireHeld) rfl rfl rfl (by decide +kernel) ⟨Nat.le_of_ble_eq_true rfl, Nat.le_of_ble_eq_true rfl⟩) ⟨fun a U g mk q => by obtain ⟨q0, q1, qP, qK, qD, qX⟩ := q; exact ⟨q0, q1, qP, va_K.moved (u := U) (U := U.calling g mk a) (Vm.Alike.refl U.vm) qK, qD, qX.same rfl⟩, va_recv hK hP (q0 := 0) (ci := 5) (q := (RBS, TBS, 4)) rfl rfl, fun U hU hW => ⟨rfl, by rw [hU], by rw [hU]; exact hPc, va_K.moved hW.alike hKc, hDc.weaken (fun _ _ _ _ => trivial), by rw [hU]; exact hXc.warm hW⟩⟩ rfl rfl hl.1 rfl (lv_room (Nat.le_of_ble_eq_true rfl)) dBS_record_11 ⟨Nat.le_of_ble_eq_true rfl, Nat.le_of_ble_eq_true rfl⟩) hS (fun q _ h => hFc q h) hFc (fun ce9 q9 t H1 locs ht hvm hB hz1 hk1 hS hce9 hcv9 hcl9 => ?_)
  obtain ⟨hP1, hK1, hD1⟩ := hB
  rw [ht] at hP1
  obtain ⟨hP, hD⟩ := va_join (wr := []) (w1 := [(bo, .inr (5, [.ref q, .ref mk, .ref ka, .ref cs])), (cs, .inl (cV, 2, .inr (.inr (.inr (.inr gs))))), (sv, .inr (3, [.ref h, .ref lt, .long an, .int dp, .int qn])), (h, .inr (4, [.ref ra, .ref op, .int (nI v), .int lc]))]) hP hD [0, 1, 2, 3] [] rfl rfl (by decide) (by decide) hk1 hFc hP1 hD1
  generalize H1 = H at hP hS hce9 ⊢
  have hP : va_P (dC, dI) vwCl [(bo, .inr (5, [.ref q, .ref mk, .ref ka, .ref cs])), (cs, .inl (cV, 2, .inr (.inr (.inr (.inr gs))))), (sv, .inr (3, [.ref h, .ref lt, .long an, .int dp, .int qn])), (h, .inr (4, [.ref ra, .ref op, .int (nI v), .int lc]))] H := hP
  have hD : va_D A [(bo, .inr (5, [.ref q, .ref mk, .ref ka, .ref cs])), (cs, .inl (cV, 2, .inr (.inr (.inr (.inr gs))))), (sv, .inr (3, [.ref h, .ref lt, .long an, .int dp, .int qn])), (h, .inr (4, [.ref ra, .ref op, .int (nI v), .int lc]))] := hD
  have hP : va_P (dC, dI) vwCl [(bo, .inr (5, [.ref q, .ref mk, .ref ka, .ref cs])), (cs, .inl (cV, 2, .inr (.inr (.inr (.inr gs))))), (sv, .inr (3, [.ref h, .ref lt, .long an, .int dp, .int qn])), (h, .inr (4, [.ref ra, .ref op, .int (nI v), .int lc]))] H := hP
  have hD : va_D A [(bo, .inr (5, [.ref q, .ref mk, .ref ka, .ref cs])), (cs, .inl (cV, 2, .inr (.inr (.inr (.inr gs))))), (sv, .inr (3, [.ref h, .ref lt, .long an, .int dp, .int qn])), (h, .inr (4, [.ref ra, .ref op, .int (nI v), .int lc]))] := hD
  subst hQ
  exact xe_out (hno _) hlocks hce9 hcv9 hcl9 (fun t ht ha => ⟨⟨by rw [ht]; exact hP, va_K.moved ha hK, hD⟩, hS.F ht⟩) hS.2.2 (Nat.le_of_ble_eq_true rfl) (Nat.le_of_ble_eq_true rfl)
