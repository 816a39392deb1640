/-! law's wrappers, where the class throws -/
set_option maxHeartbeats 4000000 in
set_option maxRecDepth 100000 in
theorem c_LW_put_n1 (l : Launch) (dC : Nat → ClassId) (dI : Nat → Nat → Nat) (sz : Nat) (bo q mk ka cs : Nat) (x y : Int32) (w : Int64) (hl9 : l.stackTraces = false) (hn : bs_ii x 2 = false) : Met l yLW_put wsLW_put { frames := 8, cells := 1, slots := 6, locals := 174 } (va_Pc [.ref bo, .int x, .int y, .long w] (fun U => U.heap.size = sz ∧ va_P (dC, dI) vwCl [(bo, .inr (5, [.ref q, .ref mk, .ref ka, .ref cs]))] U.heap ∧ va_K (dC, dI) vwCl [] U ∧ va_D (fun _ => True) [(bo, .inr (5, [.ref q, .ref mk, .ref ka, .ref cs]))] ∧ xe_P (va_A [(bo, .inr (5, [.ref q, .ref mk, .ref ka, .ref cs]))] sz) U U.heap)) (va_Qi (fun (r : Int32) (_ : Unit) => r = nI 1) (fun (_ : Unit) t => va_P (dC, dI) vwCl [(bo, .inr (5, [.ref q, .ref mk, .ref ka, .ref cs]))] t.heap ∧ va_K (dC, dI) vwCl [] t ∧ va_D (va_A [(bo, .inr (5, [.ref q, .ref mk, .ref ka, .ref cs]))] sz) [(bo, .inr (5, [.ref q, .ref mk, .ref ka, .ref cs]))]) (va_A [(bo, .inr (5, [.ref q, .ref mk, .ref ka, .ref cs]))] sz)) 1 6 (va_A [(bo, .inr (5, [.ref q, .ref mk, .ref ka, .ref cs]))] sz) := by
  refine va_MetW (cc := cLW_put) (maxL := 6) (ret := (some .int)) (hh := [(0, 7, 10, 13)]) (by decide) rfl ?_
  intro p e s m args below meth c s₁ Bo9 hml hv
  obtain ⟨rfl, hsz, hP, hK, hD0, hX⟩ := hv
  have hx := Bo9.exec
  have hb := Bo9.bytes
  have hr := Bo9.returns
  have hts := fun w (h : w ∈ wT) => atoms_spec (ws := wsLW_put) Bo9.pre w (List.mem_cons_of_mem _ h)
  have hown : s.vm.findClass RLW = some m.cls := findClass_of_methodNamed Bo9.named
  have hlocks := Bo9.notSynchronized
  have htab := xe_tab Bo9 (atoms_spec (ws := wsLW_put) Bo9.pre _ List.mem_cons_self)
  subst hsz
  have hD := hD0.self (sz := s.heap.size)
  generalize hAe : va_A [(bo, .inr (5, [.ref q, .ref mk, .ref ka, .ref cs]))] s.heap.size = A at hD hX ⊢
  have hA : ∀ q : Nat, s.heap.size ≤ q → A q := fun q h => by rw [← hAe]; exact Or.inr h
  have hl := lv_entry ([.ref bo, .int x, .int y, .long w]) (n := 6) (Nat.le_of_ble_eq_true rfl)
  rw [lg_entry_eq]
  generalize (lg_sl ([.ref bo, .int x, .int y, .long w]) ++ List.replicate (6 - (lg_sl ([.ref bo, .int x, .int y, .long w])).length) Slot.unset).toArray = ls at hl ⊢
  have hl : lv_has ls 6 [(0, .ref bo), (1, .int x), (2, .int y), (3, .long w)] := hl
  refine xs_q (fun H Q hH hQ => ?_)
  have hS : va_S A s.heap H [] := by rw [hH]; exact va_S.rf
  have hP : va_P (dC, dI) vwCl [(bo, .inr (5, [.ref q, .ref mk, .ref ka, .ref cs]))] H := by rw [hH]; exact hP
  refine lv_aload_n hx hb dLW_put_0 rfl (lv_at hl 0 rfl) ?_
  refine lv_iload_n hx hb dLW_put_1 rfl (lv_at hl 1 rfl) ?_
  refine lv_iload_n hx hb dLW_put_2 rfl (lv_at hl 2 rfl) ?_
  refine lv_lload_n hx hb dLW_put_3 rfl (lv_at hl 3 rfl) ?_
  have hPc := hP.sub (ws' := []) [] rfl
  have hDc := hD.sub (ws' := []) [] (by decide) rfl
  have hKc := hK.sub (tys' := []) [] rfl
  have hFc := va_free (wc := []) hD hS hA [] rfl
  have hXc := (hX.kept hS.2.1).narrow hFc
  refine xe_call (xe_runV (C := RBS) (As := [.int x, .int y, .long w]) (rest := []) ⟨hx, hb, hml, hown, hts⟩ (c_BS_put_n1 l dC dI H.size bo x y w hl9 hn) (cwV (C := RBS) 3 hts (wT_4 w_m_LW_7 w_i_BS_put w_s_BS_put w_n_BS w_c_BS_put) rfl rfl rfl (by decide +kernel) ⟨Nat.le_of_ble_eq_true rfl, Nat.le_of_ble_eq_true rfl⟩) ⟨fun a U g mk q => by obtain ⟨q0, q1, qP, qK, qD, qX⟩ := q; exact ⟨q0, q1, qP, va_K.moved (u := U) (U := U.calling g mk a) (Vm.Alike.refl U.vm) qK, qD, qX.same rfl⟩, va_recv hK hP (q0 := 0) (ci := 5) (q := (RBS, TBS, 4)) rfl rfl, fun U hU hW => ⟨rfl, by rw [hU], by rw [hU]; exact hPc, va_K.moved hW.alike hKc, hDc.weaken (fun _ _ _ _ => trivial), by rw [hU]; exact hXc.warm hW⟩⟩ rfl rfl hl.1 rfl (lv_room (Nat.le_of_ble_eq_true rfl)) dLW_put_4 ⟨Nat.le_of_ble_eq_true rfl, Nat.le_of_ble_eq_true rfl⟩) hS (fun q _ h => hFc q h) hFc (fun ce9 q9 t H1 locs ht hvm hB hz1 hk1 hS hce9 hcv9 hcl9 => ?_)
  obtain ⟨hP1, hK1, hD1⟩ := hB
  rw [ht] at hP1
  obtain ⟨hP, hD⟩ := va_join (wr := [(bo, .inr (5, [.ref q, .ref mk, .ref ka, .ref cs]))]) (w1 := []) hP hD [] [0] rfl rfl (by decide) (by decide) hk1 hFc hP1 hD1
  generalize H1 = H at hP hS hce9 ⊢
  have hP : va_P (dC, dI) vwCl [(bo, .inr (5, [.ref q, .ref mk, .ref ka, .ref cs]))] H := hP
  have hD : va_D A [(bo, .inr (5, [.ref q, .ref mk, .ref ka, .ref cs]))] := hD
  refine xe_catch (own := RLW) (name := "java/lang/IllegalArgumentException") hown [] (⟨0, 7, 10, 13⟩ : ExceptionTableEntry) [] htab (fun z hz => nomatch hz) (by decide) (by decide) (hts _ w_k_LW_13) (xe_word hX (by decide +kernel)) hce9 hcv9 hcl9 ?_
  refine W.eq (g2 := F0 m 10 ls [.ref q9]) rfl ?_
  refine lv_astore (lv' := [(5, .ref q9), (0, .ref bo), (1, .int x), (2, .int y), (3, .long w)]) hx hb dLW_put_10 hl (by decide) rfl (fun ls hl => ?_)
  refine lv_iconst (v := nI 1) hx hb dLW_put_12 (by decide) ?_
  have hP : va_P (dC, dI) vwCl [(bo, .inr (5, [.ref q, .ref mk, .ref ka, .ref cs]))] H := hP
  have hD : va_D A [(bo, .inr (5, [.ref q, .ref mk, .ref ka, .ref cs]))] := hD
  subst hQ
  exact W.iret (v := nI 1) hx hb hr (fun t ht hW => ⟨⟨nI 1, (), rfl, rfl, by rw [ht]; exact hP, va_K.moved hW.alike hK, hD⟩, hS.F ht⟩) hS.2.2 dLW_put_13
set_option maxHeartbeats 4000000 in
set_option maxRecDepth 100000 in
theorem c_LW_put_n2 (l : Launch) (dC : Nat → ClassId) (dI : Nat → Nat → Nat) (sz : Nat) (bo q mk ka cs : Nat) (x9 : Nat) (y : Int32) (w : Int64) (hl9 : l.stackTraces = false) (hx9 : x9 < 2) (hn : bs_ii y 256 = false) : Met l yLW_put wsLW_put { frames := 8, cells := 1, slots := 6, locals := 174 } (va_Pc [.ref bo, .int (nI x9), .int y, .long w] (fun U => U.heap.size = sz ∧ va_P (dC, dI) vwCl [(bo, .inr (5, [.ref q, .ref mk, .ref ka, .ref cs]))] U.heap ∧ va_K (dC, dI) vwCl [] U ∧ va_D (fun _ => True) [(bo, .inr (5, [.ref q, .ref mk, .ref ka, .ref cs]))] ∧ xe_P (va_A [(bo, .inr (5, [.ref q, .ref mk, .ref ka, .ref cs]))] sz) U U.heap)) (va_Qi (fun (r : Int32) (_ : Unit) => r = nI 1) (fun (_ : Unit) t => va_P (dC, dI) vwCl [(bo, .inr (5, [.ref q, .ref mk, .ref ka, .ref cs]))] t.heap ∧ va_K (dC, dI) vwCl [] t ∧ va_D (va_A [(bo, .inr (5, [.ref q, .ref mk, .ref ka, .ref cs]))] sz) [(bo, .inr (5, [.ref q, .ref mk, .ref ka, .ref cs]))]) (va_A [(bo, .inr (5, [.ref q, .ref mk, .ref ka, .ref cs]))] sz)) 1 6 (va_A [(bo, .inr (5, [.ref q, .ref mk, .ref ka, .ref cs]))] sz) := by
  refine va_MetW (cc := cLW_put) (maxL := 6) (ret := (some .int)) (hh := [(0, 7, 10, 13)]) (by decide) rfl ?_
  intro p e s m args below meth c s₁ Bo9 hml hv
  obtain ⟨rfl, hsz, hP, hK, hD0, hX⟩ := hv
  have hx := Bo9.exec
  have hb := Bo9.bytes
  have hr := Bo9.returns
  have hts := fun w (h : w ∈ wT) => atoms_spec (ws := wsLW_put) Bo9.pre w (List.mem_cons_of_mem _ h)
  have hown : s.vm.findClass RLW = some m.cls := findClass_of_methodNamed Bo9.named
  have hlocks := Bo9.notSynchronized
  have htab := xe_tab Bo9 (atoms_spec (ws := wsLW_put) Bo9.pre _ List.mem_cons_self)
  subst hsz
  have hD := hD0.self (sz := s.heap.size)
  generalize hAe : va_A [(bo, .inr (5, [.ref q, .ref mk, .ref ka, .ref cs]))] s.heap.size = A at hD hX ⊢
  have hA : ∀ q : Nat, s.heap.size ≤ q → A q := fun q h => by rw [← hAe]; exact Or.inr h
  have hl := lv_entry ([.ref bo, .int (nI x9), .int y, .long w]) (n := 6) (Nat.le_of_ble_eq_true rfl)
  rw [lg_entry_eq]
  generalize (lg_sl ([.ref bo, .int (nI x9), .int y, .long w]) ++ List.replicate (6 - (lg_sl ([.ref bo, .int (nI x9), .int y, .long w])).length) Slot.unset).toArray = ls at hl ⊢
  have hl : lv_has ls 6 [(0, .ref bo), (1, .int (nI x9)), (2, .int y), (3, .long w)] := hl
  refine xs_q (fun H Q hH hQ => ?_)
  have hS : va_S A s.heap H [] := by rw [hH]; exact va_S.rf
  have hP : va_P (dC, dI) vwCl [(bo, .inr (5, [.ref q, .ref mk, .ref ka, .ref cs]))] H := by rw [hH]; exact hP
  refine lv_aload_n hx hb dLW_put_0 rfl (lv_at hl 0 rfl) ?_
  refine lv_iload_n hx hb dLW_put_1 rfl (lv_at hl 1 rfl) ?_
  refine lv_iload_n hx hb dLW_put_2 rfl (lv_at hl 2 rfl) ?_
  refine lv_lload_n hx hb dLW_put_3 rfl (lv_at hl 3 rfl) ?_
  have hPc := hP.sub (ws' := []) [] rfl
  have hDc := hD.sub (ws' := []) [] (by decide) rfl
  have hKc := hK.sub (tys' := []) [] rfl
  have hFc := va_free (wc := []) hD hS hA [] rfl
  have hXc := (hX.kept hS.2.1).narrow hFc
  refine xe_call (xe_runV (C := RBS) (As := [.int (nI x9), .int y, .long w]) (rest := []) ⟨hx, hb, hml, hown, hts⟩ (c_BS_put_n2 l dC dI H.size bo x9 y w hl9 hx9 hn) (cwV (C := RBS) 3 hts (wT_4 w_m_LW_7 w_i_BS_put w_s_BS_put w_n_BS w_c_BS_put) rfl rfl rfl (by decide +kernel) ⟨Nat.le_of_ble_eq_true rfl, Nat.le_of_ble_eq_true rfl⟩) ⟨fun a U g mk q => by obtain ⟨q0, q1, qP, qK, qD, qX⟩ := q; exact ⟨q0, q1, qP, va_K.moved (u := U) (U := U.calling g mk a) (Vm.Alike.refl U.vm) qK, qD, qX.same rfl⟩, va_recv hK hP (q0 := 0) (ci := 5) (q := (RBS, TBS, 4)) rfl rfl, fun U hU hW => ⟨rfl, by rw [hU], by rw [hU]; exact hPc, va_K.moved hW.alike hKc, hDc.weaken (fun _ _ _ _ => trivial), by rw [hU]; exact hXc.warm hW⟩⟩ rfl rfl hl.1 rfl (lv_room (Nat.le_of_ble_eq_true rfl)) dLW_put_4 ⟨Nat.le_of_ble_eq_true rfl, Nat.le_of_ble_eq_true rfl⟩) hS (fun q _ h => hFc q h) hFc (fun ce9 q9 t H1 locs ht hvm hB hz1 hk1 hS hce9 hcv9 hcl9 => ?_)
  obtain ⟨hP1, hK1, hD1⟩ := hB
  rw [ht] at hP1
  obtain ⟨hP, hD⟩ := va_join (wr := [(bo, .inr (5, [.ref q, .ref mk, .ref ka, .ref cs]))]) (w1 := []) hP hD [] [0] rfl rfl (by decide) (by decide) hk1 hFc hP1 hD1
  generalize H1 = H at hP hS hce9 ⊢
  have hP : va_P (dC, dI) vwCl [(bo, .inr (5, [.ref q, .ref mk, .ref ka, .ref cs]))] H := hP
  have hD : va_D A [(bo, .inr (5, [.ref q, .ref mk, .ref ka, .ref cs]))] := hD
  refine xe_catch (own := RLW) (name := "java/lang/IllegalArgumentException") hown [] (⟨0, 7, 10, 13⟩ : ExceptionTableEntry) [] htab (fun z hz => nomatch hz) (by decide) (by decide) (hts _ w_k_LW_13) (xe_word hX (by decide +kernel)) hce9 hcv9 hcl9 ?_
  refine W.eq (g2 := F0 m 10 ls [.ref q9]) rfl ?_
  refine lv_astore (lv' := [(5, .ref q9), (0, .ref bo), (1, .int (nI x9)), (2, .int y), (3, .long w)]) hx hb dLW_put_10 hl (by decide) rfl (fun ls hl => ?_)
  refine lv_iconst (v := nI 1) hx hb dLW_put_12 (by decide) ?_
  have hP : va_P (dC, dI) vwCl [(bo, .inr (5, [.ref q, .ref mk, .ref ka, .ref cs]))] H := hP
  have hD : va_D A [(bo, .inr (5, [.ref q, .ref mk, .ref ka, .ref cs]))] := hD
  subst hQ
  exact W.iret (v := nI 1) hx hb hr (fun t ht hW => ⟨⟨nI 1, (), rfl, rfl, by rw [ht]; exact hP, va_K.moved hW.alike hK, hD⟩, hS.F ht⟩) hS.2.2 dLW_put_13
set_option maxHeartbeats 4000000 in
set_option maxRecDepth 100000 in
theorem c_LW_close_n (l : Launch) (dC : Nat → ClassId) (dI : Nat → Nat → Nat) (sz : Nat) (bo q mk ka cs : Nat) (x : Int32) (ou : Nat) (hl9 : l.stackTraces = false) (hn : bs_ii x 2 = false) : Met l yLW_close wsLW_close { frames := 8, cells := 1, slots := 6, locals := 171 } (va_Pc [.ref bo, .int x, .ref ou] (fun U => U.heap.size = sz ∧ va_P (dC, dI) vwCl [(bo, .inr (5, [.ref q, .ref mk, .ref ka, .ref cs]))] U.heap ∧ va_K (dC, dI) vwCl [] U ∧ va_D (fun _ => True) [(bo, .inr (5, [.ref q, .ref mk, .ref ka, .ref cs]))] ∧ xe_P (va_A [(bo, .inr (5, [.ref q, .ref mk, .ref ka, .ref cs]))] sz) U U.heap)) (va_Qi (fun (r : Int32) (_ : Unit) => r = nI 1) (fun (_ : Unit) t => va_P (dC, dI) vwCl [(bo, .inr (5, [.ref q, .ref mk, .ref ka, .ref cs]))] t.heap ∧ va_K (dC, dI) vwCl [] t ∧ va_D (va_A [(bo, .inr (5, [.ref q, .ref mk, .ref ka, .ref cs]))] sz) [(bo, .inr (5, [.ref q, .ref mk, .ref ka, .ref cs]))]) (va_A [(bo, .inr (5, [.ref q, .ref mk, .ref ka, .ref cs]))] sz)) 1 6 (va_A [(bo, .inr (5, [.ref q, .ref mk, .ref ka, .ref cs]))] sz) := by
  refine va_MetW (cc := cLW_close) (maxL := 4) (ret := (some .int)) (hh := [(0, 9, 12, 13)]) (by decide) rfl ?_
  intro p e s m args below meth c s₁ Bo9 hml hv
  obtain ⟨rfl, hsz, hP, hK, hD0, hX⟩ := hv
  have hx := Bo9.exec
  have hb := Bo9.bytes
  have hr := Bo9.returns
  have hts := fun w (h : w ∈ wT) => atoms_spec (ws := wsLW_close) Bo9.pre w (List.mem_cons_of_mem _ h)
  have hown : s.vm.findClass RLW = some m.cls := findClass_of_methodNamed Bo9.named
  have hlocks := Bo9.notSynchronized
  have htab := xe_tab Bo9 (atoms_spec (ws := wsLW_close) Bo9.pre _ List.mem_cons_self)
  subst hsz
  have hD := hD0.self (sz := s.heap.size)
  generalize hAe : va_A [(bo, .inr (5, [.ref q, .ref mk, .ref ka, .ref cs]))] s.heap.size = A at hD hX ⊢
  have hA : ∀ q : Nat, s.heap.size ≤ q → A q := fun q h => by rw [← hAe]; exact Or.inr h
  have hl := lv_entry ([.ref bo, .int x, .ref ou]) (n := 4) (Nat.le_of_ble_eq_true rfl)
  rw [lg_entry_eq]
  generalize (lg_sl ([.ref bo, .int x, .ref ou]) ++ List.replicate (4 - (lg_sl ([.ref bo, .int x, .ref ou])).length) Slot.unset).toArray = ls at hl ⊢
  have hl : lv_has ls 4 [(0, .ref bo), (1, .int x), (2, .ref ou)] := hl
  refine xs_q (fun H Q hH hQ => ?_)
  have hS : va_S A s.heap H [] := by rw [hH]; exact va_S.rf
  have hP : va_P (dC, dI) vwCl [(bo, .inr (5, [.ref q, .ref mk, .ref ka, .ref cs]))] H := by rw [hH]; exact hP
  refine lv_aload_n hx hb dLW_close_0 rfl (lv_at hl 2 rfl) ?_
  refine lv_iconst (v := nI 0) hx hb dLW_close_1 (by decide) ?_
  refine lv_aload_n hx hb dLW_close_2 rfl (lv_at hl 0 rfl) ?_
  refine lv_iload_n hx hb dLW_close_3 rfl (lv_at hl 1 rfl) ?_
  have hPc := hP.sub (ws' := []) [] rfl
  have hDc := hD.sub (ws' := []) [] (by decide) rfl
  have hKc := hK.sub (tys' := []) [] rfl
  have hFc := va_free (wc := []) hD hS hA [] rfl
  have hXc := (hX.kept hS.2.1).narrow hFc
  refine xe_call (xe_runV (C := RBS) (As := [.int x]) (rest := [.int (nI 0), .ref ou]) ⟨hx, hb, hml, hown, hts⟩ (c_BS_close_n l dC dI H.size bo x hl9 hn) (cwV (C := RBS) 1 hts (wT_4 w_m_LW_15 w_i_BS_close w_s_BS_close w_n_BS w_c_BS_close) rfl rfl rfl (by decide +kernel) ⟨Nat.le_of_ble_eq_true rfl, Nat.le_of_ble_eq_true rfl⟩) ⟨fun a U g mk q => by obtain ⟨q0, q1, qP, qK, qD, qX⟩ := q; exact ⟨q0, q1, qP, va_K.moved (u := U) (U := U.calling g mk a) (Vm.Alike.refl U.vm) qK, qD, qX.same rfl⟩, va_recv hK hP (q0 := 0) (ci := 5) (q := (RBS, TBS, 4)) rfl rfl, fun U hU hW => ⟨rfl, by rw [hU], by rw [hU]; exact hPc, va_K.moved hW.alike hKc, hDc.weaken (fun _ _ _ _ => trivial), by rw [hU]; exact hXc.warm hW⟩⟩ rfl rfl hl.1 rfl (lv_room (Nat.le_of_ble_eq_true rfl)) dLW_close_4 ⟨Nat.le_of_ble_eq_true rfl, Nat.le_of_ble_eq_true rfl⟩) hS (fun q _ h => hFc q h) hFc (fun ce9 q9 t H1 locs ht hvm hB hz1 hk1 hS hce9 hcv9 hcl9 => ?_)
  obtain ⟨hP1, hK1, hD1⟩ := hB
  rw [ht] at hP1
  obtain ⟨hP, hD⟩ := va_join (wr := [(bo, .inr (5, [.ref q, .ref mk, .ref ka, .ref cs]))]) (w1 := []) hP hD [] [0] rfl rfl (by decide) (by decide) hk1 hFc hP1 hD1
  generalize H1 = H at hP hS hce9 ⊢
  have hP : va_P (dC, dI) vwCl [(bo, .inr (5, [.ref q, .ref mk, .ref ka, .ref cs]))] H := hP
  have hD : va_D A [(bo, .inr (5, [.ref q, .ref mk, .ref ka, .ref cs]))] := hD
  refine xe_catch (own := RLW) (name := "java/lang/IllegalArgumentException") hown [] (⟨0, 9, 12, 13⟩ : ExceptionTableEntry) [] htab (fun z hz => nomatch hz) (by decide) (by decide) (hts _ w_k_LW_13) (xe_word hX (by decide +kernel)) hce9 hcv9 hcl9 ?_
  refine W.eq (g2 := F0 m 12 ls [.ref q9]) rfl ?_
  refine lv_astore_n (lv' := [(3, .ref q9), (0, .ref bo), (1, .int x), (2, .ref ou)]) hx hb dLW_close_12 rfl hl (by decide) rfl (fun ls hl => ?_)
  refine lv_iconst (v := nI 1) hx hb dLW_close_13 (by decide) ?_
  have hP : va_P (dC, dI) vwCl [(bo, .inr (5, [.ref q, .ref mk, .ref ka, .ref cs]))] H := hP
  have hD : va_D A [(bo, .inr (5, [.ref q, .ref mk, .ref ka, .ref cs]))] := hD
  subst hQ
  exact W.iret (v := nI 1) hx hb hr (fun t ht hW => ⟨⟨nI 1, (), rfl, rfl, by rw [ht]; exact hP, va_K.moved hW.alike hK, hD⟩, hS.F ht⟩) hS.2.2 dLW_close_14
set_option maxHeartbeats 4000000 in
set_option maxRecDepth 100000 in
theorem c_LW_makeKeys_n (l : Launch) (dC : Nat → ClassId) (dI : Nat → Nat → Nat) (sz : Nat) (bo q mk ka cs : Nat) (y : Int32) (w1 w2 w3 w4 w5 : Int64) (hl9 : l.stackTraces = false) (hn : bs_ii y 256 = false) : Met l yLW_makeKeys wsLW_makeKeys { frames := 8, cells := 1, slots := 6, locals := 181 } (va_Pc [.ref bo, .int y, .long w1, .long w2, .long w3, .long w4, .long w5] (fun U => U.heap.size = sz ∧ va_P (dC, dI) vwCl [(bo, .inr (5, [.ref q, .ref mk, .ref ka, .ref cs]))] U.heap ∧ va_K (dC, dI) vwCl [] U ∧ va_D (fun _ => True) [(bo, .inr (5, [.ref q, .ref mk, .ref ka, .ref cs]))] ∧ xe_P (va_A [(bo, .inr (5, [.ref q, .ref mk, .ref ka, .ref cs]))] sz) U U.heap)) (va_Qi (fun (r : Int32) (_ : Unit) => r = nI 1) (fun (_ : Unit) t => va_P (dC, dI) vwCl [(bo, .inr (5, [.ref q, .ref mk, .ref ka, .ref cs]))] t.heap ∧ va_K (dC, dI) vwCl [] t ∧ va_D (va_A [(bo, .inr (5, [.ref q, .ref mk, .ref ka, .ref cs]))] sz) [(bo, .inr (5, [.ref q, .ref mk, .ref ka, .ref cs]))]) (va_A [(bo, .inr (5, [.ref q, .ref mk, .ref ka, .ref cs]))] sz)) 1 6 (va_A [(bo, .inr (5, [.ref q, .ref mk, .ref ka, .ref cs]))] sz) := by
  refine va_MetW (cc := cLW_makeKeys) (maxL := 13) (ret := (some .int)) (hh := [(0, 14, 17, 13)]) (by decide) rfl ?_
  intro p e s m args below meth c s₁ Bo9 hml hv
  obtain ⟨rfl, hsz, hP, hK, hD0, hX⟩ := hv
  have hx := Bo9.exec
  have hb := Bo9.bytes
  have hr := Bo9.returns
  have hts := fun w (h : w ∈ wT) => atoms_spec (ws := wsLW_makeKeys) Bo9.pre w (List.mem_cons_of_mem _ h)
  have hown : s.vm.findClass RLW = some m.cls := findClass_of_methodNamed Bo9.named
  have hlocks := Bo9.notSynchronized
  have htab := xe_tab Bo9 (atoms_spec (ws := wsLW_makeKeys) Bo9.pre _ List.mem_cons_self)
  subst hsz
  have hD := hD0.self (sz := s.heap.size)
  generalize hAe : va_A [(bo, .inr (5, [.ref q, .ref mk, .ref ka, .ref cs]))] s.heap.size = A at hD hX ⊢
  have hA : ∀ q : Nat, s.heap.size ≤ q → A q := fun q h => by rw [← hAe]; exact Or.inr h
  have hl := lv_entry ([.ref bo, .int y, .long w1, .long w2, .long w3, .long w4, .long w5]) (n := 13) (Nat.le_of_ble_eq_true rfl)
  rw [lg_entry_eq]
  generalize (lg_sl ([.ref bo, .int y, .long w1, .long w2, .long w3, .long w4, .long w5]) ++ List.replicate (13 - (lg_sl ([.ref bo, .int y, .long w1, .long w2, .long w3, .long w4, .long w5])).length) Slot.unset).toArray = ls at hl ⊢
  have hl : lv_has ls 13 [(0, .ref bo), (1, .int y), (2, .long w1), (4, .long w2), (6, .long w3), (8, .long w4), (10, .long w5)] := hl
  refine xs_q (fun H Q hH hQ => ?_)
  have hS : va_S A s.heap H [] := by rw [hH]; exact va_S.rf
  have hP : va_P (dC, dI) vwCl [(bo, .inr (5, [.ref q, .ref mk, .ref ka, .ref cs]))] H := by rw [hH]; exact hP
  refine lv_aload_n hx hb dLW_makeKeys_0 rfl (lv_at hl 0 rfl) ?_
  refine lv_iload_n hx hb dLW_makeKeys_1 rfl (lv_at hl 1 rfl) ?_
  refine lv_lload_n hx hb dLW_makeKeys_2 rfl (lv_at hl 2 rfl) ?_
  refine lv_lload hx hb dLW_makeKeys_3 (lv_at hl 3 rfl) ?_
  refine lv_lload hx hb dLW_makeKeys_5 (lv_at hl 4 rfl) ?_
  refine lv_lload hx hb dLW_makeKeys_7 (lv_at hl 5 rfl) ?_
  refine lv_lload hx hb dLW_makeKeys_9 (lv_at hl 6 rfl) ?_
  have hPc := hP.sub (ws' := []) [] rfl
  have hDc := hD.sub (ws' := []) [] (by decide) rfl
  have hKc := hK.sub (tys' := []) [] rfl
  have hFc := va_free (wc := []) hD hS hA [] rfl
  have hXc := (hX.kept hS.2.1).narrow hFc
  refine xe_call (xe_runV (C := RBS) (As := [.int y, .long w1, .long w2, .long w3, .long w4, .long w5]) (rest := []) ⟨hx, hb, hml, hown, hts⟩ (c_BS_makeKeys_n l dC dI H.size bo y w1 w2 w3 w4 w5 hl9 hn) (cwV (C := RBS) 6 hts (wT_4 w_m_LW_19 w_i_BS_makeKeys w_s_BS_makeKeys w_n_BS w_c_BS_makeKeys) rfl rfl rfl (by decide +kernel) ⟨Nat.le_of_ble_eq_true rfl, Nat.le_of_ble_eq_true rfl⟩) ⟨fun a U g mk q => by obtain ⟨q0, q1, qP, qK, qD, qX⟩ := q; exact ⟨q0, q1, qP, va_K.moved (u := U) (U := U.calling g mk a) (Vm.Alike.refl U.vm) qK, qD, qX.same rfl⟩, va_recv hK hP (q0 := 0) (ci := 5) (q := (RBS, TBS, 4)) rfl rfl, fun U hU hW => ⟨rfl, by rw [hU], by rw [hU]; exact hPc, va_K.moved hW.alike hKc, hDc.weaken (fun _ _ _ _ => trivial), by rw [hU]; exact hXc.warm hW⟩⟩ rfl rfl hl.1 rfl (lv_room (Nat.le_of_ble_eq_true rfl)) dLW_makeKeys_11 ⟨Nat.le_of_ble_eq_true rfl, Nat.le_of_ble_eq_true rfl⟩) hS (fun q _ h => hFc q h) hFc (fun ce9 q9 t H1 locs ht hvm hB hz1 hk1 hS hce9 hcv9 hcl9 => ?_)
  obtain ⟨hP1, hK1, hD1⟩ := hB
  rw [ht] at hP1
  obtain ⟨hP, hD⟩ := va_join (wr := [(bo, .inr (5, [.ref q, .ref mk, .ref ka, .ref cs]))]) (w1 := []) hP hD [] [0] rfl rfl (by decide) (by decide) hk1 hFc hP1 hD1
  generalize H1 = H at hP hS hce9 ⊢
  have hP : va_P (dC, dI) vwCl [(bo, .inr (5, [.ref q, .ref mk, .ref ka, .ref cs]))] H := hP
  have hD : va_D A [(bo, .inr (5, [.ref q, .ref mk, .ref ka, .ref cs]))] := hD
  refine xe_catch (own := RLW) (name := "java/lang/IllegalArgumentException") hown [] (⟨0, 14, 17, 13⟩ : ExceptionTableEntry) [] htab (fun z hz => nomatch hz) (by decide) (by decide) (hts _ w_k_LW_13) (xe_word hX (by decide +kernel)) hce9 hcv9 hcl9 ?_
  refine W.eq (g2 := F0 m 17 ls [.ref q9]) rfl ?_
  refine lv_astore (lv' := [(12, .ref q9), (0, .ref bo), (1, .int y), (2, .long w1), (4, .long w2), (6, .long w3), (8, .long w4), (10, .long w5)]) hx hb dLW_makeKeys_17 hl (by decide) rfl (fun ls hl => ?_)
  refine lv_iconst (v := nI 1) hx hb dLW_makeKeys_19 (by decide) ?_
  have hP : va_P (dC, dI) vwCl [(bo, .inr (5, [.ref q, .ref mk, .ref ka, .ref cs]))] H := hP
  have hD : va_D A [(bo, .inr (5, [.ref q, .ref mk, .ref ka, .ref cs]))] := hD
  subst hQ
  exact W.iret (v := nI 1) hx hb hr (fun t ht hW => ⟨⟨nI 1, (), rfl, rfl, by rw [ht]; exact hP, va_K.moved hW.alike hK, hD⟩, hS.F ht⟩) hS.2.2 dLW_makeKeys_20
set_option maxHeartbeats 4000000 in
set_option maxRecDepth 100000 in
theorem c_LW_keyByte_n (l : Launch) (dC : Nat → ClassId) (dI : Nat → Nat → Nat) (sz : Nat) (bo q mk ka cs : Nat) (x y : Int32) (ou : Nat) (hl9 : l.stackTraces = false) (hn : (bs_ii x 2 && bs_ii y 160) = false) : Met l yLW_keyByte wsLW_keyByte { frames := 8, cells := 1, slots := 6, locals := 173 } (va_Pc [.ref bo, .int x, .int y, .ref ou] (fun U => U.heap.size = sz ∧ va_P (dC, dI) vwCl [(bo, .inr (5, [.ref q, .ref mk, .ref ka, .ref cs]))] U.heap ∧ va_K (dC, dI) vwCl [] U ∧ va_D (fun _ => True) [(bo, .inr (5, [.ref q, .ref mk, .ref ka, .ref cs]))] ∧ xe_P (va_A [(bo, .inr (5, [.ref q, .ref mk, .ref ka, .ref cs]))] sz) U U.heap)) (va_Qi (fun (r : Int32) (_ : Unit) => r = nI 1) (fun (_ : Unit) t => va_P (dC, dI) vwCl [(bo, .inr (5, [.ref q, .ref mk, .ref ka, .ref cs]))] t.heap ∧ va_K (dC, dI) vwCl [] t ∧ va_D (va_A [(bo, .inr (5, [.ref q, .ref mk, .ref ka, .ref cs]))] sz) [(bo, .inr (5, [.ref q, .ref mk, .ref ka, .ref cs]))]) (va_A [(bo, .inr (5, [.ref q, .ref mk, .ref ka, .ref cs]))] sz)) 1 6 (va_A [(bo, .inr (5, [.ref q, .ref mk, .ref ka, .ref cs]))] sz) := by
  refine va_MetW (cc := cLW_keyByte) (maxL := 5) (ret := (some .int)) (hh := [(0, 10, 13, 27)]) (by decide) rfl ?_
  intro p e s m args below meth c s₁ Bo9 hml hv
  obtain ⟨rfl, hsz, hP, hK, hD0, hX⟩ := hv
  have hx := Bo9.exec
  have hb := Bo9.bytes
  have hr := Bo9.returns
  have hts := fun w (h : w ∈ wT) => atoms_spec (ws := wsLW_keyByte) Bo9.pre w (List.mem_cons_of_mem _ h)
  have hown : s.vm.findClass RLW = some m.cls := findClass_of_methodNamed Bo9.named
  have hlocks := Bo9.notSynchronized
  have htab := xe_tab Bo9 (atoms_spec (ws := wsLW_keyByte) Bo9.pre _ List.mem_cons_self)
  subst hsz
  have hD := hD0.self (sz := s.heap.size)
  generalize hAe : va_A [(bo, .inr (5, [.ref q, .ref mk, .ref ka, .ref cs]))] s.heap.size = A at hD hX ⊢
  have hA : ∀ q : Nat, s.heap.size ≤ q → A q := fun q h => by rw [← hAe]; exact Or.inr h
  have hl := lv_entry ([.ref bo, .int x, .int y, .ref ou]) (n := 5) (Nat.le_of_ble_eq_true rfl)
  rw [lg_entry_eq]
  generalize (lg_sl ([.ref bo, .int x, .int y, .ref ou]) ++ List.replicate (5 - (lg_sl ([.ref bo, .int x, .int y, .ref ou])).length) Slot.unset).toArray = ls at hl ⊢
  have hl : lv_has ls 5 [(0, .ref bo), (1, .int x), (2, .int y), (3, .ref ou)] := hl
  refine xs_q (fun H Q hH hQ => ?_)
  have hS : va_S A s.heap H [] := by rw [hH]; exact va_S.rf
  have hP : va_P (dC, dI) vwCl [(bo, .inr (5, [.ref q, .ref mk, .ref ka, .ref cs]))] H := by rw [hH]; exact hP
  refine lv_aload_n hx hb dLW_keyByte_0 rfl (lv_at hl 3 rfl) ?_
  refine lv_iconst (v := nI 0) hx hb dLW_keyByte_1 (by decide) ?_
  refine lv_aload_n hx hb dLW_keyByte_2 rfl (lv_at hl 0 rfl) ?_
  refine lv_iload_n hx hb dLW_keyByte_3 rfl (lv_at hl 1 rfl) ?_
  refine lv_iload_n hx hb dLW_keyByte_4 rfl (lv_at hl 2 rfl) ?_
  have hPc := hP.sub (ws' := []) [] rfl
  have hDc := hD.sub (ws' := []) [] (by decide) rfl
  have hKc := hK.sub (tys' := []) [] rfl
  have hFc := va_free (wc := []) hD hS hA [] rfl
  have hXc := (hX.kept hS.2.1).narrow hFc
  refine xe_call (xe_runV (C := RBS) (As := [.int x, .int y]) (rest := [.int (nI 0), .ref ou]) ⟨hx, hb, hml, hown, hts⟩ (c_BS_keyByte_n l dC dI H.size bo x y hl9 hn) (cwV (C := RBS) 2 hts (wT_4 w_m_LW_23 w_i_BS_keyByte w_s_BS_keyByte w_n_BS w_c_BS_keyByte) rfl rfl rfl (by decide +kernel) ⟨Nat.le_of_ble_eq_true rfl, Nat.le_of_ble_eq_true rfl⟩) ⟨fun a U g mk q => by obtain ⟨q0, q1, qP, qK, qD, qX⟩ := q; exact ⟨q0, q1, qP, va_K.moved (u := U) (U := U.calling g mk a) (Vm.Alike.refl U.vm) qK, qD, qX.same rfl⟩, va_recv hK hP (q0 := 0) (ci := 5) (q := (RBS, TBS, 4)) rfl rfl, fun U hU hW => ⟨rfl, by rw [hU], by rw [hU]; exact hPc, va_K.moved hW.alike hKc, hDc.weaken (fun _ _ _ _ => trivial), by rw [hU]; exact hXc.warm hW⟩⟩ rfl rfl hl.1 rfl (lv_room (Nat.le_of_ble_eq_true rfl)) dLW_keyByte_5 ⟨Nat.le_of_ble_eq_true rfl, Nat.le_of_ble_eq_true rfl⟩) hS (fun q _ h => hFc q h) hFc (fun ce9 q9 t H1 locs ht hvm hB hz1 hk1 hS hce9 hcv9 hcl9 => ?_)
  obtain ⟨hP1, hK1, hD1⟩ := hB
  rw [ht] at hP1
  obtain ⟨hP, hD⟩ := va_join (wr := [(bo, .inr (5, [.ref q, .ref mk, .ref ka, .ref cs]))]) (w1 := []) hP hD [] [0] rfl rfl (by decide) (by decide) hk1 hFc hP1 hD1
  generalize H1 = H at hP hS hce9 ⊢
  have hP : va_P (dC, dI) vwCl [(bo, .inr (5, [.ref q, .ref mk, .ref ka, .ref cs]))] H := hP
  have hD : va_D A [(bo, .inr (5, [.ref q, .ref mk, .ref ka, .ref cs]))] := hD
  refine xe_catch (own := RLW) (name := "java/lang/IndexOutOfBoundsException") hown [] (⟨0, 10, 13, 27⟩ : ExceptionTableEntry) [] htab (fun z hz => nomatch hz) (by decide) (by decide) (hts _ w_k_LW_27) (xe_word hX (by decide +kernel)) hce9 hcv9 hcl9 ?_
  refine W.eq (g2 := F0 m 13 ls [.ref q9]) rfl ?_
  refine lv_astore (lv' := [(4, .ref q9), (0, .ref bo), (1, .int x), (2, .int y), (3, .ref ou)]) hx hb dLW_keyByte_13 hl (by decide) rfl (fun ls hl => ?_)
  refine lv_iconst (v := nI 1) hx hb dLW_keyByte_15 (by decide) ?_
  have hP : va_P (dC, dI) vwCl [(bo, .inr (5, [.ref q, .ref mk, .ref ka, .ref cs]))] H := hP
  have hD : va_D A [(bo, .inr (5, [.ref q, .ref mk, .ref ka, .ref cs]))] := hD
  subst hQ
  exact W.iret (v := nI 1) hx hb hr (fun t ht hW => ⟨⟨nI 1, (), rfl, rfl, by rw [ht]; exact hP, va_K.moved hW.alike hK, hD⟩, hS.F ht⟩) hS.2.2 dLW_keyByte_16
set_option maxHeartbeats 4000000 in
set_option maxRecDepth 100000 in
theorem c_LW_setKeyByte_n (l : Launch) (dC : Nat → ClassId) (dI : Nat → Nat → Nat) (sz : Nat) (bo q mk ka cs : Nat) (x y w : Int32) (hl9 : l.stackTraces = false) (hn : (bs_ii x 2 && bs_ii y 160) = false) : Met l yLW_setKeyByte wsLW_setKeyByte { frames := 8, cells := 1, slots := 6, locals := 174 } (va_Pc [.ref bo, .int x, .int y, .int w] (fun U => U.heap.size = sz ∧ va_P (dC, dI) vwCl [(bo, .inr (5, [.ref q, .ref mk, .ref ka, .ref cs]))] U.heap ∧ va_K (dC, dI) vwCl [] U ∧ va_D (fun _ => True) [(bo, .inr (5, [.ref q, .ref mk, .ref ka, .ref cs]))] ∧ xe_P (va_A [(bo, .inr (5, [.ref q, .ref mk, .ref ka, .ref cs]))] sz) U U.heap)) (va_Qi (fun (r : Int32) (_ : Unit) => r = nI 1) (fun (_ : Unit) t => va_P (dC, dI) vwCl [(bo, .inr (5, [.ref q, .ref mk, .ref ka, .ref cs]))] t.heap ∧ va_K (dC, dI) vwCl [] t ∧ va_D (va_A [(bo, .inr (5, [.ref q, .ref mk, .ref ka, .ref cs]))] sz) [(bo, .inr (5, [.ref q, .ref mk, .ref ka, .ref cs]))]) (va_A [(bo, .inr (5, [.ref q, .ref mk, .ref ka, .ref cs]))] sz)) 1 6 (va_A [(bo, .inr (5, [.ref q, .ref mk, .ref ka, .ref cs]))] sz) := by
  refine va_MetW (cc := cLW_setKeyByte) (maxL := 5) (ret := (some .int)) (hh := [(0, 7, 10, 27)]) (by decide) rfl ?_
  intro p e s m args below meth c s₁ Bo9 hml hv
  obtain ⟨rfl, hsz, hP, hK, hD0, hX⟩ := hv
  have hx := Bo9.exec
  have hb := Bo9.bytes
  have hr := Bo9.returns
  have hts := fun w (h : w ∈ wT) => atoms_spec (ws := wsLW_setKeyByte) Bo9.pre w (List.mem_cons_of_mem _ h)
  have hown : s.vm.findClass RLW = some m.cls := findClass_of_methodNamed Bo9.named
  have hlocks := Bo9.notSynchronized
  have htab := xe_tab Bo9 (atoms_spec (ws := wsLW_setKeyByte) Bo9.pre _ List.mem_cons_self)
  subst hsz
  have hD := hD0.self (sz := s.heap.size)
  generalize hAe : va_A [(bo, .inr (5, [.ref q, .ref mk, .ref ka, .ref cs]))] s.heap.size = A at hD hX ⊢
  have hA : ∀ q : Nat, s.heap.size ≤ q → A q := fun q h => by rw [← hAe]; exact Or.inr h
  have hl := lv_entry ([.ref bo, .int x, .int y, .int w]) (n := 5) (Nat.le_of_ble_eq_true rfl)
  rw [lg_entry_eq]
  generalize (lg_sl ([.ref bo, .int x, .int y, .int w]) ++ List.replicate (5 - (lg_sl ([.ref bo, .int x, .int y, .int w])).length) Slot.unset).toArray = ls at hl ⊢
  have hl : lv_has ls 5 [(0, .ref bo), (1, .int x), (2, .int y), (3, .int w)] := hl
  refine xs_q (fun H Q hH hQ => ?_)
  have hS : va_S A s.heap H [] := by rw [hH]; exact va_S.rf
  have hP : va_P (dC, dI) vwCl [(bo, .inr (5, [.ref q, .ref mk, .ref ka, .ref cs]))] H := by rw [hH]; exact hP
  refine lv_aload_n hx hb dLW_setKeyByte_0 rfl (lv_at hl 0 rfl) ?_
  refine lv_iload_n hx hb dLW_setKeyByte_1 rfl (lv_at hl 1 rfl) ?_
  refine lv_iload_n hx hb dLW_setKeyByte_2 rfl (lv_at hl 2 rfl) ?_
  refine lv_iload_n hx hb dLW_setKeyByte_3 rfl (lv_at hl 3 rfl) ?_
  have hPc := hP.sub (ws' := []) [] rfl
  have hDc := hD.sub (ws' := []) [] (by decide) rfl
  have hKc := hK.sub (tys' := []) [] rfl
  have hFc := va_free (wc := []) hD hS hA [] rfl
  have hXc := (hX.kept hS.2.1).narrow hFc
  refine xe_call (xe_runV (C := RBS) (As := [.int x, .int y, .int w]) (rest := []) ⟨hx, hb, hml, hown, hts⟩ (c_BS_setKeyByte_n l dC dI H.size bo x y w hl9 hn) (cwV (C := RBS) 3 hts (wT_4 w_m_LW_29 w_i_BS_setKeyByte w_s_BS_setKeyByte w_n_BS w_c_BS_setKeyByte) rfl rfl rfl (by decide +kernel) ⟨Nat.le_of_ble_eq_true rfl, Nat.le_of_ble_eq_true rfl⟩) ⟨fun a U g mk q => by obtain ⟨q0, q1, qP, qK, qD, qX⟩ := q; exact ⟨q0, q1, qP, va_K.moved (u := U) (U := U.calling g mk a) (Vm.Alike.refl U.vm) qK, qD, qX.same rfl⟩, va_recv hK hP (q0 := 0) (ci := 5) (q := (RBS, TBS, 4)) rfl rfl, fun U hU hW => ⟨rfl, by rw [hU], by rw [hU]; exact hPc, va_K.moved hW.alike hKc, hDc.weaken (fun _ _ _ _ => trivial), by rw [hU]; exact hXc.warm hW⟩⟩ rfl rfl hl.1 rfl (lv_room (Nat.le_of_ble_eq_true rfl)) dLW_setKeyByte_4 ⟨Nat.le_of_ble_eq_true rfl, Nat.le_of_ble_eq_true rfl⟩) hS (fun q _ h => hFc q h) hFc (fun ce9 q9 t H1 locs ht hvm hB hz1 hk1 hS hce9 hcv9 hcl9 => ?_)
  obtain ⟨hP1, hK1, hD1⟩ := hB
  rw [ht] at hP1
  obtain ⟨hP, hD⟩ := va_join (wr := [(bo, .inr (5, [.ref q, .ref mk, .ref ka, .ref cs]))]) (w1 := []) hP hD [] [0] rfl rfl (by decide) (by decide) hk1 hFc hP1 hD1
  generalize H1 = H at hP hS hce9 ⊢
  have hP : va_P (dC, dI) vwCl [(bo, .inr (5, [.ref q, .ref mk, .ref ka, .ref cs]))] H := hP
  have hD : va_D A [(bo, .inr (5, [.ref q, .ref mk, .ref ka, .ref cs]))] := hD
  refine xe_catch (own := RLW) (name := "java/lang/IndexOutOfBoundsException") hown [] (⟨0, 7, 10, 27⟩ : ExceptionTableEntry) [] htab (fun z hz => nomatch hz) (by decide) (by decide) (hts _ w_k_LW_27) (xe_word hX (by decide +kernel)) hce9 hcv9 hcl9 ?_
  refine W.eq (g2 := F0 m 10 ls [.ref q9]) rfl ?_
  refine lv_astore (lv' := [(4, .ref q9), (0, .ref bo), (1, .int x), (2, .int y), (3, .int w)]) hx hb dLW_setKeyByte_10 hl (by decide) rfl (fun ls hl => ?_)
  refine lv_iconst (v := nI 1) hx hb dLW_setKeyByte_12 (by decide) ?_
  have hP : va_P (dC, dI) vwCl [(bo, .inr (5, [.ref q, .ref mk, .ref ka, .ref cs]))] H := hP
  have hD : va_D A [(bo, .inr (5, [.ref q, .ref mk, .ref ka, .ref cs]))] := hD
  subst hQ
  exact W.iret (v := nI 1) hx hb hr (fun t ht hW => ⟨⟨nI 1, (), rfl, rfl, by rw [ht]; exact hP, va_K.moved hW.alike hK, hD⟩, hS.F ht⟩) hS.2.2 dLW_setKeyByte_13
set_option maxHeartbeats 4000000 in
set_option maxRecDepth 100000 in
theorem c_LW_choice_n (l : Launch) (dC : Nat → ClassId) (dI : Nat → Nat → Nat) (sz : Nat) (bo q mk ka cs : Nat) (x y : Int32) (ou : Nat) (hl9 : l.stackTraces = false) (hn : (bs_ii x 2 && bs_ii y 256) = false) : Met l yLW_choice wsLW_choice { frames := 8, cells := 1, slots := 6, locals := 186 } (va_Pc [.ref bo, .int x, .int y, .ref ou] (fun U => U.heap.size = sz ∧ va_P (dC, dI) vwCl [(bo, .inr (5, [.ref q, .ref mk, .ref ka, .ref cs]))] U.heap ∧ va_K (dC, dI) vwCl [] U ∧ va_D (fun _ => True) [(bo, .inr (5, [.ref q, .ref mk, .ref ka, .ref cs]))] ∧ xe_P (va_A [(bo, .inr (5, [.ref q, .ref mk, .ref ka, .ref cs]))] sz) U U.heap)) (va_Qi (fun (r : Int32) (_ : Unit) => r = nI 1) (fun (_ : Unit) t => va_P (dC, dI) vwCl [(bo, .inr (5, [.ref q, .ref mk, .ref ka, .ref cs]))] t.heap ∧ va_K (dC, dI) vwCl [] t ∧ va_D (va_A [(bo, .inr (5, [.ref q, .ref mk, .ref ka, .ref cs]))] sz) [(bo, .inr (5, [.ref q, .ref mk, .ref ka, .ref cs]))]) (va_A [(bo, .inr (5, [.ref q, .ref mk, .ref ka, .ref cs]))] sz)) 1 6 (va_A [(bo, .inr (5, [.ref q, .ref mk, .ref ka, .ref cs]))] sz) := by
  refine va_MetW (cc := cLW_choice) (maxL := 5) (ret := (some .int)) (hh := [(0, 17, 20, 27), (0, 17, 24, 37)]) (by decide) rfl ?_
  intro p e s m args below meth c s₁ Bo9 hml hv
  obtain ⟨rfl, hsz, hP, hK, hD0, hX⟩ := hv
  have hx := Bo9.exec
  have hb := Bo9.bytes
  have hr := Bo9.returns
  have hts := fun w (h : w ∈ wT) => atoms_spec (ws := wsLW_choice) Bo9.pre w (List.mem_cons_of_mem _ h)
  have hown : s.vm.findClass RLW = some m.cls := findClass_of_methodNamed Bo9.named
  have hlocks := Bo9.notSynchronized
  have htab := xe_tab Bo9 (atoms_spec (ws := wsLW_choice) Bo9.pre _ List.mem_cons_self)
  subst hsz
  have hD := hD0.self (sz := s.heap.size)
  generalize hAe : va_A [(bo, .inr (5, [.ref q, .ref mk, .ref ka, .ref cs]))] s.heap.size = A at hD hX ⊢
  have hA : ∀ q : Nat, s.heap.size ≤ q → A q := fun q h => by rw [← hAe]; exact Or.inr h
  have hl := lv_entry ([.ref bo, .int x, .int y, .ref ou]) (n := 5) (Nat.le_of_ble_eq_true rfl)
  rw [lg_entry_eq]
  generalize (lg_sl ([.ref bo, .int x, .int y, .ref ou]) ++ List.replicate (5 - (lg_sl ([.ref bo, .int x, .int y, .ref ou])).length) Slot.unset).toArray = ls at hl ⊢
  have hl : lv_has ls 5 [(0, .ref bo), (1, .int x), (2, .int y), (3, .ref ou)] := hl
  refine xs_q (fun H Q hH hQ => ?_)
  have hS : va_S A s.heap H [] := by rw [hH]; exact va_S.rf
  have hP : va_P (dC, dI) vwCl [(bo, .inr (5, [.ref q, .ref mk, .ref ka, .ref cs]))] H := by rw [hH]; exact hP
  refine lv_aload_n hx hb dLW_choice_0 rfl (lv_at hl 3 rfl) ?_
  refine lv_iconst (v := nI 0) hx hb dLW_choice_1 (by decide) ?_
  refine lv_aload_n hx hb dLW_choice_2 rfl (lv_at hl 0 rfl) ?_
  refine lv_iload_n hx hb dLW_choice_3 rfl (lv_at hl 1 rfl) ?_
  refine lv_iload_n hx hb dLW_choice_4 rfl (lv_at hl 2 rfl) ?_
  have hPc := hP.sub (ws' := []) [] rfl
  have hDc := hD.sub (ws' := []) [] (by decide) rfl
  have hKc := hK.sub (tys' := []) [] rfl
  have hFc := va_free (wc := []) hD hS hA [] rfl
  have hXc := (hX.kept hS.2.1).narrow hFc
  refine xe_call (xe_runV (C := RBS) (As := [.int x, .int y]) (rest := [.int (nI 0), .ref ou]) ⟨hx, hb, hml, hown, hts⟩ (c_BS_choice_n l dC dI H.size bo x y hl9 hn) (cwV (C := RBS) 2 hts (wT_4 w_m_LW_33 w_i_BS_choice w_s_BS_choice w_n_BS w_c_BS_choice) rfl rfl rfl (by decide +kernel) ⟨Nat.le_of_ble_eq_true rfl, Nat.le_of_ble_eq_true rfl⟩) ⟨fun a U g mk q => by obtain ⟨q0, q1, qP, qK, qD, qX⟩ := q; exact ⟨q0, q1, qP, va_K.moved (u := U) (U := U.calling g mk a) (Vm.Alike.refl U.vm) qK, qD, qX.same rfl⟩, va_recv hK hP (q0 := 0) (ci := 5) (q := (RBS, TBS, 4)) rfl rfl, fun U hU hW => ⟨rfl, by rw [hU], by rw [hU]; exact hPc, va_K.moved hW.alike hKc, hDc.weaken (fun _ _ _ _ => trivial), by rw [hU]; exact hXc.warm hW⟩⟩ rfl rfl hl.1 rfl (lv_room (Nat.le_of_ble_eq_true rfl)) dLW_choice_5 ⟨Nat.le_of_ble_eq_true rfl, Nat.le_of_ble_eq_true rfl⟩) hS (fun q _ h => hFc q h) hFc (fun ce9 q9 t H1 locs ht hvm hB hz1 hk1 hS hce9 hcv9 hcl9 => ?_)
  obtain ⟨hP1, hK1, hD1⟩ := hB
  rw [ht] at hP1
  obtain ⟨hP, hD⟩ := va_join (wr := [(bo, .inr (5, [.ref q, .ref mk, .ref ka, .ref cs]))]) (w1 := []) hP hD [] [0] rfl rfl (by decide) (by decide) hk1 hFc hP1 hD1
  generalize H1 = H at hP hS hce9 ⊢
  have hP : va_P (dC, dI) vwCl [(bo, .inr (5, [.ref q, .ref mk, .ref ka, .ref cs]))] H := hP
  have hD : va_D A [(bo, .inr (5, [.ref q, .ref mk, .ref ka, .ref cs]))] := hD
  refine xe_catch (own := RLW) (name := "java/lang/IndexOutOfBoundsException") hown [] (⟨0, 17, 20, 27⟩ : ExceptionTableEntry) [(⟨0, 17, 24, 37⟩ : ExceptionTableEntry)] htab (fun z hz => nomatch hz) (by decide) (by decide) (hts _ w_k_LW_27) (xe_word hX (by decide +kernel)) hce9 hcv9 hcl9 ?_
  refine W.eq (g2 := F0 m 20 ls [.ref q9]) rfl ?_
  refine lv_astore (lv' := [(4, .ref q9), (0, .ref bo), (1, .int x), (2, .int y), (3, .ref ou)]) hx hb dLW_choice_20 hl (by decide) rfl (fun ls hl => ?_)
  refine lv_iconst (v := nI 1) hx hb dLW_choice_22 (by decide) ?_
  have hP : va_P (dC, dI) vwCl [(bo, .inr (5, [.ref q, .ref mk, .ref ka, .ref cs]))] H := hP
  have hD : va_D A [(bo, .inr (5, [.ref q, .ref mk, .ref ka, .ref cs]))] := hD
  subst hQ
  exact W.iret (v := nI 1) hx hb hr (fun t ht hW => ⟨⟨nI 1, (), rfl, rfl, by rw [ht]; exact hP, va_K.moved hW.alike hK, hD⟩, hS.F ht⟩) hS.2.2 dLW_choice_23
set_option maxHeartbeats 4000000 in
set_option maxRecDepth 100000 in
theorem c_LW_choice_b (l : Launch) (dC : Nat → ClassId) (dI : Nat → Nat → Nat) (sz : Nat) (bo q mk ka cs : Nat) (k kb kf ks kt : Nat) (num : Int32) (cI : ClassId) (cK : ClassId) (gk : Nat → Option Nat) (fb : Nat → Int32) (x9 : Nat) (i9 : Nat) (ou : Nat) (hl9 : l.stackTraces = false) (hx9 : x9 < 2) (hi9 : i9 < 256) (hgk : gk x9 = some k) (hg : bs_gd fb 8 = false) : Met l yLW_choice wsLW_choice { frames := 8, cells := 1, slots := 6, locals := 186 } (va_Pc [.ref bo, .int (nI x9), .int (nI i9), .ref ou] (fun U => U.heap.size = sz ∧ va_P (dC, dI) vwCl [(bo, .inr (5, [.ref q, .ref mk, .ref ka, .ref cs])), (ka, .inl (cK, 2, .inr (.inr (.inr (.inr gk))))), (k, .inr (1, [.ref kb, .int num, .ref kf, .ref ks, .ref kt])), (kb, .inl (cI, 160, .inl fb))] U.heap ∧ va_K (dC, dI) vwCl [(cI, .int), (cK, .object "BlindShelf$Key")] U ∧ va_D (fun _ => True) [(bo, .inr (5, [.ref q, .ref mk, .ref ka, .ref cs])), (ka, .inl (cK, 2, .inr (.inr (.inr (.inr gk))))), (k, .inr (1, [.ref kb, .int num, .ref kf, .ref ks, .ref kt])), (kb, .inl (cI, 160, .inl fb))] ∧ xe_P (va_A [(bo, .inr (5, [.ref q, .ref mk, .ref ka, .ref cs])), (ka, .inl (cK, 2, .inr (.inr (.inr (.inr gk))))), (k, .inr (1, [.ref kb, .int num, .ref kf, .ref ks, .ref kt])), (kb, .inl (cI, 160, .inl fb))] sz) U U.heap)) (va_Qi (fun (r : Int32) (_ : Unit) => r = nI 2) (fun (_ : Unit) t => va_P (dC, dI) vwCl [(bo, .inr (5, [.ref q, .ref mk, .ref ka, .ref cs])), (ka, .inl (cK, 2, .inr (.inr (.inr (.inr gk))))), (k, .inr (1, [.ref kb, .int num, .ref kf, .ref ks, .ref kt])), (kb, .inl (cI, 160, .inl fb))] t.heap ∧ va_K (dC, dI) vwCl [(cI, .int), (cK, .object "BlindShelf$Key")] t ∧ va_D (va_A [(bo, .inr (5, [.ref q, .ref mk, .ref ka, .ref cs])), (ka, .inl (cK, 2, .inr (.inr (.inr (.inr gk))))), (k, .inr (1, [.ref kb, .int num, .ref kf, .ref ks, .ref kt])), (kb, .inl (cI, 160, .inl fb))] sz) [(bo, .inr (5, [.ref q, .ref mk, .ref ka, .ref cs])), (ka, .inl (cK, 2, .inr (.inr (.inr (.inr gk))))), (k, .inr (1, [.ref kb, .int num, .ref kf, .ref ks, .ref kt])), (kb, .inl (cI, 160, .inl fb))]) (va_A [(bo, .inr (5, [.ref q, .ref mk, .ref ka, .ref cs])), (ka, .inl (cK, 2, .inr (.inr (.inr (.inr gk))))), (k, .inr (1, [.ref kb, .int num, .ref kf, .ref ks, .ref kt])), (kb, .inl (cI, 160, .inl fb))] sz)) 1 6 (va_A [(bo, .inr (5, [.ref q, .ref mk, .ref ka, .ref cs])), (ka, .inl (cK, 2, .inr (.inr (.inr (.inr gk))))), (k, .inr (1, [.ref kb, .int num, .ref kf, .ref ks, .ref kt])), (kb, .inl (cI, 160, .inl fb))] sz) := by
  refine va_MetW (cc := cLW_choice) (maxL := 5) (ret := (some .int)) (hh := [(0, 17, 20, 27), (0, 17, 24, 37)]) (by decide) rfl ?_
  intro p e s m args below meth c s₁ Bo9 hml hv
  obtain ⟨rfl, hsz, hP, hK, hD0, hX⟩ := hv
  have hx := Bo9.exec
  have hb := Bo9.bytes
  have hr := Bo9.returns
  have hts := fun w (h : w ∈ wT) => atoms_spec (ws := wsLW_choice) Bo9.pre w (List.mem_cons_of_mem _ h)
  have hown : s.vm.findClass RLW = some m.cls := findClass_of_methodNamed Bo9.named
  have hlocks := Bo9.notSynchronized
  have htab := xe_tab Bo9 (atoms_spec (ws := wsLW_choice) Bo9.pre _ List.mem_cons_self)
  subst hsz
  have hD := hD0.self (sz := s.heap.size)
  generalize hAe : va_A [(bo, .inr (5, [.ref q, .ref mk, .ref ka, .ref cs])), (ka, .inl (cK, 2, .inr (.inr (.inr (.inr gk))))), (k, .inr (1, [.ref kb, .int num, .ref kf, .ref ks, .ref kt])), (kb, .inl (cI, 160, .inl fb))] s.heap.size = A at hD hX ⊢
  have hA : ∀ q : Nat, s.heap.size ≤ q → A q := fun q h => by rw [← hAe]; exact Or.inr h
  have hl := lv_entry ([.ref bo, .int (nI x9), .int (nI i9), .ref ou]) (n := 5) (Nat.le_of_ble_eq_true rfl)
  rw [lg_entry_eq]
  generalize (lg_sl ([.ref bo, .int (nI x9), .int (nI i9), .ref ou]) ++ List.replicate (5 - (lg_sl ([.ref bo, .int (nI x9), .int (nI i9), .ref ou])).length) Slot.unset).toArray = ls at hl ⊢
  have hl : lv_has ls 5 [(0, .ref bo), (1, .int (nI x9)), (2, .int (nI i9)), (3, .ref ou)] := hl
  refine xs_q (fun H Q hH hQ => ?_)
  have hS : va_S A s.heap H [] := by rw [hH]; exact va_S.rf
  have hP : va_P (dC, dI) vwCl [(bo, .inr (5, [.ref q, .ref mk, .ref ka, .ref cs])), (ka, .inl (cK, 2, .inr (.inr (.inr (.inr gk))))), (k, .inr (1, [.ref kb, .int num, .ref kf, .ref ks, .ref kt])), (kb, .inl (cI, 160, .inl fb))] H := by rw [hH]; exact hP
  refine lv_aload_n hx hb dLW_choice_0 rfl (lv_at hl 3 rfl) ?_
  refine lv_iconst (v := nI 0) hx hb dLW_choice_1 (by decide) ?_
  refine lv_aload_n hx hb dLW_choice_2 rfl (lv_at hl 0 rfl) ?_
  refine lv_iload_n hx hb dLW_choice_3 rfl (lv_at hl 1 rfl) ?_
  refine lv_iload_n hx hb dLW_choice_4 rfl (lv_at hl 2 rfl) ?_
  have hPc := hP.sub (ws' := [(bo, .inr (5, [.ref q, .ref mk, .ref ka, .ref cs])), (ka, .inl (cK, 2, .inr (.inr (.inr (.inr gk))))), (k, .inr (1, [.ref kb, .int num, .ref kf, .ref ks, .ref kt])), (kb, .inl (cI, 160, .inl fb))]) [0, 1, 2, 3] rfl
  have hDc := hD.sub (ws' := [(bo, .inr (5, [.ref q, .ref mk, .ref ka, .ref cs])), (ka, .inl (cK, 2, .inr (.inr (.inr (.inr gk))))), (k, .inr (1, [.ref kb, .int num, .ref kf, .ref ks, .ref kt])), (kb, .inl (cI, 160, .inl fb))]) [0, 1, 2, 3] (by decide) rfl
  have hKc := hK.sub (tys' := [(cI, .int), (cK, .object "BlindShelf$Key")]) [0, 1] rfl
  have hFc := va_free (wc := [(bo, .inr (5, [.ref q, .ref mk, .ref ka, .ref cs])), (ka, .inl (cK, 2, .inr (.inr (.inr (.inr gk))))), (k, .inr (1, [.ref kb, .int num, .ref kf, .ref ks, .ref kt])), (kb, .inl (cI, 160, .inl fb))]) hD hS hA [0, 1, 2, 3] rfl
  have hXc := (hX.kept hS.2.1).narrow hFc
  refine xe_call (xe_runV (C := RBS) (As := [.int (nI x9), .int (nI i9)]) (rest := [.int (nI 0), .ref ou]) ⟨hx, hb, hml, hown, hts⟩ (c_BS_choice_b l dC dI H.size bo q mk ka cs k kb kf ks kt num cI cK gk fb x9 i9 hl9 hx9 hi9 hgk hg) (cwV (C := RBS) 2 hts (wT_4 w_m_LW_33 w_i_BS_choice w_s_BS_choice w_n_BS w_c_BS_choice) rfl rfl rfl (by decide +kernel) ⟨Nat.le_of_ble_eq_true rfl, Nat.le_of_ble_eq_true rfl⟩) ⟨fun a U g mk q => by obtain ⟨q0, q1, qP, qK, qD, qX⟩ := q; exact ⟨q0, q1, qP, va_K.moved (u := U) (U := U.calling g mk a) (Vm.Alike.refl U.vm) qK, qD, qX.same rfl⟩, va_recv hK hP (q0 := 0) (ci := 5) (q := (RBS, TBS, 4)) rfl rfl, fun U hU hW => ⟨rfl, by rw [hU], by rw [hU]; exact hPc, va_K.moved hW.alike hKc, hDc.weaken (fun _ _ _ _ => trivial), by rw [hU]; exact hXc.warm hW⟩⟩ rfl rfl hl.1 rfl (lv_room (Nat.le_of_ble_eq_true rfl)) dLW_choice_5 ⟨Nat.le_of_ble_eq_true rfl, Nat.le_of_ble_eq_true rfl⟩) hS (fun q _ h => hFc q h) hFc (fun ce9 q9 t H1 locs ht hvm hB hz1 hk1 hS hce9 hcv9 hcl9 => ?_)
  obtain ⟨hP1, hK1, hD1⟩ := hB
  rw [ht] at hP1
  obtain ⟨hP, hD⟩ := va_join (wr := []) (w1 := [(bo, .inr (5, [.ref q, .ref mk, .ref ka, .ref cs])), (ka, .inl (cK, 2, .inr (.inr (.inr (.inr gk))))), (k, .inr (1, [.ref kb, .int num, .ref kf, .ref ks, .ref kt])), (kb, .inl (cI, 160, .inl fb))]) hP hD [0, 1, 2, 3] [] rfl rfl (by decide) (by decide) hk1 hFc hP1 hD1
  generalize H1 = H at hP hS hce9 ⊢
  have hP : va_P (dC, dI) vwCl [(bo, .inr (5, [.ref q, .ref mk, .ref ka, .ref cs])), (ka, .inl (cK, 2, .inr (.inr (.inr (.inr gk))))), (k, .inr (1, [.ref kb, .int num, .ref kf, .ref ks, .ref kt])), (kb, .inl (cI, 160, .inl fb))] H := hP
  have hD : va_D A [(bo, .inr (5, [.ref q, .ref mk, .ref ka, .ref cs])), (ka, .inl (cK, 2, .inr (.inr (.inr (.inr gk))))), (k, .inr (1, [.ref kb, .int num, .ref kf, .ref ks, .ref kt])), (kb, .inl (cI, 160, .inl fb))] := hD
  refine xe_catch (own := RLW) (name := "java/lang/IllegalStateException") hown [(⟨0, 17, 20, 27⟩ : ExceptionTableEntry)] (⟨0, 17, 24, 37⟩ : ExceptionTableEntry) [] htab (fun z hz => by obtain rfl := List.mem_singleton.mp hz; exact Or.inr ⟨by decide, xe_pass (hts _ w_k_LW_27) (xe_no hX (E := "java/lang/IllegalStateException") (N := "java/lang/IndexOutOfBoundsException") (by decide +kernel)) hcl9⟩) (by decide) (by decide) (hts _ w_k_LW_37) (xe_word hX (by decide +kernel)) hce9 hcv9 hcl9 ?_
  refine W.eq (g2 := F0 m 24 ls [.ref q9]) rfl ?_
  refine lv_astore (lv' := [(4, .ref q9), (0, .ref bo), (1, .int (nI x9)), (2, .int (nI i9)), (3, .ref ou)]) hx hb dLW_choice_24 hl (by decide) rfl (fun ls hl => ?_)
  refine lv_iconst (v := nI 2) hx hb dLW_choice_26 (by decide) ?_
  have hP : va_P (dC, dI) vwCl [(bo, .inr (5, [.ref q, .ref mk, .ref ka, .ref cs])), (ka, .inl (cK, 2, .inr (.inr (.inr (.inr gk))))), (k, .inr (1, [.ref kb, .int num, .ref kf, .ref ks, .ref kt])), (kb, .inl (cI, 160, .inl fb))] H := hP
  have hD : va_D A [(bo, .inr (5, [.ref q, .ref mk, .ref ka, .ref cs])), (ka, .inl (cK, 2, .inr (.inr (.inr (.inr gk))))), (k, .inr (1, [.ref kb, .int num, .ref kf, .ref ks, .ref kt])), (kb, .inl (cI, 160, .inl fb))] := hD
  subst hQ
  exact W.iret (v := nI 2) hx hb hr (fun t ht hW => ⟨⟨nI 2, (), rfl, rfl, by rw [ht]; exact hP, va_K.moved hW.alike hK, hD⟩, hS.F ht⟩) hS.2.2 dLW_choice_27
set_option maxHeartbeats 4000000 in
set_option maxRecDepth 100000 in
theorem c_LW_share_n (l : Launch) (dC : Nat → ClassId) (dI : Nat → Nat → Nat) (sz : Nat) (bo q mk ka cs : Nat) (x y : Int32) (ou : Nat) (hl9 : l.stackTraces = false) (hn : (bs_ii x 2 && bs_ii y 256) = false) : Met l yLW_share wsLW_share { frames := 8, cells := 1, slots := 6, locals := 188 } (va_Pc [.ref bo, .int x, .int y, .ref ou] (fun U => U.heap.size = sz ∧ va_P (dC, dI) vwCl [(bo, .inr (5, [.ref q, .ref mk, .ref ka, .ref cs]))] U.heap ∧ va_K (dC, dI) vwCl [] U ∧ va_D (fun _ => True) [(bo, .inr (5, [.ref q, .ref mk, .ref ka, .ref cs]))] ∧ xe_P (va_A [(bo, .inr (5, [.ref q, .ref mk, .ref ka, .ref cs]))] sz) U U.heap)) (va_Qi (fun (r : Int32) (_ : Unit) => r = nI 1) (fun (_ : Unit) t => va_P (dC, dI) vwCl [(bo, .inr (5, [.ref q, .ref mk, .ref ka, .ref cs]))] t.heap ∧ va_K (dC, dI) vwCl [] t ∧ va_D (va_A [(bo, .inr (5, [.ref q, .ref mk, .ref ka, .ref cs]))] sz) [(bo, .inr (5, [.ref q, .ref mk, .ref ka, .ref cs]))]) (va_A [(bo, .inr (5, [.ref q, .ref mk, .ref ka, .ref cs]))] sz)) 1 6 (va_A [(bo, .inr (5, [.ref q, .ref mk, .ref ka, .ref cs]))] sz) := by
  refine va_MetW (cc := cLW_share) (maxL := 5) (ret := (some .int)) (hh := [(0, 9, 12, 27), (0, 9, 16, 37)]) (by decide) rfl ?_
  intro p e s m args below meth c s₁ Bo9 hml hv
  obtain ⟨rfl, hsz, hP, hK, hD0, hX⟩ := hv
  have hx := Bo9.exec
  have hb := Bo9.bytes
  have hr := Bo9.returns
  have hts := fun w (h : w ∈ wT) => atoms_spec (ws := wsLW_share) Bo9.pre w (List.mem_cons_of_mem _ h)
  have hown : s.vm.findClass RLW = some m.cls := findClass_of_methodNamed Bo9.named
  have hlocks := Bo9.notSynchronized
  have htab := xe_tab Bo9 (atoms_spec (ws := wsLW_share) Bo9.pre _ List.mem_cons_self)
  subst hsz
  have hD := hD0.self (sz := s.heap.size)
  generalize hAe : va_A [(bo, .inr (5, [.ref q, .ref mk, .ref ka, .ref cs]))] s.heap.size = A at hD hX ⊢
  have hA : ∀ q : Nat, s.heap.size ≤ q → A q := fun q h => by rw [← hAe]; exact Or.inr h
  have hl := lv_entry ([.ref bo, .int x, .int y, .ref ou]) (n := 5) (Nat.le_of_ble_eq_true rfl)
  rw [lg_entry_eq]
  generalize (lg_sl ([.ref bo, .int x, .int y, .ref ou]) ++ List.replicate (5 - (lg_sl ([.ref bo, .int x, .int y, .ref ou])).length) Slot.unset).toArray = ls at hl ⊢
  have hl : lv_has ls 5 [(0, .ref bo), (1, .int x), (2, .int y), (3, .ref ou)] := hl
  refine xs_q (fun H Q hH hQ => ?_)
  have hS : va_S A s.heap H [] := by rw [hH]; exact va_S.rf
  have hP : va_P (dC, dI) vwCl [(bo, .inr (5, [.ref q, .ref mk, .ref ka, .ref cs]))] H := by rw [hH]; exact hP
  refine lv_aload_n hx hb dLW_share_0 rfl (lv_at hl 3 rfl) ?_
  refine lv_iconst (v := nI 0) hx hb dLW_share_1 (by decide) ?_
  refine lv_aload_n hx hb dLW_share_2 rfl (lv_at hl 0 rfl) ?_
  refine lv_iload_n hx hb dLW_share_3 rfl (lv_at hl 1 rfl) ?_
  refine lv_iload_n hx hb dLW_share_4 rfl (lv_at hl 2 rfl) ?_
  have hPc := hP.sub (ws' := []) [] rfl
  have hDc := hD.sub (ws' := []) [] (by decide) rfl
  have hKc := hK.sub (tys' := []) [] rfl
  have hFc := va_free (wc := []) hD hS hA [] rfl
  have hXc := (hX.kept hS.2.1).narrow hFc
  refine xe_call (xe_runV (C := RBS) (As := [.int x, .int y]) (rest := [.int (nI 0), .ref ou]) ⟨hx, hb, hml, hown, hts⟩ (c_BS_share_n l dC dI H.size bo x y hl9 hn) (cwV (C := RBS) 2 hts (wT_4 w_m_LW_39 w_i_BS_share w_s_BS_share w_n_BS w_c_BS_share) rfl rfl rfl (by decide +kernel) ⟨Nat.le_of_ble_eq_true rfl, Nat.le_of_ble_eq_true rfl⟩) ⟨fun a U g mk q => by obtain ⟨q0, q1, qP, qK, qD, qX⟩ := q; exact ⟨q0, q1, qP, va_K.moved (u := U) (U := U.calling g mk a) (Vm.Alike.refl U.vm) qK, qD, qX.same rfl⟩, va_recv hK hP (q0 := 0) (ci := 5) (q := (RBS, TBS, 4)) rfl rfl, fun U hU hW => ⟨rfl, by rw [hU], by rw [hU]; exact hPc, va_K.moved hW.alike hKc, hDc.weaken (fun _ _ _ _ => trivial), by rw [hU]; exact hXc.warm hW⟩⟩ rfl rfl hl.1 rfl (lv_room (Nat.le_of_ble_eq_true rfl)) dLW_share_5 ⟨Nat.le_of_ble_eq_true rfl, Nat.le_of_ble_eq_true rfl⟩) hS (fun q _ h => hFc q h) hFc (fun ce9 q9 t H1 locs ht hvm hB hz1 hk1 hS hce9 hcv9 hcl9 => ?_)
  obtain ⟨hP1, hK1, hD1⟩ := hB
  rw [ht] at hP1
  obtain ⟨hP, hD⟩ := va_join (wr := [(bo, .inr (5, [.ref q, .ref mk, .ref ka, .ref cs]))]) (w1 := []) hP hD [] [0] rfl rfl (by decide) (by decide) hk1 hFc hP1 hD1
  generalize H1 = H at hP hS hce9 ⊢
  have hP : va_P (dC, dI) vwCl [(bo, .inr (5, [.ref q, .ref mk, .ref ka, .ref cs]))] H := hP
  have hD : va_D A [(bo, .inr (5, [.ref q, .ref mk, .ref ka, .ref cs]))] := hD
  refine xe_catch (own := RLW) (name := "java/lang/IndexOutOfBoundsException") hown [] (⟨0, 9, 12, 27⟩ : ExceptionTableEntry) [(⟨0, 9, 16, 37⟩ : ExceptionTableEntry)] htab (fun z hz => nomatch hz) (by decide) (by decide) (hts _ w_k_LW_27) (xe_word hX (by decide +kernel)) hce9 hcv9 hcl9 ?_
  refine W.eq (g2 := F0 m 12 ls [.ref q9]) rfl ?_
  refine lv_astore (lv' := [(4, .ref q9), (0, .ref bo), (1, .int x), (2, .int y), (3, .ref ou)]) hx hb dLW_share_12 hl (by decide) rfl (fun ls hl => ?_)
  refine lv_iconst (v := nI 1) hx hb dLW_share_14 (by decide) ?_
  have hP : va_P (dC, dI) vwCl [(bo, .inr (5, [.ref q, .ref mk, .ref ka, .ref cs]))] H := hP
  have hD : va_D A [(bo, .inr (5, [.ref q, .ref mk, .ref ka, .ref cs]))] := hD
  subst hQ
  exact W.iret (v := nI 1) hx hb hr (fun t ht hW => ⟨⟨nI 1, (), rfl, rfl, by rw [ht]; exact hP, va_K.moved hW.alike hK, hD⟩, hS.F ht⟩) hS.2.2 dLW_share_15
set_option maxHeartbeats 4000000 in
set_option maxRecDepth 100000 in
theorem c_LW_share_b (l : Launch) (dC : Nat → ClassId) (dI : Nat → Nat → Nat) (sz : Nat) (bo q mk ka cs : Nat) (k kb kf ks kt : Nat) (num : Int32) (cI : ClassId) (cK : ClassId) (gk : Nat → Option Nat) (fb : Nat → Int32) (x9 : Nat) (i9 : Nat) (ou : Nat) (hl9 : l.stackTraces = false) (hx9 : x9 < 2) (hi9 : i9 < 256) (hgk : gk x9 = some k) (hg : bs_gd fb 8 = false) : Met l yLW_share wsLW_share { frames := 8, cells := 1, slots := 6, locals := 188 } (va_Pc [.ref bo, .int (nI x9), .int (nI i9), .ref ou] (fun U => U.heap.size = sz ∧ va_P (dC, dI) vwCl [(bo, .inr (5, [.ref q, .ref mk, .ref ka, .ref cs])), (ka, .inl (cK, 2, .inr (.inr (.inr (.inr gk))))), (k, .inr (1, [.ref kb, .int num, .ref kf, .ref ks, .ref kt])), (kb, .inl (cI, 160, .inl fb))] U.heap ∧ va_K (dC, dI) vwCl [(cI, .int), (cK, .object "BlindShelf$Key")] U ∧ va_D (fun _ => True) [(bo, .inr (5, [.ref q, .ref mk, .ref ka, .ref cs])), (ka, .inl (cK, 2, .inr (.inr (.inr (.inr gk))))), (k, .inr (1, [.ref kb, .int num, .ref kf, .ref ks, .ref kt])), (kb, .inl (cI, 160, .inl fb))] ∧ xe_P (va_A [(bo, .inr (5, [.ref q, .ref mk, .ref ka, .ref cs])), (ka, .inl (cK, 2, .inr (.inr (.inr (.inr gk))))), (k, .inr (1, [.ref kb, .int num, .ref kf, .ref ks, .ref kt])), (kb, .inl (cI, 160, .inl fb))] sz) U U.heap)) (va_Qi (fun (r : Int32) (_ : Unit) => r = nI 2) (fun (_ : Unit) t => va_P (dC, dI) vwCl [(bo, .inr (5, [.ref q, .ref mk, .ref ka, .ref cs])), (ka, .inl (cK, 2, .inr (.inr (.inr (.inr gk))))), (k, .inr (1, [.ref kb, .int num, .ref kf, .ref ks, .ref kt])), (kb, .inl (cI, 160, .inl fb))] t.heap ∧ va_K (dC, dI) vwCl [(cI, .int), (cK, .object "BlindShelf$Key")] t ∧ va_D (va_A [(bo, .inr (5, [.ref q, .ref mk, .ref ka, .ref cs])), (ka, .inl (cK, 2, .inr (.inr (.inr (.inr gk))))), (k, .inr (1, [.ref kb, .int num, .ref kf, .ref ks, .ref kt])), (kb, .inl (cI, 160, .inl fb))] sz) [(bo, .inr (5, [.ref q, .ref mk, .ref ka, .ref cs])), (ka, .inl (cK, 2, .inr (.inr (.inr (.inr gk))))), (k, .inr (1, [.ref kb, .int num, .ref kf, .ref ks, .ref kt])), (kb, .inl (cI, 160, .inl fb))]) (va_A [(bo, .inr (5, [.ref q, .ref mk, .ref ka, .ref cs])), (ka, .inl (cK, 2, .inr (.inr (.inr (.inr gk))))), (k, .inr (1, [.ref kb, .int num, .ref kf, .ref ks, .ref kt])), (kb, .inl (cI, 160, .inl fb))] sz)) 1 6 (va_A [(bo, .inr (5, [.ref q, .ref mk, .ref ka, .ref cs])), (ka, .inl (cK, 2, .inr (.inr (.inr (.inr gk))))), (k, .inr (1, [.ref kb, .int num, .ref kf, .ref ks, .ref kt])), (kb, .inl (cI, 160, .inl fb))] sz) := by
  refine va_MetW (cc := cLW_share) (maxL := 5) (ret := (some .int)) (hh := [(0, 9, 12, 27), (0, 9, 16, 37)]) (by decide) rfl ?_
  intro p e s m args below meth c s₁ Bo9 hml hv
  obtain ⟨rfl, hsz, hP, hK, hD0, hX⟩ := hv
  have hx := Bo9.exec
  have hb := Bo9.bytes
  have hr := Bo9.returns
  have hts := fun w (h : w ∈ wT) => atoms_spec (ws := wsLW_share) Bo9.pre w (List.mem_cons_of_mem _ h)
  have hown : s.vm.findClass RLW = some m.cls := findClass_of_methodNamed Bo9.named
  have hlocks := Bo9.notSynchronized
  have htab := xe_tab Bo9 (atoms_spec (ws := wsLW_share) Bo9.pre _ List.mem_cons_self)
  subst hsz
  have hD := hD0.self (sz := s.heap.size)
  generalize hAe : va_A [(bo, .inr (5, [.ref q, .ref mk, .ref ka, .ref cs])), (ka, .inl (cK, 2, .inr (.inr (.inr (.inr gk))))), (k, .inr (1, [.ref kb, .int num, .ref kf, .ref ks, .ref kt])), (kb, .inl (cI, 160, .inl fb))] s.heap.size = A at hD hX ⊢
  have hA : ∀ q : Nat, s.heap.size ≤ q → A q := fun q h => by rw [← hAe]; exact Or.inr h
  have hl := lv_entry ([.ref bo, .int (nI x9), .int (nI i9), .ref ou]) (n := 5) (Nat.le_of_ble_eq_true rfl)
  rw [lg_entry_eq]
  generalize (lg_sl ([.ref bo, .int (nI x9), .int (nI i9), .ref ou]) ++ List.replicate (5 - (lg_sl ([.ref bo, .int (nI x9), .int (nI i9), .ref ou])).length) Slot.unset).toArray = ls at hl ⊢
  have hl : lv_has ls 5 [(0, .ref bo), (1, .int (nI x9)), (2, .int (nI i9)), (3, .ref ou)] := hl
  refine xs_q (fun H Q hH hQ => ?_)
  have hS : va_S A s.heap H [] := by rw [hH]; exact va_S.rf
  have hP : va_P (dC, dI) vwCl [(bo, .inr (5, [.ref q, .ref mk, .ref ka, .ref cs])), (ka, .inl (cK, 2, .inr (.inr (.inr (.inr gk))))), (k, .inr (1, [.ref kb, .int num, .ref kf, .ref ks, .ref kt])), (kb, .inl (cI, 160, .inl fb))] H := by rw [hH]; exact hP
  refine lv_aload_n hx hb dLW_share_0 rfl (lv_at hl 3 rfl) ?_
  refine lv_iconst (v := nI 0) hx hb dLW_share_1 (by decide) ?_
  refine lv_aload_n hx hb dLW_share_2 rfl (lv_at hl 0 rfl) ?_
  refine lv_iload_n hx hb dLW_share_3 rfl (lv_at hl 1 rfl) ?_
  refine lv_iload_n hx hb dLW_share_4 rfl (lv_at hl 2 rfl) ?_
  have hPc := hP.sub (ws' := [(bo, .inr (5, [.ref q, .ref mk, .ref ka, .ref cs])), (ka, .inl (cK, 2, .inr (.inr (.inr (.inr gk))))), (k, .inr (1, [.ref kb, .int num, .ref kf, .ref ks, .ref kt])), (kb, .inl (cI, 160, .inl fb))]) [0, 1, 2, 3] rfl
  have hDc := hD.sub (ws' := [(bo, .inr (5, [.ref q, .ref mk, .ref ka, .ref cs])), (ka, .inl (cK, 2, .inr (.inr (.inr (.inr gk))))), (k, .inr (1, [.ref kb, .int num, .ref kf, .ref ks, .ref kt])), (kb, .inl (cI, 160, .inl fb))]) [0, 1, 2, 3] (by decide) rfl
  have hKc := hK.sub (tys' := [(cI, .int), (cK, .object "BlindShelf$Key")]) [0, 1] rfl
  have hFc := va_free (wc := [(bo, .inr (5, [.ref q, .ref mk, .ref ka, .ref cs])), (ka, .inl (cK, 2, .inr (.inr (.inr (.inr gk))))), (k, .inr (1, [.ref kb, .int num, .ref kf, .ref ks, .ref kt])), (kb, .inl (cI, 160, .inl fb))]) hD hS hA [0, 1, 2, 3] rfl
  have hXc := (hX.kept hS.2.1).narrow hFc
  refine xe_call (xe_runV (C := RBS) (As := [.int (nI x9), .int (nI i9)]) (rest := [.int (nI 0), .ref ou]) ⟨hx, hb, hml, hown, hts⟩ (c_BS_share_b l dC dI H.size bo q mk ka cs k kb kf ks kt num cI cK gk fb x9 i9 hl9 hx9 hi9 hgk hg) (cwV (C := RBS) 2 hts (wT_4 w_m_LW_39 w_i_BS_share w_s_BS_share w_n_BS w_c_BS_share) rfl rfl rfl (by decide +kernel) ⟨Nat.le_of_ble_eq_true rfl, Nat.le_of_ble_eq_true rfl⟩) ⟨fun a U g mk q => by obtain ⟨q0, q1, qP, qK, qD, qX⟩ := q; exact ⟨q0, q1, qP, va_K.moved (u := U) (U := U.calling g mk a) (Vm.Alike.refl U.vm) qK, qD, qX.same rfl⟩, va_recv hK hP (q0 := 0) (ci := 5) (q := (RBS, TBS, 4)) rfl rfl, fun U hU hW => ⟨rfl, by rw [hU], by rw [hU]; exact hPc, va_K.moved hW.alike hKc, hDc.weaken (fun _ _ _ _ => trivial), by rw [hU]; exact hXc.warm hW⟩⟩ rfl rfl hl.1 rfl (lv_room (Nat.le_of_ble_eq_true rfl)) dLW_share_5 ⟨Nat.le_of_ble_eq_true rfl, Nat.le_of_ble_eq_true rfl⟩) hS (fun q _ h => hFc q h) hFc (fun ce9 q9 t H1 locs ht hvm hB hz1 hk1 hS hce9 hcv9 hcl9 => ?_)
  obtain ⟨hP1, hK1, hD1⟩ := hB
  rw [ht] at hP1
  obtain ⟨hP, hD⟩ := va_join (wr := []) (w1 := [(bo, .inr (5, [.ref q, .ref mk, .ref ka, .ref cs])), (ka, .inl (cK, 2, .inr (.inr (.inr (.inr gk))))), (k, .inr (1, [.ref kb, .int num, .ref kf, .ref ks, .ref kt])), (kb, .inl (cI, 160, .inl fb))]) hP hD [0, 1, 2, 3] [] rfl rfl (by decide) (by decide) hk1 hFc hP1 hD1
  generalize H1 = H at hP hS hce9 ⊢
  have hP : va_P (dC, dI) vwCl [(bo, .inr (5, [.ref q, .ref mk, .ref ka, .ref cs])), (ka, .inl (cK, 2, .inr (.inr (.inr (.inr gk))))), (k, .inr (1, [.ref kb, .int num, .ref kf, .ref ks, .ref kt])), (kb, .inl (cI, 160, .inl fb))] H := hP
  have hD : va_D A [(bo, .inr (5, [.ref q, .ref mk, .ref ka, .ref cs])), (ka, .inl (cK, 2, .inr (.inr (.inr (.inr gk))))), (k, .inr (1, [.ref kb, .int num, .ref kf, .ref ks, .ref kt])), (kb, .inl (cI, 160, .inl fb))] := hD
  refine xe_catch (own := RLW) (name := "java/lang/IllegalStateException") hown [(⟨0, 9, 12, 27⟩ : ExceptionTableEntry)] (⟨0, 9, 16, 37⟩ : ExceptionTableEntry) [] htab (fun z hz => by obtain rfl := List.mem_singleton.mp hz; exact Or.inr ⟨by decide, xe_pass (hts _ w_k_LW_27) (xe_no hX (E := "java/lang/IllegalStateException") (N := "java/lang/IndexOutOfBoundsException") (by decide +kernel)) hcl9⟩) (by decide) (by decide) (hts _ w_k_LW_37) (xe_word hX (by decide +kernel)) hce9 hcv9 hcl9 ?_
  refine W.eq (g2 := F0 m 16 ls [.ref q9]) rfl ?_
  refine lv_astore (lv' := [(4, .ref q9), (0, .ref bo), (1, .int (nI x9)), (2, .int (nI i9)), (3, .ref ou)]) hx hb dLW_share_16 hl (by decide) rfl (fun ls hl => ?_)
  refine lv_iconst (v := nI 2) hx hb dLW_share_18 (by decide) ?_
  have hP : va_P (dC, dI) vwCl [(bo, .inr (5, [.ref q, .ref mk, .ref ka, .ref cs])), (ka, .inl (cK, 2, .inr (.inr (.inr (.inr gk))))), (k, .inr (1, [.ref kb, .int num, .ref kf, .ref ks, .ref kt])), (kb, .inl (cI, 160, .inl fb))] H := hP
  have hD : va_D A [(bo, .inr (5, [.ref q, .ref mk, .ref ka, .ref cs])), (ka, .inl (cK, 2, .inr (.inr (.inr (.inr gk))))), (k, .inr (1, [.ref kb, .int num, .ref kf, .ref ks, .ref kt])), (kb, .inl (cI, 160, .inl fb))] := hD
  subst hQ
  exact W.iret (v := nI 2) hx hb hr (fun t ht hW => ⟨⟨nI 2, (), rfl, rfl, by rw [ht]; exact hP, va_K.moved hW.alike hK, hD⟩, hS.F ht⟩) hS.2.2 dLW_share_19
set_option maxHeartbeats 4000000 in
set_option maxRecDepth 100000 in
theorem c_LW_query_n (l : Launch) (dC : Nat → ClassId) (dI : Nat → Nat → Nat) (sz : Nat) (bo q mk ka cs : Nat) (x y : Int32) (ou : Nat) (hl9 : l.stackTraces = false) (hn : bs_ii x 2 = false) : Met l yLW_query wsLW_query { frames := 8, cells := 1, slots := 6, locals := 190 } (va_Pc [.ref bo, .int x, .int y, .ref ou] (fun U => U.heap.size = sz ∧ va_P (dC, dI) vwCl [(bo, .inr (5, [.ref q, .ref mk, .ref ka, .ref cs]))] U.heap ∧ va_K (dC, dI) vwCl [] U ∧ va_D (fun _ => True) [(bo, .inr (5, [.ref q, .ref mk, .ref ka, .ref cs]))] ∧ xe_P (va_A [(bo, .inr (5, [.ref q, .ref mk, .ref ka, .ref cs]))] sz) U U.heap)) (va_Qi (fun (r : Int32) (_ : Unit) => r = nI 1) (fun (_ : Unit) t => va_P (dC, dI) vwCl [(bo, .inr (5, [.ref q, .ref mk, .ref ka, .ref cs]))] t.heap ∧ va_K (dC, dI) vwCl [] t ∧ va_D (va_A [(bo, .inr (5, [.ref q, .ref mk, .ref ka, .ref cs]))] sz) [(bo, .inr (5, [.ref q, .ref mk, .ref ka, .ref cs]))]) (va_A [(bo, .inr (5, [.ref q, .ref mk, .ref ka, .ref cs]))] sz)) 1 6 (va_A [(bo, .inr (5, [.ref q, .ref mk, .ref ka, .ref cs]))] sz) := by
  refine va_MetW (cc := cLW_query) (maxL := 5) (ret := (some .int)) (hh := [(0, 9, 12, 13), (0, 9, 16, 37)]) (by decide) rfl ?_
  intro p e s m args below meth c s₁ Bo9 hml hv
  obtain ⟨rfl, hsz, hP, hK, hD0, hX⟩ := hv
  have hx := Bo9.exec
  have hb := Bo9.bytes
  have hr := Bo9.returns
  have hts := fun w (h : w ∈ wT) => atoms_spec (ws := wsLW_query) Bo9.pre w (List.mem_cons_of_mem _ h)
  have hown : s.vm.findClass RLW = some m.cls := findClass_of_methodNamed Bo9.named
  have hlocks := Bo9.notSynchronized
  have htab := xe_tab Bo9 (atoms_spec (ws := wsLW_query) Bo9.pre _ List.mem_cons_self)
  subst hsz
  have hD := hD0.self (sz := s.heap.size)
  generalize hAe : va_A [(bo, .inr (5, [.ref q, .ref mk, .ref ka, .ref cs]))] s.heap.size = A at hD hX ⊢
  have hA : ∀ q : Nat, s.heap.size ≤ q → A q := fun q h => by rw [← hAe]; exact Or.inr h
  have hl := lv_entry ([.ref bo, .int x, .int y, .ref ou]) (n := 5) (Nat.le_of_ble_eq_true rfl)
  rw [lg_entry_eq]
  generalize (lg_sl ([.ref bo, .int x, .int y, .ref ou]) ++ List.replicate (5 - (lg_sl ([.ref bo, .int x, .int y, .ref ou])).length) Slot.unset).toArray = ls at hl ⊢
  have hl : lv_has ls 5 [(0, .ref bo), (1, .int x), (2, .int y), (3, .ref ou)] := hl
  refine xs_q (fun H Q hH hQ => ?_)
  have hS : va_S A s.heap H [] := by rw [hH]; exact va_S.rf
  have hP : va_P (dC, dI) vwCl [(bo, .inr (5, [.ref q, .ref mk, .ref ka, .ref cs]))] H := by rw [hH]; exact hP
  refine lv_aload_n hx hb dLW_query_0 rfl (lv_at hl 3 rfl) ?_
  refine lv_iconst (v := nI 0) hx hb dLW_query_1 (by decide) ?_
  refine lv_aload_n hx hb dLW_query_2 rfl (lv_at hl 0 rfl) ?_
  refine lv_iload_n hx hb dLW_query_3 rfl (lv_at hl 1 rfl) ?_
  refine lv_iload_n hx hb dLW_query_4 rfl (lv_at hl 2 rfl) ?_
  have hPc := hP.sub (ws' := []) [] rfl
  have hDc := hD.sub (ws' := []) [] (by decide) rfl
  have hKc := hK.sub (tys' := []) [] rfl
  have hFc := va_free (wc := []) hD hS hA [] rfl
  have hXc := (hX.kept hS.2.1).narrow hFc
  refine xe_call (xe_runV (C := RBS) (As := [.int x, .int y]) (rest := [.int (nI 0), .ref ou]) ⟨hx, hb, hml, hown, hts⟩ (c_BS_query_n l dC dI H.size bo x y hl9 hn) (cwV (C := RBS) 2 hts (wT_4 w_m_LW_43 w_i_BS_query w_s_BS_query w_n_BS w_c_BS_query) rfl rfl rfl (by decide +kernel) ⟨Nat.le_of_ble_eq_true rfl, Nat.le_of_ble_eq_true rfl⟩) ⟨fun a U g mk q => by obtain ⟨q0, q1, qP, qK, qD, qX⟩ := q; exact ⟨q0, q1, qP, va_K.moved (u := U) (U := U.calling g mk a) (Vm.Alike.refl U.vm) qK, qD, qX.same rfl⟩, va_recv hK hP (q0 := 0) (ci := 5) (q := (RBS, TBS, 4)) rfl rfl, fun U hU hW => ⟨rfl, by rw [hU], by rw [hU]; exact hPc, va_K.moved hW.alike hKc, hDc.weaken (fun _ _ _ _ => trivial), by rw [hU]; exact hXc.warm hW⟩⟩ rfl rfl hl.1 rfl (lv_room (Nat.le_of_ble_eq_true rfl)) dLW_query_5 ⟨Nat.le_of_ble_eq_true rfl, Nat.le_of_ble_eq_true rfl⟩) hS (fun q _ h => hFc q h) hFc (fun ce9 q9 t H1 locs ht hvm hB hz1 hk1 hS hce9 hcv9 hcl9 => ?_)
  obtain ⟨hP1, hK1, hD1⟩ := hB
  rw [ht] at hP1
  obtain ⟨hP, hD⟩ := va_join (wr := [(bo, .inr (5, [.ref q, .ref mk, .ref ka, .ref cs]))]) (w1 := []) hP hD [] [0] rfl rfl (by decide) (by decide) hk1 hFc hP1 hD1
  generalize H1 = H at hP hS hce9 ⊢
  have hP : va_P (dC, dI) vwCl [(bo, .inr (5, [.ref q, .ref mk, .ref ka, .ref cs]))] H := hP
  have hD : va_D A [(bo, .inr (5, [.ref q, .ref mk, .ref ka, .ref cs]))] := hD
  refine xe_catch (own := RLW) (name := "java/lang/IllegalArgumentException") hown [] (⟨0, 9, 12, 13⟩ : ExceptionTableEntry) [(⟨0, 9, 16, 37⟩ : ExceptionTableEntry)] htab (fun z hz => nomatch hz) (by decide) (by decide) (hts _ w_k_LW_13) (xe_word hX (by decide +kernel)) hce9 hcv9 hcl9 ?_
  refine W.eq (g2 := F0 m 12 ls [.ref q9]) rfl ?_
  refine lv_astore (lv' := [(4, .ref q9), (0, .ref bo), (1, .int x), (2, .int y), (3, .ref ou)]) hx hb dLW_query_12 hl (by decide) rfl (fun ls hl => ?_)
  refine lv_iconst (v := nI 1) hx hb dLW_query_14 (by decide) ?_
  have hP : va_P (dC, dI) vwCl [(bo, .inr (5, [.ref q, .ref mk, .ref ka, .ref cs]))] H := hP
  have hD : va_D A [(bo, .inr (5, [.ref q, .ref mk, .ref ka, .ref cs]))] := hD
  subst hQ
  exact W.iret (v := nI 1) hx hb hr (fun t ht hW => ⟨⟨nI 1, (), rfl, rfl, by rw [ht]; exact hP, va_K.moved hW.alike hK, hD⟩, hS.F ht⟩) hS.2.2 dLW_query_15
set_option maxHeartbeats 4000000 in
set_option maxRecDepth 100000 in
theorem c_LW_query_h (l : Launch) (dC : Nat → ClassId) (dI : Nat → Nat → Nat) (sz : Nat) (bo q mk ka cs : Nat) (sv h lt : Nat) (an : Int64) (dp qn : Int32) (cV : ClassId) (gs : Nat → Option Nat) (x9 : Nat) (ra op : Nat) (v : Nat) (lc : Int32) (x : Int32) (ou : Nat) (hl9 : l.stackTraces = false) (hx9 : x9 < 2) (hgs : gs x9 = some sv) (hv : v < 2 ^ 29) (hu : decide (nI (v - 8) ≤ x ∧ x ≤ nI v) = false) : Met l yLW_query wsLW_query { frames := 8, cells := 1, slots := 6, locals := 190 } (va_Pc [.ref bo, .int (nI x9), .int x, .ref ou] (fun U => U.heap.size = sz ∧ va_P (dC, dI) vwCl [(bo, .inr (5, [.ref q, .ref mk, .ref ka, .ref cs])), (cs, .inl (cV, 2, .inr (.inr (.inr (.inr gs))))), (sv, .inr (3, [.ref h, .ref lt, .long an, .int dp, .int qn])), (h, .inr (4, [.ref ra, .ref op, .int (nI v), .int lc]))] U.heap ∧ va_K (dC, dI) vwCl [(cV, .object "BlindShelf$Server")] U ∧ va_D (fun _ => True) [(bo, .inr (5, [.ref q, .ref mk, .ref ka, .ref cs])), (cs, .inl (cV, 2, .inr (.inr (.inr (.inr gs))))), (sv, .inr (3, [.ref h, .ref lt, .long an, .int dp, .int qn])), (h, .inr (4, [.ref ra, .ref op, .int (nI v), .int lc]))] ∧ xe_P (va_A [(bo, .inr (5, [.ref q, .ref mk, .ref ka, .ref cs])), (cs, .inl (cV, 2, .inr (.inr (.inr (.inr gs))))), (sv, .inr (3, [.ref h, .ref lt, .long an, .int dp, .int qn])), (h, .inr (4, [.ref ra, .ref op, .int (nI v), .int lc]))] sz) U U.heap)) (va_Qi (fun (r : Int32) (_ : Unit) => r = nI 2) (fun (_ : Unit) t => va_P (dC, dI) vwCl [(bo, .inr (5, [.ref q, .ref mk, .ref ka, .ref cs])), (cs, .inl (cV, 2, .inr (.inr (.inr (.inr gs))))), (sv, .inr (3, [.ref h, .ref lt, .long an, .int dp, .int qn])), (h, .inr (4, [.ref ra, .ref op, .int (nI v), .int lc]))] t.heap ∧ va_K (dC, dI) vwCl [(cV, .object "BlindShelf$Server")] t ∧ va_D (va_A [(bo, .inr (5, [.ref q, .ref mk, .ref ka, .ref cs])), (cs, .inl (cV, 2, .inr (.inr (.inr (.inr gs))))), (sv, .inr (3, [.ref h, .ref lt, .long an, .int dp, .int qn])), (h, .inr (4, [.ref ra, .ref op, .int (nI v), .int lc]))] sz) [(bo, .inr (5, [.ref q, .ref mk, .ref ka, .ref cs])), (cs, .inl (cV, 2, .inr (.inr (.inr (.inr gs))))), (sv, .inr (3, [.ref h, .ref lt, .long an, .int dp, .int qn])), (h, .inr (4, [.ref ra, .ref op, .int (nI v), .int lc]))]) (va_A [(bo, .inr (5, [.ref q, .ref mk, .ref ka, .ref cs])), (cs, .inl (cV, 2, .inr (.inr (.inr (.inr gs))))), (sv, .inr (3, [.ref h, .ref lt, .long an, .int dp, .int qn])), (h, .inr (4, [.ref ra, .ref op, .int (nI v), .int lc]))] sz)) 1 6 (va_A [(bo, .inr (5, [.ref q, .ref mk, .ref ka, .ref cs])), (cs, .inl (cV, 2, .inr (.inr (.inr (.inr gs))))), (sv, .inr (3, [.ref h, .ref lt, .long an, .int dp, .int qn])), (h, .inr (4, [.ref ra, .ref op, .int (nI v), .int lc]))] sz) := by
  refine va_MetW (cc := cLW_query) (maxL := 5) (ret := (some .int)) (hh := [(0, 9, 12, 13), (0, 9, 16, 37)]) (by decide) rfl ?_
  intro p e s m args below meth c s₁ Bo9 hml hv
  obtain ⟨rfl, hsz, hP, hK, hD0, hX⟩ := hv
  have hx := Bo9.exec
  have hb := Bo9.bytes
  have hr := Bo9.returns
  have hts := fun w (h : w ∈ wT) => atoms_spec (ws := wsLW_query) Bo9.pre w (List.mem_cons_of_mem _ h)
  have hown : s.vm.findClass RLW = some m.cls := findClass_of_methodNamed Bo9.named
  have hlocks := Bo9.notSynchronized
  have htab := xe_tab Bo9 (atoms_spec (ws := wsLW_query) Bo9.pre _ List.mem_cons_self)
  subst hsz
  have hD := hD0.self (sz := s.heap.size)
  generalize hAe : va_A [(bo, .inr (5, [.ref q, .ref mk, .ref ka, .ref cs])), (cs, .inl (cV, 2, .inr (.inr (.inr (.inr gs))))), (sv, .inr (3, [.ref h, .ref lt, .long an, .int dp, .int qn])), (h, .inr (4, [.ref ra, .ref op, .int (nI v), .int lc]))] s.heap.size = A at hD hX ⊢
  have hA : ∀ q : Nat, s.heap.size ≤ q → A q := fun q h => by rw [← hAe]; exact Or.inr h
  have hl := lv_entry ([.ref bo, .int (nI x9), .int x, .ref ou]) (n := 5) (Nat.le_of_ble_eq_true rfl)
  rw [lg_entry_eq]
  generalize (lg_sl ([.ref bo, .int (nI x9), .int x, .ref ou]) ++ List.replicate (5 - (lg_sl ([.ref bo, .int (nI x9), .int x, .ref ou])).length) Slot.unset).toArray = ls at hl ⊢
  have hl : lv_has ls 5 [(0, .ref bo), (1, .int (nI x9)), (2, .int x), (3, .ref ou)] := hl
  refine xs_q (fun H Q hH hQ => ?_)
  have hS : va_S A s.heap H [] := by rw [hH]; exact va_S.rf
  have hP : va_P (dC, dI) vwCl [(bo, .inr (5, [.ref q, .ref mk, .ref ka, .ref cs])), (cs, .inl (cV, 2, .inr (.inr (.inr (.inr gs))))), (sv, .inr (3, [.ref h, .ref lt, .long an, .int dp, .int qn])), (h, .inr (4, [.ref ra, .ref op, .int (nI v), .int lc]))] H := by rw [hH]; exact hP
  refine lv_aload_n hx hb dLW_query_0 rfl (lv_at hl 3 rfl) ?_
  refine lv_iconst (v := nI 0) hx hb dLW_query_1 (by decide) ?_
  refine lv_aload_n hx hb dLW_query_2 rfl (lv_at hl 0 rfl) ?_
  refine lv_iload_n hx hb dLW_query_3 rfl (lv_at hl 1 rfl) ?_
  refine lv_iload_n hx hb dLW_query_4 rfl (lv_at hl 2 rfl) ?_
  have hPc := hP.sub (ws' := [(bo, .inr (5, [.ref q, .ref mk, .ref ka, .ref cs])), (cs, .inl (cV, 2, .inr (.inr (.inr (.inr gs))))), (sv, .inr (3, [.ref h, .ref lt, .long an, .int dp, .int qn])), (h, .inr (4, [.ref ra, .ref op, .int (nI v), .int lc]))]) [0, 1, 2, 3] rfl
  have hDc := hD.sub (ws' := [(bo, .inr (5, [.ref q, .ref mk, .ref ka, .ref cs])), (cs, .inl (cV, 2, .inr (.inr (.inr (.inr gs))))), (sv, .inr (3, [.ref h, .ref lt, .long an, .int dp, .int qn])), (h, .inr (4, [.ref ra, .ref op, .int (nI v), .int lc]))]) [0, 1, 2, 3] (by decide) rfl
  have hKc := hK.sub (tys' := [(cV, .object "BlindShelf$Server")]) [0] rfl
  have hFc := va_free (wc := [(bo, .inr (5, [.ref q, .ref mk, .ref ka, .ref cs])), (cs, .inl (cV, 2, .inr (.inr (.inr (.inr gs))))), (sv, .inr (3, [.ref h, .ref lt, .long an, .int dp, .int qn])), (h, .inr (4, [.ref ra, .ref op, .int (nI v), .int lc]))]) hD hS hA [0, 1, 2, 3] rfl
  have hXc := (hX.kept hS.2.1).narrow hFc
  refine xe_call (xe_runV (C := RBS) (As := [.int (nI x9), .int x]) (rest := [.int (nI 0), .ref ou]) ⟨hx, hb, hml, hown, hts⟩ (c_BS_query_h l dC dI H.size bo q mk ka cs sv h lt an dp qn cV gs x9 ra op v lc x hl9 hx9 hgs hv hu) (cwV (C := RBS) 2 hts (wT_4 w_m_LW_43 w_i_BS_query w_s_BS_query w_n_BS w_c_BS_query) rfl rfl rfl (by decide +kernel) ⟨Nat.le_of_ble_eq_true rfl, Nat.le_of_ble_eq_true rfl⟩) ⟨fun a U g mk q => by obtain ⟨q0, q1, qP, qK, qD, qX⟩ := q; exact ⟨q0, q1, qP, va_K.moved (u := U) (U := U.calling g mk a) (Vm.Alike.refl U.vm) qK, qD, qX.same rfl⟩, va_recv hK hP (q0 := 0) (ci := 5) (q := (RBS, TBS, 4)) rfl rfl, fun U hU hW => ⟨rfl, by rw [hU], by rw [hU]; exact hPc, va_K.moved hW.alike hKc, hDc.weaken (fun _ _ _ _ => trivial), by rw [hU]; exact hXc.warm hW⟩⟩ rfl rfl hl.1 rfl (lv_room (Nat.le_of_ble_eq_true rfl)) dLW_query_5 ⟨Nat.le_of_ble_eq_true rfl, Nat.le_of_ble_eq_true rfl⟩) hS (fun q _ h => hFc q h) hFc (fun ce9 q9 t H1 locs ht hvm hB hz1 hk1 hS hce9 hcv9 hcl9 => ?_)
  obtain ⟨hP1, hK1, hD1⟩ := hB
  rw [ht] at hP1
  obtain ⟨hP, hD⟩ := va_join (wr := []) (w1 := [(bo, .inr (5, [.ref q, .ref mk, .ref ka, .ref cs])), (cs, .inl (cV, 2, .inr (.inr (.inr (.inr gs))))), (sv, .inr (3, [.ref h, .ref lt, .long an, .int dp, .int qn])), (h, .inr (4, [.ref ra, .ref op, .int (nI v), .int lc]))]) hP hD [0, 1, 2, 3] [] rfl rfl (by decide) (by decide) hk1 hFc hP1 hD1
  generalize H1 = H at hP hS hce9 ⊢
  have hP : va_P (dC, dI) vwCl [(bo, .inr (5, [.ref q, .ref mk, .ref ka, .ref cs])), (cs, .inl (cV, 2, .inr (.inr (.inr (.inr gs))))), (sv, .inr (3, [.ref h, .ref lt, .long an, .int dp, .int qn])), (h, .inr (4, [.ref ra, .ref op, .int (nI v), .int lc]))] H := hP
  have hD : va_D A [(bo, .inr (5, [.ref q, .ref mk, .ref ka, .ref cs])), (cs, .inl (cV, 2, .inr (.inr (.inr (.inr gs))))), (sv, .inr (3, [.ref h, .ref lt, .long an, .int dp, .int qn])), (h, .inr (4, [.ref ra, .ref op, .int (nI v), .int lc]))] := hD
  refine xe_catch (own := RLW) (name := "java/lang/IllegalStateException") hown [(⟨0, 9, 12, 13⟩ : ExceptionTableEntry)] (⟨0, 9, 16, 37⟩ : ExceptionTableEntry) [] htab (fun z hz => by obtain rfl := List.mem_singleton.mp hz; exact Or.inr ⟨by decide, xe_pass (hts _ w_k_LW_13) (xe_no hX (E := "java/lang/IllegalStateException") (N := "java/lang/IllegalArgumentException") (by decide +kernel)) hcl9⟩) (by decide) (by decide) (hts _ w_k_LW_37) (xe_word hX (by decide +kernel)) hce9 hcv9 hcl9 ?_
  refine W.eq (g2 := F0 m 16 ls [.ref q9]) rfl ?_
  refine lv_astore (lv' := [(4, .ref q9), (0, .ref bo), (1, .int (nI x9)), (2, .int x), (3, .ref ou)]) hx hb dLW_query_16 hl (by decide) rfl (fun ls hl => ?_)
  refine lv_iconst (v := nI 2) hx hb dLW_query_18 (by decide) ?_
  have hP : va_P (dC, dI) vwCl [(bo, .inr (5, [.ref q, .ref mk, .ref ka, .ref cs])), (cs, .inl (cV, 2, .inr (.inr (.inr (.inr gs))))), (sv, .inr (3, [.ref h, .ref lt, .long an, .int dp, .int qn])), (h, .inr (4, [.ref ra, .ref op, .int (nI v), .int lc]))] H := hP
  have hD : va_D A [(bo, .inr (5, [.ref q, .ref mk, .ref ka, .ref cs])), (cs, .inl (cV, 2, .inr (.inr (.inr (.inr gs))))), (sv, .inr (3, [.ref h, .ref lt, .long an, .int dp, .int qn])), (h, .inr (4, [.ref ra, .ref op, .int (nI v), .int lc]))] := hD
  subst hQ
  exact W.iret (v := nI 2) hx hb hr (fun t ht hW => ⟨⟨nI 2, (), rfl, rfl, by rw [ht]; exact hP, va_K.moved hW.alike hK, hD⟩, hS.F ht⟩) hS.2.2 dLW_query_19
set_option maxHeartbeats 4000000 in
set_option maxRecDepth 100000 in
theorem c_LW_digest_n (l : Launch) (dC : Nat → ClassId) (dI : Nat → Nat → Nat) (sz : Nat) (bo q mk ka cs : Nat) (x y : Int32) (ou : Nat) (hl9 : l.stackTraces = false) (hn : bs_ii x 2 = false) : Met l yLW_digest wsLW_digest { frames := 8, cells := 1, slots := 6, locals := 174 } (va_Pc [.ref bo, .int x, .int y, .ref ou] (fun U => U.heap.size = sz ∧ va_P (dC, dI) vwCl [(bo, .inr (5, [.ref q, .ref mk, .ref ka, .ref cs]))] U.heap ∧ va_K (dC, dI) vwCl [] U ∧ va_D (fun _ => True) [(bo, .inr (5, [.ref q, .ref mk, .ref ka, .ref cs]))] ∧ xe_P (va_A [(bo, .inr (5, [.ref q, .ref mk, .ref ka, .ref cs]))] sz) U U.heap)) (va_Qi (fun (r : Int32) (_ : Unit) => r = nI 1) (fun (_ : Unit) t => va_P (dC, dI) vwCl [(bo, .inr (5, [.ref q, .ref mk, .ref ka, .ref cs]))] t.heap ∧ va_K (dC, dI) vwCl [] t ∧ va_D (va_A [(bo, .inr (5, [.ref q, .ref mk, .ref ka, .ref cs]))] sz) [(bo, .inr (5, [.ref q, .ref mk, .ref ka, .ref cs]))]) (va_A [(bo, .inr (5, [.ref q, .ref mk, .ref ka, .ref cs]))] sz)) 1 6 (va_A [(bo, .inr (5, [.ref q, .ref mk, .ref ka, .ref cs]))] sz) := by
  refine va_MetW (cc := cLW_digest) (maxL := 5) (ret := (some .int)) (hh := [(0, 9, 12, 13), (0, 9, 16, 37)]) (by decide) rfl ?_
  intro p e s m args below meth c s₁ Bo9 hml hv
  obtain ⟨rfl, hsz, hP, hK, hD0, hX⟩ := hv
  have hx := Bo9.exec
  have hb := Bo9.bytes
  have hr := Bo9.returns
  have hts := fun w (h : w ∈ wT) => atoms_spec (ws := wsLW_digest) Bo9.pre w (List.mem_cons_of_mem _ h)
  have hown : s.vm.findClass RLW = some m.cls := findClass_of_methodNamed Bo9.named
  have hlocks := Bo9.notSynchronized
  have htab := xe_tab Bo9 (atoms_spec (ws := wsLW_digest) Bo9.pre _ List.mem_cons_self)
  subst hsz
  have hD := hD0.self (sz := s.heap.size)
  generalize hAe : va_A [(bo, .inr (5, [.ref q, .ref mk, .ref ka, .ref cs]))] s.heap.size = A at hD hX ⊢
  have hA : ∀ q : Nat, s.heap.size ≤ q → A q := fun q h => by rw [← hAe]; exact Or.inr h
  have hl := lv_entry ([.ref bo, .int x, .int y, .ref ou]) (n := 5) (Nat.le_of_ble_eq_true rfl)
  rw [lg_entry_eq]
  generalize (lg_sl ([.ref bo, .int x, .int y, .ref ou]) ++ List.replicate (5 - (lg_sl ([.ref bo, .int x, .int y, .ref ou])).length) Slot.unset).toArray = ls at hl ⊢
  have hl : lv_has ls 5 [(0, .ref bo), (1, .int x), (2, .int y), (3, .ref ou)] := hl
  refine xs_q (fun H Q hH hQ => ?_)
  have hS : va_S A s.heap H [] := by rw [hH]; exact va_S.rf
  have hP : va_P (dC, dI) vwCl [(bo, .inr (5, [.ref q, .ref mk, .ref ka, .ref cs]))] H := by rw [hH]; exact hP
  refine lv_aload_n hx hb dLW_digest_0 rfl (lv_at hl 3 rfl) ?_
  refine lv_iconst (v := nI 0) hx hb dLW_digest_1 (by decide) ?_
  refine lv_aload_n hx hb dLW_digest_2 rfl (lv_at hl 0 rfl) ?_
  refine lv_iload_n hx hb dLW_digest_3 rfl (lv_at hl 1 rfl) ?_
  refine lv_iload_n hx hb dLW_digest_4 rfl (lv_at hl 2 rfl) ?_
  have hPc := hP.sub (ws' := []) [] rfl
  have hDc := hD.sub (ws' := []) [] (by decide) rfl
  have hKc := hK.sub (tys' := []) [] rfl
  have hFc := va_free (wc := []) hD hS hA [] rfl
  have hXc := (hX.kept hS.2.1).narrow hFc
  refine xe_call (xe_runV (C := RBS) (As := [.int x, .int y]) (rest := [.int (nI 0), .ref ou]) ⟨hx, hb, hml, hown, hts⟩ (c_BS_digest_n l dC dI H.size bo x y hl9 hn) (cwV (C := RBS) 2 hts (wT_4 w_m_LW_57 w_i_BS_digest w_s_BS_digest w_n_BS w_c_BS_digest) rfl rfl rfl (by decide +kernel) ⟨Nat.le_of_ble_eq_true rfl, Nat.le_of_ble_eq_true rfl⟩) ⟨fun a U g mk q => by obtain ⟨q0, q1, qP, qK, qD, qX⟩ := q; exact ⟨q0, q1, qP, va_K.moved (u := U) (U := U.calling g mk a) (Vm.Alike.refl U.vm) qK, qD, qX.same rfl⟩, va_recv hK hP (q0 := 0) (ci := 5) (q := (RBS, TBS, 4)) rfl rfl, fun U hU hW => ⟨rfl, by rw [hU], by rw [hU]; exact hPc, va_K.moved hW.alike hKc, hDc.weaken (fun _ _ _ _ => trivial), by rw [hU]; exact hXc.warm hW⟩⟩ rfl rfl hl.1 rfl (lv_room (Nat.le_of_ble_eq_true rfl)) dLW_digest_5 ⟨Nat.le_of_ble_eq_true rfl, Nat.le_of_ble_eq_true rfl⟩) hS (fun q _ h => hFc q h) hFc (fun ce9 q9 t H1 locs ht hvm hB hz1 hk1 hS hce9 hcv9 hcl9 => ?_)
  obtain ⟨hP1, hK1, hD1⟩ := hB
  rw [ht] at hP1
  obtain ⟨hP, hD⟩ := va_join (wr := [(bo, .inr (5, [.ref q, .ref mk, .ref ka, .ref cs]))]) (w1 := []) hP hD [] [0] rfl rfl (by decide) (by decide) hk1 hFc hP1 hD1
  generalize H1 = H at hP hS hce9 ⊢
  have hP : va_P (dC, dI) vwCl [(bo, .inr (5, [.ref q, .ref mk, .ref ka, .ref cs]))] H := hP
  have hD : va_D A [(bo, .inr (5, [.ref q, .ref mk, .ref ka, .ref cs]))] := hD
  refine xe_catch (own := RLW) (name := "java/lang/IllegalArgumentException") hown [] (⟨0, 9, 12, 13⟩ : ExceptionTableEntry) [(⟨0, 9, 16, 37⟩ : ExceptionTableEntry)] htab (fun z hz => nomatch hz) (by decide) (by decide) (hts _ w_k_LW_13) (xe_word hX (by decide +kernel)) hce9 hcv9 hcl9 ?_
  refine W.eq (g2 := F0 m 12 ls [.ref q9]) rfl ?_
  refine lv_astore (lv' := [(4, .ref q9), (0, .ref bo), (1, .int x), (2, .int y), (3, .ref ou)]) hx hb dLW_digest_12 hl (by decide) rfl (fun ls hl => ?_)
  refine lv_iconst (v := nI 1) hx hb dLW_digest_14 (by decide) ?_
  have hP : va_P (dC, dI) vwCl [(bo, .inr (5, [.ref q, .ref mk, .ref ka, .ref cs]))] H := hP
  have hD : va_D A [(bo, .inr (5, [.ref q, .ref mk, .ref ka, .ref cs]))] := hD
  subst hQ
  exact W.iret (v := nI 1) hx hb hr (fun t ht hW => ⟨⟨nI 1, (), rfl, rfl, by rw [ht]; exact hP, va_K.moved hW.alike hK, hD⟩, hS.F ht⟩) hS.2.2 dLW_digest_15
set_option maxHeartbeats 4000000 in
set_option maxRecDepth 100000 in
theorem c_LW_digest_h (l : Launch) (dC : Nat → ClassId) (dI : Nat → Nat → Nat) (sz : Nat) (bo q mk ka cs : Nat) (sv h lt : Nat) (an : Int64) (dp qn : Int32) (cV : ClassId) (gs : Nat → Option Nat) (x9 : Nat) (ra op : Nat) (v : Nat) (lc : Int32) (x : Int32) (ou : Nat) (hl9 : l.stackTraces = false) (hx9 : x9 < 2) (hgs : gs x9 = some sv) (hv : v < 2 ^ 29) (hu : decide (nI (v - 8) ≤ x ∧ x ≤ nI v) = false) : Met l yLW_digest wsLW_digest { frames := 8, cells := 1, slots := 6, locals := 174 } (va_Pc [.ref bo, .int (nI x9), .int x, .ref ou] (fun U => U.heap.size = sz ∧ va_P (dC, dI) vwCl [(bo, .inr (5, [.ref q, .ref mk, .ref ka, .ref cs])), (cs, .inl (cV, 2, .inr (.inr (.inr (.inr gs))))), (sv, .inr (3, [.ref h, .ref lt, .long an, .int dp, .int qn])), (h, .inr (4, [.ref ra, .ref op, .int (nI v), .int lc]))] U.heap ∧ va_K (dC, dI) vwCl [(cV, .object "BlindShelf$Server")] U ∧ va_D (fun _ => True) [(bo, .inr (5, [.ref q, .ref mk, .ref ka, .ref cs])), (cs, .inl (cV, 2, .inr (.inr (.inr (.inr gs))))), (sv, .inr (3, [.ref h, .ref lt, .long an, .int dp, .int qn])), (h, .inr (4, [.ref ra, .ref op, .int (nI v), .int lc]))] ∧ xe_P (va_A [(bo, .inr (5, [.ref q, .ref mk, .ref ka, .ref cs])), (cs, .inl (cV, 2, .inr (.inr (.inr (.inr gs))))), (sv, .inr (3, [.ref h, .ref lt, .long an, .int dp, .int qn])), (h, .inr (4, [.ref ra, .ref op, .int (nI v), .int lc]))] sz) U U.heap)) (va_Qi (fun (r : Int32) (_ : Unit) => r = nI 2) (fun (_ : Unit) t => va_P (dC, dI) vwCl [(bo, .inr (5, [.ref q, .ref mk, .ref ka, .ref cs])), (cs, .inl (cV, 2, .inr (.inr (.inr (.inr gs))))), (sv, .inr (3, [.ref h, .ref lt, .long an, .int dp, .int qn])), (h, .inr (4, [.ref ra, .ref op, .int (nI v), .int lc]))] t.heap ∧ va_K (dC, dI) vwCl [(cV, .object "BlindShelf$Server")] t ∧ va_D (va_A [(bo, .inr (5, [.ref q, .ref mk, .ref ka, .ref cs])), (cs, .inl (cV, 2, .inr (.inr (.inr (.inr gs))))), (sv, .inr (3, [.ref h, .ref lt, .long an, .int dp, .int qn])), (h, .inr (4, [.ref ra, .ref op, .int (nI v), .int lc]))] sz) [(bo, .inr (5, [.ref q, .ref mk, .ref ka, .ref cs])), (cs, .inl (cV, 2, .inr (.inr (.inr (.inr gs))))), (sv, .inr (3, [.ref h, .ref lt, .long an, .int dp, .int qn])), (h, .inr (4, [.ref ra, .ref op, .int (nI v), .int lc]))]) (va_A [(bo, .inr (5, [.ref q, .ref mk, .ref ka, .ref cs])), (cs, .inl (cV, 2, .inr (.inr (.inr (.inr gs))))), (sv, .inr (3, [.ref h, .ref lt, .long an, .int dp, .int qn])), (h, .inr (4, [.ref ra, .ref op, .int (nI v), .int lc]))] sz)) 1 6 (va_A [(bo, .inr (5, [.ref q, .ref mk, .ref ka, .ref cs])), (cs, .inl (cV, 2, .inr (.inr (.inr (.inr gs))))), (sv, .inr (3, [.ref h, .ref lt, .long an, .int dp, .int qn])), (h, .inr (4, [.ref ra, .ref op, .int (nI v), .int lc]))] sz) := by
  refine va_MetW (cc := cLW_digest) (maxL := 5) (ret := (some .int)) (hh := [(0, 9, 12, 13), (0, 9, 16, 37)]) (by decide) rfl ?_
  intro p e s m args below meth c s₁ Bo9 hml hv
  obtain ⟨rfl, hsz, hP, hK, hD0, hX⟩ := hv
  have hx := Bo9.exec
  have hb := Bo9.bytes
  have hr := Bo9.returns
  have hts := fun w (h : w ∈ wT) => atoms_spec (ws := wsLW_digest) Bo9.pre w (List.mem_cons_of_mem _ h)
  have hown : s.vm.findClass RLW = some m.cls := findClass_of_methodNamed Bo9.named
  have hlocks := Bo9.notSynchronized
  have htab := xe_tab Bo9 (atoms_spec (ws := wsLW_digest) Bo9.pre _ List.mem_cons_self)
  subst hsz
  have hD := hD0.self (sz := s.heap.size)
  generalize hAe : va_A [(bo, .inr (5, [.ref q, .ref mk, .ref ka, .ref cs])), (cs, .inl (cV, 2, .inr (.inr (.inr (.inr gs))))), (sv, .inr (3, [.ref h, .ref lt, .long an, .int dp, .int qn])), (h, .inr (4, [.ref ra, .ref op, .int (nI v), .int lc]))] s.heap.size = A at hD hX ⊢
  have hA : ∀ q : Nat, s.heap.size ≤ q → A q := fun q h => by rw [← hAe]; exact Or.inr h
  have hl := lv_entry ([.ref bo, .int (nI x9), .int x, .ref ou]) (n := 5) (Nat.le_of_ble_eq_true rfl)
  rw [lg_entry_eq]
  generalize (lg_sl ([.ref bo, .int (nI x9), .int x, .ref ou]) ++ List.replicate (5 - (lg_sl ([.ref bo, .int (nI x9), .int x, .ref ou])).length) Slot.unset).toArray = ls at hl ⊢
  have hl : lv_has ls 5 [(0, .ref bo), (1, .int (nI x9)), (2, .int x), (3, .ref ou)] := hl
  refine xs_q (fun H Q hH hQ => ?_)
  have hS : va_S A s.heap H [] := by rw [hH]; exact va_S.rf
  have hP : va_P (dC, dI) vwCl [(bo, .inr (5, [.ref q, .ref mk, .ref ka, .ref cs])), (cs, .inl (cV, 2, .inr (.inr (.inr (.inr gs))))), (sv, .inr (3, [.ref h, .ref lt, .long an, .int dp, .int qn])), (h, .inr (4, [.ref ra, .ref op, .int (nI v), .int lc]))] H := by rw [hH]; exact hP
  refine lv_aload_n hx hb dLW_digest_0 rfl (lv_at hl 3 rfl) ?_
  refine lv_iconst (v := nI 0) hx hb dLW_digest_1 (by decide) ?_
  refine lv_aload_n hx hb dLW_digest_2 rfl (lv_at hl 0 rfl) ?_
  refine lv_iload_n hx hb dLW_digest_3 rfl (lv_at hl 1 rfl) ?_
  refine lv_iload_n hx hb dLW_digest_4 rfl (lv_at hl 2 rfl) ?_
  have hPc := hP.sub (ws' := [(bo, .inr (5, [.ref q, .ref mk, .ref ka, .ref cs])), (cs, .inl (cV, 2, .inr (.inr (.inr (.inr gs))))), (sv, .inr (3, [.ref h, .ref lt, .long an, .int dp, .int qn])), (h, .inr (4, [.ref ra, .ref op, .int (nI v), .int lc]))]) [0, 1, 2, 3] rfl
  have hDc := hD.sub (ws' := [(bo, .inr (5, [.ref q, .ref mk, .ref ka, .ref cs])), (cs, .inl (cV, 2, .inr (.inr (.inr (.inr gs))))), (sv, .inr (3, [.ref h, .ref lt, .long an, .int dp, .int qn])), (h, .inr (4, [.ref ra, .ref op, .int (nI v), .int lc]))]) [0, 1, 2, 3] (by decide) rfl
  have hKc := hK.sub (tys' := [(cV, .object "BlindShelf$Server")]) [0] rfl
  have hFc := va_free (wc := [(bo, .inr (5, [.ref q, .ref mk, .ref ka, .ref cs])), (cs, .inl (cV, 2, .inr (.inr (.inr (.inr gs))))), (sv, .inr (3, [.ref h, .ref lt, .long an, .int dp, .int qn])), (h, .inr (4, [.ref ra, .ref op, .int (nI v), .int lc]))]) hD hS hA [0, 1, 2, 3] rfl
  have hXc := (hX.kept hS.2.1).narrow hFc
  refine xe_call (xe_runV (C := RBS) (As := [.int (nI x9), .int x]) (rest := [.int (nI 0), .ref ou]) ⟨hx, hb, hml, hown, hts⟩ (c_BS_digest_h l dC dI H.size bo q mk ka cs sv h lt an dp qn cV gs x9 ra op v lc x hl9 hx9 hgs hv hu) (cwV (C := RBS) 2 hts (wT_4 w_m_LW_57 w_i_BS_digest w_s_BS_digest w_n_BS w_c_BS_digest) rfl rfl rfl (by decide +kernel) ⟨Nat.le_of_ble_eq_true rfl, Nat.le_of_ble_eq_true rfl⟩) ⟨fun a U g mk q => by obtain ⟨q0, q1, qP, qK, qD, qX⟩ := q; exact ⟨q0, q1, qP, va_K.moved (u := U) (U := U.calling g mk a) (Vm.Alike.refl U.vm) qK, qD, qX.same rfl⟩, va_recv hK hP (q0 := 0) (ci := 5) (q := (RBS, TBS, 4)) rfl rfl, fun U hU hW => ⟨rfl, by rw [hU], by rw [hU]; exact hPc, va_K.moved hW.alike hKc, hDc.weaken (fun _ _ _ _ => trivial), by rw [hU]; exact hXc.warm hW⟩⟩ rfl rfl hl.1 rfl (lv_room (Nat.le_of_ble_eq_true rfl)) dLW_digest_5 ⟨Nat.le_of_ble_eq_true rfl, Nat.le_of_ble_eq_true rfl⟩) hS (fun q _ h => hFc q h) hFc (fun ce9 q9 t H1 locs ht hvm hB hz1 hk1 hS hce9 hcv9 hcl9 => ?_)
  obtain ⟨hP1, hK1, hD1⟩ := hB
  rw [ht] at hP1
  obtain ⟨hP, hD⟩ := va_join (wr := []) (w1 := [(bo, .inr (5, [.ref q, .ref mk, .ref ka, .ref cs])), (cs, .inl (cV, 2, .inr (.inr (.inr (.inr gs))))), (sv, .inr (3, [.ref h, .ref lt, .long an, .int dp, .int qn])), (h, .inr (4, [.ref ra, .ref op, .int (nI v), .int lc]))]) hP hD [0, 1, 2, 3] [] rfl rfl (by decide) (by decide) hk1 hFc hP1 hD1
  generalize H1 = H at hP hS hce9 ⊢
  have hP : va_P (dC, dI) vwCl [(bo, .inr (5, [.ref q, .ref mk, .ref ka, .ref cs])), (cs, .inl (cV, 2, .inr (.inr (.inr (.inr gs))))), (sv, .inr (3, [.ref h, .ref lt, .long an, .int dp, .int qn])), (h, .inr (4, [.ref ra, .ref op, .int (nI v), .int lc]))] H := hP
  have hD : va_D A [(bo, .inr (5, [.ref q, .ref mk, .ref ka, .ref cs])), (cs, .inl (cV, 2, .inr (.inr (.inr (.inr gs))))), (sv, .inr (3, [.ref h, .ref lt, .long an, .int dp, .int qn])), (h, .inr (4, [.ref ra, .ref op, .int (nI v), .int lc]))] := hD
  refine xe_catch (own := RLW) (name := "java/lang/IllegalStateException") hown [(⟨0, 9, 12, 13⟩ : ExceptionTableEntry)] (⟨0, 9, 16, 37⟩ : ExceptionTableEntry) [] htab (fun z hz => by obtain rfl := List.mem_singleton.mp hz; exact Or.inr ⟨by decide, xe_pass (hts _ w_k_LW_13) (xe_no hX (E := "java/lang/IllegalStateException") (N := "java/lang/IllegalArgumentException") (by decide +kernel)) hcl9⟩) (by decide) (by decide) (hts _ w_k_LW_37) (xe_word hX (by decide +kernel)) hce9 hcv9 hcl9 ?_
  refine W.eq (g2 := F0 m 16 ls [.ref q9]) rfl ?_
  refine lv_astore (lv' := [(4, .ref q9), (0, .ref bo), (1, .int (nI x9)), (2, .int x), (3, .ref ou)]) hx hb dLW_digest_16 hl (by decide) rfl (fun ls hl => ?_)
  refine lv_iconst (v := nI 2) hx hb dLW_digest_18 (by decide) ?_
  have hP : va_P (dC, dI) vwCl [(bo, .inr (5, [.ref q, .ref mk, .ref ka, .ref cs])), (cs, .inl (cV, 2, .inr (.inr (.inr (.inr gs))))), (sv, .inr (3, [.ref h, .ref lt, .long an, .int dp, .int qn])), (h, .inr (4, [.ref ra, .ref op, .int (nI v), .int lc]))] H := hP
  have hD : va_D A [(bo, .inr (5, [.ref q, .ref mk, .ref ka, .ref cs])), (cs, .inl (cV, 2, .inr (.inr (.inr (.inr gs))))), (sv, .inr (3, [.ref h, .ref lt, .long an, .int dp, .int qn])), (h, .inr (4, [.ref ra, .ref op, .int (nI v), .int lc]))] := hD
  subst hQ
  exact W.iret (v := nI 2) hx hb hr (fun t ht hW => ⟨⟨nI 2, (), rfl, rfl, by rw [ht]; exact hP, va_K.moved hW.alike hK, hD⟩, hS.F ht⟩) hS.2.2 dLW_digest_19
set_option maxHeartbeats 4000000 in
set_option maxRecDepth 100000 in
theorem c_LW_query_b (l : Launch) (dC : Nat → ClassId) (dI : Nat → Nat → Nat) (sz : Nat) (bo q mk ka cs : Nat) (sv h lt : Nat) (an : Int64) (dp qn : Int32) (cV : ClassId) (gs : Nat → Option Nat) (x9 : Nat) (ra op : Nat) (v : Nat) (lc : Int32) (k kb kf ks kt : Nat) (num : Int32) (cI : ClassId) (cK : ClassId) (gk : Nat → Option Nat) (fb : Nat → Int32) (vj : Nat) (ou : Nat) (hl9 : l.stackTraces = false) (hx9 : x9 < 2) (hgs : gs x9 = some sv) (hgk : gk x9 = some k) (hv : v < 2 ^ 29) (hu : decide (nI (v - 8) ≤ nI vj ∧ nI vj ≤ nI v) = true) (hg : bs_gd fb 8 = false) : Met l yLW_query wsLW_query { frames := 8, cells := 1, slots := 6, locals := 190 } (va_Pc [.ref bo, .int (nI x9), .int (nI vj), .ref ou] (fun U => U.heap.size = sz ∧ va_P (dC, dI) vwCl [(bo, .inr (5, [.ref q, .ref mk, .ref ka, .ref cs])), (cs, .inl (cV, 2, .inr (.inr (.inr (.inr gs))))), (sv, .inr (3, [.ref h, .ref lt, .long an, .int dp, .int qn])), (h, .inr (4, [.ref ra, .ref op, .int (nI v), .int lc])), (ka, .inl (cK, 2, .inr (.inr (.inr (.inr gk))))), (k, .inr (1, [.ref kb, .int num, .ref kf, .ref ks, .ref kt])), (kb, .inl (cI, 160, .inl fb))] U.heap ∧ va_K (dC, dI) vwCl [(cV, .object "BlindShelf$Server"), (cI, .int), (cK, .object "BlindShelf$Key")] U ∧ va_D (fun _ => True) [(bo, .inr (5, [.ref q, .ref mk, .ref ka, .ref cs])), (cs, .inl (cV, 2, .inr (.inr (.inr (.inr gs))))), (sv, .inr (3, [.ref h, .ref lt, .long an, .int dp, .int qn])), (h, .inr (4, [.ref ra, .ref op, .int (nI v), .int lc])), (ka, .inl (cK, 2, .inr (.inr (.inr (.inr gk))))), (k, .inr (1, [.ref kb, .int num, .ref kf, .ref ks, .ref kt])), (kb, .inl (cI, 160, .inl fb))] ∧ xe_P (va_A [(bo, .inr (5, [.ref q, .ref mk, .ref ka, .ref cs])), (cs, .inl (cV, 2, .inr (.inr (.inr (.inr gs))))), (sv, .inr (3, [.ref h, .ref lt, .long an, .int dp, .int qn])), (h, .inr (4, [.ref ra, .ref op, .int (nI v), .int lc])), (ka, .inl (cK, 2, .inr (.inr (.inr (.inr gk))))), (k, .inr (1, [.ref kb, .int num, .ref kf, .ref ks, .ref kt])), (kb, .inl (cI, 160, .inl fb))] sz) U U.heap)) (va_Qi (fun (r : Int32) (_ : Unit) => r = nI 2) (fun (_ : Unit) t => va_P (dC, dI) vwCl [(bo, .inr (5, [.ref q, .ref mk, .ref ka, .ref cs])), (cs, .inl (cV, 2, .inr (.inr (.inr (.inr gs))))), (sv, .inr (3, [.ref h, .ref lt, .long an, .int dp, .int qn])), (h, .inr (4, [.ref ra, .ref op, .int (nI v), .int lc])), (ka, .inl (cK, 2, .inr (.inr (.inr (.inr gk))))), (k, .inr (1, [.ref kb, .int num, .ref kf, .ref ks, .ref kt])), (kb, .inl (cI, 160, .inl fb))] t.heap ∧ va_K (dC, dI) vwCl [(cV, .object "BlindShelf$Server"), (cI, .int), (cK, .object "BlindShelf$Key")] t ∧ va_D (va_A [(bo, .inr (5, [.ref q, .ref mk, .ref ka, .ref cs])), (cs, .inl (cV, 2, .inr (.inr (.inr (.inr gs))))), (sv, .inr (3, [.ref h, .ref lt, .long an, .int dp, .int qn])), (h, .inr (4, [.ref ra, .ref op, .int (nI v), .int lc])), (ka, .inl (cK, 2, .inr (.inr (.inr (.inr gk))))), (k, .inr (1, [.ref kb, .int num, .ref kf, .ref ks, .ref kt])), (kb, .inl (cI, 160, .inl fb))] sz) [(bo, .inr (5, [.ref q, .ref mk, .ref ka, .ref cs])), (cs, .inl (cV, 2, .inr (.inr (.inr (.inr gs))))), (sv, .inr (3, [.ref h, .ref lt, .long an, .int dp, .int qn])), (h, .inr (4, [.ref ra, .ref op, .int (nI v), .int lc])), (ka, .inl (cK, 2, .inr (.inr (.inr (.inr gk))))), (k, .inr (1, [.ref kb, .int num, .ref kf, .ref ks, .ref kt])), (kb, .inl (cI, 160, .inl fb))]) (va_A [(bo, .inr (5, [.ref q, .ref mk, .ref ka, .ref cs])), (cs, .inl (cV, 2, .inr (.inr (.inr (.inr gs))))), (sv, .inr (3, [.ref h, .ref lt, .long an, .int dp, .int qn])), (h, .inr (4, [.ref ra, .ref op, .int (nI v), .int lc])), (ka, .inl (cK, 2, .inr (.inr (.inr (.inr gk))))), (k, .inr (1, [.ref kb, .int num, .ref kf, .ref ks, .ref kt])), (kb, .inl (cI, 160, .inl fb))] sz)) 1 6 (va_A [(bo, .inr (5, [.ref q, .ref mk, .ref ka, .ref cs])), (cs, .inl (cV, 2, .inr (.inr (.inr (.inr gs))))), (sv, .inr (3, [.ref h, .ref lt, .long an, .int dp, .int qn])), (h, .inr (4, [.ref ra, .ref op, .int (nI v), .int lc])), (ka, .inl (cK, 2, .inr (.inr (.inr (.inr gk))))), (k, .inr (1, [.ref kb, .int num, .ref kf, .ref ks, .ref kt])), (kb, .inl (cI, 160, .inl fb))] sz) := by
  refine va_MetW (cc := cLW_query) (maxL := 5) (ret := (some .int)) (hh := [(0, 9, 12, 13), (0, 9, 16, 37)]) (by decide) rfl ?_
  intro p e s m args below meth c s₁ Bo9 hml hv
  obtain ⟨rfl, hsz, hP, hK, hD0, hX⟩ := hv
  have hx := Bo9.exec
  have hb := Bo9.bytes
  have hr := Bo9.returns
  have hts := fun w (h : w ∈ wT) => atoms_spec (ws := wsLW_query) Bo9.pre w (List.mem_cons_of_mem _ h)
  have hown : s.vm.findClass RLW = some m.cls := findClass_of_methodNamed Bo9.named
  have hlocks := Bo9.notSynchronized
  have htab := xe_tab Bo9 (atoms_spec (ws := wsLW_query) Bo9.pre _ List.mem_cons_self)
  subst hsz
  have hD := hD0.self (sz := s.heap.size)
  generalize hAe : va_A [(bo, .inr (5, [.ref q, .ref mk, .ref ka, .ref cs])), (cs, .inl (cV, 2, .inr (.inr (.inr (.inr gs))))), (sv, .inr (3, [.ref h, .ref lt, .long an, .int dp, .int qn])), (h, .inr (4, [.ref ra, .ref op, .int (nI v), .int lc])), (ka, .inl (cK, 2, .inr (.inr (.inr (.inr gk))))), (k, .inr (1, [.ref kb, .int num, .ref kf, .ref ks, .ref kt])), (kb, .inl (cI, 160, .inl fb))] s.heap.size = A at hD hX ⊢
  have hA : ∀ q : Nat, s.heap.size ≤ q → A q := fun q h => by rw [← hAe]; exact Or.inr h
  have hl := lv_entry ([.ref bo, .int (nI x9), .int (nI vj), .ref ou]) (n := 5) (Nat.le_of_ble_eq_true rfl)
  rw [lg_entry_eq]
  generalize (lg_sl ([.ref bo, .int (nI x9), .int (nI vj), .ref ou]) ++ List.replicate (5 - (lg_sl ([.ref bo, .int (nI x9), .int (nI vj), .ref ou])).length) Slot.unset).toArray = ls at hl ⊢
  have hl : lv_has ls 5 [(0, .ref bo), (1, .int (nI x9)), (2, .int (nI vj)), (3, .ref ou)] := hl
  refine xs_q (fun H Q hH hQ => ?_)
  have hS : va_S A s.heap H [] := by rw [hH]; exact va_S.rf
  have hP : va_P (dC, dI) vwCl [(bo, .inr (5, [.ref q, .ref mk, .ref ka, .ref cs])), (cs, .inl (cV, 2, .inr (.inr (.inr (.inr gs))))), (sv, .inr (3, [.ref h, .ref lt, .long an, .int dp, .int qn])), (h, .inr (4, [.ref ra, .ref op, .int (nI v), .int lc])), (ka, .inl (cK, 2, .inr (.inr (.inr (.inr gk))))), (k, .inr (1, [.ref kb, .int num, .ref kf, .ref ks, .ref kt])), (kb, .inl (cI, 160, .inl fb))] H := by rw [hH]; exact hP
  refine lv_aload_n hx hb dLW_query_0 rfl (lv_at hl 3 rfl) ?_
  refine lv_iconst (v := nI 0) hx hb dLW_query_1 (by decide) ?_
  refine lv_aload_n hx hb dLW_query_2 rfl (lv_at hl 0 rfl) ?_
  refine lv_iload_n hx hb dLW_query_3 rfl (lv_at hl 1 rfl) ?_
  refine lv_iload_n hx hb dLW_query_4 rfl (lv_at hl 2 rfl) ?_
  have hPc := hP.sub (ws' := [(bo, .inr (5, [.ref q, .ref mk, .ref ka, .ref cs])), (cs, .inl (cV, 2, .inr (.inr (.inr (.inr gs))))), (sv, .inr (3, [.ref h, .ref lt, .long an, .int dp, .int qn])), (h, .inr (4, [.ref ra, .ref op, .int (nI v), .int lc])), (ka, .inl (cK, 2, .inr (.inr (.inr (.inr gk))))), (k, .inr (1, [.ref kb, .int num, .ref kf, .ref ks, .ref kt])), (kb, .inl (cI, 160, .inl fb))]) [0, 1, 2, 3, 4, 5, 6] rfl
  have hDc := hD.sub (ws' := [(bo, .inr (5, [.ref q, .ref mk, .ref ka, .ref cs])), (cs, .inl (cV, 2, .inr (.inr (.inr (.inr gs))))), (sv, .inr (3, [.ref h, .ref lt, .long an, .int dp, .int qn])), (h, .inr (4, [.ref ra, .ref op, .int (nI v), .int lc])), (ka, .inl (cK, 2, .inr (.inr (.inr (.inr gk))))), (k, .inr (1, [.ref kb, .int num, .ref kf, .ref ks, .ref kt])), (kb, .inl (cI, 160, .inl fb))]) [0, 1, 2, 3, 4, 5, 6] (by decide) rfl
  have hKc := hK.sub (tys' := [(cV, .object "BlindShelf$Server"), (cI, .int), (cK, .object "BlindShelf$Key")]) [0, 1, 2] rfl
  have hFc := va_free (wc := [(bo, .inr (5, [.ref q, .ref mk, .ref ka, .ref cs])), (cs, .inl (cV, 2, .inr (.inr (.inr (.inr gs))))), (sv, .inr (3, [.ref h, .ref lt, .long an, .int dp, .int qn])), (h, .inr (4, [.ref ra, .ref op, .int (nI v), .int lc])), (ka, .inl (cK, 2, .inr (.inr (.inr (.inr gk))))), (k, .inr (1, [.ref kb, .int num, .ref kf, .ref ks, .ref kt])), (kb, .inl (cI, 160, .inl fb))]) hD hS hA [0, 1, 2, 3, 4, 5, 6] rfl
  have hXc := (hX.kept hS.2.1).narrow hFc
  refine xe_call (xe_runV (C := RBS) (As := [.int (nI x9), .int (nI vj)]) (rest := [.int (nI 0), .ref ou]) ⟨hx, hb, hml, hown, hts⟩ (c_BS_query_b l dC dI H.size bo q mk ka cs sv h lt an dp qn cV gs x9 ra op v lc k kb kf ks kt num cI cK gk fb vj hl9 hx9 hgs hgk hv hu hg) (cwV (C := RBS) 2 hts (wT_4 w_m_LW_43 w_i_BS_query w_s_BS_query w_n_BS w_c_BS_query) rfl rfl rfl (by decide +kernel) ⟨Nat.le_of_ble_eq_true rfl, Nat.le_of_ble_eq_true rfl⟩) ⟨fun a U g mk q => by obtain ⟨q0, q1, qP, qK, qD, qX⟩ := q; exact ⟨q0, q1, qP, va_K.moved (u := U) (U := U.calling g mk a) (Vm.Alike.refl U.vm) qK, qD, qX.same rfl⟩, va_recv hK hP (q0 := 0) (ci := 5) (q := (RBS, TBS, 4)) rfl rfl, fun U hU hW => ⟨rfl, by rw [hU], by rw [hU]; exact hPc, va_K.moved hW.alike hKc, hDc.weaken (fun _ _ _ _ => trivial), by rw [hU]; exact hXc.warm hW⟩⟩ rfl rfl hl.1 rfl (lv_room (Nat.le_of_ble_eq_true rfl)) dLW_query_5 ⟨Nat.le_of_ble_eq_true rfl, Nat.le_of_ble_eq_true rfl⟩) hS (fun q _ h => hFc q h) hFc (fun ce9 q9 t H1 locs ht hvm hB hz1 hk1 hS hce9 hcv9 hcl9 => ?_)
  obtain ⟨hP1, hK1, hD1⟩ := hB
  rw [ht] at hP1
  obtain ⟨hP, hD⟩ := va_join (wr := []) (w1 := [(bo, .inr (5, [.ref q, .ref mk, .ref ka, .ref cs])), (cs, .inl (cV, 2, .inr (.inr (.inr (.inr gs))))), (sv, .inr (3, [.ref h, .ref lt, .long an, .int dp, .int qn])), (h, .inr (4, [.ref ra, .ref op, .int (nI v), .int lc])), (ka, .inl (cK, 2, .inr (.inr (.inr (.inr gk))))), (k, .inr (1, [.ref kb, .int num, .ref kf, .ref ks, .ref kt])), (kb, .inl (cI, 160, .inl fb))]) hP hD [0, 1, 2, 3, 4, 5, 6] [] rfl rfl (by decide) (by decide) hk1 hFc hP1 hD1
  generalize H1 = H at hP hS hce9 ⊢
  have hP : va_P (dC, dI) vwCl [(bo, .inr (5, [.ref q, .ref mk, .ref ka, .ref cs])), (cs, .inl (cV, 2, .inr (.inr (.inr (.inr gs))))), (sv, .inr (3, [.ref h, .ref lt, .long an, .int dp, .int qn])), (h, .inr (4, [.ref ra, .ref op, .int (nI v), .int lc])), (ka, .inl (cK, 2, .inr (.inr (.inr (.inr gk))))), (k, .inr (1, [.ref kb, .int num, .ref kf, .ref ks, .ref kt])), (kb, .inl (cI, 160, .inl fb))] H := hP
  have hD : va_D A [(bo, .inr (5, [.ref q, .ref mk, .ref ka, .ref cs])), (cs, .inl (cV, 2, .inr (.inr (.inr (.inr gs))))), (sv, .inr (3, [.ref h, .ref lt, .long an, .int dp, .int qn])), (h, .inr (4, [.ref ra, .ref op, .int (nI v), .int lc])), (ka, .inl (cK, 2, .inr (.inr (.inr (.inr gk))))), (k, .inr (1, [.ref kb, .int num, .ref kf, .ref ks, .ref kt])), (kb, .inl (cI, 160, .inl fb))] := hD
  refine xe_catch (own := RLW) (name := "java/lang/IllegalStateException") hown [(⟨0, 9, 12, 13⟩ : ExceptionTableEntry)] (⟨0, 9, 16, 37⟩ : ExceptionTableEntry) [] htab (fun z hz => by obtain rfl := List.mem_singleton.mp hz; exact Or.inr ⟨by decide, xe_pass (hts _ w_k_LW_13) (xe_no hX (E := "java/lang/IllegalStateException") (N := "java/lang/IllegalArgumentException") (by decide +kernel)) hcl9⟩) (by decide) (by decide) (hts _ w_k_LW_37) (xe_word hX (by decide +kernel)) hce9 hcv9 hcl9 ?_
  refine W.eq (g2 := F0 m 16 ls [.ref q9]) rfl ?_
  refine lv_astore (lv' := [(4, .ref q9), (0, .ref bo), (1, .int (nI x9)), (2, .int (nI vj)), (3, .ref ou)]) hx hb dLW_query_16 hl (by decide) rfl (fun ls hl => ?_)
  refine lv_iconst (v := nI 2) hx hb dLW_query_18 (by decide) ?_
  have hP : va_P (dC, dI) vwCl [(bo, .inr (5, [.ref q, .ref mk, .ref ka, .ref cs])), (cs, .inl (cV, 2, .inr (.inr (.inr (.inr gs))))), (sv, .inr (3, [.ref h, .ref lt, .long an, .int dp, .int qn])), (h, .inr (4, [.ref ra, .ref op, .int (nI v), .int lc])), (ka, .inl (cK, 2, .inr (.inr (.inr (.inr gk))))), (k, .inr (1, [.ref kb, .int num, .ref kf, .ref ks, .ref kt])), (kb, .inl (cI, 160, .inl fb))] H := hP
  have hD : va_D A [(bo, .inr (5, [.ref q, .ref mk, .ref ka, .ref cs])), (cs, .inl (cV, 2, .inr (.inr (.inr (.inr gs))))), (sv, .inr (3, [.ref h, .ref lt, .long an, .int dp, .int qn])), (h, .inr (4, [.ref ra, .ref op, .int (nI v), .int lc])), (ka, .inl (cK, 2, .inr (.inr (.inr (.inr gk))))), (k, .inr (1, [.ref kb, .int num, .ref kf, .ref ks, .ref kt])), (kb, .inl (cI, 160, .inl fb))] := hD
  subst hQ
  exact W.iret (v := nI 2) hx hb hr (fun t ht hW => ⟨⟨nI 2, (), rfl, rfl, by rw [ht]; exact hP, va_K.moved hW.alike hK, hD⟩, hS.F ht⟩) hS.2.2 dLW_query_19
set_option maxHeartbeats 4000000 in
set_option maxRecDepth 100000 in
theorem c_LW_deposit_n (l : Launch) (dC : Nat → ClassId) (dI : Nat → Nat → Nat) (sz : Nat) (bo q mk ka cs : Nat) (x : Int32) (hl9 : l.stackTraces = false) (hn : bs_ii x 2 = false) : Met l yLW_deposit wsLW_deposit { frames := 8, cells := 1, slots := 6, locals := 189 } (va_Pc [.ref bo, .int x] (fun U => U.heap.size = sz ∧ va_P (dC, dI) vwCl [(bo, .inr (5, [.ref q, .ref mk, .ref ka, .ref cs]))] U.heap ∧ va_K (dC, dI) vwCl [] U ∧ va_D (fun _ => True) [(bo, .inr (5, [.ref q, .ref mk, .ref ka, .ref cs]))] ∧ xe_P (va_A [(bo, .inr (5, [.ref q, .ref mk, .ref ka, .ref cs]))] sz) U U.heap)) (va_Qi (fun (r : Int32) (_ : Unit) => r = nI 1) (fun (_ : Unit) t => va_P (dC, dI) vwCl [(bo, .inr (5, [.ref q, .ref mk, .ref ka, .ref cs]))] t.heap ∧ va_K (dC, dI) vwCl [] t ∧ va_D (va_A [(bo, .inr (5, [.ref q, .ref mk, .ref ka, .ref cs]))] sz) [(bo, .inr (5, [.ref q, .ref mk, .ref ka, .ref cs]))]) (va_A [(bo, .inr (5, [.ref q, .ref mk, .ref ka, .ref cs]))] sz)) 1 6 (va_A [(bo, .inr (5, [.ref q, .ref mk, .ref ka, .ref cs]))] sz) := by
  refine va_MetW (cc := cLW_deposit) (maxL := 3) (ret := (some .int)) (hh := [(0, 5, 8, 13), (0, 5, 11, 37)]) (by decide) rfl ?_
  intro p e s m args below meth c s₁ Bo9 hml hv
  obtain ⟨rfl, hsz, hP, hK, hD0, hX⟩ := hv
  have hx := Bo9.exec
  have hb := Bo9.bytes
  have hr := Bo9.returns
  have hts := fun w (h : w ∈ wT) => atoms_spec (ws := wsLW_deposit) Bo9.pre w (List.mem_cons_of_mem _ h)
  have hown : s.vm.findClass RLW = some m.cls := findClass_of_methodNamed Bo9.named
  have hlocks := Bo9.notSynchronized
  have htab := xe_tab Bo9 (atoms_spec (ws := wsLW_deposit) Bo9.pre _ List.mem_cons_self)
  subst hsz
  have hD := hD0.self (sz := s.heap.size)
  generalize hAe : va_A [(bo, .inr (5, [.ref q, .ref mk, .ref ka, .ref cs]))] s.heap.size = A at hD hX ⊢
  have hA : ∀ q : Nat, s.heap.size ≤ q → A q := fun q h => by rw [← hAe]; exact Or.inr h
  have hl := lv_entry ([.ref bo, .int x]) (n := 3) (Nat.le_of_ble_eq_true rfl)
  rw [lg_entry_eq]
  generalize (lg_sl ([.ref bo, .int x]) ++ List.replicate (3 - (lg_sl ([.ref bo, .int x])).length) Slot.unset).toArray = ls at hl ⊢
  have hl : lv_has ls 3 [(0, .ref bo), (1, .int x)] := hl
  refine xs_q (fun H Q hH hQ => ?_)
  have hS : va_S A s.heap H [] := by rw [hH]; exact va_S.rf
  have hP : va_P (dC, dI) vwCl [(bo, .inr (5, [.ref q, .ref mk, .ref ka, .ref cs]))] H := by rw [hH]; exact hP
  refine lv_aload_n hx hb dLW_deposit_0 rfl (lv_at hl 0 rfl) ?_
  refine lv_iload_n hx hb dLW_deposit_1 rfl (lv_at hl 1 rfl) ?_
  have hPc := hP.sub (ws' := []) [] rfl
  have hDc := hD.sub (ws' := []) [] (by decide) rfl
  have hKc := hK.sub (tys' := []) [] rfl
  have hFc := va_free (wc := []) hD hS hA [] rfl
  have hXc := (hX.kept hS.2.1).narrow hFc
  refine xe_call (xe_runV (C := RBS) (As := [.int x]) (rest := []) ⟨hx, hb, hml, hown, hts⟩ (c_BS_deposit_n l dC dI H.size bo x hl9 hn) (cwV (C := RBS) 1 hts (wT_4 w_m_LW_46 w_i_BS_deposit w_s_BS_deposit w_n_BS w_c_BS_deposit) rfl rfl rfl (by decide +kernel) ⟨Nat.le_of_ble_eq_true rfl, Nat.le_of_ble_eq_true rfl⟩) ⟨fun a U g mk q => by obtain ⟨q0, q1, qP, qK, qD, qX⟩ := q; exact ⟨q0, q1, qP, va_K.moved (u := U) (U := U.calling g mk a) (Vm.Alike.refl U.vm) qK, qD, qX.same rfl⟩, va_recv hK hP (q0 := 0) (ci := 5) (q := (RBS, TBS, 4)) rfl rfl, fun U hU hW => ⟨rfl, by rw [hU], by rw [hU]; exact hPc, va_K.moved hW.alike hKc, hDc.weaken (fun _ _ _ _ => trivial), by rw [hU]; exact hXc.warm hW⟩⟩ rfl rfl hl.1 rfl (lv_room (Nat.le_of_ble_eq_true rfl)) dLW_deposit_2 ⟨Nat.le_of_ble_eq_true rfl, Nat.le_of_ble_eq_true rfl⟩) hS (fun q _ h => hFc q h) hFc (fun ce9 q9 t H1 locs ht hvm hB hz1 hk1 hS hce9 hcv9 hcl9 => ?_)
  obtain ⟨hP1, hK1, hD1⟩ := hB
  rw [ht] at hP1
  obtain ⟨hP, hD⟩ := va_join (wr := [(bo, .inr (5, [.ref q, .ref mk, .ref ka, .ref cs]))]) (w1 := []) hP hD [] [0] rfl rfl (by decide) (by decide) hk1 hFc hP1 hD1
  generalize H1 = H at hP hS hce9 ⊢
  have hP : va_P (dC, dI) vwCl [(bo, .inr (5, [.ref q, .ref mk, .ref ka, .ref cs]))] H := hP
  have hD : va_D A [(bo, .inr (5, [.ref q, .ref mk, .ref ka, .ref cs]))] := hD
  refine xe_catch (own := RLW) (name := "java/lang/IllegalArgumentException") hown [] (⟨0, 5, 8, 13⟩ : ExceptionTableEntry) [(⟨0, 5, 11, 37⟩ : ExceptionTableEntry)] htab (fun z hz => nomatch hz) (by decide) (by decide) (hts _ w_k_LW_13) (xe_word hX (by decide +kernel)) hce9 hcv9 hcl9 ?_
  refine W.eq (g2 := F0 m 8 ls [.ref q9]) rfl ?_
  refine lv_astore_n (lv' := [(2, .ref q9), (0, .ref bo), (1, .int x)]) hx hb dLW_deposit_8 rfl hl (by decide) rfl (fun ls hl => ?_)
  refine lv_iconst (v := nI 1) hx hb dLW_deposit_9 (by decide) ?_
  have hP : va_P (dC, dI) vwCl [(bo, .inr (5, [.ref q, .ref mk, .ref ka, .ref cs]))] H := hP
  have hD : va_D A [(bo, .inr (5, [.ref q, .ref mk, .ref ka, .ref cs]))] := hD
  subst hQ
  exact W.iret (v := nI 1) hx hb hr (fun t ht hW => ⟨⟨nI 1, (), rfl, rfl, by rw [ht]; exact hP, va_K.moved hW.alike hK, hD⟩, hS.F ht⟩) hS.2.2 dLW_deposit_10
set_option maxHeartbeats 4000000 in
set_option maxRecDepth 100000 in
theorem c_LW_deposit_b (l : Launch) (dC : Nat → ClassId) (dI : Nat → Nat → Nat) (sz : Nat) (bo q mk ka cs : Nat) (k kb kf ks kt : Nat) (num : Int32) (cI : ClassId) (cK : ClassId) (gk : Nat → Option Nat) (fb : Nat → Int32) (x9 : Nat) (hl9 : l.stackTraces = false) (hx9 : x9 < 2) (hgk : gk x9 = some k) (hg : bs_gd fb 8 = false) : Met l yLW_deposit wsLW_deposit { frames := 8, cells := 1, slots := 6, locals := 189 } (va_Pc [.ref bo, .int (nI x9)] (fun U => U.heap.size = sz ∧ va_P (dC, dI) vwCl [(bo, .inr (5, [.ref q, .ref mk, .ref ka, .ref cs])), (ka, .inl (cK, 2, .inr (.inr (.inr (.inr gk))))), (k, .inr (1, [.ref kb, .int num, .ref kf, .ref ks, .ref kt])), (kb, .inl (cI, 160, .inl fb))] U.heap ∧ va_K (dC, dI) vwCl [(cI, .int), (cK, .object "BlindShelf$Key")] U ∧ va_D (fun _ => True) [(bo, .inr (5, [.ref q, .ref mk, .ref ka, .ref cs])), (ka, .inl (cK, 2, .inr (.inr (.inr (.inr gk))))), (k, .inr (1, [.ref kb, .int num, .ref kf, .ref ks, .ref kt])), (kb, .inl (cI, 160, .inl fb))] ∧ xe_P (va_A [(bo, .inr (5, [.ref q, .ref mk, .ref ka, .ref cs])), (ka, .inl (cK, 2, .inr (.inr (.inr (.inr gk))))), (k, .inr (1, [.ref kb, .int num, .ref kf, .ref ks, .ref kt])), (kb, .inl (cI, 160, .inl fb))] sz) U U.heap)) (va_Qi (fun (r : Int32) (_ : Unit) => r = nI 2) (fun (_ : Unit) t => va_P (dC, dI) vwCl [(bo, .inr (5, [.ref q, .ref mk, .ref ka, .ref cs])), (ka, .inl (cK, 2, .inr (.inr (.inr (.inr gk))))), (k, .inr (1, [.ref kb, .int num, .ref kf, .ref ks, .ref kt])), (kb, .inl (cI, 160, .inl fb))] t.heap ∧ va_K (dC, dI) vwCl [(cI, .int), (cK, .object "BlindShelf$Key")] t ∧ va_D (va_A [(bo, .inr (5, [.ref q, .ref mk, .ref ka, .ref cs])), (ka, .inl (cK, 2, .inr (.inr (.inr (.inr gk))))), (k, .inr (1, [.ref kb, .int num, .ref kf, .ref ks, .ref kt])), (kb, .inl (cI, 160, .inl fb))] sz) [(bo, .inr (5, [.ref q, .ref mk, .ref ka, .ref cs])), (ka, .inl (cK, 2, .inr (.inr (.inr (.inr gk))))), (k, .inr (1, [.ref kb, .int num, .ref kf, .ref ks, .ref kt])), (kb, .inl (cI, 160, .inl fb))]) (va_A [(bo, .inr (5, [.ref q, .ref mk, .ref ka, .ref cs])), (ka, .inl (cK, 2, .inr (.inr (.inr (.inr gk))))), (k, .inr (1, [.ref kb, .int num, .ref kf, .ref ks, .ref kt])), (kb, .inl (cI, 160, .inl fb))] sz)) 1 6 (va_A [(bo, .inr (5, [.ref q, .ref mk, .ref ka, .ref cs])), (ka, .inl (cK, 2, .inr (.inr (.inr (.inr gk))))), (k, .inr (1, [.ref kb, .int num, .ref kf, .ref ks, .ref kt])), (kb, .inl (cI, 160, .inl fb))] sz) := by
  refine va_MetW (cc := cLW_deposit) (maxL := 3) (ret := (some .int)) (hh := [(0, 5, 8, 13), (0, 5, 11, 37)]) (by decide) rfl ?_
  intro p e s m args below meth c s₁ Bo9 hml hv
  obtain ⟨rfl, hsz, hP, hK, hD0, hX⟩ := hv
  have hx := Bo9.exec
  have hb := Bo9.bytes
  have hr := Bo9.returns
  have hts := fun w (h : w ∈ wT) => atoms_spec (ws := wsLW_deposit) Bo9.pre w (List.mem_cons_of_mem _ h)
  have hown : s.vm.findClass RLW = some m.cls := findClass_of_methodNamed Bo9.named
  have hlocks := Bo9.notSynchronized
  have htab := xe_tab Bo9 (atoms_spec (ws := wsLW_deposit) Bo9.pre _ List.mem_cons_self)
  subst hsz
  have hD := hD0.self (sz := s.heap.size)
  generalize hAe : va_A [(bo, .inr (5, [.ref q, .ref mk, .ref ka, .ref cs])), (ka, .inl (cK, 2, .inr (.inr (.inr (.inr gk))))), (k, .inr (1, [.ref kb, .int num, .ref kf, .ref ks, .ref kt])), (kb, .inl (cI, 160, .inl fb))] s.heap.size = A at hD hX ⊢
  have hA : ∀ q : Nat, s.heap.size ≤ q → A q := fun q h => by rw [← hAe]; exact Or.inr h
  have hl := lv_entry ([.ref bo, .int (nI x9)]) (n := 3) (Nat.le_of_ble_eq_true rfl)
  rw [lg_entry_eq]
  generalize (lg_sl ([.ref bo, .int (nI x9)]) ++ List.replicate (3 - (lg_sl ([.ref bo, .int (nI x9)])).length) Slot.unset).toArray = ls at hl ⊢
  have hl : lv_has ls 3 [(0, .ref bo), (1, .int (nI x9))] := hl
  refine xs_q (fun H Q hH hQ => ?_)
  have hS : va_S A s.heap H [] := by rw [hH]; exact va_S.rf
  have hP : va_P (dC, dI) vwCl [(bo, .inr (5, [.ref q, .ref mk, .ref ka, .ref cs])), (ka, .inl (cK, 2, .inr (.inr (.inr (.inr gk))))), (k, .inr (1, [.ref kb, .int num, .ref kf, .ref ks, .ref kt])), (kb, .inl (cI, 160, .inl fb))] H := by rw [hH]; exact hP
  refine lv_aload_n hx hb dLW_deposit_0 rfl (lv_at hl 0 rfl) ?_
  refine lv_iload_n hx hb dLW_deposit_1 rfl (lv_at hl 1 rfl) ?_
  have hPc := hP.sub (ws' := [(bo, .inr (5, [.ref q, .ref mk, .ref ka, .ref cs])), (ka, .inl (cK, 2, .inr (.inr (.inr (.inr gk))))), (k, .inr (1, [.ref kb, .int num, .ref kf, .ref ks, .ref kt])), (kb, .inl (cI, 160, .inl fb))]) [0, 1, 2, 3] rfl
  have hDc := hD.sub (ws' := [(bo, .inr (5, [.ref q, .ref mk, .ref ka, .ref cs])), (ka, .inl (cK, 2, .inr (.inr (.inr (.inr gk))))), (k, .inr (1, [.ref kb, .int num, .ref kf, .ref ks, .ref kt])), (kb, .inl (cI, 160, .inl fb))]) [0, 1, 2, 3] (by decide) rfl
  have hKc := hK.sub (tys' := [(cI, .int), (cK, .object "BlindShelf$Key")]) [0, 1] rfl
  have hFc := va_free (wc := [(bo, .inr (5, [.ref q, .ref mk, .ref ka, .ref cs])), (ka, .inl (cK, 2, .inr (.inr (.inr (.inr gk))))), (k, .inr (1, [.ref kb, .int num, .ref kf, .ref ks, .ref kt])), (kb, .inl (cI, 160, .inl fb))]) hD hS hA [0, 1, 2, 3] rfl
  have hXc := (hX.kept hS.2.1).narrow hFc
  refine xe_call (xe_runV (C := RBS) (As := [.int (nI x9)]) (rest := []) ⟨hx, hb, hml, hown, hts⟩ (c_BS_deposit_b l dC dI H.size bo q mk ka cs k kb kf ks kt num cI cK gk fb x9 hl9 hx9 hgk hg) (cwV (C := RBS) 1 hts (wT_4 w_m_LW_46 w_i_BS_deposit w_s_BS_deposit w_n_BS w_c_BS_deposit) rfl rfl rfl (by decide +kernel) ⟨Nat.le_of_ble_eq_true rfl, Nat.le_of_ble_eq_true rfl⟩) ⟨fun a U g mk q => by obtain ⟨q0, q1, qP, qK, qD, qX⟩ := q; exact ⟨q0, q1, qP, va_K.moved (u := U) (U := U.calling g mk a) (Vm.Alike.refl U.vm) qK, qD, qX.same rfl⟩, va_recv hK hP (q0 := 0) (ci := 5) (q := (RBS, TBS, 4)) rfl rfl, fun U hU hW => ⟨rfl, by rw [hU], by rw [hU]; exact hPc, va_K.moved hW.alike hKc, hDc.weaken (fun _ _ _ _ => trivial), by rw [hU]; exact hXc.warm hW⟩⟩ rfl rfl hl.1 rfl (lv_room (Nat.le_of_ble_eq_true rfl)) dLW_deposit_2 ⟨Nat.le_of_ble_eq_true rfl, Nat.le_of_ble_eq_true rfl⟩) hS (fun q _ h => hFc q h) hFc (fun ce9 q9 t H1 locs ht hvm hB hz1 hk1 hS hce9 hcv9 hcl9 => ?_)
  obtain ⟨hP1, hK1, hD1⟩ := hB
  rw [ht] at hP1
  obtain ⟨hP, hD⟩ := va_join (wr := []) (w1 := [(bo, .inr (5, [.ref q, .ref mk, .ref ka, .ref cs])), (ka, .inl (cK, 2, .inr (.inr (.inr (.inr gk))))), (k, .inr (1, [.ref kb, .int num, .ref kf, .ref ks, .ref kt])), (kb, .inl (cI, 160, .inl fb))]) hP hD [0, 1, 2, 3] [] rfl rfl (by decide) (by decide) hk1 hFc hP1 hD1
  generalize H1 = H at hP hS hce9 ⊢
  have hP : va_P (dC, dI) vwCl [(bo, .inr (5, [.ref q, .ref mk, .ref ka, .ref cs])), (ka, .inl (cK, 2, .inr (.inr (.inr (.inr gk))))), (k, .inr (1, [.ref kb, .int num, .ref kf, .ref ks, .ref kt])), (kb, .inl (cI, 160, .inl fb))] H := hP
  have hD : va_D A [(bo, .inr (5, [.ref q, .ref mk, .ref ka, .ref cs])), (ka, .inl (cK, 2, .inr (.inr (.inr (.inr gk))))), (k, .inr (1, [.ref kb, .int num, .ref kf, .ref ks, .ref kt])), (kb, .inl (cI, 160, .inl fb))] := hD
  refine xe_catch (own := RLW) (name := "java/lang/IllegalStateException") hown [(⟨0, 5, 8, 13⟩ : ExceptionTableEntry)] (⟨0, 5, 11, 37⟩ : ExceptionTableEntry) [] htab (fun z hz => by obtain rfl := List.mem_singleton.mp hz; exact Or.inr ⟨by decide, xe_pass (hts _ w_k_LW_13) (xe_no hX (E := "java/lang/IllegalStateException") (N := "java/lang/IllegalArgumentException") (by decide +kernel)) hcl9⟩) (by decide) (by decide) (hts _ w_k_LW_37) (xe_word hX (by decide +kernel)) hce9 hcv9 hcl9 ?_
  refine W.eq (g2 := F0 m 11 ls [.ref q9]) rfl ?_
  refine lv_astore_n (lv' := [(2, .ref q9), (0, .ref bo), (1, .int (nI x9))]) hx hb dLW_deposit_11 rfl hl (by decide) rfl (fun ls hl => ?_)
  refine lv_iconst (v := nI 2) hx hb dLW_deposit_12 (by decide) ?_
  have hP : va_P (dC, dI) vwCl [(bo, .inr (5, [.ref q, .ref mk, .ref ka, .ref cs])), (ka, .inl (cK, 2, .inr (.inr (.inr (.inr gk))))), (k, .inr (1, [.ref kb, .int num, .ref kf, .ref ks, .ref kt])), (kb, .inl (cI, 160, .inl fb))] H := hP
  have hD : va_D A [(bo, .inr (5, [.ref q, .ref mk, .ref ka, .ref cs])), (ka, .inl (cK, 2, .inr (.inr (.inr (.inr gk))))), (k, .inr (1, [.ref kb, .int num, .ref kf, .ref ks, .ref kt])), (kb, .inl (cI, 160, .inl fb))] := hD
  subst hQ
  exact W.iret (v := nI 2) hx hb hr (fun t ht hW => ⟨⟨nI 2, (), rfl, rfl, by rw [ht]; exact hP, va_K.moved hW.alike hK, hD⟩, hS.F ht⟩) hS.2.2 dLW_deposit_13
set_option maxHeartbeats 4000000 in
set_option maxRecDepth 100000 in
theorem c_LW_mailbox_n1 (l : Launch) (dC : Nat → ClassId) (dI : Nat → Nat → Nat) (sz : Nat) (bo q mk ka cs : Nat) (x y : Int32) (ou : Nat) (hl9 : l.stackTraces = false) (hn : bs_ii y 256 = false) : Met l yLW_mailbox wsLW_mailbox { frames := 8, cells := 1, slots := 6, locals := 172 } (va_Pc [.ref bo, .int x, .int y, .ref ou] (fun U => U.heap.size = sz ∧ va_P (dC, dI) vwCl [(bo, .inr (5, [.ref q, .ref mk, .ref ka, .ref cs]))] U.heap ∧ va_K (dC, dI) vwCl [] U ∧ va_D (fun _ => True) [(bo, .inr (5, [.ref q, .ref mk, .ref ka, .ref cs]))] ∧ xe_P (va_A [(bo, .inr (5, [.ref q, .ref mk, .ref ka, .ref cs]))] sz) U U.heap)) (va_Qi (fun (r : Int32) (_ : Unit) => r = nI 1) (fun (_ : Unit) t => va_P (dC, dI) vwCl [(bo, .inr (5, [.ref q, .ref mk, .ref ka, .ref cs]))] t.heap ∧ va_K (dC, dI) vwCl [] t ∧ va_D (va_A [(bo, .inr (5, [.ref q, .ref mk, .ref ka, .ref cs]))] sz) [(bo, .inr (5, [.ref q, .ref mk, .ref ka, .ref cs]))]) (va_A [(bo, .inr (5, [.ref q, .ref mk, .ref ka, .ref cs]))] sz)) 1 6 (va_A [(bo, .inr (5, [.ref q, .ref mk, .ref ka, .ref cs]))] sz) := by
  refine va_MetW (cc := cLW_mailbox) (maxL := 5) (ret := (some .int)) (hh := [(0, 9, 12, 13)]) (by decide) rfl ?_
  intro p e s m args below meth c s₁ Bo9 hml hv
  obtain ⟨rfl, hsz, hP, hK, hD0, hX⟩ := hv
  have hx := Bo9.exec
  have hb := Bo9.bytes
  have hr := Bo9.returns
  have hts := fun w (h : w ∈ wT) => atoms_spec (ws := wsLW_mailbox) Bo9.pre w (List.mem_cons_of_mem _ h)
  have hown : s.vm.findClass RLW = some m.cls := findClass_of_methodNamed Bo9.named
  have hlocks := Bo9.notSynchronized
  have htab := xe_tab Bo9 (atoms_spec (ws := wsLW_mailbox) Bo9.pre _ List.mem_cons_self)
  subst hsz
  have hD := hD0.self (sz := s.heap.size)
  generalize hAe : va_A [(bo, .inr (5, [.ref q, .ref mk, .ref ka, .ref cs]))] s.heap.size = A at hD hX ⊢
  have hA : ∀ q : Nat, s.heap.size ≤ q → A q := fun q h => by rw [← hAe]; exact Or.inr h
  have hl := lv_entry ([.ref bo, .int x, .int y, .ref ou]) (n := 5) (Nat.le_of_ble_eq_true rfl)
  rw [lg_entry_eq]
  generalize (lg_sl ([.ref bo, .int x, .int y, .ref ou]) ++ List.replicate (5 - (lg_sl ([.ref bo, .int x, .int y, .ref ou])).length) Slot.unset).toArray = ls at hl ⊢
  have hl : lv_has ls 5 [(0, .ref bo), (1, .int x), (2, .int y), (3, .ref ou)] := hl
  refine xs_q (fun H Q hH hQ => ?_)
  have hS : va_S A s.heap H [] := by rw [hH]; exact va_S.rf
  have hP : va_P (dC, dI) vwCl [(bo, .inr (5, [.ref q, .ref mk, .ref ka, .ref cs]))] H := by rw [hH]; exact hP
  refine lv_aload_n hx hb dLW_mailbox_0 rfl (lv_at hl 3 rfl) ?_
  refine lv_iconst (v := nI 0) hx hb dLW_mailbox_1 (by decide) ?_
  refine lv_aload_n hx hb dLW_mailbox_2 rfl (lv_at hl 0 rfl) ?_
  refine lv_iload_n hx hb dLW_mailbox_3 rfl (lv_at hl 1 rfl) ?_
  refine lv_iload_n hx hb dLW_mailbox_4 rfl (lv_at hl 2 rfl) ?_
  have hPc := hP.sub (ws' := []) [] rfl
  have hDc := hD.sub (ws' := []) [] (by decide) rfl
  have hKc := hK.sub (tys' := []) [] rfl
  have hFc := va_free (wc := []) hD hS hA [] rfl
  have hXc := (hX.kept hS.2.1).narrow hFc
  refine xe_call (xe_runV (C := RBS) (As := [.int x, .int y]) (rest := [.int (nI 0), .ref ou]) ⟨hx, hb, hml, hown, hts⟩ (c_BS_mailbox_n1 l dC dI H.size bo x y hl9 hn) (cwV (C := RBS) 2 hts (wT_4 w_m_LW_50 w_i_BS_mailbox w_s_BS_mailbox w_n_BS w_c_BS_mailbox) rfl rfl rfl (by decide +kernel) ⟨Nat.le_of_ble_eq_true rfl, Nat.le_of_ble_eq_true rfl⟩) ⟨fun a U g mk q => by obtain ⟨q0, q1, qP, qK, qD, qX⟩ := q; exact ⟨q0, q1, qP, va_K.moved (u := U) (U := U.calling g mk a) (Vm.Alike.refl U.vm) qK, qD, qX.same rfl⟩, va_recv hK hP (q0 := 0) (ci := 5) (q := (RBS, TBS, 4)) rfl rfl, fun U hU hW => ⟨rfl, by rw [hU], by rw [hU]; exact hPc, va_K.moved hW.alike hKc, hDc.weaken (fun _ _ _ _ => trivial), by rw [hU]; exact hXc.warm hW⟩⟩ rfl rfl hl.1 rfl (lv_room (Nat.le_of_ble_eq_true rfl)) dLW_mailbox_5 ⟨Nat.le_of_ble_eq_true rfl, Nat.le_of_ble_eq_true rfl⟩) hS (fun q _ h => hFc q h) hFc (fun ce9 q9 t H1 locs ht hvm hB hz1 hk1 hS hce9 hcv9 hcl9 => ?_)
  obtain ⟨hP1, hK1, hD1⟩ := hB
  rw [ht] at hP1
  obtain ⟨hP, hD⟩ := va_join (wr := [(bo, .inr (5, [.ref q, .ref mk, .ref ka, .ref cs]))]) (w1 := []) hP hD [] [0] rfl rfl (by decide) (by decide) hk1 hFc hP1 hD1
  generalize H1 = H at hP hS hce9 ⊢
  have hP : va_P (dC, dI) vwCl [(bo, .inr (5, [.ref q, .ref mk, .ref ka, .ref cs]))] H := hP
  have hD : va_D A [(bo, .inr (5, [.ref q, .ref mk, .ref ka, .ref cs]))] := hD
  refine xe_catch (own := RLW) (name := "java/lang/IllegalArgumentException") hown [] (⟨0, 9, 12, 13⟩ : ExceptionTableEntry) [] htab (fun z hz => nomatch hz) (by decide) (by decide) (hts _ w_k_LW_13) (xe_word hX (by decide +kernel)) hce9 hcv9 hcl9 ?_
  refine W.eq (g2 := F0 m 12 ls [.ref q9]) rfl ?_
  refine lv_astore (lv' := [(4, .ref q9), (0, .ref bo), (1, .int x), (2, .int y), (3, .ref ou)]) hx hb dLW_mailbox_12 hl (by decide) rfl (fun ls hl => ?_)
  refine lv_iconst (v := nI 1) hx hb dLW_mailbox_14 (by decide) ?_
  have hP : va_P (dC, dI) vwCl [(bo, .inr (5, [.ref q, .ref mk, .ref ka, .ref cs]))] H := hP
  have hD : va_D A [(bo, .inr (5, [.ref q, .ref mk, .ref ka, .ref cs]))] := hD
  subst hQ
  exact W.iret (v := nI 1) hx hb hr (fun t ht hW => ⟨⟨nI 1, (), rfl, rfl, by rw [ht]; exact hP, va_K.moved hW.alike hK, hD⟩, hS.F ht⟩) hS.2.2 dLW_mailbox_15
set_option maxHeartbeats 4000000 in
set_option maxRecDepth 100000 in
theorem c_LW_mailbox_n2 (l : Launch) (dC : Nat → ClassId) (dI : Nat → Nat → Nat) (sz : Nat) (bo q mk ka cs : Nat) (x : Int32) (i9 : Nat) (ou : Nat) (hl9 : l.stackTraces = false) (hi9 : i9 < 256) (hx3 : ¬ x = nI 2) (hn : bs_ii x 2 = false) : Met l yLW_mailbox wsLW_mailbox { frames := 8, cells := 1, slots := 6, locals := 172 } (va_Pc [.ref bo, .int x, .int (nI i9), .ref ou] (fun U => U.heap.size = sz ∧ va_P (dC, dI) vwCl [(bo, .inr (5, [.ref q, .ref mk, .ref ka, .ref cs]))] U.heap ∧ va_K (dC, dI) vwCl [] U ∧ va_D (fun _ => True) [(bo, .inr (5, [.ref q, .ref mk, .ref ka, .ref cs]))] ∧ xe_P (va_A [(bo, .inr (5, [.ref q, .ref mk, .ref ka, .ref cs]))] sz) U U.heap)) (va_Qi (fun (r : Int32) (_ : Unit) => r = nI 1) (fun (_ : Unit) t => va_P (dC, dI) vwCl [(bo, .inr (5, [.ref q, .ref mk, .ref ka, .ref cs]))] t.heap ∧ va_K (dC, dI) vwCl [] t ∧ va_D (va_A [(bo, .inr (5, [.ref q, .ref mk, .ref ka, .ref cs]))] sz) [(bo, .inr (5, [.ref q, .ref mk, .ref ka, .ref cs]))]) (va_A [(bo, .inr (5, [.ref q, .ref mk, .ref ka, .ref cs]))] sz)) 1 6 (va_A [(bo, .inr (5, [.ref q, .ref mk, .ref ka, .ref cs]))] sz) := by
  refine va_MetW (cc := cLW_mailbox) (maxL := 5) (ret := (some .int)) (hh := [(0, 9, 12, 13)]) (by decide) rfl ?_
  intro p e s m args below meth c s₁ Bo9 hml hv
  obtain ⟨rfl, hsz, hP, hK, hD0, hX⟩ := hv
  have hx := Bo9.exec
  have hb := Bo9.bytes
  have hr := Bo9.returns
  have hts := fun w (h : w ∈ wT) => atoms_spec (ws := wsLW_mailbox) Bo9.pre w (List.mem_cons_of_mem _ h)
  have hown : s.vm.findClass RLW = some m.cls := findClass_of_methodNamed Bo9.named
  have hlocks := Bo9.notSynchronized
  have htab := xe_tab Bo9 (atoms_spec (ws := wsLW_mailbox) Bo9.pre _ List.mem_cons_self)
  subst hsz
  have hD := hD0.self (sz := s.heap.size)
  generalize hAe : va_A [(bo, .inr (5, [.ref q, .ref mk, .ref ka, .ref cs]))] s.heap.size = A at hD hX ⊢
  have hA : ∀ q : Nat, s.heap.size ≤ q → A q := fun q h => by rw [← hAe]; exact Or.inr h
  have hl := lv_entry ([.ref bo, .int x, .int (nI i9), .ref ou]) (n := 5) (Nat.le_of_ble_eq_true rfl)
  rw [lg_entry_eq]
  generalize (lg_sl ([.ref bo, .int x, .int (nI i9), .ref ou]) ++ List.replicate (5 - (lg_sl ([.ref bo, .int x, .int (nI i9), .ref ou])).length) Slot.unset).toArray = ls at hl ⊢
  have hl : lv_has ls 5 [(0, .ref bo), (1, .int x), (2, .int (nI i9)), (3, .ref ou)] := hl
  refine xs_q (fun H Q hH hQ => ?_)
  have hS : va_S A s.heap H [] := by rw [hH]; exact va_S.rf
  have hP : va_P (dC, dI) vwCl [(bo, .inr (5, [.ref q, .ref mk, .ref ka, .ref cs]))] H := by rw [hH]; exact hP
  refine lv_aload_n hx hb dLW_mailbox_0 rfl (lv_at hl 3 rfl) ?_
  refine lv_iconst (v := nI 0) hx hb dLW_mailbox_1 (by decide) ?_
  refine lv_aload_n hx hb dLW_mailbox_2 rfl (lv_at hl 0 rfl) ?_
  refine lv_iload_n hx hb dLW_mailbox_3 rfl (lv_at hl 1 rfl) ?_
  refine lv_iload_n hx hb dLW_mailbox_4 rfl (lv_at hl 2 rfl) ?_
  have hPc := hP.sub (ws' := []) [] rfl
  have hDc := hD.sub (ws' := []) [] (by decide) rfl
  have hKc := hK.sub (tys' := []) [] rfl
  have hFc := va_free (wc := []) hD hS hA [] rfl
  have hXc := (hX.kept hS.2.1).narrow hFc
  refine xe_call (xe_runV (C := RBS) (As := [.int x, .int (nI i9)]) (rest := [.int (nI 0), .ref ou]) ⟨hx, hb, hml, hown, hts⟩ (c_BS_mailbox_n2 l dC dI H.size bo x i9 hl9 hi9 hx3 hn) (cwV (C := RBS) 2 hts (wT_4 w_m_LW_50 w_i_BS_mailbox w_s_BS_mailbox w_n_BS w_c_BS_mailbox) rfl rfl rfl (by decide +kernel) ⟨Nat.le_of_ble_eq_true rfl, Nat.le_of_ble_eq_true rfl⟩) ⟨fun a U g mk q => by obtain ⟨q0, q1, qP, qK, qD, qX⟩ := q; exact ⟨q0, q1, qP, va_K.moved (u := U) (U := U.calling g mk a) (Vm.Alike.refl U.vm) qK, qD, qX.same rfl⟩, va_recv hK hP (q0 := 0) (ci := 5) (q := (RBS, TBS, 4)) rfl rfl, fun U hU hW => ⟨rfl, by rw [hU], by rw [hU]; exact hPc, va_K.moved hW.alike hKc, hDc.weaken (fun _ _ _ _ => trivial), by rw [hU]; exact hXc.warm hW⟩⟩ rfl rfl hl.1 rfl (lv_room (Nat.le_of_ble_eq_true rfl)) dLW_mailbox_5 ⟨Nat.le_of_ble_eq_true rfl, Nat.le_of_ble_eq_true rfl⟩) hS (fun q _ h => hFc q h) hFc (fun ce9 q9 t H1 locs ht hvm hB hz1 hk1 hS hce9 hcv9 hcl9 => ?_)
  obtain ⟨hP1, hK1, hD1⟩ := hB
  rw [ht] at hP1
  obtain ⟨hP, hD⟩ := va_join (wr := [(bo, .inr (5, [.ref q, .ref mk, .ref ka, .ref cs]))]) (w1 := []) hP hD [] [0] rfl rfl (by decide) (by decide) hk1 hFc hP1 hD1
  generalize H1 = H at hP hS hce9 ⊢
  have hP : va_P (dC, dI) vwCl [(bo, .inr (5, [.ref q, .ref mk, .ref ka, .ref cs]))] H := hP
  have hD : va_D A [(bo, .inr (5, [.ref q, .ref mk, .ref ka, .ref cs]))] := hD
  refine xe_catch (own := RLW) (name := "java/lang/IllegalArgumentException") hown [] (⟨0, 9, 12, 13⟩ : ExceptionTableEntry) [] htab (fun z hz => nomatch hz) (by decide) (by decide) (hts _ w_k_LW_13) (xe_word hX (by decide +kernel)) hce9 hcv9 hcl9 ?_
  refine W.eq (g2 := F0 m 12 ls [.ref q9]) rfl ?_
  refine lv_astore (lv' := [(4, .ref q9), (0, .ref bo), (1, .int x), (2, .int (nI i9)), (3, .ref ou)]) hx hb dLW_mailbox_12 hl (by decide) rfl (fun ls hl => ?_)
  refine lv_iconst (v := nI 1) hx hb dLW_mailbox_14 (by decide) ?_
  have hP : va_P (dC, dI) vwCl [(bo, .inr (5, [.ref q, .ref mk, .ref ka, .ref cs]))] H := hP
  have hD : va_D A [(bo, .inr (5, [.ref q, .ref mk, .ref ka, .ref cs]))] := hD
  subst hQ
  exact W.iret (v := nI 1) hx hb hr (fun t ht hW => ⟨⟨nI 1, (), rfl, rfl, by rw [ht]; exact hP, va_K.moved hW.alike hK, hD⟩, hS.F ht⟩) hS.2.2 dLW_mailbox_15
set_option maxHeartbeats 4000000 in
set_option maxRecDepth 100000 in
theorem c_LW_record_n1 (l : Launch) (dC : Nat → ClassId) (dI : Nat → Nat → Nat) (sz : Nat) (bo q mk ka cs : Nat) (x y w : Int32) (ou : Nat) (hl9 : l.stackTraces = false) (hn : bs_ii x 2 = false) : Met l yLW_record wsLW_record { frames := 8, cells := 1, slots := 6, locals := 175 } (va_Pc [.ref bo, .int x, .int y, .int w, .ref ou] (fun U => U.heap.size = sz ∧ va_P (dC, dI) vwCl [(bo, .inr (5, [.ref q, .ref mk, .ref ka, .ref cs]))] U.heap ∧ va_K (dC, dI) vwCl [] U ∧ va_D (fun _ => True) [(bo, .inr (5, [.ref q, .ref mk, .ref ka, .ref cs]))] ∧ xe_P (va_A [(bo, .inr (5, [.ref q, .ref mk, .ref ka, .ref cs]))] sz) U U.heap)) (va_Qi (fun (r : Int32) (_ : Unit) => r = nI 1) (fun (_ : Unit) t => va_P (dC, dI) vwCl [(bo, .inr (5, [.ref q, .ref mk, .ref ka, .ref cs]))] t.heap ∧ va_K (dC, dI) vwCl [] t ∧ va_D (va_A [(bo, .inr (5, [.ref q, .ref mk, .ref ka, .ref cs]))] sz) [(bo, .inr (5, [.ref q, .ref mk, .ref ka, .ref cs]))]) (va_A [(bo, .inr (5, [.ref q, .ref mk, .ref ka, .ref cs]))] sz)) 1 6 (va_A [(bo, .inr (5, [.ref q, .ref mk, .ref ka, .ref cs]))] sz) := by
  refine va_MetW (cc := cLW_record) (maxL := 6) (ret := (some .int)) (hh := [(0, 11, 14, 13), (0, 11, 18, 37)]) (by decide) rfl ?_
  intro p e s m args below meth c s₁ Bo9 hml hv
  obtain ⟨rfl, hsz, hP, hK, hD0, hX⟩ := hv
  have hx := Bo9.exec
  have hb := Bo9.bytes
  have hr := Bo9.returns
  have hts := fun w (h : w ∈ wT) => atoms_spec (ws := wsLW_record) Bo9.pre w (List.mem_cons_of_mem _ h)
  have hown : s.vm.findClass RLW = some m.cls := findClass_of_methodNamed Bo9.named
  have hlocks := Bo9.notSynchronized
  have htab := xe_tab Bo9 (atoms_spec (ws := wsLW_record) Bo9.pre _ List.mem_cons_self)
  subst hsz
  have hD := hD0.self (sz := s.heap.size)
  generalize hAe : va_A [(bo, .inr (5, [.ref q, .ref mk, .ref ka, .ref cs]))] s.heap.size = A at hD hX ⊢
  have hA : ∀ q : Nat, s.heap.size ≤ q → A q := fun q h => by rw [← hAe]; exact Or.inr h
  have hl := lv_entry ([.ref bo, .int x, .int y, .int w, .ref ou]) (n := 6) (Nat.le_of_ble_eq_true rfl)
  rw [lg_entry_eq]
  generalize (lg_sl ([.ref bo, .int x, .int y, .int w, .ref ou]) ++ List.replicate (6 - (lg_sl ([.ref bo, .int x, .int y, .int w, .ref ou])).length) Slot.unset).toArray = ls at hl ⊢
  have hl : lv_has ls 6 [(0, .ref bo), (1, .int x), (2, .int y), (3, .int w), (4, .ref ou)] := hl
  refine xs_q (fun H Q hH hQ => ?_)
  have hS : va_S A s.heap H [] := by rw [hH]; exact va_S.rf
  have hP : va_P (dC, dI) vwCl [(bo, .inr (5, [.ref q, .ref mk, .ref ka, .ref cs]))] H := by rw [hH]; exact hP
  refine lv_aload hx hb dLW_record_0 (lv_at hl 4 rfl) ?_
  refine lv_iconst (v := nI 0) hx hb dLW_record_2 (by decide) ?_
  refine lv_aload_n hx hb dLW_record_3 rfl (lv_at hl 0 rfl) ?_
  refine lv_iload_n hx hb dLW_record_4 rfl (lv_at hl 1 rfl) ?_
  refine lv_iload_n hx hb dLW_record_5 rfl (lv_at hl 2 rfl) ?_
  refine lv_iload_n hx hb dLW_record_6 rfl (lv_at hl 3 rfl) ?_
  have hPc := hP.sub (ws' := []) [] rfl
  have hDc := hD.sub (ws' := []) [] (by decide) rfl
  have hKc := hK.sub (tys' := []) [] rfl
  have hFc := va_free (wc := []) hD hS hA [] rfl
  have hXc := (hX.kept hS.2.1).narrow hFc
  refine xe_call (xe_runV (C := RBS) (As := [.int x, .int y, .int w]) (rest := [.int (nI 0), .ref ou]) ⟨hx, hb, hml, hown, hts⟩ (c_BS_record_n1 l dC dI H.size bo x y w hl9 hn) (cwV (C := RBS) 3 hts (wT_4 w_m_LW_53 w_i_BS_record w_s_BS_record w_n_BS w_c_BS_record) rfl rfl rfl (by decide +kernel) ⟨Nat.le_of_ble_eq_true rfl, Nat.le_of_ble_eq_true rfl⟩) ⟨fun a U g mk q => by obtain ⟨q0, q1, qP, qK, qD, qX⟩ := q; exact ⟨q0, q1, qP, va_K.moved (u := U) (U := U.calling g mk a) (Vm.Alike.refl U.vm) qK, qD, qX.same rfl⟩, va_recv hK hP (q0 := 0) (ci := 5) (q := (RBS, TBS, 4)) rfl rfl, fun U hU hW => ⟨rfl, by rw [hU], by rw [hU]; exact hPc, va_K.moved hW.alike hKc, hDc.weaken (fun _ _ _ _ => trivial), by rw [hU]; exact hXc.warm hW⟩⟩ rfl rfl hl.1 rfl (lv_room (Nat.le_of_ble_eq_true rfl)) dLW_record_7 ⟨Nat.le_of_ble_eq_true rfl, Nat.le_of_ble_eq_true rfl⟩) hS (fun q _ h => hFc q h) hFc (fun ce9 q9 t H1 locs ht hvm hB hz1 hk1 hS hce9 hcv9 hcl9 => ?_)
  obtain ⟨hP1, hK1, hD1⟩ := hB
  rw [ht] at hP1
  obtain ⟨hP, hD⟩ := va_join (wr := [(bo, .inr (5, [.ref q, .ref mk, .ref ka, .ref cs]))]) (w1 := []) hP hD [] [0] rfl rfl (by decide) (by decide) hk1 hFc hP1 hD1
  generalize H1 = H at hP hS hce9 ⊢
  have hP : va_P (dC, dI) vwCl [(bo, .inr (5, [.ref q, .ref mk, .ref ka, .ref cs]))] H := hP
  have hD : va_D A [(bo, .inr (5, [.ref q, .ref mk, .ref ka, .ref cs]))] := hD
  refine xe_catch (own := RLW) (name := "java/lang/IllegalArgumentException") hown [] (⟨0, 11, 14, 13⟩ : ExceptionTableEntry) [(⟨0, 11, 18, 37⟩ : ExceptionTableEntry)] htab (fun z hz => nomatch hz) (by decide) (by decide) (hts _ w_k_LW_13) (xe_word hX (by decide +kernel)) hce9 hcv9 hcl9 ?_
  refine W.eq (g2 := F0 m 14 ls [.ref q9]) rfl ?_
  refine lv_astore (lv' := [(5, .ref q9), (0, .ref bo), (1, .int x), (2, .int y), (3, .int w), (4, .ref ou)]) hx hb dLW_record_14 hl (by decide) rfl (fun ls hl => ?_)
  refine lv_iconst (v := nI 1) hx hb dLW_record_16 (by decide) ?_
  have hP : va_P (dC, dI) vwCl [(bo, .inr (5, [.ref q, .ref mk, .ref ka, .ref cs]))] H := hP
  have hD : va_D A [(bo, .inr (5, [.ref q, .ref mk, .ref ka, .ref cs]))] := hD
  subst hQ
  exact W.iret (v := nI 1) hx hb hr (fun t ht hW => ⟨⟨nI 1, (), rfl, rfl, by rw [ht]; exact hP, va_K.moved hW.alike hK, hD⟩, hS.F ht⟩) hS.2.2 dLW_record_17
set_option maxHeartbeats 4000000 in
set_option maxRecDepth 100000 in
theorem c_LW_record_n2 (l : Launch) (dC : Nat → ClassId) (dI : Nat → Nat → Nat) (sz : Nat) (bo q mk ka cs : Nat) (x9 : Nat) (w y : Int32) (ou : Nat) (hl9 : l.stackTraces = false) (hx9 : x9 < 2) (hn : bs_ii y 256 = false) : Met l yLW_record wsLW_record { frames := 8, cells := 1, slots := 6, locals := 175 } (va_Pc [.ref bo, .int (nI x9), .int w, .int y, .ref ou] (fun U => U.heap.size = sz ∧ va_P (dC, dI) vwCl [(bo, .inr (5, [.ref q, .ref mk, .ref ka, .ref cs]))] U.heap ∧ va_K (dC, dI) vwCl [] U ∧ va_D (fun _ => True) [(bo, .inr (5, [.ref q, .ref mk, .ref ka, .ref cs]))] ∧ xe_P (va_A [(bo, .inr (5, [.ref q, .ref mk, .ref ka, .ref cs]))] sz) U U.heap)) (va_Qi (fun (r : Int32) (_ : Unit) => r = nI 1) (fun (_ : Unit) t => va_P (dC, dI) vwCl [(bo, .inr (5, [.ref q, .ref mk, .ref ka, .ref cs]))] t.heap ∧ va_K (dC, dI) vwCl [] t ∧ va_D (va_A [(bo, .inr (5, [.ref q, .ref mk, .ref ka, .ref cs]))] sz) [(bo, .inr (5, [.ref q, .ref mk, .ref ka, .ref cs]))]) (va_A [(bo, .inr (5, [.ref q, .ref mk, .ref ka, .ref cs]))] sz)) 1 6 (va_A [(bo, .inr (5, [.ref q, .ref mk, .ref ka, .ref cs]))] sz) := by
  refine va_MetW (cc := cLW_record) (maxL := 6) (ret := (some .int)) (hh := [(0, 11, 14, 13), (0, 11, 18, 37)]) (by decide) rfl ?_
  intro p e s m args below meth c s₁ Bo9 hml hv
  obtain ⟨rfl, hsz, hP, hK, hD0, hX⟩ := hv
  have hx := Bo9.exec
  have hb := Bo9.bytes
  have hr := Bo9.returns
  have hts := fun w (h : w ∈ wT) => atoms_spec (ws := wsLW_record) Bo9.pre w (List.mem_cons_of_mem _ h)
  have hown : s.vm.findClass RLW = some m.cls := findClass_of_methodNamed Bo9.named
  have hlocks := Bo9.notSynchronized
  have htab := xe_tab Bo9 (atoms_spec (ws := wsLW_record) Bo9.pre _ List.mem_cons_self)
  subst hsz
  have hD := hD0.self (sz := s.heap.size)
  generalize hAe : va_A [(bo, .inr (5, [.ref q, .ref mk, .ref ka, .ref cs]))] s.heap.size = A at hD hX ⊢
  have hA : ∀ q : Nat, s.heap.size ≤ q → A q := fun q h => by rw [← hAe]; exact Or.inr h
  have hl := lv_entry ([.ref bo, .int (nI x9), .int w, .int y, .ref ou]) (n := 6) (Nat.le_of_ble_eq_true rfl)
  rw [lg_entry_eq]
  generalize (lg_sl ([.ref bo, .int (nI x9), .int w, .int y, .ref ou]) ++ List.replicate (6 - (lg_sl ([.ref bo, .int (nI x9), .int w, .int y, .ref ou])).length) Slot.unset).toArray = ls at hl ⊢
  have hl : lv_has ls 6 [(0, .ref bo), (1, .int (nI x9)), (2, .int w), (3, .int y), (4, .ref ou)] := hl
  refine xs_q (fun H Q hH hQ => ?_)
  have hS : va_S A s.heap H [] := by rw [hH]; exact va_S.rf
  have hP : va_P (dC, dI) vwCl [(bo, .inr (5, [.ref q, .ref mk, .ref ka, .ref cs]))] H := by rw [hH]; exact hP
  refine lv_aload hx hb dLW_record_0 (lv_at hl 4 rfl) ?_
  refine lv_iconst (v := nI 0) hx hb dLW_record_2 (by decide) ?_
  refine lv_aload_n hx hb dLW_record_3 rfl (lv_at hl 0 rfl) ?_
  refine lv_iload_n hx hb dLW_record_4 rfl (lv_at hl 1 rfl) ?_
  refine lv_iload_n hx hb dLW_record_5 rfl (lv_at hl 2 rfl) ?_
  refine lv_iload_n hx hb dLW_record_6 rfl (lv_at hl 3 rfl) ?_
  have hPc := hP.sub (ws' := []) [] rfl
  have hDc := hD.sub (ws' := []) [] (by decide) rfl
  have hKc := hK.sub (tys' := []) [] rfl
  have hFc := va_free (wc := []) hD hS hA [] rfl
  have hXc := (hX.kept hS.2.1).narrow hFc
  refine xe_call (xe_runV (C := RBS) (As := [.int (nI x9), .int w, .int y]) (rest := [.int (nI 0), .ref ou]) ⟨hx, hb, hml, hown, hts⟩ (c_BS_record_n2 l dC dI H.size bo x9 w y hl9 hx9 hn) (cwV (C := RBS) 3 hts (wT_4 w_m_LW_53 w_i_BS_record w_s_BS_record w_n_BS w_c_BS_record) rfl rfl rfl (by decide +kernel) ⟨Nat.le_of_ble_eq_true rfl, Nat.le_of_ble_eq_true rfl⟩) ⟨fun a U g mk q => by obtain ⟨q0, q1, qP, qK, qD, qX⟩ := q; exact ⟨q0, q1, qP, va_K.moved (u := U) (U := U.calling g mk a) (Vm.Alike.refl U.vm) qK, qD, qX.same rfl⟩, va_recv hK hP (q0 := 0) (ci := 5) (q := (RBS, TBS, 4)) rfl rfl, fun U hU hW => ⟨rfl, by rw [hU], by rw [hU]; exact hPc, va_K.moved hW.alike hKc, hDc.weaken (fun _ _ _ _ => trivial), by rw [hU]; exact hXc.warm hW⟩⟩ rfl rfl hl.1 rfl (lv_room (Nat.le_of_ble_eq_true rfl)) dLW_record_7 ⟨Nat.le_of_ble_eq_true rfl, Nat.le_of_ble_eq_true rfl⟩) hS (fun q _ h => hFc q h) hFc (fun ce9 q9 t H1 locs ht hvm hB hz1 hk1 hS hce9 hcv9 hcl9 => ?_)
  obtain ⟨hP1, hK1, hD1⟩ := hB
  rw [ht] at hP1
  obtain ⟨hP, hD⟩ := va_join (wr := [(bo, .inr (5, [.ref q, .ref mk, .ref ka, .ref cs]))]) (w1 := []) hP hD [] [0] rfl rfl (by decide) (by decide) hk1 hFc hP1 hD1
  generalize H1 = H at hP hS hce9 ⊢
  have hP : va_P (dC, dI) vwCl [(bo, .inr (5, [.ref q, .ref mk, .ref ka, .ref cs]))] H := hP
  have hD : va_D A [(bo, .inr (5, [.ref q, .ref mk, .ref ka, .ref cs]))] := hD
  refine xe_catch (own := RLW) (name := "java/lang/IllegalArgumentException") hown [] (⟨0, 11, 14, 13⟩ : ExceptionTableEntry) [(⟨0, 11, 18, 37⟩ : ExceptionTableEntry)] htab (fun z hz => nomatch hz) (by decide) (by decide) (hts _ w_k_LW_13) (xe_word hX (by decide +kernel)) hce9 hcv9 hcl9 ?_
  refine W.eq (g2 := F0 m 14 ls [.ref q9]) rfl ?_
  refine lv_astore (lv' := [(5, .ref q9), (0, .ref bo), (1, .int (nI x9)), (2, .int w), (3, .int y), (4, .ref ou)]) hx hb dLW_record_14 hl (by decide) rfl (fun ls hl => ?_)
  refine lv_iconst (v := nI 1) hx hb dLW_record_16 (by decide) ?_
  have hP : va_P (dC, dI) vwCl [(bo, .inr (5, [.ref q, .ref mk, .ref ka, .ref cs]))] H := hP
  have hD : va_D A [(bo, .inr (5, [.ref q, .ref mk, .ref ka, .ref cs]))] := hD
  subst hQ
  exact W.iret (v := nI 1) hx hb hr (fun t ht hW => ⟨⟨nI 1, (), rfl, rfl, by rw [ht]; exact hP, va_K.moved hW.alike hK, hD⟩, hS.F ht⟩) hS.2.2 dLW_record_17
set_option maxHeartbeats 4000000 in
set_option maxRecDepth 100000 in
theorem c_LW_record_h (l : Launch) (dC : Nat → ClassId) (dI : Nat → Nat → Nat) (sz : Nat) (bo q mk ka cs : Nat) (sv h lt : Nat) (an : Int64) (dp qn : Int32) (cV : ClassId) (gs : Nat → Option Nat) (x9 : Nat) (ra op : Nat) (v : Nat) (lc : Int32) (x : Int32) (i9 : Nat) (ou : Nat) (hl9 : l.stackTraces = false) (hx9 : x9 < 2) (hgs : gs x9 = some sv) (hi9 : i9 < 256) (hv : v < 2 ^ 29) (hu : decide (nI (v - 8) ≤ x ∧ x ≤ nI v) = false) : Met l yLW_record wsLW_record { frames := 8, cells := 1, slots := 6, locals := 175 } (va_Pc [.ref bo, .int (nI x9), .int x, .int (nI i9), .ref ou] (fun U => U.heap.size = sz ∧ va_P (dC, dI) vwCl [(bo, .inr (5, [.ref q, .ref mk, .ref ka, .ref cs])), (cs, .inl (cV, 2, .inr (.inr (.inr (.inr gs))))), (sv, .inr (3, [.ref h, .ref lt, .long an, .int dp, .int qn])), (h, .inr (4, [.ref ra, .ref op, .int (nI v), .int lc]))] U.heap ∧ va_K (dC, dI) vwCl [(cV, .object "BlindShelf$Server")] U ∧ va_D (fun _ => True) [(bo, .inr (5, [.ref q, .ref mk, .ref ka, .ref cs])), (cs, .inl (cV, 2, .inr (.inr (.inr (.inr gs))))), (sv, .inr (3, [.ref h, .ref lt, .long an, .int dp, .int qn])), (h, .inr (4, [.ref ra, .ref op, .int (nI v), .int lc]))] ∧ xe_P (va_A [(bo, .inr (5, [.ref q, .ref mk, .ref ka, .ref cs])), (cs, .inl (cV, 2, .inr (.inr (.inr (.inr gs))))), (sv, .inr (3, [.ref h, .ref lt, .long an, .int dp, .int qn])), (h, .inr (4, [.ref ra, .ref op, .int (nI v), .int lc]))] sz) U U.heap)) (va_Qi (fun (r : Int32) (_ : Unit) => r = nI 2) (fun (_ : Unit) t => va_P (dC, dI) vwCl [(bo, .inr (5, [.ref q, .ref mk, .ref ka, .ref cs])), (cs, .inl (cV, 2, .inr (.inr (.inr (.inr gs))))), (sv, .inr (3, [.ref h, .ref lt, .long an, .int dp, .int qn])), (h, .inr (4, [.ref ra, .ref op, .int (nI v), .int lc]))] t.heap ∧ va_K (dC, dI) vwCl [(cV, .object "BlindShelf$Server")] t ∧ va_D (va_A [(bo, .inr (5, [.ref q, .ref mk, .ref ka, .ref cs])), (cs, .inl (cV, 2, .inr (.inr (.inr (.inr gs))))), (sv, .inr (3, [.ref h, .ref lt, .long an, .int dp, .int qn])), (h, .inr (4, [.ref ra, .ref op, .int (nI v), .int lc]))] sz) [(bo, .inr (5, [.ref q, .ref mk, .ref ka, .ref cs])), (cs, .inl (cV, 2, .inr (.inr (.inr (.inr gs))))), (sv, .inr (3, [.ref h, .ref lt, .long an, .int dp, .int qn])), (h, .inr (4, [.ref ra, .ref op, .int (nI v), .int lc]))]) (va_A [(bo, .inr (5, [.ref q, .ref mk, .ref ka, .ref cs])), (cs, .inl (cV, 2, .inr (.inr (.inr (.inr gs))))), (sv, .inr (3, [.ref h, .ref lt, .long an, .int dp, .int qn])), (h, .inr (4, [.ref ra, .ref op, .int (nI v), .int lc]))] sz)) 1 6 (va_A [(bo, .inr (5, [.ref q, .ref mk, .ref ka, .ref cs])), (cs, .inl (cV, 2, .inr (.inr (.inr (.inr gs))))), (sv, .inr (3, [.ref h, .ref lt, .long an, .int dp, .int qn])), (h, .inr (4, [.ref ra, .ref op, .int (nI v), .int lc]))] sz) := by
  refine va_MetW (cc := cLW_record) (maxL := 6) (ret := (some .int)) (hh := [(0, 11, 14, 13), (0, 11, 18, 37)]) (by decide) rfl ?_
  intro p e s m args below meth c s₁ Bo9 hml hv
  obtain ⟨rfl, hsz, hP, hK, hD0, hX⟩ := hv
  have hx := Bo9.exec
  have hb := Bo9.bytes
  have hr := Bo9.returns
  have hts := fun w (h : w ∈ wT) => atoms_spec (ws := wsLW_record) Bo9.pre w (List.mem_cons_of_mem _ h)
  have hown : s.vm.findClass RLW = some m.cls := findClass_of_methodNamed Bo9.named
  have hlocks := Bo9.notSynchronized
  have htab := xe_tab Bo9 (atoms_spec (ws := wsLW_record) Bo9.pre _ List.mem_cons_self)
  subst hsz
  have hD := hD0.self (sz := s.heap.size)
  generalize hAe : va_A [(bo, .inr (5, [.ref q, .ref mk, .ref ka, .ref cs])), (cs, .inl (cV, 2, .inr (.inr (.inr (.inr gs))))), (sv, .inr (3, [.ref h, .ref lt, .long an, .int dp, .int qn])), (h, .inr (4, [.ref ra, .ref op, .int (nI v), .int lc]))] s.heap.size = A at hD hX ⊢
  have hA : ∀ q : Nat, s.heap.size ≤ q → A q := fun q h => by rw [← hAe]; exact Or.inr h
  have hl := lv_entry ([.ref bo, .int (nI x9), .int x, .int (nI i9), .ref ou]) (n := 6) (Nat.le_of_ble_eq_true rfl)
  rw [lg_entry_eq]
  generalize (lg_sl ([.ref bo, .int (nI x9), .int x, .int (nI i9), .ref ou]) ++ List.replicate (6 - (lg_sl ([.ref bo, .int (nI x9), .int x, .int (nI i9), .ref ou])).length) Slot.unset).toArray = ls at hl ⊢
  have hl : lv_has ls 6 [(0, .ref bo), (1, .int (nI x9)), (2, .int x), (3, .int (nI i9)), (4, .ref ou)] := hl
  refine xs_q (fun H Q hH hQ => ?_)
  have hS : va_S A s.heap H [] := by rw [hH]; exact va_S.rf
  have hP : va_P (dC, dI) vwCl [(bo, .inr (5, [.ref q, .ref mk, .ref ka, .ref cs])), (cs, .inl (cV, 2, .inr (.inr (.inr (.inr gs))))), (sv, .inr (3, [.ref h, .ref lt, .long an, .int dp, .int qn])), (h, .inr (4, [.ref ra, .ref op, .int (nI v), .int lc]))] H := by rw [hH]; exact hP
  refine lv_aload hx hb dLW_record_0 (lv_at hl 4 rfl) ?_
  refine lv_iconst (v := nI 0) hx hb dLW_record_2 (by decide) ?_
  refine lv_aload_n hx hb dLW_record_3 rfl (lv_at hl 0 rfl) ?_
  refine lv_iload_n hx hb dLW_record_4 rfl (lv_at hl 1 rfl) ?_
  refine lv_iload_n hx hb dLW_record_5 rfl (lv_at hl 2 rfl) ?_
  refine lv_iload_n hx hb dLW_record_6 rfl (lv_at hl 3 rfl) ?_
  have hPc := hP.sub (ws' := [(bo, .inr (5, [.ref q, .ref mk, .ref ka, .ref cs])), (cs, .inl (cV, 2, .inr (.inr (.inr (.inr gs))))), (sv, .inr (3, [.ref h, .ref lt, .long an, .int dp, .int qn])), (h, .inr (4, [.ref ra, .ref op, .int (nI v), .int lc]))]) [0, 1, 2, 3] rfl
  have hDc := hD.sub (ws' := [(bo, .inr (5, [.ref q, .ref mk, .ref ka, .ref cs])), (cs, .inl (cV, 2, .inr (.inr (.inr (.inr gs))))), (sv, .inr (3, [.ref h, .ref lt, .long an, .int dp, .int qn])), (h, .inr (4, [.ref ra, .ref op, .int (nI v), .int lc]))]) [0, 1, 2, 3] (by decide) rfl
  have hKc := hK.sub (tys' := [(cV, .object "BlindShelf$Server")]) [0] rfl
  have hFc := va_free (wc := [(bo, .inr (5, [.ref q, .ref mk, .ref ka, .ref cs])), (cs, .inl (cV, 2, .inr (.inr (.inr (.inr gs))))), (sv, .inr (3, [.ref h, .ref lt, .long an, .int dp, .int qn])), (h, .inr (4, [.ref ra, .ref op, .int (nI v), .int lc]))]) hD hS hA [0, 1, 2, 3] rfl
  have hXc := (hX.kept hS.2.1).narrow hFc
  refine xe_call (xe_runV (C := RBS) (As := [.int (nI x9), .int x, .int (nI i9)]) (rest := [.int (nI 0), .ref ou]) ⟨hx, hb, hml, hown, hts⟩ (c_BS_record_h l dC dI H.size bo q mk ka cs sv h lt an dp qn cV gs x9 ra op v lc x i9 hl9 hx9 hgs hi9 hv hu) (cwV (C := RBS) 3 hts (wT_4 w_m_LW_53 w_i_BS_record w_s_BS_record w_n_BS w_c_BS_record) rfl rfl rfl (by decide +kernel) ⟨Nat.le_of_ble_eq_true rfl, Nat.le_of_ble_eq_true rfl⟩) ⟨fun a U g mk q => by obtain ⟨q0, q1, qP, qK, qD, qX⟩ := q; exact ⟨q0, q1, qP, va_K.moved (u := U) (U := U.calling g mk a) (Vm.Alike.refl U.vm) qK, qD, qX.same rfl⟩, va_recv hK hP (q0 := 0) (ci := 5) (q := (RBS, TBS, 4)) rfl rfl, fun U hU hW => ⟨rfl, by rw [hU], by rw [hU]; exact hPc, va_K.moved hW.alike hKc, hDc.weaken (fun _ _ _ _ => trivial), by rw [hU]; exact hXc.warm hW⟩⟩ rfl rfl hl.1 rfl (lv_room (Nat.le_of_ble_eq_true rfl)) dLW_record_7 ⟨Nat.le_of_ble_eq_true rfl, Nat.le_of_ble_eq_true rfl⟩) hS (fun q _ h => hFc q h) hFc (fun ce9 q9 t H1 locs ht hvm hB hz1 hk1 hS hce9 hcv9 hcl9 => ?_)
  obtain ⟨hP1, hK1, hD1⟩ := hB
  rw [ht] at hP1
  obtain ⟨hP, hD⟩ := va_join (wr := []) (w1 := [(bo, .inr (5, [.ref q, .ref mk, .ref ka, .ref cs])), (cs, .inl (cV, 2, .inr (.inr (.inr (.inr gs))))), (sv, .inr (3, [.ref h, .ref lt, .long an, .int dp, .int qn])), (h, .inr (4, [.ref ra, .ref op, .int (nI v), .int lc]))]) hP hD [0, 1, 2, 3] [] rfl rfl (by decide) (by decide) hk1 hFc hP1 hD1
  generalize H1 = H at hP hS hce9 ⊢
  have hP : va_P (dC, dI) vwCl [(bo, .inr (5, [.ref q, .ref mk, .ref ka, .ref cs])), (cs, .inl (cV, 2, .inr (.inr (.inr (.inr gs))))), (sv, .inr (3, [.ref h, .ref lt, .long an, .int dp, .int qn])), (h, .inr (4, [.ref ra, .ref op, .int (nI v), .int lc]))] H := hP
  have hD : va_D A [(bo, .inr (5, [.ref q, .ref mk, .ref ka, .ref cs])), (cs, .inl (cV, 2, .inr (.inr (.inr (.inr gs))))), (sv, .inr (3, [.ref h, .ref lt, .long an, .int dp, .int qn])), (h, .inr (4, [.ref ra, .ref op, .int (nI v), .int lc]))] := hD
  refine xe_catch (own := RLW) (name := "java/lang/IllegalStateException") hown [(⟨0, 11, 14, 13⟩ : ExceptionTableEntry)] (⟨0, 11, 18, 37⟩ : ExceptionTableEntry) [] htab (fun z hz => by obtain rfl := List.mem_singleton.mp hz; exact Or.inr ⟨by decide, xe_pass (hts _ w_k_LW_13) (xe_no hX (E := "java/lang/IllegalStateException") (N := "java/lang/IllegalArgumentException") (by decide +kernel)) hcl9⟩) (by decide) (by decide) (hts _ w_k_LW_37) (xe_word hX (by decide +kernel)) hce9 hcv9 hcl9 ?_
  refine W.eq (g2 := F0 m 18 ls [.ref q9]) rfl ?_
  refine lv_astore (lv' := [(5, .ref q9), (0, .ref bo), (1, .int (nI x9)), (2, .int x), (3, .int (nI i9)), (4, .ref ou)]) hx hb dLW_record_18 hl (by decide) rfl (fun ls hl => ?_)
  refine lv_iconst (v := nI 2) hx hb dLW_record_20 (by decide) ?_
  have hP : va_P (dC, dI) vwCl [(bo, .inr (5, [.ref q, .ref mk, .ref ka, .ref cs])), (cs, .inl (cV, 2, .inr (.inr (.inr (.inr gs))))), (sv, .inr (3, [.ref h, .ref lt, .long an, .int dp, .int qn])), (h, .inr (4, [.ref ra, .ref op, .int (nI v), .int lc]))] H := hP
  have hD : va_D A [(bo, .inr (5, [.ref q, .ref mk, .ref ka, .ref cs])), (cs, .inl (cV, 2, .inr (.inr (.inr (.inr gs))))), (sv, .inr (3, [.ref h, .ref lt, .long an, .int dp, .int qn])), (h, .inr (4, [.ref ra, .ref op, .int (nI v), .int lc]))] := hD
  subst hQ
  exact W.iret (v := nI 2) hx hb hr (fun t ht hW => ⟨⟨nI 2, (), rfl, rfl, by rw [ht]; exact hP, va_K.moved hW.alike hK, hD⟩, hS.F ht⟩) hS.2.2 dLW_record_21
set_option maxHeartbeats 4000000 in
set_option maxRecDepth 100000 in
theorem c_LW_cipher_n (l : Launch) (dC : Nat → ClassId) (dI : Nat → Nat → Nat) (sz : Nat) (bo q mk ka cs : Nat) (x : Int32) (fa ga : Int64) (y : Int32) (ou : Nat) (hl9 : l.stackTraces = false) (hn : bs_ii x 2 = false) : Met l yLW_cipher wsLW_cipher { frames := 7, cells := 1, slots := 6, locals := 156 } (va_Pc [.ref bo, .int x, .long fa, .long ga, .int y, .ref ou] (fun U => U.heap.size = sz ∧ va_P (dC, dI) vwCl [(bo, .inr (5, [.ref q, .ref mk, .ref ka, .ref cs]))] U.heap ∧ va_K (dC, dI) vwCl [] U ∧ va_D (fun _ => True) [(bo, .inr (5, [.ref q, .ref mk, .ref ka, .ref cs]))] ∧ xe_P (va_A [(bo, .inr (5, [.ref q, .ref mk, .ref ka, .ref cs]))] sz) U U.heap)) (va_Qi (fun (r : Int32) (_ : Unit) => r = nI 1) (fun (_ : Unit) t => va_P (dC, dI) vwCl [(bo, .inr (5, [.ref q, .ref mk, .ref ka, .ref cs]))] t.heap ∧ va_K (dC, dI) vwCl [] t ∧ va_D (va_A [(bo, .inr (5, [.ref q, .ref mk, .ref ka, .ref cs]))] sz) [(bo, .inr (5, [.ref q, .ref mk, .ref ka, .ref cs]))]) (va_A [(bo, .inr (5, [.ref q, .ref mk, .ref ka, .ref cs]))] sz)) 1 6 (va_A [(bo, .inr (5, [.ref q, .ref mk, .ref ka, .ref cs]))] sz) := by
  refine va_MetW (cc := cLW_cipher) (maxL := 9) (ret := (some .int)) (hh := [(0, 14, 17, 13)]) (by decide) rfl ?_
  intro p e s m args below meth c s₁ Bo9 hml hv
  obtain ⟨rfl, hsz, hP, hK, hD0, hX⟩ := hv
  have hx := Bo9.exec
  have hb := Bo9.bytes
  have hr := Bo9.returns
  have hts := fun w (h : w ∈ wT) => atoms_spec (ws := wsLW_cipher) Bo9.pre w (List.mem_cons_of_mem _ h)
  have hown : s.vm.findClass RLW = some m.cls := findClass_of_methodNamed Bo9.named
  have hlocks := Bo9.notSynchronized
  have htab := xe_tab Bo9 (atoms_spec (ws := wsLW_cipher) Bo9.pre _ List.mem_cons_self)
  subst hsz
  have hD := hD0.self (sz := s.heap.size)
  generalize hAe : va_A [(bo, .inr (5, [.ref q, .ref mk, .ref ka, .ref cs]))] s.heap.size = A at hD hX ⊢
  have hA : ∀ q : Nat, s.heap.size ≤ q → A q := fun q h => by rw [← hAe]; exact Or.inr h
  have hl := lv_entry ([.ref bo, .int x, .long fa, .long ga, .int y, .ref ou]) (n := 9) (Nat.le_of_ble_eq_true rfl)
  rw [lg_entry_eq]
  generalize (lg_sl ([.ref bo, .int x, .long fa, .long ga, .int y, .ref ou]) ++ List.replicate (9 - (lg_sl ([.ref bo, .int x, .long fa, .long ga, .int y, .ref ou])).length) Slot.unset).toArray = ls at hl ⊢
  have hl : lv_has ls 9 [(0, .ref bo), (1, .int x), (2, .long fa), (4, .long ga), (6, .int y), (7, .ref ou)] := hl
  refine xs_q (fun H Q hH hQ => ?_)
  have hS : va_S A s.heap H [] := by rw [hH]; exact va_S.rf
  have hP : va_P (dC, dI) vwCl [(bo, .inr (5, [.ref q, .ref mk, .ref ka, .ref cs]))] H := by rw [hH]; exact hP
  refine lv_aload hx hb dLW_cipher_0 (lv_at hl 5 rfl) ?_
  refine lv_iconst (v := nI 0) hx hb dLW_cipher_2 (by decide) ?_
  refine lv_aload_n hx hb dLW_cipher_3 rfl (lv_at hl 0 rfl) ?_
  refine lv_iload_n hx hb dLW_cipher_4 rfl (lv_at hl 1 rfl) ?_
  refine lv_lload_n hx hb dLW_cipher_5 rfl (lv_at hl 2 rfl) ?_
  refine lv_lload hx hb dLW_cipher_6 (lv_at hl 3 rfl) ?_
  refine lv_iload hx hb dLW_cipher_8 (lv_at hl 4 rfl) ?_
  have hPc := hP.sub (ws' := []) [] rfl
  have hDc := hD.sub (ws' := []) [] (by decide) rfl
  have hKc := hK.sub (tys' := []) [] rfl
  have hFc := va_free (wc := []) hD hS hA [] rfl
  have hXc := (hX.kept hS.2.1).narrow hFc
  refine xe_call (xe_runV (C := RBS) (As := [.int x, .long fa, .long ga, .int y]) (rest := [.int (nI 0), .ref ou]) ⟨hx, hb, hml, hown, hts⟩ (c_BS_cipher_n l dC dI H.size bo x fa ga y hl9 hn) (cwV (C := RBS) 4 hts (wT_4 w_m_LW_60 w_i_BS_cipher w_s_BS_cipher w_n_BS w_c_BS_cipher) rfl rfl rfl (by decide +kernel) ⟨Nat.le_of_ble_eq_true rfl, Nat.le_of_ble_eq_true rfl⟩) ⟨fun a U g mk q => by obtain ⟨q0, q1, qP, qK, qD, qX⟩ := q; exact ⟨q0, q1, qP, va_K.moved (u := U) (U := U.calling g mk a) (Vm.Alike.refl U.vm) qK, qD, qX.same rfl⟩, va_recv hK hP (q0 := 0) (ci := 5) (q := (RBS, TBS, 4)) rfl rfl, fun U hU hW => ⟨rfl, by rw [hU], by rw [hU]; exact hPc, va_K.moved hW.alike hKc, hDc.weaken (fun _ _ _ _ => trivial), by rw [hU]; exact hXc.warm hW⟩⟩ rfl rfl hl.1 rfl (lv_room (Nat.le_of_ble_eq_true rfl)) dLW_cipher_10 ⟨Nat.le_of_ble_eq_true rfl, Nat.le_of_ble_eq_true rfl⟩) hS (fun q _ h => hFc q h) hFc (fun ce9 q9 t H1 locs ht hvm hB hz1 hk1 hS hce9 hcv9 hcl9 => ?_)
  obtain ⟨hP1, hK1, hD1⟩ := hB
  rw [ht] at hP1
  obtain ⟨hP, hD⟩ := va_join (wr := [(bo, .inr (5, [.ref q, .ref mk, .ref ka, .ref cs]))]) (w1 := []) hP hD [] [0] rfl rfl (by decide) (by decide) hk1 hFc hP1 hD1
  generalize H1 = H at hP hS hce9 ⊢
  have hP : va_P (dC, dI) vwCl [(bo, .inr (5, [.ref q, .ref mk, .ref ka, .ref cs]))] H := hP
  have hD : va_D A [(bo, .inr (5, [.ref q, .ref mk, .ref ka, .ref cs]))] := hD
  refine xe_catch (own := RLW) (name := "java/lang/IllegalArgumentException") hown [] (⟨0, 14, 17, 13⟩ : ExceptionTableEntry) [] htab (fun z hz => nomatch hz) (by decide) (by decide) (hts _ w_k_LW_13) (xe_word hX (by decide +kernel)) hce9 hcv9 hcl9 ?_
  refine W.eq (g2 := F0 m 17 ls [.ref q9]) rfl ?_
  refine lv_astore (lv' := [(8, .ref q9), (0, .ref bo), (1, .int x), (2, .long fa), (4, .long ga), (6, .int y), (7, .ref ou)]) hx hb dLW_cipher_17 hl (by decide) rfl (fun ls hl => ?_)
  refine lv_iconst (v := nI 1) hx hb dLW_cipher_19 (by decide) ?_
  have hP : va_P (dC, dI) vwCl [(bo, .inr (5, [.ref q, .ref mk, .ref ka, .ref cs]))] H := hP
  have hD : va_D A [(bo, .inr (5, [.ref q, .ref mk, .ref ka, .ref cs]))] := hD
  subst hQ
  exact W.iret (v := nI 1) hx hb hr (fun t ht hW => ⟨⟨nI 1, (), rfl, rfl, by rw [ht]; exact hP, va_K.moved hW.alike hK, hD⟩, hS.F ht⟩) hS.2.2 dLW_cipher_20
