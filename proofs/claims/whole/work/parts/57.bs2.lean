/-! BlindShelf: what is required is there -/
set_option maxHeartbeats 4000000 in
set_option maxRecDepth 100000 in
theorem c_BS_requireServer_y (l : Launch) (dC : Nat → ClassId) (dI : Nat → Nat → Nat) (sz : Nat) (k : Nat) (hk : k < 2) : Met l yBS_requireServer wsBS_requireServer { frames := 6, cells := 0, slots := 0, locals := 130 } (va_Pc [.int (nI k)] (fun U => U.heap.size = sz ∧ va_P (dC, dI) vwCl [] U.heap ∧ va_K (dC, dI) vwCl [] U ∧ va_D (fun _ => True) [])) (va_Qv (fun (_ : Unit) => True) (fun (_ : Unit) t => va_P (dC, dI) vwCl [] t.heap ∧ va_K (dC, dI) vwCl [] t ∧ va_D (va_A [] sz) []) (va_A [] sz)) 0 0 (va_A [] sz) := by
  refine Met.ofW (cc := cBS_requireServer) (maxL := 1) (ret := none) (by decide) rfl ?_
  intro p e s m args below meth c s₁ Bo9 hml hv
  obtain ⟨rfl, hsz, hP, hK, hD0⟩ := hv
  have hx := Bo9.exec
  have hb := Bo9.bytes
  have hr := Bo9.returns
  have hts := fun w (h : w ∈ wT) => atoms_spec (ws := wsBS_requireServer) Bo9.pre w (List.mem_cons_of_mem _ h)
  have hown : s.vm.findClass RBS = some m.cls := findClass_of_methodNamed Bo9.named
  have hlocks := Bo9.notSynchronized
  subst hsz
  have hD := hD0.self (sz := s.heap.size)
  generalize hAe : va_A [] s.heap.size = A at hD ⊢
  have hA : ∀ q : Nat, s.heap.size ≤ q → A q := fun q h => by rw [← hAe]; exact Or.inr h
  have hl := lv_entry ([.int (nI k)]) (n := 1) (Nat.le_of_ble_eq_true rfl)
  rw [lg_entry_eq]
  generalize (lg_sl ([.int (nI k)]) ++ List.replicate (1 - (lg_sl ([.int (nI k)])).length) Slot.unset).toArray = ls at hl ⊢
  have hl : lv_has ls 1 [(0, .int (nI k))] := hl
  refine xs_q (fun H Q hH hQ => ?_)
  have hS : va_S A s.heap H [] := by rw [hH]; exact va_S.rf
  have hP : va_P (dC, dI) vwCl [] H := by rw [hH]; exact hP
  have hs9 : bs_ii (nI k) 2 = true := bs_ii_n hk (by omega)
  refine lv_iload_n hx hb dBS_requireServer_0 rfl (lv_at hl 0 rfl) ?_
  have hPc := hP.sub (ws' := []) [] rfl
  have hDc := hD.sub (ws' := []) [] (by decide) rfl
  have hKc := hK.sub (tys' := []) [] rfl
  have hFc := va_free (wc := []) hD hS hA [] rfl
  refine va_calli (va_runS (As := [.int (nI k)]) (rest := []) ⟨hx, hb, hml, hown, hts⟩ (c_BS_isServer l dC dI H.size (nI k)) (va_cwS 1 hts (wT_3 w_m_BS_137 w_t_BS_isServer w_n_BS w_c_BS_isServer) rfl rfl rfl (by decide +kernel) ⟨Nat.le_of_ble_eq_true rfl, Nat.le_of_ble_eq_true rfl⟩) ⟨fun a U g mk q => by obtain ⟨q0, q1, qP, qK, qD⟩ := q; exact ⟨q0, q1, qP, va_K.moved (u := U) (U := U.calling g mk a) (Vm.Alike.refl U.vm) qK, qD⟩, fun U hU hW => ⟨rfl, by rw [hU], by rw [hU]; exact hPc, va_K.moved hW.alike hKc, hDc.weaken (fun _ _ _ _ => trivial)⟩⟩ rfl rfl hl.1 rfl (lv_room (Nat.le_of_ble_eq_true rfl)) dBS_requireServer_1 ⟨Nat.zero_le _, Nat.zero_le _⟩) hS (fun q _ h => hFc q h) hFc (fun r u t H1 locs ht hvm hw hB hz1 hk1 hS => ?_)
  obtain ⟨hP1, hK1, hD1⟩ := hB
  rw [ht] at hP1
  have hK1 := va_K.moved hvm.symm hK1
  have hw : r = bs_z (bs_ii (nI k) 2) := hw
  subst hw
  obtain ⟨hP, hD⟩ := va_join (wr := []) (w1 := []) hP hD [] [] rfl rfl (by decide) (by decide) hk1 hFc hP1 hD1
  generalize H1 = H at hP hS ⊢
  have hP : va_P (dC, dI) vwCl [] H := hP
  have hD : va_D A [] := hD
  refine xt_i (y := nI 1) (by rw [hs9]; rfl) ?_
  refine lv_if_ne (tgt := 17) hx hb dBS_requireServer_4 (by decide) (fun _ => ?_) (fun h => absurd h (by decide +kernel))
  have hP : va_P (dC, dI) vwCl [] H := hP
  have hD : va_D A [] := hD
  subst hQ
  exact W.vret hx hb hr (fun t ht hW => ⟨⟨(), rfl, trivial, by rw [ht]; exact hP, va_K.moved hW.alike hK, hD⟩, hS.F ht⟩) hS.2.2 dBS_requireServer_17
set_option maxHeartbeats 4000000 in
set_option maxRecDepth 100000 in
theorem c_BS_requirePlace_y (l : Launch) (dC : Nat → ClassId) (dI : Nat → Nat → Nat) (sz : Nat) (i : Nat) (hi : i < 256) : Met l yBS_requirePlace wsBS_requirePlace { frames := 6, cells := 0, slots := 0, locals := 130 } (va_Pc [.int (nI i)] (fun U => U.heap.size = sz ∧ va_P (dC, dI) vwCl [] U.heap ∧ va_K (dC, dI) vwCl [] U ∧ va_D (fun _ => True) [])) (va_Qv (fun (_ : Unit) => True) (fun (_ : Unit) t => va_P (dC, dI) vwCl [] t.heap ∧ va_K (dC, dI) vwCl [] t ∧ va_D (va_A [] sz) []) (va_A [] sz)) 0 0 (va_A [] sz) := by
  refine Met.ofW (cc := cBS_requirePlace) (maxL := 1) (ret := none) (by decide) rfl ?_
  intro p e s m args below meth c s₁ Bo9 hml hv
  obtain ⟨rfl, hsz, hP, hK, hD0⟩ := hv
  have hx := Bo9.exec
  have hb := Bo9.bytes
  have hr := Bo9.returns
  have hts := fun w (h : w ∈ wT) => atoms_spec (ws := wsBS_requirePlace) Bo9.pre w (List.mem_cons_of_mem _ h)
  have hown : s.vm.findClass RBS = some m.cls := findClass_of_methodNamed Bo9.named
  have hlocks := Bo9.notSynchronized
  subst hsz
  have hD := hD0.self (sz := s.heap.size)
  generalize hAe : va_A [] s.heap.size = A at hD ⊢
  have hA : ∀ q : Nat, s.heap.size ≤ q → A q := fun q h => by rw [← hAe]; exact Or.inr h
  have hl := lv_entry ([.int (nI i)]) (n := 1) (Nat.le_of_ble_eq_true rfl)
  rw [lg_entry_eq]
  generalize (lg_sl ([.int (nI i)]) ++ List.replicate (1 - (lg_sl ([.int (nI i)])).length) Slot.unset).toArray = ls at hl ⊢
  have hl : lv_has ls 1 [(0, .int (nI i))] := hl
  refine xs_q (fun H Q hH hQ => ?_)
  have hS : va_S A s.heap H [] := by rw [hH]; exact va_S.rf
  have hP : va_P (dC, dI) vwCl [] H := by rw [hH]; exact hP
  have hp9 : bs_ii (nI i) 256 = true := bs_ii_n hi (by omega)
  refine lv_iload_n hx hb dBS_requirePlace_0 rfl (lv_at hl 0 rfl) ?_
  have hPc := hP.sub (ws' := []) [] rfl
  have hDc := hD.sub (ws' := []) [] (by decide) rfl
  have hKc := hK.sub (tys' := []) [] rfl
  have hFc := va_free (wc := []) hD hS hA [] rfl
  refine va_calli (va_runS (As := [.int (nI i)]) (rest := []) ⟨hx, hb, hml, hown, hts⟩ (c_BS_isPlace l dC dI H.size (nI i)) (va_cwS 1 hts (wT_3 w_m_BS_163 w_t_BS_isPlace w_n_BS w_c_BS_isPlace) rfl rfl rfl (by decide +kernel) ⟨Nat.le_of_ble_eq_true rfl, Nat.le_of_ble_eq_true rfl⟩) ⟨fun a U g mk q => by obtain ⟨q0, q1, qP, qK, qD⟩ := q; exact ⟨q0, q1, qP, va_K.moved (u := U) (U := U.calling g mk a) (Vm.Alike.refl U.vm) qK, qD⟩, fun U hU hW => ⟨rfl, by rw [hU], by rw [hU]; exact hPc, va_K.moved hW.alike hKc, hDc.weaken (fun _ _ _ _ => trivial)⟩⟩ rfl rfl hl.1 rfl (lv_room (Nat.le_of_ble_eq_true rfl)) dBS_requirePlace_1 ⟨Nat.zero_le _, Nat.zero_le _⟩) hS (fun q _ h => hFc q h) hFc (fun r u t H1 locs ht hvm hw hB hz1 hk1 hS => ?_)
  obtain ⟨hP1, hK1, hD1⟩ := hB
  rw [ht] at hP1
  have hK1 := va_K.moved hvm.symm hK1
  have hw : r = bs_z (bs_ii (nI i) 256) := hw
  subst hw
  obtain ⟨hP, hD⟩ := va_join (wr := []) (w1 := []) hP hD [] [] rfl rfl (by decide) (by decide) hk1 hFc hP1 hD1
  generalize H1 = H at hP hS ⊢
  have hP : va_P (dC, dI) vwCl [] H := hP
  have hD : va_D A [] := hD
  refine xt_i (y := nI 1) (by rw [hp9]; rfl) ?_
  refine lv_if_ne (tgt := 17) hx hb dBS_requirePlace_4 (by decide) (fun _ => ?_) (fun h => absurd h (by decide +kernel))
  have hP : va_P (dC, dI) vwCl [] H := hP
  have hD : va_D A [] := hD
  subst hQ
  exact W.vret hx hb hr (fun t ht hW => ⟨⟨(), rfl, trivial, by rw [ht]; exact hP, va_K.moved hW.alike hK, hD⟩, hS.F ht⟩) hS.2.2 dBS_requirePlace_17
set_option maxHeartbeats 4000000 in
set_option maxRecDepth 100000 in
theorem c_BS_requireKeyByte_y (l : Launch) (dC : Nat → ClassId) (dI : Nat → Nat → Nat) (sz : Nat) (k i : Nat) (hk : k < 2) (hi : i < 160) : Met l yBS_requireKeyByte wsBS_requireKeyByte { frames := 6, cells := 0, slots := 0, locals := 130 } (va_Pc [.int (nI k), .int (nI i)] (fun U => U.heap.size = sz ∧ va_P (dC, dI) vwCl [] U.heap ∧ va_K (dC, dI) vwCl [] U ∧ va_D (fun _ => True) [])) (va_Qv (fun (_ : Unit) => True) (fun (_ : Unit) t => va_P (dC, dI) vwCl [] t.heap ∧ va_K (dC, dI) vwCl [] t ∧ va_D (va_A [] sz) []) (va_A [] sz)) 0 0 (va_A [] sz) := by
  refine Met.ofW (cc := cBS_requireKeyByte) (maxL := 2) (ret := none) (by decide) rfl ?_
  intro p e s m args below meth c s₁ Bo9 hml hv
  obtain ⟨rfl, hsz, hP, hK, hD0⟩ := hv
  have hx := Bo9.exec
  have hb := Bo9.bytes
  have hr := Bo9.returns
  have hts := fun w (h : w ∈ wT) => atoms_spec (ws := wsBS_requireKeyByte) Bo9.pre w (List.mem_cons_of_mem _ h)
  have hown : s.vm.findClass RBS = some m.cls := findClass_of_methodNamed Bo9.named
  have hlocks := Bo9.notSynchronized
  subst hsz
  have hD := hD0.self (sz := s.heap.size)
  generalize hAe : va_A [] s.heap.size = A at hD ⊢
  have hA : ∀ q : Nat, s.heap.size ≤ q → A q := fun q h => by rw [← hAe]; exact Or.inr h
  have hl := lv_entry ([.int (nI k), .int (nI i)]) (n := 2) (Nat.le_of_ble_eq_true rfl)
  rw [lg_entry_eq]
  generalize (lg_sl ([.int (nI k), .int (nI i)]) ++ List.replicate (2 - (lg_sl ([.int (nI k), .int (nI i)])).length) Slot.unset).toArray = ls at hl ⊢
  have hl : lv_has ls 2 [(0, .int (nI k)), (1, .int (nI i))] := hl
  refine xs_q (fun H Q hH hQ => ?_)
  have hS : va_S A s.heap H [] := by rw [hH]; exact va_S.rf
  have hP : va_P (dC, dI) vwCl [] H := by rw [hH]; exact hP
  have hs9 : bs_ii (nI k) 2 = true := bs_ii_n hk (by omega)
  refine lv_iload_n hx hb dBS_requireKeyByte_0 rfl (lv_at hl 0 rfl) ?_
  have hPc := hP.sub (ws' := []) [] rfl
  have hDc := hD.sub (ws' := []) [] (by decide) rfl
  have hKc := hK.sub (tys' := []) [] rfl
  have hFc := va_free (wc := []) hD hS hA [] rfl
  refine va_calli (va_runS (As := [.int (nI k)]) (rest := []) ⟨hx, hb, hml, hown, hts⟩ (c_BS_isKey l dC dI H.size (nI k)) (va_cwS 1 hts (wT_3 w_m_BS_168 w_t_BS_isKey w_n_BS w_c_BS_isKey) rfl rfl rfl (by decide +kernel) ⟨Nat.le_of_ble_eq_true rfl, Nat.le_of_ble_eq_true rfl⟩) ⟨fun a U g mk q => by obtain ⟨q0, q1, qP, qK, qD⟩ := q; exact ⟨q0, q1, qP, va_K.moved (u := U) (U := U.calling g mk a) (Vm.Alike.refl U.vm) qK, qD⟩, fun U hU hW => ⟨rfl, by rw [hU], by rw [hU]; exact hPc, va_K.moved hW.alike hKc, hDc.weaken (fun _ _ _ _ => trivial)⟩⟩ rfl rfl hl.1 rfl (lv_room (Nat.le_of_ble_eq_true rfl)) dBS_requireKeyByte_1 ⟨Nat.zero_le _, Nat.zero_le _⟩) hS (fun q _ h => hFc q h) hFc (fun r u t H1 locs ht hvm hw hB hz1 hk1 hS => ?_)
  obtain ⟨hP1, hK1, hD1⟩ := hB
  rw [ht] at hP1
  have hK1 := va_K.moved hvm.symm hK1
  have hw : r = bs_z (bs_ii (nI k) 2) := hw
  subst hw
  obtain ⟨hP, hD⟩ := va_join (wr := []) (w1 := []) hP hD [] [] rfl rfl (by decide) (by decide) hk1 hFc hP1 hD1
  generalize H1 = H at hP hS ⊢
  have hP : va_P (dC, dI) vwCl [] H := hP
  have hD : va_D A [] := hD
  refine xt_i (y := nI 1) (by rw [hs9]; rfl) ?_
  refine lv_if_eq (tgt := 18) hx hb dBS_requireKeyByte_4 (by decide) (fun h => absurd h (by decide +kernel)) (fun _ => ?_)
  refine lv_iload_n hx hb dBS_requireKeyByte_7 rfl (lv_at hl 1 rfl) ?_
  refine lv_if_lt (tgt := 18) hx hb dBS_requireKeyByte_8 (by decide) (fun h => absurd h (bs_ii_nl (n := 160) (bs_ii_n hi (by omega)))) (fun _ => ?_)
  refine lv_iload_n hx hb dBS_requireKeyByte_11 rfl (lv_at hl 1 rfl) ?_
  refine lv_sipush (v := nI 160) hx hb dBS_requireKeyByte_12 (by decide) ?_
  refine lv_icmp_lt (tgt := 28) hx hb dBS_requireKeyByte_15 (by decide) (fun _ => ?_) (fun h => absurd (nI_lt (by omega) (by omega)) h)
  have hP : va_P (dC, dI) vwCl [] H := hP
  have hD : va_D A [] := hD
  subst hQ
  exact W.vret hx hb hr (fun t ht hW => ⟨⟨(), rfl, trivial, by rw [ht]; exact hP, va_K.moved hW.alike hK, hD⟩, hS.F ht⟩) hS.2.2 dBS_requireKeyByte_28
set_option maxHeartbeats 4000000 in
set_option maxRecDepth 100000 in
theorem c_BS_requireKeyPlace_y (l : Launch) (dC : Nat → ClassId) (dI : Nat → Nat → Nat) (sz : Nat) (k i : Nat) (hk : k < 2) (hi : i < 256) : Met l yBS_requireKeyPlace wsBS_requireKeyPlace { frames := 6, cells := 0, slots := 0, locals := 130 } (va_Pc [.int (nI k), .int (nI i)] (fun U => U.heap.size = sz ∧ va_P (dC, dI) vwCl [] U.heap ∧ va_K (dC, dI) vwCl [] U ∧ va_D (fun _ => True) [])) (va_Qv (fun (_ : Unit) => True) (fun (_ : Unit) t => va_P (dC, dI) vwCl [] t.heap ∧ va_K (dC, dI) vwCl [] t ∧ va_D (va_A [] sz) []) (va_A [] sz)) 0 0 (va_A [] sz) := by
  refine Met.ofW (cc := cBS_requireKeyPlace) (maxL := 2) (ret := none) (by decide) rfl ?_
  intro p e s m args below meth c s₁ Bo9 hml hv
  obtain ⟨rfl, hsz, hP, hK, hD0⟩ := hv
  have hx := Bo9.exec
  have hb := Bo9.bytes
  have hr := Bo9.returns
  have hts := fun w (h : w ∈ wT) => atoms_spec (ws := wsBS_requireKeyPlace) Bo9.pre w (List.mem_cons_of_mem _ h)
  have hown : s.vm.findClass RBS = some m.cls := findClass_of_methodNamed Bo9.named
  have hlocks := Bo9.notSynchronized
  subst hsz
  have hD := hD0.self (sz := s.heap.size)
  generalize hAe : va_A [] s.heap.size = A at hD ⊢
  have hA : ∀ q : Nat, s.heap.size ≤ q → A q := fun q h => by rw [← hAe]; exact Or.inr h
  have hl := lv_entry ([.int (nI k), .int (nI i)]) (n := 2) (Nat.le_of_ble_eq_true rfl)
  rw [lg_entry_eq]
  generalize (lg_sl ([.int (nI k), .int (nI i)]) ++ List.replicate (2 - (lg_sl ([.int (nI k), .int (nI i)])).length) Slot.unset).toArray = ls at hl ⊢
  have hl : lv_has ls 2 [(0, .int (nI k)), (1, .int (nI i))] := hl
  refine xs_q (fun H Q hH hQ => ?_)
  have hS : va_S A s.heap H [] := by rw [hH]; exact va_S.rf
  have hP : va_P (dC, dI) vwCl [] H := by rw [hH]; exact hP
  have hs9 : bs_ii (nI k) 2 = true := bs_ii_n hk (by omega)
  refine lv_iload_n hx hb dBS_requireKeyPlace_0 rfl (lv_at hl 0 rfl) ?_
  have hPc := hP.sub (ws' := []) [] rfl
  have hDc := hD.sub (ws' := []) [] (by decide) rfl
  have hKc := hK.sub (tys' := []) [] rfl
  have hFc := va_free (wc := []) hD hS hA [] rfl
  refine va_calli (va_runS (As := [.int (nI k)]) (rest := []) ⟨hx, hb, hml, hown, hts⟩ (c_BS_isKey l dC dI H.size (nI k)) (va_cwS 1 hts (wT_3 w_m_BS_168 w_t_BS_isKey w_n_BS w_c_BS_isKey) rfl rfl rfl (by decide +kernel) ⟨Nat.le_of_ble_eq_true rfl, Nat.le_of_ble_eq_true rfl⟩) ⟨fun a U g mk q => by obtain ⟨q0, q1, qP, qK, qD⟩ := q; exact ⟨q0, q1, qP, va_K.moved (u := U) (U := U.calling g mk a) (Vm.Alike.refl U.vm) qK, qD⟩, fun U hU hW => ⟨rfl, by rw [hU], by rw [hU]; exact hPc, va_K.moved hW.alike hKc, hDc.weaken (fun _ _ _ _ => trivial)⟩⟩ rfl rfl hl.1 rfl (lv_room (Nat.le_of_ble_eq_true rfl)) dBS_requireKeyPlace_1 ⟨Nat.zero_le _, Nat.zero_le _⟩) hS (fun q _ h => hFc q h) hFc (fun r u t H1 locs ht hvm hw hB hz1 hk1 hS => ?_)
  obtain ⟨hP1, hK1, hD1⟩ := hB
  rw [ht] at hP1
  have hK1 := va_K.moved hvm.symm hK1
  have hw : r = bs_z (bs_ii (nI k) 2) := hw
  subst hw
  obtain ⟨hP, hD⟩ := va_join (wr := []) (w1 := []) hP hD [] [] rfl rfl (by decide) (by decide) hk1 hFc hP1 hD1
  generalize H1 = H at hP hS ⊢
  have hP : va_P (dC, dI) vwCl [] H := hP
  have hD : va_D A [] := hD
  refine xt_i (y := nI 1) (by rw [hs9]; rfl) ?_
  refine lv_if_eq (tgt := 14) hx hb dBS_requireKeyPlace_4 (by decide) (fun h => absurd h (by decide +kernel)) (fun _ => ?_)
  have hp9 : bs_ii (nI i) 256 = true := bs_ii_n hi (by omega)
  refine lv_iload_n hx hb dBS_requireKeyPlace_7 rfl (lv_at hl 1 rfl) ?_
  have hPc := hP.sub (ws' := []) [] rfl
  have hDc := hD.sub (ws' := []) [] (by decide) rfl
  have hKc := hK.sub (tys' := []) [] rfl
  have hFc := va_free (wc := []) hD hS hA [] rfl
  refine va_calli (va_runS (As := [.int (nI i)]) (rest := []) ⟨hx, hb, hml, hown, hts⟩ (c_BS_isPlace l dC dI H.size (nI i)) (va_cwS 1 hts (wT_3 w_m_BS_163 w_t_BS_isPlace w_n_BS w_c_BS_isPlace) rfl rfl rfl (by decide +kernel) ⟨Nat.le_of_ble_eq_true rfl, Nat.le_of_ble_eq_true rfl⟩) ⟨fun a U g mk q => by obtain ⟨q0, q1, qP, qK, qD⟩ := q; exact ⟨q0, q1, qP, va_K.moved (u := U) (U := U.calling g mk a) (Vm.Alike.refl U.vm) qK, qD⟩, fun U hU hW => ⟨rfl, by rw [hU], by rw [hU]; exact hPc, va_K.moved hW.alike hKc, hDc.weaken (fun _ _ _ _ => trivial)⟩⟩ rfl rfl hl.1 rfl (lv_room (Nat.le_of_ble_eq_true rfl)) dBS_requireKeyPlace_8 ⟨Nat.zero_le _, Nat.zero_le _⟩) hS (fun q _ h => hFc q h) hFc (fun r u t H1 locs ht hvm hw hB hz1 hk1 hS => ?_)
  obtain ⟨hP1, hK1, hD1⟩ := hB
  rw [ht] at hP1
  have hK1 := va_K.moved hvm.symm hK1
  have hw : r = bs_z (bs_ii (nI i) 256) := hw
  subst hw
  obtain ⟨hP, hD⟩ := va_join (wr := []) (w1 := []) hP hD [] [] rfl rfl (by decide) (by decide) hk1 hFc hP1 hD1
  generalize H1 = H at hP hS ⊢
  have hP : va_P (dC, dI) vwCl [] H := hP
  have hD : va_D A [] := hD
  refine xt_i (y := nI 1) (by rw [hp9]; rfl) ?_
  refine lv_if_ne (tgt := 24) hx hb dBS_requireKeyPlace_11 (by decide) (fun _ => ?_) (fun h => absurd h (by decide +kernel))
  have hP : va_P (dC, dI) vwCl [] H := hP
  have hD : va_D A [] := hD
  subst hQ
  exact W.vret hx hb hr (fun t ht hW => ⟨⟨(), rfl, trivial, by rw [ht]; exact hP, va_K.moved hW.alike hK, hD⟩, hS.F ht⟩) hS.2.2 dBS_requireKeyPlace_24
