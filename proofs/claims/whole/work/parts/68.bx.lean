/-! BlindShelf: what is required is not there -/
set_option maxHeartbeats 4000000 in
set_option maxRecDepth 100000 in
theorem c_BS_requireServer_n (l : Launch) (dC : Nat → ClassId) (dI : Nat → Nat → Nat) (sz : Nat) (x : Int32) (hl9 : l.stackTraces = false) (hn : bs_ii x 2 = false) : xe_Met l yBS_requireServer wsBS_requireServer { frames := 6, cells := 1, slots := 6, locals := 130 } (va_Pc [.int x] (fun U => U.heap.size = sz ∧ va_P (dC, dI) vwCl [] U.heap ∧ va_K (dC, dI) vwCl [] U ∧ va_D (fun _ => True) [] ∧ xe_P (va_A [] sz) U U.heap)) "java/lang/IllegalArgumentException" (fun st t => (va_P (dC, dI) vwCl [] t.heap ∧ va_K (dC, dI) vwCl [] t ∧ va_D (va_A [] sz) []) ∧ va_F (va_A [] sz) st t) 1 6 (va_A [] sz) := by
  refine xe_ofW (cc := cBS_requireServer) (maxL := 1) (ret := none) (by decide) rfl ?_
  intro p e s m args below meth c s₁ Bo9 hml hne hv
  obtain ⟨rfl, hsz, hP, hK, hD0, hX⟩ := hv
  have hx := Bo9.exec
  have hb := Bo9.bytes
  have hr := Bo9.returns
  have hts := fun w (h : w ∈ wT) => atoms_spec (ws := wsBS_requireServer) Bo9.pre w (List.mem_cons_of_mem _ h)
  have hown : s.vm.findClass RBS = some m.cls := findClass_of_methodNamed Bo9.named
  have hlocks := Bo9.notSynchronized
  have hno := xe_none hne
  subst hsz
  have hD := hD0.self (sz := s.heap.size)
  generalize hAe : va_A [] s.heap.size = A at hD hX ⊢
  have hA : ∀ q : Nat, s.heap.size ≤ q → A q := fun q h => by rw [← hAe]; exact Or.inr h
  have hl := lv_entry ([.int x]) (n := 1) (Nat.le_of_ble_eq_true rfl)
  rw [lg_entry_eq]
  generalize (lg_sl ([.int x]) ++ List.replicate (1 - (lg_sl ([.int x])).length) Slot.unset).toArray = ls at hl ⊢
  have hl : lv_has ls 1 [(0, .int x)] := hl
  refine xs_q (fun H Q hH hQ => ?_)
  have hS : va_S A s.heap H [] := by rw [hH]; exact va_S.rf
  have hP : va_P (dC, dI) vwCl [] H := by rw [hH]; exact hP
  refine lv_iload_n hx hb dBS_requireServer_0 rfl (lv_at hl 0 rfl) ?_
  have hPc := hP.sub (ws' := []) [] rfl
  have hDc := hD.sub (ws' := []) [] (by decide) rfl
  have hKc := hK.sub (tys' := []) [] rfl
  have hFc := va_free (wc := []) hD hS hA [] rfl
  refine va_calli (va_runS (As := [.int x]) (rest := []) ⟨hx, hb, hml, hown, hts⟩ (c_BS_isServer l dC dI H.size x) (va_cwS 1 hts (wT_3 w_m_BS_137 w_t_BS_isServer w_n_BS w_c_BS_isServer) rfl rfl rfl (by decide +kernel) ⟨Nat.le_of_ble_eq_true rfl, Nat.le_of_ble_eq_true rfl⟩) ⟨fun a U g mk q => by obtain ⟨q0, q1, qP, qK, qD⟩ := q; exact ⟨q0, q1, qP, va_K.moved (u := U) (U := U.calling g mk a) (Vm.Alike.refl U.vm) qK, qD⟩, fun U hU hW => ⟨rfl, by rw [hU], by rw [hU]; exact hPc, va_K.moved hW.alike hKc, hDc.weaken (fun _ _ _ _ => trivial)⟩⟩ rfl rfl hl.1 rfl (lv_room (Nat.le_of_ble_eq_true rfl)) dBS_requireServer_1 ⟨Nat.zero_le _, Nat.zero_le _⟩) hS (fun q _ h => hFc q h) hFc (fun r u t H1 locs ht hvm hw hB hz1 hk1 hS => ?_)
  obtain ⟨hP1, hK1, hD1⟩ := hB
  rw [ht] at hP1
  have hK1 := va_K.moved hvm.symm hK1
  have hw : r = bs_z (bs_ii x 2) := hw
  rw [hw]
  obtain ⟨hP, hD⟩ := va_join (wr := []) (w1 := []) hP hD [] [] rfl rfl (by decide) (by decide) hk1 hFc hP1 hD1
  generalize H1 = H at hP hS ⊢
  have hP : va_P (dC, dI) vwCl [] H := hP
  have hD : va_D A [] := hD
  refine xt_i (y := nI 0) (by rw [hn]; rfl) ?_
  refine lv_if_ne (tgt := 17) hx hb dBS_requireServer_4 (by decide) (fun h => absurd (by decide +kernel) h) (fun _ => ?_)
  have hP : va_P (dC, dI) vwCl [] H := hP
  have hD : va_D A [] := hD
  subst hQ
  obtain ⟨sa9, hst9⟩ := xe_str hX 1 (k := 161) (tx := "no such server") rfl
  exact xe_throw (own := RBS) (cls := "java/lang/IllegalArgumentException") (text := "no such server") (names := ["java/lang/RuntimeException", "java/lang/Exception"]) (ik := 120) (is := 161) (ic := 124) (sa := sa9) hx hb hl9 hown (by decide +kernel) (by decide +kernel) hst9 (xe_at hts hX hS xe_in_IAE) (hl.1.trans hml.symm) dBS_requireServer_7 dBS_requireServer_10 dBS_requireServer_11 dBS_requireServer_13 dBS_requireServer_16 (hno _) (Nat.le_of_ble_eq_true rfl) (Nat.le_of_ble_eq_true rfl) (Nat.le_of_ble_eq_true rfl) (Nat.le_of_ble_eq_true rfl) hlocks (fun t ha h1 h2 => ⟨⟨hP.kept (fun k q hq => h2 q.1 (hP k q hq).lt), va_K.moved ha hK, hD⟩, Nat.le_trans hS.1 h1, fun q hq hn => (h2 q (Nat.lt_of_lt_of_le hq hS.1)).trans (hS.2.1 q hq hn)⟩) hS.2.2 (Nat.le_of_ble_eq_true rfl) (Nat.le_of_ble_eq_true rfl)
set_option maxHeartbeats 4000000 in
set_option maxRecDepth 100000 in
theorem c_BS_requirePlace_n (l : Launch) (dC : Nat → ClassId) (dI : Nat → Nat → Nat) (sz : Nat) (y : Int32) (hl9 : l.stackTraces = false) (hn : bs_ii y 256 = false) : xe_Met l yBS_requirePlace wsBS_requirePlace { frames := 6, cells := 1, slots := 6, locals := 130 } (va_Pc [.int y] (fun U => U.heap.size = sz ∧ va_P (dC, dI) vwCl [] U.heap ∧ va_K (dC, dI) vwCl [] U ∧ va_D (fun _ => True) [] ∧ xe_P (va_A [] sz) U U.heap)) "java/lang/IllegalArgumentException" (fun st t => (va_P (dC, dI) vwCl [] t.heap ∧ va_K (dC, dI) vwCl [] t ∧ va_D (va_A [] sz) []) ∧ va_F (va_A [] sz) st t) 1 6 (va_A [] sz) := by
  refine xe_ofW (cc := cBS_requirePlace) (maxL := 1) (ret := none) (by decide) rfl ?_
  intro p e s m args below meth c s₁ Bo9 hml hne hv
  obtain ⟨rfl, hsz, hP, hK, hD0, hX⟩ := hv
  have hx := Bo9.exec
  have hb := Bo9.bytes
  have hr := Bo9.returns
  have hts := fun w (h : w ∈ wT) => atoms_spec (ws := wsBS_requirePlace) Bo9.pre w (List.mem_cons_of_mem _ h)
  have hown : s.vm.findClass RBS = some m.cls := findClass_of_methodNamed Bo9.named
  have hlocks := Bo9.notSynchronized
  have hno := xe_none hne
  subst hsz
  have hD := hD0.self (sz := s.heap.size)
  generalize hAe : va_A [] s.heap.size = A at hD hX ⊢
  have hA : ∀ q : Nat, s.heap.size ≤ q → A q := fun q h => by rw [← hAe]; exact Or.inr h
  have hl := lv_entry ([.int y]) (n := 1) (Nat.le_of_ble_eq_true rfl)
  rw [lg_entry_eq]
  generalize (lg_sl ([.int y]) ++ List.replicate (1 - (lg_sl ([.int y])).length) Slot.unset).toArray = ls at hl ⊢
  have hl : lv_has ls 1 [(0, .int y)] := hl
  refine xs_q (fun H Q hH hQ => ?_)
  have hS : va_S A s.heap H [] := by rw [hH]; exact va_S.rf
  have hP : va_P (dC, dI) vwCl [] H := by rw [hH]; exact hP
  refine lv_iload_n hx hb dBS_requirePlace_0 rfl (lv_at hl 0 rfl) ?_
  have hPc := hP.sub (ws' := []) [] rfl
  have hDc := hD.sub (ws' := []) [] (by decide) rfl
  have hKc := hK.sub (tys' := []) [] rfl
  have hFc := va_free (wc := []) hD hS hA [] rfl
  refine va_calli (va_runS (As := [.int y]) (rest := []) ⟨hx, hb, hml, hown, hts⟩ (c_BS_isPlace l dC dI H.size y) (va_cwS 1 hts (wT_3 w_m_BS_163 w_t_BS_isPlace w_n_BS w_c_BS_isPlace) rfl rfl rfl (by decide +kernel) ⟨Nat.le_of_ble_eq_true rfl, Nat.le_of_ble_eq_true rfl⟩) ⟨fun a U g mk q => by obtain ⟨q0, q1, qP, qK, qD⟩ := q; exact ⟨q0, q1, qP, va_K.moved (u := U) (U := U.calling g mk a) (Vm.Alike.refl U.vm) qK, qD⟩, fun U hU hW => ⟨rfl, by rw [hU], by rw [hU]; exact hPc, va_K.moved hW.alike hKc, hDc.weaken (fun _ _ _ _ => trivial)⟩⟩ rfl rfl hl.1 rfl (lv_room (Nat.le_of_ble_eq_true rfl)) dBS_requirePlace_1 ⟨Nat.zero_le _, Nat.zero_le _⟩) hS (fun q _ h => hFc q h) hFc (fun r u t H1 locs ht hvm hw hB hz1 hk1 hS => ?_)
  obtain ⟨hP1, hK1, hD1⟩ := hB
  rw [ht] at hP1
  have hK1 := va_K.moved hvm.symm hK1
  have hw : r = bs_z (bs_ii y 256) := hw
  rw [hw]
  obtain ⟨hP, hD⟩ := va_join (wr := []) (w1 := []) hP hD [] [] rfl rfl (by decide) (by decide) hk1 hFc hP1 hD1
  generalize H1 = H at hP hS ⊢
  have hP : va_P (dC, dI) vwCl [] H := hP
  have hD : va_D A [] := hD
  refine xt_i (y := nI 0) (by rw [hn]; rfl) ?_
  refine lv_if_ne (tgt := 17) hx hb dBS_requirePlace_4 (by decide) (fun h => absurd (by decide +kernel) h) (fun _ => ?_)
  have hP : va_P (dC, dI) vwCl [] H := hP
  have hD : va_D A [] := hD
  subst hQ
  obtain ⟨sa9, hst9⟩ := xe_str hX 2 (k := 166) (tx := "no such place") rfl
  exact xe_throw (own := RBS) (cls := "java/lang/IllegalArgumentException") (text := "no such place") (names := ["java/lang/RuntimeException", "java/lang/Exception"]) (ik := 120) (is := 166) (ic := 124) (sa := sa9) hx hb hl9 hown (by decide +kernel) (by decide +kernel) hst9 (xe_at hts hX hS xe_in_IAE) (hl.1.trans hml.symm) dBS_requirePlace_7 dBS_requirePlace_10 dBS_requirePlace_11 dBS_requirePlace_13 dBS_requirePlace_16 (hno _) (Nat.le_of_ble_eq_true rfl) (Nat.le_of_ble_eq_true rfl) (Nat.le_of_ble_eq_true rfl) (Nat.le_of_ble_eq_true rfl) hlocks (fun t ha h1 h2 => ⟨⟨hP.kept (fun k q hq => h2 q.1 (hP k q hq).lt), va_K.moved ha hK, hD⟩, Nat.le_trans hS.1 h1, fun q hq hn => (h2 q (Nat.lt_of_lt_of_le hq hS.1)).trans (hS.2.1 q hq hn)⟩) hS.2.2 (Nat.le_of_ble_eq_true rfl) (Nat.le_of_ble_eq_true rfl)
set_option maxHeartbeats 4000000 in
set_option maxRecDepth 100000 in
theorem c_BS_requireKeyByte_n (l : Launch) (dC : Nat → ClassId) (dI : Nat → Nat → Nat) (sz : Nat) (x y : Int32) (hl9 : l.stackTraces = false) (hn : (bs_ii x 2 && bs_ii y 160) = false) : xe_Met l yBS_requireKeyByte wsBS_requireKeyByte { frames := 6, cells := 1, slots := 6, locals := 130 } (va_Pc [.int x, .int y] (fun U => U.heap.size = sz ∧ va_P (dC, dI) vwCl [] U.heap ∧ va_K (dC, dI) vwCl [] U ∧ va_D (fun _ => True) [] ∧ xe_P (va_A [] sz) U U.heap)) "java/lang/IndexOutOfBoundsException" (fun st t => (va_P (dC, dI) vwCl [] t.heap ∧ va_K (dC, dI) vwCl [] t ∧ va_D (va_A [] sz) []) ∧ va_F (va_A [] sz) st t) 1 6 (va_A [] sz) := by
  refine xe_ofW (cc := cBS_requireKeyByte) (maxL := 2) (ret := none) (by decide) rfl ?_
  intro p e s m args below meth c s₁ Bo9 hml hne hv
  obtain ⟨rfl, hsz, hP, hK, hD0, hX⟩ := hv
  have hx := Bo9.exec
  have hb := Bo9.bytes
  have hr := Bo9.returns
  have hts := fun w (h : w ∈ wT) => atoms_spec (ws := wsBS_requireKeyByte) Bo9.pre w (List.mem_cons_of_mem _ h)
  have hown : s.vm.findClass RBS = some m.cls := findClass_of_methodNamed Bo9.named
  have hlocks := Bo9.notSynchronized
  have hno := xe_none hne
  subst hsz
  have hD := hD0.self (sz := s.heap.size)
  generalize hAe : va_A [] s.heap.size = A at hD hX ⊢
  have hA : ∀ q : Nat, s.heap.size ≤ q → A q := fun q h => by rw [← hAe]; exact Or.inr h
  have hl := lv_entry ([.int x, .int y]) (n := 2) (Nat.le_of_ble_eq_true rfl)
  rw [lg_entry_eq]
  generalize (lg_sl ([.int x, .int y]) ++ List.replicate (2 - (lg_sl ([.int x, .int y])).length) Slot.unset).toArray = ls at hl ⊢
  have hl : lv_has ls 2 [(0, .int x), (1, .int y)] := hl
  refine xs_q (fun H Q hH hQ => ?_)
  have hS : va_S A s.heap H [] := by rw [hH]; exact va_S.rf
  have hP : va_P (dC, dI) vwCl [] H := by rw [hH]; exact hP
  refine lv_iload_n hx hb dBS_requireKeyByte_0 rfl (lv_at hl 0 rfl) ?_
  have hPc := hP.sub (ws' := []) [] rfl
  have hDc := hD.sub (ws' := []) [] (by decide) rfl
  have hKc := hK.sub (tys' := []) [] rfl
  have hFc := va_free (wc := []) hD hS hA [] rfl
  refine va_calli (va_runS (As := [.int x]) (rest := []) ⟨hx, hb, hml, hown, hts⟩ (c_BS_isKey l dC dI H.size x) (va_cwS 1 hts (wT_3 w_m_BS_168 w_t_BS_isKey w_n_BS w_c_BS_isKey) rfl rfl rfl (by decide +kernel) ⟨Nat.le_of_ble_eq_true rfl, Nat.le_of_ble_eq_true rfl⟩) ⟨fun a U g mk q => by obtain ⟨q0, q1, qP, qK, qD⟩ := q; exact ⟨q0, q1, qP, va_K.moved (u := U) (U := U.calling g mk a) (Vm.Alike.refl U.vm) qK, qD⟩, fun U hU hW => ⟨rfl, by rw [hU], by rw [hU]; exact hPc, va_K.moved hW.alike hKc, hDc.weaken (fun _ _ _ _ => trivial)⟩⟩ rfl rfl hl.1 rfl (lv_room (Nat.le_of_ble_eq_true rfl)) dBS_requireKeyByte_1 ⟨Nat.zero_le _, Nat.zero_le _⟩) hS (fun q _ h => hFc q h) hFc (fun r u t H1 locs ht hvm hw hB hz1 hk1 hS => ?_)
  obtain ⟨hP1, hK1, hD1⟩ := hB
  rw [ht] at hP1
  have hK1 := va_K.moved hvm.symm hK1
  have hw : r = bs_z (bs_ii x 2) := hw
  rw [hw]
  obtain ⟨hP, hD⟩ := va_join (wr := []) (w1 := []) hP hD [] [] rfl rfl (by decide) (by decide) hk1 hFc hP1 hD1
  generalize H1 = H at hP hS ⊢
  have hP : va_P (dC, dI) vwCl [] H := hP
  have hD : va_D A [] := hD
  refine lv_if_eq (tgt := 18) hx hb dBS_requireKeyByte_4 (by decide) (fun hc => ?_) (fun hc => ?_)
  · have hP : va_P (dC, dI) vwCl [] H := hP
    have hD : va_D A [] := hD
    subst hQ
    obtain ⟨sa9, hst9⟩ := xe_str hX 3 (k := 173) (tx := "no such key or byte") rfl
    exact xe_throw (own := RBS) (cls := "java/lang/IndexOutOfBoundsException") (text := "no such key or byte") (names := ["java/lang/RuntimeException", "java/lang/Exception"]) (ik := 171) (is := 173) (ic := 175) (sa := sa9) hx hb hl9 hown (by decide +kernel) (by decide +kernel) hst9 (xe_at hts hX hS xe_in_IOB) (hl.1.trans hml.symm) dBS_requireKeyByte_18 dBS_requireKeyByte_21 dBS_requireKeyByte_22 dBS_requireKeyByte_24 dBS_requireKeyByte_27 (hno _) (Nat.le_of_ble_eq_true rfl) (Nat.le_of_ble_eq_true rfl) (Nat.le_of_ble_eq_true rfl) (Nat.le_of_ble_eq_true rfl) hlocks (fun t ha h1 h2 => ⟨⟨hP.kept (fun k q hq => h2 q.1 (hP k q hq).lt), va_K.moved ha hK, hD⟩, Nat.le_trans hS.1 h1, fun q hq hn => (h2 q (Nat.lt_of_lt_of_le hq hS.1)).trans (hS.2.1 q hq hn)⟩) hS.2.2 (Nat.le_of_ble_eq_true rfl) (Nat.le_of_ble_eq_true rfl)
  · have h2 : bs_ii x 2 = true := bs_z_1 hc
    rw [h2, Bool.true_and] at hn
    refine lv_iload_n hx hb dBS_requireKeyByte_7 rfl (lv_at hl 1 rfl) ?_
    refine lv_if_lt (tgt := 18) hx hb dBS_requireKeyByte_8 (by decide) (fun hc2 => ?_) (fun hc2 => ?_)
    · have hP : va_P (dC, dI) vwCl [] H := hP
      have hD : va_D A [] := hD
      subst hQ
      obtain ⟨sa9, hst9⟩ := xe_str hX 3 (k := 173) (tx := "no such key or byte") rfl
      exact xe_throw (own := RBS) (cls := "java/lang/IndexOutOfBoundsException") (text := "no such key or byte") (names := ["java/lang/RuntimeException", "java/lang/Exception"]) (ik := 171) (is := 173) (ic := 175) (sa := sa9) hx hb hl9 hown (by decide +kernel) (by decide +kernel) hst9 (xe_at hts hX hS xe_in_IOB) (hl.1.trans hml.symm) dBS_requireKeyByte_18 dBS_requireKeyByte_21 dBS_requireKeyByte_22 dBS_requireKeyByte_24 dBS_requireKeyByte_27 (hno _) (Nat.le_of_ble_eq_true rfl) (Nat.le_of_ble_eq_true rfl) (Nat.le_of_ble_eq_true rfl) (Nat.le_of_ble_eq_true rfl) hlocks (fun t ha h1 h2 => ⟨⟨hP.kept (fun k q hq => h2 q.1 (hP k q hq).lt), va_K.moved ha hK, hD⟩, Nat.le_trans hS.1 h1, fun q hq hn => (h2 q (Nat.lt_of_lt_of_le hq hS.1)).trans (hS.2.1 q hq hn)⟩) hS.2.2 (Nat.le_of_ble_eq_true rfl) (Nat.le_of_ble_eq_true rfl)
    · refine lv_iload_n hx hb dBS_requireKeyByte_11 rfl (lv_at hl 1 rfl) ?_
      refine lv_sipush (v := nI 160) hx hb dBS_requireKeyByte_12 (by decide) ?_
      refine lv_icmp_lt (tgt := 28) hx hb dBS_requireKeyByte_15 (by decide) (fun h => absurd h (fun q => absurd (bs_ii_y (n := 160) (by decide) hc2 (Int32.not_le.mpr q)) (by rw [hn]; decide))) (fun _ => ?_)
      have hP : va_P (dC, dI) vwCl [] H := hP
      have hD : va_D A [] := hD
      subst hQ
      obtain ⟨sa9, hst9⟩ := xe_str hX 3 (k := 173) (tx := "no such key or byte") rfl
      exact xe_throw (own := RBS) (cls := "java/lang/IndexOutOfBoundsException") (text := "no such key or byte") (names := ["java/lang/RuntimeException", "java/lang/Exception"]) (ik := 171) (is := 173) (ic := 175) (sa := sa9) hx hb hl9 hown (by decide +kernel) (by decide +kernel) hst9 (xe_at hts hX hS xe_in_IOB) (hl.1.trans hml.symm) dBS_requireKeyByte_18 dBS_requireKeyByte_21 dBS_requireKeyByte_22 dBS_requireKeyByte_24 dBS_requireKeyByte_27 (hno _) (Nat.le_of_ble_eq_true rfl) (Nat.le_of_ble_eq_true rfl) (Nat.le_of_ble_eq_true rfl) (Nat.le_of_ble_eq_true rfl) hlocks (fun t ha h1 h2 => ⟨⟨hP.kept (fun k q hq => h2 q.1 (hP k q hq).lt), va_K.moved ha hK, hD⟩, Nat.le_trans hS.1 h1, fun q hq hn => (h2 q (Nat.lt_of_lt_of_le hq hS.1)).trans (hS.2.1 q hq hn)⟩) hS.2.2 (Nat.le_of_ble_eq_true rfl) (Nat.le_of_ble_eq_true rfl)
set_option maxHeartbeats 4000000 in
set_option maxRecDepth 100000 in
theorem c_BS_requireKeyPlace_n (l : Launch) (dC : Nat → ClassId) (dI : Nat → Nat → Nat) (sz : Nat) (x y : Int32) (hl9 : l.stackTraces = false) (hn : (bs_ii x 2 && bs_ii y 256) = false) : xe_Met l yBS_requireKeyPlace wsBS_requireKeyPlace { frames := 6, cells := 1, slots := 6, locals := 130 } (va_Pc [.int x, .int y] (fun U => U.heap.size = sz ∧ va_P (dC, dI) vwCl [] U.heap ∧ va_K (dC, dI) vwCl [] U ∧ va_D (fun _ => True) [] ∧ xe_P (va_A [] sz) U U.heap)) "java/lang/IndexOutOfBoundsException" (fun st t => (va_P (dC, dI) vwCl [] t.heap ∧ va_K (dC, dI) vwCl [] t ∧ va_D (va_A [] sz) []) ∧ va_F (va_A [] sz) st t) 1 6 (va_A [] sz) := by
  refine xe_ofW (cc := cBS_requireKeyPlace) (maxL := 2) (ret := none) (by decide) rfl ?_
  intro p e s m args below meth c s₁ Bo9 hml hne hv
  obtain ⟨rfl, hsz, hP, hK, hD0, hX⟩ := hv
  have hx := Bo9.exec
  have hb := Bo9.bytes
  have hr := Bo9.returns
  have hts := fun w (h : w ∈ wT) => atoms_spec (ws := wsBS_requireKeyPlace) Bo9.pre w (List.mem_cons_of_mem _ h)
  have hown : s.vm.findClass RBS = some m.cls := findClass_of_methodNamed Bo9.named
  have hlocks := Bo9.notSynchronized
  have hno := xe_none hne
  subst hsz
  have hD := hD0.self (sz := s.heap.size)
  generalize hAe : va_A [] s.heap.size = A at hD hX ⊢
  have hA : ∀ q : Nat, s.heap.size ≤ q → A q := fun q h => by rw [← hAe]; exact Or.inr h
  have hl := lv_entry ([.int x, .int y]) (n := 2) (Nat.le_of_ble_eq_true rfl)
  rw [lg_entry_eq]
  generalize (lg_sl ([.int x, .int y]) ++ List.replicate (2 - (lg_sl ([.int x, .int y])).length) Slot.unset).toArray = ls at hl ⊢
  have hl : lv_has ls 2 [(0, .int x), (1, .int y)] := hl
  refine xs_q (fun H Q hH hQ => ?_)
  have hS : va_S A s.heap H [] := by rw [hH]; exact va_S.rf
  have hP : va_P (dC, dI) vwCl [] H := by rw [hH]; exact hP
  refine lv_iload_n hx hb dBS_requireKeyPlace_0 rfl (lv_at hl 0 rfl) ?_
  have hPc := hP.sub (ws' := []) [] rfl
  have hDc := hD.sub (ws' := []) [] (by decide) rfl
  have hKc := hK.sub (tys' := []) [] rfl
  have hFc := va_free (wc := []) hD hS hA [] rfl
  refine va_calli (va_runS (As := [.int x]) (rest := []) ⟨hx, hb, hml, hown, hts⟩ (c_BS_isKey l dC dI H.size x) (va_cwS 1 hts (wT_3 w_m_BS_168 w_t_BS_isKey w_n_BS w_c_BS_isKey) rfl rfl rfl (by decide +kernel) ⟨Nat.le_of_ble_eq_true rfl, Nat.le_of_ble_eq_true rfl⟩) ⟨fun a U g mk q => by obtain ⟨q0, q1, qP, qK, qD⟩ := q; exact ⟨q0, q1, qP, va_K.moved (u := U) (U := U.calling g mk a) (Vm.Alike.refl U.vm) qK, qD⟩, fun U hU hW => ⟨rfl, by rw [hU], by rw [hU]; exact hPc, va_K.moved hW.alike hKc, hDc.weaken (fun _ _ _ _ => trivial)⟩⟩ rfl rfl hl.1 rfl (lv_room (Nat.le_of_ble_eq_true rfl)) dBS_requireKeyPlace_1 ⟨Nat.zero_le _, Nat.zero_le _⟩) hS (fun q _ h => hFc q h) hFc (fun r u t H1 locs ht hvm hw hB hz1 hk1 hS => ?_)
  obtain ⟨hP1, hK1, hD1⟩ := hB
  rw [ht] at hP1
  have hK1 := va_K.moved hvm.symm hK1
  have hw : r = bs_z (bs_ii x 2) := hw
  rw [hw]
  obtain ⟨hP, hD⟩ := va_join (wr := []) (w1 := []) hP hD [] [] rfl rfl (by decide) (by decide) hk1 hFc hP1 hD1
  generalize H1 = H at hP hS ⊢
  have hP : va_P (dC, dI) vwCl [] H := hP
  have hD : va_D A [] := hD
  refine lv_if_eq (tgt := 14) hx hb dBS_requireKeyPlace_4 (by decide) (fun hc => ?_) (fun hc => ?_)
  · have hP : va_P (dC, dI) vwCl [] H := hP
    have hD : va_D A [] := hD
    subst hQ
    obtain ⟨sa9, hst9⟩ := xe_str hX 4 (k := 176) (tx := "no such key or place") rfl
    exact xe_throw (own := RBS) (cls := "java/lang/IndexOutOfBoundsException") (text := "no such key or place") (names := ["java/lang/RuntimeException", "java/lang/Exception"]) (ik := 171) (is := 176) (ic := 175) (sa := sa9) hx hb hl9 hown (by decide +kernel) (by decide +kernel) hst9 (xe_at hts hX hS xe_in_IOB) (hl.1.trans hml.symm) dBS_requireKeyPlace_14 dBS_requireKeyPlace_17 dBS_requireKeyPlace_18 dBS_requireKeyPlace_20 dBS_requireKeyPlace_23 (hno _) (Nat.le_of_ble_eq_true rfl) (Nat.le_of_ble_eq_true rfl) (Nat.le_of_ble_eq_true rfl) (Nat.le_of_ble_eq_true rfl) hlocks (fun t ha h1 h2 => ⟨⟨hP.kept (fun k q hq => h2 q.1 (hP k q hq).lt), va_K.moved ha hK, hD⟩, Nat.le_trans hS.1 h1, fun q hq hn => (h2 q (Nat.lt_of_lt_of_le hq hS.1)).trans (hS.2.1 q hq hn)⟩) hS.2.2 (Nat.le_of_ble_eq_true rfl) (Nat.le_of_ble_eq_true rfl)
  · have h2 : bs_ii x 2 = true := bs_z_1 hc
    rw [h2, Bool.true_and] at hn
    refine lv_iload_n hx hb dBS_requireKeyPlace_7 rfl (lv_at hl 1 rfl) ?_
    have hPc := hP.sub (ws' := []) [] rfl
    have hDc := hD.sub (ws' := []) [] (by decide) rfl
    have hKc := hK.sub (tys' := []) [] rfl
    have hFc := va_free (wc := []) hD hS hA [] rfl
    refine va_calli (va_runS (As := [.int y]) (rest := []) ⟨hx, hb, hml, hown, hts⟩ (c_BS_isPlace l dC dI H.size y) (va_cwS 1 hts (wT_3 w_m_BS_163 w_t_BS_isPlace w_n_BS w_c_BS_isPlace) rfl rfl rfl (by decide +kernel) ⟨Nat.le_of_ble_eq_true rfl, Nat.le_of_ble_eq_true rfl⟩) ⟨fun a U g mk q => by obtain ⟨q0, q1, qP, qK, qD⟩ := q; exact ⟨q0, q1, qP, va_K.moved (u := U) (U := U.calling g mk a) (Vm.Alike.refl U.vm) qK, qD⟩, fun U hU hW => ⟨rfl, by rw [hU], by rw [hU]; exact hPc, va_K.moved hW.alike hKc, hDc.weaken (fun _ _ _ _ => trivial)⟩⟩ rfl rfl hl.1 rfl (lv_room (Nat.le_of_ble_eq_true rfl)) dBS_requireKeyPlace_8 ⟨Nat.zero_le _, Nat.zero_le _⟩) hS (fun q _ h => hFc q h) hFc (fun r u t H1 locs ht hvm hw hB hz1 hk1 hS => ?_)
    obtain ⟨hP1, hK1, hD1⟩ := hB
    rw [ht] at hP1
    have hK1 := va_K.moved hvm.symm hK1
    have hw : r = bs_z (bs_ii y 256) := hw
    rw [hw]
    obtain ⟨hP, hD⟩ := va_join (wr := []) (w1 := []) hP hD [] [] rfl rfl (by decide) (by decide) hk1 hFc hP1 hD1
    generalize H1 = H at hP hS ⊢
    have hP : va_P (dC, dI) vwCl [] H := hP
    have hD : va_D A [] := hD
    refine xt_i (y := nI 0) (by rw [hn]; rfl) ?_
    refine lv_if_ne (tgt := 24) hx hb dBS_requireKeyPlace_11 (by decide) (fun h => absurd (by decide +kernel) h) (fun _ => ?_)
    have hP : va_P (dC, dI) vwCl [] H := hP
    have hD : va_D A [] := hD
    subst hQ
    obtain ⟨sa9, hst9⟩ := xe_str hX 4 (k := 176) (tx := "no such key or place") rfl
    exact xe_throw (own := RBS) (cls := "java/lang/IndexOutOfBoundsException") (text := "no such key or place") (names := ["java/lang/RuntimeException", "java/lang/Exception"]) (ik := 171) (is := 176) (ic := 175) (sa := sa9) hx hb hl9 hown (by decide +kernel) (by decide +kernel) hst9 (xe_at hts hX hS xe_in_IOB) (hl.1.trans hml.symm) dBS_requireKeyPlace_14 dBS_requireKeyPlace_17 dBS_requireKeyPlace_18 dBS_requireKeyPlace_20 dBS_requireKeyPlace_23 (hno _) (Nat.le_of_ble_eq_true rfl) (Nat.le_of_ble_eq_true rfl) (Nat.le_of_ble_eq_true rfl) (Nat.le_of_ble_eq_true rfl) hlocks (fun t ha h1 h2 => ⟨⟨hP.kept (fun k q hq => h2 q.1 (hP k q hq).lt), va_K.moved ha hK, hD⟩, Nat.le_trans hS.1 h1, fun q hq hn => (h2 q (Nat.lt_of_lt_of_le hq hS.1)).trans (hS.2.1 q hq hn)⟩) hS.2.2 (Nat.le_of_ble_eq_true rfl) (Nat.le_of_ble_eq_true rfl)
set_option maxHeartbeats 4000000 in
set_option maxRecDepth 100000 in
theorem c_BS_requireHeld_n (l : Launch) (dC : Nat → ClassId) (dI : Nat → Nat → Nat) (sz : Nat) (bo q mk ka cs : Nat) (sv h lt : Nat) (an : Int64) (dp qn : Int32) (cV : ClassId) (gs : Nat → Option Nat) (x9 : Nat) (ra op : Nat) (v : Nat) (lc : Int32) (x : Int32) (hl9 : l.stackTraces = false) (hx9 : x9 < 2) (hgs : gs x9 = some sv) (hv : v < 2 ^ 29) (hu : decide (nI (v - 8) ≤ x ∧ x ≤ nI v) = false) : xe_Met l yBS_requireHeld wsBS_requireHeld { frames := 6, cells := 1, slots := 6, locals := 130 } (va_Pc [.ref bo, .int (nI x9), .int x] (fun U => U.heap.size = sz ∧ va_P (dC, dI) vwCl [(bo, .inr (5, [.ref q, .ref mk, .ref ka, .ref cs])), (cs, .inl (cV, 2, .inr (.inr (.inr (.inr gs))))), (sv, .inr (3, [.ref h, .ref lt, .long an, .int dp, .int qn])), (h, .inr (4, [.ref ra, .ref op, .int (nI v), .int lc]))] U.heap ∧ va_K (dC, dI) vwCl [(cV, .object "BlindShelf$Server")] U ∧ va_D (fun _ => True) [(bo, .inr (5, [.ref q, .ref mk, .ref ka, .ref cs])), (cs, .inl (cV, 2, .inr (.inr (.inr (.inr gs))))), (sv, .inr (3, [.ref h, .ref lt, .long an, .int dp, .int qn])), (h, .inr (4, [.ref ra, .ref op, .int (nI v), .int lc]))] ∧ xe_P (va_A [(bo, .inr (5, [.ref q, .ref mk, .ref ka, .ref cs])), (cs, .inl (cV, 2, .inr (.inr (.inr (.inr gs))))), (sv, .inr (3, [.ref h, .ref lt, .long an, .int dp, .int qn])), (h, .inr (4, [.ref ra, .ref op, .int (nI v), .int lc]))] sz) U U.heap)) "java/lang/IllegalStateException" (fun st t => (va_P (dC, dI) vwCl [(bo, .inr (5, [.ref q, .ref mk, .ref ka, .ref cs])), (cs, .inl (cV, 2, .inr (.inr (.inr (.inr gs))))), (sv, .inr (3, [.ref h, .ref lt, .long an, .int dp, .int qn])), (h, .inr (4, [.ref ra, .ref op, .int (nI v), .int lc]))] t.heap ∧ va_K (dC, dI) vwCl [(cV, .object "BlindShelf$Server")] t ∧ va_D (va_A [(bo, .inr (5, [.ref q, .ref mk, .ref ka, .ref cs])), (cs, .inl (cV, 2, .inr (.inr (.inr (.inr gs))))), (sv, .inr (3, [.ref h, .ref lt, .long an, .int dp, .int qn])), (h, .inr (4, [.ref ra, .ref op, .int (nI v), .int lc]))] sz) [(bo, .inr (5, [.ref q, .ref mk, .ref ka, .ref cs])), (cs, .inl (cV, 2, .inr (.inr (.inr (.inr gs))))), (sv, .inr (3, [.ref h, .ref lt, .long an, .int dp, .int qn])), (h, .inr (4, [.ref ra, .ref op, .int (nI v), .int lc]))]) ∧ va_F (va_A [(bo, .inr (5, [.ref q, .ref mk, .ref ka, .ref cs])), (cs, .inl (cV, 2, .inr (.inr (.inr (.inr gs))))), (sv, .inr (3, [.ref h, .ref lt, .long an, .int dp, .int qn])), (h, .inr (4, [.ref ra, .ref op, .int (nI v), .int lc]))] sz) st t) 1 6 (va_A [(bo, .inr (5, [.ref q, .ref mk, .ref ka, .ref cs])), (cs, .inl (cV, 2, .inr (.inr (.inr (.inr gs))))), (sv, .inr (3, [.ref h, .ref lt, .long an, .int dp, .int qn])), (h, .inr (4, [.ref ra, .ref op, .int (nI v), .int lc]))] sz) := by
  refine xe_ofW (cc := cBS_requireHeld) (maxL := 3) (ret := none) (by decide) rfl ?_
  intro p e s m args below meth c s₁ Bo9 hml hne hv
  obtain ⟨rfl, hsz, hP, hK, hD0, hX⟩ := hv
  have hx := Bo9.exec
  have hb := Bo9.bytes
  have hr := Bo9.returns
  have hts := fun w (h : w ∈ wT) => atoms_spec (ws := wsBS_requireHeld) Bo9.pre w (List.mem_cons_of_mem _ h)
  have hown : s.vm.findClass RBS = some m.cls := findClass_of_methodNamed Bo9.named
  have hlocks := Bo9.notSynchronized
  have hno := xe_none hne
  subst hsz
  have hD := hD0.self (sz := s.heap.size)
  generalize hAe : va_A [(bo, .inr (5, [.ref q, .ref mk, .ref ka, .ref cs])), (cs, .inl (cV, 2, .inr (.inr (.inr (.inr gs))))), (sv, .inr (3, [.ref h, .ref lt, .long an, .int dp, .int qn])), (h, .inr (4, [.ref ra, .ref op, .int (nI v), .int lc]))] s.heap.size = A at hD hX ⊢
  have hA : ∀ q : Nat, s.heap.size ≤ q → A q := fun q h => by rw [← hAe]; exact Or.inr h
  have hl := lv_entry ([.ref bo, .int (nI x9), .int x]) (n := 3) (Nat.le_of_ble_eq_true rfl)
  rw [lg_entry_eq]
  generalize (lg_sl ([.ref bo, .int (nI x9), .int x]) ++ List.replicate (3 - (lg_sl ([.ref bo, .int (nI x9), .int x])).length) Slot.unset).toArray = ls at hl ⊢
  have hl : lv_has ls 3 [(0, .ref bo), (1, .int (nI x9)), (2, .int x)] := hl
  refine xs_q (fun H Q hH hQ => ?_)
  have hS : va_S A s.heap H [] := by rw [hH]; exact va_S.rf
  have hP : va_P (dC, dI) vwCl [(bo, .inr (5, [.ref q, .ref mk, .ref ka, .ref cs])), (cs, .inl (cV, 2, .inr (.inr (.inr (.inr gs))))), (sv, .inr (3, [.ref h, .ref lt, .long an, .int dp, .int qn])), (h, .inr (4, [.ref ra, .ref op, .int (nI v), .int lc]))] H := by rw [hH]; exact hP
  refine lv_aload_n hx hb dBS_requireHeld_0 rfl (lv_at hl 0 rfl) ?_
  refine va_get (D := (dC, dI)) (ci := 5) (v := .ref cs) (C := RBS) (T := TBS) (N := 4) hx hb hts in_BS hown hK hP 0 rfl rfl 3 (by decide) (hts _ w_f_BS_35) (fun _ h9 => h9) rfl dBS_requireHeld_1 ?_
  refine lv_iload_n hx hb dBS_requireHeld_4 rfl (lv_at hl 1 rfl) ?_
  refine xa_aald hx hb hK hP 1 0 rfl rfl rfl x9 (by omega) (by decide) dBS_requireHeld_5 ?_
  refine xt_v (y := .ref sv) (by rw [hgs]; rfl) ?_
  refine va_get (D := (dC, dI)) (ci := 3) (v := .ref h) (C := RSV) (T := TSV) (N := 5) hx hb hts in_SV hown hK hP 2 rfl rfl 0 (by decide) (hts _ w_f_BS_45) (fun _ h9 => h9) rfl dBS_requireHeld_6 ?_
  refine lv_iload_n hx hb dBS_requireHeld_9 rfl (lv_at hl 2 rfl) ?_
  have hPc := hP.sub (ws' := [(h, .inr (4, [.ref ra, .ref op, .int (nI v), .int lc]))]) [3] rfl
  have hDc := hD.sub (ws' := [(h, .inr (4, [.ref ra, .ref op, .int (nI v), .int lc]))]) [3] (by decide) rfl
  have hKc := hK.sub (tys' := []) [] rfl
  have hFc := va_free (wc := [(h, .inr (4, [.ref ra, .ref op, .int (nI v), .int lc]))]) hD hS hA [3] rfl
  refine va_calli (va_runV (C := RSH) (As := [.int x]) (rest := []) ⟨hx, hb, hml, hown, hts⟩ (c_SH_isHeld l dC dI H.size h ra op v lc x (by omega)) (cwV (C := RSH) 1 hts (wT_4 w_m_BS_178 w_i_SH_isHeld w_s_SH_isHeld w_n_SH w_c_SH_isHeld) rfl rfl rfl (by decide +kernel) ⟨Nat.le_of_ble_eq_true rfl, Nat.le_of_ble_eq_true rfl⟩) ⟨fun a U g mk q => by obtain ⟨q0, q1, qP, qK, qD⟩ := q; exact ⟨q0, q1, qP, va_K.moved (u := U) (U := U.calling g mk a) (Vm.Alike.refl U.vm) qK, qD⟩, va_recv hK hP (q0 := 3) (ci := 4) (q := (RSH, TSH, 4)) rfl rfl, fun U hU hW => ⟨rfl, by rw [hU], by rw [hU]; exact hPc, va_K.moved hW.alike hKc, hDc.weaken (fun _ _ _ _ => trivial)⟩⟩ rfl rfl hl.1 rfl (lv_room (Nat.le_of_ble_eq_true rfl)) dBS_requireHeld_10 ⟨Nat.zero_le _, Nat.zero_le _⟩) hS (fun q _ h => hFc q h) hFc (fun r u t H1 locs ht hvm hw hB hz1 hk1 hS => ?_)
  obtain ⟨hP1, hK1, hD1⟩ := hB
  rw [ht] at hP1
  have hK1 := va_K.moved hvm.symm hK1
  have hw : r = bs_z (decide (nI (v - 8) ≤ x ∧ x ≤ nI v)) := hw
  rw [hw]
  obtain ⟨hP, hD⟩ := va_join (wr := [(bo, .inr (5, [.ref q, .ref mk, .ref ka, .ref cs])), (cs, .inl (cV, 2, .inr (.inr (.inr (.inr gs))))), (sv, .inr (3, [.ref h, .ref lt, .long an, .int dp, .int qn]))]) (w1 := [(h, .inr (4, [.ref ra, .ref op, .int (nI v), .int lc]))]) hP hD [3] [0, 1, 2] rfl rfl (by decide) (by decide) hk1 hFc hP1 hD1
  generalize H1 = H at hP hS ⊢
  have hP : va_P (dC, dI) vwCl [(bo, .inr (5, [.ref q, .ref mk, .ref ka, .ref cs])), (cs, .inl (cV, 2, .inr (.inr (.inr (.inr gs))))), (sv, .inr (3, [.ref h, .ref lt, .long an, .int dp, .int qn])), (h, .inr (4, [.ref ra, .ref op, .int (nI v), .int lc]))] H := hP
  have hD : va_D A [(bo, .inr (5, [.ref q, .ref mk, .ref ka, .ref cs])), (cs, .inl (cV, 2, .inr (.inr (.inr (.inr gs))))), (sv, .inr (3, [.ref h, .ref lt, .long an, .int dp, .int qn])), (h, .inr (4, [.ref ra, .ref op, .int (nI v), .int lc]))] := hD
  refine xt_i (y := nI 0) (by rw [hu]; rfl) ?_
  refine lv_if_ne (tgt := 26) hx hb dBS_requireHeld_13 (by decide) (fun h => absurd (by decide +kernel) h) (fun _ => ?_)
  have hP : va_P (dC, dI) vwCl [(bo, .inr (5, [.ref q, .ref mk, .ref ka, .ref cs])), (cs, .inl (cV, 2, .inr (.inr (.inr (.inr gs))))), (sv, .inr (3, [.ref h, .ref lt, .long an, .int dp, .int qn])), (h, .inr (4, [.ref ra, .ref op, .int (nI v), .int lc]))] H := hP
  have hD : va_D A [(bo, .inr (5, [.ref q, .ref mk, .ref ka, .ref cs])), (cs, .inl (cV, 2, .inr (.inr (.inr (.inr gs))))), (sv, .inr (3, [.ref h, .ref lt, .long an, .int dp, .int qn])), (h, .inr (4, [.ref ra, .ref op, .int (nI v), .int lc]))] := hD
  subst hQ
  obtain ⟨sa9, hst9⟩ := xe_str hX 5 (k := 183) (tx := "version not held") rfl
  exact xe_throw (own := RBS) (cls := "java/lang/IllegalStateException") (text := "version not held") (names := ["java/lang/RuntimeException", "java/lang/Exception"]) (ik := 181) (is := 183) (ic := 185) (sa := sa9) hx hb hl9 hown (by decide +kernel) (by decide +kernel) hst9 (xe_at hts hX hS xe_in_ISE) (hl.1.trans hml.symm) dBS_requireHeld_16 dBS_requireHeld_19 dBS_requireHeld_20 dBS_requireHeld_22 dBS_requireHeld_25 (hno _) (Nat.le_of_ble_eq_true rfl) (Nat.le_of_ble_eq_true rfl) (Nat.le_of_ble_eq_true rfl) (Nat.le_of_ble_eq_true rfl) hlocks (fun t ha h1 h2 => ⟨⟨hP.kept (fun k q hq => h2 q.1 (hP k q hq).lt), va_K.moved ha hK, hD⟩, Nat.le_trans hS.1 h1, fun q hq hn => (h2 q (Nat.lt_of_lt_of_le hq hS.1)).trans (hS.2.1 q hq hn)⟩) hS.2.2 (Nat.le_of_ble_eq_true rfl) (Nat.le_of_ble_eq_true rfl)
set_option maxHeartbeats 4000000 in
set_option maxRecDepth 100000 in
theorem c_BS_requireGood_n (l : Launch) (dC : Nat → ClassId) (dI : Nat → Nat → Nat) (sz : Nat) (bo q mk ka cs : Nat) (k kb kf ks kt : Nat) (num : Int32) (cI : ClassId) (cK : ClassId) (gk : Nat → Option Nat) (fb : Nat → Int32) (x9 : Nat) (hl9 : l.stackTraces = false) (hx9 : x9 < 2) (hgk : gk x9 = some k) (hg : bs_gd fb 8 = false) : xe_Met l yBS_requireGood wsBS_requireGood { frames := 6, cells := 1, slots := 6, locals := 130 } (va_Pc [.ref bo, .int (nI x9)] (fun U => U.heap.size = sz ∧ va_P (dC, dI) vwCl [(bo, .inr (5, [.ref q, .ref mk, .ref ka, .ref cs])), (ka, .inl (cK, 2, .inr (.inr (.inr (.inr gk))))), (k, .inr (1, [.ref kb, .int num, .ref kf, .ref ks, .ref kt])), (kb, .inl (cI, 160, .inl fb))] U.heap ∧ va_K (dC, dI) vwCl [(cI, .int), (cK, .object "BlindShelf$Key")] U ∧ va_D (fun _ => True) [(bo, .inr (5, [.ref q, .ref mk, .ref ka, .ref cs])), (ka, .inl (cK, 2, .inr (.inr (.inr (.inr gk))))), (k, .inr (1, [.ref kb, .int num, .ref kf, .ref ks, .ref kt])), (kb, .inl (cI, 160, .inl fb))] ∧ xe_P (va_A [(bo, .inr (5, [.ref q, .ref mk, .ref ka, .ref cs])), (ka, .inl (cK, 2, .inr (.inr (.inr (.inr gk))))), (k, .inr (1, [.ref kb, .int num, .ref kf, .ref ks, .ref kt])), (kb, .inl (cI, 160, .inl fb))] sz) U U.heap)) "java/lang/IllegalStateException" (fun st t => (va_P (dC, dI) vwCl [(bo, .inr (5, [.ref q, .ref mk, .ref ka, .ref cs])), (ka, .inl (cK, 2, .inr (.inr (.inr (.inr gk))))), (k, .inr (1, [.ref kb, .int num, .ref kf, .ref ks, .ref kt])), (kb, .inl (cI, 160, .inl fb))] t.heap ∧ va_K (dC, dI) vwCl [(cI, .int), (cK, .object "BlindShelf$Key")] t ∧ va_D (va_A [(bo, .inr (5, [.ref q, .ref mk, .ref ka, .ref cs])), (ka, .inl (cK, 2, .inr (.inr (.inr (.inr gk))))), (k, .inr (1, [.ref kb, .int num, .ref kf, .ref ks, .ref kt])), (kb, .inl (cI, 160, .inl fb))] sz) [(bo, .inr (5, [.ref q, .ref mk, .ref ka, .ref cs])), (ka, .inl (cK, 2, .inr (.inr (.inr (.inr gk))))), (k, .inr (1, [.ref kb, .int num, .ref kf, .ref ks, .ref kt])), (kb, .inl (cI, 160, .inl fb))]) ∧ va_F (va_A [(bo, .inr (5, [.ref q, .ref mk, .ref ka, .ref cs])), (ka, .inl (cK, 2, .inr (.inr (.inr (.inr gk))))), (k, .inr (1, [.ref kb, .int num, .ref kf, .ref ks, .ref kt])), (kb, .inl (cI, 160, .inl fb))] sz) st t) 1 6 (va_A [(bo, .inr (5, [.ref q, .ref mk, .ref ka, .ref cs])), (ka, .inl (cK, 2, .inr (.inr (.inr (.inr gk))))), (k, .inr (1, [.ref kb, .int num, .ref kf, .ref ks, .ref kt])), (kb, .inl (cI, 160, .inl fb))] sz) := by
  refine xe_ofW (cc := cBS_requireGood) (maxL := 2) (ret := none) (by decide) rfl ?_
  intro p e s m args below meth c s₁ Bo9 hml hne hv
  obtain ⟨rfl, hsz, hP, hK, hD0, hX⟩ := hv
  have hx := Bo9.exec
  have hb := Bo9.bytes
  have hr := Bo9.returns
  have hts := fun w (h : w ∈ wT) => atoms_spec (ws := wsBS_requireGood) Bo9.pre w (List.mem_cons_of_mem _ h)
  have hown : s.vm.findClass RBS = some m.cls := findClass_of_methodNamed Bo9.named
  have hlocks := Bo9.notSynchronized
  have hno := xe_none hne
  subst hsz
  have hD := hD0.self (sz := s.heap.size)
  generalize hAe : va_A [(bo, .inr (5, [.ref q, .ref mk, .ref ka, .ref cs])), (ka, .inl (cK, 2, .inr (.inr (.inr (.inr gk))))), (k, .inr (1, [.ref kb, .int num, .ref kf, .ref ks, .ref kt])), (kb, .inl (cI, 160, .inl fb))] s.heap.size = A at hD hX ⊢
  have hA : ∀ q : Nat, s.heap.size ≤ q → A q := fun q h => by rw [← hAe]; exact Or.inr h
  have hl := lv_entry ([.ref bo, .int (nI x9)]) (n := 2) (Nat.le_of_ble_eq_true rfl)
  rw [lg_entry_eq]
  generalize (lg_sl ([.ref bo, .int (nI x9)]) ++ List.replicate (2 - (lg_sl ([.ref bo, .int (nI x9)])).length) Slot.unset).toArray = ls at hl ⊢
  have hl : lv_has ls 2 [(0, .ref bo), (1, .int (nI x9))] := hl
  refine xs_q (fun H Q hH hQ => ?_)
  have hS : va_S A s.heap H [] := by rw [hH]; exact va_S.rf
  have hP : va_P (dC, dI) vwCl [(bo, .inr (5, [.ref q, .ref mk, .ref ka, .ref cs])), (ka, .inl (cK, 2, .inr (.inr (.inr (.inr gk))))), (k, .inr (1, [.ref kb, .int num, .ref kf, .ref ks, .ref kt])), (kb, .inl (cI, 160, .inl fb))] H := by rw [hH]; exact hP
  refine lv_aload_n hx hb dBS_requireGood_0 rfl (lv_at hl 0 rfl) ?_
  refine va_get (D := (dC, dI)) (ci := 5) (v := .ref ka) (C := RBS) (T := TBS) (N := 4) hx hb hts in_BS hown hK hP 0 rfl rfl 2 (by decide) (hts _ w_f_BS_28) (fun _ h9 => h9) rfl dBS_requireGood_1 ?_
  refine lv_iload_n hx hb dBS_requireGood_4 rfl (lv_at hl 1 rfl) ?_
  refine xa_aald hx hb hK hP 1 1 rfl rfl rfl x9 (by omega) (by decide) dBS_requireGood_5 ?_
  refine xt_v (y := .ref k) (by rw [hgk]; rfl) ?_
  have hPc := hP.sub (ws' := [(k, .inr (1, [.ref kb, .int num, .ref kf, .ref ks, .ref kt])), (kb, .inl (cI, 160, .inl fb))]) [2, 3] rfl
  have hDc := hD.sub (ws' := [(k, .inr (1, [.ref kb, .int num, .ref kf, .ref ks, .ref kt])), (kb, .inl (cI, 160, .inl fb))]) [2, 3] (by decide) rfl
  have hKc := hK.sub (tys' := [(cI, .int)]) [0] rfl
  have hFc := va_free (wc := [(k, .inr (1, [.ref kb, .int num, .ref kf, .ref ks, .ref kt])), (kb, .inl (cI, 160, .inl fb))]) hD hS hA [2, 3] rfl
  refine va_calli (va_runV (C := RKY) (As := []) (rest := []) ⟨hx, hb, hml, hown, hts⟩ (c_KY_isGood l dC dI H.size k kb kf ks kt num cI fb) (cwV (C := RKY) 0 hts (wT_4 w_m_BS_153 w_i_KY_isGood w_s_KY_isGood w_n_KY w_c_KY_isGood) rfl rfl rfl (by decide +kernel) ⟨Nat.le_of_ble_eq_true rfl, Nat.le_of_ble_eq_true rfl⟩) ⟨fun a U g mk q => by obtain ⟨q0, q1, qP, qK, qD⟩ := q; exact ⟨q0, q1, qP, va_K.moved (u := U) (U := U.calling g mk a) (Vm.Alike.refl U.vm) qK, qD⟩, va_recv hK hP (q0 := 2) (ci := 1) (q := (RKY, TKY, 5)) rfl rfl, fun U hU hW => ⟨rfl, by rw [hU], by rw [hU]; exact hPc, va_K.moved hW.alike hKc, hDc.weaken (fun _ _ _ _ => trivial)⟩⟩ rfl rfl hl.1 rfl (lv_room (Nat.le_of_ble_eq_true rfl)) dBS_requireGood_6 ⟨Nat.zero_le _, Nat.zero_le _⟩) hS (fun q _ h => hFc q h) hFc (fun r u t H1 locs ht hvm hw hB hz1 hk1 hS => ?_)
  obtain ⟨hP1, hK1, hD1⟩ := hB
  rw [ht] at hP1
  have hK1 := va_K.moved hvm.symm hK1
  have hw : r = bs_z (bs_gd fb 8) := hw
  rw [hw]
  obtain ⟨hP, hD⟩ := va_join (wr := [(bo, .inr (5, [.ref q, .ref mk, .ref ka, .ref cs])), (ka, .inl (cK, 2, .inr (.inr (.inr (.inr gk)))))]) (w1 := [(k, .inr (1, [.ref kb, .int num, .ref kf, .ref ks, .ref kt])), (kb, .inl (cI, 160, .inl fb))]) hP hD [2, 3] [0, 1] rfl rfl (by decide) (by decide) hk1 hFc hP1 hD1
  generalize H1 = H at hP hS ⊢
  have hP : va_P (dC, dI) vwCl [(bo, .inr (5, [.ref q, .ref mk, .ref ka, .ref cs])), (ka, .inl (cK, 2, .inr (.inr (.inr (.inr gk))))), (k, .inr (1, [.ref kb, .int num, .ref kf, .ref ks, .ref kt])), (kb, .inl (cI, 160, .inl fb))] H := hP
  have hD : va_D A [(bo, .inr (5, [.ref q, .ref mk, .ref ka, .ref cs])), (ka, .inl (cK, 2, .inr (.inr (.inr (.inr gk))))), (k, .inr (1, [.ref kb, .int num, .ref kf, .ref ks, .ref kt])), (kb, .inl (cI, 160, .inl fb))] := hD
  refine xt_i (y := nI 0) (by rw [hg]; rfl) ?_
  refine lv_if_ne (tgt := 22) hx hb dBS_requireGood_9 (by decide) (fun h => absurd (by decide +kernel) h) (fun _ => ?_)
  have hP : va_P (dC, dI) vwCl [(bo, .inr (5, [.ref q, .ref mk, .ref ka, .ref cs])), (ka, .inl (cK, 2, .inr (.inr (.inr (.inr gk))))), (k, .inr (1, [.ref kb, .int num, .ref kf, .ref ks, .ref kt])), (kb, .inl (cI, 160, .inl fb))] H := hP
  have hD : va_D A [(bo, .inr (5, [.ref q, .ref mk, .ref ka, .ref cs])), (ka, .inl (cK, 2, .inr (.inr (.inr (.inr gk))))), (k, .inr (1, [.ref kb, .int num, .ref kf, .ref ks, .ref kt])), (kb, .inl (cI, 160, .inl fb))] := hD
  subst hQ
  obtain ⟨sa9, hst9⟩ := xe_str hX 6 (k := 186) (tx := "key not good") rfl
  exact xe_throw (own := RBS) (cls := "java/lang/IllegalStateException") (text := "key not good") (names := ["java/lang/RuntimeException", "java/lang/Exception"]) (ik := 181) (is := 186) (ic := 185) (sa := sa9) hx hb hl9 hown (by decide +kernel) (by decide +kernel) hst9 (xe_at hts hX hS xe_in_ISE) (hl.1.trans hml.symm) dBS_requireGood_12 dBS_requireGood_15 dBS_requireGood_16 dBS_requireGood_18 dBS_requireGood_21 (hno _) (Nat.le_of_ble_eq_true rfl) (Nat.le_of_ble_eq_true rfl) (Nat.le_of_ble_eq_true rfl) (Nat.le_of_ble_eq_true rfl) hlocks (fun t ha h1 h2 => ⟨⟨hP.kept (fun k q hq => h2 q.1 (hP k q hq).lt), va_K.moved ha hK, hD⟩, Nat.le_trans hS.1 h1, fun q hq hn => (h2 q (Nat.lt_of_lt_of_le hq hS.1)).trans (hS.2.1 q hq hn)⟩) hS.2.2 (Nat.le_of_ble_eq_true rfl) (Nat.le_of_ble_eq_true rfl)
set_option maxHeartbeats 4000000 in
set_option maxRecDepth 100000 in
theorem c_BS_cipher_n (l : Launch) (dC : Nat → ClassId) (dI : Nat → Nat → Nat) (sz : Nat) (bo : Nat) (x : Int32) (fa ga : Int64) (y : Int32) (hl9 : l.stackTraces = false) (hn : bs_ii x 2 = false) : xe_Met l yBS_cipher wsBS_cipher { frames := 6, cells := 1, slots := 6, locals := 130 } (va_Pc [.ref bo, .int x, .long fa, .long ga, .int y] (fun U => U.heap.size = sz ∧ va_P (dC, dI) vwCl [] U.heap ∧ va_K (dC, dI) vwCl [] U ∧ va_D (fun _ => True) [] ∧ xe_P (va_A [] sz) U U.heap)) "java/lang/IllegalArgumentException" (fun st t => (va_P (dC, dI) vwCl [] t.heap ∧ va_K (dC, dI) vwCl [] t ∧ va_D (va_A [] sz) []) ∧ va_F (va_A [] sz) st t) 1 6 (va_A [] sz) := by
  refine xe_ofW (cc := cBS_cipher) (maxL := 7) (ret := (some .long)) (by decide) rfl ?_
  intro p e s m args below meth c s₁ Bo9 hml hne hv
  obtain ⟨rfl, hsz, hP, hK, hD0, hX⟩ := hv
  have hx := Bo9.exec
  have hb := Bo9.bytes
  have hr := Bo9.returns
  have hts := fun w (h : w ∈ wT) => atoms_spec (ws := wsBS_cipher) Bo9.pre w (List.mem_cons_of_mem _ h)
  have hown : s.vm.findClass RBS = some m.cls := findClass_of_methodNamed Bo9.named
  have hlocks := Bo9.notSynchronized
  have hno := xe_none hne
  subst hsz
  have hD := hD0.self (sz := s.heap.size)
  generalize hAe : va_A [] s.heap.size = A at hD hX ⊢
  have hA : ∀ q : Nat, s.heap.size ≤ q → A q := fun q h => by rw [← hAe]; exact Or.inr h
  have hl := lv_entry ([.ref bo, .int x, .long fa, .long ga, .int y]) (n := 7) (Nat.le_of_ble_eq_true rfl)
  rw [lg_entry_eq]
  generalize (lg_sl ([.ref bo, .int x, .long fa, .long ga, .int y]) ++ List.replicate (7 - (lg_sl ([.ref bo, .int x, .long fa, .long ga, .int y])).length) Slot.unset).toArray = ls at hl ⊢
  have hl : lv_has ls 7 [(0, .ref bo), (1, .int x), (2, .long fa), (4, .long ga), (6, .int y)] := hl
  refine xs_q (fun H Q hH hQ => ?_)
  have hS : va_S A s.heap H [] := by rw [hH]; exact va_S.rf
  have hP : va_P (dC, dI) vwCl [] H := by rw [hH]; exact hP
  refine lv_iload_n hx hb dBS_cipher_0 rfl (lv_at hl 1 rfl) ?_
  refine lv_if_eq (tgt := 19) hx hb dBS_cipher_1 (by decide) (fun h => absurd h (fun q => absurd hn (by rw [q]; decide))) (fun _ => ?_)
  refine lv_iload_n hx hb dBS_cipher_4 rfl (lv_at hl 1 rfl) ?_
  refine lv_iconst (v := nI 1) hx hb dBS_cipher_5 (by decide) ?_
  refine lv_icmp_eq (tgt := 19) hx hb dBS_cipher_6 (by decide) (fun h => absurd h (fun q => absurd hn (by rw [q]; decide))) (fun _ => ?_)
  have hP : va_P (dC, dI) vwCl [] H := hP
  have hD : va_D A [] := hD
  subst hQ
  obtain ⟨sa9, hst9⟩ := xe_str hX 0 (k := 122) (tx := "no such fixed key") rfl
  exact xe_throw (own := RBS) (cls := "java/lang/IllegalArgumentException") (text := "no such fixed key") (names := ["java/lang/RuntimeException", "java/lang/Exception"]) (ik := 120) (is := 122) (ic := 124) (sa := sa9) hx hb hl9 hown (by decide +kernel) (by decide +kernel) hst9 (xe_at hts hX hS xe_in_IAE) (hl.1.trans hml.symm) dBS_cipher_9 dBS_cipher_12 dBS_cipher_13 dBS_cipher_15 dBS_cipher_18 (hno _) (Nat.le_of_ble_eq_true rfl) (Nat.le_of_ble_eq_true rfl) (Nat.le_of_ble_eq_true rfl) (Nat.le_of_ble_eq_true rfl) hlocks (fun t ha h1 h2 => ⟨⟨hP.kept (fun k q hq => h2 q.1 (hP k q hq).lt), va_K.moved ha hK, hD⟩, Nat.le_trans hS.1 h1, fun q hq hn => (h2 q (Nat.lt_of_lt_of_le hq hS.1)).trans (hS.2.1 q hq hn)⟩) hS.2.2 (Nat.le_of_ble_eq_true rfl) (Nat.le_of_ble_eq_true rfl)
