/-! BlockCipher: leaves -/
set_option maxHeartbeats 4000000 in
set_option maxRecDepth 100000 in
theorem c_BC_joined (l : Launch) (dC : Nat → ClassId) (dI : Nat → Nat → Nat) (sz : Nat) (u w : Int32)  : Met l yBC_joined wsBC_joined { frames := 0, cells := 0, slots := 0, locals := 0 } (va_Pc [.int u, .int w] (fun U => U.heap.size = sz ∧ va_P (dC, dI) vwCl [] U.heap ∧ va_K (dC, dI) vwCl [] U ∧ va_D (fun _ => True) [])) (va_Ql (fun (r : Int64) (_ : Unit) => r = bs_join u w) (fun (_ : Unit) t => va_P (dC, dI) vwCl [] t.heap ∧ va_K (dC, dI) vwCl [] t ∧ va_D (va_A [] sz) []) (va_A [] sz)) 0 0 (va_A [] sz) := by
  refine Met.ofW (cc := cBC_joined) (maxL := 2) (ret := (some .long)) (by decide) rfl ?_
  intro p e s m args below meth c s₁ B hml hv
  obtain ⟨rfl, hsz, hP, hK, hD0⟩ := hv
  have hx := B.exec
  have hb := B.bytes
  have hr := B.returns
  have hts := fun w (h : w ∈ wT) => atoms_spec (ws := wsBC_joined) B.pre w (List.mem_cons_of_mem _ h)
  have hown : s.vm.findClass RBC = some m.cls := findClass_of_methodNamed B.named
  have hlocks := B.notSynchronized
  subst hsz
  have hD := hD0.self (sz := s.heap.size)
  generalize hAe : va_A [] s.heap.size = A at hD ⊢
  have hA : ∀ q : Nat, s.heap.size ≤ q → A q := fun q h => by rw [← hAe]; exact Or.inr h
  have hl := lv_entry ([.int u, .int w]) (n := 2) (Nat.le_of_ble_eq_true rfl)
  rw [lg_entry_eq]
  generalize (lg_sl ([.int u, .int w]) ++ List.replicate (2 - (lg_sl ([.int u, .int w])).length) Slot.unset).toArray = ls at hl ⊢
  have hl : lv_has ls 2 [(0, .int u), (1, .int w)] := hl
  refine xs_q (fun H Q hH hQ => ?_)
  have hS : va_S A s.heap H [] := by rw [hH]; exact va_S.rf
  have hP : va_P (dC, dI) vwCl [] H := by rw [hH]; exact hP
  refine lv_iload_n hx hb dBC_joined_0 rfl (lv_at hl 0 rfl) ?_
  refine lv_i2l (v := u.toInt64) hx hb dBC_joined_1 rfl ?_
  refine lv_bipush (v := nI 32) hx hb dBC_joined_2 (by decide) ?_
  refine lv_lshl (v := j_lshl u.toInt64 (nI 32)) hx hb dBC_joined_4 rfl ?_
  refine lv_iload_n hx hb dBC_joined_5 rfl (lv_at hl 1 rfl) ?_
  refine lv_i2l (v := w.toInt64) hx hb dBC_joined_6 rfl ?_
  refine lv_ldc2 (v := 4294967295) hx hb hown (hts _ w_j_BC_54) dBC_joined_7 ?_
  refine lv_land hx hb dBC_joined_10 ?_
  refine lv_lor hx hb dBC_joined_11 ?_
  have hP : va_P (dC, dI) vwCl [] H := hP
  have hD : va_D A [] := hD
  subst hQ
  exact W.lret (v := (j_lshl u.toInt64 (nI 32)) ||| (w.toInt64 &&& 4294967295)) hx hb hr (fun t ht hW => ⟨⟨(j_lshl u.toInt64 (nI 32)) ||| (w.toInt64 &&& 4294967295), (), rfl, rfl, by rw [ht]; exact hP, va_K.moved hW.alike hK, hD⟩, hS.F ht⟩) hS.2.2 dBC_joined_12
set_option maxHeartbeats 4000000 in
set_option maxRecDepth 100000 in
theorem c_BC_timesX (l : Launch) (dC : Nat → ClassId) (dI : Nat → Nat → Nat) (sz : Nat) (n : Nat) (hn : n < 256) : Met l yBC_timesX wsBC_timesX { frames := 0, cells := 0, slots := 0, locals := 0 } (va_Pc [.int (nI n)] (fun U => U.heap.size = sz ∧ va_P (dC, dI) vwCl [] U.heap ∧ va_K (dC, dI) vwCl [] U ∧ va_D (fun _ => True) [])) (va_Qi (fun (r : Int32) (_ : Unit) => r = nI (bs_tX n)) (fun (_ : Unit) t => va_P (dC, dI) vwCl [] t.heap ∧ va_K (dC, dI) vwCl [] t ∧ va_D (va_A [] sz) []) (va_A [] sz)) 0 0 (va_A [] sz) := by
  refine Met.ofW (cc := cBC_timesX) (maxL := 1) (ret := (some .int)) (by decide) rfl ?_
  intro p e s m args below meth c s₁ B hml hv
  obtain ⟨rfl, hsz, hP, hK, hD0⟩ := hv
  have hx := B.exec
  have hb := B.bytes
  have hr := B.returns
  have hts := fun w (h : w ∈ wT) => atoms_spec (ws := wsBC_timesX) B.pre w (List.mem_cons_of_mem _ h)
  have hown : s.vm.findClass RBC = some m.cls := findClass_of_methodNamed B.named
  have hlocks := B.notSynchronized
  subst hsz
  have hD := hD0.self (sz := s.heap.size)
  generalize hAe : va_A [] s.heap.size = A at hD ⊢
  have hA : ∀ q : Nat, s.heap.size ≤ q → A q := fun q h => by rw [← hAe]; exact Or.inr h
  have hl := lv_entry ([.int (nI n)]) (n := 1) (Nat.le_of_ble_eq_true rfl)
  rw [lg_entry_eq]
  generalize (lg_sl ([.int (nI n)]) ++ List.replicate (1 - (lg_sl ([.int (nI n)])).length) Slot.unset).toArray = ls at hl ⊢
  have hl : lv_has ls 1 [(0, .int (nI n))] := hl
  refine xs_q (fun H Q hH hQ => ?_)
  have hS : va_S A s.heap H [] := by rw [hH]; exact va_S.rf
  have hP : va_P (dC, dI) vwCl [] H := by rw [hH]; exact hP
  have key := bs_tXj n hn
  refine lv_iload_n hx hb dBC_timesX_0 rfl (lv_at hl 0 rfl) ?_
  refine lv_sipush (v := nI 128) hx hb dBC_timesX_1 (by decide) ?_
  refine lv_iand hx hb dBC_timesX_4 ?_
  refine lv_if_ne (tgt := 14) hx hb dBC_timesX_5 (by decide) (fun hc => ?_) (fun hc => ?_)
  · rw [if_neg hc] at key
    refine lv_iload_n hx hb dBC_timesX_14 rfl (lv_at hl 0 rfl) ?_
    refine lv_iconst (v := nI 1) hx hb dBC_timesX_15 (by decide) ?_
    refine lv_ishl hx hb dBC_timesX_16 ?_
    refine lv_sipush (v := nI 283) hx hb dBC_timesX_17 (by decide) ?_
    refine lv_ixor hx hb dBC_timesX_20 ?_
    have hP : va_P (dC, dI) vwCl [] H := hP
    have hD : va_D A [] := hD
    subst hQ
    exact W.iret (v := ((nI n) <<< ((nI 1) &&& 31)) ^^^ (nI 283)) hx hb hr (fun t ht hW => ⟨⟨((nI n) <<< ((nI 1) &&& 31)) ^^^ (nI 283), (), rfl, key, by rw [ht]; exact hP, va_K.moved hW.alike hK, hD⟩, hS.F ht⟩) hS.2.2 dBC_timesX_21
  · rw [if_pos hc] at key
    refine lv_iload_n hx hb dBC_timesX_8 rfl (lv_at hl 0 rfl) ?_
    refine lv_iconst (v := nI 1) hx hb dBC_timesX_9 (by decide) ?_
    refine lv_ishl hx hb dBC_timesX_10 ?_
    refine lv_goto (tgt := 21) hx hb dBC_timesX_11 (by decide) ?_
    have hP : va_P (dC, dI) vwCl [] H := hP
    have hD : va_D A [] := hD
    subst hQ
    exact W.iret (v := (nI n) <<< ((nI 1) &&& 31)) hx hb hr (fun t ht hW => ⟨⟨(nI n) <<< ((nI 1) &&& 31), (), rfl, key, by rw [ht]; exact hP, va_K.moved hW.alike hK, hD⟩, hS.F ht⟩) hS.2.2 dBC_timesX_21
set_option maxHeartbeats 4000000 in
set_option maxRecDepth 100000 in
theorem c_BC_mixed (l : Launch) (dC : Nat → ClassId) (dI : Nat → Nat → Nat) (sz : Nat) (q sb co rk : Nat) (f1 f2 : Int64) (bt : Int32) (cI : ClassId) (C : Nat → Int32) (a1 a2 a3 a4 : Int32)  : Met l yBC_mixed wsBC_mixed { frames := 0, cells := 0, slots := 0, locals := 0 } (va_Pc [.ref q, .int a1, .int a2, .int a3, .int a4] (fun U => U.heap.size = sz ∧ va_P (dC, dI) vwCl [(q, .inr (0, [.ref sb, .ref co, .ref rk, .long f1, .long f2, .int bt])), (co, .inl (cI, 256, .inl C))] U.heap ∧ va_K (dC, dI) vwCl [(cI, .int)] U ∧ va_D (fun _ => True) [(q, .inr (0, [.ref sb, .ref co, .ref rk, .long f1, .long f2, .int bt])), (co, .inl (cI, 256, .inl C))])) (va_Qi (fun (r : Int32) (_ : Unit) => r = bs_mix C a1 a2 a3 a4) (fun (_ : Unit) t => va_P (dC, dI) vwCl [(q, .inr (0, [.ref sb, .ref co, .ref rk, .long f1, .long f2, .int bt])), (co, .inl (cI, 256, .inl C))] t.heap ∧ va_K (dC, dI) vwCl [(cI, .int)] t ∧ va_D (va_A [(q, .inr (0, [.ref sb, .ref co, .ref rk, .long f1, .long f2, .int bt])), (co, .inl (cI, 256, .inl C))] sz) [(q, .inr (0, [.ref sb, .ref co, .ref rk, .long f1, .long f2, .int bt])), (co, .inl (cI, 256, .inl C))]) (va_A [(q, .inr (0, [.ref sb, .ref co, .ref rk, .long f1, .long f2, .int bt])), (co, .inl (cI, 256, .inl C))] sz)) 0 0 (va_A [(q, .inr (0, [.ref sb, .ref co, .ref rk, .long f1, .long f2, .int bt])), (co, .inl (cI, 256, .inl C))] sz) := by
  refine Met.ofW (cc := cBC_mixed) (maxL := 8) (ret := (some .int)) (by decide) rfl ?_
  intro p e s m args below meth c s₁ B hml hv
  obtain ⟨rfl, hsz, hP, hK, hD0⟩ := hv
  have hx := B.exec
  have hb := B.bytes
  have hr := B.returns
  have hts := fun w (h : w ∈ wT) => atoms_spec (ws := wsBC_mixed) B.pre w (List.mem_cons_of_mem _ h)
  have hown : s.vm.findClass RBC = some m.cls := findClass_of_methodNamed B.named
  have hlocks := B.notSynchronized
  subst hsz
  have hD := hD0.self (sz := s.heap.size)
  generalize hAe : va_A [(q, .inr (0, [.ref sb, .ref co, .ref rk, .long f1, .long f2, .int bt])), (co, .inl (cI, 256, .inl C))] s.heap.size = A at hD ⊢
  have hA : ∀ q : Nat, s.heap.size ≤ q → A q := fun q h => by rw [← hAe]; exact Or.inr h
  have hl := lv_entry ([.ref q, .int a1, .int a2, .int a3, .int a4]) (n := 8) (Nat.le_of_ble_eq_true rfl)
  rw [lg_entry_eq]
  generalize (lg_sl ([.ref q, .int a1, .int a2, .int a3, .int a4]) ++ List.replicate (8 - (lg_sl ([.ref q, .int a1, .int a2, .int a3, .int a4])).length) Slot.unset).toArray = ls at hl ⊢
  have hl : lv_has ls 8 [(0, .ref q), (1, .int a1), (2, .int a2), (3, .int a3), (4, .int a4)] := hl
  refine xs_q (fun H Q hH hQ => ?_)
  have hS : va_S A s.heap H [] := by rw [hH]; exact va_S.rf
  have hP : va_P (dC, dI) vwCl [(q, .inr (0, [.ref sb, .ref co, .ref rk, .long f1, .long f2, .int bt])), (co, .inl (cI, 256, .inl C))] H := by rw [hH]; exact hP
  refine lv_aload_n hx hb dBC_mixed_0 rfl (lv_at hl 0 rfl) ?_
  refine va_get (D := (dC, dI)) (ci := 0) (v := .ref co) (C := RBC) (T := TBC) (N := 6) hx hb hts in_BC hown hK hP 0 rfl rfl 1 (by decide) (hts _ w_f_BC_13) (fun _ h9 => h9) rfl dBC_mixed_1 ?_
  refine lv_iload_n hx hb dBC_mixed_4 rfl (lv_at hl 2 rfl) ?_
  refine lv_bipush (v := nI 16) hx hb dBC_mixed_5 (by decide) ?_
  refine lv_iushr (v := j_ushr a2 (nI 16)) hx hb dBC_mixed_7 rfl ?_
  refine lv_sipush (v := nI 255) hx hb dBC_mixed_8 (by decide) ?_
  refine lv_iand hx hb dBC_mixed_11 ?_
  refine xt_i (y := nI (bs_by a2 16)) (bs_by16 _) ?_
  refine xa_iald hx hb hK hP 1 0 rfl rfl (bs_by a2 16) (bs_by_lt _ _) (by decide) dBC_mixed_12 ?_
  refine lv_istore (lv' := [(5, .int (C (bs_by a2 16))), (0, .ref q), (1, .int a1), (2, .int a2), (3, .int a3), (4, .int a4)]) hx hb dBC_mixed_13 hl (by decide) rfl (fun ls hl => ?_)
  refine lv_aload_n hx hb dBC_mixed_15 rfl (lv_at hl 1 rfl) ?_
  refine va_get (D := (dC, dI)) (ci := 0) (v := .ref co) (C := RBC) (T := TBC) (N := 6) hx hb hts in_BC hown hK hP 0 rfl rfl 1 (by decide) (hts _ w_f_BC_13) (fun _ h9 => h9) rfl dBC_mixed_16 ?_
  refine lv_iload_n hx hb dBC_mixed_19 rfl (lv_at hl 4 rfl) ?_
  refine lv_bipush (v := nI 8) hx hb dBC_mixed_20 (by decide) ?_
  refine lv_iushr (v := j_ushr a3 (nI 8)) hx hb dBC_mixed_22 rfl ?_
  refine lv_sipush (v := nI 255) hx hb dBC_mixed_23 (by decide) ?_
  refine lv_iand hx hb dBC_mixed_26 ?_
  refine xt_i (y := nI (bs_by a3 8)) (bs_by8 _) ?_
  refine xa_iald hx hb hK hP 1 0 rfl rfl (bs_by a3 8) (bs_by_lt _ _) (by decide) dBC_mixed_27 ?_
  refine lv_istore (lv' := [(6, .int (C (bs_by a3 8))), (5, .int (C (bs_by a2 16))), (0, .ref q), (1, .int a1), (2, .int a2), (3, .int a3), (4, .int a4)]) hx hb dBC_mixed_28 hl (by decide) rfl (fun ls hl => ?_)
  refine lv_aload_n hx hb dBC_mixed_30 rfl (lv_at hl 2 rfl) ?_
  refine va_get (D := (dC, dI)) (ci := 0) (v := .ref co) (C := RBC) (T := TBC) (N := 6) hx hb hts in_BC hown hK hP 0 rfl rfl 1 (by decide) (hts _ w_f_BC_13) (fun _ h9 => h9) rfl dBC_mixed_31 ?_
  refine lv_iload hx hb dBC_mixed_34 (lv_at hl 6 rfl) ?_
  refine lv_sipush (v := nI 255) hx hb dBC_mixed_36 (by decide) ?_
  refine lv_iand hx hb dBC_mixed_39 ?_
  refine xt_i (y := nI (bs_by a4 0)) (bs_by0 _) ?_
  refine xa_iald hx hb hK hP 1 0 rfl rfl (bs_by a4 0) (bs_by_lt _ _) (by decide) dBC_mixed_40 ?_
  refine lv_istore (lv' := [(7, .int (C (bs_by a4 0))), (6, .int (C (bs_by a3 8))), (5, .int (C (bs_by a2 16))), (0, .ref q), (1, .int a1), (2, .int a2), (3, .int a3), (4, .int a4)]) hx hb dBC_mixed_41 hl (by decide) rfl (fun ls hl => ?_)
  refine lv_aload_n hx hb dBC_mixed_43 rfl (lv_at hl 3 rfl) ?_
  refine va_get (D := (dC, dI)) (ci := 0) (v := .ref co) (C := RBC) (T := TBC) (N := 6) hx hb hts in_BC hown hK hP 0 rfl rfl 1 (by decide) (hts _ w_f_BC_13) (fun _ h9 => h9) rfl dBC_mixed_44 ?_
  refine lv_iload_n hx hb dBC_mixed_47 rfl (lv_at hl 4 rfl) ?_
  refine lv_bipush (v := nI 24) hx hb dBC_mixed_48 (by decide) ?_
  refine lv_iushr (v := j_ushr a1 (nI 24)) hx hb dBC_mixed_50 rfl ?_
  refine xt_i (y := nI (bs_by a1 24)) (bs_by24 _) ?_
  refine xa_iald hx hb hK hP 1 0 rfl rfl (bs_by a1 24) (bs_by_lt _ _) (by decide) dBC_mixed_51 ?_
  refine lv_iload hx hb dBC_mixed_52 (lv_at hl 2 rfl) ?_
  refine lv_bipush (v := nI 8) hx hb dBC_mixed_54 (by decide) ?_
  refine lv_iushr (v := j_ushr (C (bs_by a2 16)) (nI 8)) hx hb dBC_mixed_56 rfl ?_
  refine lv_iload hx hb dBC_mixed_57 (lv_at hl 2 rfl) ?_
  refine lv_bipush (v := nI 24) hx hb dBC_mixed_59 (by decide) ?_
  refine lv_ishl hx hb dBC_mixed_61 ?_
  refine lv_ior hx hb dBC_mixed_62 ?_
  refine lv_ixor hx hb dBC_mixed_63 ?_
  refine lv_iload hx hb dBC_mixed_64 (lv_at hl 1 rfl) ?_
  refine lv_bipush (v := nI 16) hx hb dBC_mixed_66 (by decide) ?_
  refine lv_iushr (v := j_ushr (C (bs_by a3 8)) (nI 16)) hx hb dBC_mixed_68 rfl ?_
  refine lv_iload hx hb dBC_mixed_69 (lv_at hl 1 rfl) ?_
  refine lv_bipush (v := nI 16) hx hb dBC_mixed_71 (by decide) ?_
  refine lv_ishl hx hb dBC_mixed_73 ?_
  refine lv_ior hx hb dBC_mixed_74 ?_
  refine lv_ixor hx hb dBC_mixed_75 ?_
  refine lv_iload hx hb dBC_mixed_76 (lv_at hl 0 rfl) ?_
  refine lv_bipush (v := nI 24) hx hb dBC_mixed_78 (by decide) ?_
  refine lv_iushr (v := j_ushr (C (bs_by a4 0)) (nI 24)) hx hb dBC_mixed_80 rfl ?_
  refine lv_iload hx hb dBC_mixed_81 (lv_at hl 0 rfl) ?_
  refine lv_bipush (v := nI 8) hx hb dBC_mixed_83 (by decide) ?_
  refine lv_ishl hx hb dBC_mixed_85 ?_
  refine lv_ior hx hb dBC_mixed_86 ?_
  refine lv_ixor hx hb dBC_mixed_87 ?_
  have hP : va_P (dC, dI) vwCl [(q, .inr (0, [.ref sb, .ref co, .ref rk, .long f1, .long f2, .int bt])), (co, .inl (cI, 256, .inl C))] H := hP
  have hD : va_D A [(q, .inr (0, [.ref sb, .ref co, .ref rk, .long f1, .long f2, .int bt])), (co, .inl (cI, 256, .inl C))] := hD
  subst hQ
  exact W.iret (v := (((C (bs_by a1 24)) ^^^ ((j_ushr (C (bs_by a2 16)) (nI 8)) ||| ((C (bs_by a2 16)) <<< ((nI 24) &&& 31)))) ^^^ ((j_ushr (C (bs_by a3 8)) (nI 16)) ||| ((C (bs_by a3 8)) <<< ((nI 16) &&& 31)))) ^^^ ((j_ushr (C (bs_by a4 0)) (nI 24)) ||| ((C (bs_by a4 0)) <<< ((nI 8) &&& 31)))) hx hb hr (fun t ht hW => ⟨⟨(((C (bs_by a1 24)) ^^^ ((j_ushr (C (bs_by a2 16)) (nI 8)) ||| ((C (bs_by a2 16)) <<< ((nI 24) &&& 31)))) ^^^ ((j_ushr (C (bs_by a3 8)) (nI 16)) ||| ((C (bs_by a3 8)) <<< ((nI 16) &&& 31)))) ^^^ ((j_ushr (C (bs_by a4 0)) (nI 24)) ||| ((C (bs_by a4 0)) <<< ((nI 8) &&& 31))), (), rfl, rfl, by rw [ht]; exact hP, va_K.moved hW.alike hK, hD⟩, hS.F ht⟩) hS.2.2 dBC_mixed_88
set_option maxHeartbeats 4000000 in
set_option maxRecDepth 100000 in
theorem c_BC_substituted (l : Launch) (dC : Nat → ClassId) (dI : Nat → Nat → Nat) (sz : Nat) (q sb co rk : Nat) (f1 f2 : Int64) (bt : Int32) (cI : ClassId) (S : Nat → Int32) (a1 a2 a3 a4 : Int32)  : Met l yBC_substituted wsBC_substituted { frames := 0, cells := 0, slots := 0, locals := 0 } (va_Pc [.ref q, .int a1, .int a2, .int a3, .int a4] (fun U => U.heap.size = sz ∧ va_P (dC, dI) vwCl [(q, .inr (0, [.ref sb, .ref co, .ref rk, .long f1, .long f2, .int bt])), (sb, .inl (cI, 256, .inl S))] U.heap ∧ va_K (dC, dI) vwCl [(cI, .int)] U ∧ va_D (fun _ => True) [(q, .inr (0, [.ref sb, .ref co, .ref rk, .long f1, .long f2, .int bt])), (sb, .inl (cI, 256, .inl S))])) (va_Qi (fun (r : Int32) (_ : Unit) => r = bs_sbt S a1 a2 a3 a4) (fun (_ : Unit) t => va_P (dC, dI) vwCl [(q, .inr (0, [.ref sb, .ref co, .ref rk, .long f1, .long f2, .int bt])), (sb, .inl (cI, 256, .inl S))] t.heap ∧ va_K (dC, dI) vwCl [(cI, .int)] t ∧ va_D (va_A [(q, .inr (0, [.ref sb, .ref co, .ref rk, .long f1, .long f2, .int bt])), (sb, .inl (cI, 256, .inl S))] sz) [(q, .inr (0, [.ref sb, .ref co, .ref rk, .long f1, .long f2, .int bt])), (sb, .inl (cI, 256, .inl S))]) (va_A [(q, .inr (0, [.ref sb, .ref co, .ref rk, .long f1, .long f2, .int bt])), (sb, .inl (cI, 256, .inl S))] sz)) 0 0 (va_A [(q, .inr (0, [.ref sb, .ref co, .ref rk, .long f1, .long f2, .int bt])), (sb, .inl (cI, 256, .inl S))] sz) := by
  refine Met.ofW (cc := cBC_substituted) (maxL := 5) (ret := (some .int)) (by decide) rfl ?_
  intro p e s m args below meth c s₁ B hml hv
  obtain ⟨rfl, hsz, hP, hK, hD0⟩ := hv
  have hx := B.exec
  have hb := B.bytes
  have hr := B.returns
  have hts := fun w (h : w ∈ wT) => atoms_spec (ws := wsBC_substituted) B.pre w (List.mem_cons_of_mem _ h)
  have hown : s.vm.findClass RBC = some m.cls := findClass_of_methodNamed B.named
  have hlocks := B.notSynchronized
  subst hsz
  have hD := hD0.self (sz := s.heap.size)
  generalize hAe : va_A [(q, .inr (0, [.ref sb, .ref co, .ref rk, .long f1, .long f2, .int bt])), (sb, .inl (cI, 256, .inl S))] s.heap.size = A at hD ⊢
  have hA : ∀ q : Nat, s.heap.size ≤ q → A q := fun q h => by rw [← hAe]; exact Or.inr h
  have hl := lv_entry ([.ref q, .int a1, .int a2, .int a3, .int a4]) (n := 5) (Nat.le_of_ble_eq_true rfl)
  rw [lg_entry_eq]
  generalize (lg_sl ([.ref q, .int a1, .int a2, .int a3, .int a4]) ++ List.replicate (5 - (lg_sl ([.ref q, .int a1, .int a2, .int a3, .int a4])).length) Slot.unset).toArray = ls at hl ⊢
  have hl : lv_has ls 5 [(0, .ref q), (1, .int a1), (2, .int a2), (3, .int a3), (4, .int a4)] := hl
  refine xs_q (fun H Q hH hQ => ?_)
  have hS : va_S A s.heap H [] := by rw [hH]; exact va_S.rf
  have hP : va_P (dC, dI) vwCl [(q, .inr (0, [.ref sb, .ref co, .ref rk, .long f1, .long f2, .int bt])), (sb, .inl (cI, 256, .inl S))] H := by rw [hH]; exact hP
  refine lv_aload_n hx hb dBC_substituted_0 rfl (lv_at hl 0 rfl) ?_
  refine va_get (D := (dC, dI)) (ci := 0) (v := .ref sb) (C := RBC) (T := TBC) (N := 6) hx hb hts in_BC hown hK hP 0 rfl rfl 0 (by decide) (hts _ w_f_BC_7) (fun _ h9 => h9) rfl dBC_substituted_1 ?_
  refine lv_iload_n hx hb dBC_substituted_4 rfl (lv_at hl 1 rfl) ?_
  refine lv_bipush (v := nI 24) hx hb dBC_substituted_5 (by decide) ?_
  refine lv_iushr (v := j_ushr a1 (nI 24)) hx hb dBC_substituted_7 rfl ?_
  refine xt_i (y := nI (bs_by a1 24)) (bs_by24 _) ?_
  refine xa_iald hx hb hK hP 1 0 rfl rfl (bs_by a1 24) (bs_by_lt _ _) (by decide) dBC_substituted_8 ?_
  refine lv_bipush (v := nI 24) hx hb dBC_substituted_9 (by decide) ?_
  refine lv_ishl hx hb dBC_substituted_11 ?_
  refine lv_aload_n hx hb dBC_substituted_12 rfl (lv_at hl 0 rfl) ?_
  refine va_get (D := (dC, dI)) (ci := 0) (v := .ref sb) (C := RBC) (T := TBC) (N := 6) hx hb hts in_BC hown hK hP 0 rfl rfl 0 (by decide) (hts _ w_f_BC_7) (fun _ h9 => h9) rfl dBC_substituted_13 ?_
  refine lv_iload_n hx hb dBC_substituted_16 rfl (lv_at hl 2 rfl) ?_
  refine lv_bipush (v := nI 16) hx hb dBC_substituted_17 (by decide) ?_
  refine lv_iushr (v := j_ushr a2 (nI 16)) hx hb dBC_substituted_19 rfl ?_
  refine lv_sipush (v := nI 255) hx hb dBC_substituted_20 (by decide) ?_
  refine lv_iand hx hb dBC_substituted_23 ?_
  refine xt_i (y := nI (bs_by a2 16)) (bs_by16 _) ?_
  refine xa_iald hx hb hK hP 1 0 rfl rfl (bs_by a2 16) (bs_by_lt _ _) (by decide) dBC_substituted_24 ?_
  refine lv_bipush (v := nI 16) hx hb dBC_substituted_25 (by decide) ?_
  refine lv_ishl hx hb dBC_substituted_27 ?_
  refine lv_ior hx hb dBC_substituted_28 ?_
  refine lv_aload_n hx hb dBC_substituted_29 rfl (lv_at hl 0 rfl) ?_
  refine va_get (D := (dC, dI)) (ci := 0) (v := .ref sb) (C := RBC) (T := TBC) (N := 6) hx hb hts in_BC hown hK hP 0 rfl rfl 0 (by decide) (hts _ w_f_BC_7) (fun _ h9 => h9) rfl dBC_substituted_30 ?_
  refine lv_iload_n hx hb dBC_substituted_33 rfl (lv_at hl 3 rfl) ?_
  refine lv_bipush (v := nI 8) hx hb dBC_substituted_34 (by decide) ?_
  refine lv_iushr (v := j_ushr a3 (nI 8)) hx hb dBC_substituted_36 rfl ?_
  refine lv_sipush (v := nI 255) hx hb dBC_substituted_37 (by decide) ?_
  refine lv_iand hx hb dBC_substituted_40 ?_
  refine xt_i (y := nI (bs_by a3 8)) (bs_by8 _) ?_
  refine xa_iald hx hb hK hP 1 0 rfl rfl (bs_by a3 8) (bs_by_lt _ _) (by decide) dBC_substituted_41 ?_
  refine lv_bipush (v := nI 8) hx hb dBC_substituted_42 (by decide) ?_
  refine lv_ishl hx hb dBC_substituted_44 ?_
  refine lv_ior hx hb dBC_substituted_45 ?_
  refine lv_aload_n hx hb dBC_substituted_46 rfl (lv_at hl 0 rfl) ?_
  refine va_get (D := (dC, dI)) (ci := 0) (v := .ref sb) (C := RBC) (T := TBC) (N := 6) hx hb hts in_BC hown hK hP 0 rfl rfl 0 (by decide) (hts _ w_f_BC_7) (fun _ h9 => h9) rfl dBC_substituted_47 ?_
  refine lv_iload hx hb dBC_substituted_50 (lv_at hl 4 rfl) ?_
  refine lv_sipush (v := nI 255) hx hb dBC_substituted_52 (by decide) ?_
  refine lv_iand hx hb dBC_substituted_55 ?_
  refine xt_i (y := nI (bs_by a4 0)) (bs_by0 _) ?_
  refine xa_iald hx hb hK hP 1 0 rfl rfl (bs_by a4 0) (bs_by_lt _ _) (by decide) dBC_substituted_56 ?_
  refine lv_ior hx hb dBC_substituted_57 ?_
  have hP : va_P (dC, dI) vwCl [(q, .inr (0, [.ref sb, .ref co, .ref rk, .long f1, .long f2, .int bt])), (sb, .inl (cI, 256, .inl S))] H := hP
  have hD : va_D A [(q, .inr (0, [.ref sb, .ref co, .ref rk, .long f1, .long f2, .int bt])), (sb, .inl (cI, 256, .inl S))] := hD
  subst hQ
  exact W.iret (v := ((((S (bs_by a1 24)) <<< ((nI 24) &&& 31)) ||| ((S (bs_by a2 16)) <<< ((nI 16) &&& 31))) ||| ((S (bs_by a3 8)) <<< ((nI 8) &&& 31))) ||| (S (bs_by a4 0))) hx hb hr (fun t ht hW => ⟨⟨((((S (bs_by a1 24)) <<< ((nI 24) &&& 31)) ||| ((S (bs_by a2 16)) <<< ((nI 16) &&& 31))) ||| ((S (bs_by a3 8)) <<< ((nI 8) &&& 31))) ||| (S (bs_by a4 0)), (), rfl, rfl, by rw [ht]; exact hP, va_K.moved hW.alike hK, hD⟩, hS.F ht⟩) hS.2.2 dBC_substituted_58
