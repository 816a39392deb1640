/-! BlockCipher: setTables, fillTables, fillRoundKeys -/
theorem bs_stx : ∀ iv, iv < 256 → (((((((nI iv) ||| (nI (iv * 2 ^ 8))) ^^^ (j_ushr ((nI iv) ||| (nI (iv * 2 ^ 8))) (nI 4))) ^^^ (j_ushr ((nI iv) ||| (nI (iv * 2 ^ 8))) (nI 5))) ^^^ (j_ushr ((nI iv) ||| (nI (iv * 2 ^ 8))) (nI 6))) ^^^ (j_ushr ((nI iv) ||| (nI (iv * 2 ^ 8))) (nI 7))) ^^^ (nI 99)) &&& (nI 255) = nI (bs_sp iv 8) := bs_dec (by decide +kernel)
theorem bs_ctx : ∀ n9, n9 < 256 → (((nI ((bs_tX n9) * 2 ^ 24)) ||| (nI (n9 * 2 ^ 16))) ||| (nI (n9 * 2 ^ 8))) ||| (nI ((bs_tX n9) ^^^ n9)) = bs_ct n9 := bs_dec (by decide +kernel)
set_option maxHeartbeats 4000000 in
set_option maxRecDepth 100000 in
theorem c_BC_setTables (l : Launch) (dC : Nat → ClassId) (dI : Nat → Nat → Nat) (sz : Nat) (q sb co rk : Nat) (f1 f2 : Int64) (bt : Int32) (cI : ClassId) (S C : Nat → Int32) (b9 iv : Nat) (hb9 : b9 < 256) (hiv : iv < 256) : Met l yBC_setTables wsBC_setTables { frames := 1, cells := 0, slots := 0, locals := 20 } (va_Pc [.ref q, .int (nI b9), .int (nI iv)] (fun U => U.heap.size = sz ∧ va_P (dC, dI) vwCl [(q, .inr (0, [.ref sb, .ref co, .ref rk, .long f1, .long f2, .int bt])), (sb, .inl (cI, 256, .inl S)), (co, .inl (cI, 256, .inl C))] U.heap ∧ va_K (dC, dI) vwCl [(cI, .int)] U ∧ va_D (fun _ => True) [(q, .inr (0, [.ref sb, .ref co, .ref rk, .long f1, .long f2, .int bt])), (sb, .inl (cI, 256, .inl S)), (co, .inl (cI, 256, .inl C))])) (va_Qv (fun (_ : Unit) => True) (fun (_ : Unit) t => va_P (dC, dI) vwCl [(q, .inr (0, [.ref sb, .ref co, .ref rk, .long f1, .long f2, .int bt])), (sb, .inl (cI, 256, .inl (upd S b9 (nI (bs_sp iv 8))))), (co, .inl (cI, 256, .inl (upd C b9 (bs_ct (bs_sp iv 8)))))] t.heap ∧ va_K (dC, dI) vwCl [(cI, .int)] t ∧ va_D (va_A [(q, .inr (0, [.ref sb, .ref co, .ref rk, .long f1, .long f2, .int bt])), (sb, .inl (cI, 256, .inl S)), (co, .inl (cI, 256, .inl C))] sz) [(q, .inr (0, [.ref sb, .ref co, .ref rk, .long f1, .long f2, .int bt])), (sb, .inl (cI, 256, .inl (upd S b9 (nI (bs_sp iv 8))))), (co, .inl (cI, 256, .inl (upd C b9 (bs_ct (bs_sp iv 8)))))]) (va_A [(q, .inr (0, [.ref sb, .ref co, .ref rk, .long f1, .long f2, .int bt])), (sb, .inl (cI, 256, .inl S)), (co, .inl (cI, 256, .inl C))] sz)) 0 0 (va_A [(q, .inr (0, [.ref sb, .ref co, .ref rk, .long f1, .long f2, .int bt])), (sb, .inl (cI, 256, .inl S)), (co, .inl (cI, 256, .inl C))] sz) := by
  refine Met.ofW (cc := cBC_setTables) (maxL := 5) (ret := none) (by decide) rfl ?_
  intro p e s m args below meth c s₁ Bo9 hml hv
  obtain ⟨rfl, hsz, hP, hK, hD0⟩ := hv
  have hx := Bo9.exec
  have hb := Bo9.bytes
  have hr := Bo9.returns
  have hts := fun w (h : w ∈ wT) => atoms_spec (ws := wsBC_setTables) Bo9.pre w (List.mem_cons_of_mem _ h)
  have hown : s.vm.findClass RBC = some m.cls := findClass_of_methodNamed Bo9.named
  have hlocks := Bo9.notSynchronized
  subst hsz
  have hD := hD0.self (sz := s.heap.size)
  generalize hAe : va_A [(q, .inr (0, [.ref sb, .ref co, .ref rk, .long f1, .long f2, .int bt])), (sb, .inl (cI, 256, .inl S)), (co, .inl (cI, 256, .inl C))] s.heap.size = A at hD ⊢
  have hA : ∀ q : Nat, s.heap.size ≤ q → A q := fun q h => by rw [← hAe]; exact Or.inr h
  have hl := lv_entry ([.ref q, .int (nI b9), .int (nI iv)]) (n := 5) (Nat.le_of_ble_eq_true rfl)
  rw [lg_entry_eq]
  generalize (lg_sl ([.ref q, .int (nI b9), .int (nI iv)]) ++ List.replicate (5 - (lg_sl ([.ref q, .int (nI b9), .int (nI iv)])).length) Slot.unset).toArray = ls at hl ⊢
  have hl : lv_has ls 5 [(0, .ref q), (1, .int (nI b9)), (2, .int (nI iv))] := hl
  refine xs_q (fun H Q hH hQ => ?_)
  have hS : va_S A s.heap H [] := by rw [hH]; exact va_S.rf
  have hP : va_P (dC, dI) vwCl [(q, .inr (0, [.ref sb, .ref co, .ref rk, .long f1, .long f2, .int bt])), (sb, .inl (cI, 256, .inl S)), (co, .inl (cI, 256, .inl C))] H := by rw [hH]; exact hP
  refine lv_iload_n hx hb dBC_setTables_0 rfl (lv_at hl 2 rfl) ?_
  refine lv_iload_n hx hb dBC_setTables_1 rfl (lv_at hl 2 rfl) ?_
  refine lv_bipush (v := nI 8) hx hb dBC_setTables_2 (by decide) ?_
  refine lv_ishl hx hb dBC_setTables_4 ?_
  refine xt_i (y := nI (iv * 2 ^ 8)) (xi_shl _ _ (by decide)) ?_
  refine lv_ior hx hb dBC_setTables_5 ?_
  refine lv_istore_n (lv' := [(3, .int ((nI iv) ||| (nI (iv * 2 ^ 8)))), (0, .ref q), (1, .int (nI b9)), (2, .int (nI iv))]) hx hb dBC_setTables_6 rfl hl (by decide) rfl (fun ls hl => ?_)
  refine lv_iload_n hx hb dBC_setTables_7 rfl (lv_at hl 0 rfl) ?_
  refine lv_iload_n hx hb dBC_setTables_8 rfl (lv_at hl 0 rfl) ?_
  refine lv_iconst (v := nI 4) hx hb dBC_setTables_9 (by decide) ?_
  refine lv_iushr (v := j_ushr ((nI iv) ||| (nI (iv * 2 ^ 8))) (nI 4)) hx hb dBC_setTables_10 rfl ?_
  refine lv_ixor hx hb dBC_setTables_11 ?_
  refine lv_iload_n hx hb dBC_setTables_12 rfl (lv_at hl 0 rfl) ?_
  refine lv_iconst (v := nI 5) hx hb dBC_setTables_13 (by decide) ?_
  refine lv_iushr (v := j_ushr ((nI iv) ||| (nI (iv * 2 ^ 8))) (nI 5)) hx hb dBC_setTables_14 rfl ?_
  refine lv_ixor hx hb dBC_setTables_15 ?_
  refine lv_iload_n hx hb dBC_setTables_16 rfl (lv_at hl 0 rfl) ?_
  refine lv_bipush (v := nI 6) hx hb dBC_setTables_17 (by decide) ?_
  refine lv_iushr (v := j_ushr ((nI iv) ||| (nI (iv * 2 ^ 8))) (nI 6)) hx hb dBC_setTables_19 rfl ?_
  refine lv_ixor hx hb dBC_setTables_20 ?_
  refine lv_iload_n hx hb dBC_setTables_21 rfl (lv_at hl 0 rfl) ?_
  refine lv_bipush (v := nI 7) hx hb dBC_setTables_22 (by decide) ?_
  refine lv_iushr (v := j_ushr ((nI iv) ||| (nI (iv * 2 ^ 8))) (nI 7)) hx hb dBC_setTables_24 rfl ?_
  refine lv_ixor hx hb dBC_setTables_25 ?_
  refine lv_bipush (v := nI 99) hx hb dBC_setTables_26 (by decide) ?_
  refine lv_ixor hx hb dBC_setTables_28 ?_
  refine lv_sipush (v := nI 255) hx hb dBC_setTables_29 (by decide) ?_
  refine lv_iand hx hb dBC_setTables_32 ?_
  refine xt_i (y := nI (bs_sp iv 8)) (bs_stx iv hiv) ?_
  have hs9 := bs_sp_lt iv hiv
  refine lv_istore (lv' := [(4, .int (nI (bs_sp iv 8))), (3, .int ((nI iv) ||| (nI (iv * 2 ^ 8)))), (0, .ref q), (1, .int (nI b9)), (2, .int (nI iv))]) hx hb dBC_setTables_33 hl (by decide) rfl (fun ls hl => ?_)
  refine lv_aload_n hx hb dBC_setTables_35 rfl (lv_at hl 2 rfl) ?_
  refine va_get (D := (dC, dI)) (ci := 0) (v := .ref sb) (C := RBC) (T := TBC) (N := 6) hx hb hts in_BC hown hK hP 0 rfl rfl 0 (by decide) (hts _ w_f_BC_7) (fun _ h9 => h9) rfl dBC_setTables_36 ?_
  refine lv_iload_n hx hb dBC_setTables_39 rfl (lv_at hl 3 rfl) ?_
  refine lv_iload hx hb dBC_setTables_40 (lv_at hl 0 rfl) ?_
  refine xa_iast hx hb hK hP hD hS 1 0 rfl rfl b9 (by omega) (by decide) dBC_setTables_42 (fun H locs hP hD hS => ?_)
  have hP : va_P (dC, dI) vwCl [(q, .inr (0, [.ref sb, .ref co, .ref rk, .long f1, .long f2, .int bt])), (sb, .inl (cI, 256, .inl (upd S b9 (nI (bs_sp iv 8))))), (co, .inl (cI, 256, .inl C))] H := hP
  have hD : va_D A [(q, .inr (0, [.ref sb, .ref co, .ref rk, .long f1, .long f2, .int bt])), (sb, .inl (cI, 256, .inl (upd S b9 (nI (bs_sp iv 8))))), (co, .inl (cI, 256, .inl C))] := hD
  refine lv_aload_n hx hb dBC_setTables_43 rfl (lv_at hl 2 rfl) ?_
  refine va_get (D := (dC, dI)) (ci := 0) (v := .ref co) (C := RBC) (T := TBC) (N := 6) hx hb hts in_BC hown hK hP 0 rfl rfl 1 (by decide) (hts _ w_f_BC_13) (fun _ h9 => h9) rfl dBC_setTables_44 ?_
  refine lv_iload_n hx hb dBC_setTables_47 rfl (lv_at hl 3 rfl) ?_
  refine lv_iload hx hb dBC_setTables_48 (lv_at hl 0 rfl) ?_
  have hPc := hP.sub (ws' := []) [] rfl
  have hDc := hD.sub (ws' := []) [] (by decide) rfl
  have hKc := hK.sub (tys' := []) [] rfl
  have hFc := va_free (wc := []) hD hS hA [] rfl
  refine va_calli (va_runS (As := [.int (nI (bs_sp iv 8))]) (rest := [.int (nI b9), .ref co]) ⟨hx, hb, hml, hown, hts⟩ (c_BC_timesX l dC dI H.size (bs_sp iv 8) hs9) (va_cwS 1 hts (wT_3 w_m_BC_56 w_t_BC_timesX w_n_BC w_c_BC_timesX) rfl rfl rfl (by decide +kernel) ⟨Nat.le_of_ble_eq_true rfl, Nat.le_of_ble_eq_true rfl⟩) ⟨fun a U g mk q => by obtain ⟨q0, q1, qP, qK, qD⟩ := q; exact ⟨q0, q1, qP, va_K.moved (u := U) (U := U.calling g mk a) (Vm.Alike.refl U.vm) qK, qD⟩, fun U hU hW => ⟨rfl, by rw [hU], by rw [hU]; exact hPc, va_K.moved hW.alike hKc, hDc.weaken (fun _ _ _ _ => trivial)⟩⟩ rfl rfl hl.1 rfl (lv_room (Nat.le_of_ble_eq_true rfl)) dBC_setTables_50 ⟨Nat.zero_le _, Nat.zero_le _⟩) hS (fun q _ h => hFc q h) hFc (fun r u t H1 locs ht hvm hw hB hz1 hk1 hS => ?_)
  obtain ⟨hP1, hK1, hD1⟩ := hB
  rw [ht] at hP1
  have hK1 := va_K.moved hvm.symm hK1
  have hw : r = nI (bs_tX (bs_sp iv 8)) := hw
  rw [hw]
  obtain ⟨hP, hD⟩ := va_join (wr := [(q, .inr (0, [.ref sb, .ref co, .ref rk, .long f1, .long f2, .int bt])), (sb, .inl (cI, 256, .inl (upd S b9 (nI (bs_sp iv 8))))), (co, .inl (cI, 256, .inl C))]) (w1 := []) hP hD [] [0, 1, 2] rfl rfl (by decide) (by decide) hk1 hFc hP1 hD1
  generalize H1 = H at hP hS ⊢
  have hP : va_P (dC, dI) vwCl [(q, .inr (0, [.ref sb, .ref co, .ref rk, .long f1, .long f2, .int bt])), (sb, .inl (cI, 256, .inl (upd S b9 (nI (bs_sp iv 8))))), (co, .inl (cI, 256, .inl C))] H := hP
  have hD : va_D A [(q, .inr (0, [.ref sb, .ref co, .ref rk, .long f1, .long f2, .int bt])), (sb, .inl (cI, 256, .inl (upd S b9 (nI (bs_sp iv 8))))), (co, .inl (cI, 256, .inl C))] := hD
  refine lv_bipush (v := nI 24) hx hb dBC_setTables_53 (by decide) ?_
  refine lv_ishl hx hb dBC_setTables_55 ?_
  refine xt_i (y := nI ((bs_tX (bs_sp iv 8)) * 2 ^ 24)) (xi_shl _ _ (by decide)) ?_
  refine lv_iload hx hb dBC_setTables_56 (lv_at hl 0 rfl) ?_
  refine lv_bipush (v := nI 16) hx hb dBC_setTables_58 (by decide) ?_
  refine lv_ishl hx hb dBC_setTables_60 ?_
  refine xt_i (y := nI ((bs_sp iv 8) * 2 ^ 16)) (xi_shl _ _ (by decide)) ?_
  refine lv_ior hx hb dBC_setTables_61 ?_
  refine lv_iload hx hb dBC_setTables_62 (lv_at hl 0 rfl) ?_
  refine lv_bipush (v := nI 8) hx hb dBC_setTables_64 (by decide) ?_
  refine lv_ishl hx hb dBC_setTables_66 ?_
  refine xt_i (y := nI ((bs_sp iv 8) * 2 ^ 8)) (xi_shl _ _ (by decide)) ?_
  refine lv_ior hx hb dBC_setTables_67 ?_
  refine lv_iload hx hb dBC_setTables_68 (lv_at hl 0 rfl) ?_
  have hPc := hP.sub (ws' := []) [] rfl
  have hDc := hD.sub (ws' := []) [] (by decide) rfl
  have hKc := hK.sub (tys' := []) [] rfl
  have hFc := va_free (wc := []) hD hS hA [] rfl
  refine va_calli (va_runS (As := [.int (nI (bs_sp iv 8))]) (rest := [.int (((nI ((bs_tX (bs_sp iv 8)) * 2 ^ 24)) ||| (nI ((bs_sp iv 8) * 2 ^ 16))) ||| (nI ((bs_sp iv 8) * 2 ^ 8))), .int (nI b9), .ref co]) ⟨hx, hb, hml, hown, hts⟩ (c_BC_timesX l dC dI H.size (bs_sp iv 8) hs9) (va_cwS 1 hts (wT_3 w_m_BC_56 w_t_BC_timesX w_n_BC w_c_BC_timesX) rfl rfl rfl (by decide +kernel) ⟨Nat.le_of_ble_eq_true rfl, Nat.le_of_ble_eq_true rfl⟩) ⟨fun a U g mk q => by obtain ⟨q0, q1, qP, qK, qD⟩ := q; exact ⟨q0, q1, qP, va_K.moved (u := U) (U := U.calling g mk a) (Vm.Alike.refl U.vm) qK, qD⟩, fun U hU hW => ⟨rfl, by rw [hU], by rw [hU]; exact hPc, va_K.moved hW.alike hKc, hDc.weaken (fun _ _ _ _ => trivial)⟩⟩ rfl rfl hl.1 rfl (lv_room (Nat.le_of_ble_eq_true rfl)) dBC_setTables_70 ⟨Nat.zero_le _, Nat.zero_le _⟩) hS (fun q _ h => hFc q h) hFc (fun r u t H1 locs ht hvm hw hB hz1 hk1 hS => ?_)
  obtain ⟨hP1, hK1, hD1⟩ := hB
  rw [ht] at hP1
  have hK1 := va_K.moved hvm.symm hK1
  have hw : r = nI (bs_tX (bs_sp iv 8)) := hw
  rw [hw]
  obtain ⟨hP, hD⟩ := va_join (wr := [(q, .inr (0, [.ref sb, .ref co, .ref rk, .long f1, .long f2, .int bt])), (sb, .inl (cI, 256, .inl (upd S b9 (nI (bs_sp iv 8))))), (co, .inl (cI, 256, .inl C))]) (w1 := []) hP hD [] [0, 1, 2] rfl rfl (by decide) (by decide) hk1 hFc hP1 hD1
  generalize H1 = H at hP hS ⊢
  have hP : va_P (dC, dI) vwCl [(q, .inr (0, [.ref sb, .ref co, .ref rk, .long f1, .long f2, .int bt])), (sb, .inl (cI, 256, .inl (upd S b9 (nI (bs_sp iv 8))))), (co, .inl (cI, 256, .inl C))] H := hP
  have hD : va_D A [(q, .inr (0, [.ref sb, .ref co, .ref rk, .long f1, .long f2, .int bt])), (sb, .inl (cI, 256, .inl (upd S b9 (nI (bs_sp iv 8))))), (co, .inl (cI, 256, .inl C))] := hD
  refine lv_iload hx hb dBC_setTables_73 (lv_at hl 0 rfl) ?_
  refine lv_ixor hx hb dBC_setTables_75 ?_
  refine xt_i (y := nI ((bs_tX (bs_sp iv 8)) ^^^ (bs_sp iv 8))) (bs_nI_xor _ _) ?_
  refine lv_ior hx hb dBC_setTables_76 ?_
  refine xt_i (y := bs_ct (bs_sp iv 8)) (bs_ctx _ hs9) ?_
  refine xa_iast hx hb hK hP hD hS 2 0 rfl rfl b9 (by omega) (by decide) dBC_setTables_77 (fun H locs hP hD hS => ?_)
  have hP : va_P (dC, dI) vwCl [(q, .inr (0, [.ref sb, .ref co, .ref rk, .long f1, .long f2, .int bt])), (sb, .inl (cI, 256, .inl (upd S b9 (nI (bs_sp iv 8))))), (co, .inl (cI, 256, .inl (upd C b9 (bs_ct (bs_sp iv 8)))))] H := hP
  have hD : va_D A [(q, .inr (0, [.ref sb, .ref co, .ref rk, .long f1, .long f2, .int bt])), (sb, .inl (cI, 256, .inl (upd S b9 (nI (bs_sp iv 8))))), (co, .inl (cI, 256, .inl (upd C b9 (bs_ct (bs_sp iv 8)))))] := hD
  have hP : va_P (dC, dI) vwCl [(q, .inr (0, [.ref sb, .ref co, .ref rk, .long f1, .long f2, .int bt])), (sb, .inl (cI, 256, .inl (upd S b9 (nI (bs_sp iv 8))))), (co, .inl (cI, 256, .inl (upd C b9 (bs_ct (bs_sp iv 8)))))] H := hP
  have hD : va_D A [(q, .inr (0, [.ref sb, .ref co, .ref rk, .long f1, .long f2, .int bt])), (sb, .inl (cI, 256, .inl (upd S b9 (nI (bs_sp iv 8))))), (co, .inl (cI, 256, .inl (upd C b9 (bs_ct (bs_sp iv 8)))))] := hD
  subst hQ
  exact W.vret hx hb hr (fun t ht hW => ⟨⟨(), rfl, trivial, by rw [ht]; exact hP, va_K.moved hW.alike hK, hD⟩, hS.F ht⟩) hS.2.2 dBC_setTables_78
set_option maxHeartbeats 4000000 in
set_option maxRecDepth 100000 in
theorem c_BC_fillTables (l : Launch) (dC : Nat → ClassId) (dI : Nat → Nat → Nat) (sz : Nat) (q sb co rk : Nat) (f1 f2 : Int64) (bt : Int32) (cI : ClassId)  : Met l yBC_fillTables wsBC_fillTables { frames := 2, cells := 1, slots := 256, locals := 44 } (va_Pc [.ref q] (fun U => U.heap.size = sz ∧ va_P (dC, dI) vwCl [(q, .inr (0, [.ref sb, .ref co, .ref rk, .long f1, .long f2, .int bt])), (sb, .inl (cI, 256, .inl (fun _ => 0))), (co, .inl (cI, 256, .inl (fun _ => 0)))] U.heap ∧ va_K (dC, dI) vwCl [(cI, .int)] U ∧ va_D (fun _ => True) [(q, .inr (0, [.ref sb, .ref co, .ref rk, .long f1, .long f2, .int bt])), (sb, .inl (cI, 256, .inl (fun _ => 0))), (co, .inl (cI, 256, .inl (fun _ => 0)))])) (va_Qv (fun (_ : Unit) => True) (fun (_ : Unit) t => va_P (dC, dI) vwCl [(q, .inr (0, [.ref sb, .ref co, .ref rk, .long f1, .long f2, .int bt])), (sb, .inl (cI, 256, .inl bs_SBf)), (co, .inl (cI, 256, .inl bs_CTf))] t.heap ∧ va_K (dC, dI) vwCl [(cI, .int)] t ∧ va_D (va_A [(q, .inr (0, [.ref sb, .ref co, .ref rk, .long f1, .long f2, .int bt])), (sb, .inl (cI, 256, .inl (fun _ => 0))), (co, .inl (cI, 256, .inl (fun _ => 0)))] sz) [(q, .inr (0, [.ref sb, .ref co, .ref rk, .long f1, .long f2, .int bt])), (sb, .inl (cI, 256, .inl bs_SBf)), (co, .inl (cI, 256, .inl bs_CTf))]) (va_A [(q, .inr (0, [.ref sb, .ref co, .ref rk, .long f1, .long f2, .int bt])), (sb, .inl (cI, 256, .inl (fun _ => 0))), (co, .inl (cI, 256, .inl (fun _ => 0)))] sz)) 1 256 (va_A [(q, .inr (0, [.ref sb, .ref co, .ref rk, .long f1, .long f2, .int bt])), (sb, .inl (cI, 256, .inl (fun _ => 0))), (co, .inl (cI, 256, .inl (fun _ => 0)))] sz) := by
  refine Met.ofW (cc := cBC_fillTables) (maxL := 4) (ret := none) (by decide) rfl ?_
  intro p e s m args below meth c s₁ Bo9 hml hv
  obtain ⟨rfl, hsz, hP, hK, hD0⟩ := hv
  have hx := Bo9.exec
  have hb := Bo9.bytes
  have hr := Bo9.returns
  have hts := fun w (h : w ∈ wT) => atoms_spec (ws := wsBC_fillTables) Bo9.pre w (List.mem_cons_of_mem _ h)
  have hown : s.vm.findClass RBC = some m.cls := findClass_of_methodNamed Bo9.named
  have hlocks := Bo9.notSynchronized
  subst hsz
  have hD := hD0.self (sz := s.heap.size)
  generalize hAe : va_A [(q, .inr (0, [.ref sb, .ref co, .ref rk, .long f1, .long f2, .int bt])), (sb, .inl (cI, 256, .inl (fun _ => 0))), (co, .inl (cI, 256, .inl (fun _ => 0)))] s.heap.size = A at hD ⊢
  have hA : ∀ q : Nat, s.heap.size ≤ q → A q := fun q h => by rw [← hAe]; exact Or.inr h
  have hl := lv_entry ([.ref q]) (n := 4) (Nat.le_of_ble_eq_true rfl)
  rw [lg_entry_eq]
  generalize (lg_sl ([.ref q]) ++ List.replicate (4 - (lg_sl ([.ref q])).length) Slot.unset).toArray = ls at hl ⊢
  have hl : lv_has ls 4 [(0, .ref q)] := hl
  refine xs_q (fun H Q hH hQ => ?_)
  have hS : va_S A s.heap H [] := by rw [hH]; exact va_S.rf
  have hP : va_P (dC, dI) vwCl [(q, .inr (0, [.ref sb, .ref co, .ref rk, .long f1, .long f2, .int bt])), (sb, .inl (cI, 256, .inl (fun _ => 0))), (co, .inl (cI, 256, .inl (fun _ => 0)))] H := by rw [hH]; exact hP
  refine lv_sipush (v := nI 256) hx hb dBC_fillTables_0 (by decide) ?_
  refine va_newa (atype := .int) (ty := .int) (N' := 256) (a0 := (256, .inl (fun _ => 0))) hx hb (hts _ w_a_int) rfl hK hP hD hS hA (fun _ => rfl) (by decide +kernel) (by decide +kernel) (by decide +kernel) (Nat.le_of_ble_eq_true rfl) (Nat.le_of_ble_eq_true rfl) dBC_fillTables_3 (fun pw cA9 H hK9 hP hD hS => ?_)
  obtain rfl : cI = cA9 := xk_same hK9 0 1 rfl rfl
  clear hK9
  have hP : va_P (dC, dI) vwCl [(q, .inr (0, [.ref sb, .ref co, .ref rk, .long f1, .long f2, .int bt])), (sb, .inl (cI, 256, .inl (fun _ => 0))), (co, .inl (cI, 256, .inl (fun _ => 0))), (pw, .inl (cI, 256, .inl (fun _ => 0)))] H := hP
  have hD : va_D A [(q, .inr (0, [.ref sb, .ref co, .ref rk, .long f1, .long f2, .int bt])), (sb, .inl (cI, 256, .inl (fun _ => 0))), (co, .inl (cI, 256, .inl (fun _ => 0))), (pw, .inl (cI, 256, .inl (fun _ => 0)))] := hD
  refine lv_astore_n (lv' := [(1, .ref pw), (0, .ref q)]) hx hb dBC_fillTables_5 rfl hl (by decide) rfl (fun ls hl => ?_)
  refine lv_iconst (v := nI 1) hx hb dBC_fillTables_6 (by decide) ?_
  refine lv_istore_n (lv' := [(2, .int (nI 1)), (1, .ref pw), (0, .ref q)]) hx hb dBC_fillTables_7 rfl hl (by decide) rfl (fun ls hl => ?_)
  refine lv_iconst (v := nI 0) hx hb dBC_fillTables_8 (by decide) ?_
  refine lv_istore_n (lv' := [(3, .int (nI 0)), (2, .int (nI 1)), (1, .ref pw), (0, .ref q)]) hx hb dBC_fillTables_9 rfl hl (by decide) rfl (fun ls hl => ?_)
  have loop : ∀ (n i : Nat), i + n = 256 → ∀ (H : Heap) (locs : List Loc) (ls : Array Slot), va_P (dC, dI) vwCl [(q, .inr (0, [.ref sb, .ref co, .ref rk, .long f1, .long f2, .int bt])), (sb, .inl (cI, 256, .inl (fun _ => 0))), (co, .inl (cI, 256, .inl (fun _ => 0))), (pw, .inl (cI, 256, .inl (bs_pt (bs_fn bs_pw) (fun _ => 0) i)))] H → va_D A [(q, .inr (0, [.ref sb, .ref co, .ref rk, .long f1, .long f2, .int bt])), (sb, .inl (cI, 256, .inl (fun _ => 0))), (co, .inl (cI, 256, .inl (fun _ => 0))), (pw, .inl (cI, 256, .inl (bs_pt (bs_fn bs_pw) (fun _ => 0) i)))] → va_S A s.heap H locs → lv_has ls 4 [(0, .ref q), (1, .ref pw), (2, .int (nI (bs_pw i))), (3, .int (nI i))] → W p l e (headSpec wsBC_fillTables { frames := 2, cells := 1, slots := 256, locals := 44 }).room s m ([.ref q] : List Value).toArray below meth c H locs 1 256 Q (F0 m 10 ls []) := by
    intro n
    induction n with
    | zero =>
      intro i hi H locs ls hP hD hS hl
      obtain rfl : i = 256 := by omega
      refine lv_iload_n hx hb dBC_fillTables_10 rfl (lv_at hl 3 rfl) ?_
      refine lv_sipush (v := nI 256) hx hb dBC_fillTables_11 (by decide) ?_
      refine lv_icmp_ge (tgt := 34) hx hb dBC_fillTables_14 (by decide) (fun _ => ?_) (fun h => absurd (nI_le (by omega) (by omega)) h)
      have hP := xp_i (bs_fn bs_pw) hP 3 rfl (fun j hj => bs_pt_lt hj)
      have hD := xd_at hD 3 (.inl (cI, 256, .inl (bs_fn bs_pw))) rfl
      have hP : va_P (dC, dI) vwCl [(q, .inr (0, [.ref sb, .ref co, .ref rk, .long f1, .long f2, .int bt])), (sb, .inl (cI, 256, .inl (fun _ => 0))), (co, .inl (cI, 256, .inl (fun _ => 0))), (pw, .inl (cI, 256, .inl (bs_fn bs_pw)))] H := hP
      have hD : va_D A [(q, .inr (0, [.ref sb, .ref co, .ref rk, .long f1, .long f2, .int bt])), (sb, .inl (cI, 256, .inl (fun _ => 0))), (co, .inl (cI, 256, .inl (fun _ => 0))), (pw, .inl (cI, 256, .inl (bs_fn bs_pw)))] := hD
      refine lv_aload_n hx hb dBC_fillTables_34 rfl (lv_at hl 0 rfl) ?_
      refine lv_iconst (v := nI 0) hx hb dBC_fillTables_35 (by decide) ?_
      refine lv_iconst (v := nI 0) hx hb dBC_fillTables_36 (by decide) ?_
      have hPc := hP.sub (ws' := [(q, .inr (0, [.ref sb, .ref co, .ref rk, .long f1, .long f2, .int bt])), (sb, .inl (cI, 256, .inl (fun _ => 0))), (co, .inl (cI, 256, .inl (fun _ => 0)))]) [0, 1, 2] rfl
      have hDc := hD.sub (ws' := [(q, .inr (0, [.ref sb, .ref co, .ref rk, .long f1, .long f2, .int bt])), (sb, .inl (cI, 256, .inl (fun _ => 0))), (co, .inl (cI, 256, .inl (fun _ => 0)))]) [0, 1, 2] (by decide) rfl
      have hKc := hK.sub (tys' := [(cI, .int)]) [0] rfl
      have hFc := va_free (wc := [(q, .inr (0, [.ref sb, .ref co, .ref rk, .long f1, .long f2, .int bt])), (sb, .inl (cI, 256, .inl (fun _ => 0))), (co, .inl (cI, 256, .inl (fun _ => 0)))]) hD hS hA [0, 1, 2] rfl
      refine va_callv (va_runV (C := RBC) (As := [.int (nI 0), .int (nI 0)]) (rest := []) ⟨hx, hb, hml, hown, hts⟩ (c_BC_setTables l dC dI H.size q sb co rk f1 f2 bt cI (fun _ => 0) (fun _ => 0) 0 0 (by decide) (by decide)) (cwV (C := RBC) 2 hts (wT_4 w_m_BC_60 w_i_BC_setTables w_s_BC_setTables w_n_BC w_c_BC_setTables) rfl rfl rfl (by decide +kernel) ⟨Nat.le_of_ble_eq_true rfl, Nat.le_of_ble_eq_true rfl⟩) ⟨fun a U g mk q => by obtain ⟨q0, q1, qP, qK, qD⟩ := q; exact ⟨q0, q1, qP, va_K.moved (u := U) (U := U.calling g mk a) (Vm.Alike.refl U.vm) qK, qD⟩, va_recv hK hP (q0 := 0) (ci := 0) (q := (RBC, TBC, 6)) rfl rfl, fun U hU hW => ⟨rfl, by rw [hU], by rw [hU]; exact hPc, va_K.moved hW.alike hKc, hDc.weaken (fun _ _ _ _ => trivial)⟩⟩ rfl rfl hl.1 rfl (lv_room (Nat.le_of_ble_eq_true rfl)) dBC_fillTables_37 ⟨Nat.le_of_ble_eq_true rfl, Nat.le_of_ble_eq_true rfl⟩) hS (fun q _ h => hFc q h) hFc (fun u t H1 locs ht hvm hw hB hz1 hk1 hS => ?_)
      obtain ⟨hP1, hK1, hD1⟩ := hB
      rw [ht] at hP1
      have hK1 := va_K.moved hvm.symm hK1
      obtain ⟨hP, hD⟩ := va_join (wr := [(pw, .inl (cI, 256, .inl (bs_fn bs_pw)))]) (w1 := [(q, .inr (0, [.ref sb, .ref co, .ref rk, .long f1, .long f2, .int bt])), (sb, .inl (cI, 256, .inl (upd (fun _ => 0) 0 (nI (bs_sp 0 8))))), (co, .inl (cI, 256, .inl (upd (fun _ => 0) 0 (bs_ct (bs_sp 0 8)))))]) hP hD [0, 1, 2] [3] rfl rfl (by decide) (by decide) hk1 hFc hP1 hD1
      generalize H1 = H at hP hS ⊢
      have hP : va_P (dC, dI) vwCl [(pw, .inl (cI, 256, .inl (bs_fn bs_pw))), (q, .inr (0, [.ref sb, .ref co, .ref rk, .long f1, .long f2, .int bt])), (sb, .inl (cI, 256, .inl (upd (fun _ => 0) 0 (nI (bs_sp 0 8))))), (co, .inl (cI, 256, .inl (upd (fun _ => 0) 0 (bs_ct (bs_sp 0 8)))))] H := hP
      have hD : va_D A [(pw, .inl (cI, 256, .inl (bs_fn bs_pw))), (q, .inr (0, [.ref sb, .ref co, .ref rk, .long f1, .long f2, .int bt])), (sb, .inl (cI, 256, .inl (upd (fun _ => 0) 0 (nI (bs_sp 0 8))))), (co, .inl (cI, 256, .inl (upd (fun _ => 0) 0 (bs_ct (bs_sp 0 8)))))] := hD
      refine lv_iconst (v := nI 0) hx hb dBC_fillTables_40 (by decide) ?_
      refine lv_istore_n (lv' := [(3, .int (nI 0)), (0, .ref q), (1, .ref pw), (2, .int (nI (bs_pw 256)))]) hx hb dBC_fillTables_41 rfl hl (by decide) rfl (fun ls hl => ?_)
      have loop2 : ∀ (n_k9 k9 : Nat), k9 + n_k9 = 255 → ∀ (H : Heap) (locs : List Loc) (ls : Array Slot), va_P (dC, dI) vwCl [(q, .inr (0, [.ref sb, .ref co, .ref rk, .long f1, .long f2, .int bt])), (sb, .inl (cI, 256, .inl (bs_wt bs_SBf k9))), (co, .inl (cI, 256, .inl (bs_wt bs_CTf k9))), (pw, .inl (cI, 256, .inl (bs_fn bs_pw)))] H → va_D A [(q, .inr (0, [.ref sb, .ref co, .ref rk, .long f1, .long f2, .int bt])), (sb, .inl (cI, 256, .inl (bs_wt bs_SBf k9))), (co, .inl (cI, 256, .inl (bs_wt bs_CTf k9))), (pw, .inl (cI, 256, .inl (bs_fn bs_pw)))] → va_S A s.heap H locs → lv_has ls 4 [(0, .ref q), (1, .ref pw), (2, .int (nI (bs_pw 256))), (3, .int (nI k9))] → W p l e (headSpec wsBC_fillTables { frames := 2, cells := 1, slots := 256, locals := 44 }).room s m ([.ref q] : List Value).toArray below meth c H locs 1 256 Q (F0 m 42 ls []) := by
        intro n_k9
        induction n_k9 with
        | zero =>
          intro k9 hi_k9 H locs ls hP hD hS hl
          obtain rfl : k9 = 255 := by omega
          refine lv_iload_n hx hb dBC_fillTables_42 rfl (lv_at hl 3 rfl) ?_
          refine lv_sipush (v := nI 255) hx hb dBC_fillTables_43 (by decide) ?_
          refine lv_icmp_ge (tgt := 69) hx hb dBC_fillTables_46 (by decide) (fun _ => ?_) (fun h => absurd (nI_le (by omega) (by omega)) h)
          have hP := xp_i (bs_SBf) hP 1 rfl (fun j hj => bs_wt_e _ hj)
          have hD := xd_at hD 1 (.inl (cI, 256, .inl (bs_SBf))) rfl
          have hP : va_P (dC, dI) vwCl [(q, .inr (0, [.ref sb, .ref co, .ref rk, .long f1, .long f2, .int bt])), (sb, .inl (cI, 256, .inl bs_SBf)), (co, .inl (cI, 256, .inl (bs_wt bs_CTf 255))), (pw, .inl (cI, 256, .inl (bs_fn bs_pw)))] H := hP
          have hD : va_D A [(q, .inr (0, [.ref sb, .ref co, .ref rk, .long f1, .long f2, .int bt])), (sb, .inl (cI, 256, .inl bs_SBf)), (co, .inl (cI, 256, .inl (bs_wt bs_CTf 255))), (pw, .inl (cI, 256, .inl (bs_fn bs_pw)))] := hD
          have hP := xp_i (bs_CTf) hP 2 rfl (fun j hj => bs_wt_e _ hj)
          have hD := xd_at hD 2 (.inl (cI, 256, .inl (bs_CTf))) rfl
          have hP : va_P (dC, dI) vwCl [(q, .inr (0, [.ref sb, .ref co, .ref rk, .long f1, .long f2, .int bt])), (sb, .inl (cI, 256, .inl bs_SBf)), (co, .inl (cI, 256, .inl bs_CTf)), (pw, .inl (cI, 256, .inl (bs_fn bs_pw)))] H := hP
          have hD : va_D A [(q, .inr (0, [.ref sb, .ref co, .ref rk, .long f1, .long f2, .int bt])), (sb, .inl (cI, 256, .inl bs_SBf)), (co, .inl (cI, 256, .inl bs_CTf)), (pw, .inl (cI, 256, .inl (bs_fn bs_pw)))] := hD
          have hP := hP.sub (ws' := [(q, .inr (0, [.ref sb, .ref co, .ref rk, .long f1, .long f2, .int bt])), (sb, .inl (cI, 256, .inl bs_SBf)), (co, .inl (cI, 256, .inl bs_CTf))]) [0, 1, 2] rfl
          have hD := hD.sub (ws' := [(q, .inr (0, [.ref sb, .ref co, .ref rk, .long f1, .long f2, .int bt])), (sb, .inl (cI, 256, .inl bs_SBf)), (co, .inl (cI, 256, .inl bs_CTf))]) [0, 1, 2] (by decide) rfl
          have hP : va_P (dC, dI) vwCl [(q, .inr (0, [.ref sb, .ref co, .ref rk, .long f1, .long f2, .int bt])), (sb, .inl (cI, 256, .inl bs_SBf)), (co, .inl (cI, 256, .inl bs_CTf))] H := hP
          have hD : va_D A [(q, .inr (0, [.ref sb, .ref co, .ref rk, .long f1, .long f2, .int bt])), (sb, .inl (cI, 256, .inl bs_SBf)), (co, .inl (cI, 256, .inl bs_CTf))] := hD
          subst hQ
          exact W.vret hx hb hr (fun t ht hW => ⟨⟨(), rfl, trivial, by rw [ht]; exact hP, va_K.moved hW.alike hK, hD⟩, hS.F ht⟩) hS.2.2 dBC_fillTables_69
        | succ n_k9 ih_k9 =>
          intro k9 hi_k9 H locs ls hP hD hS hl
          refine lv_iload_n hx hb dBC_fillTables_42 rfl (lv_at hl 3 rfl) ?_
          refine lv_sipush (v := nI 255) hx hb dBC_fillTables_43 (by decide) ?_
          refine lv_icmp_ge (tgt := 69) hx hb dBC_fillTables_46 (by decide) (fun h => absurd h (nI_ge (by omega) (by omega))) (fun _ => ?_)
          refine lv_aload_n hx hb dBC_fillTables_49 rfl (lv_at hl 0 rfl) ?_
          refine lv_aload_n hx hb dBC_fillTables_50 rfl (lv_at hl 1 rfl) ?_
          refine lv_iload_n hx hb dBC_fillTables_51 rfl (lv_at hl 3 rfl) ?_
          refine xa_iald hx hb hK hP 3 0 rfl rfl k9 (by omega) (by decide) dBC_fillTables_52 ?_
          refine xt_i (y := nI (bs_pw k9)) (rfl) ?_
          refine lv_aload_n hx hb dBC_fillTables_53 rfl (lv_at hl 1 rfl) ?_
          refine lv_sipush (v := nI 255) hx hb dBC_fillTables_54 (by decide) ?_
          refine lv_iload_n hx hb dBC_fillTables_57 rfl (lv_at hl 3 rfl) ?_
          refine lv_isub hx hb dBC_fillTables_58 ?_
          refine xt_i (y := nI (255 - k9)) (pk_sub (by omega)) ?_
          refine xa_iald hx hb hK hP 3 0 rfl rfl (255 - k9) (by omega) (by decide) dBC_fillTables_59 ?_
          refine xt_i (y := nI (bs_pw (255 - k9))) (rfl) ?_
          have hPc := hP.sub (ws' := [(q, .inr (0, [.ref sb, .ref co, .ref rk, .long f1, .long f2, .int bt])), (sb, .inl (cI, 256, .inl (bs_wt bs_SBf k9))), (co, .inl (cI, 256, .inl (bs_wt bs_CTf k9)))]) [0, 1, 2] rfl
          have hDc := hD.sub (ws' := [(q, .inr (0, [.ref sb, .ref co, .ref rk, .long f1, .long f2, .int bt])), (sb, .inl (cI, 256, .inl (bs_wt bs_SBf k9))), (co, .inl (cI, 256, .inl (bs_wt bs_CTf k9)))]) [0, 1, 2] (by decide) rfl
          have hKc := hK.sub (tys' := [(cI, .int)]) [0] rfl
          have hFc := va_free (wc := [(q, .inr (0, [.ref sb, .ref co, .ref rk, .long f1, .long f2, .int bt])), (sb, .inl (cI, 256, .inl (bs_wt bs_SBf k9))), (co, .inl (cI, 256, .inl (bs_wt bs_CTf k9)))]) hD hS hA [0, 1, 2] rfl
          refine va_callv (va_runV (C := RBC) (As := [.int (nI (bs_pw k9)), .int (nI (bs_pw (255 - k9)))]) (rest := []) ⟨hx, hb, hml, hown, hts⟩ (c_BC_setTables l dC dI H.size q sb co rk f1 f2 bt cI (bs_wt bs_SBf k9) (bs_wt bs_CTf k9) (bs_pw k9) (bs_pw (255 - k9)) (bs_pw_lt _ (by omega)) (bs_pw_lt _ (by omega))) (cwV (C := RBC) 2 hts (wT_4 w_m_BC_60 w_i_BC_setTables w_s_BC_setTables w_n_BC w_c_BC_setTables) rfl rfl rfl (by decide +kernel) ⟨Nat.le_of_ble_eq_true rfl, Nat.le_of_ble_eq_true rfl⟩) ⟨fun a U g mk q => by obtain ⟨q0, q1, qP, qK, qD⟩ := q; exact ⟨q0, q1, qP, va_K.moved (u := U) (U := U.calling g mk a) (Vm.Alike.refl U.vm) qK, qD⟩, va_recv hK hP (q0 := 0) (ci := 0) (q := (RBC, TBC, 6)) rfl rfl, fun U hU hW => ⟨rfl, by rw [hU], by rw [hU]; exact hPc, va_K.moved hW.alike hKc, hDc.weaken (fun _ _ _ _ => trivial)⟩⟩ rfl rfl hl.1 rfl (lv_room (Nat.le_of_ble_eq_true rfl)) dBC_fillTables_60 ⟨Nat.le_of_ble_eq_true rfl, Nat.le_of_ble_eq_true rfl⟩) hS (fun q _ h => hFc q h) hFc (fun u t H1 locs ht hvm hw hB hz1 hk1 hS => ?_)
          obtain ⟨hP1, hK1, hD1⟩ := hB
          rw [ht] at hP1
          have hK1 := va_K.moved hvm.symm hK1
          obtain ⟨hP, hD⟩ := va_join (wr := [(pw, .inl (cI, 256, .inl (bs_fn bs_pw)))]) (w1 := [(q, .inr (0, [.ref sb, .ref co, .ref rk, .long f1, .long f2, .int bt])), (sb, .inl (cI, 256, .inl (upd (bs_wt bs_SBf k9) (bs_pw k9) (nI (bs_sp (bs_pw (255 - k9)) 8))))), (co, .inl (cI, 256, .inl (upd (bs_wt bs_CTf k9) (bs_pw k9) (bs_ct (bs_sp (bs_pw (255 - k9)) 8)))))]) hP hD [0, 1, 2] [3] rfl rfl (by decide) (by decide) hk1 hFc hP1 hD1
          generalize H1 = H at hP hS ⊢
          have hP : va_P (dC, dI) vwCl [(pw, .inl (cI, 256, .inl (bs_fn bs_pw))), (q, .inr (0, [.ref sb, .ref co, .ref rk, .long f1, .long f2, .int bt])), (sb, .inl (cI, 256, .inl (upd (bs_wt bs_SBf k9) (bs_pw k9) (nI (bs_sp (bs_pw (255 - k9)) 8))))), (co, .inl (cI, 256, .inl (upd (bs_wt bs_CTf k9) (bs_pw k9) (bs_ct (bs_sp (bs_pw (255 - k9)) 8)))))] H := hP
          have hD : va_D A [(pw, .inl (cI, 256, .inl (bs_fn bs_pw))), (q, .inr (0, [.ref sb, .ref co, .ref rk, .long f1, .long f2, .int bt])), (sb, .inl (cI, 256, .inl (upd (bs_wt bs_SBf k9) (bs_pw k9) (nI (bs_sp (bs_pw (255 - k9)) 8))))), (co, .inl (cI, 256, .inl (upd (bs_wt bs_CTf k9) (bs_pw k9) (bs_ct (bs_sp (bs_pw (255 - k9)) 8)))))] := hD
          rw [bs_pw_iv k9 (by omega)] at hP hD
          have hP : va_P (dC, dI) vwCl [(pw, .inl (cI, 256, .inl (bs_fn bs_pw))), (q, .inr (0, [.ref sb, .ref co, .ref rk, .long f1, .long f2, .int bt])), (sb, .inl (cI, 256, .inl (bs_wt bs_SBf (k9 + 1)))), (co, .inl (cI, 256, .inl (bs_wt bs_CTf (k9 + 1))))] H := hP
          have hD : va_D A [(pw, .inl (cI, 256, .inl (bs_fn bs_pw))), (q, .inr (0, [.ref sb, .ref co, .ref rk, .long f1, .long f2, .int bt])), (sb, .inl (cI, 256, .inl (bs_wt bs_SBf (k9 + 1)))), (co, .inl (cI, 256, .inl (bs_wt bs_CTf (k9 + 1))))] := hD
          refine lv_iinc (k := 3) (v := nI (k9 + 1)) (lv' := [(3, .int (nI (k9 + 1))), (0, .ref q), (1, .ref pw), (2, .int (nI (bs_pw 256)))]) hx hb dBC_fillTables_63 hl rfl (xi_1 _) (by decide) rfl (fun ls hl => ?_)
          refine lv_goto (tgt := 42) hx hb dBC_fillTables_66 (by decide) ?_
          have hP := hP.sub (ws' := [(q, .inr (0, [.ref sb, .ref co, .ref rk, .long f1, .long f2, .int bt])), (sb, .inl (cI, 256, .inl (bs_wt bs_SBf (k9 + 1)))), (co, .inl (cI, 256, .inl (bs_wt bs_CTf (k9 + 1)))), (pw, .inl (cI, 256, .inl (bs_fn bs_pw)))]) [1, 2, 3, 0] rfl
          have hD := hD.sub (ws' := [(q, .inr (0, [.ref sb, .ref co, .ref rk, .long f1, .long f2, .int bt])), (sb, .inl (cI, 256, .inl (bs_wt bs_SBf (k9 + 1)))), (co, .inl (cI, 256, .inl (bs_wt bs_CTf (k9 + 1)))), (pw, .inl (cI, 256, .inl (bs_fn bs_pw)))]) [1, 2, 3, 0] (by decide) rfl
          have hP : va_P (dC, dI) vwCl [(q, .inr (0, [.ref sb, .ref co, .ref rk, .long f1, .long f2, .int bt])), (sb, .inl (cI, 256, .inl (bs_wt bs_SBf (k9 + 1)))), (co, .inl (cI, 256, .inl (bs_wt bs_CTf (k9 + 1)))), (pw, .inl (cI, 256, .inl (bs_fn bs_pw)))] H := hP
          have hD : va_D A [(q, .inr (0, [.ref sb, .ref co, .ref rk, .long f1, .long f2, .int bt])), (sb, .inl (cI, 256, .inl (bs_wt bs_SBf (k9 + 1)))), (co, .inl (cI, 256, .inl (bs_wt bs_CTf (k9 + 1)))), (pw, .inl (cI, 256, .inl (bs_fn bs_pw)))] := hD
          have hl := lv_sub hl (l' := [(0, .ref q), (1, .ref pw), (2, .int (nI (bs_pw 256))), (3, .int (nI (k9 + 1)))]) [1, 2, 3, 0] rfl
          have hl : lv_has ls 4 [(0, .ref q), (1, .ref pw), (2, .int (nI (bs_pw 256))), (3, .int (nI (k9 + 1)))] := hl
          exact ih_k9 (k9 + 1) (by omega) H _ ls hP hD hS hl
      rw [bs_sp_0] at hP hD
      have hP := hP.sub (ws' := [(q, .inr (0, [.ref sb, .ref co, .ref rk, .long f1, .long f2, .int bt])), (sb, .inl (cI, 256, .inl (upd (fun _ => 0) 0 (nI (bs_sp 0 8))))), (co, .inl (cI, 256, .inl (upd (fun _ => 0) 0 (bs_ct (bs_sp 0 8))))), (pw, .inl (cI, 256, .inl (bs_fn bs_pw)))]) [1, 2, 3, 0] rfl
      have hD := hD.sub (ws' := [(q, .inr (0, [.ref sb, .ref co, .ref rk, .long f1, .long f2, .int bt])), (sb, .inl (cI, 256, .inl (upd (fun _ => 0) 0 (nI (bs_sp 0 8))))), (co, .inl (cI, 256, .inl (upd (fun _ => 0) 0 (bs_ct (bs_sp 0 8))))), (pw, .inl (cI, 256, .inl (bs_fn bs_pw)))]) [1, 2, 3, 0] (by decide) rfl
      have hP : va_P (dC, dI) vwCl [(q, .inr (0, [.ref sb, .ref co, .ref rk, .long f1, .long f2, .int bt])), (sb, .inl (cI, 256, .inl (bs_wt bs_SBf 0))), (co, .inl (cI, 256, .inl (bs_wt bs_CTf 0))), (pw, .inl (cI, 256, .inl (bs_fn bs_pw)))] H := hP
      have hD : va_D A [(q, .inr (0, [.ref sb, .ref co, .ref rk, .long f1, .long f2, .int bt])), (sb, .inl (cI, 256, .inl (bs_wt bs_SBf 0))), (co, .inl (cI, 256, .inl (bs_wt bs_CTf 0))), (pw, .inl (cI, 256, .inl (bs_fn bs_pw)))] := hD
      have hl := lv_sub hl (l' := [(0, .ref q), (1, .ref pw), (2, .int (nI (bs_pw 256))), (3, .int (nI 0))]) [1, 2, 3, 0] rfl
      have hl : lv_has ls 4 [(0, .ref q), (1, .ref pw), (2, .int (nI (bs_pw 256))), (3, .int (nI 0))] := hl
      exact loop2 (255 - 0) 0 (by omega) H _ ls hP hD hS hl
    | succ n ih =>
      intro i hi H locs ls hP hD hS hl
      refine lv_iload_n hx hb dBC_fillTables_10 rfl (lv_at hl 3 rfl) ?_
      refine lv_sipush (v := nI 256) hx hb dBC_fillTables_11 (by decide) ?_
      refine lv_icmp_ge (tgt := 34) hx hb dBC_fillTables_14 (by decide) (fun h => absurd h (nI_ge (by omega) (by omega))) (fun _ => ?_)
      refine lv_aload_n hx hb dBC_fillTables_17 rfl (lv_at hl 1 rfl) ?_
      refine lv_iload_n hx hb dBC_fillTables_18 rfl (lv_at hl 3 rfl) ?_
      refine lv_iload_n hx hb dBC_fillTables_19 rfl (lv_at hl 2 rfl) ?_
      refine xa_iast hx hb hK hP hD hS 3 0 rfl rfl i (by omega) (by decide) dBC_fillTables_20 (fun H locs hP hD hS => ?_)
      have hP : va_P (dC, dI) vwCl [(q, .inr (0, [.ref sb, .ref co, .ref rk, .long f1, .long f2, .int bt])), (sb, .inl (cI, 256, .inl (fun _ => 0))), (co, .inl (cI, 256, .inl (fun _ => 0))), (pw, .inl (cI, 256, .inl (upd (bs_pt (bs_fn bs_pw) (fun _ => 0) i) i (nI (bs_pw i)))))] H := hP
      have hD : va_D A [(q, .inr (0, [.ref sb, .ref co, .ref rk, .long f1, .long f2, .int bt])), (sb, .inl (cI, 256, .inl (fun _ => 0))), (co, .inl (cI, 256, .inl (fun _ => 0))), (pw, .inl (cI, 256, .inl (upd (bs_pt (bs_fn bs_pw) (fun _ => 0) i) i (nI (bs_pw i)))))] := hD
      have hP := hP
      have e7 : nI (bs_pw i) = bs_fn bs_pw i := rfl
      rw [e7, bs_pt_s] at hP hD
      have hP : va_P (dC, dI) vwCl [(q, .inr (0, [.ref sb, .ref co, .ref rk, .long f1, .long f2, .int bt])), (sb, .inl (cI, 256, .inl (fun _ => 0))), (co, .inl (cI, 256, .inl (fun _ => 0))), (pw, .inl (cI, 256, .inl (bs_pt (bs_fn bs_pw) (fun _ => 0) (i + 1))))] H := hP
      have hD : va_D A [(q, .inr (0, [.ref sb, .ref co, .ref rk, .long f1, .long f2, .int bt])), (sb, .inl (cI, 256, .inl (fun _ => 0))), (co, .inl (cI, 256, .inl (fun _ => 0))), (pw, .inl (cI, 256, .inl (bs_pt (bs_fn bs_pw) (fun _ => 0) (i + 1))))] := hD
      refine lv_iload_n hx hb dBC_fillTables_21 rfl (lv_at hl 2 rfl) ?_
      refine lv_iload_n hx hb dBC_fillTables_22 rfl (lv_at hl 2 rfl) ?_
      have hPc := hP.sub (ws' := []) [] rfl
      have hDc := hD.sub (ws' := []) [] (by decide) rfl
      have hKc := hK.sub (tys' := []) [] rfl
      have hFc := va_free (wc := []) hD hS hA [] rfl
      refine va_calli (va_runS (As := [.int (nI (bs_pw i))]) (rest := [.int (nI (bs_pw i))]) ⟨hx, hb, hml, hown, hts⟩ (c_BC_timesX l dC dI H.size (bs_pw i) (bs_pw_lt i (by omega))) (va_cwS 1 hts (wT_3 w_m_BC_56 w_t_BC_timesX w_n_BC w_c_BC_timesX) rfl rfl rfl (by decide +kernel) ⟨Nat.le_of_ble_eq_true rfl, Nat.le_of_ble_eq_true rfl⟩) ⟨fun a U g mk q => by obtain ⟨q0, q1, qP, qK, qD⟩ := q; exact ⟨q0, q1, qP, va_K.moved (u := U) (U := U.calling g mk a) (Vm.Alike.refl U.vm) qK, qD⟩, fun U hU hW => ⟨rfl, by rw [hU], by rw [hU]; exact hPc, va_K.moved hW.alike hKc, hDc.weaken (fun _ _ _ _ => trivial)⟩⟩ rfl rfl hl.1 rfl (lv_room (Nat.le_of_ble_eq_true rfl)) dBC_fillTables_23 ⟨Nat.le_of_ble_eq_true rfl, Nat.le_of_ble_eq_true rfl⟩) hS (fun q _ h => hFc q h) hFc (fun r u t H1 locs ht hvm hw hB hz1 hk1 hS => ?_)
      obtain ⟨hP1, hK1, hD1⟩ := hB
      rw [ht] at hP1
      have hK1 := va_K.moved hvm.symm hK1
      have hw : r = nI (bs_tX (bs_pw i)) := hw
      rw [hw]
      obtain ⟨hP, hD⟩ := va_join (wr := [(q, .inr (0, [.ref sb, .ref co, .ref rk, .long f1, .long f2, .int bt])), (sb, .inl (cI, 256, .inl (fun _ => 0))), (co, .inl (cI, 256, .inl (fun _ => 0))), (pw, .inl (cI, 256, .inl (bs_pt (bs_fn bs_pw) (fun _ => 0) (i + 1))))]) (w1 := []) hP hD [] [0, 1, 2, 3] rfl rfl (by decide) (by decide) hk1 hFc hP1 hD1
      generalize H1 = H at hP hS ⊢
      have hP : va_P (dC, dI) vwCl [(q, .inr (0, [.ref sb, .ref co, .ref rk, .long f1, .long f2, .int bt])), (sb, .inl (cI, 256, .inl (fun _ => 0))), (co, .inl (cI, 256, .inl (fun _ => 0))), (pw, .inl (cI, 256, .inl (bs_pt (bs_fn bs_pw) (fun _ => 0) (i + 1))))] H := hP
      have hD : va_D A [(q, .inr (0, [.ref sb, .ref co, .ref rk, .long f1, .long f2, .int bt])), (sb, .inl (cI, 256, .inl (fun _ => 0))), (co, .inl (cI, 256, .inl (fun _ => 0))), (pw, .inl (cI, 256, .inl (bs_pt (bs_fn bs_pw) (fun _ => 0) (i + 1))))] := hD
      refine lv_ixor hx hb dBC_fillTables_26 ?_
      refine xt_i (y := nI ((bs_pw i) ^^^ (bs_tX (bs_pw i)))) (bs_nI_xor _ _) ?_
      refine xt_i (y := nI (bs_pw (i + 1))) (congrArg nI (bs_pw_s i (by omega))) ?_
      refine lv_istore_n (lv' := [(2, .int (nI (bs_pw (i + 1)))), (0, .ref q), (1, .ref pw), (3, .int (nI i))]) hx hb dBC_fillTables_27 rfl hl (by decide) rfl (fun ls hl => ?_)
      refine lv_iinc (k := 3) (v := nI (i + 1)) (lv' := [(3, .int (nI (i + 1))), (2, .int (nI (bs_pw (i + 1)))), (0, .ref q), (1, .ref pw)]) hx hb dBC_fillTables_28 hl rfl (xi_1 _) (by decide) rfl (fun ls hl => ?_)
      refine lv_goto (tgt := 10) hx hb dBC_fillTables_31 (by decide) ?_
      have hP : va_P (dC, dI) vwCl [(q, .inr (0, [.ref sb, .ref co, .ref rk, .long f1, .long f2, .int bt])), (sb, .inl (cI, 256, .inl (fun _ => 0))), (co, .inl (cI, 256, .inl (fun _ => 0))), (pw, .inl (cI, 256, .inl (bs_pt (bs_fn bs_pw) (fun _ => 0) (i + 1))))] H := hP
      have hD : va_D A [(q, .inr (0, [.ref sb, .ref co, .ref rk, .long f1, .long f2, .int bt])), (sb, .inl (cI, 256, .inl (fun _ => 0))), (co, .inl (cI, 256, .inl (fun _ => 0))), (pw, .inl (cI, 256, .inl (bs_pt (bs_fn bs_pw) (fun _ => 0) (i + 1))))] := hD
      have hl := lv_sub hl (l' := [(0, .ref q), (1, .ref pw), (2, .int (nI (bs_pw (i + 1)))), (3, .int (nI (i + 1)))]) [2, 3, 1, 0] rfl
      have hl : lv_has ls 4 [(0, .ref q), (1, .ref pw), (2, .int (nI (bs_pw (i + 1)))), (3, .int (nI (i + 1)))] := hl
      exact ih (i + 1) (by omega) H _ ls hP hD hS hl
  have hP : va_P (dC, dI) vwCl [(q, .inr (0, [.ref sb, .ref co, .ref rk, .long f1, .long f2, .int bt])), (sb, .inl (cI, 256, .inl (fun _ => 0))), (co, .inl (cI, 256, .inl (fun _ => 0))), (pw, .inl (cI, 256, .inl (bs_pt (bs_fn bs_pw) (fun _ => 0) 0)))] H := by rw [bs_pt_0]; exact hP
  have hD : va_D A [(q, .inr (0, [.ref sb, .ref co, .ref rk, .long f1, .long f2, .int bt])), (sb, .inl (cI, 256, .inl (fun _ => 0))), (co, .inl (cI, 256, .inl (fun _ => 0))), (pw, .inl (cI, 256, .inl (bs_pt (bs_fn bs_pw) (fun _ => 0) 0)))] := by rw [bs_pt_0]; exact hD
  have hP : va_P (dC, dI) vwCl [(q, .inr (0, [.ref sb, .ref co, .ref rk, .long f1, .long f2, .int bt])), (sb, .inl (cI, 256, .inl (fun _ => 0))), (co, .inl (cI, 256, .inl (fun _ => 0))), (pw, .inl (cI, 256, .inl (bs_pt (bs_fn bs_pw) (fun _ => 0) 0)))] H := hP
  have hD : va_D A [(q, .inr (0, [.ref sb, .ref co, .ref rk, .long f1, .long f2, .int bt])), (sb, .inl (cI, 256, .inl (fun _ => 0))), (co, .inl (cI, 256, .inl (fun _ => 0))), (pw, .inl (cI, 256, .inl (bs_pt (bs_fn bs_pw) (fun _ => 0) 0)))] := hD
  have hl := lv_sub hl (l' := [(0, .ref q), (1, .ref pw), (2, .int (nI 1)), (3, .int (nI 0))]) [3, 2, 1, 0] rfl
  have hl : lv_has ls 4 [(0, .ref q), (1, .ref pw), (2, .int (nI (bs_pw 0))), (3, .int (nI 0))] := hl
  exact loop (256 - 0) 0 (by omega) H _ ls hP hD hS hl
set_option maxHeartbeats 4000000 in
set_option maxRecDepth 100000 in
theorem c_BC_fillRoundKeys (l : Launch) (dC : Nat → ClassId) (dI : Nat → Nat → Nat) (sz : Nat) (q sb co rk rw : Nat) (f1 f2 : Int64) (bt : Int32) (cI : ClassId) (K : Nat → Nat) (F T : Nat) (h4 : ∀ j, j < 4 → bs_ph F T 16 j = bs_kw K j) (hrr : ∀ i, i < 40 → bs_kw K i ^^^ bs_bf K i = bs_kw K (i + 4)) : Met l yBC_fillRoundKeys wsBC_fillRoundKeys { frames := 1, cells := 0, slots := 0, locals := 24 } (va_Pc [.ref q, .ref rw, .int (nI F), .int (nI T)] (fun U => U.heap.size = sz ∧ va_P (dC, dI) vwCl [(q, .inr (0, [.ref sb, .ref co, .ref rk, .long f1, .long f2, .int bt])), (sb, .inl (cI, 256, .inl bs_SBf)), (rw, .inl (cI, 44, .inl (fun _ => 0)))] U.heap ∧ va_K (dC, dI) vwCl [(cI, .int)] U ∧ va_D (fun _ => True) [(q, .inr (0, [.ref sb, .ref co, .ref rk, .long f1, .long f2, .int bt])), (sb, .inl (cI, 256, .inl bs_SBf)), (rw, .inl (cI, 44, .inl (fun _ => 0)))])) (va_Qv (fun (_ : Unit) => True) (fun (_ : Unit) t => va_P (dC, dI) vwCl [(q, .inr (0, [.ref sb, .ref co, .ref rk, .long f1, .long f2, .int bt])), (sb, .inl (cI, 256, .inl bs_SBf)), (rw, .inl (cI, 44, .inl (bs_kw K)))] t.heap ∧ va_K (dC, dI) vwCl [(cI, .int)] t ∧ va_D (va_A [(q, .inr (0, [.ref sb, .ref co, .ref rk, .long f1, .long f2, .int bt])), (sb, .inl (cI, 256, .inl bs_SBf)), (rw, .inl (cI, 44, .inl (fun _ => 0)))] sz) [(q, .inr (0, [.ref sb, .ref co, .ref rk, .long f1, .long f2, .int bt])), (sb, .inl (cI, 256, .inl bs_SBf)), (rw, .inl (cI, 44, .inl (bs_kw K)))]) (va_A [(q, .inr (0, [.ref sb, .ref co, .ref rk, .long f1, .long f2, .int bt])), (sb, .inl (cI, 256, .inl bs_SBf)), (rw, .inl (cI, 44, .inl (fun _ => 0)))] sz)) 0 0 (va_A [(q, .inr (0, [.ref sb, .ref co, .ref rk, .long f1, .long f2, .int bt])), (sb, .inl (cI, 256, .inl bs_SBf)), (rw, .inl (cI, 44, .inl (fun _ => 0)))] sz) := by
  refine Met.ofW (cc := cBC_fillRoundKeys) (maxL := 8) (ret := none) (by decide) rfl ?_
  intro p e s m args below meth c s₁ Bo9 hml hv
  obtain ⟨rfl, hsz, hP, hK, hD0⟩ := hv
  have hx := Bo9.exec
  have hb := Bo9.bytes
  have hr := Bo9.returns
  have hts := fun w (h : w ∈ wT) => atoms_spec (ws := wsBC_fillRoundKeys) Bo9.pre w (List.mem_cons_of_mem _ h)
  have hown : s.vm.findClass RBC = some m.cls := findClass_of_methodNamed Bo9.named
  have hlocks := Bo9.notSynchronized
  subst hsz
  have hD := hD0.self (sz := s.heap.size)
  generalize hAe : va_A [(q, .inr (0, [.ref sb, .ref co, .ref rk, .long f1, .long f2, .int bt])), (sb, .inl (cI, 256, .inl bs_SBf)), (rw, .inl (cI, 44, .inl (fun _ => 0)))] s.heap.size = A at hD ⊢
  have hA : ∀ q : Nat, s.heap.size ≤ q → A q := fun q h => by rw [← hAe]; exact Or.inr h
  have hl := lv_entry ([.ref q, .ref rw, .int (nI F), .int (nI T)]) (n := 8) (Nat.le_of_ble_eq_true rfl)
  rw [lg_entry_eq]
  generalize (lg_sl ([.ref q, .ref rw, .int (nI F), .int (nI T)]) ++ List.replicate (8 - (lg_sl ([.ref q, .ref rw, .int (nI F), .int (nI T)])).length) Slot.unset).toArray = ls at hl ⊢
  have hl : lv_has ls 8 [(0, .ref q), (1, .ref rw), (2, .int (nI F)), (3, .int (nI T))] := hl
  refine xs_q (fun H Q hH hQ => ?_)
  have hS : va_S A s.heap H [] := by rw [hH]; exact va_S.rf
  have hP : va_P (dC, dI) vwCl [(q, .inr (0, [.ref sb, .ref co, .ref rk, .long f1, .long f2, .int bt])), (sb, .inl (cI, 256, .inl bs_SBf)), (rw, .inl (cI, 44, .inl (fun _ => 0)))] H := by rw [hH]; exact hP
  refine lv_iconst (v := nI 0) hx hb dBC_fillRoundKeys_0 (by decide) ?_
  refine lv_istore (lv' := [(4, .int (nI 0)), (0, .ref q), (1, .ref rw), (2, .int (nI F)), (3, .int (nI T))]) hx hb dBC_fillRoundKeys_1 hl (by decide) rfl (fun ls hl => ?_)
  have loop : ∀ (n i : Nat), i + n = 16 → ∀ (H : Heap) (locs : List Loc) (ls : Array Slot), va_P (dC, dI) vwCl [(q, .inr (0, [.ref sb, .ref co, .ref rk, .long f1, .long f2, .int bt])), (sb, .inl (cI, 256, .inl bs_SBf)), (rw, .inl (cI, 44, .inl (bs_ph F T i)))] H → va_D A [(q, .inr (0, [.ref sb, .ref co, .ref rk, .long f1, .long f2, .int bt])), (sb, .inl (cI, 256, .inl bs_SBf)), (rw, .inl (cI, 44, .inl (bs_ph F T i)))] → va_S A s.heap H locs → lv_has ls 8 [(0, .ref q), (1, .ref rw), (2, .int (nI F)), (3, .int (nI T)), (4, .int (nI i))] → W p l e (headSpec wsBC_fillRoundKeys { frames := 1, cells := 0, slots := 0, locals := 24 }).room s m ([.ref q, .ref rw, .int (nI F), .int (nI T)] : List Value).toArray below meth c H locs 0 0 Q (F0 m 3 ls []) := by
    intro n
    induction n with
    | zero =>
      intro i hi H locs ls hP hD hS hl
      obtain rfl : i = 16 := by omega
      refine lv_iload hx hb dBC_fillRoundKeys_3 (lv_at hl 4 rfl) ?_
      refine lv_bipush (v := nI 16) hx hb dBC_fillRoundKeys_5 (by decide) ?_
      refine lv_icmp_ge (tgt := 42) hx hb dBC_fillRoundKeys_7 (by decide) (fun _ => ?_) (fun h => absurd (nI_le (by omega) (by omega)) h)
      refine lv_iconst (v := nI 1) hx hb dBC_fillRoundKeys_42 (by decide) ?_
      refine lv_istore (lv' := [(4, .int (nI 1)), (0, .ref q), (1, .ref rw), (2, .int (nI F)), (3, .int (nI T))]) hx hb dBC_fillRoundKeys_43 hl (by decide) rfl (fun ls hl => ?_)
      refine lv_iconst (v := nI 4) hx hb dBC_fillRoundKeys_45 (by decide) ?_
      refine lv_istore (lv' := [(5, .int (nI 4)), (4, .int (nI 1)), (0, .ref q), (1, .ref rw), (2, .int (nI F)), (3, .int (nI T))]) hx hb dBC_fillRoundKeys_46 hl (by decide) rfl (fun ls hl => ?_)
      have loop2 : ∀ (n_k9 k9 : Nat), k9 + n_k9 = 40 → ∀ (H : Heap) (locs : List Loc) (ls : Array Slot), va_P (dC, dI) vwCl [(q, .inr (0, [.ref sb, .ref co, .ref rk, .long f1, .long f2, .int bt])), (sb, .inl (cI, 256, .inl bs_SBf)), (rw, .inl (cI, 44, .inl (bs_pt (bs_kw K) (bs_ph F T 16) (k9 + 4))))] H → va_D A [(q, .inr (0, [.ref sb, .ref co, .ref rk, .long f1, .long f2, .int bt])), (sb, .inl (cI, 256, .inl bs_SBf)), (rw, .inl (cI, 44, .inl (bs_pt (bs_kw K) (bs_ph F T 16) (k9 + 4))))] → va_S A s.heap H locs → lv_has ls 8 [(0, .ref q), (1, .ref rw), (2, .int (nI F)), (3, .int (nI T)), (4, .int (nI (bs_RC ((k9 + 3) / 4)))), (5, .int (nI (k9 + 4)))] → W p l e (headSpec wsBC_fillRoundKeys { frames := 1, cells := 0, slots := 0, locals := 24 }).room s m ([.ref q, .ref rw, .int (nI F), .int (nI T)] : List Value).toArray below meth c H locs 0 0 Q (F0 m 48 ls []) := by
        intro n_k9
        induction n_k9 with
        | zero =>
          intro k9 hi_k9 H locs ls hP hD hS hl
          obtain rfl : k9 = 40 := by omega
          refine lv_iload hx hb dBC_fillRoundKeys_48 (lv_at hl 5 rfl) ?_
          refine lv_bipush (v := nI 44) hx hb dBC_fillRoundKeys_50 (by decide) ?_
          refine lv_icmp_ge (tgt := 129) hx hb dBC_fillRoundKeys_52 (by decide) (fun _ => ?_) (fun h => absurd (nI_le (by omega) (by omega)) h)
          have hP := xp_i (bs_kw K) hP 2 rfl (fun j hj => bs_pt_lt (show j < 40 + 4 by omega))
          have hD := xd_at hD 2 (.inl (cI, 44, .inl (bs_kw K))) rfl
          have hP : va_P (dC, dI) vwCl [(q, .inr (0, [.ref sb, .ref co, .ref rk, .long f1, .long f2, .int bt])), (sb, .inl (cI, 256, .inl bs_SBf)), (rw, .inl (cI, 44, .inl (bs_kw K)))] H := hP
          have hD : va_D A [(q, .inr (0, [.ref sb, .ref co, .ref rk, .long f1, .long f2, .int bt])), (sb, .inl (cI, 256, .inl bs_SBf)), (rw, .inl (cI, 44, .inl (bs_kw K)))] := hD
          have hP : va_P (dC, dI) vwCl [(q, .inr (0, [.ref sb, .ref co, .ref rk, .long f1, .long f2, .int bt])), (sb, .inl (cI, 256, .inl bs_SBf)), (rw, .inl (cI, 44, .inl (bs_kw K)))] H := hP
          have hD : va_D A [(q, .inr (0, [.ref sb, .ref co, .ref rk, .long f1, .long f2, .int bt])), (sb, .inl (cI, 256, .inl bs_SBf)), (rw, .inl (cI, 44, .inl (bs_kw K)))] := hD
          subst hQ
          exact W.vret hx hb hr (fun t ht hW => ⟨⟨(), rfl, trivial, by rw [ht]; exact hP, va_K.moved hW.alike hK, hD⟩, hS.F ht⟩) hS.2.2 dBC_fillRoundKeys_129
        | succ n_k9 ih_k9 =>
          intro k9 hi_k9 H locs ls hP hD hS hl
          refine lv_iload hx hb dBC_fillRoundKeys_48 (lv_at hl 5 rfl) ?_
          refine lv_bipush (v := nI 44) hx hb dBC_fillRoundKeys_50 (by decide) ?_
          refine lv_icmp_ge (tgt := 129) hx hb dBC_fillRoundKeys_52 (by decide) (fun h => absurd h (nI_ge (by omega) (by omega))) (fun _ => ?_)
          refine lv_aload_n hx hb dBC_fillRoundKeys_55 rfl (lv_at hl 1 rfl) ?_
          refine lv_iload hx hb dBC_fillRoundKeys_56 (lv_at hl 5 rfl) ?_
          refine lv_iconst (v := nI 1) hx hb dBC_fillRoundKeys_58 (by decide) ?_
          refine lv_isub hx hb dBC_fillRoundKeys_59 ?_
          refine xt_i (y := nI (k9 + 4 - 1)) (pk_sub (by omega)) ?_
          refine xa_iald hx hb hK hP 2 0 rfl rfl (k9 + 4 - 1) (by omega) (by decide) dBC_fillRoundKeys_60 ?_
          refine xt_i (y := bs_kw K (k9 + 3)) ((bs_pt_lt (by omega)).trans (congrArg (bs_kw K) (by omega))) ?_
          refine lv_istore (lv' := [(6, .int (bs_kw K (k9 + 3))), (0, .ref q), (1, .ref rw), (2, .int (nI F)), (3, .int (nI T)), (4, .int (nI (bs_RC ((k9 + 3) / 4)))), (5, .int (nI (k9 + 4)))]) hx hb dBC_fillRoundKeys_61 hl (by decide) rfl (fun ls hl => ?_)
          refine lv_iload hx hb dBC_fillRoundKeys_63 (lv_at hl 6 rfl) ?_
          refine lv_iconst (v := nI 4) hx hb dBC_fillRoundKeys_65 (by decide) ?_
          refine lv_irem hx hb dBC_fillRoundKeys_66 (by decide) ?_
          refine xt_i (y := nI ((k9 + 4) % 4)) (pk_rem (by omega) (by decide) (by decide)) ?_
          refine lv_if_ne (tgt := 110) hx hb dBC_fillRoundKeys_67 (by decide) (fun hc => ?_) (fun hc => ?_)
          · have h9 : ¬ k9 % 4 = 0 := fun q => hc (by rw [show (k9 + 4) % 4 = 0 by omega]; rfl)
            rw [bs_bf_n h9, show (k9 + 3) / 4 = (k9 + 1 + 3) / 4 by omega] at hl
            refine lv_aload_n hx hb dBC_fillRoundKeys_110 rfl (lv_at hl 2 rfl) ?_
            refine lv_iload hx hb dBC_fillRoundKeys_111 (lv_at hl 6 rfl) ?_
            refine lv_aload_n hx hb dBC_fillRoundKeys_113 rfl (lv_at hl 2 rfl) ?_
            refine lv_iload hx hb dBC_fillRoundKeys_114 (lv_at hl 6 rfl) ?_
            refine lv_iconst (v := nI 4) hx hb dBC_fillRoundKeys_116 (by decide) ?_
            refine lv_isub hx hb dBC_fillRoundKeys_117 ?_
            refine xt_i (y := nI (k9 + 4 - 4)) (pk_sub (by omega)) ?_
            refine xa_iald hx hb hK hP 2 0 rfl rfl (k9 + 4 - 4) (by omega) (by decide) dBC_fillRoundKeys_118 ?_
            refine xt_i (y := bs_kw K k9) ((bs_pt_lt (by omega)).trans (congrArg (bs_kw K) (by omega))) ?_
            refine lv_iload hx hb dBC_fillRoundKeys_119 (lv_at hl 0 rfl) ?_
            refine lv_ixor hx hb dBC_fillRoundKeys_121 ?_
            refine xt_i (y := bs_kw K (k9 + 4)) (hrr k9 (by omega)) ?_
            refine xa_iast hx hb hK hP hD hS 2 0 rfl rfl (k9 + 4) (by omega) (by decide) dBC_fillRoundKeys_122 (fun H locs hP hD hS => ?_)
            have hP : va_P (dC, dI) vwCl [(q, .inr (0, [.ref sb, .ref co, .ref rk, .long f1, .long f2, .int bt])), (sb, .inl (cI, 256, .inl bs_SBf)), (rw, .inl (cI, 44, .inl (upd (bs_pt (bs_kw K) (bs_ph F T 16) (k9 + 4)) (k9 + 4) (bs_kw K (k9 + 4)))))] H := hP
            have hD : va_D A [(q, .inr (0, [.ref sb, .ref co, .ref rk, .long f1, .long f2, .int bt])), (sb, .inl (cI, 256, .inl bs_SBf)), (rw, .inl (cI, 44, .inl (upd (bs_pt (bs_kw K) (bs_ph F T 16) (k9 + 4)) (k9 + 4) (bs_kw K (k9 + 4)))))] := hD
            rw [bs_pt_s] at hP hD
            rw [show k9 + 4 + 1 = k9 + 1 + 4 by omega] at hP hD
            have hP : va_P (dC, dI) vwCl [(q, .inr (0, [.ref sb, .ref co, .ref rk, .long f1, .long f2, .int bt])), (sb, .inl (cI, 256, .inl bs_SBf)), (rw, .inl (cI, 44, .inl (bs_pt (bs_kw K) (bs_ph F T 16) (k9 + 1 + 4))))] H := hP
            have hD : va_D A [(q, .inr (0, [.ref sb, .ref co, .ref rk, .long f1, .long f2, .int bt])), (sb, .inl (cI, 256, .inl bs_SBf)), (rw, .inl (cI, 44, .inl (bs_pt (bs_kw K) (bs_ph F T 16) (k9 + 1 + 4))))] := hD
            refine lv_iinc (k := 6) (v := nI (k9 + 1 + 4)) (lv' := [(5, .int (nI (k9 + 1 + 4))), (6, .int (bs_bf K k9)), (0, .ref q), (1, .ref rw), (2, .int (nI F)), (3, .int (nI T)), (4, .int (nI (bs_RC ((k9 + 1 + 3) / 4))))]) hx hb dBC_fillRoundKeys_123 hl rfl ((xi_1 _).trans (congrArg nI (by omega))) (by decide) rfl (fun ls hl => ?_)
            refine lv_goto (tgt := 48) hx hb dBC_fillRoundKeys_126 (by decide) ?_
            have hP : va_P (dC, dI) vwCl [(q, .inr (0, [.ref sb, .ref co, .ref rk, .long f1, .long f2, .int bt])), (sb, .inl (cI, 256, .inl bs_SBf)), (rw, .inl (cI, 44, .inl (bs_pt (bs_kw K) (bs_ph F T 16) (k9 + 1 + 4))))] H := hP
            have hD : va_D A [(q, .inr (0, [.ref sb, .ref co, .ref rk, .long f1, .long f2, .int bt])), (sb, .inl (cI, 256, .inl bs_SBf)), (rw, .inl (cI, 44, .inl (bs_pt (bs_kw K) (bs_ph F T 16) (k9 + 1 + 4))))] := hD
            have hl := lv_sub hl (l' := [(0, .ref q), (1, .ref rw), (2, .int (nI F)), (3, .int (nI T)), (4, .int (nI (bs_RC ((k9 + 1 + 3) / 4)))), (5, .int (nI (k9 + 1 + 4)))]) [2, 3, 4, 5, 6, 0] rfl
            have hl : lv_has ls 8 [(0, .ref q), (1, .ref rw), (2, .int (nI F)), (3, .int (nI T)), (4, .int (nI (bs_RC ((k9 + 1 + 3) / 4)))), (5, .int (nI (k9 + 1 + 4)))] := hl
            exact ih_k9 (k9 + 1) (by omega) H _ ls hP hD hS hl
          · have h9 : k9 % 4 = 0 := by have h8 := (nI_eq (a := (k9 + 4) % 4) (b := 0) (by omega) (by decide)).mp hc; omega
            have q0 := bs_RC_s ((k9 + 3) / 4) (by omega)
            refine lv_iload hx hb dBC_fillRoundKeys_70 (lv_at hl 0 rfl) ?_
            refine lv_bipush (v := nI 8) hx hb dBC_fillRoundKeys_72 (by decide) ?_
            refine lv_ishl hx hb dBC_fillRoundKeys_74 ?_
            refine lv_iload hx hb dBC_fillRoundKeys_75 (lv_at hl 0 rfl) ?_
            refine lv_bipush (v := nI 24) hx hb dBC_fillRoundKeys_77 (by decide) ?_
            refine lv_iushr (v := j_ushr (bs_kw K (k9 + 3)) (nI 24)) hx hb dBC_fillRoundKeys_79 rfl ?_
            refine lv_ior hx hb dBC_fillRoundKeys_80 ?_
            refine xt_i (y := bs_tn K k9) (rfl) ?_
            refine lv_istore (lv' := [(7, .int (bs_tn K k9)), (6, .int (bs_kw K (k9 + 3))), (0, .ref q), (1, .ref rw), (2, .int (nI F)), (3, .int (nI T)), (4, .int (nI (bs_RC ((k9 + 3) / 4)))), (5, .int (nI (k9 + 4)))]) hx hb dBC_fillRoundKeys_81 hl (by decide) rfl (fun ls hl => ?_)
            refine lv_aload_n hx hb dBC_fillRoundKeys_83 rfl (lv_at hl 2 rfl) ?_
            refine lv_iload hx hb dBC_fillRoundKeys_84 (lv_at hl 0 rfl) ?_
            refine lv_iload hx hb dBC_fillRoundKeys_86 (lv_at hl 0 rfl) ?_
            refine lv_iload hx hb dBC_fillRoundKeys_88 (lv_at hl 0 rfl) ?_
            refine lv_iload hx hb dBC_fillRoundKeys_90 (lv_at hl 0 rfl) ?_
            have hPc := hP.sub (ws' := [(q, .inr (0, [.ref sb, .ref co, .ref rk, .long f1, .long f2, .int bt])), (sb, .inl (cI, 256, .inl bs_SBf))]) [0, 1] rfl
            have hDc := hD.sub (ws' := [(q, .inr (0, [.ref sb, .ref co, .ref rk, .long f1, .long f2, .int bt])), (sb, .inl (cI, 256, .inl bs_SBf))]) [0, 1] (by decide) rfl
            have hKc := hK.sub (tys' := [(cI, .int)]) [0] rfl
            have hFc := va_free (wc := [(q, .inr (0, [.ref sb, .ref co, .ref rk, .long f1, .long f2, .int bt])), (sb, .inl (cI, 256, .inl bs_SBf))]) hD hS hA [0, 1] rfl
            refine va_calli (va_runV (C := RBC) (As := [.int (bs_tn K k9), .int (bs_tn K k9), .int (bs_tn K k9), .int (bs_tn K k9)]) (rest := []) ⟨hx, hb, hml, hown, hts⟩ (c_BC_substituted l dC dI H.size q sb co rk f1 f2 bt cI bs_SBf (bs_tn K k9) (bs_tn K k9) (bs_tn K k9) (bs_tn K k9)) (cwV (C := RBC) 4 hts (wT_4 w_m_BC_47 w_i_BC_substituted w_s_BC_substituted w_n_BC w_c_BC_substituted) rfl rfl rfl (by decide +kernel) ⟨Nat.le_of_ble_eq_true rfl, Nat.le_of_ble_eq_true rfl⟩) ⟨fun a U g mk q => by obtain ⟨q0, q1, qP, qK, qD⟩ := q; exact ⟨q0, q1, qP, va_K.moved (u := U) (U := U.calling g mk a) (Vm.Alike.refl U.vm) qK, qD⟩, va_recv hK hP (q0 := 0) (ci := 0) (q := (RBC, TBC, 6)) rfl rfl, fun U hU hW => ⟨rfl, by rw [hU], by rw [hU]; exact hPc, va_K.moved hW.alike hKc, hDc.weaken (fun _ _ _ _ => trivial)⟩⟩ rfl rfl hl.1 rfl (lv_room (Nat.le_of_ble_eq_true rfl)) dBC_fillRoundKeys_92 ⟨Nat.zero_le _, Nat.zero_le _⟩) hS (fun q _ h => hFc q h) hFc (fun r u t H1 locs ht hvm hw hB hz1 hk1 hS => ?_)
            obtain ⟨hP1, hK1, hD1⟩ := hB
            rw [ht] at hP1
            have hK1 := va_K.moved hvm.symm hK1
            have hw : r = bs_sbt bs_SBf (bs_tn K k9) (bs_tn K k9) (bs_tn K k9) (bs_tn K k9) := hw
            rw [hw]
            obtain ⟨hP, hD⟩ := va_join (wr := [(rw, .inl (cI, 44, .inl (bs_pt (bs_kw K) (bs_ph F T 16) (k9 + 4))))]) (w1 := [(q, .inr (0, [.ref sb, .ref co, .ref rk, .long f1, .long f2, .int bt])), (sb, .inl (cI, 256, .inl bs_SBf))]) hP hD [0, 1] [2] rfl rfl (by decide) (by decide) hk1 hFc hP1 hD1
            generalize H1 = H at hP hS ⊢
            have hP : va_P (dC, dI) vwCl [(rw, .inl (cI, 44, .inl (bs_pt (bs_kw K) (bs_ph F T 16) (k9 + 4)))), (q, .inr (0, [.ref sb, .ref co, .ref rk, .long f1, .long f2, .int bt])), (sb, .inl (cI, 256, .inl bs_SBf))] H := hP
            have hD : va_D A [(rw, .inl (cI, 44, .inl (bs_pt (bs_kw K) (bs_ph F T 16) (k9 + 4)))), (q, .inr (0, [.ref sb, .ref co, .ref rk, .long f1, .long f2, .int bt])), (sb, .inl (cI, 256, .inl bs_SBf))] := hD
            refine lv_iload hx hb dBC_fillRoundKeys_95 (lv_at hl 6 rfl) ?_
            refine lv_bipush (v := nI 24) hx hb dBC_fillRoundKeys_97 (by decide) ?_
            refine lv_ishl hx hb dBC_fillRoundKeys_99 ?_
            refine xt_i (y := nI ((bs_RC ((k9 + 3) / 4)) * 2 ^ 24)) (xi_shl _ _ (by decide)) ?_
            refine lv_ixor hx hb dBC_fillRoundKeys_100 ?_
            refine xt_i (y := bs_bf K k9) ((by rw [show (k9 + 3) / 4 = k9 / 4 by omega]; exact bs_bf_y h9)) ?_
            refine lv_istore (lv' := [(6, .int (bs_bf K k9)), (7, .int (bs_tn K k9)), (0, .ref q), (1, .ref rw), (2, .int (nI F)), (3, .int (nI T)), (4, .int (nI (bs_RC ((k9 + 3) / 4)))), (5, .int (nI (k9 + 4)))]) hx hb dBC_fillRoundKeys_101 hl (by decide) rfl (fun ls hl => ?_)
            refine lv_iload hx hb dBC_fillRoundKeys_103 (lv_at hl 6 rfl) ?_
            have hPc := hP.sub (ws' := []) [] rfl
            have hDc := hD.sub (ws' := []) [] (by decide) rfl
            have hKc := hK.sub (tys' := []) [] rfl
            have hFc := va_free (wc := []) hD hS hA [] rfl
            refine va_calli (va_runS (As := [.int (nI (bs_RC ((k9 + 3) / 4)))]) (rest := []) ⟨hx, hb, hml, hown, hts⟩ (c_BC_timesX l dC dI H.size (bs_RC ((k9 + 3) / 4)) q0.2) (va_cwS 1 hts (wT_3 w_m_BC_56 w_t_BC_timesX w_n_BC w_c_BC_timesX) rfl rfl rfl (by decide +kernel) ⟨Nat.le_of_ble_eq_true rfl, Nat.le_of_ble_eq_true rfl⟩) ⟨fun a U g mk q => by obtain ⟨q0, q1, qP, qK, qD⟩ := q; exact ⟨q0, q1, qP, va_K.moved (u := U) (U := U.calling g mk a) (Vm.Alike.refl U.vm) qK, qD⟩, fun U hU hW => ⟨rfl, by rw [hU], by rw [hU]; exact hPc, va_K.moved hW.alike hKc, hDc.weaken (fun _ _ _ _ => trivial)⟩⟩ rfl rfl hl.1 rfl (lv_room (Nat.le_of_ble_eq_true rfl)) dBC_fillRoundKeys_105 ⟨Nat.zero_le _, Nat.zero_le _⟩) hS (fun q _ h => hFc q h) hFc (fun r u t H1 locs ht hvm hw hB hz1 hk1 hS => ?_)
            obtain ⟨hP1, hK1, hD1⟩ := hB
            rw [ht] at hP1
            have hK1 := va_K.moved hvm.symm hK1
            have hw : r = nI (bs_tX (bs_RC ((k9 + 3) / 4))) := hw
            rw [hw]
            obtain ⟨hP, hD⟩ := va_join (wr := [(rw, .inl (cI, 44, .inl (bs_pt (bs_kw K) (bs_ph F T 16) (k9 + 4)))), (q, .inr (0, [.ref sb, .ref co, .ref rk, .long f1, .long f2, .int bt])), (sb, .inl (cI, 256, .inl bs_SBf))]) (w1 := []) hP hD [] [0, 1, 2] rfl rfl (by decide) (by decide) hk1 hFc hP1 hD1
            generalize H1 = H at hP hS ⊢
            have hP : va_P (dC, dI) vwCl [(rw, .inl (cI, 44, .inl (bs_pt (bs_kw K) (bs_ph F T 16) (k9 + 4)))), (q, .inr (0, [.ref sb, .ref co, .ref rk, .long f1, .long f2, .int bt])), (sb, .inl (cI, 256, .inl bs_SBf))] H := hP
            have hD : va_D A [(rw, .inl (cI, 44, .inl (bs_pt (bs_kw K) (bs_ph F T 16) (k9 + 4)))), (q, .inr (0, [.ref sb, .ref co, .ref rk, .long f1, .long f2, .int bt])), (sb, .inl (cI, 256, .inl bs_SBf))] := hD
            refine xt_i (y := nI (bs_RC ((k9 + 1 + 3) / 4))) (congrArg nI (by rw [q0.1]; exact congrArg bs_RC (by omega))) ?_
            refine lv_istore (lv' := [(4, .int (nI (bs_RC ((k9 + 1 + 3) / 4)))), (6, .int (bs_bf K k9)), (7, .int (bs_tn K k9)), (0, .ref q), (1, .ref rw), (2, .int (nI F)), (3, .int (nI T)), (5, .int (nI (k9 + 4)))]) hx hb dBC_fillRoundKeys_108 hl (by decide) rfl (fun ls hl => ?_)
            refine lv_aload_n hx hb dBC_fillRoundKeys_110 rfl (lv_at hl 4 rfl) ?_
            refine lv_iload hx hb dBC_fillRoundKeys_111 (lv_at hl 7 rfl) ?_
            refine lv_aload_n hx hb dBC_fillRoundKeys_113 rfl (lv_at hl 4 rfl) ?_
            refine lv_iload hx hb dBC_fillRoundKeys_114 (lv_at hl 7 rfl) ?_
            refine lv_iconst (v := nI 4) hx hb dBC_fillRoundKeys_116 (by decide) ?_
            refine lv_isub hx hb dBC_fillRoundKeys_117 ?_
            refine xt_i (y := nI (k9 + 4 - 4)) (pk_sub (by omega)) ?_
            refine xa_iald hx hb hK hP 0 0 rfl rfl (k9 + 4 - 4) (by omega) (by decide) dBC_fillRoundKeys_118 ?_
            refine xt_i (y := bs_kw K k9) ((bs_pt_lt (by omega)).trans (congrArg (bs_kw K) (by omega))) ?_
            refine lv_iload hx hb dBC_fillRoundKeys_119 (lv_at hl 1 rfl) ?_
            refine lv_ixor hx hb dBC_fillRoundKeys_121 ?_
            refine xt_i (y := bs_kw K (k9 + 4)) (hrr k9 (by omega)) ?_
            refine xa_iast hx hb hK hP hD hS 0 0 rfl rfl (k9 + 4) (by omega) (by decide) dBC_fillRoundKeys_122 (fun H locs hP hD hS => ?_)
            have hP : va_P (dC, dI) vwCl [(rw, .inl (cI, 44, .inl (upd (bs_pt (bs_kw K) (bs_ph F T 16) (k9 + 4)) (k9 + 4) (bs_kw K (k9 + 4))))), (q, .inr (0, [.ref sb, .ref co, .ref rk, .long f1, .long f2, .int bt])), (sb, .inl (cI, 256, .inl bs_SBf))] H := hP
            have hD : va_D A [(rw, .inl (cI, 44, .inl (upd (bs_pt (bs_kw K) (bs_ph F T 16) (k9 + 4)) (k9 + 4) (bs_kw K (k9 + 4))))), (q, .inr (0, [.ref sb, .ref co, .ref rk, .long f1, .long f2, .int bt])), (sb, .inl (cI, 256, .inl bs_SBf))] := hD
            rw [bs_pt_s] at hP hD
            rw [show k9 + 4 + 1 = k9 + 1 + 4 by omega] at hP hD
            have hP : va_P (dC, dI) vwCl [(rw, .inl (cI, 44, .inl (bs_pt (bs_kw K) (bs_ph F T 16) (k9 + 1 + 4)))), (q, .inr (0, [.ref sb, .ref co, .ref rk, .long f1, .long f2, .int bt])), (sb, .inl (cI, 256, .inl bs_SBf))] H := hP
            have hD : va_D A [(rw, .inl (cI, 44, .inl (bs_pt (bs_kw K) (bs_ph F T 16) (k9 + 1 + 4)))), (q, .inr (0, [.ref sb, .ref co, .ref rk, .long f1, .long f2, .int bt])), (sb, .inl (cI, 256, .inl bs_SBf))] := hD
            refine lv_iinc (k := 7) (v := nI (k9 + 1 + 4)) (lv' := [(5, .int (nI (k9 + 1 + 4))), (4, .int (nI (bs_RC ((k9 + 1 + 3) / 4)))), (6, .int (bs_bf K k9)), (7, .int (bs_tn K k9)), (0, .ref q), (1, .ref rw), (2, .int (nI F)), (3, .int (nI T))]) hx hb dBC_fillRoundKeys_123 hl rfl ((xi_1 _).trans (congrArg nI (by omega))) (by decide) rfl (fun ls hl => ?_)
            refine lv_goto (tgt := 48) hx hb dBC_fillRoundKeys_126 (by decide) ?_
            have hP := hP.sub (ws' := [(q, .inr (0, [.ref sb, .ref co, .ref rk, .long f1, .long f2, .int bt])), (sb, .inl (cI, 256, .inl bs_SBf)), (rw, .inl (cI, 44, .inl (bs_pt (bs_kw K) (bs_ph F T 16) (k9 + 1 + 4))))]) [1, 2, 0] rfl
            have hD := hD.sub (ws' := [(q, .inr (0, [.ref sb, .ref co, .ref rk, .long f1, .long f2, .int bt])), (sb, .inl (cI, 256, .inl bs_SBf)), (rw, .inl (cI, 44, .inl (bs_pt (bs_kw K) (bs_ph F T 16) (k9 + 1 + 4))))]) [1, 2, 0] (by decide) rfl
            have hP : va_P (dC, dI) vwCl [(q, .inr (0, [.ref sb, .ref co, .ref rk, .long f1, .long f2, .int bt])), (sb, .inl (cI, 256, .inl bs_SBf)), (rw, .inl (cI, 44, .inl (bs_pt (bs_kw K) (bs_ph F T 16) (k9 + 1 + 4))))] H := hP
            have hD : va_D A [(q, .inr (0, [.ref sb, .ref co, .ref rk, .long f1, .long f2, .int bt])), (sb, .inl (cI, 256, .inl bs_SBf)), (rw, .inl (cI, 44, .inl (bs_pt (bs_kw K) (bs_ph F T 16) (k9 + 1 + 4))))] := hD
            have hl := lv_sub hl (l' := [(0, .ref q), (1, .ref rw), (2, .int (nI F)), (3, .int (nI T)), (4, .int (nI (bs_RC ((k9 + 1 + 3) / 4)))), (5, .int (nI (k9 + 1 + 4)))]) [4, 5, 6, 7, 1, 0] rfl
            have hl : lv_has ls 8 [(0, .ref q), (1, .ref rw), (2, .int (nI F)), (3, .int (nI T)), (4, .int (nI (bs_RC ((k9 + 1 + 3) / 4)))), (5, .int (nI (k9 + 1 + 4)))] := hl
            exact ih_k9 (k9 + 1) (by omega) H _ ls hP hD hS hl
      have hP := xp_i (bs_pt (bs_kw K) (bs_ph F T 16) (0 + 4)) hP 2 rfl (fun j hj => if h9 : j < 0 + 4 then (h4 j (by omega)).trans (bs_pt_lt h9).symm else (bs_pt_ge (Nat.not_lt.mp h9)).symm)
      have hD := xd_at hD 2 (.inl (cI, 44, .inl (bs_pt (bs_kw K) (bs_ph F T 16) (0 + 4)))) rfl
      have hP : va_P (dC, dI) vwCl [(q, .inr (0, [.ref sb, .ref co, .ref rk, .long f1, .long f2, .int bt])), (sb, .inl (cI, 256, .inl bs_SBf)), (rw, .inl (cI, 44, .inl (bs_pt (bs_kw K) (bs_ph F T 16) (0 + 4))))] H := hP
      have hD : va_D A [(q, .inr (0, [.ref sb, .ref co, .ref rk, .long f1, .long f2, .int bt])), (sb, .inl (cI, 256, .inl bs_SBf)), (rw, .inl (cI, 44, .inl (bs_pt (bs_kw K) (bs_ph F T 16) (0 + 4))))] := hD
      have hl := lv_sub hl (l' := [(0, .ref q), (1, .ref rw), (2, .int (nI F)), (3, .int (nI T)), (4, .int (nI 1)), (5, .int (nI 4))]) [2, 3, 4, 5, 1, 0] rfl
      have hl : lv_has ls 8 [(0, .ref q), (1, .ref rw), (2, .int (nI F)), (3, .int (nI T)), (4, .int (nI (bs_RC ((0 + 3) / 4)))), (5, .int (nI (0 + 4)))] := hl
      exact loop2 (40 - 0) 0 (by omega) H _ ls hP hD hS hl
    | succ n ih =>
      intro i hi H locs ls hP hD hS hl
      refine lv_iload hx hb dBC_fillRoundKeys_3 (lv_at hl 4 rfl) ?_
      refine lv_bipush (v := nI 16) hx hb dBC_fillRoundKeys_5 (by decide) ?_
      refine lv_icmp_ge (tgt := 42) hx hb dBC_fillRoundKeys_7 (by decide) (fun h => absurd h (nI_ge (by omega) (by omega))) (fun _ => ?_)
      refine lv_aload_n hx hb dBC_fillRoundKeys_10 rfl (lv_at hl 1 rfl) ?_
      refine lv_iload hx hb dBC_fillRoundKeys_11 (lv_at hl 4 rfl) ?_
      refine lv_iconst (v := nI 4) hx hb dBC_fillRoundKeys_13 (by decide) ?_
      refine lv_idiv hx hb dBC_fillRoundKeys_14 (by decide) ?_
      refine xt_i (y := nI (i / 4)) (pk_div (by omega) (by decide) (by decide)) ?_
      refine lv_aload_n hx hb dBC_fillRoundKeys_15 rfl (lv_at hl 1 rfl) ?_
      refine lv_iload hx hb dBC_fillRoundKeys_16 (lv_at hl 4 rfl) ?_
      refine lv_iconst (v := nI 4) hx hb dBC_fillRoundKeys_18 (by decide) ?_
      refine lv_idiv hx hb dBC_fillRoundKeys_19 (by decide) ?_
      refine xt_i (y := nI (i / 4)) (pk_div (by omega) (by decide) (by decide)) ?_
      refine xa_iald hx hb hK hP 2 0 rfl rfl (i / 4) (by omega) (by decide) dBC_fillRoundKeys_20 ?_
      refine lv_bipush (v := nI 8) hx hb dBC_fillRoundKeys_21 (by decide) ?_
      refine lv_ishl hx hb dBC_fillRoundKeys_23 ?_
      refine lv_iload_n hx hb dBC_fillRoundKeys_24 rfl (lv_at hl 2 rfl) ?_
      refine lv_iload hx hb dBC_fillRoundKeys_25 (lv_at hl 4 rfl) ?_
      refine lv_imul hx hb dBC_fillRoundKeys_27 ?_
      refine xt_i (y := nI (F * i)) (pk_mul _ _) ?_
      refine lv_iload_n hx hb dBC_fillRoundKeys_28 rfl (lv_at hl 3 rfl) ?_
      refine lv_iadd hx hb dBC_fillRoundKeys_29 ?_
      refine xt_i (y := nI (F * i + T)) (nI_add _ _) ?_
      refine lv_sipush (v := nI 255) hx hb dBC_fillRoundKeys_30 (by decide) ?_
      refine lv_iand hx hb dBC_fillRoundKeys_33 ?_
      refine xt_i (y := nI ((F * i + T) % 256)) (xi_and_255 _) ?_
      refine lv_ior hx hb dBC_fillRoundKeys_34 ?_
      refine xa_iast hx hb hK hP hD hS 2 0 rfl rfl (i / 4) (by omega) (by decide) dBC_fillRoundKeys_35 (fun H locs hP hD hS => ?_)
      have hP : va_P (dC, dI) vwCl [(q, .inr (0, [.ref sb, .ref co, .ref rk, .long f1, .long f2, .int bt])), (sb, .inl (cI, 256, .inl bs_SBf)), (rw, .inl (cI, 44, .inl (upd (bs_ph F T i) (i / 4) ((((bs_ph F T i) (i / 4)) <<< ((nI 8) &&& 31)) ||| (nI ((F * i + T) % 256))))))] H := hP
      have hD : va_D A [(q, .inr (0, [.ref sb, .ref co, .ref rk, .long f1, .long f2, .int bt])), (sb, .inl (cI, 256, .inl bs_SBf)), (rw, .inl (cI, 44, .inl (upd (bs_ph F T i) (i / 4) ((((bs_ph F T i) (i / 4)) <<< ((nI 8) &&& 31)) ||| (nI ((F * i + T) % 256))))))] := hD
      have hP : va_P (dC, dI) vwCl [(q, .inr (0, [.ref sb, .ref co, .ref rk, .long f1, .long f2, .int bt])), (sb, .inl (cI, 256, .inl bs_SBf)), (rw, .inl (cI, 44, .inl (bs_ph F T (i + 1))))] H := hP
      have hD : va_D A [(q, .inr (0, [.ref sb, .ref co, .ref rk, .long f1, .long f2, .int bt])), (sb, .inl (cI, 256, .inl bs_SBf)), (rw, .inl (cI, 44, .inl (bs_ph F T (i + 1))))] := hD
      refine lv_iinc (k := 4) (v := nI (i + 1)) (lv' := [(4, .int (nI (i + 1))), (0, .ref q), (1, .ref rw), (2, .int (nI F)), (3, .int (nI T))]) hx hb dBC_fillRoundKeys_36 hl rfl (xi_1 _) (by decide) rfl (fun ls hl => ?_)
      refine lv_goto (tgt := 3) hx hb dBC_fillRoundKeys_39 (by decide) ?_
      have hP : va_P (dC, dI) vwCl [(q, .inr (0, [.ref sb, .ref co, .ref rk, .long f1, .long f2, .int bt])), (sb, .inl (cI, 256, .inl bs_SBf)), (rw, .inl (cI, 44, .inl (bs_ph F T (i + 1))))] H := hP
      have hD : va_D A [(q, .inr (0, [.ref sb, .ref co, .ref rk, .long f1, .long f2, .int bt])), (sb, .inl (cI, 256, .inl bs_SBf)), (rw, .inl (cI, 44, .inl (bs_ph F T (i + 1))))] := hD
      have hl := lv_sub hl (l' := [(0, .ref q), (1, .ref rw), (2, .int (nI F)), (3, .int (nI T)), (4, .int (nI (i + 1)))]) [1, 2, 3, 4, 0] rfl
      have hl : lv_has ls 8 [(0, .ref q), (1, .ref rw), (2, .int (nI F)), (3, .int (nI T)), (4, .int (nI (i + 1)))] := hl
      exact ih (i + 1) (by omega) H _ ls hP hD hS hl
  have hP : va_P (dC, dI) vwCl [(q, .inr (0, [.ref sb, .ref co, .ref rk, .long f1, .long f2, .int bt])), (sb, .inl (cI, 256, .inl bs_SBf)), (rw, .inl (cI, 44, .inl (bs_ph F T 0)))] H := hP
  have hD : va_D A [(q, .inr (0, [.ref sb, .ref co, .ref rk, .long f1, .long f2, .int bt])), (sb, .inl (cI, 256, .inl bs_SBf)), (rw, .inl (cI, 44, .inl (bs_ph F T 0)))] := hD
  have hl := lv_sub hl (l' := [(0, .ref q), (1, .ref rw), (2, .int (nI F)), (3, .int (nI T)), (4, .int (nI 0))]) [1, 2, 3, 4, 0] rfl
  have hl : lv_has ls 8 [(0, .ref q), (1, .ref rw), (2, .int (nI F)), (3, .int (nI T)), (4, .int (nI 0))] := hl
  exact loop (16 - 0) 0 (by omega) H _ ls hP hD hS hl
set_option maxHeartbeats 4000000 in
set_option maxRecDepth 100000 in
theorem c_KM_init (l : Launch) (dC : Nat → ClassId) (dI : Nat → Nat → Nat) (sz : Nat) (mk : Nat) (cI cL : ClassId)  : Met l yKM_init wsKM_init { frames := 1, cells := 4, slots := 8, locals := 24 } (va_Pc [.ref mk] (fun U => U.heap.size = sz ∧ va_P (dC, dI) vwCl [(mk, .inr (2, [.null, .null, .null, .null, .long 0, .long 0, .int 0]))] U.heap ∧ va_K (dC, dI) vwCl [(cI, .int), (cL, .long)] U ∧ va_D (fun _ => True) [(mk, .inr (2, [.null, .null, .null, .null, .long 0, .long 0, .int 0]))])) (va_Qv (fun (u : (Nat) × (Nat) × (Nat) × (Nat)) => match u with | (mf, ms, mb, mh) => True) (fun (u : (Nat) × (Nat) × (Nat) × (Nat)) t => match u with | (mf, ms, mb, mh) => va_P (dC, dI) vwCl [(mk, .inr (2, [.ref mf, .ref ms, .ref mb, .ref mh, .long 0, .long 0, .int 0])), (mf, .inl (cL, 2, .inr (.inl (fun _ => 0)))), (ms, .inl (cL, 2, .inr (.inl (fun _ => 0)))), (mb, .inl (cI, 2, .inl (fun _ => 0))), (mh, .inl (cI, 2, .inl (fun _ => 0)))] t.heap ∧ va_K (dC, dI) vwCl [(cI, .int), (cL, .long)] t ∧ va_D (va_A [(mk, .inr (2, [.null, .null, .null, .null, .long 0, .long 0, .int 0]))] sz) [(mk, .inr (2, [.ref mf, .ref ms, .ref mb, .ref mh, .long 0, .long 0, .int 0])), (mf, .inl (cL, 2, .inr (.inl (fun _ => 0)))), (ms, .inl (cL, 2, .inr (.inl (fun _ => 0)))), (mb, .inl (cI, 2, .inl (fun _ => 0))), (mh, .inl (cI, 2, .inl (fun _ => 0)))]) (va_A [(mk, .inr (2, [.null, .null, .null, .null, .long 0, .long 0, .int 0]))] sz)) 4 8 (va_A [(mk, .inr (2, [.null, .null, .null, .null, .long 0, .long 0, .int 0]))] sz) := by
  refine Met.ofW (cc := cKM_init) (maxL := 1) (ret := none) (by decide) rfl ?_
  intro p e s m args below meth c s₁ Bo9 hml hv
  obtain ⟨rfl, hsz, hP, hK, hD0⟩ := hv
  have hx := Bo9.exec
  have hb := Bo9.bytes
  have hr := Bo9.returns
  have hts := fun w (h : w ∈ wT) => atoms_spec (ws := wsKM_init) Bo9.pre w (List.mem_cons_of_mem _ h)
  have hown : s.vm.findClass RKM = some m.cls := findClass_of_methodNamed Bo9.named
  have hlocks := Bo9.notSynchronized
  have hin : meth.name = "<init>" := (name_of_methodNamed Bo9.named Bo9.method).1
  subst hsz
  have hD := hD0.self (sz := s.heap.size)
  generalize hAe : va_A [(mk, .inr (2, [.null, .null, .null, .null, .long 0, .long 0, .int 0]))] s.heap.size = A at hD ⊢
  have hA : ∀ q : Nat, s.heap.size ≤ q → A q := fun q h => by rw [← hAe]; exact Or.inr h
  have hl := lv_entry ([.ref mk]) (n := 1) (Nat.le_of_ble_eq_true rfl)
  rw [lg_entry_eq]
  generalize (lg_sl ([.ref mk]) ++ List.replicate (1 - (lg_sl ([.ref mk])).length) Slot.unset).toArray = ls at hl ⊢
  have hl : lv_has ls 1 [(0, .ref mk)] := hl
  refine xs_q (fun H Q hH hQ => ?_)
  have hS : va_S A s.heap H [] := by rw [hH]; exact va_S.rf
  have hP : va_P (dC, dI) vwCl [(mk, .inr (2, [.null, .null, .null, .null, .long 0, .long 0, .int 0]))] H := by rw [hH]; exact hP
  refine lv_aload_n hx hb dKM_init_0 rfl (lv_at hl 0 rfl) ?_
  refine W.objInit hx hb hown (hts _ w_m_KM_1) (hts _ w_i_obj) (hts _ w_c_obj) rfl (by rw [hml]; exact hl.1) rfl dKM_init_1 (Nat.le_of_ble_eq_true rfl) (Nat.le_of_ble_eq_true rfl) ?_
  refine W.eq (g2 := F0 m 4 ls []) rfl ?_
  refine lv_aload_n hx hb dKM_init_4 rfl (lv_at hl 0 rfl) ?_
  refine lv_iconst (v := nI 2) hx hb dKM_init_5 (by decide) ?_
  refine va_newa (atype := .long) (ty := .long) (N' := 2) (a0 := (2, .inr (.inl (fun _ => 0)))) hx hb (hts _ w_a_long) rfl hK hP hD hS hA (fun _ => rfl) (by decide +kernel) (by decide +kernel) (by decide +kernel) (Nat.le_of_ble_eq_true rfl) (Nat.le_of_ble_eq_true rfl) dKM_init_6 (fun mf cA9 H hK9 hP hD hS => ?_)
  obtain rfl : cL = cA9 := xk_same hK9 1 2 rfl rfl
  clear hK9
  have hP : va_P (dC, dI) vwCl [(mk, .inr (2, [.null, .null, .null, .null, .long 0, .long 0, .int 0])), (mf, .inl (cL, 2, .inr (.inl (fun _ => 0))))] H := hP
  have hD : va_D A [(mk, .inr (2, [.null, .null, .null, .null, .long 0, .long 0, .int 0])), (mf, .inl (cL, 2, .inr (.inl (fun _ => 0))))] := hD
  refine va_putF (D := (dC, dI)) (ci := 2) (v := .ref mf) (ty := .array .long) (C := RKM) (T := TKM) (N := 7) hx hb hts in_KM tyKM tyKM_ok nmKM hown hK hP hD hS 0 rfl rfl 0 (by decide) (hts _ w_f_KM_7) (fun _ h9 => h9) rfl hin rfl (by decide +kernel) (rfl) (rfl) (Nat.le_of_ble_eq_true rfl) dKM_init_8 (fun H locs hP hD hS => ?_)
  have hP : va_P (dC, dI) vwCl [(mk, .inr (2, [.ref mf, .null, .null, .null, .long 0, .long 0, .int 0])), (mf, .inl (cL, 2, .inr (.inl (fun _ => 0))))] H := hP
  have hD : va_D A [(mk, .inr (2, [.ref mf, .null, .null, .null, .long 0, .long 0, .int 0])), (mf, .inl (cL, 2, .inr (.inl (fun _ => 0))))] := hD
  refine lv_aload_n hx hb dKM_init_11 rfl (lv_at hl 0 rfl) ?_
  refine lv_iconst (v := nI 2) hx hb dKM_init_12 (by decide) ?_
  refine va_newa (atype := .long) (ty := .long) (N' := 2) (a0 := (2, .inr (.inl (fun _ => 0)))) hx hb (hts _ w_a_long) rfl hK hP hD hS hA (fun _ => rfl) (by decide +kernel) (by decide +kernel) (by decide +kernel) (Nat.le_of_ble_eq_true rfl) (Nat.le_of_ble_eq_true rfl) dKM_init_13 (fun ms cA9 H hK9 hP hD hS => ?_)
  obtain rfl : cL = cA9 := xk_same hK9 1 2 rfl rfl
  clear hK9
  have hP : va_P (dC, dI) vwCl [(mk, .inr (2, [.ref mf, .null, .null, .null, .long 0, .long 0, .int 0])), (mf, .inl (cL, 2, .inr (.inl (fun _ => 0)))), (ms, .inl (cL, 2, .inr (.inl (fun _ => 0))))] H := hP
  have hD : va_D A [(mk, .inr (2, [.ref mf, .null, .null, .null, .long 0, .long 0, .int 0])), (mf, .inl (cL, 2, .inr (.inl (fun _ => 0)))), (ms, .inl (cL, 2, .inr (.inl (fun _ => 0))))] := hD
  refine va_putF (D := (dC, dI)) (ci := 2) (v := .ref ms) (ty := .array .long) (C := RKM) (T := TKM) (N := 7) hx hb hts in_KM tyKM tyKM_ok nmKM hown hK hP hD hS 0 rfl rfl 1 (by decide) (hts _ w_f_KM_13) (fun _ h9 => h9) rfl hin rfl (by decide +kernel) (rfl) (rfl) (Nat.le_of_ble_eq_true rfl) dKM_init_15 (fun H locs hP hD hS => ?_)
  have hP : va_P (dC, dI) vwCl [(mk, .inr (2, [.ref mf, .ref ms, .null, .null, .long 0, .long 0, .int 0])), (mf, .inl (cL, 2, .inr (.inl (fun _ => 0)))), (ms, .inl (cL, 2, .inr (.inl (fun _ => 0))))] H := hP
  have hD : va_D A [(mk, .inr (2, [.ref mf, .ref ms, .null, .null, .long 0, .long 0, .int 0])), (mf, .inl (cL, 2, .inr (.inl (fun _ => 0)))), (ms, .inl (cL, 2, .inr (.inl (fun _ => 0))))] := hD
  refine lv_aload_n hx hb dKM_init_18 rfl (lv_at hl 0 rfl) ?_
  refine lv_iconst (v := nI 2) hx hb dKM_init_19 (by decide) ?_
  refine va_newa (atype := .int) (ty := .int) (N' := 2) (a0 := (2, .inl (fun _ => 0))) hx hb (hts _ w_a_int) rfl hK hP hD hS hA (fun _ => rfl) (by decide +kernel) (by decide +kernel) (by decide +kernel) (Nat.le_of_ble_eq_true rfl) (Nat.le_of_ble_eq_true rfl) dKM_init_20 (fun mb cA9 H hK9 hP hD hS => ?_)
  obtain rfl : cI = cA9 := xk_same hK9 0 2 rfl rfl
  clear hK9
  have hP : va_P (dC, dI) vwCl [(mk, .inr (2, [.ref mf, .ref ms, .null, .null, .long 0, .long 0, .int 0])), (mf, .inl (cL, 2, .inr (.inl (fun _ => 0)))), (ms, .inl (cL, 2, .inr (.inl (fun _ => 0)))), (mb, .inl (cI, 2, .inl (fun _ => 0)))] H := hP
  have hD : va_D A [(mk, .inr (2, [.ref mf, .ref ms, .null, .null, .long 0, .long 0, .int 0])), (mf, .inl (cL, 2, .inr (.inl (fun _ => 0)))), (ms, .inl (cL, 2, .inr (.inl (fun _ => 0)))), (mb, .inl (cI, 2, .inl (fun _ => 0)))] := hD
  refine va_putF (D := (dC, dI)) (ci := 2) (v := .ref mb) (ty := .array .int) (C := RKM) (T := TKM) (N := 7) hx hb hts in_KM tyKM tyKM_ok nmKM hown hK hP hD hS 0 rfl rfl 2 (by decide) (hts _ w_f_KM_16) (fun _ h9 => h9) rfl hin rfl (by decide +kernel) (rfl) (rfl) (Nat.le_of_ble_eq_true rfl) dKM_init_22 (fun H locs hP hD hS => ?_)
  have hP : va_P (dC, dI) vwCl [(mk, .inr (2, [.ref mf, .ref ms, .ref mb, .null, .long 0, .long 0, .int 0])), (mf, .inl (cL, 2, .inr (.inl (fun _ => 0)))), (ms, .inl (cL, 2, .inr (.inl (fun _ => 0)))), (mb, .inl (cI, 2, .inl (fun _ => 0)))] H := hP
  have hD : va_D A [(mk, .inr (2, [.ref mf, .ref ms, .ref mb, .null, .long 0, .long 0, .int 0])), (mf, .inl (cL, 2, .inr (.inl (fun _ => 0)))), (ms, .inl (cL, 2, .inr (.inl (fun _ => 0)))), (mb, .inl (cI, 2, .inl (fun _ => 0)))] := hD
  refine lv_aload_n hx hb dKM_init_25 rfl (lv_at hl 0 rfl) ?_
  refine lv_iconst (v := nI 2) hx hb dKM_init_26 (by decide) ?_
  refine va_newa (atype := .int) (ty := .int) (N' := 2) (a0 := (2, .inl (fun _ => 0))) hx hb (hts _ w_a_int) rfl hK hP hD hS hA (fun _ => rfl) (by decide +kernel) (by decide +kernel) (by decide +kernel) (Nat.le_of_ble_eq_true rfl) (Nat.le_of_ble_eq_true rfl) dKM_init_27 (fun mh cA9 H hK9 hP hD hS => ?_)
  obtain rfl : cI = cA9 := xk_same hK9 0 2 rfl rfl
  clear hK9
  have hP : va_P (dC, dI) vwCl [(mk, .inr (2, [.ref mf, .ref ms, .ref mb, .null, .long 0, .long 0, .int 0])), (mf, .inl (cL, 2, .inr (.inl (fun _ => 0)))), (ms, .inl (cL, 2, .inr (.inl (fun _ => 0)))), (mb, .inl (cI, 2, .inl (fun _ => 0))), (mh, .inl (cI, 2, .inl (fun _ => 0)))] H := hP
  have hD : va_D A [(mk, .inr (2, [.ref mf, .ref ms, .ref mb, .null, .long 0, .long 0, .int 0])), (mf, .inl (cL, 2, .inr (.inl (fun _ => 0)))), (ms, .inl (cL, 2, .inr (.inl (fun _ => 0)))), (mb, .inl (cI, 2, .inl (fun _ => 0))), (mh, .inl (cI, 2, .inl (fun _ => 0)))] := hD
  refine va_putF (D := (dC, dI)) (ci := 2) (v := .ref mh) (ty := .array .int) (C := RKM) (T := TKM) (N := 7) hx hb hts in_KM tyKM tyKM_ok nmKM hown hK hP hD hS 0 rfl rfl 3 (by decide) (hts _ w_f_KM_20) (fun _ h9 => h9) rfl hin rfl (by decide +kernel) (rfl) (rfl) (Nat.le_of_ble_eq_true rfl) dKM_init_29 (fun H locs hP hD hS => ?_)
  have hP : va_P (dC, dI) vwCl [(mk, .inr (2, [.ref mf, .ref ms, .ref mb, .ref mh, .long 0, .long 0, .int 0])), (mf, .inl (cL, 2, .inr (.inl (fun _ => 0)))), (ms, .inl (cL, 2, .inr (.inl (fun _ => 0)))), (mb, .inl (cI, 2, .inl (fun _ => 0))), (mh, .inl (cI, 2, .inl (fun _ => 0)))] H := hP
  have hD : va_D A [(mk, .inr (2, [.ref mf, .ref ms, .ref mb, .ref mh, .long 0, .long 0, .int 0])), (mf, .inl (cL, 2, .inr (.inl (fun _ => 0)))), (ms, .inl (cL, 2, .inr (.inl (fun _ => 0)))), (mb, .inl (cI, 2, .inl (fun _ => 0))), (mh, .inl (cI, 2, .inl (fun _ => 0)))] := hD
  subst hQ
  exact W.vret hx hb hr (fun t ht hW => ⟨⟨(mf, ms, mb, mh), rfl, trivial, by rw [ht]; exact hP, va_K.moved hW.alike hK, hD⟩, hS.F ht⟩) hS.2.2 dKM_init_32
set_option maxHeartbeats 4000000 in
set_option maxRecDepth 100000 in
theorem c_KY_init (l : Launch) (dC : Nat → ClassId) (dI : Nat → Nat → Nat) (sz : Nat) (k : Nat) (num : Int32) (cI cL : ClassId)  : Met l yKY_init wsKY_init { frames := 2, cells := 4, slots := 1696, locals := 44 } (va_Pc [.ref k, .int num] (fun U => U.heap.size = sz ∧ va_P (dC, dI) vwCl [(k, .inr (1, [.null, .int 0, .null, .null, .null]))] U.heap ∧ va_K (dC, dI) vwCl [(cI, .int), (cL, .long)] U ∧ va_D (fun _ => True) [(k, .inr (1, [.null, .int 0, .null, .null, .null]))])) (va_Qv (fun (u : (Nat) × (Nat) × (Nat) × (Nat)) => match u with | (kb, kf, ks, kt) => True) (fun (u : (Nat) × (Nat) × (Nat) × (Nat)) t => match u with | (kb, kf, ks, kt) => va_P (dC, dI) vwCl [(k, .inr (1, [.ref kb, .int num, .ref kf, .ref ks, .ref kt])), (kb, .inl (cI, 160, .inl (fun _ => 0))), (kf, .inl (cL, 512, .inr (.inl (vp_updL (fun _ => 0) 1 (bs_rd (fun _ => 0) 0 8))))), (ks, .inl (cL, 512, .inr (.inl (vp_updL (fun _ => 0) 1 (bs_rd (fun _ => 0) 8 8))))), (kt, .inl (cI, 512, .inl (upd (bs_fill (fun _ => 0) (-1) 512) 1 num)))] t.heap ∧ va_K (dC, dI) vwCl [(cI, .int), (cL, .long)] t ∧ va_D (va_A [(k, .inr (1, [.null, .int 0, .null, .null, .null]))] sz) [(k, .inr (1, [.ref kb, .int num, .ref kf, .ref ks, .ref kt])), (kb, .inl (cI, 160, .inl (fun _ => 0))), (kf, .inl (cL, 512, .inr (.inl (vp_updL (fun _ => 0) 1 (bs_rd (fun _ => 0) 0 8))))), (ks, .inl (cL, 512, .inr (.inl (vp_updL (fun _ => 0) 1 (bs_rd (fun _ => 0) 8 8))))), (kt, .inl (cI, 512, .inl (upd (bs_fill (fun _ => 0) (-1) 512) 1 num)))]) (va_A [(k, .inr (1, [.null, .int 0, .null, .null, .null]))] sz)) 4 1696 (va_A [(k, .inr (1, [.null, .int 0, .null, .null, .null]))] sz) := by
  refine Met.ofW (cc := cKY_init) (maxL := 2) (ret := none) (by decide) rfl ?_
  intro p e s m args below meth c s₁ Bo9 hml hv
  obtain ⟨rfl, hsz, hP, hK, hD0⟩ := hv
  have hx := Bo9.exec
  have hb := Bo9.bytes
  have hr := Bo9.returns
  have hts := fun w (h : w ∈ wT) => atoms_spec (ws := wsKY_init) Bo9.pre w (List.mem_cons_of_mem _ h)
  have hown : s.vm.findClass RKY = some m.cls := findClass_of_methodNamed Bo9.named
  have hlocks := Bo9.notSynchronized
  have hin : meth.name = "<init>" := (name_of_methodNamed Bo9.named Bo9.method).1
  subst hsz
  have hD := hD0.self (sz := s.heap.size)
  generalize hAe : va_A [(k, .inr (1, [.null, .int 0, .null, .null, .null]))] s.heap.size = A at hD ⊢
  have hA : ∀ q : Nat, s.heap.size ≤ q → A q := fun q h => by rw [← hAe]; exact Or.inr h
  have hl := lv_entry ([.ref k, .int num]) (n := 2) (Nat.le_of_ble_eq_true rfl)
  rw [lg_entry_eq]
  generalize (lg_sl ([.ref k, .int num]) ++ List.replicate (2 - (lg_sl ([.ref k, .int num])).length) Slot.unset).toArray = ls at hl ⊢
  have hl : lv_has ls 2 [(0, .ref k), (1, .int num)] := hl
  refine xs_q (fun H Q hH hQ => ?_)
  have hS : va_S A s.heap H [] := by rw [hH]; exact va_S.rf
  have hP : va_P (dC, dI) vwCl [(k, .inr (1, [.null, .int 0, .null, .null, .null]))] H := by rw [hH]; exact hP
  refine lv_aload_n hx hb dKY_init_0 rfl (lv_at hl 0 rfl) ?_
  refine W.objInit hx hb hown (hts _ w_m_KY_3) (hts _ w_i_obj) (hts _ w_c_obj) rfl (by rw [hml]; exact hl.1) rfl dKY_init_1 (Nat.le_of_ble_eq_true rfl) (Nat.le_of_ble_eq_true rfl) ?_
  refine W.eq (g2 := F0 m 4 ls []) rfl ?_
  refine lv_aload_n hx hb dKY_init_4 rfl (lv_at hl 0 rfl) ?_
  refine lv_sipush (v := nI 160) hx hb dKY_init_5 (by decide) ?_
  refine va_newa (atype := .int) (ty := .int) (N' := 160) (a0 := (160, .inl (fun _ => 0))) hx hb (hts _ w_a_int) rfl hK hP hD hS hA (fun _ => rfl) (by decide +kernel) (by decide +kernel) (by decide +kernel) (Nat.le_of_ble_eq_true rfl) (Nat.le_of_ble_eq_true rfl) dKY_init_8 (fun kb cA9 H hK9 hP hD hS => ?_)
  obtain rfl : cI = cA9 := xk_same hK9 0 2 rfl rfl
  clear hK9
  have hP : va_P (dC, dI) vwCl [(k, .inr (1, [.null, .int 0, .null, .null, .null])), (kb, .inl (cI, 160, .inl (fun _ => 0)))] H := hP
  have hD : va_D A [(k, .inr (1, [.null, .int 0, .null, .null, .null])), (kb, .inl (cI, 160, .inl (fun _ => 0)))] := hD
  refine va_putF (D := (dC, dI)) (ci := 1) (v := .ref kb) (ty := .array .int) (C := RKY) (T := TKY) (N := 5) hx hb hts in_KY tyKY tyKY_ok nmKY hown hK hP hD hS 0 rfl rfl 0 (by decide) (hts _ w_f_KY_11) (fun _ h9 => h9) rfl hin rfl (by decide +kernel) (rfl) (rfl) (Nat.le_of_ble_eq_true rfl) dKY_init_10 (fun H locs hP hD hS => ?_)
  have hP : va_P (dC, dI) vwCl [(k, .inr (1, [.ref kb, .int 0, .null, .null, .null])), (kb, .inl (cI, 160, .inl (fun _ => 0)))] H := hP
  have hD : va_D A [(k, .inr (1, [.ref kb, .int 0, .null, .null, .null])), (kb, .inl (cI, 160, .inl (fun _ => 0)))] := hD
  refine lv_aload_n hx hb dKY_init_13 rfl (lv_at hl 0 rfl) ?_
  refine lv_sipush (v := nI 512) hx hb dKY_init_14 (by decide) ?_
  refine va_newa (atype := .long) (ty := .long) (N' := 512) (a0 := (512, .inr (.inl (fun _ => 0)))) hx hb (hts _ w_a_long) rfl hK hP hD hS hA (fun _ => rfl) (by decide +kernel) (by decide +kernel) (by decide +kernel) (Nat.le_of_ble_eq_true rfl) (Nat.le_of_ble_eq_true rfl) dKY_init_17 (fun kf cA9 H hK9 hP hD hS => ?_)
  obtain rfl : cL = cA9 := xk_same hK9 1 2 rfl rfl
  clear hK9
  have hP : va_P (dC, dI) vwCl [(k, .inr (1, [.ref kb, .int 0, .null, .null, .null])), (kb, .inl (cI, 160, .inl (fun _ => 0))), (kf, .inl (cL, 512, .inr (.inl (fun _ => 0))))] H := hP
  have hD : va_D A [(k, .inr (1, [.ref kb, .int 0, .null, .null, .null])), (kb, .inl (cI, 160, .inl (fun _ => 0))), (kf, .inl (cL, 512, .inr (.inl (fun _ => 0))))] := hD
  refine va_putF (D := (dC, dI)) (ci := 1) (v := .ref kf) (ty := .array .long) (C := RKY) (T := TKY) (N := 5) hx hb hts in_KY tyKY tyKY_ok nmKY hown hK hP hD hS 0 rfl rfl 2 (by decide) (hts _ w_f_KY_15) (fun _ h9 => h9) rfl hin rfl (by decide +kernel) (rfl) (rfl) (Nat.le_of_ble_eq_true rfl) dKY_init_19 (fun H locs hP hD hS => ?_)
  have hP : va_P (dC, dI) vwCl [(k, .inr (1, [.ref kb, .int 0, .ref kf, .null, .null])), (kb, .inl (cI, 160, .inl (fun _ => 0))), (kf, .inl (cL, 512, .inr (.inl (fun _ => 0))))] H := hP
  have hD : va_D A [(k, .inr (1, [.ref kb, .int 0, .ref kf, .null, .null])), (kb, .inl (cI, 160, .inl (fun _ => 0))), (kf, .inl (cL, 512, .inr (.inl (fun _ => 0))))] := hD
  refine lv_aload_n hx hb dKY_init_22 rfl (lv_at hl 0 rfl) ?_
  refine lv_sipush (v := nI 512) hx hb dKY_init_23 (by decide) ?_
  refine va_newa (atype := .long) (ty := .long) (N' := 512) (a0 := (512, .inr (.inl (fun _ => 0)))) hx hb (hts _ w_a_long) rfl hK hP hD hS hA (fun _ => rfl) (by decide +kernel) (by decide +kernel) (by decide +kernel) (Nat.le_of_ble_eq_true rfl) (Nat.le_of_ble_eq_true rfl) dKY_init_26 (fun ks cA9 H hK9 hP hD hS => ?_)
  obtain rfl : cL = cA9 := xk_same hK9 1 2 rfl rfl
  clear hK9
  have hP : va_P (dC, dI) vwCl [(k, .inr (1, [.ref kb, .int 0, .ref kf, .null, .null])), (kb, .inl (cI, 160, .inl (fun _ => 0))), (kf, .inl (cL, 512, .inr (.inl (fun _ => 0)))), (ks, .inl (cL, 512, .inr (.inl (fun _ => 0))))] H := hP
  have hD : va_D A [(k, .inr (1, [.ref kb, .int 0, .ref kf, .null, .null])), (kb, .inl (cI, 160, .inl (fun _ => 0))), (kf, .inl (cL, 512, .inr (.inl (fun _ => 0)))), (ks, .inl (cL, 512, .inr (.inl (fun _ => 0))))] := hD
  refine va_putF (D := (dC, dI)) (ci := 1) (v := .ref ks) (ty := .array .long) (C := RKY) (T := TKY) (N := 5) hx hb hts in_KY tyKY tyKY_ok nmKY hown hK hP hD hS 0 rfl rfl 3 (by decide) (hts _ w_f_KY_19) (fun _ h9 => h9) rfl hin rfl (by decide +kernel) (rfl) (rfl) (Nat.le_of_ble_eq_true rfl) dKY_init_28 (fun H locs hP hD hS => ?_)
  have hP : va_P (dC, dI) vwCl [(k, .inr (1, [.ref kb, .int 0, .ref kf, .ref ks, .null])), (kb, .inl (cI, 160, .inl (fun _ => 0))), (kf, .inl (cL, 512, .inr (.inl (fun _ => 0)))), (ks, .inl (cL, 512, .inr (.inl (fun _ => 0))))] H := hP
  have hD : va_D A [(k, .inr (1, [.ref kb, .int 0, .ref kf, .ref ks, .null])), (kb, .inl (cI, 160, .inl (fun _ => 0))), (kf, .inl (cL, 512, .inr (.inl (fun _ => 0)))), (ks, .inl (cL, 512, .inr (.inl (fun _ => 0))))] := hD
  refine lv_aload_n hx hb dKY_init_31 rfl (lv_at hl 0 rfl) ?_
  refine lv_sipush (v := nI 512) hx hb dKY_init_32 (by decide) ?_
  refine va_newa (atype := .int) (ty := .int) (N' := 512) (a0 := (512, .inl (fun _ => 0))) hx hb (hts _ w_a_int) rfl hK hP hD hS hA (fun _ => rfl) (by decide +kernel) (by decide +kernel) (by decide +kernel) (Nat.le_of_ble_eq_true rfl) (Nat.le_of_ble_eq_true rfl) dKY_init_35 (fun kt cA9 H hK9 hP hD hS => ?_)
  obtain rfl : cI = cA9 := xk_same hK9 0 2 rfl rfl
  clear hK9
  have hP : va_P (dC, dI) vwCl [(k, .inr (1, [.ref kb, .int 0, .ref kf, .ref ks, .null])), (kb, .inl (cI, 160, .inl (fun _ => 0))), (kf, .inl (cL, 512, .inr (.inl (fun _ => 0)))), (ks, .inl (cL, 512, .inr (.inl (fun _ => 0)))), (kt, .inl (cI, 512, .inl (fun _ => 0)))] H := hP
  have hD : va_D A [(k, .inr (1, [.ref kb, .int 0, .ref kf, .ref ks, .null])), (kb, .inl (cI, 160, .inl (fun _ => 0))), (kf, .inl (cL, 512, .inr (.inl (fun _ => 0)))), (ks, .inl (cL, 512, .inr (.inl (fun _ => 0)))), (kt, .inl (cI, 512, .inl (fun _ => 0)))] := hD
  refine va_putF (D := (dC, dI)) (ci := 1) (v := .ref kt) (ty := .array .int) (C := RKY) (T := TKY) (N := 5) hx hb hts in_KY tyKY tyKY_ok nmKY hown hK hP hD hS 0 rfl rfl 4 (by decide) (hts _ w_f_KY_22) (fun _ h9 => h9) rfl hin rfl (by decide +kernel) (rfl) (rfl) (Nat.le_of_ble_eq_true rfl) dKY_init_37 (fun H locs hP hD hS => ?_)
  have hP : va_P (dC, dI) vwCl [(k, .inr (1, [.ref kb, .int 0, .ref kf, .ref ks, .ref kt])), (kb, .inl (cI, 160, .inl (fun _ => 0))), (kf, .inl (cL, 512, .inr (.inl (fun _ => 0)))), (ks, .inl (cL, 512, .inr (.inl (fun _ => 0)))), (kt, .inl (cI, 512, .inl (fun _ => 0)))] H := hP
  have hD : va_D A [(k, .inr (1, [.ref kb, .int 0, .ref kf, .ref ks, .ref kt])), (kb, .inl (cI, 160, .inl (fun _ => 0))), (kf, .inl (cL, 512, .inr (.inl (fun _ => 0)))), (ks, .inl (cL, 512, .inr (.inl (fun _ => 0)))), (kt, .inl (cI, 512, .inl (fun _ => 0)))] := hD
  refine lv_aload_n hx hb dKY_init_40 rfl (lv_at hl 0 rfl) ?_
  refine lv_iload_n hx hb dKY_init_41 rfl (lv_at hl 1 rfl) ?_
  refine va_putF (D := (dC, dI)) (ci := 1) (v := .int num) (ty := .int) (C := RKY) (T := TKY) (N := 5) hx hb hts in_KY tyKY tyKY_ok nmKY hown hK hP hD hS 0 rfl rfl 1 (by decide) (hts _ w_f_KY_25) (fun _ h9 => h9) rfl hin rfl (by decide +kernel) (rfl) (rfl) (Nat.le_of_ble_eq_true rfl) dKY_init_42 (fun H locs hP hD hS => ?_)
  have hP : va_P (dC, dI) vwCl [(k, .inr (1, [.ref kb, .int num, .ref kf, .ref ks, .ref kt])), (kb, .inl (cI, 160, .inl (fun _ => 0))), (kf, .inl (cL, 512, .inr (.inl (fun _ => 0)))), (ks, .inl (cL, 512, .inr (.inl (fun _ => 0)))), (kt, .inl (cI, 512, .inl (fun _ => 0)))] H := hP
  have hD : va_D A [(k, .inr (1, [.ref kb, .int num, .ref kf, .ref ks, .ref kt])), (kb, .inl (cI, 160, .inl (fun _ => 0))), (kf, .inl (cL, 512, .inr (.inl (fun _ => 0)))), (ks, .inl (cL, 512, .inr (.inl (fun _ => 0)))), (kt, .inl (cI, 512, .inl (fun _ => 0)))] := hD
  refine lv_aload_n hx hb dKY_init_45 rfl (lv_at hl 0 rfl) ?_
  have hPc := hP.sub (ws' := [(k, .inr (1, [.ref kb, .int num, .ref kf, .ref ks, .ref kt])), (kb, .inl (cI, 160, .inl (fun _ => 0))), (kf, .inl (cL, 512, .inr (.inl (fun _ => 0)))), (ks, .inl (cL, 512, .inr (.inl (fun _ => 0)))), (kt, .inl (cI, 512, .inl (fun _ => 0)))]) [0, 1, 2, 3, 4] rfl
  have hDc := hD.sub (ws' := [(k, .inr (1, [.ref kb, .int num, .ref kf, .ref ks, .ref kt])), (kb, .inl (cI, 160, .inl (fun _ => 0))), (kf, .inl (cL, 512, .inr (.inl (fun _ => 0)))), (ks, .inl (cL, 512, .inr (.inl (fun _ => 0)))), (kt, .inl (cI, 512, .inl (fun _ => 0)))]) [0, 1, 2, 3, 4] (by decide) rfl
  have hKc := hK.sub (tys' := [(cI, .int), (cL, .long)]) [0, 1] rfl
  have hFc := va_free (wc := [(k, .inr (1, [.ref kb, .int num, .ref kf, .ref ks, .ref kt])), (kb, .inl (cI, 160, .inl (fun _ => 0))), (kf, .inl (cL, 512, .inr (.inl (fun _ => 0)))), (ks, .inl (cL, 512, .inr (.inl (fun _ => 0)))), (kt, .inl (cI, 512, .inl (fun _ => 0)))]) hD hS hA [0, 1, 2, 3, 4] rfl
  refine va_callv (va_runV (C := RKY) (As := []) (rest := []) ⟨hx, hb, hml, hown, hts⟩ (c_KY_forgetWalks l dC dI H.size k kb kf ks kt num cI cL (fun _ => 0) (fun _ => 0) (fun _ => 0) (fun _ => 0)) (cwV (C := RKY) 0 hts (wT_4 w_m_KY_29 w_i_KY_forgetWalks w_s_KY_forgetWalks w_n_KY w_c_KY_forgetWalks) rfl rfl rfl (by decide +kernel) ⟨Nat.le_of_ble_eq_true rfl, Nat.le_of_ble_eq_true rfl⟩) ⟨fun a U g mk q => by obtain ⟨q0, q1, qP, qK, qD⟩ := q; exact ⟨q0, q1, qP, va_K.moved (u := U) (U := U.calling g mk a) (Vm.Alike.refl U.vm) qK, qD⟩, va_recv hK hP (q0 := 0) (ci := 1) (q := (RKY, TKY, 5)) rfl rfl, fun U hU hW => ⟨rfl, by rw [hU], by rw [hU]; exact hPc, va_K.moved hW.alike hKc, hDc.weaken (fun _ _ _ _ => trivial)⟩⟩ rfl rfl hl.1 rfl (lv_room (Nat.le_of_ble_eq_true rfl)) dKY_init_46 ⟨Nat.le_of_ble_eq_true rfl, Nat.le_of_ble_eq_true rfl⟩) hS (fun q _ h => hFc q h) hFc (fun u t H1 locs ht hvm hw hB hz1 hk1 hS => ?_)
  obtain ⟨hP1, hK1, hD1⟩ := hB
  rw [ht] at hP1
  have hK1 := va_K.moved hvm.symm hK1
  obtain ⟨hP, hD⟩ := va_join (wr := []) (w1 := [(k, .inr (1, [.ref kb, .int num, .ref kf, .ref ks, .ref kt])), (kb, .inl (cI, 160, .inl (fun _ => 0))), (kf, .inl (cL, 512, .inr (.inl (vp_updL (fun _ => 0) 1 (bs_rd (fun _ => 0) 0 8))))), (ks, .inl (cL, 512, .inr (.inl (vp_updL (fun _ => 0) 1 (bs_rd (fun _ => 0) 8 8))))), (kt, .inl (cI, 512, .inl (upd (bs_fill (fun _ => 0) (-1) 512) 1 num)))]) hP hD [0, 1, 2, 3, 4] [] rfl rfl (by decide) (by decide) hk1 hFc hP1 hD1
  generalize H1 = H at hP hS ⊢
  have hP : va_P (dC, dI) vwCl [(k, .inr (1, [.ref kb, .int num, .ref kf, .ref ks, .ref kt])), (kb, .inl (cI, 160, .inl (fun _ => 0))), (kf, .inl (cL, 512, .inr (.inl (vp_updL (fun _ => 0) 1 (bs_rd (fun _ => 0) 0 8))))), (ks, .inl (cL, 512, .inr (.inl (vp_updL (fun _ => 0) 1 (bs_rd (fun _ => 0) 8 8))))), (kt, .inl (cI, 512, .inl (upd (bs_fill (fun _ => 0) (-1) 512) 1 num)))] H := hP
  have hD : va_D A [(k, .inr (1, [.ref kb, .int num, .ref kf, .ref ks, .ref kt])), (kb, .inl (cI, 160, .inl (fun _ => 0))), (kf, .inl (cL, 512, .inr (.inl (vp_updL (fun _ => 0) 1 (bs_rd (fun _ => 0) 0 8))))), (ks, .inl (cL, 512, .inr (.inl (vp_updL (fun _ => 0) 1 (bs_rd (fun _ => 0) 8 8))))), (kt, .inl (cI, 512, .inl (upd (bs_fill (fun _ => 0) (-1) 512) 1 num)))] := hD
  subst hQ
  exact W.vret hx hb hr (fun t ht hW => ⟨⟨(kb, kf, ks, kt), rfl, trivial, by rw [ht]; exact hP, va_K.moved hW.alike hK, hD⟩, hS.F ht⟩) hS.2.2 dKY_init_49
