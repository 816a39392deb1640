/-! BlindShelfModel: keyByte, setKeyByte, keyFault, choice, share, put, combine, thrown -/
set_option maxHeartbeats 4000000 in
set_option maxRecDepth 100000 in
theorem c_MO_keyByte_y (l : Launch) (dC : Nat → ClassId) (dI : Nat → Nat → Nat) (sz : Nat) (o xv xo xn xc xb xd xq xa xk xt xh xs xS xw xW xB xM xf xg xi : Nat) (th : Int32) (jf js : Int64) (jb : Int32) (nf ns : Int64) (nb : Int32) (cI : ClassId) (fk : Nat → Int32) (k i : Nat) (hk : k < 2) (hi : i < 160) : Met l yMO_keyByte wsMO_keyByte { frames := 1, cells := 0, slots := 0, locals := 21 } (va_Pc [.ref o, .int (nI k), .int (nI i)] (fun U => U.heap.size = sz ∧ va_P (dC, dI) vwCl [(o, .inr (6, [.int th, .ref xv, .ref xo, .ref xn, .ref xc, .ref xb, .ref xd, .ref xq, .ref xa, .ref xk, .ref xt, .ref xh, .ref xs, .ref xS, .ref xw, .ref xW, .ref xB, .ref xM, .long jf, .long js, .int jb, .long nf, .long ns, .int nb, .ref xf, .ref xg, .ref xi])), (xk, .inl (cI, 320, .inl fk))] U.heap ∧ va_K (dC, dI) vwCl [(cI, .int)] U ∧ va_D (fun _ => True) [(o, .inr (6, [.int th, .ref xv, .ref xo, .ref xn, .ref xc, .ref xb, .ref xd, .ref xq, .ref xa, .ref xk, .ref xt, .ref xh, .ref xs, .ref xS, .ref xw, .ref xW, .ref xB, .ref xM, .long jf, .long js, .int jb, .long nf, .long ns, .int nb, .ref xf, .ref xg, .ref xi])), (xk, .inl (cI, 320, .inl fk))])) (va_Qi (fun (r : Int32) (_ : Unit) => r = fk (160 * k + i)) (fun (_ : Unit) t => va_P (dC, dI) vwCl [(o, .inr (6, [.int (nI 0), .ref xv, .ref xo, .ref xn, .ref xc, .ref xb, .ref xd, .ref xq, .ref xa, .ref xk, .ref xt, .ref xh, .ref xs, .ref xS, .ref xw, .ref xW, .ref xB, .ref xM, .long jf, .long js, .int jb, .long nf, .long ns, .int nb, .ref xf, .ref xg, .ref xi])), (xk, .inl (cI, 320, .inl fk))] t.heap ∧ va_K (dC, dI) vwCl [(cI, .int)] t ∧ va_D (va_A [(o, .inr (6, [.int th, .ref xv, .ref xo, .ref xn, .ref xc, .ref xb, .ref xd, .ref xq, .ref xa, .ref xk, .ref xt, .ref xh, .ref xs, .ref xS, .ref xw, .ref xW, .ref xB, .ref xM, .long jf, .long js, .int jb, .long nf, .long ns, .int nb, .ref xf, .ref xg, .ref xi])), (xk, .inl (cI, 320, .inl fk))] sz) [(o, .inr (6, [.int (nI 0), .ref xv, .ref xo, .ref xn, .ref xc, .ref xb, .ref xd, .ref xq, .ref xa, .ref xk, .ref xt, .ref xh, .ref xs, .ref xS, .ref xw, .ref xW, .ref xB, .ref xM, .long jf, .long js, .int jb, .long nf, .long ns, .int nb, .ref xf, .ref xg, .ref xi])), (xk, .inl (cI, 320, .inl fk))]) (va_A [(o, .inr (6, [.int th, .ref xv, .ref xo, .ref xn, .ref xc, .ref xb, .ref xd, .ref xq, .ref xa, .ref xk, .ref xt, .ref xh, .ref xs, .ref xS, .ref xw, .ref xW, .ref xB, .ref xM, .long jf, .long js, .int jb, .long nf, .long ns, .int nb, .ref xf, .ref xg, .ref xi])), (xk, .inl (cI, 320, .inl fk))] sz)) 0 0 (va_A [(o, .inr (6, [.int th, .ref xv, .ref xo, .ref xn, .ref xc, .ref xb, .ref xd, .ref xq, .ref xa, .ref xk, .ref xt, .ref xh, .ref xs, .ref xS, .ref xw, .ref xW, .ref xB, .ref xM, .long jf, .long js, .int jb, .long nf, .long ns, .int nb, .ref xf, .ref xg, .ref xi])), (xk, .inl (cI, 320, .inl fk))] sz) := by
  refine Met.ofW (cc := cMO_keyByte) (maxL := 3) (ret := (some .int)) (by decide) rfl ?_
  intro p e s m args below meth c s₁ Bo9 hml hv
  obtain ⟨rfl, hsz, hP, hK, hD0⟩ := hv
  have hx := Bo9.exec
  have hb := Bo9.bytes
  have hr := Bo9.returns
  have hts := fun w (h : w ∈ wT) => atoms_spec (ws := wsMO_keyByte) Bo9.pre w (List.mem_cons_of_mem _ h)
  have hown : s.vm.findClass RMO = some m.cls := findClass_of_methodNamed Bo9.named
  have hlocks := Bo9.notSynchronized
  subst hsz
  have hD := hD0.self (sz := s.heap.size)
  generalize hAe : va_A [(o, .inr (6, [.int th, .ref xv, .ref xo, .ref xn, .ref xc, .ref xb, .ref xd, .ref xq, .ref xa, .ref xk, .ref xt, .ref xh, .ref xs, .ref xS, .ref xw, .ref xW, .ref xB, .ref xM, .long jf, .long js, .int jb, .long nf, .long ns, .int nb, .ref xf, .ref xg, .ref xi])), (xk, .inl (cI, 320, .inl fk))] s.heap.size = A at hD ⊢
  have hA : ∀ q : Nat, s.heap.size ≤ q → A q := fun q h => by rw [← hAe]; exact Or.inr h
  have hl := lv_entry ([.ref o, .int (nI k), .int (nI i)]) (n := 3) (Nat.le_of_ble_eq_true rfl)
  rw [lg_entry_eq]
  generalize (lg_sl ([.ref o, .int (nI k), .int (nI i)]) ++ List.replicate (3 - (lg_sl ([.ref o, .int (nI k), .int (nI i)])).length) Slot.unset).toArray = ls at hl ⊢
  have hl : lv_has ls 3 [(0, .ref o), (1, .int (nI k)), (2, .int (nI i))] := hl
  refine xs_q (fun H Q hH hQ => ?_)
  have hS : va_S A s.heap H [] := by rw [hH]; exact va_S.rf
  have hP : va_P (dC, dI) vwCl [(o, .inr (6, [.int th, .ref xv, .ref xo, .ref xn, .ref xc, .ref xb, .ref xd, .ref xq, .ref xa, .ref xk, .ref xt, .ref xh, .ref xs, .ref xS, .ref xw, .ref xW, .ref xB, .ref xM, .long jf, .long js, .int jb, .long nf, .long ns, .int nb, .ref xf, .ref xg, .ref xi])), (xk, .inl (cI, 320, .inl fk))] H := by rw [hH]; exact hP
  have hy : (bs_ii (nI k) 2 && bs_ii (nI i) 160) = true := bs_ii_2 (bs_ii_n hk (by omega)) (bs_ii_n hi (by omega))
  refine lv_aload_n hx hb dMO_keyByte_0 rfl (lv_at hl 0 rfl) ?_
  refine lv_iload_n hx hb dMO_keyByte_1 rfl (lv_at hl 1 rfl) ?_
  refine lv_iload_n hx hb dMO_keyByte_2 rfl (lv_at hl 2 rfl) ?_
  have hPc := hP.sub (ws' := []) [] rfl
  have hDc := hD.sub (ws' := []) [] (by decide) rfl
  have hKc := hK.sub (tys' := []) [] rfl
  have hFc := va_free (wc := []) hD hS hA [] rfl
  refine va_calli (va_runS (As := [.int (nI k), .int (nI i)]) (rest := [.ref o]) ⟨hx, hb, hml, hown, hts⟩ (c_MO_isByte l dC dI H.size (nI k) (nI i)) (va_cwS 2 hts (wT_3 w_m_MO_153 w_t_MO_isByte w_n_MO w_c_MO_isByte) rfl rfl rfl (by decide +kernel) ⟨Nat.le_of_ble_eq_true rfl, Nat.le_of_ble_eq_true rfl⟩) ⟨fun a U g mk q => by obtain ⟨q0, q1, qP, qK, qD⟩ := q; exact ⟨q0, q1, qP, va_K.moved (u := U) (U := U.calling g mk a) (Vm.Alike.refl U.vm) qK, qD⟩, fun U hU hW => ⟨rfl, by rw [hU], by rw [hU]; exact hPc, va_K.moved hW.alike hKc, hDc.weaken (fun _ _ _ _ => trivial)⟩⟩ rfl rfl hl.1 rfl (lv_room (Nat.le_of_ble_eq_true rfl)) dMO_keyByte_3 ⟨Nat.zero_le _, Nat.zero_le _⟩) hS (fun q _ h => hFc q h) hFc (fun r u t H1 locs ht hvm hw hB hz1 hk1 hS => ?_)
  obtain ⟨hP1, hK1, hD1⟩ := hB
  rw [ht] at hP1
  have hK1 := va_K.moved hvm.symm hK1
  have hw : r = bs_z (bs_ii (nI k) 2 && bs_ii (nI i) 160) := hw
  subst hw
  obtain ⟨hP, hD⟩ := va_join (wr := [(o, .inr (6, [.int th, .ref xv, .ref xo, .ref xn, .ref xc, .ref xb, .ref xd, .ref xq, .ref xa, .ref xk, .ref xt, .ref xh, .ref xs, .ref xS, .ref xw, .ref xW, .ref xB, .ref xM, .long jf, .long js, .int jb, .long nf, .long ns, .int nb, .ref xf, .ref xg, .ref xi])), (xk, .inl (cI, 320, .inl fk))]) (w1 := []) hP hD [] [0, 1] rfl rfl (by decide) (by decide) hk1 hFc hP1 hD1
  generalize H1 = H at hP hS ⊢
  have hP : va_P (dC, dI) vwCl [(o, .inr (6, [.int th, .ref xv, .ref xo, .ref xn, .ref xc, .ref xb, .ref xd, .ref xq, .ref xa, .ref xk, .ref xt, .ref xh, .ref xs, .ref xS, .ref xw, .ref xW, .ref xB, .ref xM, .long jf, .long js, .int jb, .long nf, .long ns, .int nb, .ref xf, .ref xg, .ref xi])), (xk, .inl (cI, 320, .inl fk))] H := hP
  have hD : va_D A [(o, .inr (6, [.int th, .ref xv, .ref xo, .ref xn, .ref xc, .ref xb, .ref xd, .ref xq, .ref xa, .ref xk, .ref xt, .ref xh, .ref xs, .ref xS, .ref xw, .ref xW, .ref xB, .ref xM, .long jf, .long js, .int jb, .long nf, .long ns, .int nb, .ref xf, .ref xg, .ref xi])), (xk, .inl (cI, 320, .inl fk))] := hD
  refine xt_i (y := nI 1) (by rw [hy]; rfl) ?_
  refine lv_if_eq (tgt := 13) hx hb dMO_keyByte_6 (by decide) (fun h => absurd h (by decide +kernel)) (fun _ => ?_)
  refine lv_iconst (v := nI 0) hx hb dMO_keyByte_9 (by decide) ?_
  refine lv_goto (tgt := 14) hx hb dMO_keyByte_10 (by decide) ?_
  refine va_put (D := (dC, dI)) (ci := 6) (v := .int (nI 0)) (ty := .int) (C := RMO) (T := TMO) (N := 27) hx hb hts in_MO tyMO tyMO_ok nmMO hown hK hP hD hS 0 rfl rfl 0 (by decide) (hts _ w_f_MO_87) (fun _ h9 => h9) rfl (by decide +kernel) (rfl) (rfl) (Nat.le_of_ble_eq_true rfl) dMO_keyByte_14 (fun H locs hP hD hS => ?_)
  have hP : va_P (dC, dI) vwCl [(o, .inr (6, [.int (nI 0), .ref xv, .ref xo, .ref xn, .ref xc, .ref xb, .ref xd, .ref xq, .ref xa, .ref xk, .ref xt, .ref xh, .ref xs, .ref xS, .ref xw, .ref xW, .ref xB, .ref xM, .long jf, .long js, .int jb, .long nf, .long ns, .int nb, .ref xf, .ref xg, .ref xi])), (xk, .inl (cI, 320, .inl fk))] H := hP
  have hD : va_D A [(o, .inr (6, [.int (nI 0), .ref xv, .ref xo, .ref xn, .ref xc, .ref xb, .ref xd, .ref xq, .ref xa, .ref xk, .ref xt, .ref xh, .ref xs, .ref xS, .ref xw, .ref xW, .ref xB, .ref xM, .long jf, .long js, .int jb, .long nf, .long ns, .int nb, .ref xf, .ref xg, .ref xi])), (xk, .inl (cI, 320, .inl fk))] := hD
  refine lv_aload_n hx hb dMO_keyByte_17 rfl (lv_at hl 0 rfl) ?_
  refine va_get (D := (dC, dI)) (ci := 6) (v := .int (nI 0)) (C := RMO) (T := TMO) (N := 27) hx hb hts in_MO hown hK hP 0 rfl rfl 0 (by decide) (hts _ w_f_MO_87) (fun _ h9 => h9) rfl dMO_keyByte_18 ?_
  refine lv_if_le (tgt := 28) hx hb dMO_keyByte_21 (by decide) (fun _ => ?_) (fun h => absurd (by decide +kernel) h)
  refine lv_aload_n hx hb dMO_keyByte_28 rfl (lv_at hl 0 rfl) ?_
  refine va_get (D := (dC, dI)) (ci := 6) (v := .ref xk) (C := RMO) (T := TMO) (N := 27) hx hb hts in_MO hown hK hP 0 rfl rfl 9 (by decide) (hts _ w_f_MO_35) (fun _ h9 => h9) rfl dMO_keyByte_29 ?_
  refine lv_sipush (v := nI 160) hx hb dMO_keyByte_32 (by decide) ?_
  refine lv_iload_n hx hb dMO_keyByte_35 rfl (lv_at hl 1 rfl) ?_
  refine lv_imul hx hb dMO_keyByte_36 ?_
  refine xt_i (y := nI (160 * k)) (pk_mul _ _) ?_
  refine lv_iload_n hx hb dMO_keyByte_37 rfl (lv_at hl 2 rfl) ?_
  refine lv_iadd hx hb dMO_keyByte_38 ?_
  refine xt_i (y := nI (160 * k + i)) (nI_add _ _) ?_
  refine xa_iald hx hb hK hP 1 0 rfl rfl (160 * k + i) (by omega) (by decide) dMO_keyByte_39 ?_
  have hP : va_P (dC, dI) vwCl [(o, .inr (6, [.int (nI 0), .ref xv, .ref xo, .ref xn, .ref xc, .ref xb, .ref xd, .ref xq, .ref xa, .ref xk, .ref xt, .ref xh, .ref xs, .ref xS, .ref xw, .ref xW, .ref xB, .ref xM, .long jf, .long js, .int jb, .long nf, .long ns, .int nb, .ref xf, .ref xg, .ref xi])), (xk, .inl (cI, 320, .inl fk))] H := hP
  have hD : va_D A [(o, .inr (6, [.int (nI 0), .ref xv, .ref xo, .ref xn, .ref xc, .ref xb, .ref xd, .ref xq, .ref xa, .ref xk, .ref xt, .ref xh, .ref xs, .ref xS, .ref xw, .ref xW, .ref xB, .ref xM, .long jf, .long js, .int jb, .long nf, .long ns, .int nb, .ref xf, .ref xg, .ref xi])), (xk, .inl (cI, 320, .inl fk))] := hD
  subst hQ
  exact W.iret (v := fk (160 * k + i)) hx hb hr (fun t ht hW => ⟨⟨fk (160 * k + i), (), rfl, rfl, by rw [ht]; exact hP, va_K.moved hW.alike hK, hD⟩, hS.F ht⟩) hS.2.2 dMO_keyByte_40
set_option maxHeartbeats 4000000 in
set_option maxRecDepth 100000 in
theorem c_MO_keyByte_n (l : Launch) (dC : Nat → ClassId) (dI : Nat → Nat → Nat) (sz : Nat) (o xv xo xn xc xb xd xq xa xk xt xh xs xS xw xW xB xM xf xg xi : Nat) (th : Int32) (jf js : Int64) (jb : Int32) (nf ns : Int64) (nb : Int32) (x y : Int32) (hn : (bs_ii x 2 && bs_ii y 160) = false) : Met l yMO_keyByte wsMO_keyByte { frames := 1, cells := 0, slots := 0, locals := 21 } (va_Pc [.ref o, .int x, .int y] (fun U => U.heap.size = sz ∧ va_P (dC, dI) vwCl [(o, .inr (6, [.int th, .ref xv, .ref xo, .ref xn, .ref xc, .ref xb, .ref xd, .ref xq, .ref xa, .ref xk, .ref xt, .ref xh, .ref xs, .ref xS, .ref xw, .ref xW, .ref xB, .ref xM, .long jf, .long js, .int jb, .long nf, .long ns, .int nb, .ref xf, .ref xg, .ref xi]))] U.heap ∧ va_K (dC, dI) vwCl [] U ∧ va_D (fun _ => True) [(o, .inr (6, [.int th, .ref xv, .ref xo, .ref xn, .ref xc, .ref xb, .ref xd, .ref xq, .ref xa, .ref xk, .ref xt, .ref xh, .ref xs, .ref xS, .ref xw, .ref xW, .ref xB, .ref xM, .long jf, .long js, .int jb, .long nf, .long ns, .int nb, .ref xf, .ref xg, .ref xi]))])) (va_Qi (fun (r : Int32) (_ : Unit) => r = nI 0) (fun (_ : Unit) t => va_P (dC, dI) vwCl [(o, .inr (6, [.int (nI 1), .ref xv, .ref xo, .ref xn, .ref xc, .ref xb, .ref xd, .ref xq, .ref xa, .ref xk, .ref xt, .ref xh, .ref xs, .ref xS, .ref xw, .ref xW, .ref xB, .ref xM, .long jf, .long js, .int jb, .long nf, .long ns, .int nb, .ref xf, .ref xg, .ref xi]))] t.heap ∧ va_K (dC, dI) vwCl [] t ∧ va_D (va_A [(o, .inr (6, [.int th, .ref xv, .ref xo, .ref xn, .ref xc, .ref xb, .ref xd, .ref xq, .ref xa, .ref xk, .ref xt, .ref xh, .ref xs, .ref xS, .ref xw, .ref xW, .ref xB, .ref xM, .long jf, .long js, .int jb, .long nf, .long ns, .int nb, .ref xf, .ref xg, .ref xi]))] sz) [(o, .inr (6, [.int (nI 1), .ref xv, .ref xo, .ref xn, .ref xc, .ref xb, .ref xd, .ref xq, .ref xa, .ref xk, .ref xt, .ref xh, .ref xs, .ref xS, .ref xw, .ref xW, .ref xB, .ref xM, .long jf, .long js, .int jb, .long nf, .long ns, .int nb, .ref xf, .ref xg, .ref xi]))]) (va_A [(o, .inr (6, [.int th, .ref xv, .ref xo, .ref xn, .ref xc, .ref xb, .ref xd, .ref xq, .ref xa, .ref xk, .ref xt, .ref xh, .ref xs, .ref xS, .ref xw, .ref xW, .ref xB, .ref xM, .long jf, .long js, .int jb, .long nf, .long ns, .int nb, .ref xf, .ref xg, .ref xi]))] sz)) 0 0 (va_A [(o, .inr (6, [.int th, .ref xv, .ref xo, .ref xn, .ref xc, .ref xb, .ref xd, .ref xq, .ref xa, .ref xk, .ref xt, .ref xh, .ref xs, .ref xS, .ref xw, .ref xW, .ref xB, .ref xM, .long jf, .long js, .int jb, .long nf, .long ns, .int nb, .ref xf, .ref xg, .ref xi]))] sz) := by
  refine Met.ofW (cc := cMO_keyByte) (maxL := 3) (ret := (some .int)) (by decide) rfl ?_
  intro p e s m args below meth c s₁ Bo9 hml hv
  obtain ⟨rfl, hsz, hP, hK, hD0⟩ := hv
  have hx := Bo9.exec
  have hb := Bo9.bytes
  have hr := Bo9.returns
  have hts := fun w (h : w ∈ wT) => atoms_spec (ws := wsMO_keyByte) Bo9.pre w (List.mem_cons_of_mem _ h)
  have hown : s.vm.findClass RMO = some m.cls := findClass_of_methodNamed Bo9.named
  have hlocks := Bo9.notSynchronized
  subst hsz
  have hD := hD0.self (sz := s.heap.size)
  generalize hAe : va_A [(o, .inr (6, [.int th, .ref xv, .ref xo, .ref xn, .ref xc, .ref xb, .ref xd, .ref xq, .ref xa, .ref xk, .ref xt, .ref xh, .ref xs, .ref xS, .ref xw, .ref xW, .ref xB, .ref xM, .long jf, .long js, .int jb, .long nf, .long ns, .int nb, .ref xf, .ref xg, .ref xi]))] s.heap.size = A at hD ⊢
  have hA : ∀ q : Nat, s.heap.size ≤ q → A q := fun q h => by rw [← hAe]; exact Or.inr h
  have hl := lv_entry ([.ref o, .int x, .int y]) (n := 3) (Nat.le_of_ble_eq_true rfl)
  rw [lg_entry_eq]
  generalize (lg_sl ([.ref o, .int x, .int y]) ++ List.replicate (3 - (lg_sl ([.ref o, .int x, .int y])).length) Slot.unset).toArray = ls at hl ⊢
  have hl : lv_has ls 3 [(0, .ref o), (1, .int x), (2, .int y)] := hl
  refine xs_q (fun H Q hH hQ => ?_)
  have hS : va_S A s.heap H [] := by rw [hH]; exact va_S.rf
  have hP : va_P (dC, dI) vwCl [(o, .inr (6, [.int th, .ref xv, .ref xo, .ref xn, .ref xc, .ref xb, .ref xd, .ref xq, .ref xa, .ref xk, .ref xt, .ref xh, .ref xs, .ref xS, .ref xw, .ref xW, .ref xB, .ref xM, .long jf, .long js, .int jb, .long nf, .long ns, .int nb, .ref xf, .ref xg, .ref xi]))] H := by rw [hH]; exact hP
  refine lv_aload_n hx hb dMO_keyByte_0 rfl (lv_at hl 0 rfl) ?_
  refine lv_iload_n hx hb dMO_keyByte_1 rfl (lv_at hl 1 rfl) ?_
  refine lv_iload_n hx hb dMO_keyByte_2 rfl (lv_at hl 2 rfl) ?_
  have hPc := hP.sub (ws' := []) [] rfl
  have hDc := hD.sub (ws' := []) [] (by decide) rfl
  have hKc := hK.sub (tys' := []) [] rfl
  have hFc := va_free (wc := []) hD hS hA [] rfl
  refine va_calli (va_runS (As := [.int x, .int y]) (rest := [.ref o]) ⟨hx, hb, hml, hown, hts⟩ (c_MO_isByte l dC dI H.size x y) (va_cwS 2 hts (wT_3 w_m_MO_153 w_t_MO_isByte w_n_MO w_c_MO_isByte) rfl rfl rfl (by decide +kernel) ⟨Nat.le_of_ble_eq_true rfl, Nat.le_of_ble_eq_true rfl⟩) ⟨fun a U g mk q => by obtain ⟨q0, q1, qP, qK, qD⟩ := q; exact ⟨q0, q1, qP, va_K.moved (u := U) (U := U.calling g mk a) (Vm.Alike.refl U.vm) qK, qD⟩, fun U hU hW => ⟨rfl, by rw [hU], by rw [hU]; exact hPc, va_K.moved hW.alike hKc, hDc.weaken (fun _ _ _ _ => trivial)⟩⟩ rfl rfl hl.1 rfl (lv_room (Nat.le_of_ble_eq_true rfl)) dMO_keyByte_3 ⟨Nat.zero_le _, Nat.zero_le _⟩) hS (fun q _ h => hFc q h) hFc (fun r u t H1 locs ht hvm hw hB hz1 hk1 hS => ?_)
  obtain ⟨hP1, hK1, hD1⟩ := hB
  rw [ht] at hP1
  have hK1 := va_K.moved hvm.symm hK1
  have hw : r = bs_z (bs_ii x 2 && bs_ii y 160) := hw
  subst hw
  obtain ⟨hP, hD⟩ := va_join (wr := [(o, .inr (6, [.int th, .ref xv, .ref xo, .ref xn, .ref xc, .ref xb, .ref xd, .ref xq, .ref xa, .ref xk, .ref xt, .ref xh, .ref xs, .ref xS, .ref xw, .ref xW, .ref xB, .ref xM, .long jf, .long js, .int jb, .long nf, .long ns, .int nb, .ref xf, .ref xg, .ref xi]))]) (w1 := []) hP hD [] [0] rfl rfl (by decide) (by decide) hk1 hFc hP1 hD1
  generalize H1 = H at hP hS ⊢
  have hP : va_P (dC, dI) vwCl [(o, .inr (6, [.int th, .ref xv, .ref xo, .ref xn, .ref xc, .ref xb, .ref xd, .ref xq, .ref xa, .ref xk, .ref xt, .ref xh, .ref xs, .ref xS, .ref xw, .ref xW, .ref xB, .ref xM, .long jf, .long js, .int jb, .long nf, .long ns, .int nb, .ref xf, .ref xg, .ref xi]))] H := hP
  have hD : va_D A [(o, .inr (6, [.int th, .ref xv, .ref xo, .ref xn, .ref xc, .ref xb, .ref xd, .ref xq, .ref xa, .ref xk, .ref xt, .ref xh, .ref xs, .ref xS, .ref xw, .ref xW, .ref xB, .ref xM, .long jf, .long js, .int jb, .long nf, .long ns, .int nb, .ref xf, .ref xg, .ref xi]))] := hD
  refine xt_i (y := nI 0) (by rw [hn]; rfl) ?_
  refine lv_if_eq (tgt := 13) hx hb dMO_keyByte_6 (by decide) (fun _ => ?_) (fun h => absurd (by decide +kernel) h)
  refine lv_iconst (v := nI 1) hx hb dMO_keyByte_13 (by decide) ?_
  refine va_put (D := (dC, dI)) (ci := 6) (v := .int (nI 1)) (ty := .int) (C := RMO) (T := TMO) (N := 27) hx hb hts in_MO tyMO tyMO_ok nmMO hown hK hP hD hS 0 rfl rfl 0 (by decide) (hts _ w_f_MO_87) (fun _ h9 => h9) rfl (by decide +kernel) (rfl) (rfl) (Nat.le_of_ble_eq_true rfl) dMO_keyByte_14 (fun H locs hP hD hS => ?_)
  have hP : va_P (dC, dI) vwCl [(o, .inr (6, [.int (nI 1), .ref xv, .ref xo, .ref xn, .ref xc, .ref xb, .ref xd, .ref xq, .ref xa, .ref xk, .ref xt, .ref xh, .ref xs, .ref xS, .ref xw, .ref xW, .ref xB, .ref xM, .long jf, .long js, .int jb, .long nf, .long ns, .int nb, .ref xf, .ref xg, .ref xi]))] H := hP
  have hD : va_D A [(o, .inr (6, [.int (nI 1), .ref xv, .ref xo, .ref xn, .ref xc, .ref xb, .ref xd, .ref xq, .ref xa, .ref xk, .ref xt, .ref xh, .ref xs, .ref xS, .ref xw, .ref xW, .ref xB, .ref xM, .long jf, .long js, .int jb, .long nf, .long ns, .int nb, .ref xf, .ref xg, .ref xi]))] := hD
  refine lv_aload_n hx hb dMO_keyByte_17 rfl (lv_at hl 0 rfl) ?_
  refine va_get (D := (dC, dI)) (ci := 6) (v := .int (nI 1)) (C := RMO) (T := TMO) (N := 27) hx hb hts in_MO hown hK hP 0 rfl rfl 0 (by decide) (hts _ w_f_MO_87) (fun _ h9 => h9) rfl dMO_keyByte_18 ?_
  refine lv_if_le (tgt := 28) hx hb dMO_keyByte_21 (by decide) (fun h => absurd h (by decide +kernel)) (fun _ => ?_)
  refine lv_iconst (v := nI 0) hx hb dMO_keyByte_24 (by decide) ?_
  refine lv_goto (tgt := 40) hx hb dMO_keyByte_25 (by decide) ?_
  have hP : va_P (dC, dI) vwCl [(o, .inr (6, [.int (nI 1), .ref xv, .ref xo, .ref xn, .ref xc, .ref xb, .ref xd, .ref xq, .ref xa, .ref xk, .ref xt, .ref xh, .ref xs, .ref xS, .ref xw, .ref xW, .ref xB, .ref xM, .long jf, .long js, .int jb, .long nf, .long ns, .int nb, .ref xf, .ref xg, .ref xi]))] H := hP
  have hD : va_D A [(o, .inr (6, [.int (nI 1), .ref xv, .ref xo, .ref xn, .ref xc, .ref xb, .ref xd, .ref xq, .ref xa, .ref xk, .ref xt, .ref xh, .ref xs, .ref xS, .ref xw, .ref xW, .ref xB, .ref xM, .long jf, .long js, .int jb, .long nf, .long ns, .int nb, .ref xf, .ref xg, .ref xi]))] := hD
  subst hQ
  exact W.iret (v := nI 0) hx hb hr (fun t ht hW => ⟨⟨nI 0, (), rfl, rfl, by rw [ht]; exact hP, va_K.moved hW.alike hK, hD⟩, hS.F ht⟩) hS.2.2 dMO_keyByte_40
set_option maxHeartbeats 4000000 in
set_option maxRecDepth 100000 in
theorem c_MO_setKeyByte_y (l : Launch) (dC : Nat → ClassId) (dI : Nat → Nat → Nat) (sz : Nat) (o xv xo xn xc xb xd xq xa xk xt xh xs xS xw xW xB xM xf xg xi : Nat) (th : Int32) (jf js : Int64) (jb : Int32) (nf ns : Int64) (nb : Int32) (cI cZ : ClassId) (fk ts : Nat → Int32) (k i : Nat) (v : Int32) (hk : k < 2) (hi : i < 160) : Met l yMO_setKeyByte wsMO_setKeyByte { frames := 1, cells := 0, slots := 0, locals := 21 } (va_Pc [.ref o, .int (nI k), .int (nI i), .int v] (fun U => U.heap.size = sz ∧ va_P (dC, dI) vwCl [(o, .inr (6, [.int th, .ref xv, .ref xo, .ref xn, .ref xc, .ref xb, .ref xd, .ref xq, .ref xa, .ref xk, .ref xt, .ref xh, .ref xs, .ref xS, .ref xw, .ref xW, .ref xB, .ref xM, .long jf, .long js, .int jb, .long nf, .long ns, .int nb, .ref xf, .ref xg, .ref xi])), (xk, .inl (cI, 320, .inl fk)), (xt, .inl (cZ, 2, .inl ts))] U.heap ∧ va_K (dC, dI) vwCl [(cI, .int), (cZ, .boolean)] U ∧ va_D (fun _ => True) [(o, .inr (6, [.int th, .ref xv, .ref xo, .ref xn, .ref xc, .ref xb, .ref xd, .ref xq, .ref xa, .ref xk, .ref xt, .ref xh, .ref xs, .ref xS, .ref xw, .ref xW, .ref xB, .ref xM, .long jf, .long js, .int jb, .long nf, .long ns, .int nb, .ref xf, .ref xg, .ref xi])), (xk, .inl (cI, 320, .inl fk)), (xt, .inl (cZ, 2, .inl ts))])) (va_Qv (fun (_ : Unit) => True) (fun (_ : Unit) t => va_P (dC, dI) vwCl [(o, .inr (6, [.int (nI 0), .ref xv, .ref xo, .ref xn, .ref xc, .ref xb, .ref xd, .ref xq, .ref xa, .ref xk, .ref xt, .ref xh, .ref xs, .ref xS, .ref xw, .ref xW, .ref xB, .ref xM, .long jf, .long js, .int jb, .long nf, .long ns, .int nb, .ref xf, .ref xg, .ref xi])), (xk, .inl (cI, 320, .inl (upd fk (160 * k + i) (v &&& nI 255)))), (xt, .inl (cZ, 2, .inl (upd ts k (nI 1))))] t.heap ∧ va_K (dC, dI) vwCl [(cI, .int), (cZ, .boolean)] t ∧ va_D (va_A [(o, .inr (6, [.int th, .ref xv, .ref xo, .ref xn, .ref xc, .ref xb, .ref xd, .ref xq, .ref xa, .ref xk, .ref xt, .ref xh, .ref xs, .ref xS, .ref xw, .ref xW, .ref xB, .ref xM, .long jf, .long js, .int jb, .long nf, .long ns, .int nb, .ref xf, .ref xg, .ref xi])), (xk, .inl (cI, 320, .inl fk)), (xt, .inl (cZ, 2, .inl ts))] sz) [(o, .inr (6, [.int (nI 0), .ref xv, .ref xo, .ref xn, .ref xc, .ref xb, .ref xd, .ref xq, .ref xa, .ref xk, .ref xt, .ref xh, .ref xs, .ref xS, .ref xw, .ref xW, .ref xB, .ref xM, .long jf, .long js, .int jb, .long nf, .long ns, .int nb, .ref xf, .ref xg, .ref xi])), (xk, .inl (cI, 320, .inl (upd fk (160 * k + i) (v &&& nI 255)))), (xt, .inl (cZ, 2, .inl (upd ts k (nI 1))))]) (va_A [(o, .inr (6, [.int th, .ref xv, .ref xo, .ref xn, .ref xc, .ref xb, .ref xd, .ref xq, .ref xa, .ref xk, .ref xt, .ref xh, .ref xs, .ref xS, .ref xw, .ref xW, .ref xB, .ref xM, .long jf, .long js, .int jb, .long nf, .long ns, .int nb, .ref xf, .ref xg, .ref xi])), (xk, .inl (cI, 320, .inl fk)), (xt, .inl (cZ, 2, .inl ts))] sz)) 0 0 (va_A [(o, .inr (6, [.int th, .ref xv, .ref xo, .ref xn, .ref xc, .ref xb, .ref xd, .ref xq, .ref xa, .ref xk, .ref xt, .ref xh, .ref xs, .ref xS, .ref xw, .ref xW, .ref xB, .ref xM, .long jf, .long js, .int jb, .long nf, .long ns, .int nb, .ref xf, .ref xg, .ref xi])), (xk, .inl (cI, 320, .inl fk)), (xt, .inl (cZ, 2, .inl ts))] sz) := by
  refine Met.ofW (cc := cMO_setKeyByte) (maxL := 4) (ret := none) (by decide) rfl ?_
  intro p e s m args below meth c s₁ Bo9 hml hv
  obtain ⟨rfl, hsz, hP, hK, hD0⟩ := hv
  have hx := Bo9.exec
  have hb := Bo9.bytes
  have hr := Bo9.returns
  have hts := fun w (h : w ∈ wT) => atoms_spec (ws := wsMO_setKeyByte) Bo9.pre w (List.mem_cons_of_mem _ h)
  have hown : s.vm.findClass RMO = some m.cls := findClass_of_methodNamed Bo9.named
  have hlocks := Bo9.notSynchronized
  subst hsz
  have hD := hD0.self (sz := s.heap.size)
  generalize hAe : va_A [(o, .inr (6, [.int th, .ref xv, .ref xo, .ref xn, .ref xc, .ref xb, .ref xd, .ref xq, .ref xa, .ref xk, .ref xt, .ref xh, .ref xs, .ref xS, .ref xw, .ref xW, .ref xB, .ref xM, .long jf, .long js, .int jb, .long nf, .long ns, .int nb, .ref xf, .ref xg, .ref xi])), (xk, .inl (cI, 320, .inl fk)), (xt, .inl (cZ, 2, .inl ts))] s.heap.size = A at hD ⊢
  have hA : ∀ q : Nat, s.heap.size ≤ q → A q := fun q h => by rw [← hAe]; exact Or.inr h
  have hl := lv_entry ([.ref o, .int (nI k), .int (nI i), .int v]) (n := 4) (Nat.le_of_ble_eq_true rfl)
  rw [lg_entry_eq]
  generalize (lg_sl ([.ref o, .int (nI k), .int (nI i), .int v]) ++ List.replicate (4 - (lg_sl ([.ref o, .int (nI k), .int (nI i), .int v])).length) Slot.unset).toArray = ls at hl ⊢
  have hl : lv_has ls 4 [(0, .ref o), (1, .int (nI k)), (2, .int (nI i)), (3, .int v)] := hl
  refine xs_q (fun H Q hH hQ => ?_)
  have hS : va_S A s.heap H [] := by rw [hH]; exact va_S.rf
  have hP : va_P (dC, dI) vwCl [(o, .inr (6, [.int th, .ref xv, .ref xo, .ref xn, .ref xc, .ref xb, .ref xd, .ref xq, .ref xa, .ref xk, .ref xt, .ref xh, .ref xs, .ref xS, .ref xw, .ref xW, .ref xB, .ref xM, .long jf, .long js, .int jb, .long nf, .long ns, .int nb, .ref xf, .ref xg, .ref xi])), (xk, .inl (cI, 320, .inl fk)), (xt, .inl (cZ, 2, .inl ts))] H := by rw [hH]; exact hP
  have hy : (bs_ii (nI k) 2 && bs_ii (nI i) 160) = true := bs_ii_2 (bs_ii_n hk (by omega)) (bs_ii_n hi (by omega))
  refine lv_aload_n hx hb dMO_setKeyByte_0 rfl (lv_at hl 0 rfl) ?_
  refine lv_iload_n hx hb dMO_setKeyByte_1 rfl (lv_at hl 1 rfl) ?_
  refine lv_iload_n hx hb dMO_setKeyByte_2 rfl (lv_at hl 2 rfl) ?_
  have hPc := hP.sub (ws' := []) [] rfl
  have hDc := hD.sub (ws' := []) [] (by decide) rfl
  have hKc := hK.sub (tys' := []) [] rfl
  have hFc := va_free (wc := []) hD hS hA [] rfl
  refine va_calli (va_runS (As := [.int (nI k), .int (nI i)]) (rest := [.ref o]) ⟨hx, hb, hml, hown, hts⟩ (c_MO_isByte l dC dI H.size (nI k) (nI i)) (va_cwS 2 hts (wT_3 w_m_MO_153 w_t_MO_isByte w_n_MO w_c_MO_isByte) rfl rfl rfl (by decide +kernel) ⟨Nat.le_of_ble_eq_true rfl, Nat.le_of_ble_eq_true rfl⟩) ⟨fun a U g mk q => by obtain ⟨q0, q1, qP, qK, qD⟩ := q; exact ⟨q0, q1, qP, va_K.moved (u := U) (U := U.calling g mk a) (Vm.Alike.refl U.vm) qK, qD⟩, fun U hU hW => ⟨rfl, by rw [hU], by rw [hU]; exact hPc, va_K.moved hW.alike hKc, hDc.weaken (fun _ _ _ _ => trivial)⟩⟩ rfl rfl hl.1 rfl (lv_room (Nat.le_of_ble_eq_true rfl)) dMO_setKeyByte_3 ⟨Nat.zero_le _, Nat.zero_le _⟩) hS (fun q _ h => hFc q h) hFc (fun r u t H1 locs ht hvm hw hB hz1 hk1 hS => ?_)
  obtain ⟨hP1, hK1, hD1⟩ := hB
  rw [ht] at hP1
  have hK1 := va_K.moved hvm.symm hK1
  have hw : r = bs_z (bs_ii (nI k) 2 && bs_ii (nI i) 160) := hw
  subst hw
  obtain ⟨hP, hD⟩ := va_join (wr := [(o, .inr (6, [.int th, .ref xv, .ref xo, .ref xn, .ref xc, .ref xb, .ref xd, .ref xq, .ref xa, .ref xk, .ref xt, .ref xh, .ref xs, .ref xS, .ref xw, .ref xW, .ref xB, .ref xM, .long jf, .long js, .int jb, .long nf, .long ns, .int nb, .ref xf, .ref xg, .ref xi])), (xk, .inl (cI, 320, .inl fk)), (xt, .inl (cZ, 2, .inl ts))]) (w1 := []) hP hD [] [0, 1, 2] rfl rfl (by decide) (by decide) hk1 hFc hP1 hD1
  generalize H1 = H at hP hS ⊢
  have hP : va_P (dC, dI) vwCl [(o, .inr (6, [.int th, .ref xv, .ref xo, .ref xn, .ref xc, .ref xb, .ref xd, .ref xq, .ref xa, .ref xk, .ref xt, .ref xh, .ref xs, .ref xS, .ref xw, .ref xW, .ref xB, .ref xM, .long jf, .long js, .int jb, .long nf, .long ns, .int nb, .ref xf, .ref xg, .ref xi])), (xk, .inl (cI, 320, .inl fk)), (xt, .inl (cZ, 2, .inl ts))] H := hP
  have hD : va_D A [(o, .inr (6, [.int th, .ref xv, .ref xo, .ref xn, .ref xc, .ref xb, .ref xd, .ref xq, .ref xa, .ref xk, .ref xt, .ref xh, .ref xs, .ref xS, .ref xw, .ref xW, .ref xB, .ref xM, .long jf, .long js, .int jb, .long nf, .long ns, .int nb, .ref xf, .ref xg, .ref xi])), (xk, .inl (cI, 320, .inl fk)), (xt, .inl (cZ, 2, .inl ts))] := hD
  refine xt_i (y := nI 1) (by rw [hy]; rfl) ?_
  refine lv_if_eq (tgt := 13) hx hb dMO_setKeyByte_6 (by decide) (fun h => absurd h (by decide +kernel)) (fun _ => ?_)
  refine lv_iconst (v := nI 0) hx hb dMO_setKeyByte_9 (by decide) ?_
  refine lv_goto (tgt := 14) hx hb dMO_setKeyByte_10 (by decide) ?_
  refine va_put (D := (dC, dI)) (ci := 6) (v := .int (nI 0)) (ty := .int) (C := RMO) (T := TMO) (N := 27) hx hb hts in_MO tyMO tyMO_ok nmMO hown hK hP hD hS 0 rfl rfl 0 (by decide) (hts _ w_f_MO_87) (fun _ h9 => h9) rfl (by decide +kernel) (rfl) (rfl) (Nat.le_of_ble_eq_true rfl) dMO_setKeyByte_14 (fun H locs hP hD hS => ?_)
  have hP : va_P (dC, dI) vwCl [(o, .inr (6, [.int (nI 0), .ref xv, .ref xo, .ref xn, .ref xc, .ref xb, .ref xd, .ref xq, .ref xa, .ref xk, .ref xt, .ref xh, .ref xs, .ref xS, .ref xw, .ref xW, .ref xB, .ref xM, .long jf, .long js, .int jb, .long nf, .long ns, .int nb, .ref xf, .ref xg, .ref xi])), (xk, .inl (cI, 320, .inl fk)), (xt, .inl (cZ, 2, .inl ts))] H := hP
  have hD : va_D A [(o, .inr (6, [.int (nI 0), .ref xv, .ref xo, .ref xn, .ref xc, .ref xb, .ref xd, .ref xq, .ref xa, .ref xk, .ref xt, .ref xh, .ref xs, .ref xS, .ref xw, .ref xW, .ref xB, .ref xM, .long jf, .long js, .int jb, .long nf, .long ns, .int nb, .ref xf, .ref xg, .ref xi])), (xk, .inl (cI, 320, .inl fk)), (xt, .inl (cZ, 2, .inl ts))] := hD
  refine lv_aload_n hx hb dMO_setKeyByte_17 rfl (lv_at hl 0 rfl) ?_
  refine va_get (D := (dC, dI)) (ci := 6) (v := .int (nI 0)) (C := RMO) (T := TMO) (N := 27) hx hb hts in_MO hown hK hP 0 rfl rfl 0 (by decide) (hts _ w_f_MO_87) (fun _ h9 => h9) rfl dMO_setKeyByte_18 ?_
  refine lv_if_le (tgt := 25) hx hb dMO_setKeyByte_21 (by decide) (fun _ => ?_) (fun h => absurd (by decide +kernel) h)
  refine lv_aload_n hx hb dMO_setKeyByte_25 rfl (lv_at hl 0 rfl) ?_
  refine va_get (D := (dC, dI)) (ci := 6) (v := .ref xk) (C := RMO) (T := TMO) (N := 27) hx hb hts in_MO hown hK hP 0 rfl rfl 9 (by decide) (hts _ w_f_MO_35) (fun _ h9 => h9) rfl dMO_setKeyByte_26 ?_
  refine lv_sipush (v := nI 160) hx hb dMO_setKeyByte_29 (by decide) ?_
  refine lv_iload_n hx hb dMO_setKeyByte_32 rfl (lv_at hl 1 rfl) ?_
  refine lv_imul hx hb dMO_setKeyByte_33 ?_
  refine xt_i (y := nI (160 * k)) (pk_mul _ _) ?_
  refine lv_iload_n hx hb dMO_setKeyByte_34 rfl (lv_at hl 2 rfl) ?_
  refine lv_iadd hx hb dMO_setKeyByte_35 ?_
  refine xt_i (y := nI (160 * k + i)) (nI_add _ _) ?_
  refine lv_iload_n hx hb dMO_setKeyByte_36 rfl (lv_at hl 3 rfl) ?_
  refine lv_sipush (v := nI 255) hx hb dMO_setKeyByte_37 (by decide) ?_
  refine lv_iand hx hb dMO_setKeyByte_40 ?_
  refine xa_iast hx hb hK hP hD hS 1 0 rfl rfl (160 * k + i) (by omega) (by decide) dMO_setKeyByte_41 (fun H locs hP hD hS => ?_)
  have hP : va_P (dC, dI) vwCl [(o, .inr (6, [.int (nI 0), .ref xv, .ref xo, .ref xn, .ref xc, .ref xb, .ref xd, .ref xq, .ref xa, .ref xk, .ref xt, .ref xh, .ref xs, .ref xS, .ref xw, .ref xW, .ref xB, .ref xM, .long jf, .long js, .int jb, .long nf, .long ns, .int nb, .ref xf, .ref xg, .ref xi])), (xk, .inl (cI, 320, .inl (upd fk (160 * k + i) (v &&& (nI 255))))), (xt, .inl (cZ, 2, .inl ts))] H := hP
  have hD : va_D A [(o, .inr (6, [.int (nI 0), .ref xv, .ref xo, .ref xn, .ref xc, .ref xb, .ref xd, .ref xq, .ref xa, .ref xk, .ref xt, .ref xh, .ref xs, .ref xS, .ref xw, .ref xW, .ref xB, .ref xM, .long jf, .long js, .int jb, .long nf, .long ns, .int nb, .ref xf, .ref xg, .ref xi])), (xk, .inl (cI, 320, .inl (upd fk (160 * k + i) (v &&& (nI 255))))), (xt, .inl (cZ, 2, .inl ts))] := hD
  refine lv_aload_n hx hb dMO_setKeyByte_42 rfl (lv_at hl 0 rfl) ?_
  refine va_get (D := (dC, dI)) (ci := 6) (v := .ref xt) (C := RMO) (T := TMO) (N := 27) hx hb hts in_MO hown hK hP 0 rfl rfl 10 (by decide) (hts _ w_f_MO_38) (fun _ h9 => h9) rfl dMO_setKeyByte_43 ?_
  refine lv_iload_n hx hb dMO_setKeyByte_46 rfl (lv_at hl 1 rfl) ?_
  refine lv_iconst (v := nI 1) hx hb dMO_setKeyByte_47 (by decide) ?_
  refine xa_zast hx hb hK hP hD hS 2 1 rfl rfl k (by omega) (by decide) (Or.inr rfl) dMO_setKeyByte_48 (fun H locs hP hD hS => ?_)
  have hP : va_P (dC, dI) vwCl [(o, .inr (6, [.int (nI 0), .ref xv, .ref xo, .ref xn, .ref xc, .ref xb, .ref xd, .ref xq, .ref xa, .ref xk, .ref xt, .ref xh, .ref xs, .ref xS, .ref xw, .ref xW, .ref xB, .ref xM, .long jf, .long js, .int jb, .long nf, .long ns, .int nb, .ref xf, .ref xg, .ref xi])), (xk, .inl (cI, 320, .inl (upd fk (160 * k + i) (v &&& (nI 255))))), (xt, .inl (cZ, 2, .inl (upd ts k (nI 1))))] H := hP
  have hD : va_D A [(o, .inr (6, [.int (nI 0), .ref xv, .ref xo, .ref xn, .ref xc, .ref xb, .ref xd, .ref xq, .ref xa, .ref xk, .ref xt, .ref xh, .ref xs, .ref xS, .ref xw, .ref xW, .ref xB, .ref xM, .long jf, .long js, .int jb, .long nf, .long ns, .int nb, .ref xf, .ref xg, .ref xi])), (xk, .inl (cI, 320, .inl (upd fk (160 * k + i) (v &&& (nI 255))))), (xt, .inl (cZ, 2, .inl (upd ts k (nI 1))))] := hD
  have hP : va_P (dC, dI) vwCl [(o, .inr (6, [.int (nI 0), .ref xv, .ref xo, .ref xn, .ref xc, .ref xb, .ref xd, .ref xq, .ref xa, .ref xk, .ref xt, .ref xh, .ref xs, .ref xS, .ref xw, .ref xW, .ref xB, .ref xM, .long jf, .long js, .int jb, .long nf, .long ns, .int nb, .ref xf, .ref xg, .ref xi])), (xk, .inl (cI, 320, .inl (upd fk (160 * k + i) (v &&& nI 255)))), (xt, .inl (cZ, 2, .inl (upd ts k (nI 1))))] H := hP
  have hD : va_D A [(o, .inr (6, [.int (nI 0), .ref xv, .ref xo, .ref xn, .ref xc, .ref xb, .ref xd, .ref xq, .ref xa, .ref xk, .ref xt, .ref xh, .ref xs, .ref xS, .ref xw, .ref xW, .ref xB, .ref xM, .long jf, .long js, .int jb, .long nf, .long ns, .int nb, .ref xf, .ref xg, .ref xi])), (xk, .inl (cI, 320, .inl (upd fk (160 * k + i) (v &&& nI 255)))), (xt, .inl (cZ, 2, .inl (upd ts k (nI 1))))] := hD
  subst hQ
  exact W.vret hx hb hr (fun t ht hW => ⟨⟨(), rfl, trivial, by rw [ht]; exact hP, va_K.moved hW.alike hK, hD⟩, hS.F ht⟩) hS.2.2 dMO_setKeyByte_49
set_option maxHeartbeats 4000000 in
set_option maxRecDepth 100000 in
theorem c_MO_setKeyByte_n (l : Launch) (dC : Nat → ClassId) (dI : Nat → Nat → Nat) (sz : Nat) (o xv xo xn xc xb xd xq xa xk xt xh xs xS xw xW xB xM xf xg xi : Nat) (th : Int32) (jf js : Int64) (jb : Int32) (nf ns : Int64) (nb : Int32) (x y v : Int32) (hn : (bs_ii x 2 && bs_ii y 160) = false) : Met l yMO_setKeyByte wsMO_setKeyByte { frames := 1, cells := 0, slots := 0, locals := 21 } (va_Pc [.ref o, .int x, .int y, .int v] (fun U => U.heap.size = sz ∧ va_P (dC, dI) vwCl [(o, .inr (6, [.int th, .ref xv, .ref xo, .ref xn, .ref xc, .ref xb, .ref xd, .ref xq, .ref xa, .ref xk, .ref xt, .ref xh, .ref xs, .ref xS, .ref xw, .ref xW, .ref xB, .ref xM, .long jf, .long js, .int jb, .long nf, .long ns, .int nb, .ref xf, .ref xg, .ref xi]))] U.heap ∧ va_K (dC, dI) vwCl [] U ∧ va_D (fun _ => True) [(o, .inr (6, [.int th, .ref xv, .ref xo, .ref xn, .ref xc, .ref xb, .ref xd, .ref xq, .ref xa, .ref xk, .ref xt, .ref xh, .ref xs, .ref xS, .ref xw, .ref xW, .ref xB, .ref xM, .long jf, .long js, .int jb, .long nf, .long ns, .int nb, .ref xf, .ref xg, .ref xi]))])) (va_Qv (fun (_ : Unit) => True) (fun (_ : Unit) t => va_P (dC, dI) vwCl [(o, .inr (6, [.int (nI 1), .ref xv, .ref xo, .ref xn, .ref xc, .ref xb, .ref xd, .ref xq, .ref xa, .ref xk, .ref xt, .ref xh, .ref xs, .ref xS, .ref xw, .ref xW, .ref xB, .ref xM, .long jf, .long js, .int jb, .long nf, .long ns, .int nb, .ref xf, .ref xg, .ref xi]))] t.heap ∧ va_K (dC, dI) vwCl [] t ∧ va_D (va_A [(o, .inr (6, [.int th, .ref xv, .ref xo, .ref xn, .ref xc, .ref xb, .ref xd, .ref xq, .ref xa, .ref xk, .ref xt, .ref xh, .ref xs, .ref xS, .ref xw, .ref xW, .ref xB, .ref xM, .long jf, .long js, .int jb, .long nf, .long ns, .int nb, .ref xf, .ref xg, .ref xi]))] sz) [(o, .inr (6, [.int (nI 1), .ref xv, .ref xo, .ref xn, .ref xc, .ref xb, .ref xd, .ref xq, .ref xa, .ref xk, .ref xt, .ref xh, .ref xs, .ref xS, .ref xw, .ref xW, .ref xB, .ref xM, .long jf, .long js, .int jb, .long nf, .long ns, .int nb, .ref xf, .ref xg, .ref xi]))]) (va_A [(o, .inr (6, [.int th, .ref xv, .ref xo, .ref xn, .ref xc, .ref xb, .ref xd, .ref xq, .ref xa, .ref xk, .ref xt, .ref xh, .ref xs, .ref xS, .ref xw, .ref xW, .ref xB, .ref xM, .long jf, .long js, .int jb, .long nf, .long ns, .int nb, .ref xf, .ref xg, .ref xi]))] sz)) 0 0 (va_A [(o, .inr (6, [.int th, .ref xv, .ref xo, .ref xn, .ref xc, .ref xb, .ref xd, .ref xq, .ref xa, .ref xk, .ref xt, .ref xh, .ref xs, .ref xS, .ref xw, .ref xW, .ref xB, .ref xM, .long jf, .long js, .int jb, .long nf, .long ns, .int nb, .ref xf, .ref xg, .ref xi]))] sz) := by
  refine Met.ofW (cc := cMO_setKeyByte) (maxL := 4) (ret := none) (by decide) rfl ?_
  intro p e s m args below meth c s₁ Bo9 hml hv
  obtain ⟨rfl, hsz, hP, hK, hD0⟩ := hv
  have hx := Bo9.exec
  have hb := Bo9.bytes
  have hr := Bo9.returns
  have hts := fun w (h : w ∈ wT) => atoms_spec (ws := wsMO_setKeyByte) Bo9.pre w (List.mem_cons_of_mem _ h)
  have hown : s.vm.findClass RMO = some m.cls := findClass_of_methodNamed Bo9.named
  have hlocks := Bo9.notSynchronized
  subst hsz
  have hD := hD0.self (sz := s.heap.size)
  generalize hAe : va_A [(o, .inr (6, [.int th, .ref xv, .ref xo, .ref xn, .ref xc, .ref xb, .ref xd, .ref xq, .ref xa, .ref xk, .ref xt, .ref xh, .ref xs, .ref xS, .ref xw, .ref xW, .ref xB, .ref xM, .long jf, .long js, .int jb, .long nf, .long ns, .int nb, .ref xf, .ref xg, .ref xi]))] s.heap.size = A at hD ⊢
  have hA : ∀ q : Nat, s.heap.size ≤ q → A q := fun q h => by rw [← hAe]; exact Or.inr h
  have hl := lv_entry ([.ref o, .int x, .int y, .int v]) (n := 4) (Nat.le_of_ble_eq_true rfl)
  rw [lg_entry_eq]
  generalize (lg_sl ([.ref o, .int x, .int y, .int v]) ++ List.replicate (4 - (lg_sl ([.ref o, .int x, .int y, .int v])).length) Slot.unset).toArray = ls at hl ⊢
  have hl : lv_has ls 4 [(0, .ref o), (1, .int x), (2, .int y), (3, .int v)] := hl
  refine xs_q (fun H Q hH hQ => ?_)
  have hS : va_S A s.heap H [] := by rw [hH]; exact va_S.rf
  have hP : va_P (dC, dI) vwCl [(o, .inr (6, [.int th, .ref xv, .ref xo, .ref xn, .ref xc, .ref xb, .ref xd, .ref xq, .ref xa, .ref xk, .ref xt, .ref xh, .ref xs, .ref xS, .ref xw, .ref xW, .ref xB, .ref xM, .long jf, .long js, .int jb, .long nf, .long ns, .int nb, .ref xf, .ref xg, .ref xi]))] H := by rw [hH]; exact hP
  refine lv_aload_n hx hb dMO_setKeyByte_0 rfl (lv_at hl 0 rfl) ?_
  refine lv_iload_n hx hb dMO_setKeyByte_1 rfl (lv_at hl 1 rfl) ?_
  refine lv_iload_n hx hb dMO_setKeyByte_2 rfl (lv_at hl 2 rfl) ?_
  have hPc := hP.sub (ws' := []) [] rfl
  have hDc := hD.sub (ws' := []) [] (by decide) rfl
  have hKc := hK.sub (tys' := []) [] rfl
  have hFc := va_free (wc := []) hD hS hA [] rfl
  refine va_calli (va_runS (As := [.int x, .int y]) (rest := [.ref o]) ⟨hx, hb, hml, hown, hts⟩ (c_MO_isByte l dC dI H.size x y) (va_cwS 2 hts (wT_3 w_m_MO_153 w_t_MO_isByte w_n_MO w_c_MO_isByte) rfl rfl rfl (by decide +kernel) ⟨Nat.le_of_ble_eq_true rfl, Nat.le_of_ble_eq_true rfl⟩) ⟨fun a U g mk q => by obtain ⟨q0, q1, qP, qK, qD⟩ := q; exact ⟨q0, q1, qP, va_K.moved (u := U) (U := U.calling g mk a) (Vm.Alike.refl U.vm) qK, qD⟩, fun U hU hW => ⟨rfl, by rw [hU], by rw [hU]; exact hPc, va_K.moved hW.alike hKc, hDc.weaken (fun _ _ _ _ => trivial)⟩⟩ rfl rfl hl.1 rfl (lv_room (Nat.le_of_ble_eq_true rfl)) dMO_setKeyByte_3 ⟨Nat.zero_le _, Nat.zero_le _⟩) hS (fun q _ h => hFc q h) hFc (fun r u t H1 locs ht hvm hw hB hz1 hk1 hS => ?_)
  obtain ⟨hP1, hK1, hD1⟩ := hB
  rw [ht] at hP1
  have hK1 := va_K.moved hvm.symm hK1
  have hw : r = bs_z (bs_ii x 2 && bs_ii y 160) := hw
  subst hw
  obtain ⟨hP, hD⟩ := va_join (wr := [(o, .inr (6, [.int th, .ref xv, .ref xo, .ref xn, .ref xc, .ref xb, .ref xd, .ref xq, .ref xa, .ref xk, .ref xt, .ref xh, .ref xs, .ref xS, .ref xw, .ref xW, .ref xB, .ref xM, .long jf, .long js, .int jb, .long nf, .long ns, .int nb, .ref xf, .ref xg, .ref xi]))]) (w1 := []) hP hD [] [0] rfl rfl (by decide) (by decide) hk1 hFc hP1 hD1
  generalize H1 = H at hP hS ⊢
  have hP : va_P (dC, dI) vwCl [(o, .inr (6, [.int th, .ref xv, .ref xo, .ref xn, .ref xc, .ref xb, .ref xd, .ref xq, .ref xa, .ref xk, .ref xt, .ref xh, .ref xs, .ref xS, .ref xw, .ref xW, .ref xB, .ref xM, .long jf, .long js, .int jb, .long nf, .long ns, .int nb, .ref xf, .ref xg, .ref xi]))] H := hP
  have hD : va_D A [(o, .inr (6, [.int th, .ref xv, .ref xo, .ref xn, .ref xc, .ref xb, .ref xd, .ref xq, .ref xa, .ref xk, .ref xt, .ref xh, .ref xs, .ref xS, .ref xw, .ref xW, .ref xB, .ref xM, .long jf, .long js, .int jb, .long nf, .long ns, .int nb, .ref xf, .ref xg, .ref xi]))] := hD
  refine xt_i (y := nI 0) (by rw [hn]; rfl) ?_
  refine lv_if_eq (tgt := 13) hx hb dMO_setKeyByte_6 (by decide) (fun _ => ?_) (fun h => absurd (by decide +kernel) h)
  refine lv_iconst (v := nI 1) hx hb dMO_setKeyByte_13 (by decide) ?_
  refine va_put (D := (dC, dI)) (ci := 6) (v := .int (nI 1)) (ty := .int) (C := RMO) (T := TMO) (N := 27) hx hb hts in_MO tyMO tyMO_ok nmMO hown hK hP hD hS 0 rfl rfl 0 (by decide) (hts _ w_f_MO_87) (fun _ h9 => h9) rfl (by decide +kernel) (rfl) (rfl) (Nat.le_of_ble_eq_true rfl) dMO_setKeyByte_14 (fun H locs hP hD hS => ?_)
  have hP : va_P (dC, dI) vwCl [(o, .inr (6, [.int (nI 1), .ref xv, .ref xo, .ref xn, .ref xc, .ref xb, .ref xd, .ref xq, .ref xa, .ref xk, .ref xt, .ref xh, .ref xs, .ref xS, .ref xw, .ref xW, .ref xB, .ref xM, .long jf, .long js, .int jb, .long nf, .long ns, .int nb, .ref xf, .ref xg, .ref xi]))] H := hP
  have hD : va_D A [(o, .inr (6, [.int (nI 1), .ref xv, .ref xo, .ref xn, .ref xc, .ref xb, .ref xd, .ref xq, .ref xa, .ref xk, .ref xt, .ref xh, .ref xs, .ref xS, .ref xw, .ref xW, .ref xB, .ref xM, .long jf, .long js, .int jb, .long nf, .long ns, .int nb, .ref xf, .ref xg, .ref xi]))] := hD
  refine lv_aload_n hx hb dMO_setKeyByte_17 rfl (lv_at hl 0 rfl) ?_
  refine va_get (D := (dC, dI)) (ci := 6) (v := .int (nI 1)) (C := RMO) (T := TMO) (N := 27) hx hb hts in_MO hown hK hP 0 rfl rfl 0 (by decide) (hts _ w_f_MO_87) (fun _ h9 => h9) rfl dMO_setKeyByte_18 ?_
  refine lv_if_le (tgt := 25) hx hb dMO_setKeyByte_21 (by decide) (fun h => absurd h (by decide +kernel)) (fun _ => ?_)
  have hP : va_P (dC, dI) vwCl [(o, .inr (6, [.int (nI 1), .ref xv, .ref xo, .ref xn, .ref xc, .ref xb, .ref xd, .ref xq, .ref xa, .ref xk, .ref xt, .ref xh, .ref xs, .ref xS, .ref xw, .ref xW, .ref xB, .ref xM, .long jf, .long js, .int jb, .long nf, .long ns, .int nb, .ref xf, .ref xg, .ref xi]))] H := hP
  have hD : va_D A [(o, .inr (6, [.int (nI 1), .ref xv, .ref xo, .ref xn, .ref xc, .ref xb, .ref xd, .ref xq, .ref xa, .ref xk, .ref xt, .ref xh, .ref xs, .ref xS, .ref xw, .ref xW, .ref xB, .ref xM, .long jf, .long js, .int jb, .long nf, .long ns, .int nb, .ref xf, .ref xg, .ref xi]))] := hD
  subst hQ
  exact W.vret hx hb hr (fun t ht hW => ⟨⟨(), rfl, trivial, by rw [ht]; exact hP, va_K.moved hW.alike hK, hD⟩, hS.F ht⟩) hS.2.2 dMO_setKeyByte_24
set_option maxHeartbeats 4000000 in
set_option maxRecDepth 100000 in
theorem c_MO_keyFault_y (l : Launch) (dC : Nat → ClassId) (dI : Nat → Nat → Nat) (sz : Nat) (o xv xo xn xc xb xd xq xa xk xt xh xs xS xw xW xB xM xf xg xi : Nat) (th : Int32) (jf js : Int64) (jb : Int32) (nf ns : Int64) (nb : Int32) (cI : ClassId) (fk : Nat → Int32) (k i : Nat) (hk : k < 2) (hi : i < 256) (hby : ∀ j, j < 320 → ∃ n, n < 256 ∧ fk j = nI n) : Met l yMO_keyFault wsMO_keyFault { frames := 1, cells := 0, slots := 0, locals := 24 } (va_Pc [.ref o, .int (nI k), .int (nI i)] (fun U => U.heap.size = sz ∧ va_P (dC, dI) vwCl [(o, .inr (6, [.int th, .ref xv, .ref xo, .ref xn, .ref xc, .ref xb, .ref xd, .ref xq, .ref xa, .ref xk, .ref xt, .ref xh, .ref xs, .ref xS, .ref xw, .ref xW, .ref xB, .ref xM, .long jf, .long js, .int jb, .long nf, .long ns, .int nb, .ref xf, .ref xg, .ref xi])), (xk, .inl (cI, 320, .inl fk))] U.heap ∧ va_K (dC, dI) vwCl [(cI, .int)] U ∧ va_D (fun _ => True) [(o, .inr (6, [.int th, .ref xv, .ref xo, .ref xn, .ref xc, .ref xb, .ref xd, .ref xq, .ref xa, .ref xk, .ref xt, .ref xh, .ref xs, .ref xS, .ref xw, .ref xW, .ref xB, .ref xM, .long jf, .long js, .int jb, .long nf, .long ns, .int nb, .ref xf, .ref xg, .ref xi])), (xk, .inl (cI, 320, .inl fk))])) (va_Qi (fun (r : Int32) (_ : Unit) => r = bs_flt (bs_gd (bs_kf fk k) 8)) (fun (_ : Unit) t => va_P (dC, dI) vwCl [(o, .inr (6, [.int th, .ref xv, .ref xo, .ref xn, .ref xc, .ref xb, .ref xd, .ref xq, .ref xa, .ref xk, .ref xt, .ref xh, .ref xs, .ref xS, .ref xw, .ref xW, .ref xB, .ref xM, .long jf, .long js, .int jb, .long nf, .long ns, .int nb, .ref xf, .ref xg, .ref xi])), (xk, .inl (cI, 320, .inl fk))] t.heap ∧ va_K (dC, dI) vwCl [(cI, .int)] t ∧ va_D (va_A [(o, .inr (6, [.int th, .ref xv, .ref xo, .ref xn, .ref xc, .ref xb, .ref xd, .ref xq, .ref xa, .ref xk, .ref xt, .ref xh, .ref xs, .ref xS, .ref xw, .ref xW, .ref xB, .ref xM, .long jf, .long js, .int jb, .long nf, .long ns, .int nb, .ref xf, .ref xg, .ref xi])), (xk, .inl (cI, 320, .inl fk))] sz) [(o, .inr (6, [.int th, .ref xv, .ref xo, .ref xn, .ref xc, .ref xb, .ref xd, .ref xq, .ref xa, .ref xk, .ref xt, .ref xh, .ref xs, .ref xS, .ref xw, .ref xW, .ref xB, .ref xM, .long jf, .long js, .int jb, .long nf, .long ns, .int nb, .ref xf, .ref xg, .ref xi])), (xk, .inl (cI, 320, .inl fk))]) (va_A [(o, .inr (6, [.int th, .ref xv, .ref xo, .ref xn, .ref xc, .ref xb, .ref xd, .ref xq, .ref xa, .ref xk, .ref xt, .ref xh, .ref xs, .ref xS, .ref xw, .ref xW, .ref xB, .ref xM, .long jf, .long js, .int jb, .long nf, .long ns, .int nb, .ref xf, .ref xg, .ref xi])), (xk, .inl (cI, 320, .inl fk))] sz)) 0 0 (va_A [(o, .inr (6, [.int th, .ref xv, .ref xo, .ref xn, .ref xc, .ref xb, .ref xd, .ref xq, .ref xa, .ref xk, .ref xt, .ref xh, .ref xs, .ref xS, .ref xw, .ref xW, .ref xB, .ref xM, .long jf, .long js, .int jb, .long nf, .long ns, .int nb, .ref xf, .ref xg, .ref xi])), (xk, .inl (cI, 320, .inl fk))] sz) := by
  refine Met.ofW (cc := cMO_keyFault) (maxL := 3) (ret := (some .int)) (by decide) rfl ?_
  intro p e s m args below meth c s₁ Bo9 hml hv
  obtain ⟨rfl, hsz, hP, hK, hD0⟩ := hv
  have hx := Bo9.exec
  have hb := Bo9.bytes
  have hr := Bo9.returns
  have hts := fun w (h : w ∈ wT) => atoms_spec (ws := wsMO_keyFault) Bo9.pre w (List.mem_cons_of_mem _ h)
  have hown : s.vm.findClass RMO = some m.cls := findClass_of_methodNamed Bo9.named
  have hlocks := Bo9.notSynchronized
  subst hsz
  have hD := hD0.self (sz := s.heap.size)
  generalize hAe : va_A [(o, .inr (6, [.int th, .ref xv, .ref xo, .ref xn, .ref xc, .ref xb, .ref xd, .ref xq, .ref xa, .ref xk, .ref xt, .ref xh, .ref xs, .ref xS, .ref xw, .ref xW, .ref xB, .ref xM, .long jf, .long js, .int jb, .long nf, .long ns, .int nb, .ref xf, .ref xg, .ref xi])), (xk, .inl (cI, 320, .inl fk))] s.heap.size = A at hD ⊢
  have hA : ∀ q : Nat, s.heap.size ≤ q → A q := fun q h => by rw [← hAe]; exact Or.inr h
  have hl := lv_entry ([.ref o, .int (nI k), .int (nI i)]) (n := 3) (Nat.le_of_ble_eq_true rfl)
  rw [lg_entry_eq]
  generalize (lg_sl ([.ref o, .int (nI k), .int (nI i)]) ++ List.replicate (3 - (lg_sl ([.ref o, .int (nI k), .int (nI i)])).length) Slot.unset).toArray = ls at hl ⊢
  have hl : lv_has ls 3 [(0, .ref o), (1, .int (nI k)), (2, .int (nI i))] := hl
  refine xs_q (fun H Q hH hQ => ?_)
  have hS : va_S A s.heap H [] := by rw [hH]; exact va_S.rf
  have hP : va_P (dC, dI) vwCl [(o, .inr (6, [.int th, .ref xv, .ref xo, .ref xn, .ref xc, .ref xb, .ref xd, .ref xq, .ref xa, .ref xk, .ref xt, .ref xh, .ref xs, .ref xS, .ref xw, .ref xW, .ref xB, .ref xM, .long jf, .long js, .int jb, .long nf, .long ns, .int nb, .ref xf, .ref xg, .ref xi])), (xk, .inl (cI, 320, .inl fk))] H := by rw [hH]; exact hP
  refine lv_iload_n hx hb dMO_keyFault_0 rfl (lv_at hl 1 rfl) ?_
  refine lv_if_lt (tgt := 20) hx hb dMO_keyFault_1 (by decide) (fun h => absurd h (bs_ii_nl (bs_ii_n hk (by omega)))) (fun _ => ?_)
  refine lv_iload_n hx hb dMO_keyFault_4 rfl (lv_at hl 1 rfl) ?_
  refine lv_iconst (v := nI 1) hx hb dMO_keyFault_5 (by decide) ?_
  refine lv_icmp_gt (tgt := 20) hx hb dMO_keyFault_6 (by decide) (fun h => absurd h (nI_nlt (by omega) (by omega))) (fun _ => ?_)
  refine lv_iload_n hx hb dMO_keyFault_9 rfl (lv_at hl 2 rfl) ?_
  refine lv_if_lt (tgt := 20) hx hb dMO_keyFault_10 (by decide) (fun h => absurd h (bs_ii_nl (bs_ii_n hi (by omega)))) (fun _ => ?_)
  refine lv_iload_n hx hb dMO_keyFault_13 rfl (lv_at hl 2 rfl) ?_
  refine lv_sipush (v := nI 256) hx hb dMO_keyFault_14 (by decide) ?_
  refine lv_icmp_lt (tgt := 22) hx hb dMO_keyFault_17 (by decide) (fun _ => ?_) (fun h => absurd (nI_lt (by omega) (by omega)) h)
  refine lv_aload_n hx hb dMO_keyFault_22 rfl (lv_at hl 0 rfl) ?_
  refine lv_iload_n hx hb dMO_keyFault_23 rfl (lv_at hl 1 rfl) ?_
  have hPc := hP.sub (ws' := [(o, .inr (6, [.int th, .ref xv, .ref xo, .ref xn, .ref xc, .ref xb, .ref xd, .ref xq, .ref xa, .ref xk, .ref xt, .ref xh, .ref xs, .ref xS, .ref xw, .ref xW, .ref xB, .ref xM, .long jf, .long js, .int jb, .long nf, .long ns, .int nb, .ref xf, .ref xg, .ref xi])), (xk, .inl (cI, 320, .inl fk))]) [0, 1] rfl
  have hDc := hD.sub (ws' := [(o, .inr (6, [.int th, .ref xv, .ref xo, .ref xn, .ref xc, .ref xb, .ref xd, .ref xq, .ref xa, .ref xk, .ref xt, .ref xh, .ref xs, .ref xS, .ref xw, .ref xW, .ref xB, .ref xM, .long jf, .long js, .int jb, .long nf, .long ns, .int nb, .ref xf, .ref xg, .ref xi])), (xk, .inl (cI, 320, .inl fk))]) [0, 1] (by decide) rfl
  have hKc := hK.sub (tys' := [(cI, .int)]) [0] rfl
  have hFc := va_free (wc := [(o, .inr (6, [.int th, .ref xv, .ref xo, .ref xn, .ref xc, .ref xb, .ref xd, .ref xq, .ref xa, .ref xk, .ref xt, .ref xh, .ref xs, .ref xS, .ref xw, .ref xW, .ref xB, .ref xM, .long jf, .long js, .int jb, .long nf, .long ns, .int nb, .ref xf, .ref xg, .ref xi])), (xk, .inl (cI, 320, .inl fk))]) hD hS hA [0, 1] rfl
  refine va_calli (va_runV (C := RMO) (As := [.int (nI k)]) (rest := []) ⟨hx, hb, hml, hown, hts⟩ (c_MO_isGood l dC dI H.size o xv xo xn xc xb xd xq xa xk xt xh xs xS xw xW xB xM xf xg xi th jf js jb nf ns nb cI fk k hk hby) (cwV (C := RMO) 1 hts (wT_4 w_m_MO_157 w_i_MO_isGood w_s_MO_isGood w_n_MO w_c_MO_isGood) rfl rfl rfl (by decide +kernel) ⟨Nat.le_of_ble_eq_true rfl, Nat.le_of_ble_eq_true rfl⟩) ⟨fun a U g mk q => by obtain ⟨q0, q1, qP, qK, qD⟩ := q; exact ⟨q0, q1, qP, va_K.moved (u := U) (U := U.calling g mk a) (Vm.Alike.refl U.vm) qK, qD⟩, va_recv hK hP (q0 := 0) (ci := 6) (q := (RMO, TMO, 27)) rfl rfl, fun U hU hW => ⟨rfl, by rw [hU], by rw [hU]; exact hPc, va_K.moved hW.alike hKc, hDc.weaken (fun _ _ _ _ => trivial)⟩⟩ rfl rfl hl.1 rfl (lv_room (Nat.le_of_ble_eq_true rfl)) dMO_keyFault_24 ⟨Nat.zero_le _, Nat.zero_le _⟩) hS (fun q _ h => hFc q h) hFc (fun r u t H1 locs ht hvm hw hB hz1 hk1 hS => ?_)
  obtain ⟨hP1, hK1, hD1⟩ := hB
  rw [ht] at hP1
  have hK1 := va_K.moved hvm.symm hK1
  have hw : r = bs_z (bs_gd (bs_kf fk k) 8) := hw
  subst hw
  obtain ⟨hP, hD⟩ := va_join (wr := []) (w1 := [(o, .inr (6, [.int th, .ref xv, .ref xo, .ref xn, .ref xc, .ref xb, .ref xd, .ref xq, .ref xa, .ref xk, .ref xt, .ref xh, .ref xs, .ref xS, .ref xw, .ref xW, .ref xB, .ref xM, .long jf, .long js, .int jb, .long nf, .long ns, .int nb, .ref xf, .ref xg, .ref xi])), (xk, .inl (cI, 320, .inl fk))]) hP hD [0, 1] [] rfl rfl (by decide) (by decide) hk1 hFc hP1 hD1
  generalize H1 = H at hP hS ⊢
  have hP : va_P (dC, dI) vwCl [(o, .inr (6, [.int th, .ref xv, .ref xo, .ref xn, .ref xc, .ref xb, .ref xd, .ref xq, .ref xa, .ref xk, .ref xt, .ref xh, .ref xs, .ref xS, .ref xw, .ref xW, .ref xB, .ref xM, .long jf, .long js, .int jb, .long nf, .long ns, .int nb, .ref xf, .ref xg, .ref xi])), (xk, .inl (cI, 320, .inl fk))] H := hP
  have hD : va_D A [(o, .inr (6, [.int th, .ref xv, .ref xo, .ref xn, .ref xc, .ref xb, .ref xd, .ref xq, .ref xa, .ref xk, .ref xt, .ref xh, .ref xs, .ref xS, .ref xw, .ref xW, .ref xB, .ref xM, .long jf, .long js, .int jb, .long nf, .long ns, .int nb, .ref xf, .ref xg, .ref xi])), (xk, .inl (cI, 320, .inl fk))] := hD
  refine lv_if_eq (tgt := 34) hx hb dMO_keyFault_27 (by decide) (fun hc => ?_) (fun hc => ?_)
  · refine lv_iconst (v := nI 2) hx hb dMO_keyFault_34 (by decide) ?_
    refine xt_i (y := bs_flt (bs_gd (bs_kf fk k) 8)) (by rw [bs_z_0 hc]; rfl) ?_
    have hP : va_P (dC, dI) vwCl [(o, .inr (6, [.int th, .ref xv, .ref xo, .ref xn, .ref xc, .ref xb, .ref xd, .ref xq, .ref xa, .ref xk, .ref xt, .ref xh, .ref xs, .ref xS, .ref xw, .ref xW, .ref xB, .ref xM, .long jf, .long js, .int jb, .long nf, .long ns, .int nb, .ref xf, .ref xg, .ref xi])), (xk, .inl (cI, 320, .inl fk))] H := hP
    have hD : va_D A [(o, .inr (6, [.int th, .ref xv, .ref xo, .ref xn, .ref xc, .ref xb, .ref xd, .ref xq, .ref xa, .ref xk, .ref xt, .ref xh, .ref xs, .ref xS, .ref xw, .ref xW, .ref xB, .ref xM, .long jf, .long js, .int jb, .long nf, .long ns, .int nb, .ref xf, .ref xg, .ref xi])), (xk, .inl (cI, 320, .inl fk))] := hD
    subst hQ
    exact W.iret (v := bs_flt (bs_gd (bs_kf fk k) 8)) hx hb hr (fun t ht hW => ⟨⟨bs_flt (bs_gd (bs_kf fk k) 8), (), rfl, rfl, by rw [ht]; exact hP, va_K.moved hW.alike hK, hD⟩, hS.F ht⟩) hS.2.2 dMO_keyFault_35
  · refine lv_iconst (v := nI 0) hx hb dMO_keyFault_30 (by decide) ?_
    refine lv_goto (tgt := 35) hx hb dMO_keyFault_31 (by decide) ?_
    refine xt_i (y := bs_flt (bs_gd (bs_kf fk k) 8)) (by rw [bs_z_1 hc]; rfl) ?_
    have hP : va_P (dC, dI) vwCl [(o, .inr (6, [.int th, .ref xv, .ref xo, .ref xn, .ref xc, .ref xb, .ref xd, .ref xq, .ref xa, .ref xk, .ref xt, .ref xh, .ref xs, .ref xS, .ref xw, .ref xW, .ref xB, .ref xM, .long jf, .long js, .int jb, .long nf, .long ns, .int nb, .ref xf, .ref xg, .ref xi])), (xk, .inl (cI, 320, .inl fk))] H := hP
    have hD : va_D A [(o, .inr (6, [.int th, .ref xv, .ref xo, .ref xn, .ref xc, .ref xb, .ref xd, .ref xq, .ref xa, .ref xk, .ref xt, .ref xh, .ref xs, .ref xS, .ref xw, .ref xW, .ref xB, .ref xM, .long jf, .long js, .int jb, .long nf, .long ns, .int nb, .ref xf, .ref xg, .ref xi])), (xk, .inl (cI, 320, .inl fk))] := hD
    subst hQ
    exact W.iret (v := bs_flt (bs_gd (bs_kf fk k) 8)) hx hb hr (fun t ht hW => ⟨⟨bs_flt (bs_gd (bs_kf fk k) 8), (), rfl, rfl, by rw [ht]; exact hP, va_K.moved hW.alike hK, hD⟩, hS.F ht⟩) hS.2.2 dMO_keyFault_35
set_option maxHeartbeats 4000000 in
set_option maxRecDepth 100000 in
theorem c_MO_keyFault_n (l : Launch) (dC : Nat → ClassId) (dI : Nat → Nat → Nat) (sz : Nat) (o xv xo xn xc xb xd xq xa xk xt xh xs xS xw xW xB xM xf xg xi : Nat) (th : Int32) (jf js : Int64) (jb : Int32) (nf ns : Int64) (nb : Int32) (x y : Int32) (hn : (bs_ii x 2 && bs_ii y 256) = false) : Met l yMO_keyFault wsMO_keyFault { frames := 1, cells := 0, slots := 0, locals := 24 } (va_Pc [.ref o, .int x, .int y] (fun U => U.heap.size = sz ∧ va_P (dC, dI) vwCl [(o, .inr (6, [.int th, .ref xv, .ref xo, .ref xn, .ref xc, .ref xb, .ref xd, .ref xq, .ref xa, .ref xk, .ref xt, .ref xh, .ref xs, .ref xS, .ref xw, .ref xW, .ref xB, .ref xM, .long jf, .long js, .int jb, .long nf, .long ns, .int nb, .ref xf, .ref xg, .ref xi]))] U.heap ∧ va_K (dC, dI) vwCl [] U ∧ va_D (fun _ => True) [(o, .inr (6, [.int th, .ref xv, .ref xo, .ref xn, .ref xc, .ref xb, .ref xd, .ref xq, .ref xa, .ref xk, .ref xt, .ref xh, .ref xs, .ref xS, .ref xw, .ref xW, .ref xB, .ref xM, .long jf, .long js, .int jb, .long nf, .long ns, .int nb, .ref xf, .ref xg, .ref xi]))])) (va_Qi (fun (r : Int32) (_ : Unit) => r = nI 1) (fun (_ : Unit) t => va_P (dC, dI) vwCl [(o, .inr (6, [.int th, .ref xv, .ref xo, .ref xn, .ref xc, .ref xb, .ref xd, .ref xq, .ref xa, .ref xk, .ref xt, .ref xh, .ref xs, .ref xS, .ref xw, .ref xW, .ref xB, .ref xM, .long jf, .long js, .int jb, .long nf, .long ns, .int nb, .ref xf, .ref xg, .ref xi]))] t.heap ∧ va_K (dC, dI) vwCl [] t ∧ va_D (va_A [(o, .inr (6, [.int th, .ref xv, .ref xo, .ref xn, .ref xc, .ref xb, .ref xd, .ref xq, .ref xa, .ref xk, .ref xt, .ref xh, .ref xs, .ref xS, .ref xw, .ref xW, .ref xB, .ref xM, .long jf, .long js, .int jb, .long nf, .long ns, .int nb, .ref xf, .ref xg, .ref xi]))] sz) [(o, .inr (6, [.int th, .ref xv, .ref xo, .ref xn, .ref xc, .ref xb, .ref xd, .ref xq, .ref xa, .ref xk, .ref xt, .ref xh, .ref xs, .ref xS, .ref xw, .ref xW, .ref xB, .ref xM, .long jf, .long js, .int jb, .long nf, .long ns, .int nb, .ref xf, .ref xg, .ref xi]))]) (va_A [(o, .inr (6, [.int th, .ref xv, .ref xo, .ref xn, .ref xc, .ref xb, .ref xd, .ref xq, .ref xa, .ref xk, .ref xt, .ref xh, .ref xs, .ref xS, .ref xw, .ref xW, .ref xB, .ref xM, .long jf, .long js, .int jb, .long nf, .long ns, .int nb, .ref xf, .ref xg, .ref xi]))] sz)) 0 0 (va_A [(o, .inr (6, [.int th, .ref xv, .ref xo, .ref xn, .ref xc, .ref xb, .ref xd, .ref xq, .ref xa, .ref xk, .ref xt, .ref xh, .ref xs, .ref xS, .ref xw, .ref xW, .ref xB, .ref xM, .long jf, .long js, .int jb, .long nf, .long ns, .int nb, .ref xf, .ref xg, .ref xi]))] sz) := by
  refine Met.ofW (cc := cMO_keyFault) (maxL := 3) (ret := (some .int)) (by decide) rfl ?_
  intro p e s m args below meth c s₁ Bo9 hml hv
  obtain ⟨rfl, hsz, hP, hK, hD0⟩ := hv
  have hx := Bo9.exec
  have hb := Bo9.bytes
  have hr := Bo9.returns
  have hts := fun w (h : w ∈ wT) => atoms_spec (ws := wsMO_keyFault) Bo9.pre w (List.mem_cons_of_mem _ h)
  have hown : s.vm.findClass RMO = some m.cls := findClass_of_methodNamed Bo9.named
  have hlocks := Bo9.notSynchronized
  subst hsz
  have hD := hD0.self (sz := s.heap.size)
  generalize hAe : va_A [(o, .inr (6, [.int th, .ref xv, .ref xo, .ref xn, .ref xc, .ref xb, .ref xd, .ref xq, .ref xa, .ref xk, .ref xt, .ref xh, .ref xs, .ref xS, .ref xw, .ref xW, .ref xB, .ref xM, .long jf, .long js, .int jb, .long nf, .long ns, .int nb, .ref xf, .ref xg, .ref xi]))] s.heap.size = A at hD ⊢
  have hA : ∀ q : Nat, s.heap.size ≤ q → A q := fun q h => by rw [← hAe]; exact Or.inr h
  have hl := lv_entry ([.ref o, .int x, .int y]) (n := 3) (Nat.le_of_ble_eq_true rfl)
  rw [lg_entry_eq]
  generalize (lg_sl ([.ref o, .int x, .int y]) ++ List.replicate (3 - (lg_sl ([.ref o, .int x, .int y])).length) Slot.unset).toArray = ls at hl ⊢
  have hl : lv_has ls 3 [(0, .ref o), (1, .int x), (2, .int y)] := hl
  refine xs_q (fun H Q hH hQ => ?_)
  have hS : va_S A s.heap H [] := by rw [hH]; exact va_S.rf
  have hP : va_P (dC, dI) vwCl [(o, .inr (6, [.int th, .ref xv, .ref xo, .ref xn, .ref xc, .ref xb, .ref xd, .ref xq, .ref xa, .ref xk, .ref xt, .ref xh, .ref xs, .ref xS, .ref xw, .ref xW, .ref xB, .ref xM, .long jf, .long js, .int jb, .long nf, .long ns, .int nb, .ref xf, .ref xg, .ref xi]))] H := by rw [hH]; exact hP
  refine lv_iload_n hx hb dMO_keyFault_0 rfl (lv_at hl 1 rfl) ?_
  refine lv_if_lt (tgt := 20) hx hb dMO_keyFault_1 (by decide) (fun h1 => ?_) (fun h1 => ?_)
  · refine lv_iconst (v := nI 1) hx hb dMO_keyFault_20 (by decide) ?_
    have hP : va_P (dC, dI) vwCl [(o, .inr (6, [.int th, .ref xv, .ref xo, .ref xn, .ref xc, .ref xb, .ref xd, .ref xq, .ref xa, .ref xk, .ref xt, .ref xh, .ref xs, .ref xS, .ref xw, .ref xW, .ref xB, .ref xM, .long jf, .long js, .int jb, .long nf, .long ns, .int nb, .ref xf, .ref xg, .ref xi]))] H := hP
    have hD : va_D A [(o, .inr (6, [.int th, .ref xv, .ref xo, .ref xn, .ref xc, .ref xb, .ref xd, .ref xq, .ref xa, .ref xk, .ref xt, .ref xh, .ref xs, .ref xS, .ref xw, .ref xW, .ref xB, .ref xM, .long jf, .long js, .int jb, .long nf, .long ns, .int nb, .ref xf, .ref xg, .ref xi]))] := hD
    subst hQ
    exact W.iret (v := nI 1) hx hb hr (fun t ht hW => ⟨⟨nI 1, (), rfl, rfl, by rw [ht]; exact hP, va_K.moved hW.alike hK, hD⟩, hS.F ht⟩) hS.2.2 dMO_keyFault_21
  · refine lv_iload_n hx hb dMO_keyFault_4 rfl (lv_at hl 1 rfl) ?_
    refine lv_iconst (v := nI 1) hx hb dMO_keyFault_5 (by decide) ?_
    refine lv_icmp_gt (tgt := 20) hx hb dMO_keyFault_6 (by decide) (fun h2 => ?_) (fun h2 => ?_)
    · refine lv_iconst (v := nI 1) hx hb dMO_keyFault_20 (by decide) ?_
      have hP : va_P (dC, dI) vwCl [(o, .inr (6, [.int th, .ref xv, .ref xo, .ref xn, .ref xc, .ref xb, .ref xd, .ref xq, .ref xa, .ref xk, .ref xt, .ref xh, .ref xs, .ref xS, .ref xw, .ref xW, .ref xB, .ref xM, .long jf, .long js, .int jb, .long nf, .long ns, .int nb, .ref xf, .ref xg, .ref xi]))] H := hP
      have hD : va_D A [(o, .inr (6, [.int th, .ref xv, .ref xo, .ref xn, .ref xc, .ref xb, .ref xd, .ref xq, .ref xa, .ref xk, .ref xt, .ref xh, .ref xs, .ref xS, .ref xw, .ref xW, .ref xB, .ref xM, .long jf, .long js, .int jb, .long nf, .long ns, .int nb, .ref xf, .ref xg, .ref xi]))] := hD
      subst hQ
      exact W.iret (v := nI 1) hx hb hr (fun t ht hW => ⟨⟨nI 1, (), rfl, rfl, by rw [ht]; exact hP, va_K.moved hW.alike hK, hD⟩, hS.F ht⟩) hS.2.2 dMO_keyFault_21
    · refine lv_iload_n hx hb dMO_keyFault_9 rfl (lv_at hl 2 rfl) ?_
      refine lv_if_lt (tgt := 20) hx hb dMO_keyFault_10 (by decide) (fun h3 => ?_) (fun h3 => ?_)
      · refine lv_iconst (v := nI 1) hx hb dMO_keyFault_20 (by decide) ?_
        have hP : va_P (dC, dI) vwCl [(o, .inr (6, [.int th, .ref xv, .ref xo, .ref xn, .ref xc, .ref xb, .ref xd, .ref xq, .ref xa, .ref xk, .ref xt, .ref xh, .ref xs, .ref xS, .ref xw, .ref xW, .ref xB, .ref xM, .long jf, .long js, .int jb, .long nf, .long ns, .int nb, .ref xf, .ref xg, .ref xi]))] H := hP
        have hD : va_D A [(o, .inr (6, [.int th, .ref xv, .ref xo, .ref xn, .ref xc, .ref xb, .ref xd, .ref xq, .ref xa, .ref xk, .ref xt, .ref xh, .ref xs, .ref xS, .ref xw, .ref xW, .ref xB, .ref xM, .long jf, .long js, .int jb, .long nf, .long ns, .int nb, .ref xf, .ref xg, .ref xi]))] := hD
        subst hQ
        exact W.iret (v := nI 1) hx hb hr (fun t ht hW => ⟨⟨nI 1, (), rfl, rfl, by rw [ht]; exact hP, va_K.moved hW.alike hK, hD⟩, hS.F ht⟩) hS.2.2 dMO_keyFault_21
      · refine lv_iload_n hx hb dMO_keyFault_13 rfl (lv_at hl 2 rfl) ?_
        refine lv_sipush (v := nI 256) hx hb dMO_keyFault_14 (by decide) ?_
        refine lv_icmp_lt (tgt := 22) hx hb dMO_keyFault_17 (by decide) (fun h4 => ?_) (fun h4 => ?_)
        · exact absurd hn (by rw [bs_ii_z (by decide) h1 h2, bs_ii_y (by decide) h3 (by rw [Int32.le_iff_toInt_le]; rw [Int32.lt_iff_toInt_lt] at h4; omega)]; decide)
        · refine lv_iconst (v := nI 1) hx hb dMO_keyFault_20 (by decide) ?_
          have hP : va_P (dC, dI) vwCl [(o, .inr (6, [.int th, .ref xv, .ref xo, .ref xn, .ref xc, .ref xb, .ref xd, .ref xq, .ref xa, .ref xk, .ref xt, .ref xh, .ref xs, .ref xS, .ref xw, .ref xW, .ref xB, .ref xM, .long jf, .long js, .int jb, .long nf, .long ns, .int nb, .ref xf, .ref xg, .ref xi]))] H := hP
          have hD : va_D A [(o, .inr (6, [.int th, .ref xv, .ref xo, .ref xn, .ref xc, .ref xb, .ref xd, .ref xq, .ref xa, .ref xk, .ref xt, .ref xh, .ref xs, .ref xS, .ref xw, .ref xW, .ref xB, .ref xM, .long jf, .long js, .int jb, .long nf, .long ns, .int nb, .ref xf, .ref xg, .ref xi]))] := hD
          subst hQ
          exact W.iret (v := nI 1) hx hb hr (fun t ht hW => ⟨⟨nI 1, (), rfl, rfl, by rw [ht]; exact hP, va_K.moved hW.alike hK, hD⟩, hS.F ht⟩) hS.2.2 dMO_keyFault_21
set_option maxHeartbeats 4000000 in
set_option maxRecDepth 100000 in
theorem c_MO_choice_y (l : Launch) (dC : Nat → ClassId) (dI : Nat → Nat → Nat) (sz : Nat) (o xv xo xn xc xb xd xq xa xk xt xh xs xS xw xW xB xM xf xg xi : Nat) (th : Int32) (jf js : Int64) (jb : Int32) (nf ns : Int64) (nb : Int32) (cI : ClassId) (K : Nat → Nat) (fk : Nat → Int32) (k i : Nat) (bl mv : Nat → Int32) (hk : k < 2) (hi : i < 256) (hKw : ∀ j, K j < 256) (hby : ∀ j, j < 320 → ∃ n, n < 256 ∧ fk j = nI n) (hg : bs_gd (bs_kf fk k) 8 = true) : Met l yMO_choice wsMO_choice { frames := 4, cells := 0, slots := 0, locals := 103 } (va_Pc [.ref o, .int (nI k), .int (nI i)] (fun U => U.heap.size = sz ∧ va_P (dC, dI) vwCl [(o, .inr (6, [.int th, .ref xv, .ref xo, .ref xn, .ref xc, .ref xb, .ref xd, .ref xq, .ref xa, .ref xk, .ref xt, .ref xh, .ref xs, .ref xS, .ref xw, .ref xW, .ref xB, .ref xM, .long jf, .long js, .int jb, .long nf, .long ns, .int nb, .ref xf, .ref xg, .ref xi])), (xk, .inl (cI, 320, .inl fk)), (xB, .inl (cI, 16, .inl bl)), (xM, .inl (cI, 16, .inl mv)), (xS, .inl (cI, 256, .inl (bs_fn bs_SB))), (xw, .inl (cI, 256, .inl (bs_fn bs_tX))), (xW, .inl (cI, 352, .inl (bs_fn K)))] U.heap ∧ va_K (dC, dI) vwCl [(cI, .int)] U ∧ va_D (fun _ => True) [(o, .inr (6, [.int th, .ref xv, .ref xo, .ref xn, .ref xc, .ref xb, .ref xd, .ref xq, .ref xa, .ref xk, .ref xt, .ref xh, .ref xs, .ref xS, .ref xw, .ref xW, .ref xB, .ref xM, .long jf, .long js, .int jb, .long nf, .long ns, .int nb, .ref xf, .ref xg, .ref xi])), (xk, .inl (cI, 320, .inl fk)), (xB, .inl (cI, 16, .inl bl)), (xM, .inl (cI, 16, .inl mv)), (xS, .inl (cI, 256, .inl (bs_fn bs_SB))), (xw, .inl (cI, 256, .inl (bs_fn bs_tX))), (xW, .inl (cI, 352, .inl (bs_fn K)))])) (va_Qi (fun (r : Int32) (u : (Int64) × (Int64) × (Int32) × (Nat → Int32) × (Nat → Int32)) => match u with | (jf2, js2, jb2, bl2, mv2) => r = bs_z (bs_w8 K fk k i).2.2 ∧ True) (fun (u : (Int64) × (Int64) × (Int32) × (Nat → Int32) × (Nat → Int32)) t => match u with | (jf2, js2, jb2, bl2, mv2) => va_P (dC, dI) vwCl [(o, .inr (6, [.int (nI 0), .ref xv, .ref xo, .ref xn, .ref xc, .ref xb, .ref xd, .ref xq, .ref xa, .ref xk, .ref xt, .ref xh, .ref xs, .ref xS, .ref xw, .ref xW, .ref xB, .ref xM, .long jf2, .long js2, .int jb2, .long ((bs_w8 K fk k i).1), .long ((bs_w8 K fk k i).2.1), .int (bs_z (bs_w8 K fk k i).2.2), .ref xf, .ref xg, .ref xi])), (xk, .inl (cI, 320, .inl fk)), (xB, .inl (cI, 16, .inl bl2)), (xM, .inl (cI, 16, .inl mv2)), (xS, .inl (cI, 256, .inl (bs_fn bs_SB))), (xw, .inl (cI, 256, .inl (bs_fn bs_tX))), (xW, .inl (cI, 352, .inl (bs_fn K)))] t.heap ∧ va_K (dC, dI) vwCl [(cI, .int)] t ∧ va_D (va_A [(o, .inr (6, [.int th, .ref xv, .ref xo, .ref xn, .ref xc, .ref xb, .ref xd, .ref xq, .ref xa, .ref xk, .ref xt, .ref xh, .ref xs, .ref xS, .ref xw, .ref xW, .ref xB, .ref xM, .long jf, .long js, .int jb, .long nf, .long ns, .int nb, .ref xf, .ref xg, .ref xi])), (xk, .inl (cI, 320, .inl fk)), (xB, .inl (cI, 16, .inl bl)), (xM, .inl (cI, 16, .inl mv)), (xS, .inl (cI, 256, .inl (bs_fn bs_SB))), (xw, .inl (cI, 256, .inl (bs_fn bs_tX))), (xW, .inl (cI, 352, .inl (bs_fn K)))] sz) [(o, .inr (6, [.int (nI 0), .ref xv, .ref xo, .ref xn, .ref xc, .ref xb, .ref xd, .ref xq, .ref xa, .ref xk, .ref xt, .ref xh, .ref xs, .ref xS, .ref xw, .ref xW, .ref xB, .ref xM, .long jf2, .long js2, .int jb2, .long ((bs_w8 K fk k i).1), .long ((bs_w8 K fk k i).2.1), .int (bs_z (bs_w8 K fk k i).2.2), .ref xf, .ref xg, .ref xi])), (xk, .inl (cI, 320, .inl fk)), (xB, .inl (cI, 16, .inl bl2)), (xM, .inl (cI, 16, .inl mv2)), (xS, .inl (cI, 256, .inl (bs_fn bs_SB))), (xw, .inl (cI, 256, .inl (bs_fn bs_tX))), (xW, .inl (cI, 352, .inl (bs_fn K)))]) (va_A [(o, .inr (6, [.int th, .ref xv, .ref xo, .ref xn, .ref xc, .ref xb, .ref xd, .ref xq, .ref xa, .ref xk, .ref xt, .ref xh, .ref xs, .ref xS, .ref xw, .ref xW, .ref xB, .ref xM, .long jf, .long js, .int jb, .long nf, .long ns, .int nb, .ref xf, .ref xg, .ref xi])), (xk, .inl (cI, 320, .inl fk)), (xB, .inl (cI, 16, .inl bl)), (xM, .inl (cI, 16, .inl mv)), (xS, .inl (cI, 256, .inl (bs_fn bs_SB))), (xw, .inl (cI, 256, .inl (bs_fn bs_tX))), (xW, .inl (cI, 352, .inl (bs_fn K)))] sz)) 0 0 (va_A [(o, .inr (6, [.int th, .ref xv, .ref xo, .ref xn, .ref xc, .ref xb, .ref xd, .ref xq, .ref xa, .ref xk, .ref xt, .ref xh, .ref xs, .ref xS, .ref xw, .ref xW, .ref xB, .ref xM, .long jf, .long js, .int jb, .long nf, .long ns, .int nb, .ref xf, .ref xg, .ref xi])), (xk, .inl (cI, 320, .inl fk)), (xB, .inl (cI, 16, .inl bl)), (xM, .inl (cI, 16, .inl mv)), (xS, .inl (cI, 256, .inl (bs_fn bs_SB))), (xw, .inl (cI, 256, .inl (bs_fn bs_tX))), (xW, .inl (cI, 352, .inl (bs_fn K)))] sz) := by
  refine Met.ofW (cc := cMO_choice) (maxL := 3) (ret := (some .boolean)) (by decide) rfl ?_
  intro p e s m args below meth c s₁ Bo9 hml hv
  obtain ⟨rfl, hsz, hP, hK, hD0⟩ := hv
  have hx := Bo9.exec
  have hb := Bo9.bytes
  have hr := Bo9.returns
  have hts := fun w (h : w ∈ wT) => atoms_spec (ws := wsMO_choice) Bo9.pre w (List.mem_cons_of_mem _ h)
  have hown : s.vm.findClass RMO = some m.cls := findClass_of_methodNamed Bo9.named
  have hlocks := Bo9.notSynchronized
  subst hsz
  have hD := hD0.self (sz := s.heap.size)
  generalize hAe : va_A [(o, .inr (6, [.int th, .ref xv, .ref xo, .ref xn, .ref xc, .ref xb, .ref xd, .ref xq, .ref xa, .ref xk, .ref xt, .ref xh, .ref xs, .ref xS, .ref xw, .ref xW, .ref xB, .ref xM, .long jf, .long js, .int jb, .long nf, .long ns, .int nb, .ref xf, .ref xg, .ref xi])), (xk, .inl (cI, 320, .inl fk)), (xB, .inl (cI, 16, .inl bl)), (xM, .inl (cI, 16, .inl mv)), (xS, .inl (cI, 256, .inl (bs_fn bs_SB))), (xw, .inl (cI, 256, .inl (bs_fn bs_tX))), (xW, .inl (cI, 352, .inl (bs_fn K)))] s.heap.size = A at hD ⊢
  have hA : ∀ q : Nat, s.heap.size ≤ q → A q := fun q h => by rw [← hAe]; exact Or.inr h
  have hl := lv_entry ([.ref o, .int (nI k), .int (nI i)]) (n := 3) (Nat.le_of_ble_eq_true rfl)
  rw [lg_entry_eq]
  generalize (lg_sl ([.ref o, .int (nI k), .int (nI i)]) ++ List.replicate (3 - (lg_sl ([.ref o, .int (nI k), .int (nI i)])).length) Slot.unset).toArray = ls at hl ⊢
  have hl : lv_has ls 3 [(0, .ref o), (1, .int (nI k)), (2, .int (nI i))] := hl
  refine xs_q (fun H Q hH hQ => ?_)
  have hS : va_S A s.heap H [] := by rw [hH]; exact va_S.rf
  have hP : va_P (dC, dI) vwCl [(o, .inr (6, [.int th, .ref xv, .ref xo, .ref xn, .ref xc, .ref xb, .ref xd, .ref xq, .ref xa, .ref xk, .ref xt, .ref xh, .ref xs, .ref xS, .ref xw, .ref xW, .ref xB, .ref xM, .long jf, .long js, .int jb, .long nf, .long ns, .int nb, .ref xf, .ref xg, .ref xi])), (xk, .inl (cI, 320, .inl fk)), (xB, .inl (cI, 16, .inl bl)), (xM, .inl (cI, 16, .inl mv)), (xS, .inl (cI, 256, .inl (bs_fn bs_SB))), (xw, .inl (cI, 256, .inl (bs_fn bs_tX))), (xW, .inl (cI, 352, .inl (bs_fn K)))] H := by rw [hH]; exact hP
  refine lv_aload_n hx hb dMO_choice_0 rfl (lv_at hl 0 rfl) ?_
  refine lv_aload_n hx hb dMO_choice_1 rfl (lv_at hl 0 rfl) ?_
  refine lv_iload_n hx hb dMO_choice_2 rfl (lv_at hl 1 rfl) ?_
  refine lv_iload_n hx hb dMO_choice_3 rfl (lv_at hl 2 rfl) ?_
  have hPc := hP.sub (ws' := [(o, .inr (6, [.int th, .ref xv, .ref xo, .ref xn, .ref xc, .ref xb, .ref xd, .ref xq, .ref xa, .ref xk, .ref xt, .ref xh, .ref xs, .ref xS, .ref xw, .ref xW, .ref xB, .ref xM, .long jf, .long js, .int jb, .long nf, .long ns, .int nb, .ref xf, .ref xg, .ref xi])), (xk, .inl (cI, 320, .inl fk))]) [0, 1] rfl
  have hDc := hD.sub (ws' := [(o, .inr (6, [.int th, .ref xv, .ref xo, .ref xn, .ref xc, .ref xb, .ref xd, .ref xq, .ref xa, .ref xk, .ref xt, .ref xh, .ref xs, .ref xS, .ref xw, .ref xW, .ref xB, .ref xM, .long jf, .long js, .int jb, .long nf, .long ns, .int nb, .ref xf, .ref xg, .ref xi])), (xk, .inl (cI, 320, .inl fk))]) [0, 1] (by decide) rfl
  have hKc := hK.sub (tys' := [(cI, .int)]) [0] rfl
  have hFc := va_free (wc := [(o, .inr (6, [.int th, .ref xv, .ref xo, .ref xn, .ref xc, .ref xb, .ref xd, .ref xq, .ref xa, .ref xk, .ref xt, .ref xh, .ref xs, .ref xS, .ref xw, .ref xW, .ref xB, .ref xM, .long jf, .long js, .int jb, .long nf, .long ns, .int nb, .ref xf, .ref xg, .ref xi])), (xk, .inl (cI, 320, .inl fk))]) hD hS hA [0, 1] rfl
  refine va_calli (va_runV (C := RMO) (As := [.int (nI k), .int (nI i)]) (rest := [.ref o]) ⟨hx, hb, hml, hown, hts⟩ (c_MO_keyFault_y l dC dI H.size o xv xo xn xc xb xd xq xa xk xt xh xs xS xw xW xB xM xf xg xi th jf js jb nf ns nb cI fk k i hk hi hby) (cwV (C := RMO) 2 hts (wT_4 w_m_MO_161 w_i_MO_keyFault w_s_MO_keyFault w_n_MO w_c_MO_keyFault) rfl rfl rfl (by decide +kernel) ⟨Nat.le_of_ble_eq_true rfl, Nat.le_of_ble_eq_true rfl⟩) ⟨fun a U g mk q => by obtain ⟨q0, q1, qP, qK, qD⟩ := q; exact ⟨q0, q1, qP, va_K.moved (u := U) (U := U.calling g mk a) (Vm.Alike.refl U.vm) qK, qD⟩, va_recv hK hP (q0 := 0) (ci := 6) (q := (RMO, TMO, 27)) rfl rfl, fun U hU hW => ⟨rfl, by rw [hU], by rw [hU]; exact hPc, va_K.moved hW.alike hKc, hDc.weaken (fun _ _ _ _ => trivial)⟩⟩ rfl rfl hl.1 rfl (lv_room (Nat.le_of_ble_eq_true rfl)) dMO_choice_4 ⟨Nat.zero_le _, Nat.zero_le _⟩) hS (fun q _ h => hFc q h) hFc (fun r u t H1 locs ht hvm hw hB hz1 hk1 hS => ?_)
  obtain ⟨hP1, hK1, hD1⟩ := hB
  rw [ht] at hP1
  have hK1 := va_K.moved hvm.symm hK1
  have hw : r = bs_flt (bs_gd (bs_kf fk k) 8) := hw
  subst hw
  obtain ⟨hP, hD⟩ := va_join (wr := [(xB, .inl (cI, 16, .inl bl)), (xM, .inl (cI, 16, .inl mv)), (xS, .inl (cI, 256, .inl (bs_fn bs_SB))), (xw, .inl (cI, 256, .inl (bs_fn bs_tX))), (xW, .inl (cI, 352, .inl (bs_fn K)))]) (w1 := [(o, .inr (6, [.int th, .ref xv, .ref xo, .ref xn, .ref xc, .ref xb, .ref xd, .ref xq, .ref xa, .ref xk, .ref xt, .ref xh, .ref xs, .ref xS, .ref xw, .ref xW, .ref xB, .ref xM, .long jf, .long js, .int jb, .long nf, .long ns, .int nb, .ref xf, .ref xg, .ref xi])), (xk, .inl (cI, 320, .inl fk))]) hP hD [0, 1] [2, 3, 4, 5, 6] rfl rfl (by decide) (by decide) hk1 hFc hP1 hD1
  generalize H1 = H at hP hS ⊢
  have hP : va_P (dC, dI) vwCl [(xB, .inl (cI, 16, .inl bl)), (xM, .inl (cI, 16, .inl mv)), (xS, .inl (cI, 256, .inl (bs_fn bs_SB))), (xw, .inl (cI, 256, .inl (bs_fn bs_tX))), (xW, .inl (cI, 352, .inl (bs_fn K))), (o, .inr (6, [.int th, .ref xv, .ref xo, .ref xn, .ref xc, .ref xb, .ref xd, .ref xq, .ref xa, .ref xk, .ref xt, .ref xh, .ref xs, .ref xS, .ref xw, .ref xW, .ref xB, .ref xM, .long jf, .long js, .int jb, .long nf, .long ns, .int nb, .ref xf, .ref xg, .ref xi])), (xk, .inl (cI, 320, .inl fk))] H := hP
  have hD : va_D A [(xB, .inl (cI, 16, .inl bl)), (xM, .inl (cI, 16, .inl mv)), (xS, .inl (cI, 256, .inl (bs_fn bs_SB))), (xw, .inl (cI, 256, .inl (bs_fn bs_tX))), (xW, .inl (cI, 352, .inl (bs_fn K))), (o, .inr (6, [.int th, .ref xv, .ref xo, .ref xn, .ref xc, .ref xb, .ref xd, .ref xq, .ref xa, .ref xk, .ref xt, .ref xh, .ref xs, .ref xS, .ref xw, .ref xW, .ref xB, .ref xM, .long jf, .long js, .int jb, .long nf, .long ns, .int nb, .ref xf, .ref xg, .ref xi])), (xk, .inl (cI, 320, .inl fk))] := hD
  refine xt_i (y := nI 0) (by rw [hg]; rfl) ?_
  refine va_put (D := (dC, dI)) (ci := 6) (v := .int (nI 0)) (ty := .int) (C := RMO) (T := TMO) (N := 27) hx hb hts in_MO tyMO tyMO_ok nmMO hown hK hP hD hS 5 rfl rfl 0 (by decide) (hts _ w_f_MO_87) (fun _ h9 => h9) rfl (by decide +kernel) (rfl) (rfl) (Nat.le_of_ble_eq_true rfl) dMO_choice_7 (fun H locs hP hD hS => ?_)
  have hP : va_P (dC, dI) vwCl [(xB, .inl (cI, 16, .inl bl)), (xM, .inl (cI, 16, .inl mv)), (xS, .inl (cI, 256, .inl (bs_fn bs_SB))), (xw, .inl (cI, 256, .inl (bs_fn bs_tX))), (xW, .inl (cI, 352, .inl (bs_fn K))), (o, .inr (6, [.int (nI 0), .ref xv, .ref xo, .ref xn, .ref xc, .ref xb, .ref xd, .ref xq, .ref xa, .ref xk, .ref xt, .ref xh, .ref xs, .ref xS, .ref xw, .ref xW, .ref xB, .ref xM, .long jf, .long js, .int jb, .long nf, .long ns, .int nb, .ref xf, .ref xg, .ref xi])), (xk, .inl (cI, 320, .inl fk))] H := hP
  have hD : va_D A [(xB, .inl (cI, 16, .inl bl)), (xM, .inl (cI, 16, .inl mv)), (xS, .inl (cI, 256, .inl (bs_fn bs_SB))), (xw, .inl (cI, 256, .inl (bs_fn bs_tX))), (xW, .inl (cI, 352, .inl (bs_fn K))), (o, .inr (6, [.int (nI 0), .ref xv, .ref xo, .ref xn, .ref xc, .ref xb, .ref xd, .ref xq, .ref xa, .ref xk, .ref xt, .ref xh, .ref xs, .ref xS, .ref xw, .ref xW, .ref xB, .ref xM, .long jf, .long js, .int jb, .long nf, .long ns, .int nb, .ref xf, .ref xg, .ref xi])), (xk, .inl (cI, 320, .inl fk))] := hD
  refine lv_aload_n hx hb dMO_choice_10 rfl (lv_at hl 0 rfl) ?_
  refine va_get (D := (dC, dI)) (ci := 6) (v := .int (nI 0)) (C := RMO) (T := TMO) (N := 27) hx hb hts in_MO hown hK hP 5 rfl rfl 0 (by decide) (hts _ w_f_MO_87) (fun _ h9 => h9) rfl dMO_choice_11 ?_
  refine lv_if_le (tgt := 19) hx hb dMO_choice_14 (by decide) (fun _ => ?_) (fun h => absurd (by decide +kernel) h)
  refine lv_aload_n hx hb dMO_choice_19 rfl (lv_at hl 0 rfl) ?_
  refine lv_iload_n hx hb dMO_choice_20 rfl (lv_at hl 1 rfl) ?_
  refine lv_iload_n hx hb dMO_choice_21 rfl (lv_at hl 2 rfl) ?_
  have hPc := hP.sub (ws' := [(o, .inr (6, [.int (nI 0), .ref xv, .ref xo, .ref xn, .ref xc, .ref xb, .ref xd, .ref xq, .ref xa, .ref xk, .ref xt, .ref xh, .ref xs, .ref xS, .ref xw, .ref xW, .ref xB, .ref xM, .long jf, .long js, .int jb, .long nf, .long ns, .int nb, .ref xf, .ref xg, .ref xi])), (xk, .inl (cI, 320, .inl fk)), (xB, .inl (cI, 16, .inl bl)), (xM, .inl (cI, 16, .inl mv)), (xS, .inl (cI, 256, .inl (bs_fn bs_SB))), (xw, .inl (cI, 256, .inl (bs_fn bs_tX))), (xW, .inl (cI, 352, .inl (bs_fn K)))]) [5, 6, 0, 1, 2, 3, 4] rfl
  have hDc := hD.sub (ws' := [(o, .inr (6, [.int (nI 0), .ref xv, .ref xo, .ref xn, .ref xc, .ref xb, .ref xd, .ref xq, .ref xa, .ref xk, .ref xt, .ref xh, .ref xs, .ref xS, .ref xw, .ref xW, .ref xB, .ref xM, .long jf, .long js, .int jb, .long nf, .long ns, .int nb, .ref xf, .ref xg, .ref xi])), (xk, .inl (cI, 320, .inl fk)), (xB, .inl (cI, 16, .inl bl)), (xM, .inl (cI, 16, .inl mv)), (xS, .inl (cI, 256, .inl (bs_fn bs_SB))), (xw, .inl (cI, 256, .inl (bs_fn bs_tX))), (xW, .inl (cI, 352, .inl (bs_fn K)))]) [5, 6, 0, 1, 2, 3, 4] (by decide) rfl
  have hKc := hK.sub (tys' := [(cI, .int)]) [0] rfl
  have hFc := va_free (wc := [(o, .inr (6, [.int (nI 0), .ref xv, .ref xo, .ref xn, .ref xc, .ref xb, .ref xd, .ref xq, .ref xa, .ref xk, .ref xt, .ref xh, .ref xs, .ref xS, .ref xw, .ref xW, .ref xB, .ref xM, .long jf, .long js, .int jb, .long nf, .long ns, .int nb, .ref xf, .ref xg, .ref xi])), (xk, .inl (cI, 320, .inl fk)), (xB, .inl (cI, 16, .inl bl)), (xM, .inl (cI, 16, .inl mv)), (xS, .inl (cI, 256, .inl (bs_fn bs_SB))), (xw, .inl (cI, 256, .inl (bs_fn bs_tX))), (xW, .inl (cI, 352, .inl (bs_fn K)))]) hD hS hA [5, 6, 0, 1, 2, 3, 4] rfl
  refine va_callv (va_runV (C := RMO) (As := [.int (nI k), .int (nI i)]) (rest := []) ⟨hx, hb, hml, hown, hts⟩ (c_MO_walk l dC dI H.size o xv xo xn xc xb xd xq xa xk xt xh xs xS xw xW xB xM xf xg xi (nI 0) jf js jb nf ns nb cI K fk k i bl mv hk hi hKw) (cwV (C := RMO) 2 hts (wT_4 w_m_MO_139 w_i_MO_walk w_s_MO_walk w_n_MO w_c_MO_walk) rfl rfl rfl (by decide +kernel) ⟨Nat.le_of_ble_eq_true rfl, Nat.le_of_ble_eq_true rfl⟩) ⟨fun a U g mk q => by obtain ⟨q0, q1, qP, qK, qD⟩ := q; exact ⟨q0, q1, qP, va_K.moved (u := U) (U := U.calling g mk a) (Vm.Alike.refl U.vm) qK, qD⟩, va_recv hK hP (q0 := 5) (ci := 6) (q := (RMO, TMO, 27)) rfl rfl, fun U hU hW => ⟨rfl, by rw [hU], by rw [hU]; exact hPc, va_K.moved hW.alike hKc, hDc.weaken (fun _ _ _ _ => trivial)⟩⟩ rfl rfl hl.1 rfl (lv_room (Nat.le_of_ble_eq_true rfl)) dMO_choice_22 ⟨Nat.zero_le _, Nat.zero_le _⟩) hS (fun q _ h => hFc q h) hFc (fun u t H1 locs ht hvm hw hB hz1 hk1 hS => ?_)
  obtain ⟨jf2, js2, jb2, bl2, mv2⟩ := u
  obtain ⟨hP1, hK1, hD1⟩ := hB
  rw [ht] at hP1
  have hK1 := va_K.moved hvm.symm hK1
  have hw9 : True := hw
  obtain ⟨hP, hD⟩ := va_join (wr := []) (w1 := [(o, .inr (6, [.int (nI 0), .ref xv, .ref xo, .ref xn, .ref xc, .ref xb, .ref xd, .ref xq, .ref xa, .ref xk, .ref xt, .ref xh, .ref xs, .ref xS, .ref xw, .ref xW, .ref xB, .ref xM, .long jf2, .long js2, .int jb2, .long ((bs_w8 K fk k i).1), .long ((bs_w8 K fk k i).2.1), .int (bs_z (bs_w8 K fk k i).2.2), .ref xf, .ref xg, .ref xi])), (xk, .inl (cI, 320, .inl fk)), (xB, .inl (cI, 16, .inl bl2)), (xM, .inl (cI, 16, .inl mv2)), (xS, .inl (cI, 256, .inl (bs_fn bs_SB))), (xw, .inl (cI, 256, .inl (bs_fn bs_tX))), (xW, .inl (cI, 352, .inl (bs_fn K)))]) hP hD [5, 6, 0, 1, 2, 3, 4] [] rfl rfl (by decide) (by decide) hk1 hFc hP1 hD1
  generalize H1 = H at hP hS ⊢
  have hP : va_P (dC, dI) vwCl [(o, .inr (6, [.int (nI 0), .ref xv, .ref xo, .ref xn, .ref xc, .ref xb, .ref xd, .ref xq, .ref xa, .ref xk, .ref xt, .ref xh, .ref xs, .ref xS, .ref xw, .ref xW, .ref xB, .ref xM, .long jf2, .long js2, .int jb2, .long ((bs_w8 K fk k i).1), .long ((bs_w8 K fk k i).2.1), .int (bs_z (bs_w8 K fk k i).2.2), .ref xf, .ref xg, .ref xi])), (xk, .inl (cI, 320, .inl fk)), (xB, .inl (cI, 16, .inl bl2)), (xM, .inl (cI, 16, .inl mv2)), (xS, .inl (cI, 256, .inl (bs_fn bs_SB))), (xw, .inl (cI, 256, .inl (bs_fn bs_tX))), (xW, .inl (cI, 352, .inl (bs_fn K)))] H := hP
  have hD : va_D A [(o, .inr (6, [.int (nI 0), .ref xv, .ref xo, .ref xn, .ref xc, .ref xb, .ref xd, .ref xq, .ref xa, .ref xk, .ref xt, .ref xh, .ref xs, .ref xS, .ref xw, .ref xW, .ref xB, .ref xM, .long jf2, .long js2, .int jb2, .long ((bs_w8 K fk k i).1), .long ((bs_w8 K fk k i).2.1), .int (bs_z (bs_w8 K fk k i).2.2), .ref xf, .ref xg, .ref xi])), (xk, .inl (cI, 320, .inl fk)), (xB, .inl (cI, 16, .inl bl2)), (xM, .inl (cI, 16, .inl mv2)), (xS, .inl (cI, 256, .inl (bs_fn bs_SB))), (xw, .inl (cI, 256, .inl (bs_fn bs_tX))), (xW, .inl (cI, 352, .inl (bs_fn K)))] := hD
  refine lv_aload_n hx hb dMO_choice_25 rfl (lv_at hl 0 rfl) ?_
  refine va_get (D := (dC, dI)) (ci := 6) (v := .int (bs_z (bs_w8 K fk k i).2.2)) (C := RMO) (T := TMO) (N := 27) hx hb hts in_MO hown hK hP 0 rfl rfl 23 (by decide) (hts _ w_f_MO_132) (fun _ h9 => h9) rfl dMO_choice_26 ?_
  subst hQ
  exact W.zret (v := bs_z (bs_w8 K fk k i).2.2) hx hb hr (bs_z_n _) (fun t ht hW => ⟨⟨bs_z (bs_w8 K fk k i).2.2, (jf2, js2, jb2, bl2, mv2), rfl, ⟨rfl, trivial⟩, by rw [ht]; exact hP, va_K.moved hW.alike hK, hD⟩, hS.F ht⟩) hS.2.2 dMO_choice_29
set_option maxHeartbeats 4000000 in
set_option maxRecDepth 100000 in
theorem c_MO_choice_b (l : Launch) (dC : Nat → ClassId) (dI : Nat → Nat → Nat) (sz : Nat) (o xv xo xn xc xb xd xq xa xk xt xh xs xS xw xW xB xM xf xg xi : Nat) (th : Int32) (jf js : Int64) (jb : Int32) (nf ns : Int64) (nb : Int32) (cI : ClassId) (fk : Nat → Int32) (k i : Nat) (hk : k < 2) (hi : i < 256) (hby : ∀ j, j < 320 → ∃ n, n < 256 ∧ fk j = nI n) (hg : bs_gd (bs_kf fk k) 8 = false) : Met l yMO_choice wsMO_choice { frames := 4, cells := 0, slots := 0, locals := 103 } (va_Pc [.ref o, .int (nI k), .int (nI i)] (fun U => U.heap.size = sz ∧ va_P (dC, dI) vwCl [(o, .inr (6, [.int th, .ref xv, .ref xo, .ref xn, .ref xc, .ref xb, .ref xd, .ref xq, .ref xa, .ref xk, .ref xt, .ref xh, .ref xs, .ref xS, .ref xw, .ref xW, .ref xB, .ref xM, .long jf, .long js, .int jb, .long nf, .long ns, .int nb, .ref xf, .ref xg, .ref xi])), (xk, .inl (cI, 320, .inl fk))] U.heap ∧ va_K (dC, dI) vwCl [(cI, .int)] U ∧ va_D (fun _ => True) [(o, .inr (6, [.int th, .ref xv, .ref xo, .ref xn, .ref xc, .ref xb, .ref xd, .ref xq, .ref xa, .ref xk, .ref xt, .ref xh, .ref xs, .ref xS, .ref xw, .ref xW, .ref xB, .ref xM, .long jf, .long js, .int jb, .long nf, .long ns, .int nb, .ref xf, .ref xg, .ref xi])), (xk, .inl (cI, 320, .inl fk))])) (va_Qi (fun (r : Int32) (_ : Unit) => r = nI 0) (fun (_ : Unit) t => va_P (dC, dI) vwCl [(o, .inr (6, [.int (nI 2), .ref xv, .ref xo, .ref xn, .ref xc, .ref xb, .ref xd, .ref xq, .ref xa, .ref xk, .ref xt, .ref xh, .ref xs, .ref xS, .ref xw, .ref xW, .ref xB, .ref xM, .long jf, .long js, .int jb, .long nf, .long ns, .int nb, .ref xf, .ref xg, .ref xi])), (xk, .inl (cI, 320, .inl fk))] t.heap ∧ va_K (dC, dI) vwCl [(cI, .int)] t ∧ va_D (va_A [(o, .inr (6, [.int th, .ref xv, .ref xo, .ref xn, .ref xc, .ref xb, .ref xd, .ref xq, .ref xa, .ref xk, .ref xt, .ref xh, .ref xs, .ref xS, .ref xw, .ref xW, .ref xB, .ref xM, .long jf, .long js, .int jb, .long nf, .long ns, .int nb, .ref xf, .ref xg, .ref xi])), (xk, .inl (cI, 320, .inl fk))] sz) [(o, .inr (6, [.int (nI 2), .ref xv, .ref xo, .ref xn, .ref xc, .ref xb, .ref xd, .ref xq, .ref xa, .ref xk, .ref xt, .ref xh, .ref xs, .ref xS, .ref xw, .ref xW, .ref xB, .ref xM, .long jf, .long js, .int jb, .long nf, .long ns, .int nb, .ref xf, .ref xg, .ref xi])), (xk, .inl (cI, 320, .inl fk))]) (va_A [(o, .inr (6, [.int th, .ref xv, .ref xo, .ref xn, .ref xc, .ref xb, .ref xd, .ref xq, .ref xa, .ref xk, .ref xt, .ref xh, .ref xs, .ref xS, .ref xw, .ref xW, .ref xB, .ref xM, .long jf, .long js, .int jb, .long nf, .long ns, .int nb, .ref xf, .ref xg, .ref xi])), (xk, .inl (cI, 320, .inl fk))] sz)) 0 0 (va_A [(o, .inr (6, [.int th, .ref xv, .ref xo, .ref xn, .ref xc, .ref xb, .ref xd, .ref xq, .ref xa, .ref xk, .ref xt, .ref xh, .ref xs, .ref xS, .ref xw, .ref xW, .ref xB, .ref xM, .long jf, .long js, .int jb, .long nf, .long ns, .int nb, .ref xf, .ref xg, .ref xi])), (xk, .inl (cI, 320, .inl fk))] sz) := by
  refine Met.ofW (cc := cMO_choice) (maxL := 3) (ret := (some .boolean)) (by decide) rfl ?_
  intro p e s m args below meth c s₁ Bo9 hml hv
  obtain ⟨rfl, hsz, hP, hK, hD0⟩ := hv
  have hx := Bo9.exec
  have hb := Bo9.bytes
  have hr := Bo9.returns
  have hts := fun w (h : w ∈ wT) => atoms_spec (ws := wsMO_choice) Bo9.pre w (List.mem_cons_of_mem _ h)
  have hown : s.vm.findClass RMO = some m.cls := findClass_of_methodNamed Bo9.named
  have hlocks := Bo9.notSynchronized
  subst hsz
  have hD := hD0.self (sz := s.heap.size)
  generalize hAe : va_A [(o, .inr (6, [.int th, .ref xv, .ref xo, .ref xn, .ref xc, .ref xb, .ref xd, .ref xq, .ref xa, .ref xk, .ref xt, .ref xh, .ref xs, .ref xS, .ref xw, .ref xW, .ref xB, .ref xM, .long jf, .long js, .int jb, .long nf, .long ns, .int nb, .ref xf, .ref xg, .ref xi])), (xk, .inl (cI, 320, .inl fk))] s.heap.size = A at hD ⊢
  have hA : ∀ q : Nat, s.heap.size ≤ q → A q := fun q h => by rw [← hAe]; exact Or.inr h
  have hl := lv_entry ([.ref o, .int (nI k), .int (nI i)]) (n := 3) (Nat.le_of_ble_eq_true rfl)
  rw [lg_entry_eq]
  generalize (lg_sl ([.ref o, .int (nI k), .int (nI i)]) ++ List.replicate (3 - (lg_sl ([.ref o, .int (nI k), .int (nI i)])).length) Slot.unset).toArray = ls at hl ⊢
  have hl : lv_has ls 3 [(0, .ref o), (1, .int (nI k)), (2, .int (nI i))] := hl
  refine xs_q (fun H Q hH hQ => ?_)
  have hS : va_S A s.heap H [] := by rw [hH]; exact va_S.rf
  have hP : va_P (dC, dI) vwCl [(o, .inr (6, [.int th, .ref xv, .ref xo, .ref xn, .ref xc, .ref xb, .ref xd, .ref xq, .ref xa, .ref xk, .ref xt, .ref xh, .ref xs, .ref xS, .ref xw, .ref xW, .ref xB, .ref xM, .long jf, .long js, .int jb, .long nf, .long ns, .int nb, .ref xf, .ref xg, .ref xi])), (xk, .inl (cI, 320, .inl fk))] H := by rw [hH]; exact hP
  refine lv_aload_n hx hb dMO_choice_0 rfl (lv_at hl 0 rfl) ?_
  refine lv_aload_n hx hb dMO_choice_1 rfl (lv_at hl 0 rfl) ?_
  refine lv_iload_n hx hb dMO_choice_2 rfl (lv_at hl 1 rfl) ?_
  refine lv_iload_n hx hb dMO_choice_3 rfl (lv_at hl 2 rfl) ?_
  have hPc := hP.sub (ws' := [(o, .inr (6, [.int th, .ref xv, .ref xo, .ref xn, .ref xc, .ref xb, .ref xd, .ref xq, .ref xa, .ref xk, .ref xt, .ref xh, .ref xs, .ref xS, .ref xw, .ref xW, .ref xB, .ref xM, .long jf, .long js, .int jb, .long nf, .long ns, .int nb, .ref xf, .ref xg, .ref xi])), (xk, .inl (cI, 320, .inl fk))]) [0, 1] rfl
  have hDc := hD.sub (ws' := [(o, .inr (6, [.int th, .ref xv, .ref xo, .ref xn, .ref xc, .ref xb, .ref xd, .ref xq, .ref xa, .ref xk, .ref xt, .ref xh, .ref xs, .ref xS, .ref xw, .ref xW, .ref xB, .ref xM, .long jf, .long js, .int jb, .long nf, .long ns, .int nb, .ref xf, .ref xg, .ref xi])), (xk, .inl (cI, 320, .inl fk))]) [0, 1] (by decide) rfl
  have hKc := hK.sub (tys' := [(cI, .int)]) [0] rfl
  have hFc := va_free (wc := [(o, .inr (6, [.int th, .ref xv, .ref xo, .ref xn, .ref xc, .ref xb, .ref xd, .ref xq, .ref xa, .ref xk, .ref xt, .ref xh, .ref xs, .ref xS, .ref xw, .ref xW, .ref xB, .ref xM, .long jf, .long js, .int jb, .long nf, .long ns, .int nb, .ref xf, .ref xg, .ref xi])), (xk, .inl (cI, 320, .inl fk))]) hD hS hA [0, 1] rfl
  refine va_calli (va_runV (C := RMO) (As := [.int (nI k), .int (nI i)]) (rest := [.ref o]) ⟨hx, hb, hml, hown, hts⟩ (c_MO_keyFault_y l dC dI H.size o xv xo xn xc xb xd xq xa xk xt xh xs xS xw xW xB xM xf xg xi th jf js jb nf ns nb cI fk k i hk hi hby) (cwV (C := RMO) 2 hts (wT_4 w_m_MO_161 w_i_MO_keyFault w_s_MO_keyFault w_n_MO w_c_MO_keyFault) rfl rfl rfl (by decide +kernel) ⟨Nat.le_of_ble_eq_true rfl, Nat.le_of_ble_eq_true rfl⟩) ⟨fun a U g mk q => by obtain ⟨q0, q1, qP, qK, qD⟩ := q; exact ⟨q0, q1, qP, va_K.moved (u := U) (U := U.calling g mk a) (Vm.Alike.refl U.vm) qK, qD⟩, va_recv hK hP (q0 := 0) (ci := 6) (q := (RMO, TMO, 27)) rfl rfl, fun U hU hW => ⟨rfl, by rw [hU], by rw [hU]; exact hPc, va_K.moved hW.alike hKc, hDc.weaken (fun _ _ _ _ => trivial)⟩⟩ rfl rfl hl.1 rfl (lv_room (Nat.le_of_ble_eq_true rfl)) dMO_choice_4 ⟨Nat.zero_le _, Nat.zero_le _⟩) hS (fun q _ h => hFc q h) hFc (fun r u t H1 locs ht hvm hw hB hz1 hk1 hS => ?_)
  obtain ⟨hP1, hK1, hD1⟩ := hB
  rw [ht] at hP1
  have hK1 := va_K.moved hvm.symm hK1
  have hw : r = bs_flt (bs_gd (bs_kf fk k) 8) := hw
  subst hw
  obtain ⟨hP, hD⟩ := va_join (wr := []) (w1 := [(o, .inr (6, [.int th, .ref xv, .ref xo, .ref xn, .ref xc, .ref xb, .ref xd, .ref xq, .ref xa, .ref xk, .ref xt, .ref xh, .ref xs, .ref xS, .ref xw, .ref xW, .ref xB, .ref xM, .long jf, .long js, .int jb, .long nf, .long ns, .int nb, .ref xf, .ref xg, .ref xi])), (xk, .inl (cI, 320, .inl fk))]) hP hD [0, 1] [] rfl rfl (by decide) (by decide) hk1 hFc hP1 hD1
  generalize H1 = H at hP hS ⊢
  have hP : va_P (dC, dI) vwCl [(o, .inr (6, [.int th, .ref xv, .ref xo, .ref xn, .ref xc, .ref xb, .ref xd, .ref xq, .ref xa, .ref xk, .ref xt, .ref xh, .ref xs, .ref xS, .ref xw, .ref xW, .ref xB, .ref xM, .long jf, .long js, .int jb, .long nf, .long ns, .int nb, .ref xf, .ref xg, .ref xi])), (xk, .inl (cI, 320, .inl fk))] H := hP
  have hD : va_D A [(o, .inr (6, [.int th, .ref xv, .ref xo, .ref xn, .ref xc, .ref xb, .ref xd, .ref xq, .ref xa, .ref xk, .ref xt, .ref xh, .ref xs, .ref xS, .ref xw, .ref xW, .ref xB, .ref xM, .long jf, .long js, .int jb, .long nf, .long ns, .int nb, .ref xf, .ref xg, .ref xi])), (xk, .inl (cI, 320, .inl fk))] := hD
  refine xt_i (y := nI 2) (by rw [hg]; rfl) ?_
  refine va_put (D := (dC, dI)) (ci := 6) (v := .int (nI 2)) (ty := .int) (C := RMO) (T := TMO) (N := 27) hx hb hts in_MO tyMO tyMO_ok nmMO hown hK hP hD hS 0 rfl rfl 0 (by decide) (hts _ w_f_MO_87) (fun _ h9 => h9) rfl (by decide +kernel) (rfl) (rfl) (Nat.le_of_ble_eq_true rfl) dMO_choice_7 (fun H locs hP hD hS => ?_)
  have hP : va_P (dC, dI) vwCl [(o, .inr (6, [.int (nI 2), .ref xv, .ref xo, .ref xn, .ref xc, .ref xb, .ref xd, .ref xq, .ref xa, .ref xk, .ref xt, .ref xh, .ref xs, .ref xS, .ref xw, .ref xW, .ref xB, .ref xM, .long jf, .long js, .int jb, .long nf, .long ns, .int nb, .ref xf, .ref xg, .ref xi])), (xk, .inl (cI, 320, .inl fk))] H := hP
  have hD : va_D A [(o, .inr (6, [.int (nI 2), .ref xv, .ref xo, .ref xn, .ref xc, .ref xb, .ref xd, .ref xq, .ref xa, .ref xk, .ref xt, .ref xh, .ref xs, .ref xS, .ref xw, .ref xW, .ref xB, .ref xM, .long jf, .long js, .int jb, .long nf, .long ns, .int nb, .ref xf, .ref xg, .ref xi])), (xk, .inl (cI, 320, .inl fk))] := hD
  refine lv_aload_n hx hb dMO_choice_10 rfl (lv_at hl 0 rfl) ?_
  refine va_get (D := (dC, dI)) (ci := 6) (v := .int (nI 2)) (C := RMO) (T := TMO) (N := 27) hx hb hts in_MO hown hK hP 0 rfl rfl 0 (by decide) (hts _ w_f_MO_87) (fun _ h9 => h9) rfl dMO_choice_11 ?_
  refine lv_if_le (tgt := 19) hx hb dMO_choice_14 (by decide) (fun h => absurd h (by decide +kernel)) (fun _ => ?_)
  refine lv_iconst (v := nI 0) hx hb dMO_choice_17 (by decide) ?_
  have hP : va_P (dC, dI) vwCl [(o, .inr (6, [.int (nI 2), .ref xv, .ref xo, .ref xn, .ref xc, .ref xb, .ref xd, .ref xq, .ref xa, .ref xk, .ref xt, .ref xh, .ref xs, .ref xS, .ref xw, .ref xW, .ref xB, .ref xM, .long jf, .long js, .int jb, .long nf, .long ns, .int nb, .ref xf, .ref xg, .ref xi])), (xk, .inl (cI, 320, .inl fk))] H := hP
  have hD : va_D A [(o, .inr (6, [.int (nI 2), .ref xv, .ref xo, .ref xn, .ref xc, .ref xb, .ref xd, .ref xq, .ref xa, .ref xk, .ref xt, .ref xh, .ref xs, .ref xS, .ref xw, .ref xW, .ref xB, .ref xM, .long jf, .long js, .int jb, .long nf, .long ns, .int nb, .ref xf, .ref xg, .ref xi])), (xk, .inl (cI, 320, .inl fk))] := hD
  subst hQ
  exact W.zret (v := nI 0) hx hb hr (by first | rfl | decide | exact xz_n (by assumption)) (fun t ht hW => ⟨⟨nI 0, (), rfl, rfl, by rw [ht]; exact hP, va_K.moved hW.alike hK, hD⟩, hS.F ht⟩) hS.2.2 dMO_choice_18
set_option maxHeartbeats 4000000 in
set_option maxRecDepth 100000 in
theorem c_MO_choice_n (l : Launch) (dC : Nat → ClassId) (dI : Nat → Nat → Nat) (sz : Nat) (o xv xo xn xc xb xd xq xa xk xt xh xs xS xw xW xB xM xf xg xi : Nat) (th : Int32) (jf js : Int64) (jb : Int32) (nf ns : Int64) (nb : Int32) (x y : Int32) (hn : (bs_ii x 2 && bs_ii y 256) = false) : Met l yMO_choice wsMO_choice { frames := 4, cells := 0, slots := 0, locals := 103 } (va_Pc [.ref o, .int x, .int y] (fun U => U.heap.size = sz ∧ va_P (dC, dI) vwCl [(o, .inr (6, [.int th, .ref xv, .ref xo, .ref xn, .ref xc, .ref xb, .ref xd, .ref xq, .ref xa, .ref xk, .ref xt, .ref xh, .ref xs, .ref xS, .ref xw, .ref xW, .ref xB, .ref xM, .long jf, .long js, .int jb, .long nf, .long ns, .int nb, .ref xf, .ref xg, .ref xi]))] U.heap ∧ va_K (dC, dI) vwCl [] U ∧ va_D (fun _ => True) [(o, .inr (6, [.int th, .ref xv, .ref xo, .ref xn, .ref xc, .ref xb, .ref xd, .ref xq, .ref xa, .ref xk, .ref xt, .ref xh, .ref xs, .ref xS, .ref xw, .ref xW, .ref xB, .ref xM, .long jf, .long js, .int jb, .long nf, .long ns, .int nb, .ref xf, .ref xg, .ref xi]))])) (va_Qi (fun (r : Int32) (_ : Unit) => r = nI 0) (fun (_ : Unit) t => va_P (dC, dI) vwCl [(o, .inr (6, [.int (nI 1), .ref xv, .ref xo, .ref xn, .ref xc, .ref xb, .ref xd, .ref xq, .ref xa, .ref xk, .ref xt, .ref xh, .ref xs, .ref xS, .ref xw, .ref xW, .ref xB, .ref xM, .long jf, .long js, .int jb, .long nf, .long ns, .int nb, .ref xf, .ref xg, .ref xi]))] t.heap ∧ va_K (dC, dI) vwCl [] t ∧ va_D (va_A [(o, .inr (6, [.int th, .ref xv, .ref xo, .ref xn, .ref xc, .ref xb, .ref xd, .ref xq, .ref xa, .ref xk, .ref xt, .ref xh, .ref xs, .ref xS, .ref xw, .ref xW, .ref xB, .ref xM, .long jf, .long js, .int jb, .long nf, .long ns, .int nb, .ref xf, .ref xg, .ref xi]))] sz) [(o, .inr (6, [.int (nI 1), .ref xv, .ref xo, .ref xn, .ref xc, .ref xb, .ref xd, .ref xq, .ref xa, .ref xk, .ref xt, .ref xh, .ref xs, .ref xS, .ref xw, .ref xW, .ref xB, .ref xM, .long jf, .long js, .int jb, .long nf, .long ns, .int nb, .ref xf, .ref xg, .ref xi]))]) (va_A [(o, .inr (6, [.int th, .ref xv, .ref xo, .ref xn, .ref xc, .ref xb, .ref xd, .ref xq, .ref xa, .ref xk, .ref xt, .ref xh, .ref xs, .ref xS, .ref xw, .ref xW, .ref xB, .ref xM, .long jf, .long js, .int jb, .long nf, .long ns, .int nb, .ref xf, .ref xg, .ref xi]))] sz)) 0 0 (va_A [(o, .inr (6, [.int th, .ref xv, .ref xo, .ref xn, .ref xc, .ref xb, .ref xd, .ref xq, .ref xa, .ref xk, .ref xt, .ref xh, .ref xs, .ref xS, .ref xw, .ref xW, .ref xB, .ref xM, .long jf, .long js, .int jb, .long nf, .long ns, .int nb, .ref xf, .ref xg, .ref xi]))] sz) := by
  refine Met.ofW (cc := cMO_choice) (maxL := 3) (ret := (some .boolean)) (by decide) rfl ?_
  intro p e s m args below meth c s₁ Bo9 hml hv
  obtain ⟨rfl, hsz, hP, hK, hD0⟩ := hv
  have hx := Bo9.exec
  have hb := Bo9.bytes
  have hr := Bo9.returns
  have hts := fun w (h : w ∈ wT) => atoms_spec (ws := wsMO_choice) Bo9.pre w (List.mem_cons_of_mem _ h)
  have hown : s.vm.findClass RMO = some m.cls := findClass_of_methodNamed Bo9.named
  have hlocks := Bo9.notSynchronized
  subst hsz
  have hD := hD0.self (sz := s.heap.size)
  generalize hAe : va_A [(o, .inr (6, [.int th, .ref xv, .ref xo, .ref xn, .ref xc, .ref xb, .ref xd, .ref xq, .ref xa, .ref xk, .ref xt, .ref xh, .ref xs, .ref xS, .ref xw, .ref xW, .ref xB, .ref xM, .long jf, .long js, .int jb, .long nf, .long ns, .int nb, .ref xf, .ref xg, .ref xi]))] s.heap.size = A at hD ⊢
  have hA : ∀ q : Nat, s.heap.size ≤ q → A q := fun q h => by rw [← hAe]; exact Or.inr h
  have hl := lv_entry ([.ref o, .int x, .int y]) (n := 3) (Nat.le_of_ble_eq_true rfl)
  rw [lg_entry_eq]
  generalize (lg_sl ([.ref o, .int x, .int y]) ++ List.replicate (3 - (lg_sl ([.ref o, .int x, .int y])).length) Slot.unset).toArray = ls at hl ⊢
  have hl : lv_has ls 3 [(0, .ref o), (1, .int x), (2, .int y)] := hl
  refine xs_q (fun H Q hH hQ => ?_)
  have hS : va_S A s.heap H [] := by rw [hH]; exact va_S.rf
  have hP : va_P (dC, dI) vwCl [(o, .inr (6, [.int th, .ref xv, .ref xo, .ref xn, .ref xc, .ref xb, .ref xd, .ref xq, .ref xa, .ref xk, .ref xt, .ref xh, .ref xs, .ref xS, .ref xw, .ref xW, .ref xB, .ref xM, .long jf, .long js, .int jb, .long nf, .long ns, .int nb, .ref xf, .ref xg, .ref xi]))] H := by rw [hH]; exact hP
  refine lv_aload_n hx hb dMO_choice_0 rfl (lv_at hl 0 rfl) ?_
  refine lv_aload_n hx hb dMO_choice_1 rfl (lv_at hl 0 rfl) ?_
  refine lv_iload_n hx hb dMO_choice_2 rfl (lv_at hl 1 rfl) ?_
  refine lv_iload_n hx hb dMO_choice_3 rfl (lv_at hl 2 rfl) ?_
  have hPc := hP.sub (ws' := [(o, .inr (6, [.int th, .ref xv, .ref xo, .ref xn, .ref xc, .ref xb, .ref xd, .ref xq, .ref xa, .ref xk, .ref xt, .ref xh, .ref xs, .ref xS, .ref xw, .ref xW, .ref xB, .ref xM, .long jf, .long js, .int jb, .long nf, .long ns, .int nb, .ref xf, .ref xg, .ref xi]))]) [0] rfl
  have hDc := hD.sub (ws' := [(o, .inr (6, [.int th, .ref xv, .ref xo, .ref xn, .ref xc, .ref xb, .ref xd, .ref xq, .ref xa, .ref xk, .ref xt, .ref xh, .ref xs, .ref xS, .ref xw, .ref xW, .ref xB, .ref xM, .long jf, .long js, .int jb, .long nf, .long ns, .int nb, .ref xf, .ref xg, .ref xi]))]) [0] (by decide) rfl
  have hKc := hK.sub (tys' := []) [] rfl
  have hFc := va_free (wc := [(o, .inr (6, [.int th, .ref xv, .ref xo, .ref xn, .ref xc, .ref xb, .ref xd, .ref xq, .ref xa, .ref xk, .ref xt, .ref xh, .ref xs, .ref xS, .ref xw, .ref xW, .ref xB, .ref xM, .long jf, .long js, .int jb, .long nf, .long ns, .int nb, .ref xf, .ref xg, .ref xi]))]) hD hS hA [0] rfl
  refine va_calli (va_runV (C := RMO) (As := [.int x, .int y]) (rest := [.ref o]) ⟨hx, hb, hml, hown, hts⟩ (c_MO_keyFault_n l dC dI H.size o xv xo xn xc xb xd xq xa xk xt xh xs xS xw xW xB xM xf xg xi th jf js jb nf ns nb x y hn) (cwV (C := RMO) 2 hts (wT_4 w_m_MO_161 w_i_MO_keyFault w_s_MO_keyFault w_n_MO w_c_MO_keyFault) rfl rfl rfl (by decide +kernel) ⟨Nat.le_of_ble_eq_true rfl, Nat.le_of_ble_eq_true rfl⟩) ⟨fun a U g mk q => by obtain ⟨q0, q1, qP, qK, qD⟩ := q; exact ⟨q0, q1, qP, va_K.moved (u := U) (U := U.calling g mk a) (Vm.Alike.refl U.vm) qK, qD⟩, va_recv hK hP (q0 := 0) (ci := 6) (q := (RMO, TMO, 27)) rfl rfl, fun U hU hW => ⟨rfl, by rw [hU], by rw [hU]; exact hPc, va_K.moved hW.alike hKc, hDc.weaken (fun _ _ _ _ => trivial)⟩⟩ rfl rfl hl.1 rfl (lv_room (Nat.le_of_ble_eq_true rfl)) dMO_choice_4 ⟨Nat.zero_le _, Nat.zero_le _⟩) hS (fun q _ h => hFc q h) hFc (fun r u t H1 locs ht hvm hw hB hz1 hk1 hS => ?_)
  obtain ⟨hP1, hK1, hD1⟩ := hB
  rw [ht] at hP1
  have hK1 := va_K.moved hvm.symm hK1
  have hw : r = nI 1 := hw
  subst hw
  obtain ⟨hP, hD⟩ := va_join (wr := []) (w1 := [(o, .inr (6, [.int th, .ref xv, .ref xo, .ref xn, .ref xc, .ref xb, .ref xd, .ref xq, .ref xa, .ref xk, .ref xt, .ref xh, .ref xs, .ref xS, .ref xw, .ref xW, .ref xB, .ref xM, .long jf, .long js, .int jb, .long nf, .long ns, .int nb, .ref xf, .ref xg, .ref xi]))]) hP hD [0] [] rfl rfl (by decide) (by decide) hk1 hFc hP1 hD1
  generalize H1 = H at hP hS ⊢
  have hP : va_P (dC, dI) vwCl [(o, .inr (6, [.int th, .ref xv, .ref xo, .ref xn, .ref xc, .ref xb, .ref xd, .ref xq, .ref xa, .ref xk, .ref xt, .ref xh, .ref xs, .ref xS, .ref xw, .ref xW, .ref xB, .ref xM, .long jf, .long js, .int jb, .long nf, .long ns, .int nb, .ref xf, .ref xg, .ref xi]))] H := hP
  have hD : va_D A [(o, .inr (6, [.int th, .ref xv, .ref xo, .ref xn, .ref xc, .ref xb, .ref xd, .ref xq, .ref xa, .ref xk, .ref xt, .ref xh, .ref xs, .ref xS, .ref xw, .ref xW, .ref xB, .ref xM, .long jf, .long js, .int jb, .long nf, .long ns, .int nb, .ref xf, .ref xg, .ref xi]))] := hD
  refine va_put (D := (dC, dI)) (ci := 6) (v := .int (nI 1)) (ty := .int) (C := RMO) (T := TMO) (N := 27) hx hb hts in_MO tyMO tyMO_ok nmMO hown hK hP hD hS 0 rfl rfl 0 (by decide) (hts _ w_f_MO_87) (fun _ h9 => h9) rfl (by decide +kernel) (rfl) (rfl) (Nat.le_of_ble_eq_true rfl) dMO_choice_7 (fun H locs hP hD hS => ?_)
  have hP : va_P (dC, dI) vwCl [(o, .inr (6, [.int (nI 1), .ref xv, .ref xo, .ref xn, .ref xc, .ref xb, .ref xd, .ref xq, .ref xa, .ref xk, .ref xt, .ref xh, .ref xs, .ref xS, .ref xw, .ref xW, .ref xB, .ref xM, .long jf, .long js, .int jb, .long nf, .long ns, .int nb, .ref xf, .ref xg, .ref xi]))] H := hP
  have hD : va_D A [(o, .inr (6, [.int (nI 1), .ref xv, .ref xo, .ref xn, .ref xc, .ref xb, .ref xd, .ref xq, .ref xa, .ref xk, .ref xt, .ref xh, .ref xs, .ref xS, .ref xw, .ref xW, .ref xB, .ref xM, .long jf, .long js, .int jb, .long nf, .long ns, .int nb, .ref xf, .ref xg, .ref xi]))] := hD
  refine lv_aload_n hx hb dMO_choice_10 rfl (lv_at hl 0 rfl) ?_
  refine va_get (D := (dC, dI)) (ci := 6) (v := .int (nI 1)) (C := RMO) (T := TMO) (N := 27) hx hb hts in_MO hown hK hP 0 rfl rfl 0 (by decide) (hts _ w_f_MO_87) (fun _ h9 => h9) rfl dMO_choice_11 ?_
  refine lv_if_le (tgt := 19) hx hb dMO_choice_14 (by decide) (fun h => absurd h (by decide +kernel)) (fun _ => ?_)
  refine lv_iconst (v := nI 0) hx hb dMO_choice_17 (by decide) ?_
  have hP : va_P (dC, dI) vwCl [(o, .inr (6, [.int (nI 1), .ref xv, .ref xo, .ref xn, .ref xc, .ref xb, .ref xd, .ref xq, .ref xa, .ref xk, .ref xt, .ref xh, .ref xs, .ref xS, .ref xw, .ref xW, .ref xB, .ref xM, .long jf, .long js, .int jb, .long nf, .long ns, .int nb, .ref xf, .ref xg, .ref xi]))] H := hP
  have hD : va_D A [(o, .inr (6, [.int (nI 1), .ref xv, .ref xo, .ref xn, .ref xc, .ref xb, .ref xd, .ref xq, .ref xa, .ref xk, .ref xt, .ref xh, .ref xs, .ref xS, .ref xw, .ref xW, .ref xB, .ref xM, .long jf, .long js, .int jb, .long nf, .long ns, .int nb, .ref xf, .ref xg, .ref xi]))] := hD
  subst hQ
  exact W.zret (v := nI 0) hx hb hr (by first | rfl | decide | exact xz_n (by assumption)) (fun t ht hW => ⟨⟨nI 0, (), rfl, rfl, by rw [ht]; exact hP, va_K.moved hW.alike hK, hD⟩, hS.F ht⟩) hS.2.2 dMO_choice_18
set_option maxHeartbeats 4000000 in
set_option maxRecDepth 100000 in
theorem c_MO_share_y (l : Launch) (dC : Nat → ClassId) (dI : Nat → Nat → Nat) (sz : Nat) (o xv xo xn xc xb xd xq xa xk xt xh xs xS xw xW xB xM xf xg xi : Nat) (th : Int32) (jf js : Int64) (jb : Int32) (nf ns : Int64) (nb : Int32) (cI : ClassId) (K : Nat → Nat) (fk : Nat → Int32) (k i : Nat) (bl mv : Nat → Int32) (hk : k < 2) (hi : i < 256) (hKw : ∀ j, K j < 256) (hby : ∀ j, j < 320 → ∃ n, n < 256 ∧ fk j = nI n) (hg : bs_gd (bs_kf fk k) 8 = true) : Met l yMO_share wsMO_share { frames := 4, cells := 0, slots := 0, locals := 103 } (va_Pc [.ref o, .int (nI k), .int (nI i)] (fun U => U.heap.size = sz ∧ va_P (dC, dI) vwCl [(o, .inr (6, [.int th, .ref xv, .ref xo, .ref xn, .ref xc, .ref xb, .ref xd, .ref xq, .ref xa, .ref xk, .ref xt, .ref xh, .ref xs, .ref xS, .ref xw, .ref xW, .ref xB, .ref xM, .long jf, .long js, .int jb, .long nf, .long ns, .int nb, .ref xf, .ref xg, .ref xi])), (xk, .inl (cI, 320, .inl fk)), (xB, .inl (cI, 16, .inl bl)), (xM, .inl (cI, 16, .inl mv)), (xS, .inl (cI, 256, .inl (bs_fn bs_SB))), (xw, .inl (cI, 256, .inl (bs_fn bs_tX))), (xW, .inl (cI, 352, .inl (bs_fn K)))] U.heap ∧ va_K (dC, dI) vwCl [(cI, .int)] U ∧ va_D (fun _ => True) [(o, .inr (6, [.int th, .ref xv, .ref xo, .ref xn, .ref xc, .ref xb, .ref xd, .ref xq, .ref xa, .ref xk, .ref xt, .ref xh, .ref xs, .ref xS, .ref xw, .ref xW, .ref xB, .ref xM, .long jf, .long js, .int jb, .long nf, .long ns, .int nb, .ref xf, .ref xg, .ref xi])), (xk, .inl (cI, 320, .inl fk)), (xB, .inl (cI, 16, .inl bl)), (xM, .inl (cI, 16, .inl mv)), (xS, .inl (cI, 256, .inl (bs_fn bs_SB))), (xw, .inl (cI, 256, .inl (bs_fn bs_tX))), (xW, .inl (cI, 352, .inl (bs_fn K)))])) (va_Ql (fun (r : Int64) (u : (Int64) × (Int64) × (Int32) × (Nat → Int32) × (Nat → Int32)) => match u with | (jf2, js2, jb2, bl2, mv2) => r = bs_shm K fk k i ∧ True) (fun (u : (Int64) × (Int64) × (Int32) × (Nat → Int32) × (Nat → Int32)) t => match u with | (jf2, js2, jb2, bl2, mv2) => va_P (dC, dI) vwCl [(o, .inr (6, [.int (nI 0), .ref xv, .ref xo, .ref xn, .ref xc, .ref xb, .ref xd, .ref xq, .ref xa, .ref xk, .ref xt, .ref xh, .ref xs, .ref xS, .ref xw, .ref xW, .ref xB, .ref xM, .long jf2, .long js2, .int jb2, .long ((bs_w8 K fk k i).1), .long ((bs_w8 K fk k i).2.1), .int (bs_z (bs_w8 K fk k i).2.2), .ref xf, .ref xg, .ref xi])), (xk, .inl (cI, 320, .inl fk)), (xB, .inl (cI, 16, .inl bl2)), (xM, .inl (cI, 16, .inl mv2)), (xS, .inl (cI, 256, .inl (bs_fn bs_SB))), (xw, .inl (cI, 256, .inl (bs_fn bs_tX))), (xW, .inl (cI, 352, .inl (bs_fn K)))] t.heap ∧ va_K (dC, dI) vwCl [(cI, .int)] t ∧ va_D (va_A [(o, .inr (6, [.int th, .ref xv, .ref xo, .ref xn, .ref xc, .ref xb, .ref xd, .ref xq, .ref xa, .ref xk, .ref xt, .ref xh, .ref xs, .ref xS, .ref xw, .ref xW, .ref xB, .ref xM, .long jf, .long js, .int jb, .long nf, .long ns, .int nb, .ref xf, .ref xg, .ref xi])), (xk, .inl (cI, 320, .inl fk)), (xB, .inl (cI, 16, .inl bl)), (xM, .inl (cI, 16, .inl mv)), (xS, .inl (cI, 256, .inl (bs_fn bs_SB))), (xw, .inl (cI, 256, .inl (bs_fn bs_tX))), (xW, .inl (cI, 352, .inl (bs_fn K)))] sz) [(o, .inr (6, [.int (nI 0), .ref xv, .ref xo, .ref xn, .ref xc, .ref xb, .ref xd, .ref xq, .ref xa, .ref xk, .ref xt, .ref xh, .ref xs, .ref xS, .ref xw, .ref xW, .ref xB, .ref xM, .long jf2, .long js2, .int jb2, .long ((bs_w8 K fk k i).1), .long ((bs_w8 K fk k i).2.1), .int (bs_z (bs_w8 K fk k i).2.2), .ref xf, .ref xg, .ref xi])), (xk, .inl (cI, 320, .inl fk)), (xB, .inl (cI, 16, .inl bl2)), (xM, .inl (cI, 16, .inl mv2)), (xS, .inl (cI, 256, .inl (bs_fn bs_SB))), (xw, .inl (cI, 256, .inl (bs_fn bs_tX))), (xW, .inl (cI, 352, .inl (bs_fn K)))]) (va_A [(o, .inr (6, [.int th, .ref xv, .ref xo, .ref xn, .ref xc, .ref xb, .ref xd, .ref xq, .ref xa, .ref xk, .ref xt, .ref xh, .ref xs, .ref xS, .ref xw, .ref xW, .ref xB, .ref xM, .long jf, .long js, .int jb, .long nf, .long ns, .int nb, .ref xf, .ref xg, .ref xi])), (xk, .inl (cI, 320, .inl fk)), (xB, .inl (cI, 16, .inl bl)), (xM, .inl (cI, 16, .inl mv)), (xS, .inl (cI, 256, .inl (bs_fn bs_SB))), (xw, .inl (cI, 256, .inl (bs_fn bs_tX))), (xW, .inl (cI, 352, .inl (bs_fn K)))] sz)) 0 0 (va_A [(o, .inr (6, [.int th, .ref xv, .ref xo, .ref xn, .ref xc, .ref xb, .ref xd, .ref xq, .ref xa, .ref xk, .ref xt, .ref xh, .ref xs, .ref xS, .ref xw, .ref xW, .ref xB, .ref xM, .long jf, .long js, .int jb, .long nf, .long ns, .int nb, .ref xf, .ref xg, .ref xi])), (xk, .inl (cI, 320, .inl fk)), (xB, .inl (cI, 16, .inl bl)), (xM, .inl (cI, 16, .inl mv)), (xS, .inl (cI, 256, .inl (bs_fn bs_SB))), (xw, .inl (cI, 256, .inl (bs_fn bs_tX))), (xW, .inl (cI, 352, .inl (bs_fn K)))] sz) := by
  refine Met.ofW (cc := cMO_share) (maxL := 3) (ret := (some .long)) (by decide) rfl ?_
  intro p e s m args below meth c s₁ Bo9 hml hv
  obtain ⟨rfl, hsz, hP, hK, hD0⟩ := hv
  have hx := Bo9.exec
  have hb := Bo9.bytes
  have hr := Bo9.returns
  have hts := fun w (h : w ∈ wT) => atoms_spec (ws := wsMO_share) Bo9.pre w (List.mem_cons_of_mem _ h)
  have hown : s.vm.findClass RMO = some m.cls := findClass_of_methodNamed Bo9.named
  have hlocks := Bo9.notSynchronized
  subst hsz
  have hD := hD0.self (sz := s.heap.size)
  generalize hAe : va_A [(o, .inr (6, [.int th, .ref xv, .ref xo, .ref xn, .ref xc, .ref xb, .ref xd, .ref xq, .ref xa, .ref xk, .ref xt, .ref xh, .ref xs, .ref xS, .ref xw, .ref xW, .ref xB, .ref xM, .long jf, .long js, .int jb, .long nf, .long ns, .int nb, .ref xf, .ref xg, .ref xi])), (xk, .inl (cI, 320, .inl fk)), (xB, .inl (cI, 16, .inl bl)), (xM, .inl (cI, 16, .inl mv)), (xS, .inl (cI, 256, .inl (bs_fn bs_SB))), (xw, .inl (cI, 256, .inl (bs_fn bs_tX))), (xW, .inl (cI, 352, .inl (bs_fn K)))] s.heap.size = A at hD ⊢
  have hA : ∀ q : Nat, s.heap.size ≤ q → A q := fun q h => by rw [← hAe]; exact Or.inr h
  have hl := lv_entry ([.ref o, .int (nI k), .int (nI i)]) (n := 3) (Nat.le_of_ble_eq_true rfl)
  rw [lg_entry_eq]
  generalize (lg_sl ([.ref o, .int (nI k), .int (nI i)]) ++ List.replicate (3 - (lg_sl ([.ref o, .int (nI k), .int (nI i)])).length) Slot.unset).toArray = ls at hl ⊢
  have hl : lv_has ls 3 [(0, .ref o), (1, .int (nI k)), (2, .int (nI i))] := hl
  refine xs_q (fun H Q hH hQ => ?_)
  have hS : va_S A s.heap H [] := by rw [hH]; exact va_S.rf
  have hP : va_P (dC, dI) vwCl [(o, .inr (6, [.int th, .ref xv, .ref xo, .ref xn, .ref xc, .ref xb, .ref xd, .ref xq, .ref xa, .ref xk, .ref xt, .ref xh, .ref xs, .ref xS, .ref xw, .ref xW, .ref xB, .ref xM, .long jf, .long js, .int jb, .long nf, .long ns, .int nb, .ref xf, .ref xg, .ref xi])), (xk, .inl (cI, 320, .inl fk)), (xB, .inl (cI, 16, .inl bl)), (xM, .inl (cI, 16, .inl mv)), (xS, .inl (cI, 256, .inl (bs_fn bs_SB))), (xw, .inl (cI, 256, .inl (bs_fn bs_tX))), (xW, .inl (cI, 352, .inl (bs_fn K)))] H := by rw [hH]; exact hP
  refine lv_aload_n hx hb dMO_share_0 rfl (lv_at hl 0 rfl) ?_
  refine lv_aload_n hx hb dMO_share_1 rfl (lv_at hl 0 rfl) ?_
  refine lv_iload_n hx hb dMO_share_2 rfl (lv_at hl 1 rfl) ?_
  refine lv_iload_n hx hb dMO_share_3 rfl (lv_at hl 2 rfl) ?_
  have hPc := hP.sub (ws' := [(o, .inr (6, [.int th, .ref xv, .ref xo, .ref xn, .ref xc, .ref xb, .ref xd, .ref xq, .ref xa, .ref xk, .ref xt, .ref xh, .ref xs, .ref xS, .ref xw, .ref xW, .ref xB, .ref xM, .long jf, .long js, .int jb, .long nf, .long ns, .int nb, .ref xf, .ref xg, .ref xi])), (xk, .inl (cI, 320, .inl fk))]) [0, 1] rfl
  have hDc := hD.sub (ws' := [(o, .inr (6, [.int th, .ref xv, .ref xo, .ref xn, .ref xc, .ref xb, .ref xd, .ref xq, .ref xa, .ref xk, .ref xt, .ref xh, .ref xs, .ref xS, .ref xw, .ref xW, .ref xB, .ref xM, .long jf, .long js, .int jb, .long nf, .long ns, .int nb, .ref xf, .ref xg, .ref xi])), (xk, .inl (cI, 320, .inl fk))]) [0, 1] (by decide) rfl
  have hKc := hK.sub (tys' := [(cI, .int)]) [0] rfl
  have hFc := va_free (wc := [(o, .inr (6, [.int th, .ref xv, .ref xo, .ref xn, .ref xc, .ref xb, .ref xd, .ref xq, .ref xa, .ref xk, .ref xt, .ref xh, .ref xs, .ref xS, .ref xw, .ref xW, .ref xB, .ref xM, .long jf, .long js, .int jb, .long nf, .long ns, .int nb, .ref xf, .ref xg, .ref xi])), (xk, .inl (cI, 320, .inl fk))]) hD hS hA [0, 1] rfl
  refine va_calli (va_runV (C := RMO) (As := [.int (nI k), .int (nI i)]) (rest := [.ref o]) ⟨hx, hb, hml, hown, hts⟩ (c_MO_keyFault_y l dC dI H.size o xv xo xn xc xb xd xq xa xk xt xh xs xS xw xW xB xM xf xg xi th jf js jb nf ns nb cI fk k i hk hi hby) (cwV (C := RMO) 2 hts (wT_4 w_m_MO_161 w_i_MO_keyFault w_s_MO_keyFault w_n_MO w_c_MO_keyFault) rfl rfl rfl (by decide +kernel) ⟨Nat.le_of_ble_eq_true rfl, Nat.le_of_ble_eq_true rfl⟩) ⟨fun a U g mk q => by obtain ⟨q0, q1, qP, qK, qD⟩ := q; exact ⟨q0, q1, qP, va_K.moved (u := U) (U := U.calling g mk a) (Vm.Alike.refl U.vm) qK, qD⟩, va_recv hK hP (q0 := 0) (ci := 6) (q := (RMO, TMO, 27)) rfl rfl, fun U hU hW => ⟨rfl, by rw [hU], by rw [hU]; exact hPc, va_K.moved hW.alike hKc, hDc.weaken (fun _ _ _ _ => trivial)⟩⟩ rfl rfl hl.1 rfl (lv_room (Nat.le_of_ble_eq_true rfl)) dMO_share_4 ⟨Nat.zero_le _, Nat.zero_le _⟩) hS (fun q _ h => hFc q h) hFc (fun r u t H1 locs ht hvm hw hB hz1 hk1 hS => ?_)
  obtain ⟨hP1, hK1, hD1⟩ := hB
  rw [ht] at hP1
  have hK1 := va_K.moved hvm.symm hK1
  have hw : r = bs_flt (bs_gd (bs_kf fk k) 8) := hw
  subst hw
  obtain ⟨hP, hD⟩ := va_join (wr := [(xB, .inl (cI, 16, .inl bl)), (xM, .inl (cI, 16, .inl mv)), (xS, .inl (cI, 256, .inl (bs_fn bs_SB))), (xw, .inl (cI, 256, .inl (bs_fn bs_tX))), (xW, .inl (cI, 352, .inl (bs_fn K)))]) (w1 := [(o, .inr (6, [.int th, .ref xv, .ref xo, .ref xn, .ref xc, .ref xb, .ref xd, .ref xq, .ref xa, .ref xk, .ref xt, .ref xh, .ref xs, .ref xS, .ref xw, .ref xW, .ref xB, .ref xM, .long jf, .long js, .int jb, .long nf, .long ns, .int nb, .ref xf, .ref xg, .ref xi])), (xk, .inl (cI, 320, .inl fk))]) hP hD [0, 1] [2, 3, 4, 5, 6] rfl rfl (by decide) (by decide) hk1 hFc hP1 hD1
  generalize H1 = H at hP hS ⊢
  have hP : va_P (dC, dI) vwCl [(xB, .inl (cI, 16, .inl bl)), (xM, .inl (cI, 16, .inl mv)), (xS, .inl (cI, 256, .inl (bs_fn bs_SB))), (xw, .inl (cI, 256, .inl (bs_fn bs_tX))), (xW, .inl (cI, 352, .inl (bs_fn K))), (o, .inr (6, [.int th, .ref xv, .ref xo, .ref xn, .ref xc, .ref xb, .ref xd, .ref xq, .ref xa, .ref xk, .ref xt, .ref xh, .ref xs, .ref xS, .ref xw, .ref xW, .ref xB, .ref xM, .long jf, .long js, .int jb, .long nf, .long ns, .int nb, .ref xf, .ref xg, .ref xi])), (xk, .inl (cI, 320, .inl fk))] H := hP
  have hD : va_D A [(xB, .inl (cI, 16, .inl bl)), (xM, .inl (cI, 16, .inl mv)), (xS, .inl (cI, 256, .inl (bs_fn bs_SB))), (xw, .inl (cI, 256, .inl (bs_fn bs_tX))), (xW, .inl (cI, 352, .inl (bs_fn K))), (o, .inr (6, [.int th, .ref xv, .ref xo, .ref xn, .ref xc, .ref xb, .ref xd, .ref xq, .ref xa, .ref xk, .ref xt, .ref xh, .ref xs, .ref xS, .ref xw, .ref xW, .ref xB, .ref xM, .long jf, .long js, .int jb, .long nf, .long ns, .int nb, .ref xf, .ref xg, .ref xi])), (xk, .inl (cI, 320, .inl fk))] := hD
  refine xt_i (y := nI 0) (by rw [hg]; rfl) ?_
  refine va_put (D := (dC, dI)) (ci := 6) (v := .int (nI 0)) (ty := .int) (C := RMO) (T := TMO) (N := 27) hx hb hts in_MO tyMO tyMO_ok nmMO hown hK hP hD hS 5 rfl rfl 0 (by decide) (hts _ w_f_MO_87) (fun _ h9 => h9) rfl (by decide +kernel) (rfl) (rfl) (Nat.le_of_ble_eq_true rfl) dMO_share_7 (fun H locs hP hD hS => ?_)
  have hP : va_P (dC, dI) vwCl [(xB, .inl (cI, 16, .inl bl)), (xM, .inl (cI, 16, .inl mv)), (xS, .inl (cI, 256, .inl (bs_fn bs_SB))), (xw, .inl (cI, 256, .inl (bs_fn bs_tX))), (xW, .inl (cI, 352, .inl (bs_fn K))), (o, .inr (6, [.int (nI 0), .ref xv, .ref xo, .ref xn, .ref xc, .ref xb, .ref xd, .ref xq, .ref xa, .ref xk, .ref xt, .ref xh, .ref xs, .ref xS, .ref xw, .ref xW, .ref xB, .ref xM, .long jf, .long js, .int jb, .long nf, .long ns, .int nb, .ref xf, .ref xg, .ref xi])), (xk, .inl (cI, 320, .inl fk))] H := hP
  have hD : va_D A [(xB, .inl (cI, 16, .inl bl)), (xM, .inl (cI, 16, .inl mv)), (xS, .inl (cI, 256, .inl (bs_fn bs_SB))), (xw, .inl (cI, 256, .inl (bs_fn bs_tX))), (xW, .inl (cI, 352, .inl (bs_fn K))), (o, .inr (6, [.int (nI 0), .ref xv, .ref xo, .ref xn, .ref xc, .ref xb, .ref xd, .ref xq, .ref xa, .ref xk, .ref xt, .ref xh, .ref xs, .ref xS, .ref xw, .ref xW, .ref xB, .ref xM, .long jf, .long js, .int jb, .long nf, .long ns, .int nb, .ref xf, .ref xg, .ref xi])), (xk, .inl (cI, 320, .inl fk))] := hD
  refine lv_aload_n hx hb dMO_share_10 rfl (lv_at hl 0 rfl) ?_
  refine va_get (D := (dC, dI)) (ci := 6) (v := .int (nI 0)) (C := RMO) (T := TMO) (N := 27) hx hb hts in_MO hown hK hP 5 rfl rfl 0 (by decide) (hts _ w_f_MO_87) (fun _ h9 => h9) rfl dMO_share_11 ?_
  refine lv_if_le (tgt := 19) hx hb dMO_share_14 (by decide) (fun _ => ?_) (fun h => absurd (by decide +kernel) h)
  refine lv_aload_n hx hb dMO_share_19 rfl (lv_at hl 0 rfl) ?_
  refine lv_iload_n hx hb dMO_share_20 rfl (lv_at hl 1 rfl) ?_
  refine lv_iload_n hx hb dMO_share_21 rfl (lv_at hl 2 rfl) ?_
  have hPc := hP.sub (ws' := [(o, .inr (6, [.int (nI 0), .ref xv, .ref xo, .ref xn, .ref xc, .ref xb, .ref xd, .ref xq, .ref xa, .ref xk, .ref xt, .ref xh, .ref xs, .ref xS, .ref xw, .ref xW, .ref xB, .ref xM, .long jf, .long js, .int jb, .long nf, .long ns, .int nb, .ref xf, .ref xg, .ref xi])), (xk, .inl (cI, 320, .inl fk)), (xB, .inl (cI, 16, .inl bl)), (xM, .inl (cI, 16, .inl mv)), (xS, .inl (cI, 256, .inl (bs_fn bs_SB))), (xw, .inl (cI, 256, .inl (bs_fn bs_tX))), (xW, .inl (cI, 352, .inl (bs_fn K)))]) [5, 6, 0, 1, 2, 3, 4] rfl
  have hDc := hD.sub (ws' := [(o, .inr (6, [.int (nI 0), .ref xv, .ref xo, .ref xn, .ref xc, .ref xb, .ref xd, .ref xq, .ref xa, .ref xk, .ref xt, .ref xh, .ref xs, .ref xS, .ref xw, .ref xW, .ref xB, .ref xM, .long jf, .long js, .int jb, .long nf, .long ns, .int nb, .ref xf, .ref xg, .ref xi])), (xk, .inl (cI, 320, .inl fk)), (xB, .inl (cI, 16, .inl bl)), (xM, .inl (cI, 16, .inl mv)), (xS, .inl (cI, 256, .inl (bs_fn bs_SB))), (xw, .inl (cI, 256, .inl (bs_fn bs_tX))), (xW, .inl (cI, 352, .inl (bs_fn K)))]) [5, 6, 0, 1, 2, 3, 4] (by decide) rfl
  have hKc := hK.sub (tys' := [(cI, .int)]) [0] rfl
  have hFc := va_free (wc := [(o, .inr (6, [.int (nI 0), .ref xv, .ref xo, .ref xn, .ref xc, .ref xb, .ref xd, .ref xq, .ref xa, .ref xk, .ref xt, .ref xh, .ref xs, .ref xS, .ref xw, .ref xW, .ref xB, .ref xM, .long jf, .long js, .int jb, .long nf, .long ns, .int nb, .ref xf, .ref xg, .ref xi])), (xk, .inl (cI, 320, .inl fk)), (xB, .inl (cI, 16, .inl bl)), (xM, .inl (cI, 16, .inl mv)), (xS, .inl (cI, 256, .inl (bs_fn bs_SB))), (xw, .inl (cI, 256, .inl (bs_fn bs_tX))), (xW, .inl (cI, 352, .inl (bs_fn K)))]) hD hS hA [5, 6, 0, 1, 2, 3, 4] rfl
  refine va_callv (va_runV (C := RMO) (As := [.int (nI k), .int (nI i)]) (rest := []) ⟨hx, hb, hml, hown, hts⟩ (c_MO_walk l dC dI H.size o xv xo xn xc xb xd xq xa xk xt xh xs xS xw xW xB xM xf xg xi (nI 0) jf js jb nf ns nb cI K fk k i bl mv hk hi hKw) (cwV (C := RMO) 2 hts (wT_4 w_m_MO_139 w_i_MO_walk w_s_MO_walk w_n_MO w_c_MO_walk) rfl rfl rfl (by decide +kernel) ⟨Nat.le_of_ble_eq_true rfl, Nat.le_of_ble_eq_true rfl⟩) ⟨fun a U g mk q => by obtain ⟨q0, q1, qP, qK, qD⟩ := q; exact ⟨q0, q1, qP, va_K.moved (u := U) (U := U.calling g mk a) (Vm.Alike.refl U.vm) qK, qD⟩, va_recv hK hP (q0 := 5) (ci := 6) (q := (RMO, TMO, 27)) rfl rfl, fun U hU hW => ⟨rfl, by rw [hU], by rw [hU]; exact hPc, va_K.moved hW.alike hKc, hDc.weaken (fun _ _ _ _ => trivial)⟩⟩ rfl rfl hl.1 rfl (lv_room (Nat.le_of_ble_eq_true rfl)) dMO_share_22 ⟨Nat.zero_le _, Nat.zero_le _⟩) hS (fun q _ h => hFc q h) hFc (fun u t H1 locs ht hvm hw hB hz1 hk1 hS => ?_)
  obtain ⟨jf2, js2, jb2, bl2, mv2⟩ := u
  obtain ⟨hP1, hK1, hD1⟩ := hB
  rw [ht] at hP1
  have hK1 := va_K.moved hvm.symm hK1
  have hw9 : True := hw
  obtain ⟨hP, hD⟩ := va_join (wr := []) (w1 := [(o, .inr (6, [.int (nI 0), .ref xv, .ref xo, .ref xn, .ref xc, .ref xb, .ref xd, .ref xq, .ref xa, .ref xk, .ref xt, .ref xh, .ref xs, .ref xS, .ref xw, .ref xW, .ref xB, .ref xM, .long jf2, .long js2, .int jb2, .long ((bs_w8 K fk k i).1), .long ((bs_w8 K fk k i).2.1), .int (bs_z (bs_w8 K fk k i).2.2), .ref xf, .ref xg, .ref xi])), (xk, .inl (cI, 320, .inl fk)), (xB, .inl (cI, 16, .inl bl2)), (xM, .inl (cI, 16, .inl mv2)), (xS, .inl (cI, 256, .inl (bs_fn bs_SB))), (xw, .inl (cI, 256, .inl (bs_fn bs_tX))), (xW, .inl (cI, 352, .inl (bs_fn K)))]) hP hD [5, 6, 0, 1, 2, 3, 4] [] rfl rfl (by decide) (by decide) hk1 hFc hP1 hD1
  generalize H1 = H at hP hS ⊢
  have hP : va_P (dC, dI) vwCl [(o, .inr (6, [.int (nI 0), .ref xv, .ref xo, .ref xn, .ref xc, .ref xb, .ref xd, .ref xq, .ref xa, .ref xk, .ref xt, .ref xh, .ref xs, .ref xS, .ref xw, .ref xW, .ref xB, .ref xM, .long jf2, .long js2, .int jb2, .long ((bs_w8 K fk k i).1), .long ((bs_w8 K fk k i).2.1), .int (bs_z (bs_w8 K fk k i).2.2), .ref xf, .ref xg, .ref xi])), (xk, .inl (cI, 320, .inl fk)), (xB, .inl (cI, 16, .inl bl2)), (xM, .inl (cI, 16, .inl mv2)), (xS, .inl (cI, 256, .inl (bs_fn bs_SB))), (xw, .inl (cI, 256, .inl (bs_fn bs_tX))), (xW, .inl (cI, 352, .inl (bs_fn K)))] H := hP
  have hD : va_D A [(o, .inr (6, [.int (nI 0), .ref xv, .ref xo, .ref xn, .ref xc, .ref xb, .ref xd, .ref xq, .ref xa, .ref xk, .ref xt, .ref xh, .ref xs, .ref xS, .ref xw, .ref xW, .ref xB, .ref xM, .long jf2, .long js2, .int jb2, .long ((bs_w8 K fk k i).1), .long ((bs_w8 K fk k i).2.1), .int (bs_z (bs_w8 K fk k i).2.2), .ref xf, .ref xg, .ref xi])), (xk, .inl (cI, 320, .inl fk)), (xB, .inl (cI, 16, .inl bl2)), (xM, .inl (cI, 16, .inl mv2)), (xS, .inl (cI, 256, .inl (bs_fn bs_SB))), (xw, .inl (cI, 256, .inl (bs_fn bs_tX))), (xW, .inl (cI, 352, .inl (bs_fn K)))] := hD
  refine lv_aload_n hx hb dMO_share_25 rfl (lv_at hl 0 rfl) ?_
  refine lv_iload_n hx hb dMO_share_26 rfl (lv_at hl 1 rfl) ?_
  have hP : va_P (dC, dI) vwCl [(o, .inr (6, [.int (nI 0), .ref xv, .ref xo, .ref xn, .ref xc, .ref xb, .ref xd, .ref xq, .ref xa, .ref xk, .ref xt, .ref xh, .ref xs, .ref xS, .ref xw, .ref xW, .ref xB, .ref xM, .long jf2, .long js2, .int jb2, .long ((bs_w8 K fk k i).1), .long ((bs_w8 K fk k i).2.1), .int (bs_z ((bs_w8 K fk k i).2.2)), .ref xf, .ref xg, .ref xi])), (xk, .inl (cI, 320, .inl fk)), (xB, .inl (cI, 16, .inl bl2)), (xM, .inl (cI, 16, .inl mv2)), (xS, .inl (cI, 256, .inl (bs_fn bs_SB))), (xw, .inl (cI, 256, .inl (bs_fn bs_tX))), (xW, .inl (cI, 352, .inl (bs_fn K)))] H := hP
  have hD : va_D A [(o, .inr (6, [.int (nI 0), .ref xv, .ref xo, .ref xn, .ref xc, .ref xb, .ref xd, .ref xq, .ref xa, .ref xk, .ref xt, .ref xh, .ref xs, .ref xS, .ref xw, .ref xW, .ref xB, .ref xM, .long jf2, .long js2, .int jb2, .long ((bs_w8 K fk k i).1), .long ((bs_w8 K fk k i).2.1), .int (bs_z ((bs_w8 K fk k i).2.2)), .ref xf, .ref xg, .ref xi])), (xk, .inl (cI, 320, .inl fk)), (xB, .inl (cI, 16, .inl bl2)), (xM, .inl (cI, 16, .inl mv2)), (xS, .inl (cI, 256, .inl (bs_fn bs_SB))), (xw, .inl (cI, 256, .inl (bs_fn bs_tX))), (xW, .inl (cI, 352, .inl (bs_fn K)))] := hD
  have hPc := hP.sub (ws' := [(o, .inr (6, [.int (nI 0), .ref xv, .ref xo, .ref xn, .ref xc, .ref xb, .ref xd, .ref xq, .ref xa, .ref xk, .ref xt, .ref xh, .ref xs, .ref xS, .ref xw, .ref xW, .ref xB, .ref xM, .long jf2, .long js2, .int jb2, .long ((bs_w8 K fk k i).1), .long ((bs_w8 K fk k i).2.1), .int (bs_z ((bs_w8 K fk k i).2.2)), .ref xf, .ref xg, .ref xi])), (xk, .inl (cI, 320, .inl fk))]) [0, 1] rfl
  have hDc := hD.sub (ws' := [(o, .inr (6, [.int (nI 0), .ref xv, .ref xo, .ref xn, .ref xc, .ref xb, .ref xd, .ref xq, .ref xa, .ref xk, .ref xt, .ref xh, .ref xs, .ref xS, .ref xw, .ref xW, .ref xB, .ref xM, .long jf2, .long js2, .int jb2, .long ((bs_w8 K fk k i).1), .long ((bs_w8 K fk k i).2.1), .int (bs_z ((bs_w8 K fk k i).2.2)), .ref xf, .ref xg, .ref xi])), (xk, .inl (cI, 320, .inl fk))]) [0, 1] (by decide) rfl
  have hKc := hK.sub (tys' := [(cI, .int)]) [0] rfl
  have hFc := va_free (wc := [(o, .inr (6, [.int (nI 0), .ref xv, .ref xo, .ref xn, .ref xc, .ref xb, .ref xd, .ref xq, .ref xa, .ref xk, .ref xt, .ref xh, .ref xs, .ref xS, .ref xw, .ref xW, .ref xB, .ref xM, .long jf2, .long js2, .int jb2, .long ((bs_w8 K fk k i).1), .long ((bs_w8 K fk k i).2.1), .int (bs_z ((bs_w8 K fk k i).2.2)), .ref xf, .ref xg, .ref xi])), (xk, .inl (cI, 320, .inl fk))]) hD hS hA [0, 1] rfl
  refine va_calll (va_runV (C := RMO) (As := [.int (nI k)]) (rest := []) ⟨hx, hb, hml, hown, hts⟩ (c_MO_shareHere l dC dI H.size o xv xo xn xc xb xd xq xa xk xt xh xs xS xw xW xB xM xf xg xi (nI 0) jf2 js2 jb2 ((bs_w8 K fk k i).1) ((bs_w8 K fk k i).2.1) (bs_z ((bs_w8 K fk k i).2.2)) cI fk ((bs_w8 K fk k i).2.2) k (hk)) (cwV (C := RMO) 1 hts (wT_4 w_m_MO_143 w_i_MO_shareHere w_s_MO_shareHere w_n_MO w_c_MO_shareHere) rfl rfl rfl (by decide +kernel) ⟨Nat.le_of_ble_eq_true rfl, Nat.le_of_ble_eq_true rfl⟩) ⟨fun a U g mk q => by obtain ⟨q0, q1, qP, qK, qD⟩ := q; exact ⟨q0, q1, qP, va_K.moved (u := U) (U := U.calling g mk a) (Vm.Alike.refl U.vm) qK, qD⟩, va_recv hK hP (q0 := 0) (ci := 6) (q := (RMO, TMO, 27)) rfl rfl, fun U hU hW => ⟨rfl, by rw [hU], by rw [hU]; exact hPc, va_K.moved hW.alike hKc, hDc.weaken (fun _ _ _ _ => trivial)⟩⟩ rfl rfl hl.1 rfl (lv_room (Nat.le_of_ble_eq_true rfl)) dMO_share_27 ⟨Nat.zero_le _, Nat.zero_le _⟩) hS (fun q _ h => hFc q h) hFc (fun r u t H1 locs ht hvm hw hB hz1 hk1 hS => ?_)
  obtain ⟨hP1, hK1, hD1⟩ := hB
  rw [ht] at hP1
  have hK1 := va_K.moved hvm.symm hK1
  have hw : r = if (bs_w8 K fk k i).2.2 then ((bs_w8 K fk k i).1) ^^^ bs_rd fk (160 * k + 152) 8 else (bs_w8 K fk k i).1 := hw
  subst hw
  obtain ⟨hP, hD⟩ := va_join (wr := [(xB, .inl (cI, 16, .inl bl2)), (xM, .inl (cI, 16, .inl mv2)), (xS, .inl (cI, 256, .inl (bs_fn bs_SB))), (xw, .inl (cI, 256, .inl (bs_fn bs_tX))), (xW, .inl (cI, 352, .inl (bs_fn K)))]) (w1 := [(o, .inr (6, [.int (nI 0), .ref xv, .ref xo, .ref xn, .ref xc, .ref xb, .ref xd, .ref xq, .ref xa, .ref xk, .ref xt, .ref xh, .ref xs, .ref xS, .ref xw, .ref xW, .ref xB, .ref xM, .long jf2, .long js2, .int jb2, .long ((bs_w8 K fk k i).1), .long ((bs_w8 K fk k i).2.1), .int (bs_z ((bs_w8 K fk k i).2.2)), .ref xf, .ref xg, .ref xi])), (xk, .inl (cI, 320, .inl fk))]) hP hD [0, 1] [2, 3, 4, 5, 6] rfl rfl (by decide) (by decide) hk1 hFc hP1 hD1
  generalize H1 = H at hP hS ⊢
  have hP : va_P (dC, dI) vwCl [(xB, .inl (cI, 16, .inl bl2)), (xM, .inl (cI, 16, .inl mv2)), (xS, .inl (cI, 256, .inl (bs_fn bs_SB))), (xw, .inl (cI, 256, .inl (bs_fn bs_tX))), (xW, .inl (cI, 352, .inl (bs_fn K))), (o, .inr (6, [.int (nI 0), .ref xv, .ref xo, .ref xn, .ref xc, .ref xb, .ref xd, .ref xq, .ref xa, .ref xk, .ref xt, .ref xh, .ref xs, .ref xS, .ref xw, .ref xW, .ref xB, .ref xM, .long jf2, .long js2, .int jb2, .long ((bs_w8 K fk k i).1), .long ((bs_w8 K fk k i).2.1), .int (bs_z ((bs_w8 K fk k i).2.2)), .ref xf, .ref xg, .ref xi])), (xk, .inl (cI, 320, .inl fk))] H := hP
  have hD : va_D A [(xB, .inl (cI, 16, .inl bl2)), (xM, .inl (cI, 16, .inl mv2)), (xS, .inl (cI, 256, .inl (bs_fn bs_SB))), (xw, .inl (cI, 256, .inl (bs_fn bs_tX))), (xW, .inl (cI, 352, .inl (bs_fn K))), (o, .inr (6, [.int (nI 0), .ref xv, .ref xo, .ref xn, .ref xc, .ref xb, .ref xd, .ref xq, .ref xa, .ref xk, .ref xt, .ref xh, .ref xs, .ref xS, .ref xw, .ref xW, .ref xB, .ref xM, .long jf2, .long js2, .int jb2, .long ((bs_w8 K fk k i).1), .long ((bs_w8 K fk k i).2.1), .int (bs_z ((bs_w8 K fk k i).2.2)), .ref xf, .ref xg, .ref xi])), (xk, .inl (cI, 320, .inl fk))] := hD
  refine xt_l (y := bs_shm K fk k i) (rfl) ?_
  have hP := hP.sub (ws' := [(o, .inr (6, [.int (nI 0), .ref xv, .ref xo, .ref xn, .ref xc, .ref xb, .ref xd, .ref xq, .ref xa, .ref xk, .ref xt, .ref xh, .ref xs, .ref xS, .ref xw, .ref xW, .ref xB, .ref xM, .long jf2, .long js2, .int jb2, .long ((bs_w8 K fk k i).1), .long ((bs_w8 K fk k i).2.1), .int (bs_z ((bs_w8 K fk k i).2.2)), .ref xf, .ref xg, .ref xi])), (xk, .inl (cI, 320, .inl fk)), (xB, .inl (cI, 16, .inl bl2)), (xM, .inl (cI, 16, .inl mv2)), (xS, .inl (cI, 256, .inl (bs_fn bs_SB))), (xw, .inl (cI, 256, .inl (bs_fn bs_tX))), (xW, .inl (cI, 352, .inl (bs_fn K)))]) [5, 6, 0, 1, 2, 3, 4] rfl
  have hD := hD.sub (ws' := [(o, .inr (6, [.int (nI 0), .ref xv, .ref xo, .ref xn, .ref xc, .ref xb, .ref xd, .ref xq, .ref xa, .ref xk, .ref xt, .ref xh, .ref xs, .ref xS, .ref xw, .ref xW, .ref xB, .ref xM, .long jf2, .long js2, .int jb2, .long ((bs_w8 K fk k i).1), .long ((bs_w8 K fk k i).2.1), .int (bs_z ((bs_w8 K fk k i).2.2)), .ref xf, .ref xg, .ref xi])), (xk, .inl (cI, 320, .inl fk)), (xB, .inl (cI, 16, .inl bl2)), (xM, .inl (cI, 16, .inl mv2)), (xS, .inl (cI, 256, .inl (bs_fn bs_SB))), (xw, .inl (cI, 256, .inl (bs_fn bs_tX))), (xW, .inl (cI, 352, .inl (bs_fn K)))]) [5, 6, 0, 1, 2, 3, 4] (by decide) rfl
  subst hQ
  exact W.lret (v := bs_shm K fk k i) hx hb hr (fun t ht hW => ⟨⟨bs_shm K fk k i, (jf2, js2, jb2, bl2, mv2), rfl, ⟨rfl, trivial⟩, by rw [ht]; exact hP, va_K.moved hW.alike hK, hD⟩, hS.F ht⟩) hS.2.2 dMO_share_30
set_option maxHeartbeats 4000000 in
set_option maxRecDepth 100000 in
theorem c_MO_share_b (l : Launch) (dC : Nat → ClassId) (dI : Nat → Nat → Nat) (sz : Nat) (o xv xo xn xc xb xd xq xa xk xt xh xs xS xw xW xB xM xf xg xi : Nat) (th : Int32) (jf js : Int64) (jb : Int32) (nf ns : Int64) (nb : Int32) (cI : ClassId) (fk : Nat → Int32) (k i : Nat) (hk : k < 2) (hi : i < 256) (hby : ∀ j, j < 320 → ∃ n, n < 256 ∧ fk j = nI n) (hg : bs_gd (bs_kf fk k) 8 = false) : Met l yMO_share wsMO_share { frames := 4, cells := 0, slots := 0, locals := 103 } (va_Pc [.ref o, .int (nI k), .int (nI i)] (fun U => U.heap.size = sz ∧ va_P (dC, dI) vwCl [(o, .inr (6, [.int th, .ref xv, .ref xo, .ref xn, .ref xc, .ref xb, .ref xd, .ref xq, .ref xa, .ref xk, .ref xt, .ref xh, .ref xs, .ref xS, .ref xw, .ref xW, .ref xB, .ref xM, .long jf, .long js, .int jb, .long nf, .long ns, .int nb, .ref xf, .ref xg, .ref xi])), (xk, .inl (cI, 320, .inl fk))] U.heap ∧ va_K (dC, dI) vwCl [(cI, .int)] U ∧ va_D (fun _ => True) [(o, .inr (6, [.int th, .ref xv, .ref xo, .ref xn, .ref xc, .ref xb, .ref xd, .ref xq, .ref xa, .ref xk, .ref xt, .ref xh, .ref xs, .ref xS, .ref xw, .ref xW, .ref xB, .ref xM, .long jf, .long js, .int jb, .long nf, .long ns, .int nb, .ref xf, .ref xg, .ref xi])), (xk, .inl (cI, 320, .inl fk))])) (va_Ql (fun (r : Int64) (_ : Unit) => r = 0) (fun (_ : Unit) t => va_P (dC, dI) vwCl [(o, .inr (6, [.int (nI 2), .ref xv, .ref xo, .ref xn, .ref xc, .ref xb, .ref xd, .ref xq, .ref xa, .ref xk, .ref xt, .ref xh, .ref xs, .ref xS, .ref xw, .ref xW, .ref xB, .ref xM, .long jf, .long js, .int jb, .long nf, .long ns, .int nb, .ref xf, .ref xg, .ref xi])), (xk, .inl (cI, 320, .inl fk))] t.heap ∧ va_K (dC, dI) vwCl [(cI, .int)] t ∧ va_D (va_A [(o, .inr (6, [.int th, .ref xv, .ref xo, .ref xn, .ref xc, .ref xb, .ref xd, .ref xq, .ref xa, .ref xk, .ref xt, .ref xh, .ref xs, .ref xS, .ref xw, .ref xW, .ref xB, .ref xM, .long jf, .long js, .int jb, .long nf, .long ns, .int nb, .ref xf, .ref xg, .ref xi])), (xk, .inl (cI, 320, .inl fk))] sz) [(o, .inr (6, [.int (nI 2), .ref xv, .ref xo, .ref xn, .ref xc, .ref xb, .ref xd, .ref xq, .ref xa, .ref xk, .ref xt, .ref xh, .ref xs, .ref xS, .ref xw, .ref xW, .ref xB, .ref xM, .long jf, .long js, .int jb, .long nf, .long ns, .int nb, .ref xf, .ref xg, .ref xi])), (xk, .inl (cI, 320, .inl fk))]) (va_A [(o, .inr (6, [.int th, .ref xv, .ref xo, .ref xn, .ref xc, .ref xb, .ref xd, .ref xq, .ref xa, .ref xk, .ref xt, .ref xh, .ref xs, .ref xS, .ref xw, .ref xW, .ref xB, .ref xM, .long jf, .long js, .int jb, .long nf, .long ns, .int nb, .ref xf, .ref xg, .ref xi])), (xk, .inl (cI, 320, .inl fk))] sz)) 0 0 (va_A [(o, .inr (6, [.int th, .ref xv, .ref xo, .ref xn, .ref xc, .ref xb, .ref xd, .ref xq, .ref xa, .ref xk, .ref xt, .ref xh, .ref xs, .ref xS, .ref xw, .ref xW, .ref xB, .ref xM, .long jf, .long js, .int jb, .long nf, .long ns, .int nb, .ref xf, .ref xg, .ref xi])), (xk, .inl (cI, 320, .inl fk))] sz) := by
  refine Met.ofW (cc := cMO_share) (maxL := 3) (ret := (some .long)) (by decide) rfl ?_
  intro p e s m args below meth c s₁ Bo9 hml hv
  obtain ⟨rfl, hsz, hP, hK, hD0⟩ := hv
  have hx := Bo9.exec
  have hb := Bo9.bytes
  have hr := Bo9.returns
  have hts := fun w (h : w ∈ wT) => atoms_spec (ws := wsMO_share) Bo9.pre w (List.mem_cons_of_mem _ h)
  have hown : s.vm.findClass RMO = some m.cls := findClass_of_methodNamed Bo9.named
  have hlocks := Bo9.notSynchronized
  subst hsz
  have hD := hD0.self (sz := s.heap.size)
  generalize hAe : va_A [(o, .inr (6, [.int th, .ref xv, .ref xo, .ref xn, .ref xc, .ref xb, .ref xd, .ref xq, .ref xa, .ref xk, .ref xt, .ref xh, .ref xs, .ref xS, .ref xw, .ref xW, .ref xB, .ref xM, .long jf, .long js, .int jb, .long nf, .long ns, .int nb, .ref xf, .ref xg, .ref xi])), (xk, .inl (cI, 320, .inl fk))] s.heap.size = A at hD ⊢
  have hA : ∀ q : Nat, s.heap.size ≤ q → A q := fun q h => by rw [← hAe]; exact Or.inr h
  have hl := lv_entry ([.ref o, .int (nI k), .int (nI i)]) (n := 3) (Nat.le_of_ble_eq_true rfl)
  rw [lg_entry_eq]
  generalize (lg_sl ([.ref o, .int (nI k), .int (nI i)]) ++ List.replicate (3 - (lg_sl ([.ref o, .int (nI k), .int (nI i)])).length) Slot.unset).toArray = ls at hl ⊢
  have hl : lv_has ls 3 [(0, .ref o), (1, .int (nI k)), (2, .int (nI i))] := hl
  refine xs_q (fun H Q hH hQ => ?_)
  have hS : va_S A s.heap H [] := by rw [hH]; exact va_S.rf
  have hP : va_P (dC, dI) vwCl [(o, .inr (6, [.int th, .ref xv, .ref xo, .ref xn, .ref xc, .ref xb, .ref xd, .ref xq, .ref xa, .ref xk, .ref xt, .ref xh, .ref xs, .ref xS, .ref xw, .ref xW, .ref xB, .ref xM, .long jf, .long js, .int jb, .long nf, .long ns, .int nb, .ref xf, .ref xg, .ref xi])), (xk, .inl (cI, 320, .inl fk))] H := by rw [hH]; exact hP
  refine lv_aload_n hx hb dMO_share_0 rfl (lv_at hl 0 rfl) ?_
  refine lv_aload_n hx hb dMO_share_1 rfl (lv_at hl 0 rfl) ?_
  refine lv_iload_n hx hb dMO_share_2 rfl (lv_at hl 1 rfl) ?_
  refine lv_iload_n hx hb dMO_share_3 rfl (lv_at hl 2 rfl) ?_
  have hPc := hP.sub (ws' := [(o, .inr (6, [.int th, .ref xv, .ref xo, .ref xn, .ref xc, .ref xb, .ref xd, .ref xq, .ref xa, .ref xk, .ref xt, .ref xh, .ref xs, .ref xS, .ref xw, .ref xW, .ref xB, .ref xM, .long jf, .long js, .int jb, .long nf, .long ns, .int nb, .ref xf, .ref xg, .ref xi])), (xk, .inl (cI, 320, .inl fk))]) [0, 1] rfl
  have hDc := hD.sub (ws' := [(o, .inr (6, [.int th, .ref xv, .ref xo, .ref xn, .ref xc, .ref xb, .ref xd, .ref xq, .ref xa, .ref xk, .ref xt, .ref xh, .ref xs, .ref xS, .ref xw, .ref xW, .ref xB, .ref xM, .long jf, .long js, .int jb, .long nf, .long ns, .int nb, .ref xf, .ref xg, .ref xi])), (xk, .inl (cI, 320, .inl fk))]) [0, 1] (by decide) rfl
  have hKc := hK.sub (tys' := [(cI, .int)]) [0] rfl
  have hFc := va_free (wc := [(o, .inr (6, [.int th, .ref xv, .ref xo, .ref xn, .ref xc, .ref xb, .ref xd, .ref xq, .ref xa, .ref xk, .ref xt, .ref xh, .ref xs, .ref xS, .ref xw, .ref xW, .ref xB, .ref xM, .long jf, .long js, .int jb, .long nf, .long ns, .int nb, .ref xf, .ref xg, .ref xi])), (xk, .inl (cI, 320, .inl fk))]) hD hS hA [0, 1] rfl
  refine va_calli (va_runV (C := RMO) (As := [.int (nI k), .int (nI i)]) (rest := [.ref o]) ⟨hx, hb, hml, hown, hts⟩ (c_MO_keyFault_y l dC dI H.size o xv xo xn xc xb xd xq xa xk xt xh xs xS xw xW xB xM xf xg xi th jf js jb nf ns nb cI fk k i hk hi hby) (cwV (C := RMO) 2 hts (wT_4 w_m_MO_161 w_i_MO_keyFault w_s_MO_keyFault w_n_MO w_c_MO_keyFault) rfl rfl rfl (by decide +kernel) ⟨Nat.le_of_ble_eq_true rfl, Nat.le_of_ble_eq_true rfl⟩) ⟨fun a U g mk q => by obtain ⟨q0, q1, qP, qK, qD⟩ := q; exact ⟨q0, q1, qP, va_K.moved (u := U) (U := U.calling g mk a) (Vm.Alike.refl U.vm) qK, qD⟩, va_recv hK hP (q0 := 0) (ci := 6) (q := (RMO, TMO, 27)) rfl rfl, fun U hU hW => ⟨rfl, by rw [hU], by rw [hU]; exact hPc, va_K.moved hW.alike hKc, hDc.weaken (fun _ _ _ _ => trivial)⟩⟩ rfl rfl hl.1 rfl (lv_room (Nat.le_of_ble_eq_true rfl)) dMO_share_4 ⟨Nat.zero_le _, Nat.zero_le _⟩) hS (fun q _ h => hFc q h) hFc (fun r u t H1 locs ht hvm hw hB hz1 hk1 hS => ?_)
  obtain ⟨hP1, hK1, hD1⟩ := hB
  rw [ht] at hP1
  have hK1 := va_K.moved hvm.symm hK1
  have hw : r = bs_flt (bs_gd (bs_kf fk k) 8) := hw
  subst hw
  obtain ⟨hP, hD⟩ := va_join (wr := []) (w1 := [(o, .inr (6, [.int th, .ref xv, .ref xo, .ref xn, .ref xc, .ref xb, .ref xd, .ref xq, .ref xa, .ref xk, .ref xt, .ref xh, .ref xs, .ref xS, .ref xw, .ref xW, .ref xB, .ref xM, .long jf, .long js, .int jb, .long nf, .long ns, .int nb, .ref xf, .ref xg, .ref xi])), (xk, .inl (cI, 320, .inl fk))]) hP hD [0, 1] [] rfl rfl (by decide) (by decide) hk1 hFc hP1 hD1
  generalize H1 = H at hP hS ⊢
  have hP : va_P (dC, dI) vwCl [(o, .inr (6, [.int th, .ref xv, .ref xo, .ref xn, .ref xc, .ref xb, .ref xd, .ref xq, .ref xa, .ref xk, .ref xt, .ref xh, .ref xs, .ref xS, .ref xw, .ref xW, .ref xB, .ref xM, .long jf, .long js, .int jb, .long nf, .long ns, .int nb, .ref xf, .ref xg, .ref xi])), (xk, .inl (cI, 320, .inl fk))] H := hP
  have hD : va_D A [(o, .inr (6, [.int th, .ref xv, .ref xo, .ref xn, .ref xc, .ref xb, .ref xd, .ref xq, .ref xa, .ref xk, .ref xt, .ref xh, .ref xs, .ref xS, .ref xw, .ref xW, .ref xB, .ref xM, .long jf, .long js, .int jb, .long nf, .long ns, .int nb, .ref xf, .ref xg, .ref xi])), (xk, .inl (cI, 320, .inl fk))] := hD
  refine xt_i (y := nI 2) (by rw [hg]; rfl) ?_
  refine va_put (D := (dC, dI)) (ci := 6) (v := .int (nI 2)) (ty := .int) (C := RMO) (T := TMO) (N := 27) hx hb hts in_MO tyMO tyMO_ok nmMO hown hK hP hD hS 0 rfl rfl 0 (by decide) (hts _ w_f_MO_87) (fun _ h9 => h9) rfl (by decide +kernel) (rfl) (rfl) (Nat.le_of_ble_eq_true rfl) dMO_share_7 (fun H locs hP hD hS => ?_)
  have hP : va_P (dC, dI) vwCl [(o, .inr (6, [.int (nI 2), .ref xv, .ref xo, .ref xn, .ref xc, .ref xb, .ref xd, .ref xq, .ref xa, .ref xk, .ref xt, .ref xh, .ref xs, .ref xS, .ref xw, .ref xW, .ref xB, .ref xM, .long jf, .long js, .int jb, .long nf, .long ns, .int nb, .ref xf, .ref xg, .ref xi])), (xk, .inl (cI, 320, .inl fk))] H := hP
  have hD : va_D A [(o, .inr (6, [.int (nI 2), .ref xv, .ref xo, .ref xn, .ref xc, .ref xb, .ref xd, .ref xq, .ref xa, .ref xk, .ref xt, .ref xh, .ref xs, .ref xS, .ref xw, .ref xW, .ref xB, .ref xM, .long jf, .long js, .int jb, .long nf, .long ns, .int nb, .ref xf, .ref xg, .ref xi])), (xk, .inl (cI, 320, .inl fk))] := hD
  refine lv_aload_n hx hb dMO_share_10 rfl (lv_at hl 0 rfl) ?_
  refine va_get (D := (dC, dI)) (ci := 6) (v := .int (nI 2)) (C := RMO) (T := TMO) (N := 27) hx hb hts in_MO hown hK hP 0 rfl rfl 0 (by decide) (hts _ w_f_MO_87) (fun _ h9 => h9) rfl dMO_share_11 ?_
  refine lv_if_le (tgt := 19) hx hb dMO_share_14 (by decide) (fun h => absurd h (by decide +kernel)) (fun _ => ?_)
  refine lv_lconst (v := 0) hx hb dMO_share_17 (by decide) ?_
  have hP : va_P (dC, dI) vwCl [(o, .inr (6, [.int (nI 2), .ref xv, .ref xo, .ref xn, .ref xc, .ref xb, .ref xd, .ref xq, .ref xa, .ref xk, .ref xt, .ref xh, .ref xs, .ref xS, .ref xw, .ref xW, .ref xB, .ref xM, .long jf, .long js, .int jb, .long nf, .long ns, .int nb, .ref xf, .ref xg, .ref xi])), (xk, .inl (cI, 320, .inl fk))] H := hP
  have hD : va_D A [(o, .inr (6, [.int (nI 2), .ref xv, .ref xo, .ref xn, .ref xc, .ref xb, .ref xd, .ref xq, .ref xa, .ref xk, .ref xt, .ref xh, .ref xs, .ref xS, .ref xw, .ref xW, .ref xB, .ref xM, .long jf, .long js, .int jb, .long nf, .long ns, .int nb, .ref xf, .ref xg, .ref xi])), (xk, .inl (cI, 320, .inl fk))] := hD
  subst hQ
  exact W.lret (v := 0) hx hb hr (fun t ht hW => ⟨⟨0, (), rfl, rfl, by rw [ht]; exact hP, va_K.moved hW.alike hK, hD⟩, hS.F ht⟩) hS.2.2 dMO_share_18
set_option maxHeartbeats 4000000 in
set_option maxRecDepth 100000 in
theorem c_MO_share_n (l : Launch) (dC : Nat → ClassId) (dI : Nat → Nat → Nat) (sz : Nat) (o xv xo xn xc xb xd xq xa xk xt xh xs xS xw xW xB xM xf xg xi : Nat) (th : Int32) (jf js : Int64) (jb : Int32) (nf ns : Int64) (nb : Int32) (x y : Int32) (hn : (bs_ii x 2 && bs_ii y 256) = false) : Met l yMO_share wsMO_share { frames := 4, cells := 0, slots := 0, locals := 103 } (va_Pc [.ref o, .int x, .int y] (fun U => U.heap.size = sz ∧ va_P (dC, dI) vwCl [(o, .inr (6, [.int th, .ref xv, .ref xo, .ref xn, .ref xc, .ref xb, .ref xd, .ref xq, .ref xa, .ref xk, .ref xt, .ref xh, .ref xs, .ref xS, .ref xw, .ref xW, .ref xB, .ref xM, .long jf, .long js, .int jb, .long nf, .long ns, .int nb, .ref xf, .ref xg, .ref xi]))] U.heap ∧ va_K (dC, dI) vwCl [] U ∧ va_D (fun _ => True) [(o, .inr (6, [.int th, .ref xv, .ref xo, .ref xn, .ref xc, .ref xb, .ref xd, .ref xq, .ref xa, .ref xk, .ref xt, .ref xh, .ref xs, .ref xS, .ref xw, .ref xW, .ref xB, .ref xM, .long jf, .long js, .int jb, .long nf, .long ns, .int nb, .ref xf, .ref xg, .ref xi]))])) (va_Ql (fun (r : Int64) (_ : Unit) => r = 0) (fun (_ : Unit) t => va_P (dC, dI) vwCl [(o, .inr (6, [.int (nI 1), .ref xv, .ref xo, .ref xn, .ref xc, .ref xb, .ref xd, .ref xq, .ref xa, .ref xk, .ref xt, .ref xh, .ref xs, .ref xS, .ref xw, .ref xW, .ref xB, .ref xM, .long jf, .long js, .int jb, .long nf, .long ns, .int nb, .ref xf, .ref xg, .ref xi]))] t.heap ∧ va_K (dC, dI) vwCl [] t ∧ va_D (va_A [(o, .inr (6, [.int th, .ref xv, .ref xo, .ref xn, .ref xc, .ref xb, .ref xd, .ref xq, .ref xa, .ref xk, .ref xt, .ref xh, .ref xs, .ref xS, .ref xw, .ref xW, .ref xB, .ref xM, .long jf, .long js, .int jb, .long nf, .long ns, .int nb, .ref xf, .ref xg, .ref xi]))] sz) [(o, .inr (6, [.int (nI 1), .ref xv, .ref xo, .ref xn, .ref xc, .ref xb, .ref xd, .ref xq, .ref xa, .ref xk, .ref xt, .ref xh, .ref xs, .ref xS, .ref xw, .ref xW, .ref xB, .ref xM, .long jf, .long js, .int jb, .long nf, .long ns, .int nb, .ref xf, .ref xg, .ref xi]))]) (va_A [(o, .inr (6, [.int th, .ref xv, .ref xo, .ref xn, .ref xc, .ref xb, .ref xd, .ref xq, .ref xa, .ref xk, .ref xt, .ref xh, .ref xs, .ref xS, .ref xw, .ref xW, .ref xB, .ref xM, .long jf, .long js, .int jb, .long nf, .long ns, .int nb, .ref xf, .ref xg, .ref xi]))] sz)) 0 0 (va_A [(o, .inr (6, [.int th, .ref xv, .ref xo, .ref xn, .ref xc, .ref xb, .ref xd, .ref xq, .ref xa, .ref xk, .ref xt, .ref xh, .ref xs, .ref xS, .ref xw, .ref xW, .ref xB, .ref xM, .long jf, .long js, .int jb, .long nf, .long ns, .int nb, .ref xf, .ref xg, .ref xi]))] sz) := by
  refine Met.ofW (cc := cMO_share) (maxL := 3) (ret := (some .long)) (by decide) rfl ?_
  intro p e s m args below meth c s₁ Bo9 hml hv
  obtain ⟨rfl, hsz, hP, hK, hD0⟩ := hv
  have hx := Bo9.exec
  have hb := Bo9.bytes
  have hr := Bo9.returns
  have hts := fun w (h : w ∈ wT) => atoms_spec (ws := wsMO_share) Bo9.pre w (List.mem_cons_of_mem _ h)
  have hown : s.vm.findClass RMO = some m.cls := findClass_of_methodNamed Bo9.named
  have hlocks := Bo9.notSynchronized
  subst hsz
  have hD := hD0.self (sz := s.heap.size)
  generalize hAe : va_A [(o, .inr (6, [.int th, .ref xv, .ref xo, .ref xn, .ref xc, .ref xb, .ref xd, .ref xq, .ref xa, .ref xk, .ref xt, .ref xh, .ref xs, .ref xS, .ref xw, .ref xW, .ref xB, .ref xM, .long jf, .long js, .int jb, .long nf, .long ns, .int nb, .ref xf, .ref xg, .ref xi]))] s.heap.size = A at hD ⊢
  have hA : ∀ q : Nat, s.heap.size ≤ q → A q := fun q h => by rw [← hAe]; exact Or.inr h
  have hl := lv_entry ([.ref o, .int x, .int y]) (n := 3) (Nat.le_of_ble_eq_true rfl)
  rw [lg_entry_eq]
  generalize (lg_sl ([.ref o, .int x, .int y]) ++ List.replicate (3 - (lg_sl ([.ref o, .int x, .int y])).length) Slot.unset).toArray = ls at hl ⊢
  have hl : lv_has ls 3 [(0, .ref o), (1, .int x), (2, .int y)] := hl
  refine xs_q (fun H Q hH hQ => ?_)
  have hS : va_S A s.heap H [] := by rw [hH]; exact va_S.rf
  have hP : va_P (dC, dI) vwCl [(o, .inr (6, [.int th, .ref xv, .ref xo, .ref xn, .ref xc, .ref xb, .ref xd, .ref xq, .ref xa, .ref xk, .ref xt, .ref xh, .ref xs, .ref xS, .ref xw, .ref xW, .ref xB, .ref xM, .long jf, .long js, .int jb, .long nf, .long ns, .int nb, .ref xf, .ref xg, .ref xi]))] H := by rw [hH]; exact hP
  refine lv_aload_n hx hb dMO_share_0 rfl (lv_at hl 0 rfl) ?_
  refine lv_aload_n hx hb dMO_share_1 rfl (lv_at hl 0 rfl) ?_
  refine lv_iload_n hx hb dMO_share_2 rfl (lv_at hl 1 rfl) ?_
  refine lv_iload_n hx hb dMO_share_3 rfl (lv_at hl 2 rfl) ?_
  have hPc := hP.sub (ws' := [(o, .inr (6, [.int th, .ref xv, .ref xo, .ref xn, .ref xc, .ref xb, .ref xd, .ref xq, .ref xa, .ref xk, .ref xt, .ref xh, .ref xs, .ref xS, .ref xw, .ref xW, .ref xB, .ref xM, .long jf, .long js, .int jb, .long nf, .long ns, .int nb, .ref xf, .ref xg, .ref xi]))]) [0] rfl
  have hDc := hD.sub (ws' := [(o, .inr (6, [.int th, .ref xv, .ref xo, .ref xn, .ref xc, .ref xb, .ref xd, .ref xq, .ref xa, .ref xk, .ref xt, .ref xh, .ref xs, .ref xS, .ref xw, .ref xW, .ref xB, .ref xM, .long jf, .long js, .int jb, .long nf, .long ns, .int nb, .ref xf, .ref xg, .ref xi]))]) [0] (by decide) rfl
  have hKc := hK.sub (tys' := []) [] rfl
  have hFc := va_free (wc := [(o, .inr (6, [.int th, .ref xv, .ref xo, .ref xn, .ref xc, .ref xb, .ref xd, .ref xq, .ref xa, .ref xk, .ref xt, .ref xh, .ref xs, .ref xS, .ref xw, .ref xW, .ref xB, .ref xM, .long jf, .long js, .int jb, .long nf, .long ns, .int nb, .ref xf, .ref xg, .ref xi]))]) hD hS hA [0] rfl
  refine va_calli (va_runV (C := RMO) (As := [.int x, .int y]) (rest := [.ref o]) ⟨hx, hb, hml, hown, hts⟩ (c_MO_keyFault_n l dC dI H.size o xv xo xn xc xb xd xq xa xk xt xh xs xS xw xW xB xM xf xg xi th jf js jb nf ns nb x y hn) (cwV (C := RMO) 2 hts (wT_4 w_m_MO_161 w_i_MO_keyFault w_s_MO_keyFault w_n_MO w_c_MO_keyFault) rfl rfl rfl (by decide +kernel) ⟨Nat.le_of_ble_eq_true rfl, Nat.le_of_ble_eq_true rfl⟩) ⟨fun a U g mk q => by obtain ⟨q0, q1, qP, qK, qD⟩ := q; exact ⟨q0, q1, qP, va_K.moved (u := U) (U := U.calling g mk a) (Vm.Alike.refl U.vm) qK, qD⟩, va_recv hK hP (q0 := 0) (ci := 6) (q := (RMO, TMO, 27)) rfl rfl, fun U hU hW => ⟨rfl, by rw [hU], by rw [hU]; exact hPc, va_K.moved hW.alike hKc, hDc.weaken (fun _ _ _ _ => trivial)⟩⟩ rfl rfl hl.1 rfl (lv_room (Nat.le_of_ble_eq_true rfl)) dMO_share_4 ⟨Nat.zero_le _, Nat.zero_le _⟩) hS (fun q _ h => hFc q h) hFc (fun r u t H1 locs ht hvm hw hB hz1 hk1 hS => ?_)
  obtain ⟨hP1, hK1, hD1⟩ := hB
  rw [ht] at hP1
  have hK1 := va_K.moved hvm.symm hK1
  have hw : r = nI 1 := hw
  subst hw
  obtain ⟨hP, hD⟩ := va_join (wr := []) (w1 := [(o, .inr (6, [.int th, .ref xv, .ref xo, .ref xn, .ref xc, .ref xb, .ref xd, .ref xq, .ref xa, .ref xk, .ref xt, .ref xh, .ref xs, .ref xS, .ref xw, .ref xW, .ref xB, .ref xM, .long jf, .long js, .int jb, .long nf, .long ns, .int nb, .ref xf, .ref xg, .ref xi]))]) hP hD [0] [] rfl rfl (by decide) (by decide) hk1 hFc hP1 hD1
  generalize H1 = H at hP hS ⊢
  have hP : va_P (dC, dI) vwCl [(o, .inr (6, [.int th, .ref xv, .ref xo, .ref xn, .ref xc, .ref xb, .ref xd, .ref xq, .ref xa, .ref xk, .ref xt, .ref xh, .ref xs, .ref xS, .ref xw, .ref xW, .ref xB, .ref xM, .long jf, .long js, .int jb, .long nf, .long ns, .int nb, .ref xf, .ref xg, .ref xi]))] H := hP
  have hD : va_D A [(o, .inr (6, [.int th, .ref xv, .ref xo, .ref xn, .ref xc, .ref xb, .ref xd, .ref xq, .ref xa, .ref xk, .ref xt, .ref xh, .ref xs, .ref xS, .ref xw, .ref xW, .ref xB, .ref xM, .long jf, .long js, .int jb, .long nf, .long ns, .int nb, .ref xf, .ref xg, .ref xi]))] := hD
  refine va_put (D := (dC, dI)) (ci := 6) (v := .int (nI 1)) (ty := .int) (C := RMO) (T := TMO) (N := 27) hx hb hts in_MO tyMO tyMO_ok nmMO hown hK hP hD hS 0 rfl rfl 0 (by decide) (hts _ w_f_MO_87) (fun _ h9 => h9) rfl (by decide +kernel) (rfl) (rfl) (Nat.le_of_ble_eq_true rfl) dMO_share_7 (fun H locs hP hD hS => ?_)
  have hP : va_P (dC, dI) vwCl [(o, .inr (6, [.int (nI 1), .ref xv, .ref xo, .ref xn, .ref xc, .ref xb, .ref xd, .ref xq, .ref xa, .ref xk, .ref xt, .ref xh, .ref xs, .ref xS, .ref xw, .ref xW, .ref xB, .ref xM, .long jf, .long js, .int jb, .long nf, .long ns, .int nb, .ref xf, .ref xg, .ref xi]))] H := hP
  have hD : va_D A [(o, .inr (6, [.int (nI 1), .ref xv, .ref xo, .ref xn, .ref xc, .ref xb, .ref xd, .ref xq, .ref xa, .ref xk, .ref xt, .ref xh, .ref xs, .ref xS, .ref xw, .ref xW, .ref xB, .ref xM, .long jf, .long js, .int jb, .long nf, .long ns, .int nb, .ref xf, .ref xg, .ref xi]))] := hD
  refine lv_aload_n hx hb dMO_share_10 rfl (lv_at hl 0 rfl) ?_
  refine va_get (D := (dC, dI)) (ci := 6) (v := .int (nI 1)) (C := RMO) (T := TMO) (N := 27) hx hb hts in_MO hown hK hP 0 rfl rfl 0 (by decide) (hts _ w_f_MO_87) (fun _ h9 => h9) rfl dMO_share_11 ?_
  refine lv_if_le (tgt := 19) hx hb dMO_share_14 (by decide) (fun h => absurd h (by decide +kernel)) (fun _ => ?_)
  refine lv_lconst (v := 0) hx hb dMO_share_17 (by decide) ?_
  have hP : va_P (dC, dI) vwCl [(o, .inr (6, [.int (nI 1), .ref xv, .ref xo, .ref xn, .ref xc, .ref xb, .ref xd, .ref xq, .ref xa, .ref xk, .ref xt, .ref xh, .ref xs, .ref xS, .ref xw, .ref xW, .ref xB, .ref xM, .long jf, .long js, .int jb, .long nf, .long ns, .int nb, .ref xf, .ref xg, .ref xi]))] H := hP
  have hD : va_D A [(o, .inr (6, [.int (nI 1), .ref xv, .ref xo, .ref xn, .ref xc, .ref xb, .ref xd, .ref xq, .ref xa, .ref xk, .ref xt, .ref xh, .ref xs, .ref xS, .ref xw, .ref xW, .ref xB, .ref xM, .long jf, .long js, .int jb, .long nf, .long ns, .int nb, .ref xf, .ref xg, .ref xi]))] := hD
  subst hQ
  exact W.lret (v := 0) hx hb hr (fun t ht hW => ⟨⟨0, (), rfl, rfl, by rw [ht]; exact hP, va_K.moved hW.alike hK, hD⟩, hS.F ht⟩) hS.2.2 dMO_share_18
set_option maxHeartbeats 4000000 in
set_option maxRecDepth 100000 in
theorem c_MO_put_y (l : Launch) (dC : Nat → ClassId) (dI : Nat → Nat → Nat) (sz : Nat) (o xv xo xn xc xb xd xq xa xk xt xh xs xS xw xW xB xM xf xg xi : Nat) (th : Int32) (jf js : Int64) (jb : Int32) (nf ns : Int64) (nb : Int32) (cL : ClassId) (fo : Nat → Int64) (k i : Nat) (v : Int64) (hk : k < 2) (hi : i < 256) : Met l yMO_put wsMO_put { frames := 1, cells := 0, slots := 0, locals := 20 } (va_Pc [.ref o, .int (nI k), .int (nI i), .long v] (fun U => U.heap.size = sz ∧ va_P (dC, dI) vwCl [(o, .inr (6, [.int th, .ref xv, .ref xo, .ref xn, .ref xc, .ref xb, .ref xd, .ref xq, .ref xa, .ref xk, .ref xt, .ref xh, .ref xs, .ref xS, .ref xw, .ref xW, .ref xB, .ref xM, .long jf, .long js, .int jb, .long nf, .long ns, .int nb, .ref xf, .ref xg, .ref xi])), (xo, .inl (cL, 512, .inr (.inl fo)))] U.heap ∧ va_K (dC, dI) vwCl [(cL, .long)] U ∧ va_D (fun _ => True) [(o, .inr (6, [.int th, .ref xv, .ref xo, .ref xn, .ref xc, .ref xb, .ref xd, .ref xq, .ref xa, .ref xk, .ref xt, .ref xh, .ref xs, .ref xS, .ref xw, .ref xW, .ref xB, .ref xM, .long jf, .long js, .int jb, .long nf, .long ns, .int nb, .ref xf, .ref xg, .ref xi])), (xo, .inl (cL, 512, .inr (.inl fo)))])) (va_Qv (fun (_ : Unit) => True) (fun (_ : Unit) t => va_P (dC, dI) vwCl [(o, .inr (6, [.int (nI 0), .ref xv, .ref xo, .ref xn, .ref xc, .ref xb, .ref xd, .ref xq, .ref xa, .ref xk, .ref xt, .ref xh, .ref xs, .ref xS, .ref xw, .ref xW, .ref xB, .ref xM, .long jf, .long js, .int jb, .long nf, .long ns, .int nb, .ref xf, .ref xg, .ref xi])), (xo, .inl (cL, 512, .inr (.inl (vp_updL fo (256 * k + i) v))))] t.heap ∧ va_K (dC, dI) vwCl [(cL, .long)] t ∧ va_D (va_A [(o, .inr (6, [.int th, .ref xv, .ref xo, .ref xn, .ref xc, .ref xb, .ref xd, .ref xq, .ref xa, .ref xk, .ref xt, .ref xh, .ref xs, .ref xS, .ref xw, .ref xW, .ref xB, .ref xM, .long jf, .long js, .int jb, .long nf, .long ns, .int nb, .ref xf, .ref xg, .ref xi])), (xo, .inl (cL, 512, .inr (.inl fo)))] sz) [(o, .inr (6, [.int (nI 0), .ref xv, .ref xo, .ref xn, .ref xc, .ref xb, .ref xd, .ref xq, .ref xa, .ref xk, .ref xt, .ref xh, .ref xs, .ref xS, .ref xw, .ref xW, .ref xB, .ref xM, .long jf, .long js, .int jb, .long nf, .long ns, .int nb, .ref xf, .ref xg, .ref xi])), (xo, .inl (cL, 512, .inr (.inl (vp_updL fo (256 * k + i) v))))]) (va_A [(o, .inr (6, [.int th, .ref xv, .ref xo, .ref xn, .ref xc, .ref xb, .ref xd, .ref xq, .ref xa, .ref xk, .ref xt, .ref xh, .ref xs, .ref xS, .ref xw, .ref xW, .ref xB, .ref xM, .long jf, .long js, .int jb, .long nf, .long ns, .int nb, .ref xf, .ref xg, .ref xi])), (xo, .inl (cL, 512, .inr (.inl fo)))] sz)) 0 0 (va_A [(o, .inr (6, [.int th, .ref xv, .ref xo, .ref xn, .ref xc, .ref xb, .ref xd, .ref xq, .ref xa, .ref xk, .ref xt, .ref xh, .ref xs, .ref xS, .ref xw, .ref xW, .ref xB, .ref xM, .long jf, .long js, .int jb, .long nf, .long ns, .int nb, .ref xf, .ref xg, .ref xi])), (xo, .inl (cL, 512, .inr (.inl fo)))] sz) := by
  refine Met.ofW (cc := cMO_put) (maxL := 5) (ret := none) (by decide) rfl ?_
  intro p e s m args below meth c s₁ Bo9 hml hv
  obtain ⟨rfl, hsz, hP, hK, hD0⟩ := hv
  have hx := Bo9.exec
  have hb := Bo9.bytes
  have hr := Bo9.returns
  have hts := fun w (h : w ∈ wT) => atoms_spec (ws := wsMO_put) Bo9.pre w (List.mem_cons_of_mem _ h)
  have hown : s.vm.findClass RMO = some m.cls := findClass_of_methodNamed Bo9.named
  have hlocks := Bo9.notSynchronized
  subst hsz
  have hD := hD0.self (sz := s.heap.size)
  generalize hAe : va_A [(o, .inr (6, [.int th, .ref xv, .ref xo, .ref xn, .ref xc, .ref xb, .ref xd, .ref xq, .ref xa, .ref xk, .ref xt, .ref xh, .ref xs, .ref xS, .ref xw, .ref xW, .ref xB, .ref xM, .long jf, .long js, .int jb, .long nf, .long ns, .int nb, .ref xf, .ref xg, .ref xi])), (xo, .inl (cL, 512, .inr (.inl fo)))] s.heap.size = A at hD ⊢
  have hA : ∀ q : Nat, s.heap.size ≤ q → A q := fun q h => by rw [← hAe]; exact Or.inr h
  have hl := lv_entry ([.ref o, .int (nI k), .int (nI i), .long v]) (n := 5) (Nat.le_of_ble_eq_true rfl)
  rw [lg_entry_eq]
  generalize (lg_sl ([.ref o, .int (nI k), .int (nI i), .long v]) ++ List.replicate (5 - (lg_sl ([.ref o, .int (nI k), .int (nI i), .long v])).length) Slot.unset).toArray = ls at hl ⊢
  have hl : lv_has ls 5 [(0, .ref o), (1, .int (nI k)), (2, .int (nI i)), (3, .long v)] := hl
  refine xs_q (fun H Q hH hQ => ?_)
  have hS : va_S A s.heap H [] := by rw [hH]; exact va_S.rf
  have hP : va_P (dC, dI) vwCl [(o, .inr (6, [.int th, .ref xv, .ref xo, .ref xn, .ref xc, .ref xb, .ref xd, .ref xq, .ref xa, .ref xk, .ref xt, .ref xh, .ref xs, .ref xS, .ref xw, .ref xW, .ref xB, .ref xM, .long jf, .long js, .int jb, .long nf, .long ns, .int nb, .ref xf, .ref xg, .ref xi])), (xo, .inl (cL, 512, .inr (.inl fo)))] H := by rw [hH]; exact hP
  refine lv_aload_n hx hb dMO_put_0 rfl (lv_at hl 0 rfl) ?_
  refine lv_iload_n hx hb dMO_put_1 rfl (lv_at hl 1 rfl) ?_
  have hs9 : bs_ii (nI k) 2 = true := bs_ii_n hk (by omega)
  have hPc := hP.sub (ws' := []) [] rfl
  have hDc := hD.sub (ws' := []) [] (by decide) rfl
  have hKc := hK.sub (tys' := []) [] rfl
  have hFc := va_free (wc := []) hD hS hA [] rfl
  refine va_calli (va_runS (As := [.int (nI k)]) (rest := [.ref o]) ⟨hx, hb, hml, hown, hts⟩ (c_MO_isServer l dC dI H.size (nI k)) (va_cwS 1 hts (wT_3 w_m_MO_164 w_t_MO_isServer w_n_MO w_c_MO_isServer) rfl rfl rfl (by decide +kernel) ⟨Nat.le_of_ble_eq_true rfl, Nat.le_of_ble_eq_true rfl⟩) ⟨fun a U g mk q => by obtain ⟨q0, q1, qP, qK, qD⟩ := q; exact ⟨q0, q1, qP, va_K.moved (u := U) (U := U.calling g mk a) (Vm.Alike.refl U.vm) qK, qD⟩, fun U hU hW => ⟨rfl, by rw [hU], by rw [hU]; exact hPc, va_K.moved hW.alike hKc, hDc.weaken (fun _ _ _ _ => trivial)⟩⟩ rfl rfl hl.1 rfl (lv_room (Nat.le_of_ble_eq_true rfl)) dMO_put_2 ⟨Nat.zero_le _, Nat.zero_le _⟩) hS (fun q _ h => hFc q h) hFc (fun r u t H1 locs ht hvm hw hB hz1 hk1 hS => ?_)
  obtain ⟨hP1, hK1, hD1⟩ := hB
  rw [ht] at hP1
  have hK1 := va_K.moved hvm.symm hK1
  have hw : r = bs_z (bs_ii (nI k) 2) := hw
  subst hw
  obtain ⟨hP, hD⟩ := va_join (wr := [(o, .inr (6, [.int th, .ref xv, .ref xo, .ref xn, .ref xc, .ref xb, .ref xd, .ref xq, .ref xa, .ref xk, .ref xt, .ref xh, .ref xs, .ref xS, .ref xw, .ref xW, .ref xB, .ref xM, .long jf, .long js, .int jb, .long nf, .long ns, .int nb, .ref xf, .ref xg, .ref xi])), (xo, .inl (cL, 512, .inr (.inl fo)))]) (w1 := []) hP hD [] [0, 1] rfl rfl (by decide) (by decide) hk1 hFc hP1 hD1
  generalize H1 = H at hP hS ⊢
  have hP : va_P (dC, dI) vwCl [(o, .inr (6, [.int th, .ref xv, .ref xo, .ref xn, .ref xc, .ref xb, .ref xd, .ref xq, .ref xa, .ref xk, .ref xt, .ref xh, .ref xs, .ref xS, .ref xw, .ref xW, .ref xB, .ref xM, .long jf, .long js, .int jb, .long nf, .long ns, .int nb, .ref xf, .ref xg, .ref xi])), (xo, .inl (cL, 512, .inr (.inl fo)))] H := hP
  have hD : va_D A [(o, .inr (6, [.int th, .ref xv, .ref xo, .ref xn, .ref xc, .ref xb, .ref xd, .ref xq, .ref xa, .ref xk, .ref xt, .ref xh, .ref xs, .ref xS, .ref xw, .ref xW, .ref xB, .ref xM, .long jf, .long js, .int jb, .long nf, .long ns, .int nb, .ref xf, .ref xg, .ref xi])), (xo, .inl (cL, 512, .inr (.inl fo)))] := hD
  refine xt_i (y := nI 1) (by rw [hs9]; rfl) ?_
  refine lv_if_eq (tgt := 19) hx hb dMO_put_5 (by decide) (fun h => absurd h (by decide +kernel)) (fun _ => ?_)
  refine lv_iload_n hx hb dMO_put_8 rfl (lv_at hl 2 rfl) ?_
  have hp9 : bs_ii (nI i) 256 = true := bs_ii_n hi (by omega)
  have hPc := hP.sub (ws' := []) [] rfl
  have hDc := hD.sub (ws' := []) [] (by decide) rfl
  have hKc := hK.sub (tys' := []) [] rfl
  have hFc := va_free (wc := []) hD hS hA [] rfl
  refine va_calli (va_runS (As := [.int (nI i)]) (rest := [.ref o]) ⟨hx, hb, hml, hown, hts⟩ (c_MO_isPlace l dC dI H.size (nI i)) (va_cwS 1 hts (wT_3 w_m_MO_167 w_t_MO_isPlace w_n_MO w_c_MO_isPlace) rfl rfl rfl (by decide +kernel) ⟨Nat.le_of_ble_eq_true rfl, Nat.le_of_ble_eq_true rfl⟩) ⟨fun a U g mk q => by obtain ⟨q0, q1, qP, qK, qD⟩ := q; exact ⟨q0, q1, qP, va_K.moved (u := U) (U := U.calling g mk a) (Vm.Alike.refl U.vm) qK, qD⟩, fun U hU hW => ⟨rfl, by rw [hU], by rw [hU]; exact hPc, va_K.moved hW.alike hKc, hDc.weaken (fun _ _ _ _ => trivial)⟩⟩ rfl rfl hl.1 rfl (lv_room (Nat.le_of_ble_eq_true rfl)) dMO_put_9 ⟨Nat.zero_le _, Nat.zero_le _⟩) hS (fun q _ h => hFc q h) hFc (fun r u t H1 locs ht hvm hw hB hz1 hk1 hS => ?_)
  obtain ⟨hP1, hK1, hD1⟩ := hB
  rw [ht] at hP1
  have hK1 := va_K.moved hvm.symm hK1
  have hw : r = bs_z (bs_ii (nI i) 256) := hw
  subst hw
  obtain ⟨hP, hD⟩ := va_join (wr := [(o, .inr (6, [.int th, .ref xv, .ref xo, .ref xn, .ref xc, .ref xb, .ref xd, .ref xq, .ref xa, .ref xk, .ref xt, .ref xh, .ref xs, .ref xS, .ref xw, .ref xW, .ref xB, .ref xM, .long jf, .long js, .int jb, .long nf, .long ns, .int nb, .ref xf, .ref xg, .ref xi])), (xo, .inl (cL, 512, .inr (.inl fo)))]) (w1 := []) hP hD [] [0, 1] rfl rfl (by decide) (by decide) hk1 hFc hP1 hD1
  generalize H1 = H at hP hS ⊢
  have hP : va_P (dC, dI) vwCl [(o, .inr (6, [.int th, .ref xv, .ref xo, .ref xn, .ref xc, .ref xb, .ref xd, .ref xq, .ref xa, .ref xk, .ref xt, .ref xh, .ref xs, .ref xS, .ref xw, .ref xW, .ref xB, .ref xM, .long jf, .long js, .int jb, .long nf, .long ns, .int nb, .ref xf, .ref xg, .ref xi])), (xo, .inl (cL, 512, .inr (.inl fo)))] H := hP
  have hD : va_D A [(o, .inr (6, [.int th, .ref xv, .ref xo, .ref xn, .ref xc, .ref xb, .ref xd, .ref xq, .ref xa, .ref xk, .ref xt, .ref xh, .ref xs, .ref xS, .ref xw, .ref xW, .ref xB, .ref xM, .long jf, .long js, .int jb, .long nf, .long ns, .int nb, .ref xf, .ref xg, .ref xi])), (xo, .inl (cL, 512, .inr (.inl fo)))] := hD
  refine xt_i (y := nI 1) (by rw [hp9]; rfl) ?_
  refine lv_if_eq (tgt := 19) hx hb dMO_put_12 (by decide) (fun h => absurd h (by decide +kernel)) (fun _ => ?_)
  refine lv_iconst (v := nI 0) hx hb dMO_put_15 (by decide) ?_
  refine lv_goto (tgt := 20) hx hb dMO_put_16 (by decide) ?_
  refine va_put (D := (dC, dI)) (ci := 6) (v := .int (nI 0)) (ty := .int) (C := RMO) (T := TMO) (N := 27) hx hb hts in_MO tyMO tyMO_ok nmMO hown hK hP hD hS 0 rfl rfl 0 (by decide) (hts _ w_f_MO_87) (fun _ h9 => h9) rfl (by decide +kernel) (rfl) (rfl) (Nat.le_of_ble_eq_true rfl) dMO_put_20 (fun H locs hP hD hS => ?_)
  have hP : va_P (dC, dI) vwCl [(o, .inr (6, [.int (nI 0), .ref xv, .ref xo, .ref xn, .ref xc, .ref xb, .ref xd, .ref xq, .ref xa, .ref xk, .ref xt, .ref xh, .ref xs, .ref xS, .ref xw, .ref xW, .ref xB, .ref xM, .long jf, .long js, .int jb, .long nf, .long ns, .int nb, .ref xf, .ref xg, .ref xi])), (xo, .inl (cL, 512, .inr (.inl fo)))] H := hP
  have hD : va_D A [(o, .inr (6, [.int (nI 0), .ref xv, .ref xo, .ref xn, .ref xc, .ref xb, .ref xd, .ref xq, .ref xa, .ref xk, .ref xt, .ref xh, .ref xs, .ref xS, .ref xw, .ref xW, .ref xB, .ref xM, .long jf, .long js, .int jb, .long nf, .long ns, .int nb, .ref xf, .ref xg, .ref xi])), (xo, .inl (cL, 512, .inr (.inl fo)))] := hD
  refine lv_aload_n hx hb dMO_put_23 rfl (lv_at hl 0 rfl) ?_
  refine va_get (D := (dC, dI)) (ci := 6) (v := .int (nI 0)) (C := RMO) (T := TMO) (N := 27) hx hb hts in_MO hown hK hP 0 rfl rfl 0 (by decide) (hts _ w_f_MO_87) (fun _ h9 => h9) rfl dMO_put_24 ?_
  refine lv_if_ne (tgt := 43) hx hb dMO_put_27 (by decide) (fun h => absurd (by decide +kernel) h) (fun _ => ?_)
  refine lv_aload_n hx hb dMO_put_30 rfl (lv_at hl 0 rfl) ?_
  refine va_get (D := (dC, dI)) (ci := 6) (v := .ref xo) (C := RMO) (T := TMO) (N := 27) hx hb hts in_MO hown hK hP 0 rfl rfl 2 (by decide) (hts _ w_f_MO_13) (fun _ h9 => h9) rfl dMO_put_31 ?_
  refine lv_sipush (v := nI 256) hx hb dMO_put_34 (by decide) ?_
  refine lv_iload_n hx hb dMO_put_37 rfl (lv_at hl 1 rfl) ?_
  refine lv_imul hx hb dMO_put_38 ?_
  refine xt_i (y := nI (256 * k)) (pk_mul _ _) ?_
  refine lv_iload_n hx hb dMO_put_39 rfl (lv_at hl 2 rfl) ?_
  refine lv_iadd hx hb dMO_put_40 ?_
  refine xt_i (y := nI (256 * k + i)) (nI_add _ _) ?_
  refine lv_lload_n hx hb dMO_put_41 rfl (lv_at hl 3 rfl) ?_
  refine xa_last hx hb hK hP hD hS 1 0 rfl rfl (256 * k + i) (by omega) (by decide) dMO_put_42 (fun H locs hP hD hS => ?_)
  have hP : va_P (dC, dI) vwCl [(o, .inr (6, [.int (nI 0), .ref xv, .ref xo, .ref xn, .ref xc, .ref xb, .ref xd, .ref xq, .ref xa, .ref xk, .ref xt, .ref xh, .ref xs, .ref xS, .ref xw, .ref xW, .ref xB, .ref xM, .long jf, .long js, .int jb, .long nf, .long ns, .int nb, .ref xf, .ref xg, .ref xi])), (xo, .inl (cL, 512, .inr (.inl (vp_updL fo (256 * k + i) v))))] H := hP
  have hD : va_D A [(o, .inr (6, [.int (nI 0), .ref xv, .ref xo, .ref xn, .ref xc, .ref xb, .ref xd, .ref xq, .ref xa, .ref xk, .ref xt, .ref xh, .ref xs, .ref xS, .ref xw, .ref xW, .ref xB, .ref xM, .long jf, .long js, .int jb, .long nf, .long ns, .int nb, .ref xf, .ref xg, .ref xi])), (xo, .inl (cL, 512, .inr (.inl (vp_updL fo (256 * k + i) v))))] := hD
  have hP : va_P (dC, dI) vwCl [(o, .inr (6, [.int (nI 0), .ref xv, .ref xo, .ref xn, .ref xc, .ref xb, .ref xd, .ref xq, .ref xa, .ref xk, .ref xt, .ref xh, .ref xs, .ref xS, .ref xw, .ref xW, .ref xB, .ref xM, .long jf, .long js, .int jb, .long nf, .long ns, .int nb, .ref xf, .ref xg, .ref xi])), (xo, .inl (cL, 512, .inr (.inl (vp_updL fo (256 * k + i) v))))] H := hP
  have hD : va_D A [(o, .inr (6, [.int (nI 0), .ref xv, .ref xo, .ref xn, .ref xc, .ref xb, .ref xd, .ref xq, .ref xa, .ref xk, .ref xt, .ref xh, .ref xs, .ref xS, .ref xw, .ref xW, .ref xB, .ref xM, .long jf, .long js, .int jb, .long nf, .long ns, .int nb, .ref xf, .ref xg, .ref xi])), (xo, .inl (cL, 512, .inr (.inl (vp_updL fo (256 * k + i) v))))] := hD
  subst hQ
  exact W.vret hx hb hr (fun t ht hW => ⟨⟨(), rfl, trivial, by rw [ht]; exact hP, va_K.moved hW.alike hK, hD⟩, hS.F ht⟩) hS.2.2 dMO_put_43
set_option maxHeartbeats 4000000 in
set_option maxRecDepth 100000 in
theorem c_MO_put_n (l : Launch) (dC : Nat → ClassId) (dI : Nat → Nat → Nat) (sz : Nat) (o xv xo xn xc xb xd xq xa xk xt xh xs xS xw xW xB xM xf xg xi : Nat) (th : Int32) (jf js : Int64) (jb : Int32) (nf ns : Int64) (nb : Int32) (x y : Int32) (v : Int64) (hn : (bs_ii x 2 && bs_ii y 256) = false) : Met l yMO_put wsMO_put { frames := 1, cells := 0, slots := 0, locals := 20 } (va_Pc [.ref o, .int x, .int y, .long v] (fun U => U.heap.size = sz ∧ va_P (dC, dI) vwCl [(o, .inr (6, [.int th, .ref xv, .ref xo, .ref xn, .ref xc, .ref xb, .ref xd, .ref xq, .ref xa, .ref xk, .ref xt, .ref xh, .ref xs, .ref xS, .ref xw, .ref xW, .ref xB, .ref xM, .long jf, .long js, .int jb, .long nf, .long ns, .int nb, .ref xf, .ref xg, .ref xi]))] U.heap ∧ va_K (dC, dI) vwCl [] U ∧ va_D (fun _ => True) [(o, .inr (6, [.int th, .ref xv, .ref xo, .ref xn, .ref xc, .ref xb, .ref xd, .ref xq, .ref xa, .ref xk, .ref xt, .ref xh, .ref xs, .ref xS, .ref xw, .ref xW, .ref xB, .ref xM, .long jf, .long js, .int jb, .long nf, .long ns, .int nb, .ref xf, .ref xg, .ref xi]))])) (va_Qv (fun (_ : Unit) => True) (fun (_ : Unit) t => va_P (dC, dI) vwCl [(o, .inr (6, [.int (nI 1), .ref xv, .ref xo, .ref xn, .ref xc, .ref xb, .ref xd, .ref xq, .ref xa, .ref xk, .ref xt, .ref xh, .ref xs, .ref xS, .ref xw, .ref xW, .ref xB, .ref xM, .long jf, .long js, .int jb, .long nf, .long ns, .int nb, .ref xf, .ref xg, .ref xi]))] t.heap ∧ va_K (dC, dI) vwCl [] t ∧ va_D (va_A [(o, .inr (6, [.int th, .ref xv, .ref xo, .ref xn, .ref xc, .ref xb, .ref xd, .ref xq, .ref xa, .ref xk, .ref xt, .ref xh, .ref xs, .ref xS, .ref xw, .ref xW, .ref xB, .ref xM, .long jf, .long js, .int jb, .long nf, .long ns, .int nb, .ref xf, .ref xg, .ref xi]))] sz) [(o, .inr (6, [.int (nI 1), .ref xv, .ref xo, .ref xn, .ref xc, .ref xb, .ref xd, .ref xq, .ref xa, .ref xk, .ref xt, .ref xh, .ref xs, .ref xS, .ref xw, .ref xW, .ref xB, .ref xM, .long jf, .long js, .int jb, .long nf, .long ns, .int nb, .ref xf, .ref xg, .ref xi]))]) (va_A [(o, .inr (6, [.int th, .ref xv, .ref xo, .ref xn, .ref xc, .ref xb, .ref xd, .ref xq, .ref xa, .ref xk, .ref xt, .ref xh, .ref xs, .ref xS, .ref xw, .ref xW, .ref xB, .ref xM, .long jf, .long js, .int jb, .long nf, .long ns, .int nb, .ref xf, .ref xg, .ref xi]))] sz)) 0 0 (va_A [(o, .inr (6, [.int th, .ref xv, .ref xo, .ref xn, .ref xc, .ref xb, .ref xd, .ref xq, .ref xa, .ref xk, .ref xt, .ref xh, .ref xs, .ref xS, .ref xw, .ref xW, .ref xB, .ref xM, .long jf, .long js, .int jb, .long nf, .long ns, .int nb, .ref xf, .ref xg, .ref xi]))] sz) := by
  refine Met.ofW (cc := cMO_put) (maxL := 5) (ret := none) (by decide) rfl ?_
  intro p e s m args below meth c s₁ Bo9 hml hv
  obtain ⟨rfl, hsz, hP, hK, hD0⟩ := hv
  have hx := Bo9.exec
  have hb := Bo9.bytes
  have hr := Bo9.returns
  have hts := fun w (h : w ∈ wT) => atoms_spec (ws := wsMO_put) Bo9.pre w (List.mem_cons_of_mem _ h)
  have hown : s.vm.findClass RMO = some m.cls := findClass_of_methodNamed Bo9.named
  have hlocks := Bo9.notSynchronized
  subst hsz
  have hD := hD0.self (sz := s.heap.size)
  generalize hAe : va_A [(o, .inr (6, [.int th, .ref xv, .ref xo, .ref xn, .ref xc, .ref xb, .ref xd, .ref xq, .ref xa, .ref xk, .ref xt, .ref xh, .ref xs, .ref xS, .ref xw, .ref xW, .ref xB, .ref xM, .long jf, .long js, .int jb, .long nf, .long ns, .int nb, .ref xf, .ref xg, .ref xi]))] s.heap.size = A at hD ⊢
  have hA : ∀ q : Nat, s.heap.size ≤ q → A q := fun q h => by rw [← hAe]; exact Or.inr h
  have hl := lv_entry ([.ref o, .int x, .int y, .long v]) (n := 5) (Nat.le_of_ble_eq_true rfl)
  rw [lg_entry_eq]
  generalize (lg_sl ([.ref o, .int x, .int y, .long v]) ++ List.replicate (5 - (lg_sl ([.ref o, .int x, .int y, .long v])).length) Slot.unset).toArray = ls at hl ⊢
  have hl : lv_has ls 5 [(0, .ref o), (1, .int x), (2, .int y), (3, .long v)] := hl
  refine xs_q (fun H Q hH hQ => ?_)
  have hS : va_S A s.heap H [] := by rw [hH]; exact va_S.rf
  have hP : va_P (dC, dI) vwCl [(o, .inr (6, [.int th, .ref xv, .ref xo, .ref xn, .ref xc, .ref xb, .ref xd, .ref xq, .ref xa, .ref xk, .ref xt, .ref xh, .ref xs, .ref xS, .ref xw, .ref xW, .ref xB, .ref xM, .long jf, .long js, .int jb, .long nf, .long ns, .int nb, .ref xf, .ref xg, .ref xi]))] H := by rw [hH]; exact hP
  refine lv_aload_n hx hb dMO_put_0 rfl (lv_at hl 0 rfl) ?_
  refine lv_iload_n hx hb dMO_put_1 rfl (lv_at hl 1 rfl) ?_
  have hPc := hP.sub (ws' := []) [] rfl
  have hDc := hD.sub (ws' := []) [] (by decide) rfl
  have hKc := hK.sub (tys' := []) [] rfl
  have hFc := va_free (wc := []) hD hS hA [] rfl
  refine va_calli (va_runS (As := [.int x]) (rest := [.ref o]) ⟨hx, hb, hml, hown, hts⟩ (c_MO_isServer l dC dI H.size x) (va_cwS 1 hts (wT_3 w_m_MO_164 w_t_MO_isServer w_n_MO w_c_MO_isServer) rfl rfl rfl (by decide +kernel) ⟨Nat.le_of_ble_eq_true rfl, Nat.le_of_ble_eq_true rfl⟩) ⟨fun a U g mk q => by obtain ⟨q0, q1, qP, qK, qD⟩ := q; exact ⟨q0, q1, qP, va_K.moved (u := U) (U := U.calling g mk a) (Vm.Alike.refl U.vm) qK, qD⟩, fun U hU hW => ⟨rfl, by rw [hU], by rw [hU]; exact hPc, va_K.moved hW.alike hKc, hDc.weaken (fun _ _ _ _ => trivial)⟩⟩ rfl rfl hl.1 rfl (lv_room (Nat.le_of_ble_eq_true rfl)) dMO_put_2 ⟨Nat.zero_le _, Nat.zero_le _⟩) hS (fun q _ h => hFc q h) hFc (fun r u t H1 locs ht hvm hw hB hz1 hk1 hS => ?_)
  obtain ⟨hP1, hK1, hD1⟩ := hB
  rw [ht] at hP1
  have hK1 := va_K.moved hvm.symm hK1
  have hw : r = bs_z (bs_ii x 2) := hw
  subst hw
  obtain ⟨hP, hD⟩ := va_join (wr := [(o, .inr (6, [.int th, .ref xv, .ref xo, .ref xn, .ref xc, .ref xb, .ref xd, .ref xq, .ref xa, .ref xk, .ref xt, .ref xh, .ref xs, .ref xS, .ref xw, .ref xW, .ref xB, .ref xM, .long jf, .long js, .int jb, .long nf, .long ns, .int nb, .ref xf, .ref xg, .ref xi]))]) (w1 := []) hP hD [] [0] rfl rfl (by decide) (by decide) hk1 hFc hP1 hD1
  generalize H1 = H at hP hS ⊢
  have hP : va_P (dC, dI) vwCl [(o, .inr (6, [.int th, .ref xv, .ref xo, .ref xn, .ref xc, .ref xb, .ref xd, .ref xq, .ref xa, .ref xk, .ref xt, .ref xh, .ref xs, .ref xS, .ref xw, .ref xW, .ref xB, .ref xM, .long jf, .long js, .int jb, .long nf, .long ns, .int nb, .ref xf, .ref xg, .ref xi]))] H := hP
  have hD : va_D A [(o, .inr (6, [.int th, .ref xv, .ref xo, .ref xn, .ref xc, .ref xb, .ref xd, .ref xq, .ref xa, .ref xk, .ref xt, .ref xh, .ref xs, .ref xS, .ref xw, .ref xW, .ref xB, .ref xM, .long jf, .long js, .int jb, .long nf, .long ns, .int nb, .ref xf, .ref xg, .ref xi]))] := hD
  refine lv_if_eq (tgt := 19) hx hb dMO_put_5 (by decide) (fun h1 => ?_) (fun h1 => ?_)
  · refine lv_iconst (v := nI 1) hx hb dMO_put_19 (by decide) ?_
    refine va_put (D := (dC, dI)) (ci := 6) (v := .int (nI 1)) (ty := .int) (C := RMO) (T := TMO) (N := 27) hx hb hts in_MO tyMO tyMO_ok nmMO hown hK hP hD hS 0 rfl rfl 0 (by decide) (hts _ w_f_MO_87) (fun _ h9 => h9) rfl (by decide +kernel) (rfl) (rfl) (Nat.le_of_ble_eq_true rfl) dMO_put_20 (fun H locs hP hD hS => ?_)
    have hP : va_P (dC, dI) vwCl [(o, .inr (6, [.int (nI 1), .ref xv, .ref xo, .ref xn, .ref xc, .ref xb, .ref xd, .ref xq, .ref xa, .ref xk, .ref xt, .ref xh, .ref xs, .ref xS, .ref xw, .ref xW, .ref xB, .ref xM, .long jf, .long js, .int jb, .long nf, .long ns, .int nb, .ref xf, .ref xg, .ref xi]))] H := hP
    have hD : va_D A [(o, .inr (6, [.int (nI 1), .ref xv, .ref xo, .ref xn, .ref xc, .ref xb, .ref xd, .ref xq, .ref xa, .ref xk, .ref xt, .ref xh, .ref xs, .ref xS, .ref xw, .ref xW, .ref xB, .ref xM, .long jf, .long js, .int jb, .long nf, .long ns, .int nb, .ref xf, .ref xg, .ref xi]))] := hD
    refine lv_aload_n hx hb dMO_put_23 rfl (lv_at hl 0 rfl) ?_
    refine va_get (D := (dC, dI)) (ci := 6) (v := .int (nI 1)) (C := RMO) (T := TMO) (N := 27) hx hb hts in_MO hown hK hP 0 rfl rfl 0 (by decide) (hts _ w_f_MO_87) (fun _ h9 => h9) rfl dMO_put_24 ?_
    refine lv_if_ne (tgt := 43) hx hb dMO_put_27 (by decide) (fun _ => ?_) (fun h => absurd h (by decide +kernel))
    have hP : va_P (dC, dI) vwCl [(o, .inr (6, [.int (nI 1), .ref xv, .ref xo, .ref xn, .ref xc, .ref xb, .ref xd, .ref xq, .ref xa, .ref xk, .ref xt, .ref xh, .ref xs, .ref xS, .ref xw, .ref xW, .ref xB, .ref xM, .long jf, .long js, .int jb, .long nf, .long ns, .int nb, .ref xf, .ref xg, .ref xi]))] H := hP
    have hD : va_D A [(o, .inr (6, [.int (nI 1), .ref xv, .ref xo, .ref xn, .ref xc, .ref xb, .ref xd, .ref xq, .ref xa, .ref xk, .ref xt, .ref xh, .ref xs, .ref xS, .ref xw, .ref xW, .ref xB, .ref xM, .long jf, .long js, .int jb, .long nf, .long ns, .int nb, .ref xf, .ref xg, .ref xi]))] := hD
    subst hQ
    exact W.vret hx hb hr (fun t ht hW => ⟨⟨(), rfl, trivial, by rw [ht]; exact hP, va_K.moved hW.alike hK, hD⟩, hS.F ht⟩) hS.2.2 dMO_put_43
  · refine lv_iload_n hx hb dMO_put_8 rfl (lv_at hl 2 rfl) ?_
    have hPc := hP.sub (ws' := []) [] rfl
    have hDc := hD.sub (ws' := []) [] (by decide) rfl
    have hKc := hK.sub (tys' := []) [] rfl
    have hFc := va_free (wc := []) hD hS hA [] rfl
    refine va_calli (va_runS (As := [.int y]) (rest := [.ref o]) ⟨hx, hb, hml, hown, hts⟩ (c_MO_isPlace l dC dI H.size y) (va_cwS 1 hts (wT_3 w_m_MO_167 w_t_MO_isPlace w_n_MO w_c_MO_isPlace) rfl rfl rfl (by decide +kernel) ⟨Nat.le_of_ble_eq_true rfl, Nat.le_of_ble_eq_true rfl⟩) ⟨fun a U g mk q => by obtain ⟨q0, q1, qP, qK, qD⟩ := q; exact ⟨q0, q1, qP, va_K.moved (u := U) (U := U.calling g mk a) (Vm.Alike.refl U.vm) qK, qD⟩, fun U hU hW => ⟨rfl, by rw [hU], by rw [hU]; exact hPc, va_K.moved hW.alike hKc, hDc.weaken (fun _ _ _ _ => trivial)⟩⟩ rfl rfl hl.1 rfl (lv_room (Nat.le_of_ble_eq_true rfl)) dMO_put_9 ⟨Nat.zero_le _, Nat.zero_le _⟩) hS (fun q _ h => hFc q h) hFc (fun r u t H1 locs ht hvm hw hB hz1 hk1 hS => ?_)
    obtain ⟨hP1, hK1, hD1⟩ := hB
    rw [ht] at hP1
    have hK1 := va_K.moved hvm.symm hK1
    have hw : r = bs_z (bs_ii y 256) := hw
    subst hw
    obtain ⟨hP, hD⟩ := va_join (wr := [(o, .inr (6, [.int th, .ref xv, .ref xo, .ref xn, .ref xc, .ref xb, .ref xd, .ref xq, .ref xa, .ref xk, .ref xt, .ref xh, .ref xs, .ref xS, .ref xw, .ref xW, .ref xB, .ref xM, .long jf, .long js, .int jb, .long nf, .long ns, .int nb, .ref xf, .ref xg, .ref xi]))]) (w1 := []) hP hD [] [0] rfl rfl (by decide) (by decide) hk1 hFc hP1 hD1
    generalize H1 = H at hP hS ⊢
    have hP : va_P (dC, dI) vwCl [(o, .inr (6, [.int th, .ref xv, .ref xo, .ref xn, .ref xc, .ref xb, .ref xd, .ref xq, .ref xa, .ref xk, .ref xt, .ref xh, .ref xs, .ref xS, .ref xw, .ref xW, .ref xB, .ref xM, .long jf, .long js, .int jb, .long nf, .long ns, .int nb, .ref xf, .ref xg, .ref xi]))] H := hP
    have hD : va_D A [(o, .inr (6, [.int th, .ref xv, .ref xo, .ref xn, .ref xc, .ref xb, .ref xd, .ref xq, .ref xa, .ref xk, .ref xt, .ref xh, .ref xs, .ref xS, .ref xw, .ref xW, .ref xB, .ref xM, .long jf, .long js, .int jb, .long nf, .long ns, .int nb, .ref xf, .ref xg, .ref xi]))] := hD
    refine lv_if_eq (tgt := 19) hx hb dMO_put_12 (by decide) (fun h2 => ?_) (fun h2 => ?_)
    · refine lv_iconst (v := nI 1) hx hb dMO_put_19 (by decide) ?_
      refine va_put (D := (dC, dI)) (ci := 6) (v := .int (nI 1)) (ty := .int) (C := RMO) (T := TMO) (N := 27) hx hb hts in_MO tyMO tyMO_ok nmMO hown hK hP hD hS 0 rfl rfl 0 (by decide) (hts _ w_f_MO_87) (fun _ h9 => h9) rfl (by decide +kernel) (rfl) (rfl) (Nat.le_of_ble_eq_true rfl) dMO_put_20 (fun H locs hP hD hS => ?_)
      have hP : va_P (dC, dI) vwCl [(o, .inr (6, [.int (nI 1), .ref xv, .ref xo, .ref xn, .ref xc, .ref xb, .ref xd, .ref xq, .ref xa, .ref xk, .ref xt, .ref xh, .ref xs, .ref xS, .ref xw, .ref xW, .ref xB, .ref xM, .long jf, .long js, .int jb, .long nf, .long ns, .int nb, .ref xf, .ref xg, .ref xi]))] H := hP
      have hD : va_D A [(o, .inr (6, [.int (nI 1), .ref xv, .ref xo, .ref xn, .ref xc, .ref xb, .ref xd, .ref xq, .ref xa, .ref xk, .ref xt, .ref xh, .ref xs, .ref xS, .ref xw, .ref xW, .ref xB, .ref xM, .long jf, .long js, .int jb, .long nf, .long ns, .int nb, .ref xf, .ref xg, .ref xi]))] := hD
      refine lv_aload_n hx hb dMO_put_23 rfl (lv_at hl 0 rfl) ?_
      refine va_get (D := (dC, dI)) (ci := 6) (v := .int (nI 1)) (C := RMO) (T := TMO) (N := 27) hx hb hts in_MO hown hK hP 0 rfl rfl 0 (by decide) (hts _ w_f_MO_87) (fun _ h9 => h9) rfl dMO_put_24 ?_
      refine lv_if_ne (tgt := 43) hx hb dMO_put_27 (by decide) (fun _ => ?_) (fun h => absurd h (by decide +kernel))
      have hP : va_P (dC, dI) vwCl [(o, .inr (6, [.int (nI 1), .ref xv, .ref xo, .ref xn, .ref xc, .ref xb, .ref xd, .ref xq, .ref xa, .ref xk, .ref xt, .ref xh, .ref xs, .ref xS, .ref xw, .ref xW, .ref xB, .ref xM, .long jf, .long js, .int jb, .long nf, .long ns, .int nb, .ref xf, .ref xg, .ref xi]))] H := hP
      have hD : va_D A [(o, .inr (6, [.int (nI 1), .ref xv, .ref xo, .ref xn, .ref xc, .ref xb, .ref xd, .ref xq, .ref xa, .ref xk, .ref xt, .ref xh, .ref xs, .ref xS, .ref xw, .ref xW, .ref xB, .ref xM, .long jf, .long js, .int jb, .long nf, .long ns, .int nb, .ref xf, .ref xg, .ref xi]))] := hD
      subst hQ
      exact W.vret hx hb hr (fun t ht hW => ⟨⟨(), rfl, trivial, by rw [ht]; exact hP, va_K.moved hW.alike hK, hD⟩, hS.F ht⟩) hS.2.2 dMO_put_43
    · exact absurd hn (by rw [bs_z_1 h1, bs_z_1 h2]; decide)
set_option maxHeartbeats 4000000 in
set_option maxRecDepth 100000 in
theorem c_MO_combine (l : Launch) (dC : Nat → ClassId) (dI : Nat → Nat → Nat) (sz : Nat) (o xv xo xn xc xb xd xq xa xk xt xh xs xS xw xW xB xM xf xg xi : Nat) (th : Int32) (jf js : Int64) (jb : Int32) (nf ns : Int64) (nb : Int32) (cL : ClassId) (fa : Nat → Int64)  : Met l yMO_combine wsMO_combine { frames := 0, cells := 0, slots := 0, locals := 0 } (va_Pc [.ref o] (fun U => U.heap.size = sz ∧ va_P (dC, dI) vwCl [(o, .inr (6, [.int th, .ref xv, .ref xo, .ref xn, .ref xc, .ref xb, .ref xd, .ref xq, .ref xa, .ref xk, .ref xt, .ref xh, .ref xs, .ref xS, .ref xw, .ref xW, .ref xB, .ref xM, .long jf, .long js, .int jb, .long nf, .long ns, .int nb, .ref xf, .ref xg, .ref xi])), (xa, .inl (cL, 2, .inr (.inl fa)))] U.heap ∧ va_K (dC, dI) vwCl [(cL, .long)] U ∧ va_D (fun _ => True) [(o, .inr (6, [.int th, .ref xv, .ref xo, .ref xn, .ref xc, .ref xb, .ref xd, .ref xq, .ref xa, .ref xk, .ref xt, .ref xh, .ref xs, .ref xS, .ref xw, .ref xW, .ref xB, .ref xM, .long jf, .long js, .int jb, .long nf, .long ns, .int nb, .ref xf, .ref xg, .ref xi])), (xa, .inl (cL, 2, .inr (.inl fa)))])) (va_Ql (fun (r : Int64) (_ : Unit) => r = fa 0 ^^^ fa 1) (fun (_ : Unit) t => va_P (dC, dI) vwCl [(o, .inr (6, [.int (nI 0), .ref xv, .ref xo, .ref xn, .ref xc, .ref xb, .ref xd, .ref xq, .ref xa, .ref xk, .ref xt, .ref xh, .ref xs, .ref xS, .ref xw, .ref xW, .ref xB, .ref xM, .long jf, .long js, .int jb, .long nf, .long ns, .int nb, .ref xf, .ref xg, .ref xi])), (xa, .inl (cL, 2, .inr (.inl fa)))] t.heap ∧ va_K (dC, dI) vwCl [(cL, .long)] t ∧ va_D (va_A [(o, .inr (6, [.int th, .ref xv, .ref xo, .ref xn, .ref xc, .ref xb, .ref xd, .ref xq, .ref xa, .ref xk, .ref xt, .ref xh, .ref xs, .ref xS, .ref xw, .ref xW, .ref xB, .ref xM, .long jf, .long js, .int jb, .long nf, .long ns, .int nb, .ref xf, .ref xg, .ref xi])), (xa, .inl (cL, 2, .inr (.inl fa)))] sz) [(o, .inr (6, [.int (nI 0), .ref xv, .ref xo, .ref xn, .ref xc, .ref xb, .ref xd, .ref xq, .ref xa, .ref xk, .ref xt, .ref xh, .ref xs, .ref xS, .ref xw, .ref xW, .ref xB, .ref xM, .long jf, .long js, .int jb, .long nf, .long ns, .int nb, .ref xf, .ref xg, .ref xi])), (xa, .inl (cL, 2, .inr (.inl fa)))]) (va_A [(o, .inr (6, [.int th, .ref xv, .ref xo, .ref xn, .ref xc, .ref xb, .ref xd, .ref xq, .ref xa, .ref xk, .ref xt, .ref xh, .ref xs, .ref xS, .ref xw, .ref xW, .ref xB, .ref xM, .long jf, .long js, .int jb, .long nf, .long ns, .int nb, .ref xf, .ref xg, .ref xi])), (xa, .inl (cL, 2, .inr (.inl fa)))] sz)) 0 0 (va_A [(o, .inr (6, [.int th, .ref xv, .ref xo, .ref xn, .ref xc, .ref xb, .ref xd, .ref xq, .ref xa, .ref xk, .ref xt, .ref xh, .ref xs, .ref xS, .ref xw, .ref xW, .ref xB, .ref xM, .long jf, .long js, .int jb, .long nf, .long ns, .int nb, .ref xf, .ref xg, .ref xi])), (xa, .inl (cL, 2, .inr (.inl fa)))] sz) := by
  refine Met.ofW (cc := cMO_combine) (maxL := 1) (ret := (some .long)) (by decide) rfl ?_
  intro p e s m args below meth c s₁ Bo9 hml hv
  obtain ⟨rfl, hsz, hP, hK, hD0⟩ := hv
  have hx := Bo9.exec
  have hb := Bo9.bytes
  have hr := Bo9.returns
  have hts := fun w (h : w ∈ wT) => atoms_spec (ws := wsMO_combine) Bo9.pre w (List.mem_cons_of_mem _ h)
  have hown : s.vm.findClass RMO = some m.cls := findClass_of_methodNamed Bo9.named
  have hlocks := Bo9.notSynchronized
  subst hsz
  have hD := hD0.self (sz := s.heap.size)
  generalize hAe : va_A [(o, .inr (6, [.int th, .ref xv, .ref xo, .ref xn, .ref xc, .ref xb, .ref xd, .ref xq, .ref xa, .ref xk, .ref xt, .ref xh, .ref xs, .ref xS, .ref xw, .ref xW, .ref xB, .ref xM, .long jf, .long js, .int jb, .long nf, .long ns, .int nb, .ref xf, .ref xg, .ref xi])), (xa, .inl (cL, 2, .inr (.inl fa)))] s.heap.size = A at hD ⊢
  have hA : ∀ q : Nat, s.heap.size ≤ q → A q := fun q h => by rw [← hAe]; exact Or.inr h
  have hl := lv_entry ([.ref o]) (n := 1) (Nat.le_of_ble_eq_true rfl)
  rw [lg_entry_eq]
  generalize (lg_sl ([.ref o]) ++ List.replicate (1 - (lg_sl ([.ref o])).length) Slot.unset).toArray = ls at hl ⊢
  have hl : lv_has ls 1 [(0, .ref o)] := hl
  refine xs_q (fun H Q hH hQ => ?_)
  have hS : va_S A s.heap H [] := by rw [hH]; exact va_S.rf
  have hP : va_P (dC, dI) vwCl [(o, .inr (6, [.int th, .ref xv, .ref xo, .ref xn, .ref xc, .ref xb, .ref xd, .ref xq, .ref xa, .ref xk, .ref xt, .ref xh, .ref xs, .ref xS, .ref xw, .ref xW, .ref xB, .ref xM, .long jf, .long js, .int jb, .long nf, .long ns, .int nb, .ref xf, .ref xg, .ref xi])), (xa, .inl (cL, 2, .inr (.inl fa)))] H := by rw [hH]; exact hP
  refine lv_aload_n hx hb dMO_combine_0 rfl (lv_at hl 0 rfl) ?_
  refine lv_iconst (v := nI 0) hx hb dMO_combine_1 (by decide) ?_
  refine va_put (D := (dC, dI)) (ci := 6) (v := .int (nI 0)) (ty := .int) (C := RMO) (T := TMO) (N := 27) hx hb hts in_MO tyMO tyMO_ok nmMO hown hK hP hD hS 0 rfl rfl 0 (by decide) (hts _ w_f_MO_87) (fun _ h9 => h9) rfl (by decide +kernel) (rfl) (rfl) (Nat.le_of_ble_eq_true rfl) dMO_combine_2 (fun H locs hP hD hS => ?_)
  have hP : va_P (dC, dI) vwCl [(o, .inr (6, [.int (nI 0), .ref xv, .ref xo, .ref xn, .ref xc, .ref xb, .ref xd, .ref xq, .ref xa, .ref xk, .ref xt, .ref xh, .ref xs, .ref xS, .ref xw, .ref xW, .ref xB, .ref xM, .long jf, .long js, .int jb, .long nf, .long ns, .int nb, .ref xf, .ref xg, .ref xi])), (xa, .inl (cL, 2, .inr (.inl fa)))] H := hP
  have hD : va_D A [(o, .inr (6, [.int (nI 0), .ref xv, .ref xo, .ref xn, .ref xc, .ref xb, .ref xd, .ref xq, .ref xa, .ref xk, .ref xt, .ref xh, .ref xs, .ref xS, .ref xw, .ref xW, .ref xB, .ref xM, .long jf, .long js, .int jb, .long nf, .long ns, .int nb, .ref xf, .ref xg, .ref xi])), (xa, .inl (cL, 2, .inr (.inl fa)))] := hD
  refine lv_aload_n hx hb dMO_combine_5 rfl (lv_at hl 0 rfl) ?_
  refine va_get (D := (dC, dI)) (ci := 6) (v := .ref xa) (C := RMO) (T := TMO) (N := 27) hx hb hts in_MO hown hK hP 0 rfl rfl 8 (by decide) (hts _ w_f_MO_32) (fun _ h9 => h9) rfl dMO_combine_6 ?_
  refine lv_iconst (v := nI 0) hx hb dMO_combine_9 (by decide) ?_
  refine xa_lald hx hb hK hP 1 0 rfl rfl 0 (by omega) (by decide) dMO_combine_10 ?_
  refine lv_aload_n hx hb dMO_combine_11 rfl (lv_at hl 0 rfl) ?_
  refine va_get (D := (dC, dI)) (ci := 6) (v := .ref xa) (C := RMO) (T := TMO) (N := 27) hx hb hts in_MO hown hK hP 0 rfl rfl 8 (by decide) (hts _ w_f_MO_32) (fun _ h9 => h9) rfl dMO_combine_12 ?_
  refine lv_iconst (v := nI 1) hx hb dMO_combine_15 (by decide) ?_
  refine xa_lald hx hb hK hP 1 0 rfl rfl 1 (by omega) (by decide) dMO_combine_16 ?_
  refine lv_lxor hx hb dMO_combine_17 ?_
  have hP : va_P (dC, dI) vwCl [(o, .inr (6, [.int (nI 0), .ref xv, .ref xo, .ref xn, .ref xc, .ref xb, .ref xd, .ref xq, .ref xa, .ref xk, .ref xt, .ref xh, .ref xs, .ref xS, .ref xw, .ref xW, .ref xB, .ref xM, .long jf, .long js, .int jb, .long nf, .long ns, .int nb, .ref xf, .ref xg, .ref xi])), (xa, .inl (cL, 2, .inr (.inl fa)))] H := hP
  have hD : va_D A [(o, .inr (6, [.int (nI 0), .ref xv, .ref xo, .ref xn, .ref xc, .ref xb, .ref xd, .ref xq, .ref xa, .ref xk, .ref xt, .ref xh, .ref xs, .ref xS, .ref xw, .ref xW, .ref xB, .ref xM, .long jf, .long js, .int jb, .long nf, .long ns, .int nb, .ref xf, .ref xg, .ref xi])), (xa, .inl (cL, 2, .inr (.inl fa)))] := hD
  subst hQ
  exact W.lret (v := (fa 0) ^^^ (fa 1)) hx hb hr (fun t ht hW => ⟨⟨(fa 0) ^^^ (fa 1), (), rfl, rfl, by rw [ht]; exact hP, va_K.moved hW.alike hK, hD⟩, hS.F ht⟩) hS.2.2 dMO_combine_18
set_option maxHeartbeats 4000000 in
set_option maxRecDepth 100000 in
theorem c_MO_thrown (l : Launch) (dC : Nat → ClassId) (dI : Nat → Nat → Nat) (sz : Nat) (o xv xo xn xc xb xd xq xa xk xt xh xs xS xw xW xB xM xf xg xi : Nat) (th : Int32) (jf js : Int64) (jb : Int32) (nf ns : Int64) (nb : Int32)   : Met l yMO_thrown wsMO_thrown { frames := 0, cells := 0, slots := 0, locals := 0 } (va_Pc [.ref o] (fun U => U.heap.size = sz ∧ va_P (dC, dI) vwCl [(o, .inr (6, [.int th, .ref xv, .ref xo, .ref xn, .ref xc, .ref xb, .ref xd, .ref xq, .ref xa, .ref xk, .ref xt, .ref xh, .ref xs, .ref xS, .ref xw, .ref xW, .ref xB, .ref xM, .long jf, .long js, .int jb, .long nf, .long ns, .int nb, .ref xf, .ref xg, .ref xi]))] U.heap ∧ va_K (dC, dI) vwCl [] U ∧ va_D (fun _ => True) [(o, .inr (6, [.int th, .ref xv, .ref xo, .ref xn, .ref xc, .ref xb, .ref xd, .ref xq, .ref xa, .ref xk, .ref xt, .ref xh, .ref xs, .ref xS, .ref xw, .ref xW, .ref xB, .ref xM, .long jf, .long js, .int jb, .long nf, .long ns, .int nb, .ref xf, .ref xg, .ref xi]))])) (va_Qi (fun (r : Int32) (_ : Unit) => r = th) (fun (_ : Unit) t => va_P (dC, dI) vwCl [(o, .inr (6, [.int th, .ref xv, .ref xo, .ref xn, .ref xc, .ref xb, .ref xd, .ref xq, .ref xa, .ref xk, .ref xt, .ref xh, .ref xs, .ref xS, .ref xw, .ref xW, .ref xB, .ref xM, .long jf, .long js, .int jb, .long nf, .long ns, .int nb, .ref xf, .ref xg, .ref xi]))] t.heap ∧ va_K (dC, dI) vwCl [] t ∧ va_D (va_A [(o, .inr (6, [.int th, .ref xv, .ref xo, .ref xn, .ref xc, .ref xb, .ref xd, .ref xq, .ref xa, .ref xk, .ref xt, .ref xh, .ref xs, .ref xS, .ref xw, .ref xW, .ref xB, .ref xM, .long jf, .long js, .int jb, .long nf, .long ns, .int nb, .ref xf, .ref xg, .ref xi]))] sz) [(o, .inr (6, [.int th, .ref xv, .ref xo, .ref xn, .ref xc, .ref xb, .ref xd, .ref xq, .ref xa, .ref xk, .ref xt, .ref xh, .ref xs, .ref xS, .ref xw, .ref xW, .ref xB, .ref xM, .long jf, .long js, .int jb, .long nf, .long ns, .int nb, .ref xf, .ref xg, .ref xi]))]) (va_A [(o, .inr (6, [.int th, .ref xv, .ref xo, .ref xn, .ref xc, .ref xb, .ref xd, .ref xq, .ref xa, .ref xk, .ref xt, .ref xh, .ref xs, .ref xS, .ref xw, .ref xW, .ref xB, .ref xM, .long jf, .long js, .int jb, .long nf, .long ns, .int nb, .ref xf, .ref xg, .ref xi]))] sz)) 0 0 (va_A [(o, .inr (6, [.int th, .ref xv, .ref xo, .ref xn, .ref xc, .ref xb, .ref xd, .ref xq, .ref xa, .ref xk, .ref xt, .ref xh, .ref xs, .ref xS, .ref xw, .ref xW, .ref xB, .ref xM, .long jf, .long js, .int jb, .long nf, .long ns, .int nb, .ref xf, .ref xg, .ref xi]))] sz) := by
  refine Met.ofW (cc := cMO_thrown) (maxL := 1) (ret := (some .int)) (by decide) rfl ?_
  intro p e s m args below meth c s₁ Bo9 hml hv
  obtain ⟨rfl, hsz, hP, hK, hD0⟩ := hv
  have hx := Bo9.exec
  have hb := Bo9.bytes
  have hr := Bo9.returns
  have hts := fun w (h : w ∈ wT) => atoms_spec (ws := wsMO_thrown) Bo9.pre w (List.mem_cons_of_mem _ h)
  have hown : s.vm.findClass RMO = some m.cls := findClass_of_methodNamed Bo9.named
  have hlocks := Bo9.notSynchronized
  subst hsz
  have hD := hD0.self (sz := s.heap.size)
  generalize hAe : va_A [(o, .inr (6, [.int th, .ref xv, .ref xo, .ref xn, .ref xc, .ref xb, .ref xd, .ref xq, .ref xa, .ref xk, .ref xt, .ref xh, .ref xs, .ref xS, .ref xw, .ref xW, .ref xB, .ref xM, .long jf, .long js, .int jb, .long nf, .long ns, .int nb, .ref xf, .ref xg, .ref xi]))] s.heap.size = A at hD ⊢
  have hA : ∀ q : Nat, s.heap.size ≤ q → A q := fun q h => by rw [← hAe]; exact Or.inr h
  have hl := lv_entry ([.ref o]) (n := 1) (Nat.le_of_ble_eq_true rfl)
  rw [lg_entry_eq]
  generalize (lg_sl ([.ref o]) ++ List.replicate (1 - (lg_sl ([.ref o])).length) Slot.unset).toArray = ls at hl ⊢
  have hl : lv_has ls 1 [(0, .ref o)] := hl
  refine xs_q (fun H Q hH hQ => ?_)
  have hS : va_S A s.heap H [] := by rw [hH]; exact va_S.rf
  have hP : va_P (dC, dI) vwCl [(o, .inr (6, [.int th, .ref xv, .ref xo, .ref xn, .ref xc, .ref xb, .ref xd, .ref xq, .ref xa, .ref xk, .ref xt, .ref xh, .ref xs, .ref xS, .ref xw, .ref xW, .ref xB, .ref xM, .long jf, .long js, .int jb, .long nf, .long ns, .int nb, .ref xf, .ref xg, .ref xi]))] H := by rw [hH]; exact hP
  refine lv_aload_n hx hb dMO_thrown_0 rfl (lv_at hl 0 rfl) ?_
  refine va_get (D := (dC, dI)) (ci := 6) (v := .int th) (C := RMO) (T := TMO) (N := 27) hx hb hts in_MO hown hK hP 0 rfl rfl 0 (by decide) (hts _ w_f_MO_87) (fun _ h9 => h9) rfl dMO_thrown_1 ?_
  have hP : va_P (dC, dI) vwCl [(o, .inr (6, [.int th, .ref xv, .ref xo, .ref xn, .ref xc, .ref xb, .ref xd, .ref xq, .ref xa, .ref xk, .ref xt, .ref xh, .ref xs, .ref xS, .ref xw, .ref xW, .ref xB, .ref xM, .long jf, .long js, .int jb, .long nf, .long ns, .int nb, .ref xf, .ref xg, .ref xi]))] H := hP
  have hD : va_D A [(o, .inr (6, [.int th, .ref xv, .ref xo, .ref xn, .ref xc, .ref xb, .ref xd, .ref xq, .ref xa, .ref xk, .ref xt, .ref xh, .ref xs, .ref xS, .ref xw, .ref xW, .ref xB, .ref xM, .long jf, .long js, .int jb, .long nf, .long ns, .int nb, .ref xf, .ref xg, .ref xi]))] := hD
  subst hQ
  exact W.iret (v := th) hx hb hr (fun t ht hW => ⟨⟨th, (), rfl, rfl, by rw [ht]; exact hP, va_K.moved hW.alike hK, hD⟩, hS.F ht⟩) hS.2.2 dMO_thrown_4
