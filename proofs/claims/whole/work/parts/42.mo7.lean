/-! BlindShelfModel: others, close, mailbox, record -/
set_option maxHeartbeats 4000000 in
set_option maxRecDepth 100000 in
theorem c_MO_others (l : Launch) (dC : Nat → ClassId) (dI : Nat → Nat → Nat) (sz : Nat) (o xv xo xn xc xb xd xq xa xk xt xh xs xS xw xW xB xM xf xg xi : Nat) (th : Int32) (jf js : Int64) (jb : Int32) (nf ns : Int64) (nb : Int32) (cI cL : ClassId) (nv : Nat → Int32) (fo fv : Nat → Int64) (k v : Nat) (hk : k < 2) (hv : v < 2 ^ 30) (hn : nv k = nI v) : Met l yMO_others wsMO_others { frames := 1, cells := 0, slots := 0, locals := 22 } (va_Pc [.ref o, .int (nI k)] (fun U => U.heap.size = sz ∧ va_P (dC, dI) vwCl [(o, .inr (6, [.int th, .ref xv, .ref xo, .ref xn, .ref xc, .ref xb, .ref xd, .ref xq, .ref xa, .ref xk, .ref xt, .ref xh, .ref xs, .ref xS, .ref xw, .ref xW, .ref xB, .ref xM, .long jf, .long js, .int jb, .long nf, .long ns, .int nb, .ref xf, .ref xg, .ref xi])), (xo, .inl (cL, 512, .inr (.inl fo))), (xv, .inl (cL, 4608, .inr (.inl fv))), (xn, .inl (cI, 2, .inl nv))] U.heap ∧ va_K (dC, dI) vwCl [(cI, .int), (cL, .long)] U ∧ va_D (fun _ => True) [(o, .inr (6, [.int th, .ref xv, .ref xo, .ref xn, .ref xc, .ref xb, .ref xd, .ref xq, .ref xa, .ref xk, .ref xt, .ref xh, .ref xs, .ref xS, .ref xw, .ref xW, .ref xB, .ref xM, .long jf, .long js, .int jb, .long nf, .long ns, .int nb, .ref xf, .ref xg, .ref xi])), (xo, .inl (cL, 512, .inr (.inl fo))), (xv, .inl (cL, 4608, .inr (.inl fv))), (xn, .inl (cI, 2, .inl nv))])) (va_Qi (fun (r : Int32) (_ : Unit) => r = nI (bs_chg (bs_fa fo (256 * k)) (bs_fa fv (256 * (9 * k + v % 9))) 256)) (fun (_ : Unit) t => va_P (dC, dI) vwCl [(o, .inr (6, [.int th, .ref xv, .ref xo, .ref xn, .ref xc, .ref xb, .ref xd, .ref xq, .ref xa, .ref xk, .ref xt, .ref xh, .ref xs, .ref xS, .ref xw, .ref xW, .ref xB, .ref xM, .long jf, .long js, .int jb, .long nf, .long ns, .int nb, .ref xf, .ref xg, .ref xi])), (xo, .inl (cL, 512, .inr (.inl fo))), (xv, .inl (cL, 4608, .inr (.inl fv))), (xn, .inl (cI, 2, .inl nv))] t.heap ∧ va_K (dC, dI) vwCl [(cI, .int), (cL, .long)] t ∧ va_D (va_A [(o, .inr (6, [.int th, .ref xv, .ref xo, .ref xn, .ref xc, .ref xb, .ref xd, .ref xq, .ref xa, .ref xk, .ref xt, .ref xh, .ref xs, .ref xS, .ref xw, .ref xW, .ref xB, .ref xM, .long jf, .long js, .int jb, .long nf, .long ns, .int nb, .ref xf, .ref xg, .ref xi])), (xo, .inl (cL, 512, .inr (.inl fo))), (xv, .inl (cL, 4608, .inr (.inl fv))), (xn, .inl (cI, 2, .inl nv))] sz) [(o, .inr (6, [.int th, .ref xv, .ref xo, .ref xn, .ref xc, .ref xb, .ref xd, .ref xq, .ref xa, .ref xk, .ref xt, .ref xh, .ref xs, .ref xS, .ref xw, .ref xW, .ref xB, .ref xM, .long jf, .long js, .int jb, .long nf, .long ns, .int nb, .ref xf, .ref xg, .ref xi])), (xo, .inl (cL, 512, .inr (.inl fo))), (xv, .inl (cL, 4608, .inr (.inl fv))), (xn, .inl (cI, 2, .inl nv))]) (va_A [(o, .inr (6, [.int th, .ref xv, .ref xo, .ref xn, .ref xc, .ref xb, .ref xd, .ref xq, .ref xa, .ref xk, .ref xt, .ref xh, .ref xs, .ref xS, .ref xw, .ref xW, .ref xB, .ref xM, .long jf, .long js, .int jb, .long nf, .long ns, .int nb, .ref xf, .ref xg, .ref xi])), (xo, .inl (cL, 512, .inr (.inl fo))), (xv, .inl (cL, 4608, .inr (.inl fv))), (xn, .inl (cI, 2, .inl nv))] sz)) 0 0 (va_A [(o, .inr (6, [.int th, .ref xv, .ref xo, .ref xn, .ref xc, .ref xb, .ref xd, .ref xq, .ref xa, .ref xk, .ref xt, .ref xh, .ref xs, .ref xS, .ref xw, .ref xW, .ref xB, .ref xM, .long jf, .long js, .int jb, .long nf, .long ns, .int nb, .ref xf, .ref xg, .ref xi])), (xo, .inl (cL, 512, .inr (.inl fo))), (xv, .inl (cL, 4608, .inr (.inl fv))), (xn, .inl (cI, 2, .inl nv))] sz) := by
  refine Met.ofW (cc := cMO_others) (maxL := 5) (ret := (some .int)) (by decide) rfl ?_
  intro p e s m args below meth c s₁ Bo9 hml hv
  obtain ⟨rfl, hsz, hP, hK, hD0⟩ := hv
  have hx := Bo9.exec
  have hb := Bo9.bytes
  have hr := Bo9.returns
  have hts := fun w (h : w ∈ wT) => atoms_spec (ws := wsMO_others) Bo9.pre w (List.mem_cons_of_mem _ h)
  have hown : s.vm.findClass RMO = some m.cls := findClass_of_methodNamed Bo9.named
  have hlocks := Bo9.notSynchronized
  subst hsz
  have hD := hD0.self (sz := s.heap.size)
  generalize hAe : va_A [(o, .inr (6, [.int th, .ref xv, .ref xo, .ref xn, .ref xc, .ref xb, .ref xd, .ref xq, .ref xa, .ref xk, .ref xt, .ref xh, .ref xs, .ref xS, .ref xw, .ref xW, .ref xB, .ref xM, .long jf, .long js, .int jb, .long nf, .long ns, .int nb, .ref xf, .ref xg, .ref xi])), (xo, .inl (cL, 512, .inr (.inl fo))), (xv, .inl (cL, 4608, .inr (.inl fv))), (xn, .inl (cI, 2, .inl nv))] s.heap.size = A at hD ⊢
  have hA : ∀ q : Nat, s.heap.size ≤ q → A q := fun q h => by rw [← hAe]; exact Or.inr h
  have hl := lv_entry ([.ref o, .int (nI k)]) (n := 5) (Nat.le_of_ble_eq_true rfl)
  rw [lg_entry_eq]
  generalize (lg_sl ([.ref o, .int (nI k)]) ++ List.replicate (5 - (lg_sl ([.ref o, .int (nI k)])).length) Slot.unset).toArray = ls at hl ⊢
  have hl : lv_has ls 5 [(0, .ref o), (1, .int (nI k))] := hl
  refine xs_q (fun H Q hH hQ => ?_)
  have hS : va_S A s.heap H [] := by rw [hH]; exact va_S.rf
  have hP : va_P (dC, dI) vwCl [(o, .inr (6, [.int th, .ref xv, .ref xo, .ref xn, .ref xc, .ref xb, .ref xd, .ref xq, .ref xa, .ref xk, .ref xt, .ref xh, .ref xs, .ref xS, .ref xw, .ref xW, .ref xB, .ref xM, .long jf, .long js, .int jb, .long nf, .long ns, .int nb, .ref xf, .ref xg, .ref xi])), (xo, .inl (cL, 512, .inr (.inl fo))), (xv, .inl (cL, 4608, .inr (.inl fv))), (xn, .inl (cI, 2, .inl nv))] H := by rw [hH]; exact hP
  refine lv_aload_n hx hb dMO_others_0 rfl (lv_at hl 0 rfl) ?_
  refine lv_iload_n hx hb dMO_others_1 rfl (lv_at hl 1 rfl) ?_
  refine lv_aload_n hx hb dMO_others_2 rfl (lv_at hl 0 rfl) ?_
  refine va_get (D := (dC, dI)) (ci := 6) (v := .ref xn) (C := RMO) (T := TMO) (N := 27) hx hb hts in_MO hown hK hP 0 rfl rfl 3 (by decide) (hts _ w_f_MO_16) (fun _ h9 => h9) rfl dMO_others_3 ?_
  refine lv_iload_n hx hb dMO_others_6 rfl (lv_at hl 1 rfl) ?_
  refine xa_iald hx hb hK hP 3 0 rfl rfl k (by omega) (by decide) dMO_others_7 ?_
  refine xt_i (y := nI v) (hn) ?_
  have hPc := hP.sub (ws' := [(o, .inr (6, [.int th, .ref xv, .ref xo, .ref xn, .ref xc, .ref xb, .ref xd, .ref xq, .ref xa, .ref xk, .ref xt, .ref xh, .ref xs, .ref xS, .ref xw, .ref xW, .ref xB, .ref xM, .long jf, .long js, .int jb, .long nf, .long ns, .int nb, .ref xf, .ref xg, .ref xi]))]) [0] rfl
  have hDc := hD.sub (ws' := [(o, .inr (6, [.int th, .ref xv, .ref xo, .ref xn, .ref xc, .ref xb, .ref xd, .ref xq, .ref xa, .ref xk, .ref xt, .ref xh, .ref xs, .ref xS, .ref xw, .ref xW, .ref xB, .ref xM, .long jf, .long js, .int jb, .long nf, .long ns, .int nb, .ref xf, .ref xg, .ref xi]))]) [0] (by decide) rfl
  have hKc := hK.sub (tys' := []) [] rfl
  have hFc := va_free (wc := [(o, .inr (6, [.int th, .ref xv, .ref xo, .ref xn, .ref xc, .ref xb, .ref xd, .ref xq, .ref xa, .ref xk, .ref xt, .ref xh, .ref xs, .ref xS, .ref xw, .ref xW, .ref xB, .ref xM, .long jf, .long js, .int jb, .long nf, .long ns, .int nb, .ref xf, .ref xg, .ref xi]))]) hD hS hA [0] rfl
  refine va_calli (va_runV (C := RMO) (As := [.int (nI k), .int (nI v)]) (rest := []) ⟨hx, hb, hml, hown, hts⟩ (c_MO_base l dC dI H.size o xv xo xn xc xb xd xq xa xk xt xh xs xS xw xW xB xM xf xg xi th jf js jb nf ns nb k v hk (by omega)) (cwV (C := RMO) 2 hts (wT_4 w_m_MO_170 w_i_MO_base w_s_MO_base w_n_MO w_c_MO_base) rfl rfl rfl (by decide +kernel) ⟨Nat.le_of_ble_eq_true rfl, Nat.le_of_ble_eq_true rfl⟩) ⟨fun a U g mk q => by obtain ⟨q0, q1, qP, qK, qD⟩ := q; exact ⟨q0, q1, qP, va_K.moved (u := U) (U := U.calling g mk a) (Vm.Alike.refl U.vm) qK, qD⟩, va_recv hK hP (q0 := 0) (ci := 6) (q := (RMO, TMO, 27)) rfl rfl, fun U hU hW => ⟨rfl, by rw [hU], by rw [hU]; exact hPc, va_K.moved hW.alike hKc, hDc.weaken (fun _ _ _ _ => trivial)⟩⟩ rfl rfl hl.1 rfl (lv_room (Nat.le_of_ble_eq_true rfl)) dMO_others_8 ⟨Nat.zero_le _, Nat.zero_le _⟩) hS (fun q _ h => hFc q h) hFc (fun r u t H1 locs ht hvm hw hB hz1 hk1 hS => ?_)
  obtain ⟨hP1, hK1, hD1⟩ := hB
  rw [ht] at hP1
  have hK1 := va_K.moved hvm.symm hK1
  have hw : r = nI (256 * (9 * k + v % 9)) := hw
  subst hw
  obtain ⟨hP, hD⟩ := va_join (wr := [(xo, .inl (cL, 512, .inr (.inl fo))), (xv, .inl (cL, 4608, .inr (.inl fv))), (xn, .inl (cI, 2, .inl nv))]) (w1 := [(o, .inr (6, [.int th, .ref xv, .ref xo, .ref xn, .ref xc, .ref xb, .ref xd, .ref xq, .ref xa, .ref xk, .ref xt, .ref xh, .ref xs, .ref xS, .ref xw, .ref xW, .ref xB, .ref xM, .long jf, .long js, .int jb, .long nf, .long ns, .int nb, .ref xf, .ref xg, .ref xi]))]) hP hD [0] [1, 2, 3] rfl rfl (by decide) (by decide) hk1 hFc hP1 hD1
  generalize H1 = H at hP hS ⊢
  have hP : va_P (dC, dI) vwCl [(xo, .inl (cL, 512, .inr (.inl fo))), (xv, .inl (cL, 4608, .inr (.inl fv))), (xn, .inl (cI, 2, .inl nv)), (o, .inr (6, [.int th, .ref xv, .ref xo, .ref xn, .ref xc, .ref xb, .ref xd, .ref xq, .ref xa, .ref xk, .ref xt, .ref xh, .ref xs, .ref xS, .ref xw, .ref xW, .ref xB, .ref xM, .long jf, .long js, .int jb, .long nf, .long ns, .int nb, .ref xf, .ref xg, .ref xi]))] H := hP
  have hD : va_D A [(xo, .inl (cL, 512, .inr (.inl fo))), (xv, .inl (cL, 4608, .inr (.inl fv))), (xn, .inl (cI, 2, .inl nv)), (o, .inr (6, [.int th, .ref xv, .ref xo, .ref xn, .ref xc, .ref xb, .ref xd, .ref xq, .ref xa, .ref xk, .ref xt, .ref xh, .ref xs, .ref xS, .ref xw, .ref xW, .ref xB, .ref xM, .long jf, .long js, .int jb, .long nf, .long ns, .int nb, .ref xf, .ref xg, .ref xi]))] := hD
  refine lv_istore_n (lv' := [(2, .int (nI (256 * (9 * k + v % 9)))), (0, .ref o), (1, .int (nI k))]) hx hb dMO_others_11 rfl hl (by decide) rfl (fun ls hl => ?_)
  refine lv_iconst (v := nI 0) hx hb dMO_others_12 (by decide) ?_
  refine lv_istore_n (lv' := [(3, .int (nI 0)), (2, .int (nI (256 * (9 * k + v % 9)))), (0, .ref o), (1, .int (nI k))]) hx hb dMO_others_13 rfl hl (by decide) rfl (fun ls hl => ?_)
  refine lv_iconst (v := nI 0) hx hb dMO_others_14 (by decide) ?_
  refine lv_istore (lv' := [(4, .int (nI 0)), (3, .int (nI 0)), (2, .int (nI (256 * (9 * k + v % 9)))), (0, .ref o), (1, .int (nI k))]) hx hb dMO_others_15 hl (by decide) rfl (fun ls hl => ?_)
  have loop : ∀ (n i : Nat), i + n = 256 → ∀ (H : Heap) (locs : List Loc) (ls : Array Slot), va_P (dC, dI) vwCl [(o, .inr (6, [.int th, .ref xv, .ref xo, .ref xn, .ref xc, .ref xb, .ref xd, .ref xq, .ref xa, .ref xk, .ref xt, .ref xh, .ref xs, .ref xS, .ref xw, .ref xW, .ref xB, .ref xM, .long jf, .long js, .int jb, .long nf, .long ns, .int nb, .ref xf, .ref xg, .ref xi])), (xo, .inl (cL, 512, .inr (.inl fo))), (xv, .inl (cL, 4608, .inr (.inl fv))), (xn, .inl (cI, 2, .inl nv))] H → va_D A [(o, .inr (6, [.int th, .ref xv, .ref xo, .ref xn, .ref xc, .ref xb, .ref xd, .ref xq, .ref xa, .ref xk, .ref xt, .ref xh, .ref xs, .ref xS, .ref xw, .ref xW, .ref xB, .ref xM, .long jf, .long js, .int jb, .long nf, .long ns, .int nb, .ref xf, .ref xg, .ref xi])), (xo, .inl (cL, 512, .inr (.inl fo))), (xv, .inl (cL, 4608, .inr (.inl fv))), (xn, .inl (cI, 2, .inl nv))] → va_S A s.heap H locs → lv_has ls 5 [(0, .ref o), (1, .int (nI k)), (2, .int (nI (256 * (9 * k + v % 9)))), (3, .int (nI (bs_chg (bs_fa fo (256 * k)) (bs_fa fv (256 * (9 * k + v % 9))) i))), (4, .int (nI i))] → W p l e (headSpec wsMO_others { frames := 1, cells := 0, slots := 0, locals := 22 }).room s m ([.ref o, .int (nI k)] : List Value).toArray below meth c H locs 0 0 Q (F0 m 17 ls []) := by
    intro n
    induction n with
    | zero =>
      intro i hi H locs ls hP hD hS hl
      obtain rfl : i = 256 := by omega
      refine lv_iload hx hb dMO_others_17 (lv_at hl 4 rfl) ?_
      refine lv_sipush (v := nI 256) hx hb dMO_others_19 (by decide) ?_
      refine lv_icmp_ge (tgt := 65) hx hb dMO_others_22 (by decide) (fun _ => ?_) (fun h => absurd (nI_le (by omega) (by omega)) h)
      refine lv_iload_n hx hb dMO_others_65 rfl (lv_at hl 3 rfl) ?_
      have hP : va_P (dC, dI) vwCl [(o, .inr (6, [.int th, .ref xv, .ref xo, .ref xn, .ref xc, .ref xb, .ref xd, .ref xq, .ref xa, .ref xk, .ref xt, .ref xh, .ref xs, .ref xS, .ref xw, .ref xW, .ref xB, .ref xM, .long jf, .long js, .int jb, .long nf, .long ns, .int nb, .ref xf, .ref xg, .ref xi])), (xo, .inl (cL, 512, .inr (.inl fo))), (xv, .inl (cL, 4608, .inr (.inl fv))), (xn, .inl (cI, 2, .inl nv))] H := hP
      have hD : va_D A [(o, .inr (6, [.int th, .ref xv, .ref xo, .ref xn, .ref xc, .ref xb, .ref xd, .ref xq, .ref xa, .ref xk, .ref xt, .ref xh, .ref xs, .ref xS, .ref xw, .ref xW, .ref xB, .ref xM, .long jf, .long js, .int jb, .long nf, .long ns, .int nb, .ref xf, .ref xg, .ref xi])), (xo, .inl (cL, 512, .inr (.inl fo))), (xv, .inl (cL, 4608, .inr (.inl fv))), (xn, .inl (cI, 2, .inl nv))] := hD
      subst hQ
      exact W.iret (v := nI (bs_chg (bs_fa fo (256 * k)) (bs_fa fv (256 * (9 * k + v % 9))) 256)) hx hb hr (fun t ht hW => ⟨⟨nI (bs_chg (bs_fa fo (256 * k)) (bs_fa fv (256 * (9 * k + v % 9))) 256), (), rfl, rfl, by rw [ht]; exact hP, va_K.moved hW.alike hK, hD⟩, hS.F ht⟩) hS.2.2 dMO_others_66
    | succ n ih =>
      intro i hi H locs ls hP hD hS hl
      refine lv_iload hx hb dMO_others_17 (lv_at hl 4 rfl) ?_
      refine lv_sipush (v := nI 256) hx hb dMO_others_19 (by decide) ?_
      refine lv_icmp_ge (tgt := 65) hx hb dMO_others_22 (by decide) (fun h => absurd h (nI_ge (by omega) (by omega))) (fun _ => ?_)
      refine lv_iload_n hx hb dMO_others_25 rfl (lv_at hl 3 rfl) ?_
      refine lv_aload_n hx hb dMO_others_26 rfl (lv_at hl 0 rfl) ?_
      refine va_get (D := (dC, dI)) (ci := 6) (v := .ref xo) (C := RMO) (T := TMO) (N := 27) hx hb hts in_MO hown hK hP 0 rfl rfl 2 (by decide) (hts _ w_f_MO_13) (fun _ h9 => h9) rfl dMO_others_27 ?_
      refine lv_sipush (v := nI 256) hx hb dMO_others_30 (by decide) ?_
      refine lv_iload_n hx hb dMO_others_33 rfl (lv_at hl 1 rfl) ?_
      refine lv_imul hx hb dMO_others_34 ?_
      refine xt_i (y := nI (256 * k)) (pk_mul _ _) ?_
      refine lv_iload hx hb dMO_others_35 (lv_at hl 4 rfl) ?_
      refine lv_iadd hx hb dMO_others_37 ?_
      refine xt_i (y := nI (256 * k + i)) (nI_add _ _) ?_
      refine xa_lald hx hb hK hP 1 1 rfl rfl (256 * k + i) (by omega) (by decide) dMO_others_38 ?_
      refine lv_aload_n hx hb dMO_others_39 rfl (lv_at hl 0 rfl) ?_
      refine va_get (D := (dC, dI)) (ci := 6) (v := .ref xv) (C := RMO) (T := TMO) (N := 27) hx hb hts in_MO hown hK hP 0 rfl rfl 1 (by decide) (hts _ w_f_MO_7) (fun _ h9 => h9) rfl dMO_others_40 ?_
      refine lv_iload_n hx hb dMO_others_43 rfl (lv_at hl 2 rfl) ?_
      refine lv_iload hx hb dMO_others_44 (lv_at hl 4 rfl) ?_
      refine lv_iadd hx hb dMO_others_46 ?_
      refine xt_i (y := nI (256 * (9 * k + v % 9) + i)) (nI_add _ _) ?_
      refine xa_lald hx hb hK hP 2 1 rfl rfl (256 * (9 * k + v % 9) + i) (by omega) (by decide) dMO_others_47 ?_
      refine W.lcmp hx hb dMO_others_48 ?_
      refine lv_if_eq (tgt := 56) hx hb dMO_others_49 (by decide) (fun hc => ?_) (fun hc => ?_)
      · have h9 : (bs_fa fo (256 * k)) i = (bs_fa fv (256 * (9 * k + v % 9))) i := (lg_cmp_eq _ _).mp hc
        refine lv_iconst (v := nI 0) hx hb dMO_others_56 (by decide) ?_
        refine lv_iadd hx hb dMO_others_57 ?_
        refine xt_i (y := nI (bs_chg (bs_fa fo (256 * k)) (bs_fa fv (256 * (9 * k + v % 9))) i + 0)) (nI_add _ _) ?_
        refine xt_i (y := nI (bs_chg (bs_fa fo (256 * k)) (bs_fa fv (256 * (9 * k + v % 9))) (i + 1))) (congrArg nI (bs_chg_y h9)) ?_
        refine lv_istore_n (lv' := [(3, .int (nI (bs_chg (bs_fa fo (256 * k)) (bs_fa fv (256 * (9 * k + v % 9))) (i + 1)))), (0, .ref o), (1, .int (nI k)), (2, .int (nI (256 * (9 * k + v % 9)))), (4, .int (nI i))]) hx hb dMO_others_58 rfl hl (by decide) rfl (fun ls hl => ?_)
        refine lv_iinc (k := 4) (v := nI (i + 1)) (lv' := [(4, .int (nI (i + 1))), (3, .int (nI (bs_chg (bs_fa fo (256 * k)) (bs_fa fv (256 * (9 * k + v % 9))) (i + 1)))), (0, .ref o), (1, .int (nI k)), (2, .int (nI (256 * (9 * k + v % 9))))]) hx hb dMO_others_59 hl rfl (xi_1 _) (by decide) rfl (fun ls hl => ?_)
        refine lv_goto (tgt := 17) hx hb dMO_others_62 (by decide) ?_
        have hP : va_P (dC, dI) vwCl [(o, .inr (6, [.int th, .ref xv, .ref xo, .ref xn, .ref xc, .ref xb, .ref xd, .ref xq, .ref xa, .ref xk, .ref xt, .ref xh, .ref xs, .ref xS, .ref xw, .ref xW, .ref xB, .ref xM, .long jf, .long js, .int jb, .long nf, .long ns, .int nb, .ref xf, .ref xg, .ref xi])), (xo, .inl (cL, 512, .inr (.inl fo))), (xv, .inl (cL, 4608, .inr (.inl fv))), (xn, .inl (cI, 2, .inl nv))] H := hP
        have hD : va_D A [(o, .inr (6, [.int th, .ref xv, .ref xo, .ref xn, .ref xc, .ref xb, .ref xd, .ref xq, .ref xa, .ref xk, .ref xt, .ref xh, .ref xs, .ref xS, .ref xw, .ref xW, .ref xB, .ref xM, .long jf, .long js, .int jb, .long nf, .long ns, .int nb, .ref xf, .ref xg, .ref xi])), (xo, .inl (cL, 512, .inr (.inl fo))), (xv, .inl (cL, 4608, .inr (.inl fv))), (xn, .inl (cI, 2, .inl nv))] := hD
        have hl := lv_sub hl (l' := [(0, .ref o), (1, .int (nI k)), (2, .int (nI (256 * (9 * k + v % 9)))), (3, .int (nI (bs_chg (bs_fa fo (256 * k)) (bs_fa fv (256 * (9 * k + v % 9))) (i + 1)))), (4, .int (nI (i + 1)))]) [2, 3, 4, 1, 0] rfl
        have hl : lv_has ls 5 [(0, .ref o), (1, .int (nI k)), (2, .int (nI (256 * (9 * k + v % 9)))), (3, .int (nI (bs_chg (bs_fa fo (256 * k)) (bs_fa fv (256 * (9 * k + v % 9))) (i + 1)))), (4, .int (nI (i + 1)))] := hl
        exact ih (i + 1) (by omega) H _ ls hP hD hS hl
      · have h9 : ¬ (bs_fa fo (256 * k)) i = (bs_fa fv (256 * (9 * k + v % 9))) i := fun q => hc ((lg_cmp_eq _ _).mpr q)
        refine lv_iconst (v := nI 1) hx hb dMO_others_52 (by decide) ?_
        refine lv_goto (tgt := 57) hx hb dMO_others_53 (by decide) ?_
        refine lv_iadd hx hb dMO_others_57 ?_
        refine xt_i (y := nI (bs_chg (bs_fa fo (256 * k)) (bs_fa fv (256 * (9 * k + v % 9))) i + 1)) (nI_add _ _) ?_
        refine xt_i (y := nI (bs_chg (bs_fa fo (256 * k)) (bs_fa fv (256 * (9 * k + v % 9))) (i + 1))) (congrArg nI (bs_chg_n h9)) ?_
        refine lv_istore_n (lv' := [(3, .int (nI (bs_chg (bs_fa fo (256 * k)) (bs_fa fv (256 * (9 * k + v % 9))) (i + 1)))), (0, .ref o), (1, .int (nI k)), (2, .int (nI (256 * (9 * k + v % 9)))), (4, .int (nI i))]) hx hb dMO_others_58 rfl hl (by decide) rfl (fun ls hl => ?_)
        refine lv_iinc (k := 4) (v := nI (i + 1)) (lv' := [(4, .int (nI (i + 1))), (3, .int (nI (bs_chg (bs_fa fo (256 * k)) (bs_fa fv (256 * (9 * k + v % 9))) (i + 1)))), (0, .ref o), (1, .int (nI k)), (2, .int (nI (256 * (9 * k + v % 9))))]) hx hb dMO_others_59 hl rfl (xi_1 _) (by decide) rfl (fun ls hl => ?_)
        refine lv_goto (tgt := 17) hx hb dMO_others_62 (by decide) ?_
        have hP : va_P (dC, dI) vwCl [(o, .inr (6, [.int th, .ref xv, .ref xo, .ref xn, .ref xc, .ref xb, .ref xd, .ref xq, .ref xa, .ref xk, .ref xt, .ref xh, .ref xs, .ref xS, .ref xw, .ref xW, .ref xB, .ref xM, .long jf, .long js, .int jb, .long nf, .long ns, .int nb, .ref xf, .ref xg, .ref xi])), (xo, .inl (cL, 512, .inr (.inl fo))), (xv, .inl (cL, 4608, .inr (.inl fv))), (xn, .inl (cI, 2, .inl nv))] H := hP
        have hD : va_D A [(o, .inr (6, [.int th, .ref xv, .ref xo, .ref xn, .ref xc, .ref xb, .ref xd, .ref xq, .ref xa, .ref xk, .ref xt, .ref xh, .ref xs, .ref xS, .ref xw, .ref xW, .ref xB, .ref xM, .long jf, .long js, .int jb, .long nf, .long ns, .int nb, .ref xf, .ref xg, .ref xi])), (xo, .inl (cL, 512, .inr (.inl fo))), (xv, .inl (cL, 4608, .inr (.inl fv))), (xn, .inl (cI, 2, .inl nv))] := hD
        have hl := lv_sub hl (l' := [(0, .ref o), (1, .int (nI k)), (2, .int (nI (256 * (9 * k + v % 9)))), (3, .int (nI (bs_chg (bs_fa fo (256 * k)) (bs_fa fv (256 * (9 * k + v % 9))) (i + 1)))), (4, .int (nI (i + 1)))]) [2, 3, 4, 1, 0] rfl
        have hl : lv_has ls 5 [(0, .ref o), (1, .int (nI k)), (2, .int (nI (256 * (9 * k + v % 9)))), (3, .int (nI (bs_chg (bs_fa fo (256 * k)) (bs_fa fv (256 * (9 * k + v % 9))) (i + 1)))), (4, .int (nI (i + 1)))] := hl
        exact ih (i + 1) (by omega) H _ ls hP hD hS hl
  have hP := hP.sub (ws' := [(o, .inr (6, [.int th, .ref xv, .ref xo, .ref xn, .ref xc, .ref xb, .ref xd, .ref xq, .ref xa, .ref xk, .ref xt, .ref xh, .ref xs, .ref xS, .ref xw, .ref xW, .ref xB, .ref xM, .long jf, .long js, .int jb, .long nf, .long ns, .int nb, .ref xf, .ref xg, .ref xi])), (xo, .inl (cL, 512, .inr (.inl fo))), (xv, .inl (cL, 4608, .inr (.inl fv))), (xn, .inl (cI, 2, .inl nv))]) [3, 0, 1, 2] rfl
  have hD := hD.sub (ws' := [(o, .inr (6, [.int th, .ref xv, .ref xo, .ref xn, .ref xc, .ref xb, .ref xd, .ref xq, .ref xa, .ref xk, .ref xt, .ref xh, .ref xs, .ref xS, .ref xw, .ref xW, .ref xB, .ref xM, .long jf, .long js, .int jb, .long nf, .long ns, .int nb, .ref xf, .ref xg, .ref xi])), (xo, .inl (cL, 512, .inr (.inl fo))), (xv, .inl (cL, 4608, .inr (.inl fv))), (xn, .inl (cI, 2, .inl nv))]) [3, 0, 1, 2] (by decide) rfl
  have hP : va_P (dC, dI) vwCl [(o, .inr (6, [.int th, .ref xv, .ref xo, .ref xn, .ref xc, .ref xb, .ref xd, .ref xq, .ref xa, .ref xk, .ref xt, .ref xh, .ref xs, .ref xS, .ref xw, .ref xW, .ref xB, .ref xM, .long jf, .long js, .int jb, .long nf, .long ns, .int nb, .ref xf, .ref xg, .ref xi])), (xo, .inl (cL, 512, .inr (.inl fo))), (xv, .inl (cL, 4608, .inr (.inl fv))), (xn, .inl (cI, 2, .inl nv))] H := hP
  have hD : va_D A [(o, .inr (6, [.int th, .ref xv, .ref xo, .ref xn, .ref xc, .ref xb, .ref xd, .ref xq, .ref xa, .ref xk, .ref xt, .ref xh, .ref xs, .ref xS, .ref xw, .ref xW, .ref xB, .ref xM, .long jf, .long js, .int jb, .long nf, .long ns, .int nb, .ref xf, .ref xg, .ref xi])), (xo, .inl (cL, 512, .inr (.inl fo))), (xv, .inl (cL, 4608, .inr (.inl fv))), (xn, .inl (cI, 2, .inl nv))] := hD
  have hl := lv_sub hl (l' := [(0, .ref o), (1, .int (nI k)), (2, .int (nI (256 * (9 * k + v % 9)))), (3, .int (nI 0)), (4, .int (nI 0))]) [3, 4, 2, 1, 0] rfl
  have hl : lv_has ls 5 [(0, .ref o), (1, .int (nI k)), (2, .int (nI (256 * (9 * k + v % 9)))), (3, .int (nI (bs_chg (bs_fa fo (256 * k)) (bs_fa fv (256 * (9 * k + v % 9))) 0))), (4, .int (nI 0))] := hl
  exact loop (256 - 0) 0 (by omega) H _ ls hP hD hS hl
set_option maxHeartbeats 4000000 in
set_option maxRecDepth 100000 in
theorem c_MO_close_y (l : Launch) (dC : Nat → ClassId) (dI : Nat → Nat → Nat) (sz : Nat) (o xv xo xn xc xb xd xq xa xk xt xh xs xS xw xW xB xM xf xg xi : Nat) (th : Int32) (jf js : Int64) (jb : Int32) (nf ns : Int64) (nb : Int32) (cI cL : ClassId) (nv fc : Nat → Int32) (fo fv : Nat → Int64) (k v : Nat) (hk : k < 2) (hv : v < 2 ^ 29) (hn : nv k = nI v) : Met l yMO_close wsMO_close { frames := 2, cells := 0, slots := 0, locals := 46 } (va_Pc [.ref o, .int (nI k)] (fun U => U.heap.size = sz ∧ va_P (dC, dI) vwCl [(o, .inr (6, [.int th, .ref xv, .ref xo, .ref xn, .ref xc, .ref xb, .ref xd, .ref xq, .ref xa, .ref xk, .ref xt, .ref xh, .ref xs, .ref xS, .ref xw, .ref xW, .ref xB, .ref xM, .long jf, .long js, .int jb, .long nf, .long ns, .int nb, .ref xf, .ref xg, .ref xi])), (xo, .inl (cL, 512, .inr (.inl fo))), (xv, .inl (cL, 4608, .inr (.inl fv))), (xn, .inl (cI, 2, .inl nv)), (xc, .inl (cI, 2, .inl fc))] U.heap ∧ va_K (dC, dI) vwCl [(cI, .int), (cL, .long)] U ∧ va_D (fun _ => True) [(o, .inr (6, [.int th, .ref xv, .ref xo, .ref xn, .ref xc, .ref xb, .ref xd, .ref xq, .ref xa, .ref xk, .ref xt, .ref xh, .ref xs, .ref xS, .ref xw, .ref xW, .ref xB, .ref xM, .long jf, .long js, .int jb, .long nf, .long ns, .int nb, .ref xf, .ref xg, .ref xi])), (xo, .inl (cL, 512, .inr (.inl fo))), (xv, .inl (cL, 4608, .inr (.inl fv))), (xn, .inl (cI, 2, .inl nv)), (xc, .inl (cI, 2, .inl fc))])) (va_Qi (fun (r : Int32) (_ : Unit) => r = nI (v + 1)) (fun (_ : Unit) t => va_P (dC, dI) vwCl [(o, .inr (6, [.int (nI 0), .ref xv, .ref xo, .ref xn, .ref xc, .ref xb, .ref xd, .ref xq, .ref xa, .ref xk, .ref xt, .ref xh, .ref xs, .ref xS, .ref xw, .ref xW, .ref xB, .ref xM, .long jf, .long js, .int jb, .long nf, .long ns, .int nb, .ref xf, .ref xg, .ref xi])), (xo, .inl (cL, 512, .inr (.inl fo))), (xv, .inl (cL, 4608, .inr (.inl (bs_so (bs_fa fo (256 * k)) fv (9 * k + (v + 1) % 9) 256)))), (xn, .inl (cI, 2, .inl (upd nv k (nI (v + 1))))), (xc, .inl (cI, 2, .inl (upd fc k (nI (bs_chg (bs_fa fo (256 * k)) (bs_fa fv (256 * (9 * k + v % 9))) 256)))))] t.heap ∧ va_K (dC, dI) vwCl [(cI, .int), (cL, .long)] t ∧ va_D (va_A [(o, .inr (6, [.int th, .ref xv, .ref xo, .ref xn, .ref xc, .ref xb, .ref xd, .ref xq, .ref xa, .ref xk, .ref xt, .ref xh, .ref xs, .ref xS, .ref xw, .ref xW, .ref xB, .ref xM, .long jf, .long js, .int jb, .long nf, .long ns, .int nb, .ref xf, .ref xg, .ref xi])), (xo, .inl (cL, 512, .inr (.inl fo))), (xv, .inl (cL, 4608, .inr (.inl fv))), (xn, .inl (cI, 2, .inl nv)), (xc, .inl (cI, 2, .inl fc))] sz) [(o, .inr (6, [.int (nI 0), .ref xv, .ref xo, .ref xn, .ref xc, .ref xb, .ref xd, .ref xq, .ref xa, .ref xk, .ref xt, .ref xh, .ref xs, .ref xS, .ref xw, .ref xW, .ref xB, .ref xM, .long jf, .long js, .int jb, .long nf, .long ns, .int nb, .ref xf, .ref xg, .ref xi])), (xo, .inl (cL, 512, .inr (.inl fo))), (xv, .inl (cL, 4608, .inr (.inl (bs_so (bs_fa fo (256 * k)) fv (9 * k + (v + 1) % 9) 256)))), (xn, .inl (cI, 2, .inl (upd nv k (nI (v + 1))))), (xc, .inl (cI, 2, .inl (upd fc k (nI (bs_chg (bs_fa fo (256 * k)) (bs_fa fv (256 * (9 * k + v % 9))) 256)))))]) (va_A [(o, .inr (6, [.int th, .ref xv, .ref xo, .ref xn, .ref xc, .ref xb, .ref xd, .ref xq, .ref xa, .ref xk, .ref xt, .ref xh, .ref xs, .ref xS, .ref xw, .ref xW, .ref xB, .ref xM, .long jf, .long js, .int jb, .long nf, .long ns, .int nb, .ref xf, .ref xg, .ref xi])), (xo, .inl (cL, 512, .inr (.inl fo))), (xv, .inl (cL, 4608, .inr (.inl fv))), (xn, .inl (cI, 2, .inl nv)), (xc, .inl (cI, 2, .inl fc))] sz)) 0 0 (va_A [(o, .inr (6, [.int th, .ref xv, .ref xo, .ref xn, .ref xc, .ref xb, .ref xd, .ref xq, .ref xa, .ref xk, .ref xt, .ref xh, .ref xs, .ref xS, .ref xw, .ref xW, .ref xB, .ref xM, .long jf, .long js, .int jb, .long nf, .long ns, .int nb, .ref xf, .ref xg, .ref xi])), (xo, .inl (cL, 512, .inr (.inl fo))), (xv, .inl (cL, 4608, .inr (.inl fv))), (xn, .inl (cI, 2, .inl nv)), (xc, .inl (cI, 2, .inl fc))] sz) := by
  refine Met.ofW (cc := cMO_close) (maxL := 4) (ret := (some .int)) (by decide) rfl ?_
  intro p e s m args below meth c s₁ Bo9 hml hv
  obtain ⟨rfl, hsz, hP, hK, hD0⟩ := hv
  have hx := Bo9.exec
  have hb := Bo9.bytes
  have hr := Bo9.returns
  have hts := fun w (h : w ∈ wT) => atoms_spec (ws := wsMO_close) Bo9.pre w (List.mem_cons_of_mem _ h)
  have hown : s.vm.findClass RMO = some m.cls := findClass_of_methodNamed Bo9.named
  have hlocks := Bo9.notSynchronized
  subst hsz
  have hD := hD0.self (sz := s.heap.size)
  generalize hAe : va_A [(o, .inr (6, [.int th, .ref xv, .ref xo, .ref xn, .ref xc, .ref xb, .ref xd, .ref xq, .ref xa, .ref xk, .ref xt, .ref xh, .ref xs, .ref xS, .ref xw, .ref xW, .ref xB, .ref xM, .long jf, .long js, .int jb, .long nf, .long ns, .int nb, .ref xf, .ref xg, .ref xi])), (xo, .inl (cL, 512, .inr (.inl fo))), (xv, .inl (cL, 4608, .inr (.inl fv))), (xn, .inl (cI, 2, .inl nv)), (xc, .inl (cI, 2, .inl fc))] s.heap.size = A at hD ⊢
  have hA : ∀ q : Nat, s.heap.size ≤ q → A q := fun q h => by rw [← hAe]; exact Or.inr h
  have hl := lv_entry ([.ref o, .int (nI k)]) (n := 4) (Nat.le_of_ble_eq_true rfl)
  rw [lg_entry_eq]
  generalize (lg_sl ([.ref o, .int (nI k)]) ++ List.replicate (4 - (lg_sl ([.ref o, .int (nI k)])).length) Slot.unset).toArray = ls at hl ⊢
  have hl : lv_has ls 4 [(0, .ref o), (1, .int (nI k))] := hl
  refine xs_q (fun H Q hH hQ => ?_)
  have hS : va_S A s.heap H [] := by rw [hH]; exact va_S.rf
  have hP : va_P (dC, dI) vwCl [(o, .inr (6, [.int th, .ref xv, .ref xo, .ref xn, .ref xc, .ref xb, .ref xd, .ref xq, .ref xa, .ref xk, .ref xt, .ref xh, .ref xs, .ref xS, .ref xw, .ref xW, .ref xB, .ref xM, .long jf, .long js, .int jb, .long nf, .long ns, .int nb, .ref xf, .ref xg, .ref xi])), (xo, .inl (cL, 512, .inr (.inl fo))), (xv, .inl (cL, 4608, .inr (.inl fv))), (xn, .inl (cI, 2, .inl nv)), (xc, .inl (cI, 2, .inl fc))] H := by rw [hH]; exact hP
  refine lv_aload_n hx hb dMO_close_0 rfl (lv_at hl 0 rfl) ?_
  refine lv_iload_n hx hb dMO_close_1 rfl (lv_at hl 1 rfl) ?_
  have hs9 : bs_ii (nI k) 2 = true := bs_ii_n hk (by omega)
  have hPc := hP.sub (ws' := []) [] rfl
  have hDc := hD.sub (ws' := []) [] (by decide) rfl
  have hKc := hK.sub (tys' := []) [] rfl
  have hFc := va_free (wc := []) hD hS hA [] rfl
  refine va_calli (va_runS (As := [.int (nI k)]) (rest := [.ref o]) ⟨hx, hb, hml, hown, hts⟩ (c_MO_isServer l dC dI H.size (nI k)) (va_cwS 1 hts (wT_3 w_m_MO_164 w_t_MO_isServer w_n_MO w_c_MO_isServer) rfl rfl rfl (by decide +kernel) ⟨Nat.le_of_ble_eq_true rfl, Nat.le_of_ble_eq_true rfl⟩) ⟨fun a U g mk q => by obtain ⟨q0, q1, qP, qK, qD⟩ := q; exact ⟨q0, q1, qP, va_K.moved (u := U) (U := U.calling g mk a) (Vm.Alike.refl U.vm) qK, qD⟩, fun U hU hW => ⟨rfl, by rw [hU], by rw [hU]; exact hPc, va_K.moved hW.alike hKc, hDc.weaken (fun _ _ _ _ => trivial)⟩⟩ rfl rfl hl.1 rfl (lv_room (Nat.le_of_ble_eq_true rfl)) dMO_close_2 ⟨Nat.zero_le _, Nat.zero_le _⟩) hS (fun q _ h => hFc q h) hFc (fun r u t H1 locs ht hvm hw hB hz1 hk1 hS => ?_)
  obtain ⟨hP1, hK1, hD1⟩ := hB
  rw [ht] at hP1
  have hK1 := va_K.moved hvm.symm hK1
  have hw : r = bs_z (bs_ii (nI k) 2) := hw
  subst hw
  obtain ⟨hP, hD⟩ := va_join (wr := [(o, .inr (6, [.int th, .ref xv, .ref xo, .ref xn, .ref xc, .ref xb, .ref xd, .ref xq, .ref xa, .ref xk, .ref xt, .ref xh, .ref xs, .ref xS, .ref xw, .ref xW, .ref xB, .ref xM, .long jf, .long js, .int jb, .long nf, .long ns, .int nb, .ref xf, .ref xg, .ref xi])), (xo, .inl (cL, 512, .inr (.inl fo))), (xv, .inl (cL, 4608, .inr (.inl fv))), (xn, .inl (cI, 2, .inl nv)), (xc, .inl (cI, 2, .inl fc))]) (w1 := []) hP hD [] [0, 1, 2, 3, 4] rfl rfl (by decide) (by decide) hk1 hFc hP1 hD1
  generalize H1 = H at hP hS ⊢
  have hP : va_P (dC, dI) vwCl [(o, .inr (6, [.int th, .ref xv, .ref xo, .ref xn, .ref xc, .ref xb, .ref xd, .ref xq, .ref xa, .ref xk, .ref xt, .ref xh, .ref xs, .ref xS, .ref xw, .ref xW, .ref xB, .ref xM, .long jf, .long js, .int jb, .long nf, .long ns, .int nb, .ref xf, .ref xg, .ref xi])), (xo, .inl (cL, 512, .inr (.inl fo))), (xv, .inl (cL, 4608, .inr (.inl fv))), (xn, .inl (cI, 2, .inl nv)), (xc, .inl (cI, 2, .inl fc))] H := hP
  have hD : va_D A [(o, .inr (6, [.int th, .ref xv, .ref xo, .ref xn, .ref xc, .ref xb, .ref xd, .ref xq, .ref xa, .ref xk, .ref xt, .ref xh, .ref xs, .ref xS, .ref xw, .ref xW, .ref xB, .ref xM, .long jf, .long js, .int jb, .long nf, .long ns, .int nb, .ref xf, .ref xg, .ref xi])), (xo, .inl (cL, 512, .inr (.inl fo))), (xv, .inl (cL, 4608, .inr (.inl fv))), (xn, .inl (cI, 2, .inl nv)), (xc, .inl (cI, 2, .inl fc))] := hD
  refine xt_i (y := nI 1) (by rw [hs9]; rfl) ?_
  refine lv_if_eq (tgt := 12) hx hb dMO_close_5 (by decide) (fun h => absurd h (by decide +kernel)) (fun _ => ?_)
  refine lv_iconst (v := nI 0) hx hb dMO_close_8 (by decide) ?_
  refine lv_goto (tgt := 13) hx hb dMO_close_9 (by decide) ?_
  refine va_put (D := (dC, dI)) (ci := 6) (v := .int (nI 0)) (ty := .int) (C := RMO) (T := TMO) (N := 27) hx hb hts in_MO tyMO tyMO_ok nmMO hown hK hP hD hS 0 rfl rfl 0 (by decide) (hts _ w_f_MO_87) (fun _ h9 => h9) rfl (by decide +kernel) (rfl) (rfl) (Nat.le_of_ble_eq_true rfl) dMO_close_13 (fun H locs hP hD hS => ?_)
  have hP : va_P (dC, dI) vwCl [(o, .inr (6, [.int (nI 0), .ref xv, .ref xo, .ref xn, .ref xc, .ref xb, .ref xd, .ref xq, .ref xa, .ref xk, .ref xt, .ref xh, .ref xs, .ref xS, .ref xw, .ref xW, .ref xB, .ref xM, .long jf, .long js, .int jb, .long nf, .long ns, .int nb, .ref xf, .ref xg, .ref xi])), (xo, .inl (cL, 512, .inr (.inl fo))), (xv, .inl (cL, 4608, .inr (.inl fv))), (xn, .inl (cI, 2, .inl nv)), (xc, .inl (cI, 2, .inl fc))] H := hP
  have hD : va_D A [(o, .inr (6, [.int (nI 0), .ref xv, .ref xo, .ref xn, .ref xc, .ref xb, .ref xd, .ref xq, .ref xa, .ref xk, .ref xt, .ref xh, .ref xs, .ref xS, .ref xw, .ref xW, .ref xB, .ref xM, .long jf, .long js, .int jb, .long nf, .long ns, .int nb, .ref xf, .ref xg, .ref xi])), (xo, .inl (cL, 512, .inr (.inl fo))), (xv, .inl (cL, 4608, .inr (.inl fv))), (xn, .inl (cI, 2, .inl nv)), (xc, .inl (cI, 2, .inl fc))] := hD
  refine lv_aload_n hx hb dMO_close_16 rfl (lv_at hl 0 rfl) ?_
  refine va_get (D := (dC, dI)) (ci := 6) (v := .int (nI 0)) (C := RMO) (T := TMO) (N := 27) hx hb hts in_MO hown hK hP 0 rfl rfl 0 (by decide) (hts _ w_f_MO_87) (fun _ h9 => h9) rfl dMO_close_17 ?_
  refine lv_if_le (tgt := 25) hx hb dMO_close_20 (by decide) (fun _ => ?_) (fun h => absurd (by decide +kernel) h)
  refine lv_aload_n hx hb dMO_close_25 rfl (lv_at hl 0 rfl) ?_
  refine va_get (D := (dC, dI)) (ci := 6) (v := .ref xc) (C := RMO) (T := TMO) (N := 27) hx hb hts in_MO hown hK hP 0 rfl rfl 4 (by decide) (hts _ w_f_MO_20) (fun _ h9 => h9) rfl dMO_close_26 ?_
  refine lv_iload_n hx hb dMO_close_29 rfl (lv_at hl 1 rfl) ?_
  refine lv_aload_n hx hb dMO_close_30 rfl (lv_at hl 0 rfl) ?_
  refine lv_iload_n hx hb dMO_close_31 rfl (lv_at hl 1 rfl) ?_
  have hPc := hP.sub (ws' := [(o, .inr (6, [.int (nI 0), .ref xv, .ref xo, .ref xn, .ref xc, .ref xb, .ref xd, .ref xq, .ref xa, .ref xk, .ref xt, .ref xh, .ref xs, .ref xS, .ref xw, .ref xW, .ref xB, .ref xM, .long jf, .long js, .int jb, .long nf, .long ns, .int nb, .ref xf, .ref xg, .ref xi])), (xo, .inl (cL, 512, .inr (.inl fo))), (xv, .inl (cL, 4608, .inr (.inl fv))), (xn, .inl (cI, 2, .inl nv))]) [0, 1, 2, 3] rfl
  have hDc := hD.sub (ws' := [(o, .inr (6, [.int (nI 0), .ref xv, .ref xo, .ref xn, .ref xc, .ref xb, .ref xd, .ref xq, .ref xa, .ref xk, .ref xt, .ref xh, .ref xs, .ref xS, .ref xw, .ref xW, .ref xB, .ref xM, .long jf, .long js, .int jb, .long nf, .long ns, .int nb, .ref xf, .ref xg, .ref xi])), (xo, .inl (cL, 512, .inr (.inl fo))), (xv, .inl (cL, 4608, .inr (.inl fv))), (xn, .inl (cI, 2, .inl nv))]) [0, 1, 2, 3] (by decide) rfl
  have hKc := hK.sub (tys' := [(cI, .int), (cL, .long)]) [0, 1] rfl
  have hFc := va_free (wc := [(o, .inr (6, [.int (nI 0), .ref xv, .ref xo, .ref xn, .ref xc, .ref xb, .ref xd, .ref xq, .ref xa, .ref xk, .ref xt, .ref xh, .ref xs, .ref xS, .ref xw, .ref xW, .ref xB, .ref xM, .long jf, .long js, .int jb, .long nf, .long ns, .int nb, .ref xf, .ref xg, .ref xi])), (xo, .inl (cL, 512, .inr (.inl fo))), (xv, .inl (cL, 4608, .inr (.inl fv))), (xn, .inl (cI, 2, .inl nv))]) hD hS hA [0, 1, 2, 3] rfl
  refine va_calli (va_runV (C := RMO) (As := [.int (nI k)]) (rest := [.int (nI k), .ref xc]) ⟨hx, hb, hml, hown, hts⟩ (c_MO_others l dC dI H.size o xv xo xn xc xb xd xq xa xk xt xh xs xS xw xW xB xM xf xg xi (nI 0) jf js jb nf ns nb cI cL nv fo fv k v hk (by omega) hn) (cwV (C := RMO) 1 hts (wT_4 w_m_MO_173 w_i_MO_others w_s_MO_others w_n_MO w_c_MO_others) rfl rfl rfl (by decide +kernel) ⟨Nat.le_of_ble_eq_true rfl, Nat.le_of_ble_eq_true rfl⟩) ⟨fun a U g mk q => by obtain ⟨q0, q1, qP, qK, qD⟩ := q; exact ⟨q0, q1, qP, va_K.moved (u := U) (U := U.calling g mk a) (Vm.Alike.refl U.vm) qK, qD⟩, va_recv hK hP (q0 := 0) (ci := 6) (q := (RMO, TMO, 27)) rfl rfl, fun U hU hW => ⟨rfl, by rw [hU], by rw [hU]; exact hPc, va_K.moved hW.alike hKc, hDc.weaken (fun _ _ _ _ => trivial)⟩⟩ rfl rfl hl.1 rfl (lv_room (Nat.le_of_ble_eq_true rfl)) dMO_close_32 ⟨Nat.zero_le _, Nat.zero_le _⟩) hS (fun q _ h => hFc q h) hFc (fun r u t H1 locs ht hvm hw hB hz1 hk1 hS => ?_)
  obtain ⟨hP1, hK1, hD1⟩ := hB
  rw [ht] at hP1
  have hK1 := va_K.moved hvm.symm hK1
  have hw : r = nI (bs_chg (bs_fa fo (256 * k)) (bs_fa fv (256 * (9 * k + v % 9))) 256) := hw
  subst hw
  obtain ⟨hP, hD⟩ := va_join (wr := [(xc, .inl (cI, 2, .inl fc))]) (w1 := [(o, .inr (6, [.int (nI 0), .ref xv, .ref xo, .ref xn, .ref xc, .ref xb, .ref xd, .ref xq, .ref xa, .ref xk, .ref xt, .ref xh, .ref xs, .ref xS, .ref xw, .ref xW, .ref xB, .ref xM, .long jf, .long js, .int jb, .long nf, .long ns, .int nb, .ref xf, .ref xg, .ref xi])), (xo, .inl (cL, 512, .inr (.inl fo))), (xv, .inl (cL, 4608, .inr (.inl fv))), (xn, .inl (cI, 2, .inl nv))]) hP hD [0, 1, 2, 3] [4] rfl rfl (by decide) (by decide) hk1 hFc hP1 hD1
  generalize H1 = H at hP hS ⊢
  have hP : va_P (dC, dI) vwCl [(xc, .inl (cI, 2, .inl fc)), (o, .inr (6, [.int (nI 0), .ref xv, .ref xo, .ref xn, .ref xc, .ref xb, .ref xd, .ref xq, .ref xa, .ref xk, .ref xt, .ref xh, .ref xs, .ref xS, .ref xw, .ref xW, .ref xB, .ref xM, .long jf, .long js, .int jb, .long nf, .long ns, .int nb, .ref xf, .ref xg, .ref xi])), (xo, .inl (cL, 512, .inr (.inl fo))), (xv, .inl (cL, 4608, .inr (.inl fv))), (xn, .inl (cI, 2, .inl nv))] H := hP
  have hD : va_D A [(xc, .inl (cI, 2, .inl fc)), (o, .inr (6, [.int (nI 0), .ref xv, .ref xo, .ref xn, .ref xc, .ref xb, .ref xd, .ref xq, .ref xa, .ref xk, .ref xt, .ref xh, .ref xs, .ref xS, .ref xw, .ref xW, .ref xB, .ref xM, .long jf, .long js, .int jb, .long nf, .long ns, .int nb, .ref xf, .ref xg, .ref xi])), (xo, .inl (cL, 512, .inr (.inl fo))), (xv, .inl (cL, 4608, .inr (.inl fv))), (xn, .inl (cI, 2, .inl nv))] := hD
  refine xa_iast hx hb hK hP hD hS 0 0 rfl rfl k (by omega) (by decide) dMO_close_35 (fun H locs hP hD hS => ?_)
  have hP : va_P (dC, dI) vwCl [(xc, .inl (cI, 2, .inl (upd fc k (nI (bs_chg (bs_fa fo (256 * k)) (bs_fa fv (256 * (9 * k + v % 9))) 256))))), (o, .inr (6, [.int (nI 0), .ref xv, .ref xo, .ref xn, .ref xc, .ref xb, .ref xd, .ref xq, .ref xa, .ref xk, .ref xt, .ref xh, .ref xs, .ref xS, .ref xw, .ref xW, .ref xB, .ref xM, .long jf, .long js, .int jb, .long nf, .long ns, .int nb, .ref xf, .ref xg, .ref xi])), (xo, .inl (cL, 512, .inr (.inl fo))), (xv, .inl (cL, 4608, .inr (.inl fv))), (xn, .inl (cI, 2, .inl nv))] H := hP
  have hD : va_D A [(xc, .inl (cI, 2, .inl (upd fc k (nI (bs_chg (bs_fa fo (256 * k)) (bs_fa fv (256 * (9 * k + v % 9))) 256))))), (o, .inr (6, [.int (nI 0), .ref xv, .ref xo, .ref xn, .ref xc, .ref xb, .ref xd, .ref xq, .ref xa, .ref xk, .ref xt, .ref xh, .ref xs, .ref xS, .ref xw, .ref xW, .ref xB, .ref xM, .long jf, .long js, .int jb, .long nf, .long ns, .int nb, .ref xf, .ref xg, .ref xi])), (xo, .inl (cL, 512, .inr (.inl fo))), (xv, .inl (cL, 4608, .inr (.inl fv))), (xn, .inl (cI, 2, .inl nv))] := hD
  refine lv_aload_n hx hb dMO_close_36 rfl (lv_at hl 0 rfl) ?_
  refine va_get (D := (dC, dI)) (ci := 6) (v := .ref xn) (C := RMO) (T := TMO) (N := 27) hx hb hts in_MO hown hK hP 1 rfl rfl 3 (by decide) (hts _ w_f_MO_16) (fun _ h9 => h9) rfl dMO_close_37 ?_
  refine lv_iload_n hx hb dMO_close_40 rfl (lv_at hl 1 rfl) ?_
  refine lv_dup2_11 hx hb dMO_close_41 rfl rfl ?_
  refine xa_iald hx hb hK hP 4 0 rfl rfl k (by omega) (by decide) dMO_close_42 ?_
  refine xt_i (y := nI v) (hn) ?_
  refine lv_iconst (v := nI 1) hx hb dMO_close_43 (by decide) ?_
  refine lv_iadd hx hb dMO_close_44 ?_
  refine xt_i (y := nI (v + 1)) (nI_add _ _) ?_
  refine xa_iast hx hb hK hP hD hS 4 0 rfl rfl k (by omega) (by decide) dMO_close_45 (fun H locs hP hD hS => ?_)
  have hP : va_P (dC, dI) vwCl [(xc, .inl (cI, 2, .inl (upd fc k (nI (bs_chg (bs_fa fo (256 * k)) (bs_fa fv (256 * (9 * k + v % 9))) 256))))), (o, .inr (6, [.int (nI 0), .ref xv, .ref xo, .ref xn, .ref xc, .ref xb, .ref xd, .ref xq, .ref xa, .ref xk, .ref xt, .ref xh, .ref xs, .ref xS, .ref xw, .ref xW, .ref xB, .ref xM, .long jf, .long js, .int jb, .long nf, .long ns, .int nb, .ref xf, .ref xg, .ref xi])), (xo, .inl (cL, 512, .inr (.inl fo))), (xv, .inl (cL, 4608, .inr (.inl fv))), (xn, .inl (cI, 2, .inl (upd nv k (nI (v + 1)))))] H := hP
  have hD : va_D A [(xc, .inl (cI, 2, .inl (upd fc k (nI (bs_chg (bs_fa fo (256 * k)) (bs_fa fv (256 * (9 * k + v % 9))) 256))))), (o, .inr (6, [.int (nI 0), .ref xv, .ref xo, .ref xn, .ref xc, .ref xb, .ref xd, .ref xq, .ref xa, .ref xk, .ref xt, .ref xh, .ref xs, .ref xS, .ref xw, .ref xW, .ref xB, .ref xM, .long jf, .long js, .int jb, .long nf, .long ns, .int nb, .ref xf, .ref xg, .ref xi])), (xo, .inl (cL, 512, .inr (.inl fo))), (xv, .inl (cL, 4608, .inr (.inl fv))), (xn, .inl (cI, 2, .inl (upd nv k (nI (v + 1)))))] := hD
  refine lv_aload_n hx hb dMO_close_46 rfl (lv_at hl 0 rfl) ?_
  refine lv_iload_n hx hb dMO_close_47 rfl (lv_at hl 1 rfl) ?_
  refine lv_aload_n hx hb dMO_close_48 rfl (lv_at hl 0 rfl) ?_
  refine va_get (D := (dC, dI)) (ci := 6) (v := .ref xn) (C := RMO) (T := TMO) (N := 27) hx hb hts in_MO hown hK hP 1 rfl rfl 3 (by decide) (hts _ w_f_MO_16) (fun _ h9 => h9) rfl dMO_close_49 ?_
  refine lv_iload_n hx hb dMO_close_52 rfl (lv_at hl 1 rfl) ?_
  refine xa_iald hx hb hK hP 4 0 rfl rfl k (by omega) (by decide) dMO_close_53 ?_
  refine xt_i (y := nI (v + 1)) (bs_upd_at _ _ _) ?_
  have hPc := hP.sub (ws' := [(o, .inr (6, [.int (nI 0), .ref xv, .ref xo, .ref xn, .ref xc, .ref xb, .ref xd, .ref xq, .ref xa, .ref xk, .ref xt, .ref xh, .ref xs, .ref xS, .ref xw, .ref xW, .ref xB, .ref xM, .long jf, .long js, .int jb, .long nf, .long ns, .int nb, .ref xf, .ref xg, .ref xi]))]) [1] rfl
  have hDc := hD.sub (ws' := [(o, .inr (6, [.int (nI 0), .ref xv, .ref xo, .ref xn, .ref xc, .ref xb, .ref xd, .ref xq, .ref xa, .ref xk, .ref xt, .ref xh, .ref xs, .ref xS, .ref xw, .ref xW, .ref xB, .ref xM, .long jf, .long js, .int jb, .long nf, .long ns, .int nb, .ref xf, .ref xg, .ref xi]))]) [1] (by decide) rfl
  have hKc := hK.sub (tys' := []) [] rfl
  have hFc := va_free (wc := [(o, .inr (6, [.int (nI 0), .ref xv, .ref xo, .ref xn, .ref xc, .ref xb, .ref xd, .ref xq, .ref xa, .ref xk, .ref xt, .ref xh, .ref xs, .ref xS, .ref xw, .ref xW, .ref xB, .ref xM, .long jf, .long js, .int jb, .long nf, .long ns, .int nb, .ref xf, .ref xg, .ref xi]))]) hD hS hA [1] rfl
  refine va_calli (va_runV (C := RMO) (As := [.int (nI k), .int (nI (v + 1))]) (rest := []) ⟨hx, hb, hml, hown, hts⟩ (c_MO_base l dC dI H.size o xv xo xn xc xb xd xq xa xk xt xh xs xS xw xW xB xM xf xg xi (nI 0) jf js jb nf ns nb k (v + 1) hk (by omega)) (cwV (C := RMO) 2 hts (wT_4 w_m_MO_170 w_i_MO_base w_s_MO_base w_n_MO w_c_MO_base) rfl rfl rfl (by decide +kernel) ⟨Nat.le_of_ble_eq_true rfl, Nat.le_of_ble_eq_true rfl⟩) ⟨fun a U g mk q => by obtain ⟨q0, q1, qP, qK, qD⟩ := q; exact ⟨q0, q1, qP, va_K.moved (u := U) (U := U.calling g mk a) (Vm.Alike.refl U.vm) qK, qD⟩, va_recv hK hP (q0 := 1) (ci := 6) (q := (RMO, TMO, 27)) rfl rfl, fun U hU hW => ⟨rfl, by rw [hU], by rw [hU]; exact hPc, va_K.moved hW.alike hKc, hDc.weaken (fun _ _ _ _ => trivial)⟩⟩ rfl rfl hl.1 rfl (lv_room (Nat.le_of_ble_eq_true rfl)) dMO_close_54 ⟨Nat.zero_le _, Nat.zero_le _⟩) hS (fun q _ h => hFc q h) hFc (fun r u t H1 locs ht hvm hw hB hz1 hk1 hS => ?_)
  obtain ⟨hP1, hK1, hD1⟩ := hB
  rw [ht] at hP1
  have hK1 := va_K.moved hvm.symm hK1
  have hw : r = nI (256 * (9 * k + (v + 1) % 9)) := hw
  subst hw
  obtain ⟨hP, hD⟩ := va_join (wr := [(xc, .inl (cI, 2, .inl (upd fc k (nI (bs_chg (bs_fa fo (256 * k)) (bs_fa fv (256 * (9 * k + v % 9))) 256))))), (xo, .inl (cL, 512, .inr (.inl fo))), (xv, .inl (cL, 4608, .inr (.inl fv))), (xn, .inl (cI, 2, .inl (upd nv k (nI (v + 1)))))]) (w1 := [(o, .inr (6, [.int (nI 0), .ref xv, .ref xo, .ref xn, .ref xc, .ref xb, .ref xd, .ref xq, .ref xa, .ref xk, .ref xt, .ref xh, .ref xs, .ref xS, .ref xw, .ref xW, .ref xB, .ref xM, .long jf, .long js, .int jb, .long nf, .long ns, .int nb, .ref xf, .ref xg, .ref xi]))]) hP hD [1] [0, 2, 3, 4] rfl rfl (by decide) (by decide) hk1 hFc hP1 hD1
  generalize H1 = H at hP hS ⊢
  have hP : va_P (dC, dI) vwCl [(xc, .inl (cI, 2, .inl (upd fc k (nI (bs_chg (bs_fa fo (256 * k)) (bs_fa fv (256 * (9 * k + v % 9))) 256))))), (xo, .inl (cL, 512, .inr (.inl fo))), (xv, .inl (cL, 4608, .inr (.inl fv))), (xn, .inl (cI, 2, .inl (upd nv k (nI (v + 1))))), (o, .inr (6, [.int (nI 0), .ref xv, .ref xo, .ref xn, .ref xc, .ref xb, .ref xd, .ref xq, .ref xa, .ref xk, .ref xt, .ref xh, .ref xs, .ref xS, .ref xw, .ref xW, .ref xB, .ref xM, .long jf, .long js, .int jb, .long nf, .long ns, .int nb, .ref xf, .ref xg, .ref xi]))] H := hP
  have hD : va_D A [(xc, .inl (cI, 2, .inl (upd fc k (nI (bs_chg (bs_fa fo (256 * k)) (bs_fa fv (256 * (9 * k + v % 9))) 256))))), (xo, .inl (cL, 512, .inr (.inl fo))), (xv, .inl (cL, 4608, .inr (.inl fv))), (xn, .inl (cI, 2, .inl (upd nv k (nI (v + 1))))), (o, .inr (6, [.int (nI 0), .ref xv, .ref xo, .ref xn, .ref xc, .ref xb, .ref xd, .ref xq, .ref xa, .ref xk, .ref xt, .ref xh, .ref xs, .ref xS, .ref xw, .ref xW, .ref xB, .ref xM, .long jf, .long js, .int jb, .long nf, .long ns, .int nb, .ref xf, .ref xg, .ref xi]))] := hD
  refine lv_istore_n (lv' := [(2, .int (nI (256 * (9 * k + (v + 1) % 9)))), (0, .ref o), (1, .int (nI k))]) hx hb dMO_close_57 rfl hl (by decide) rfl (fun ls hl => ?_)
  refine lv_iconst (v := nI 0) hx hb dMO_close_58 (by decide) ?_
  refine lv_istore_n (lv' := [(3, .int (nI 0)), (2, .int (nI (256 * (9 * k + (v + 1) % 9)))), (0, .ref o), (1, .int (nI k))]) hx hb dMO_close_59 rfl hl (by decide) rfl (fun ls hl => ?_)
  have hP := hP.sub (ws' := [(o, .inr (6, [.int (nI 0), .ref xv, .ref xo, .ref xn, .ref xc, .ref xb, .ref xd, .ref xq, .ref xa, .ref xk, .ref xt, .ref xh, .ref xs, .ref xS, .ref xw, .ref xW, .ref xB, .ref xM, .long jf, .long js, .int jb, .long nf, .long ns, .int nb, .ref xf, .ref xg, .ref xi])), (xo, .inl (cL, 512, .inr (.inl fo))), (xv, .inl (cL, 4608, .inr (.inl fv))), (xn, .inl (cI, 2, .inl (upd nv k (nI (v + 1))))), (xc, .inl (cI, 2, .inl (upd fc k (nI (bs_chg (bs_fa fo (256 * k)) (bs_fa fv (256 * (9 * k + v % 9))) 256)))))]) [4, 1, 2, 3, 0] rfl
  have hD := hD.sub (ws' := [(o, .inr (6, [.int (nI 0), .ref xv, .ref xo, .ref xn, .ref xc, .ref xb, .ref xd, .ref xq, .ref xa, .ref xk, .ref xt, .ref xh, .ref xs, .ref xS, .ref xw, .ref xW, .ref xB, .ref xM, .long jf, .long js, .int jb, .long nf, .long ns, .int nb, .ref xf, .ref xg, .ref xi])), (xo, .inl (cL, 512, .inr (.inl fo))), (xv, .inl (cL, 4608, .inr (.inl fv))), (xn, .inl (cI, 2, .inl (upd nv k (nI (v + 1))))), (xc, .inl (cI, 2, .inl (upd fc k (nI (bs_chg (bs_fa fo (256 * k)) (bs_fa fv (256 * (9 * k + v % 9))) 256)))))]) [4, 1, 2, 3, 0] (by decide) rfl
  have loop : ∀ (n i : Nat), i + n = 256 → ∀ (H : Heap) (locs : List Loc) (ls : Array Slot), va_P (dC, dI) vwCl [(o, .inr (6, [.int (nI 0), .ref xv, .ref xo, .ref xn, .ref xc, .ref xb, .ref xd, .ref xq, .ref xa, .ref xk, .ref xt, .ref xh, .ref xs, .ref xS, .ref xw, .ref xW, .ref xB, .ref xM, .long jf, .long js, .int jb, .long nf, .long ns, .int nb, .ref xf, .ref xg, .ref xi])), (xo, .inl (cL, 512, .inr (.inl fo))), (xv, .inl (cL, 4608, .inr (.inl (bs_so (bs_fa fo (256 * k)) fv (9 * k + (v + 1) % 9) i)))), (xn, .inl (cI, 2, .inl (upd nv k (nI (v + 1))))), (xc, .inl (cI, 2, .inl (upd fc k (nI (bs_chg (bs_fa fo (256 * k)) (bs_fa fv (256 * (9 * k + v % 9))) 256)))))] H → va_D A [(o, .inr (6, [.int (nI 0), .ref xv, .ref xo, .ref xn, .ref xc, .ref xb, .ref xd, .ref xq, .ref xa, .ref xk, .ref xt, .ref xh, .ref xs, .ref xS, .ref xw, .ref xW, .ref xB, .ref xM, .long jf, .long js, .int jb, .long nf, .long ns, .int nb, .ref xf, .ref xg, .ref xi])), (xo, .inl (cL, 512, .inr (.inl fo))), (xv, .inl (cL, 4608, .inr (.inl (bs_so (bs_fa fo (256 * k)) fv (9 * k + (v + 1) % 9) i)))), (xn, .inl (cI, 2, .inl (upd nv k (nI (v + 1))))), (xc, .inl (cI, 2, .inl (upd fc k (nI (bs_chg (bs_fa fo (256 * k)) (bs_fa fv (256 * (9 * k + v % 9))) 256)))))] → va_S A s.heap H locs → lv_has ls 4 [(0, .ref o), (1, .int (nI k)), (2, .int (nI (256 * (9 * k + (v + 1) % 9)))), (3, .int (nI i))] → W p l e (headSpec wsMO_close { frames := 2, cells := 0, slots := 0, locals := 46 }).room s m ([.ref o, .int (nI k)] : List Value).toArray below meth c H locs 0 0 Q (F0 m 60 ls []) := by
    intro n
    induction n with
    | zero =>
      intro i hi H locs ls hP hD hS hl
      obtain rfl : i = 256 := by omega
      refine lv_iload_n hx hb dMO_close_60 rfl (lv_at hl 3 rfl) ?_
      refine lv_sipush (v := nI 256) hx hb dMO_close_61 (by decide) ?_
      refine lv_icmp_ge (tgt := 93) hx hb dMO_close_64 (by decide) (fun _ => ?_) (fun h => absurd (nI_le (by omega) (by omega)) h)
      refine lv_aload_n hx hb dMO_close_93 rfl (lv_at hl 0 rfl) ?_
      refine va_get (D := (dC, dI)) (ci := 6) (v := .ref xn) (C := RMO) (T := TMO) (N := 27) hx hb hts in_MO hown hK hP 0 rfl rfl 3 (by decide) (hts _ w_f_MO_16) (fun _ h9 => h9) rfl dMO_close_94 ?_
      refine lv_iload_n hx hb dMO_close_97 rfl (lv_at hl 1 rfl) ?_
      refine xa_iald hx hb hK hP 3 0 rfl rfl k (by omega) (by decide) dMO_close_98 ?_
      refine xt_i (y := nI (v + 1)) (bs_upd_at _ _ _) ?_
      have hP : va_P (dC, dI) vwCl [(o, .inr (6, [.int (nI 0), .ref xv, .ref xo, .ref xn, .ref xc, .ref xb, .ref xd, .ref xq, .ref xa, .ref xk, .ref xt, .ref xh, .ref xs, .ref xS, .ref xw, .ref xW, .ref xB, .ref xM, .long jf, .long js, .int jb, .long nf, .long ns, .int nb, .ref xf, .ref xg, .ref xi])), (xo, .inl (cL, 512, .inr (.inl fo))), (xv, .inl (cL, 4608, .inr (.inl (bs_so (bs_fa fo (256 * k)) fv (9 * k + (v + 1) % 9) 256)))), (xn, .inl (cI, 2, .inl (upd nv k (nI (v + 1))))), (xc, .inl (cI, 2, .inl (upd fc k (nI (bs_chg (bs_fa fo (256 * k)) (bs_fa fv (256 * (9 * k + v % 9))) 256)))))] H := hP
      have hD : va_D A [(o, .inr (6, [.int (nI 0), .ref xv, .ref xo, .ref xn, .ref xc, .ref xb, .ref xd, .ref xq, .ref xa, .ref xk, .ref xt, .ref xh, .ref xs, .ref xS, .ref xw, .ref xW, .ref xB, .ref xM, .long jf, .long js, .int jb, .long nf, .long ns, .int nb, .ref xf, .ref xg, .ref xi])), (xo, .inl (cL, 512, .inr (.inl fo))), (xv, .inl (cL, 4608, .inr (.inl (bs_so (bs_fa fo (256 * k)) fv (9 * k + (v + 1) % 9) 256)))), (xn, .inl (cI, 2, .inl (upd nv k (nI (v + 1))))), (xc, .inl (cI, 2, .inl (upd fc k (nI (bs_chg (bs_fa fo (256 * k)) (bs_fa fv (256 * (9 * k + v % 9))) 256)))))] := hD
      subst hQ
      exact W.iret (v := nI (v + 1)) hx hb hr (fun t ht hW => ⟨⟨nI (v + 1), (), rfl, rfl, by rw [ht]; exact hP, va_K.moved hW.alike hK, hD⟩, hS.F ht⟩) hS.2.2 dMO_close_99
    | succ n ih =>
      intro i hi H locs ls hP hD hS hl
      refine lv_iload_n hx hb dMO_close_60 rfl (lv_at hl 3 rfl) ?_
      refine lv_sipush (v := nI 256) hx hb dMO_close_61 (by decide) ?_
      refine lv_icmp_ge (tgt := 93) hx hb dMO_close_64 (by decide) (fun h => absurd h (nI_ge (by omega) (by omega))) (fun _ => ?_)
      refine lv_aload_n hx hb dMO_close_67 rfl (lv_at hl 0 rfl) ?_
      refine va_get (D := (dC, dI)) (ci := 6) (v := .ref xv) (C := RMO) (T := TMO) (N := 27) hx hb hts in_MO hown hK hP 0 rfl rfl 1 (by decide) (hts _ w_f_MO_7) (fun _ h9 => h9) rfl dMO_close_68 ?_
      refine lv_iload_n hx hb dMO_close_71 rfl (lv_at hl 2 rfl) ?_
      refine lv_iload_n hx hb dMO_close_72 rfl (lv_at hl 3 rfl) ?_
      refine lv_iadd hx hb dMO_close_73 ?_
      refine xt_i (y := nI (256 * (9 * k + (v + 1) % 9) + i)) (nI_add _ _) ?_
      refine lv_aload_n hx hb dMO_close_74 rfl (lv_at hl 0 rfl) ?_
      refine va_get (D := (dC, dI)) (ci := 6) (v := .ref xo) (C := RMO) (T := TMO) (N := 27) hx hb hts in_MO hown hK hP 0 rfl rfl 2 (by decide) (hts _ w_f_MO_13) (fun _ h9 => h9) rfl dMO_close_75 ?_
      refine lv_sipush (v := nI 256) hx hb dMO_close_78 (by decide) ?_
      refine lv_iload_n hx hb dMO_close_81 rfl (lv_at hl 1 rfl) ?_
      refine lv_imul hx hb dMO_close_82 ?_
      refine xt_i (y := nI (256 * k)) (pk_mul _ _) ?_
      refine lv_iload_n hx hb dMO_close_83 rfl (lv_at hl 3 rfl) ?_
      refine lv_iadd hx hb dMO_close_84 ?_
      refine xt_i (y := nI (256 * k + i)) (nI_add _ _) ?_
      refine xa_lald hx hb hK hP 1 1 rfl rfl (256 * k + i) (by omega) (by decide) dMO_close_85 ?_
      refine xt_l (y := bs_fa fo (256 * k) i) (rfl) ?_
      refine xa_last hx hb hK hP hD hS 2 1 rfl rfl (256 * (9 * k + (v + 1) % 9) + i) (by omega) (by decide) dMO_close_86 (fun H locs hP hD hS => ?_)
      have hP : va_P (dC, dI) vwCl [(o, .inr (6, [.int (nI 0), .ref xv, .ref xo, .ref xn, .ref xc, .ref xb, .ref xd, .ref xq, .ref xa, .ref xk, .ref xt, .ref xh, .ref xs, .ref xS, .ref xw, .ref xW, .ref xB, .ref xM, .long jf, .long js, .int jb, .long nf, .long ns, .int nb, .ref xf, .ref xg, .ref xi])), (xo, .inl (cL, 512, .inr (.inl fo))), (xv, .inl (cL, 4608, .inr (.inl (vp_updL (bs_so (bs_fa fo (256 * k)) fv (9 * k + (v + 1) % 9) i) (256 * (9 * k + (v + 1) % 9) + i) (bs_fa fo (256 * k) i))))), (xn, .inl (cI, 2, .inl (upd nv k (nI (v + 1))))), (xc, .inl (cI, 2, .inl (upd fc k (nI (bs_chg (bs_fa fo (256 * k)) (bs_fa fv (256 * (9 * k + v % 9))) 256)))))] H := hP
      have hD : va_D A [(o, .inr (6, [.int (nI 0), .ref xv, .ref xo, .ref xn, .ref xc, .ref xb, .ref xd, .ref xq, .ref xa, .ref xk, .ref xt, .ref xh, .ref xs, .ref xS, .ref xw, .ref xW, .ref xB, .ref xM, .long jf, .long js, .int jb, .long nf, .long ns, .int nb, .ref xf, .ref xg, .ref xi])), (xo, .inl (cL, 512, .inr (.inl fo))), (xv, .inl (cL, 4608, .inr (.inl (vp_updL (bs_so (bs_fa fo (256 * k)) fv (9 * k + (v + 1) % 9) i) (256 * (9 * k + (v + 1) % 9) + i) (bs_fa fo (256 * k) i))))), (xn, .inl (cI, 2, .inl (upd nv k (nI (v + 1))))), (xc, .inl (cI, 2, .inl (upd fc k (nI (bs_chg (bs_fa fo (256 * k)) (bs_fa fv (256 * (9 * k + v % 9))) 256)))))] := hD
      rw [bs_so_sl] at hP hD
      refine lv_iinc (k := 3) (v := nI (i + 1)) (lv' := [(3, .int (nI (i + 1))), (0, .ref o), (1, .int (nI k)), (2, .int (nI (256 * (9 * k + (v + 1) % 9))))]) hx hb dMO_close_87 hl rfl (xi_1 _) (by decide) rfl (fun ls hl => ?_)
      refine lv_goto (tgt := 60) hx hb dMO_close_90 (by decide) ?_
      have hP : va_P (dC, dI) vwCl [(o, .inr (6, [.int (nI 0), .ref xv, .ref xo, .ref xn, .ref xc, .ref xb, .ref xd, .ref xq, .ref xa, .ref xk, .ref xt, .ref xh, .ref xs, .ref xS, .ref xw, .ref xW, .ref xB, .ref xM, .long jf, .long js, .int jb, .long nf, .long ns, .int nb, .ref xf, .ref xg, .ref xi])), (xo, .inl (cL, 512, .inr (.inl fo))), (xv, .inl (cL, 4608, .inr (.inl (bs_so (bs_fa fo (256 * k)) fv (9 * k + (v + 1) % 9) (i + 1))))), (xn, .inl (cI, 2, .inl (upd nv k (nI (v + 1))))), (xc, .inl (cI, 2, .inl (upd fc k (nI (bs_chg (bs_fa fo (256 * k)) (bs_fa fv (256 * (9 * k + v % 9))) 256)))))] H := hP
      have hD : va_D A [(o, .inr (6, [.int (nI 0), .ref xv, .ref xo, .ref xn, .ref xc, .ref xb, .ref xd, .ref xq, .ref xa, .ref xk, .ref xt, .ref xh, .ref xs, .ref xS, .ref xw, .ref xW, .ref xB, .ref xM, .long jf, .long js, .int jb, .long nf, .long ns, .int nb, .ref xf, .ref xg, .ref xi])), (xo, .inl (cL, 512, .inr (.inl fo))), (xv, .inl (cL, 4608, .inr (.inl (bs_so (bs_fa fo (256 * k)) fv (9 * k + (v + 1) % 9) (i + 1))))), (xn, .inl (cI, 2, .inl (upd nv k (nI (v + 1))))), (xc, .inl (cI, 2, .inl (upd fc k (nI (bs_chg (bs_fa fo (256 * k)) (bs_fa fv (256 * (9 * k + v % 9))) 256)))))] := hD
      have hl := lv_sub hl (l' := [(0, .ref o), (1, .int (nI k)), (2, .int (nI (256 * (9 * k + (v + 1) % 9)))), (3, .int (nI (i + 1)))]) [1, 2, 3, 0] rfl
      have hl : lv_has ls 4 [(0, .ref o), (1, .int (nI k)), (2, .int (nI (256 * (9 * k + (v + 1) % 9)))), (3, .int (nI (i + 1)))] := hl
      exact ih (i + 1) (by omega) H _ ls hP hD hS hl
  have hP : va_P (dC, dI) vwCl [(o, .inr (6, [.int (nI 0), .ref xv, .ref xo, .ref xn, .ref xc, .ref xb, .ref xd, .ref xq, .ref xa, .ref xk, .ref xt, .ref xh, .ref xs, .ref xS, .ref xw, .ref xW, .ref xB, .ref xM, .long jf, .long js, .int jb, .long nf, .long ns, .int nb, .ref xf, .ref xg, .ref xi])), (xo, .inl (cL, 512, .inr (.inl fo))), (xv, .inl (cL, 4608, .inr (.inl (bs_so (bs_fa fo (256 * k)) fv (9 * k + (v + 1) % 9) 0)))), (xn, .inl (cI, 2, .inl (upd nv k (nI (v + 1))))), (xc, .inl (cI, 2, .inl (upd fc k (nI (bs_chg (bs_fa fo (256 * k)) (bs_fa fv (256 * (9 * k + v % 9))) 256)))))] H := by rw [bs_so_0]; exact hP
  have hD : va_D A [(o, .inr (6, [.int (nI 0), .ref xv, .ref xo, .ref xn, .ref xc, .ref xb, .ref xd, .ref xq, .ref xa, .ref xk, .ref xt, .ref xh, .ref xs, .ref xS, .ref xw, .ref xW, .ref xB, .ref xM, .long jf, .long js, .int jb, .long nf, .long ns, .int nb, .ref xf, .ref xg, .ref xi])), (xo, .inl (cL, 512, .inr (.inl fo))), (xv, .inl (cL, 4608, .inr (.inl (bs_so (bs_fa fo (256 * k)) fv (9 * k + (v + 1) % 9) 0)))), (xn, .inl (cI, 2, .inl (upd nv k (nI (v + 1))))), (xc, .inl (cI, 2, .inl (upd fc k (nI (bs_chg (bs_fa fo (256 * k)) (bs_fa fv (256 * (9 * k + v % 9))) 256)))))] := by rw [bs_so_0]; exact hD
  have hP : va_P (dC, dI) vwCl [(o, .inr (6, [.int (nI 0), .ref xv, .ref xo, .ref xn, .ref xc, .ref xb, .ref xd, .ref xq, .ref xa, .ref xk, .ref xt, .ref xh, .ref xs, .ref xS, .ref xw, .ref xW, .ref xB, .ref xM, .long jf, .long js, .int jb, .long nf, .long ns, .int nb, .ref xf, .ref xg, .ref xi])), (xo, .inl (cL, 512, .inr (.inl fo))), (xv, .inl (cL, 4608, .inr (.inl (bs_so (bs_fa fo (256 * k)) fv (9 * k + (v + 1) % 9) 0)))), (xn, .inl (cI, 2, .inl (upd nv k (nI (v + 1))))), (xc, .inl (cI, 2, .inl (upd fc k (nI (bs_chg (bs_fa fo (256 * k)) (bs_fa fv (256 * (9 * k + v % 9))) 256)))))] H := hP
  have hD : va_D A [(o, .inr (6, [.int (nI 0), .ref xv, .ref xo, .ref xn, .ref xc, .ref xb, .ref xd, .ref xq, .ref xa, .ref xk, .ref xt, .ref xh, .ref xs, .ref xS, .ref xw, .ref xW, .ref xB, .ref xM, .long jf, .long js, .int jb, .long nf, .long ns, .int nb, .ref xf, .ref xg, .ref xi])), (xo, .inl (cL, 512, .inr (.inl fo))), (xv, .inl (cL, 4608, .inr (.inl (bs_so (bs_fa fo (256 * k)) fv (9 * k + (v + 1) % 9) 0)))), (xn, .inl (cI, 2, .inl (upd nv k (nI (v + 1))))), (xc, .inl (cI, 2, .inl (upd fc k (nI (bs_chg (bs_fa fo (256 * k)) (bs_fa fv (256 * (9 * k + v % 9))) 256)))))] := hD
  have hl := lv_sub hl (l' := [(0, .ref o), (1, .int (nI k)), (2, .int (nI (256 * (9 * k + (v + 1) % 9)))), (3, .int (nI 0))]) [2, 3, 1, 0] rfl
  have hl : lv_has ls 4 [(0, .ref o), (1, .int (nI k)), (2, .int (nI (256 * (9 * k + (v + 1) % 9)))), (3, .int (nI 0))] := hl
  exact loop (256 - 0) 0 (by omega) H _ ls hP hD hS hl
set_option maxHeartbeats 4000000 in
set_option maxRecDepth 100000 in
theorem c_MO_close_n (l : Launch) (dC : Nat → ClassId) (dI : Nat → Nat → Nat) (sz : Nat) (o xv xo xn xc xb xd xq xa xk xt xh xs xS xw xW xB xM xf xg xi : Nat) (th : Int32) (jf js : Int64) (jb : Int32) (nf ns : Int64) (nb : Int32) (x : Int32) (hn : bs_ii x 2 = false) : Met l yMO_close wsMO_close { frames := 2, cells := 0, slots := 0, locals := 46 } (va_Pc [.ref o, .int x] (fun U => U.heap.size = sz ∧ va_P (dC, dI) vwCl [(o, .inr (6, [.int th, .ref xv, .ref xo, .ref xn, .ref xc, .ref xb, .ref xd, .ref xq, .ref xa, .ref xk, .ref xt, .ref xh, .ref xs, .ref xS, .ref xw, .ref xW, .ref xB, .ref xM, .long jf, .long js, .int jb, .long nf, .long ns, .int nb, .ref xf, .ref xg, .ref xi]))] U.heap ∧ va_K (dC, dI) vwCl [] U ∧ va_D (fun _ => True) [(o, .inr (6, [.int th, .ref xv, .ref xo, .ref xn, .ref xc, .ref xb, .ref xd, .ref xq, .ref xa, .ref xk, .ref xt, .ref xh, .ref xs, .ref xS, .ref xw, .ref xW, .ref xB, .ref xM, .long jf, .long js, .int jb, .long nf, .long ns, .int nb, .ref xf, .ref xg, .ref xi]))])) (va_Qi (fun (r : Int32) (_ : Unit) => r = nI 0) (fun (_ : Unit) t => va_P (dC, dI) vwCl [(o, .inr (6, [.int (nI 1), .ref xv, .ref xo, .ref xn, .ref xc, .ref xb, .ref xd, .ref xq, .ref xa, .ref xk, .ref xt, .ref xh, .ref xs, .ref xS, .ref xw, .ref xW, .ref xB, .ref xM, .long jf, .long js, .int jb, .long nf, .long ns, .int nb, .ref xf, .ref xg, .ref xi]))] t.heap ∧ va_K (dC, dI) vwCl [] t ∧ va_D (va_A [(o, .inr (6, [.int th, .ref xv, .ref xo, .ref xn, .ref xc, .ref xb, .ref xd, .ref xq, .ref xa, .ref xk, .ref xt, .ref xh, .ref xs, .ref xS, .ref xw, .ref xW, .ref xB, .ref xM, .long jf, .long js, .int jb, .long nf, .long ns, .int nb, .ref xf, .ref xg, .ref xi]))] sz) [(o, .inr (6, [.int (nI 1), .ref xv, .ref xo, .ref xn, .ref xc, .ref xb, .ref xd, .ref xq, .ref xa, .ref xk, .ref xt, .ref xh, .ref xs, .ref xS, .ref xw, .ref xW, .ref xB, .ref xM, .long jf, .long js, .int jb, .long nf, .long ns, .int nb, .ref xf, .ref xg, .ref xi]))]) (va_A [(o, .inr (6, [.int th, .ref xv, .ref xo, .ref xn, .ref xc, .ref xb, .ref xd, .ref xq, .ref xa, .ref xk, .ref xt, .ref xh, .ref xs, .ref xS, .ref xw, .ref xW, .ref xB, .ref xM, .long jf, .long js, .int jb, .long nf, .long ns, .int nb, .ref xf, .ref xg, .ref xi]))] sz)) 0 0 (va_A [(o, .inr (6, [.int th, .ref xv, .ref xo, .ref xn, .ref xc, .ref xb, .ref xd, .ref xq, .ref xa, .ref xk, .ref xt, .ref xh, .ref xs, .ref xS, .ref xw, .ref xW, .ref xB, .ref xM, .long jf, .long js, .int jb, .long nf, .long ns, .int nb, .ref xf, .ref xg, .ref xi]))] sz) := by
  refine Met.ofW (cc := cMO_close) (maxL := 4) (ret := (some .int)) (by decide) rfl ?_
  intro p e s m args below meth c s₁ Bo9 hml hv
  obtain ⟨rfl, hsz, hP, hK, hD0⟩ := hv
  have hx := Bo9.exec
  have hb := Bo9.bytes
  have hr := Bo9.returns
  have hts := fun w (h : w ∈ wT) => atoms_spec (ws := wsMO_close) Bo9.pre w (List.mem_cons_of_mem _ h)
  have hown : s.vm.findClass RMO = some m.cls := findClass_of_methodNamed Bo9.named
  have hlocks := Bo9.notSynchronized
  subst hsz
  have hD := hD0.self (sz := s.heap.size)
  generalize hAe : va_A [(o, .inr (6, [.int th, .ref xv, .ref xo, .ref xn, .ref xc, .ref xb, .ref xd, .ref xq, .ref xa, .ref xk, .ref xt, .ref xh, .ref xs, .ref xS, .ref xw, .ref xW, .ref xB, .ref xM, .long jf, .long js, .int jb, .long nf, .long ns, .int nb, .ref xf, .ref xg, .ref xi]))] s.heap.size = A at hD ⊢
  have hA : ∀ q : Nat, s.heap.size ≤ q → A q := fun q h => by rw [← hAe]; exact Or.inr h
  have hl := lv_entry ([.ref o, .int x]) (n := 4) (Nat.le_of_ble_eq_true rfl)
  rw [lg_entry_eq]
  generalize (lg_sl ([.ref o, .int x]) ++ List.replicate (4 - (lg_sl ([.ref o, .int x])).length) Slot.unset).toArray = ls at hl ⊢
  have hl : lv_has ls 4 [(0, .ref o), (1, .int x)] := hl
  refine xs_q (fun H Q hH hQ => ?_)
  have hS : va_S A s.heap H [] := by rw [hH]; exact va_S.rf
  have hP : va_P (dC, dI) vwCl [(o, .inr (6, [.int th, .ref xv, .ref xo, .ref xn, .ref xc, .ref xb, .ref xd, .ref xq, .ref xa, .ref xk, .ref xt, .ref xh, .ref xs, .ref xS, .ref xw, .ref xW, .ref xB, .ref xM, .long jf, .long js, .int jb, .long nf, .long ns, .int nb, .ref xf, .ref xg, .ref xi]))] H := by rw [hH]; exact hP
  refine lv_aload_n hx hb dMO_close_0 rfl (lv_at hl 0 rfl) ?_
  refine lv_iload_n hx hb dMO_close_1 rfl (lv_at hl 1 rfl) ?_
  have hPc := hP.sub (ws' := []) [] rfl
  have hDc := hD.sub (ws' := []) [] (by decide) rfl
  have hKc := hK.sub (tys' := []) [] rfl
  have hFc := va_free (wc := []) hD hS hA [] rfl
  refine va_calli (va_runS (As := [.int x]) (rest := [.ref o]) ⟨hx, hb, hml, hown, hts⟩ (c_MO_isServer l dC dI H.size x) (va_cwS 1 hts (wT_3 w_m_MO_164 w_t_MO_isServer w_n_MO w_c_MO_isServer) rfl rfl rfl (by decide +kernel) ⟨Nat.le_of_ble_eq_true rfl, Nat.le_of_ble_eq_true rfl⟩) ⟨fun a U g mk q => by obtain ⟨q0, q1, qP, qK, qD⟩ := q; exact ⟨q0, q1, qP, va_K.moved (u := U) (U := U.calling g mk a) (Vm.Alike.refl U.vm) qK, qD⟩, fun U hU hW => ⟨rfl, by rw [hU], by rw [hU]; exact hPc, va_K.moved hW.alike hKc, hDc.weaken (fun _ _ _ _ => trivial)⟩⟩ rfl rfl hl.1 rfl (lv_room (Nat.le_of_ble_eq_true rfl)) dMO_close_2 ⟨Nat.zero_le _, Nat.zero_le _⟩) hS (fun q _ h => hFc q h) hFc (fun r u t H1 locs ht hvm hw hB hz1 hk1 hS => ?_)
  obtain ⟨hP1, hK1, hD1⟩ := hB
  rw [ht] at hP1
  have hK1 := va_K.moved hvm.symm hK1
  have hw : r = bs_z (bs_ii x 2) := hw
  subst hw
  obtain ⟨hP, hD⟩ := va_join (wr := [(o, .inr (6, [.int th, .ref xv, .ref xo, .ref xn, .ref xc, .ref xb, .ref xd, .ref xq, .ref xa, .ref xk, .ref xt, .ref xh, .ref xs, .ref xS, .ref xw, .ref xW, .ref xB, .ref xM, .long jf, .long js, .int jb, .long nf, .long ns, .int nb, .ref xf, .ref xg, .ref xi]))]) (w1 := []) hP hD [] [0] rfl rfl (by decide) (by decide) hk1 hFc hP1 hD1
  generalize H1 = H at hP hS ⊢
  have hP : va_P (dC, dI) vwCl [(o, .inr (6, [.int th, .ref xv, .ref xo, .ref xn, .ref xc, .ref xb, .ref xd, .ref xq, .ref xa, .ref xk, .ref xt, .ref xh, .ref xs, .ref xS, .ref xw, .ref xW, .ref xB, .ref xM, .long jf, .long js, .int jb, .long nf, .long ns, .int nb, .ref xf, .ref xg, .ref xi]))] H := hP
  have hD : va_D A [(o, .inr (6, [.int th, .ref xv, .ref xo, .ref xn, .ref xc, .ref xb, .ref xd, .ref xq, .ref xa, .ref xk, .ref xt, .ref xh, .ref xs, .ref xS, .ref xw, .ref xW, .ref xB, .ref xM, .long jf, .long js, .int jb, .long nf, .long ns, .int nb, .ref xf, .ref xg, .ref xi]))] := hD
  refine xt_i (y := nI 0) (by rw [hn]; rfl) ?_
  refine lv_if_eq (tgt := 12) hx hb dMO_close_5 (by decide) (fun _ => ?_) (fun h => absurd (by decide +kernel) h)
  refine lv_iconst (v := nI 1) hx hb dMO_close_12 (by decide) ?_
  refine va_put (D := (dC, dI)) (ci := 6) (v := .int (nI 1)) (ty := .int) (C := RMO) (T := TMO) (N := 27) hx hb hts in_MO tyMO tyMO_ok nmMO hown hK hP hD hS 0 rfl rfl 0 (by decide) (hts _ w_f_MO_87) (fun _ h9 => h9) rfl (by decide +kernel) (rfl) (rfl) (Nat.le_of_ble_eq_true rfl) dMO_close_13 (fun H locs hP hD hS => ?_)
  have hP : va_P (dC, dI) vwCl [(o, .inr (6, [.int (nI 1), .ref xv, .ref xo, .ref xn, .ref xc, .ref xb, .ref xd, .ref xq, .ref xa, .ref xk, .ref xt, .ref xh, .ref xs, .ref xS, .ref xw, .ref xW, .ref xB, .ref xM, .long jf, .long js, .int jb, .long nf, .long ns, .int nb, .ref xf, .ref xg, .ref xi]))] H := hP
  have hD : va_D A [(o, .inr (6, [.int (nI 1), .ref xv, .ref xo, .ref xn, .ref xc, .ref xb, .ref xd, .ref xq, .ref xa, .ref xk, .ref xt, .ref xh, .ref xs, .ref xS, .ref xw, .ref xW, .ref xB, .ref xM, .long jf, .long js, .int jb, .long nf, .long ns, .int nb, .ref xf, .ref xg, .ref xi]))] := hD
  refine lv_aload_n hx hb dMO_close_16 rfl (lv_at hl 0 rfl) ?_
  refine va_get (D := (dC, dI)) (ci := 6) (v := .int (nI 1)) (C := RMO) (T := TMO) (N := 27) hx hb hts in_MO hown hK hP 0 rfl rfl 0 (by decide) (hts _ w_f_MO_87) (fun _ h9 => h9) rfl dMO_close_17 ?_
  refine lv_if_le (tgt := 25) hx hb dMO_close_20 (by decide) (fun h => absurd h (by decide +kernel)) (fun _ => ?_)
  refine lv_iconst (v := nI 0) hx hb dMO_close_23 (by decide) ?_
  have hP : va_P (dC, dI) vwCl [(o, .inr (6, [.int (nI 1), .ref xv, .ref xo, .ref xn, .ref xc, .ref xb, .ref xd, .ref xq, .ref xa, .ref xk, .ref xt, .ref xh, .ref xs, .ref xS, .ref xw, .ref xW, .ref xB, .ref xM, .long jf, .long js, .int jb, .long nf, .long ns, .int nb, .ref xf, .ref xg, .ref xi]))] H := hP
  have hD : va_D A [(o, .inr (6, [.int (nI 1), .ref xv, .ref xo, .ref xn, .ref xc, .ref xb, .ref xd, .ref xq, .ref xa, .ref xk, .ref xt, .ref xh, .ref xs, .ref xS, .ref xw, .ref xW, .ref xB, .ref xM, .long jf, .long js, .int jb, .long nf, .long ns, .int nb, .ref xf, .ref xg, .ref xi]))] := hD
  subst hQ
  exact W.iret (v := nI 0) hx hb hr (fun t ht hW => ⟨⟨nI 0, (), rfl, rfl, by rw [ht]; exact hP, va_K.moved hW.alike hK, hD⟩, hS.F ht⟩) hS.2.2 dMO_close_24
set_option maxHeartbeats 4000000 in
set_option maxRecDepth 100000 in
theorem c_MO_mailbox_y (l : Launch) (dC : Nat → ClassId) (dI : Nat → Nat → Nat) (sz : Nat) (o xv xo xn xc xb xd xq xa xk xt xh xs xS xw xW xB xM xf xg xi : Nat) (th : Int32) (jf js : Int64) (jb : Int32) (nf ns : Int64) (nb : Int32) (cL : ClassId) (fx : Nat → Int64) (k i : Nat) (hk : k < 2) (hi : i < 256) : Met l yMO_mailbox wsMO_mailbox { frames := 1, cells := 0, slots := 0, locals := 20 } (va_Pc [.ref o, .int (nI k), .int (nI i)] (fun U => U.heap.size = sz ∧ va_P (dC, dI) vwCl [(o, .inr (6, [.int th, .ref xv, .ref xo, .ref xn, .ref xc, .ref xb, .ref xd, .ref xq, .ref xa, .ref xk, .ref xt, .ref xh, .ref xs, .ref xS, .ref xw, .ref xW, .ref xB, .ref xM, .long jf, .long js, .int jb, .long nf, .long ns, .int nb, .ref xf, .ref xg, .ref xi])), (xb, .inl (cL, 512, .inr (.inl fx)))] U.heap ∧ va_K (dC, dI) vwCl [(cL, .long)] U ∧ va_D (fun _ => True) [(o, .inr (6, [.int th, .ref xv, .ref xo, .ref xn, .ref xc, .ref xb, .ref xd, .ref xq, .ref xa, .ref xk, .ref xt, .ref xh, .ref xs, .ref xS, .ref xw, .ref xW, .ref xB, .ref xM, .long jf, .long js, .int jb, .long nf, .long ns, .int nb, .ref xf, .ref xg, .ref xi])), (xb, .inl (cL, 512, .inr (.inl fx)))])) (va_Ql (fun (r : Int64) (_ : Unit) => r = fx (256 * k + i)) (fun (_ : Unit) t => va_P (dC, dI) vwCl [(o, .inr (6, [.int (nI 0), .ref xv, .ref xo, .ref xn, .ref xc, .ref xb, .ref xd, .ref xq, .ref xa, .ref xk, .ref xt, .ref xh, .ref xs, .ref xS, .ref xw, .ref xW, .ref xB, .ref xM, .long jf, .long js, .int jb, .long nf, .long ns, .int nb, .ref xf, .ref xg, .ref xi])), (xb, .inl (cL, 512, .inr (.inl fx)))] t.heap ∧ va_K (dC, dI) vwCl [(cL, .long)] t ∧ va_D (va_A [(o, .inr (6, [.int th, .ref xv, .ref xo, .ref xn, .ref xc, .ref xb, .ref xd, .ref xq, .ref xa, .ref xk, .ref xt, .ref xh, .ref xs, .ref xS, .ref xw, .ref xW, .ref xB, .ref xM, .long jf, .long js, .int jb, .long nf, .long ns, .int nb, .ref xf, .ref xg, .ref xi])), (xb, .inl (cL, 512, .inr (.inl fx)))] sz) [(o, .inr (6, [.int (nI 0), .ref xv, .ref xo, .ref xn, .ref xc, .ref xb, .ref xd, .ref xq, .ref xa, .ref xk, .ref xt, .ref xh, .ref xs, .ref xS, .ref xw, .ref xW, .ref xB, .ref xM, .long jf, .long js, .int jb, .long nf, .long ns, .int nb, .ref xf, .ref xg, .ref xi])), (xb, .inl (cL, 512, .inr (.inl fx)))]) (va_A [(o, .inr (6, [.int th, .ref xv, .ref xo, .ref xn, .ref xc, .ref xb, .ref xd, .ref xq, .ref xa, .ref xk, .ref xt, .ref xh, .ref xs, .ref xS, .ref xw, .ref xW, .ref xB, .ref xM, .long jf, .long js, .int jb, .long nf, .long ns, .int nb, .ref xf, .ref xg, .ref xi])), (xb, .inl (cL, 512, .inr (.inl fx)))] sz)) 0 0 (va_A [(o, .inr (6, [.int th, .ref xv, .ref xo, .ref xn, .ref xc, .ref xb, .ref xd, .ref xq, .ref xa, .ref xk, .ref xt, .ref xh, .ref xs, .ref xS, .ref xw, .ref xW, .ref xB, .ref xM, .long jf, .long js, .int jb, .long nf, .long ns, .int nb, .ref xf, .ref xg, .ref xi])), (xb, .inl (cL, 512, .inr (.inl fx)))] sz) := by
  refine Met.ofW (cc := cMO_mailbox) (maxL := 3) (ret := (some .long)) (by decide) rfl ?_
  intro p e s m args below meth c s₁ Bo9 hml hv
  obtain ⟨rfl, hsz, hP, hK, hD0⟩ := hv
  have hx := Bo9.exec
  have hb := Bo9.bytes
  have hr := Bo9.returns
  have hts := fun w (h : w ∈ wT) => atoms_spec (ws := wsMO_mailbox) Bo9.pre w (List.mem_cons_of_mem _ h)
  have hown : s.vm.findClass RMO = some m.cls := findClass_of_methodNamed Bo9.named
  have hlocks := Bo9.notSynchronized
  subst hsz
  have hD := hD0.self (sz := s.heap.size)
  generalize hAe : va_A [(o, .inr (6, [.int th, .ref xv, .ref xo, .ref xn, .ref xc, .ref xb, .ref xd, .ref xq, .ref xa, .ref xk, .ref xt, .ref xh, .ref xs, .ref xS, .ref xw, .ref xW, .ref xB, .ref xM, .long jf, .long js, .int jb, .long nf, .long ns, .int nb, .ref xf, .ref xg, .ref xi])), (xb, .inl (cL, 512, .inr (.inl fx)))] s.heap.size = A at hD ⊢
  have hA : ∀ q : Nat, s.heap.size ≤ q → A q := fun q h => by rw [← hAe]; exact Or.inr h
  have hl := lv_entry ([.ref o, .int (nI k), .int (nI i)]) (n := 3) (Nat.le_of_ble_eq_true rfl)
  rw [lg_entry_eq]
  generalize (lg_sl ([.ref o, .int (nI k), .int (nI i)]) ++ List.replicate (3 - (lg_sl ([.ref o, .int (nI k), .int (nI i)])).length) Slot.unset).toArray = ls at hl ⊢
  have hl : lv_has ls 3 [(0, .ref o), (1, .int (nI k)), (2, .int (nI i))] := hl
  refine xs_q (fun H Q hH hQ => ?_)
  have hS : va_S A s.heap H [] := by rw [hH]; exact va_S.rf
  have hP : va_P (dC, dI) vwCl [(o, .inr (6, [.int th, .ref xv, .ref xo, .ref xn, .ref xc, .ref xb, .ref xd, .ref xq, .ref xa, .ref xk, .ref xt, .ref xh, .ref xs, .ref xS, .ref xw, .ref xW, .ref xB, .ref xM, .long jf, .long js, .int jb, .long nf, .long ns, .int nb, .ref xf, .ref xg, .ref xi])), (xb, .inl (cL, 512, .inr (.inl fx)))] H := by rw [hH]; exact hP
  refine lv_aload_n hx hb dMO_mailbox_0 rfl (lv_at hl 0 rfl) ?_
  refine lv_iload_n hx hb dMO_mailbox_1 rfl (lv_at hl 1 rfl) ?_
  refine lv_if_lt (tgt := 21) hx hb dMO_mailbox_2 (by decide) (fun h => absurd h (bs_ii_nl (n := 3) (bs_ii_n (by omega) (by omega)))) (fun _ => ?_)
  refine lv_iload_n hx hb dMO_mailbox_5 rfl (lv_at hl 1 rfl) ?_
  refine lv_iconst (v := nI 3) hx hb dMO_mailbox_6 (by decide) ?_
  refine lv_icmp_ge (tgt := 21) hx hb dMO_mailbox_7 (by decide) (fun h => absurd h (nI_ge (by omega) (by omega))) (fun _ => ?_)
  refine lv_iload_n hx hb dMO_mailbox_10 rfl (lv_at hl 2 rfl) ?_
  have hp9 : bs_ii (nI i) 256 = true := bs_ii_n hi (by omega)
  have hPc := hP.sub (ws' := []) [] rfl
  have hDc := hD.sub (ws' := []) [] (by decide) rfl
  have hKc := hK.sub (tys' := []) [] rfl
  have hFc := va_free (wc := []) hD hS hA [] rfl
  refine va_calli (va_runS (As := [.int (nI i)]) (rest := [.ref o]) ⟨hx, hb, hml, hown, hts⟩ (c_MO_isPlace l dC dI H.size (nI i)) (va_cwS 1 hts (wT_3 w_m_MO_167 w_t_MO_isPlace w_n_MO w_c_MO_isPlace) rfl rfl rfl (by decide +kernel) ⟨Nat.le_of_ble_eq_true rfl, Nat.le_of_ble_eq_true rfl⟩) ⟨fun a U g mk q => by obtain ⟨q0, q1, qP, qK, qD⟩ := q; exact ⟨q0, q1, qP, va_K.moved (u := U) (U := U.calling g mk a) (Vm.Alike.refl U.vm) qK, qD⟩, fun U hU hW => ⟨rfl, by rw [hU], by rw [hU]; exact hPc, va_K.moved hW.alike hKc, hDc.weaken (fun _ _ _ _ => trivial)⟩⟩ rfl rfl hl.1 rfl (lv_room (Nat.le_of_ble_eq_true rfl)) dMO_mailbox_11 ⟨Nat.zero_le _, Nat.zero_le _⟩) hS (fun q _ h => hFc q h) hFc (fun r u t H1 locs ht hvm hw hB hz1 hk1 hS => ?_)
  obtain ⟨hP1, hK1, hD1⟩ := hB
  rw [ht] at hP1
  have hK1 := va_K.moved hvm.symm hK1
  have hw : r = bs_z (bs_ii (nI i) 256) := hw
  subst hw
  obtain ⟨hP, hD⟩ := va_join (wr := [(o, .inr (6, [.int th, .ref xv, .ref xo, .ref xn, .ref xc, .ref xb, .ref xd, .ref xq, .ref xa, .ref xk, .ref xt, .ref xh, .ref xs, .ref xS, .ref xw, .ref xW, .ref xB, .ref xM, .long jf, .long js, .int jb, .long nf, .long ns, .int nb, .ref xf, .ref xg, .ref xi])), (xb, .inl (cL, 512, .inr (.inl fx)))]) (w1 := []) hP hD [] [0, 1] rfl rfl (by decide) (by decide) hk1 hFc hP1 hD1
  generalize H1 = H at hP hS ⊢
  have hP : va_P (dC, dI) vwCl [(o, .inr (6, [.int th, .ref xv, .ref xo, .ref xn, .ref xc, .ref xb, .ref xd, .ref xq, .ref xa, .ref xk, .ref xt, .ref xh, .ref xs, .ref xS, .ref xw, .ref xW, .ref xB, .ref xM, .long jf, .long js, .int jb, .long nf, .long ns, .int nb, .ref xf, .ref xg, .ref xi])), (xb, .inl (cL, 512, .inr (.inl fx)))] H := hP
  have hD : va_D A [(o, .inr (6, [.int th, .ref xv, .ref xo, .ref xn, .ref xc, .ref xb, .ref xd, .ref xq, .ref xa, .ref xk, .ref xt, .ref xh, .ref xs, .ref xS, .ref xw, .ref xW, .ref xB, .ref xM, .long jf, .long js, .int jb, .long nf, .long ns, .int nb, .ref xf, .ref xg, .ref xi])), (xb, .inl (cL, 512, .inr (.inl fx)))] := hD
  refine xt_i (y := nI 1) (by rw [hp9]; rfl) ?_
  refine lv_if_eq (tgt := 21) hx hb dMO_mailbox_14 (by decide) (fun h => absurd h (by decide +kernel)) (fun _ => ?_)
  refine lv_iconst (v := nI 0) hx hb dMO_mailbox_17 (by decide) ?_
  refine lv_goto (tgt := 22) hx hb dMO_mailbox_18 (by decide) ?_
  refine va_put (D := (dC, dI)) (ci := 6) (v := .int (nI 0)) (ty := .int) (C := RMO) (T := TMO) (N := 27) hx hb hts in_MO tyMO tyMO_ok nmMO hown hK hP hD hS 0 rfl rfl 0 (by decide) (hts _ w_f_MO_87) (fun _ h9 => h9) rfl (by decide +kernel) (rfl) (rfl) (Nat.le_of_ble_eq_true rfl) dMO_mailbox_22 (fun H locs hP hD hS => ?_)
  have hP : va_P (dC, dI) vwCl [(o, .inr (6, [.int (nI 0), .ref xv, .ref xo, .ref xn, .ref xc, .ref xb, .ref xd, .ref xq, .ref xa, .ref xk, .ref xt, .ref xh, .ref xs, .ref xS, .ref xw, .ref xW, .ref xB, .ref xM, .long jf, .long js, .int jb, .long nf, .long ns, .int nb, .ref xf, .ref xg, .ref xi])), (xb, .inl (cL, 512, .inr (.inl fx)))] H := hP
  have hD : va_D A [(o, .inr (6, [.int (nI 0), .ref xv, .ref xo, .ref xn, .ref xc, .ref xb, .ref xd, .ref xq, .ref xa, .ref xk, .ref xt, .ref xh, .ref xs, .ref xS, .ref xw, .ref xW, .ref xB, .ref xM, .long jf, .long js, .int jb, .long nf, .long ns, .int nb, .ref xf, .ref xg, .ref xi])), (xb, .inl (cL, 512, .inr (.inl fx)))] := hD
  refine lv_aload_n hx hb dMO_mailbox_25 rfl (lv_at hl 0 rfl) ?_
  refine va_get (D := (dC, dI)) (ci := 6) (v := .int (nI 0)) (C := RMO) (T := TMO) (N := 27) hx hb hts in_MO hown hK hP 0 rfl rfl 0 (by decide) (hts _ w_f_MO_87) (fun _ h9 => h9) rfl dMO_mailbox_26 ?_
  refine lv_if_le (tgt := 34) hx hb dMO_mailbox_29 (by decide) (fun _ => ?_) (fun h => absurd (by decide +kernel) h)
  refine lv_iload_n hx hb dMO_mailbox_34 rfl (lv_at hl 1 rfl) ?_
  refine lv_iconst (v := nI 2) hx hb dMO_mailbox_35 (by decide) ?_
  refine lv_icmp_ge (tgt := 54) hx hb dMO_mailbox_36 (by decide) (fun h => absurd h (nI_ge (by omega) (by omega))) (fun _ => ?_)
  refine lv_aload_n hx hb dMO_mailbox_39 rfl (lv_at hl 0 rfl) ?_
  refine va_get (D := (dC, dI)) (ci := 6) (v := .ref xb) (C := RMO) (T := TMO) (N := 27) hx hb hts in_MO hown hK hP 0 rfl rfl 5 (by decide) (hts _ w_f_MO_23) (fun _ h9 => h9) rfl dMO_mailbox_40 ?_
  refine lv_sipush (v := nI 256) hx hb dMO_mailbox_43 (by decide) ?_
  refine lv_iload_n hx hb dMO_mailbox_46 rfl (lv_at hl 1 rfl) ?_
  refine lv_imul hx hb dMO_mailbox_47 ?_
  refine xt_i (y := nI (256 * k)) (pk_mul _ _) ?_
  refine lv_iload_n hx hb dMO_mailbox_48 rfl (lv_at hl 2 rfl) ?_
  refine lv_iadd hx hb dMO_mailbox_49 ?_
  refine xt_i (y := nI (256 * k + i)) (nI_add _ _) ?_
  refine xa_lald hx hb hK hP 1 0 rfl rfl (256 * k + i) (by omega) (by decide) dMO_mailbox_50 ?_
  refine lv_goto (tgt := 71) hx hb dMO_mailbox_51 (by decide) ?_
  have hP : va_P (dC, dI) vwCl [(o, .inr (6, [.int (nI 0), .ref xv, .ref xo, .ref xn, .ref xc, .ref xb, .ref xd, .ref xq, .ref xa, .ref xk, .ref xt, .ref xh, .ref xs, .ref xS, .ref xw, .ref xW, .ref xB, .ref xM, .long jf, .long js, .int jb, .long nf, .long ns, .int nb, .ref xf, .ref xg, .ref xi])), (xb, .inl (cL, 512, .inr (.inl fx)))] H := hP
  have hD : va_D A [(o, .inr (6, [.int (nI 0), .ref xv, .ref xo, .ref xn, .ref xc, .ref xb, .ref xd, .ref xq, .ref xa, .ref xk, .ref xt, .ref xh, .ref xs, .ref xS, .ref xw, .ref xW, .ref xB, .ref xM, .long jf, .long js, .int jb, .long nf, .long ns, .int nb, .ref xf, .ref xg, .ref xi])), (xb, .inl (cL, 512, .inr (.inl fx)))] := hD
  subst hQ
  exact W.lret (v := fx (256 * k + i)) hx hb hr (fun t ht hW => ⟨⟨fx (256 * k + i), (), rfl, rfl, by rw [ht]; exact hP, va_K.moved hW.alike hK, hD⟩, hS.F ht⟩) hS.2.2 dMO_mailbox_71
set_option maxHeartbeats 4000000 in
set_option maxRecDepth 100000 in
theorem c_MO_mailbox_2 (l : Launch) (dC : Nat → ClassId) (dI : Nat → Nat → Nat) (sz : Nat) (o xv xo xn xc xb xd xq xa xk xt xh xs xS xw xW xB xM xf xg xi : Nat) (th : Int32) (jf js : Int64) (jb : Int32) (nf ns : Int64) (nb : Int32) (cL : ClassId) (fx : Nat → Int64) (i : Nat) (hi : i < 256) : Met l yMO_mailbox wsMO_mailbox { frames := 1, cells := 0, slots := 0, locals := 20 } (va_Pc [.ref o, .int (nI 2), .int (nI i)] (fun U => U.heap.size = sz ∧ va_P (dC, dI) vwCl [(o, .inr (6, [.int th, .ref xv, .ref xo, .ref xn, .ref xc, .ref xb, .ref xd, .ref xq, .ref xa, .ref xk, .ref xt, .ref xh, .ref xs, .ref xS, .ref xw, .ref xW, .ref xB, .ref xM, .long jf, .long js, .int jb, .long nf, .long ns, .int nb, .ref xf, .ref xg, .ref xi])), (xb, .inl (cL, 512, .inr (.inl fx)))] U.heap ∧ va_K (dC, dI) vwCl [(cL, .long)] U ∧ va_D (fun _ => True) [(o, .inr (6, [.int th, .ref xv, .ref xo, .ref xn, .ref xc, .ref xb, .ref xd, .ref xq, .ref xa, .ref xk, .ref xt, .ref xh, .ref xs, .ref xS, .ref xw, .ref xW, .ref xB, .ref xM, .long jf, .long js, .int jb, .long nf, .long ns, .int nb, .ref xf, .ref xg, .ref xi])), (xb, .inl (cL, 512, .inr (.inl fx)))])) (va_Ql (fun (r : Int64) (_ : Unit) => r = fx i ^^^ fx (256 + i)) (fun (_ : Unit) t => va_P (dC, dI) vwCl [(o, .inr (6, [.int (nI 0), .ref xv, .ref xo, .ref xn, .ref xc, .ref xb, .ref xd, .ref xq, .ref xa, .ref xk, .ref xt, .ref xh, .ref xs, .ref xS, .ref xw, .ref xW, .ref xB, .ref xM, .long jf, .long js, .int jb, .long nf, .long ns, .int nb, .ref xf, .ref xg, .ref xi])), (xb, .inl (cL, 512, .inr (.inl fx)))] t.heap ∧ va_K (dC, dI) vwCl [(cL, .long)] t ∧ va_D (va_A [(o, .inr (6, [.int th, .ref xv, .ref xo, .ref xn, .ref xc, .ref xb, .ref xd, .ref xq, .ref xa, .ref xk, .ref xt, .ref xh, .ref xs, .ref xS, .ref xw, .ref xW, .ref xB, .ref xM, .long jf, .long js, .int jb, .long nf, .long ns, .int nb, .ref xf, .ref xg, .ref xi])), (xb, .inl (cL, 512, .inr (.inl fx)))] sz) [(o, .inr (6, [.int (nI 0), .ref xv, .ref xo, .ref xn, .ref xc, .ref xb, .ref xd, .ref xq, .ref xa, .ref xk, .ref xt, .ref xh, .ref xs, .ref xS, .ref xw, .ref xW, .ref xB, .ref xM, .long jf, .long js, .int jb, .long nf, .long ns, .int nb, .ref xf, .ref xg, .ref xi])), (xb, .inl (cL, 512, .inr (.inl fx)))]) (va_A [(o, .inr (6, [.int th, .ref xv, .ref xo, .ref xn, .ref xc, .ref xb, .ref xd, .ref xq, .ref xa, .ref xk, .ref xt, .ref xh, .ref xs, .ref xS, .ref xw, .ref xW, .ref xB, .ref xM, .long jf, .long js, .int jb, .long nf, .long ns, .int nb, .ref xf, .ref xg, .ref xi])), (xb, .inl (cL, 512, .inr (.inl fx)))] sz)) 0 0 (va_A [(o, .inr (6, [.int th, .ref xv, .ref xo, .ref xn, .ref xc, .ref xb, .ref xd, .ref xq, .ref xa, .ref xk, .ref xt, .ref xh, .ref xs, .ref xS, .ref xw, .ref xW, .ref xB, .ref xM, .long jf, .long js, .int jb, .long nf, .long ns, .int nb, .ref xf, .ref xg, .ref xi])), (xb, .inl (cL, 512, .inr (.inl fx)))] sz) := by
  refine Met.ofW (cc := cMO_mailbox) (maxL := 3) (ret := (some .long)) (by decide) rfl ?_
  intro p e s m args below meth c s₁ Bo9 hml hv
  obtain ⟨rfl, hsz, hP, hK, hD0⟩ := hv
  have hx := Bo9.exec
  have hb := Bo9.bytes
  have hr := Bo9.returns
  have hts := fun w (h : w ∈ wT) => atoms_spec (ws := wsMO_mailbox) Bo9.pre w (List.mem_cons_of_mem _ h)
  have hown : s.vm.findClass RMO = some m.cls := findClass_of_methodNamed Bo9.named
  have hlocks := Bo9.notSynchronized
  subst hsz
  have hD := hD0.self (sz := s.heap.size)
  generalize hAe : va_A [(o, .inr (6, [.int th, .ref xv, .ref xo, .ref xn, .ref xc, .ref xb, .ref xd, .ref xq, .ref xa, .ref xk, .ref xt, .ref xh, .ref xs, .ref xS, .ref xw, .ref xW, .ref xB, .ref xM, .long jf, .long js, .int jb, .long nf, .long ns, .int nb, .ref xf, .ref xg, .ref xi])), (xb, .inl (cL, 512, .inr (.inl fx)))] s.heap.size = A at hD ⊢
  have hA : ∀ q : Nat, s.heap.size ≤ q → A q := fun q h => by rw [← hAe]; exact Or.inr h
  have hl := lv_entry ([.ref o, .int (nI 2), .int (nI i)]) (n := 3) (Nat.le_of_ble_eq_true rfl)
  rw [lg_entry_eq]
  generalize (lg_sl ([.ref o, .int (nI 2), .int (nI i)]) ++ List.replicate (3 - (lg_sl ([.ref o, .int (nI 2), .int (nI i)])).length) Slot.unset).toArray = ls at hl ⊢
  have hl : lv_has ls 3 [(0, .ref o), (1, .int (nI 2)), (2, .int (nI i))] := hl
  refine xs_q (fun H Q hH hQ => ?_)
  have hS : va_S A s.heap H [] := by rw [hH]; exact va_S.rf
  have hP : va_P (dC, dI) vwCl [(o, .inr (6, [.int th, .ref xv, .ref xo, .ref xn, .ref xc, .ref xb, .ref xd, .ref xq, .ref xa, .ref xk, .ref xt, .ref xh, .ref xs, .ref xS, .ref xw, .ref xW, .ref xB, .ref xM, .long jf, .long js, .int jb, .long nf, .long ns, .int nb, .ref xf, .ref xg, .ref xi])), (xb, .inl (cL, 512, .inr (.inl fx)))] H := by rw [hH]; exact hP
  refine lv_aload_n hx hb dMO_mailbox_0 rfl (lv_at hl 0 rfl) ?_
  refine lv_iload_n hx hb dMO_mailbox_1 rfl (lv_at hl 1 rfl) ?_
  refine lv_if_lt (tgt := 21) hx hb dMO_mailbox_2 (by decide) (fun h => absurd h (bs_ii_nl (n := 3) (bs_ii_n (by omega) (by omega)))) (fun _ => ?_)
  refine lv_iload_n hx hb dMO_mailbox_5 rfl (lv_at hl 1 rfl) ?_
  refine lv_iconst (v := nI 3) hx hb dMO_mailbox_6 (by decide) ?_
  refine lv_icmp_ge (tgt := 21) hx hb dMO_mailbox_7 (by decide) (fun h => absurd h (nI_ge (by omega) (by omega))) (fun _ => ?_)
  refine lv_iload_n hx hb dMO_mailbox_10 rfl (lv_at hl 2 rfl) ?_
  have hp9 : bs_ii (nI i) 256 = true := bs_ii_n hi (by omega)
  have hPc := hP.sub (ws' := []) [] rfl
  have hDc := hD.sub (ws' := []) [] (by decide) rfl
  have hKc := hK.sub (tys' := []) [] rfl
  have hFc := va_free (wc := []) hD hS hA [] rfl
  refine va_calli (va_runS (As := [.int (nI i)]) (rest := [.ref o]) ⟨hx, hb, hml, hown, hts⟩ (c_MO_isPlace l dC dI H.size (nI i)) (va_cwS 1 hts (wT_3 w_m_MO_167 w_t_MO_isPlace w_n_MO w_c_MO_isPlace) rfl rfl rfl (by decide +kernel) ⟨Nat.le_of_ble_eq_true rfl, Nat.le_of_ble_eq_true rfl⟩) ⟨fun a U g mk q => by obtain ⟨q0, q1, qP, qK, qD⟩ := q; exact ⟨q0, q1, qP, va_K.moved (u := U) (U := U.calling g mk a) (Vm.Alike.refl U.vm) qK, qD⟩, fun U hU hW => ⟨rfl, by rw [hU], by rw [hU]; exact hPc, va_K.moved hW.alike hKc, hDc.weaken (fun _ _ _ _ => trivial)⟩⟩ rfl rfl hl.1 rfl (lv_room (Nat.le_of_ble_eq_true rfl)) dMO_mailbox_11 ⟨Nat.zero_le _, Nat.zero_le _⟩) hS (fun q _ h => hFc q h) hFc (fun r u t H1 locs ht hvm hw hB hz1 hk1 hS => ?_)
  obtain ⟨hP1, hK1, hD1⟩ := hB
  rw [ht] at hP1
  have hK1 := va_K.moved hvm.symm hK1
  have hw : r = bs_z (bs_ii (nI i) 256) := hw
  subst hw
  obtain ⟨hP, hD⟩ := va_join (wr := [(o, .inr (6, [.int th, .ref xv, .ref xo, .ref xn, .ref xc, .ref xb, .ref xd, .ref xq, .ref xa, .ref xk, .ref xt, .ref xh, .ref xs, .ref xS, .ref xw, .ref xW, .ref xB, .ref xM, .long jf, .long js, .int jb, .long nf, .long ns, .int nb, .ref xf, .ref xg, .ref xi])), (xb, .inl (cL, 512, .inr (.inl fx)))]) (w1 := []) hP hD [] [0, 1] rfl rfl (by decide) (by decide) hk1 hFc hP1 hD1
  generalize H1 = H at hP hS ⊢
  have hP : va_P (dC, dI) vwCl [(o, .inr (6, [.int th, .ref xv, .ref xo, .ref xn, .ref xc, .ref xb, .ref xd, .ref xq, .ref xa, .ref xk, .ref xt, .ref xh, .ref xs, .ref xS, .ref xw, .ref xW, .ref xB, .ref xM, .long jf, .long js, .int jb, .long nf, .long ns, .int nb, .ref xf, .ref xg, .ref xi])), (xb, .inl (cL, 512, .inr (.inl fx)))] H := hP
  have hD : va_D A [(o, .inr (6, [.int th, .ref xv, .ref xo, .ref xn, .ref xc, .ref xb, .ref xd, .ref xq, .ref xa, .ref xk, .ref xt, .ref xh, .ref xs, .ref xS, .ref xw, .ref xW, .ref xB, .ref xM, .long jf, .long js, .int jb, .long nf, .long ns, .int nb, .ref xf, .ref xg, .ref xi])), (xb, .inl (cL, 512, .inr (.inl fx)))] := hD
  refine xt_i (y := nI 1) (by rw [hp9]; rfl) ?_
  refine lv_if_eq (tgt := 21) hx hb dMO_mailbox_14 (by decide) (fun h => absurd h (by decide +kernel)) (fun _ => ?_)
  refine lv_iconst (v := nI 0) hx hb dMO_mailbox_17 (by decide) ?_
  refine lv_goto (tgt := 22) hx hb dMO_mailbox_18 (by decide) ?_
  refine va_put (D := (dC, dI)) (ci := 6) (v := .int (nI 0)) (ty := .int) (C := RMO) (T := TMO) (N := 27) hx hb hts in_MO tyMO tyMO_ok nmMO hown hK hP hD hS 0 rfl rfl 0 (by decide) (hts _ w_f_MO_87) (fun _ h9 => h9) rfl (by decide +kernel) (rfl) (rfl) (Nat.le_of_ble_eq_true rfl) dMO_mailbox_22 (fun H locs hP hD hS => ?_)
  have hP : va_P (dC, dI) vwCl [(o, .inr (6, [.int (nI 0), .ref xv, .ref xo, .ref xn, .ref xc, .ref xb, .ref xd, .ref xq, .ref xa, .ref xk, .ref xt, .ref xh, .ref xs, .ref xS, .ref xw, .ref xW, .ref xB, .ref xM, .long jf, .long js, .int jb, .long nf, .long ns, .int nb, .ref xf, .ref xg, .ref xi])), (xb, .inl (cL, 512, .inr (.inl fx)))] H := hP
  have hD : va_D A [(o, .inr (6, [.int (nI 0), .ref xv, .ref xo, .ref xn, .ref xc, .ref xb, .ref xd, .ref xq, .ref xa, .ref xk, .ref xt, .ref xh, .ref xs, .ref xS, .ref xw, .ref xW, .ref xB, .ref xM, .long jf, .long js, .int jb, .long nf, .long ns, .int nb, .ref xf, .ref xg, .ref xi])), (xb, .inl (cL, 512, .inr (.inl fx)))] := hD
  refine lv_aload_n hx hb dMO_mailbox_25 rfl (lv_at hl 0 rfl) ?_
  refine va_get (D := (dC, dI)) (ci := 6) (v := .int (nI 0)) (C := RMO) (T := TMO) (N := 27) hx hb hts in_MO hown hK hP 0 rfl rfl 0 (by decide) (hts _ w_f_MO_87) (fun _ h9 => h9) rfl dMO_mailbox_26 ?_
  refine lv_if_le (tgt := 34) hx hb dMO_mailbox_29 (by decide) (fun _ => ?_) (fun h => absurd (by decide +kernel) h)
  refine lv_iload_n hx hb dMO_mailbox_34 rfl (lv_at hl 1 rfl) ?_
  refine lv_iconst (v := nI 2) hx hb dMO_mailbox_35 (by decide) ?_
  refine lv_icmp_ge (tgt := 54) hx hb dMO_mailbox_36 (by decide) (fun _ => ?_) (fun h => absurd (nI_le (by omega) (by omega)) h)
  refine lv_aload_n hx hb dMO_mailbox_54 rfl (lv_at hl 0 rfl) ?_
  refine va_get (D := (dC, dI)) (ci := 6) (v := .ref xb) (C := RMO) (T := TMO) (N := 27) hx hb hts in_MO hown hK hP 0 rfl rfl 5 (by decide) (hts _ w_f_MO_23) (fun _ h9 => h9) rfl dMO_mailbox_55 ?_
  refine lv_iload_n hx hb dMO_mailbox_58 rfl (lv_at hl 2 rfl) ?_
  refine xa_lald hx hb hK hP 1 0 rfl rfl i (by omega) (by decide) dMO_mailbox_59 ?_
  refine lv_aload_n hx hb dMO_mailbox_60 rfl (lv_at hl 0 rfl) ?_
  refine va_get (D := (dC, dI)) (ci := 6) (v := .ref xb) (C := RMO) (T := TMO) (N := 27) hx hb hts in_MO hown hK hP 0 rfl rfl 5 (by decide) (hts _ w_f_MO_23) (fun _ h9 => h9) rfl dMO_mailbox_61 ?_
  refine lv_sipush (v := nI 256) hx hb dMO_mailbox_64 (by decide) ?_
  refine lv_iload_n hx hb dMO_mailbox_67 rfl (lv_at hl 2 rfl) ?_
  refine lv_iadd hx hb dMO_mailbox_68 ?_
  refine xt_i (y := nI (256 + i)) (nI_add _ _) ?_
  refine xa_lald hx hb hK hP 1 0 rfl rfl (256 + i) (by omega) (by decide) dMO_mailbox_69 ?_
  refine lv_lxor hx hb dMO_mailbox_70 ?_
  have hP : va_P (dC, dI) vwCl [(o, .inr (6, [.int (nI 0), .ref xv, .ref xo, .ref xn, .ref xc, .ref xb, .ref xd, .ref xq, .ref xa, .ref xk, .ref xt, .ref xh, .ref xs, .ref xS, .ref xw, .ref xW, .ref xB, .ref xM, .long jf, .long js, .int jb, .long nf, .long ns, .int nb, .ref xf, .ref xg, .ref xi])), (xb, .inl (cL, 512, .inr (.inl fx)))] H := hP
  have hD : va_D A [(o, .inr (6, [.int (nI 0), .ref xv, .ref xo, .ref xn, .ref xc, .ref xb, .ref xd, .ref xq, .ref xa, .ref xk, .ref xt, .ref xh, .ref xs, .ref xS, .ref xw, .ref xW, .ref xB, .ref xM, .long jf, .long js, .int jb, .long nf, .long ns, .int nb, .ref xf, .ref xg, .ref xi])), (xb, .inl (cL, 512, .inr (.inl fx)))] := hD
  subst hQ
  exact W.lret (v := (fx i) ^^^ (fx (256 + i))) hx hb hr (fun t ht hW => ⟨⟨(fx i) ^^^ (fx (256 + i)), (), rfl, rfl, by rw [ht]; exact hP, va_K.moved hW.alike hK, hD⟩, hS.F ht⟩) hS.2.2 dMO_mailbox_71
set_option maxHeartbeats 4000000 in
set_option maxRecDepth 100000 in
theorem c_MO_mailbox_n (l : Launch) (dC : Nat → ClassId) (dI : Nat → Nat → Nat) (sz : Nat) (o xv xo xn xc xb xd xq xa xk xt xh xs xS xw xW xB xM xf xg xi : Nat) (th : Int32) (jf js : Int64) (jb : Int32) (nf ns : Int64) (nb : Int32) (x y : Int32) (hn : (bs_ii x 3 && bs_ii y 256) = false) : Met l yMO_mailbox wsMO_mailbox { frames := 1, cells := 0, slots := 0, locals := 20 } (va_Pc [.ref o, .int x, .int y] (fun U => U.heap.size = sz ∧ va_P (dC, dI) vwCl [(o, .inr (6, [.int th, .ref xv, .ref xo, .ref xn, .ref xc, .ref xb, .ref xd, .ref xq, .ref xa, .ref xk, .ref xt, .ref xh, .ref xs, .ref xS, .ref xw, .ref xW, .ref xB, .ref xM, .long jf, .long js, .int jb, .long nf, .long ns, .int nb, .ref xf, .ref xg, .ref xi]))] U.heap ∧ va_K (dC, dI) vwCl [] U ∧ va_D (fun _ => True) [(o, .inr (6, [.int th, .ref xv, .ref xo, .ref xn, .ref xc, .ref xb, .ref xd, .ref xq, .ref xa, .ref xk, .ref xt, .ref xh, .ref xs, .ref xS, .ref xw, .ref xW, .ref xB, .ref xM, .long jf, .long js, .int jb, .long nf, .long ns, .int nb, .ref xf, .ref xg, .ref xi]))])) (va_Ql (fun (r : Int64) (_ : Unit) => r = 0) (fun (_ : Unit) t => va_P (dC, dI) vwCl [(o, .inr (6, [.int (nI 1), .ref xv, .ref xo, .ref xn, .ref xc, .ref xb, .ref xd, .ref xq, .ref xa, .ref xk, .ref xt, .ref xh, .ref xs, .ref xS, .ref xw, .ref xW, .ref xB, .ref xM, .long jf, .long js, .int jb, .long nf, .long ns, .int nb, .ref xf, .ref xg, .ref xi]))] t.heap ∧ va_K (dC, dI) vwCl [] t ∧ va_D (va_A [(o, .inr (6, [.int th, .ref xv, .ref xo, .ref xn, .ref xc, .ref xb, .ref xd, .ref xq, .ref xa, .ref xk, .ref xt, .ref xh, .ref xs, .ref xS, .ref xw, .ref xW, .ref xB, .ref xM, .long jf, .long js, .int jb, .long nf, .long ns, .int nb, .ref xf, .ref xg, .ref xi]))] sz) [(o, .inr (6, [.int (nI 1), .ref xv, .ref xo, .ref xn, .ref xc, .ref xb, .ref xd, .ref xq, .ref xa, .ref xk, .ref xt, .ref xh, .ref xs, .ref xS, .ref xw, .ref xW, .ref xB, .ref xM, .long jf, .long js, .int jb, .long nf, .long ns, .int nb, .ref xf, .ref xg, .ref xi]))]) (va_A [(o, .inr (6, [.int th, .ref xv, .ref xo, .ref xn, .ref xc, .ref xb, .ref xd, .ref xq, .ref xa, .ref xk, .ref xt, .ref xh, .ref xs, .ref xS, .ref xw, .ref xW, .ref xB, .ref xM, .long jf, .long js, .int jb, .long nf, .long ns, .int nb, .ref xf, .ref xg, .ref xi]))] sz)) 0 0 (va_A [(o, .inr (6, [.int th, .ref xv, .ref xo, .ref xn, .ref xc, .ref xb, .ref xd, .ref xq, .ref xa, .ref xk, .ref xt, .ref xh, .ref xs, .ref xS, .ref xw, .ref xW, .ref xB, .ref xM, .long jf, .long js, .int jb, .long nf, .long ns, .int nb, .ref xf, .ref xg, .ref xi]))] sz) := by
  refine Met.ofW (cc := cMO_mailbox) (maxL := 3) (ret := (some .long)) (by decide) rfl ?_
  intro p e s m args below meth c s₁ Bo9 hml hv
  obtain ⟨rfl, hsz, hP, hK, hD0⟩ := hv
  have hx := Bo9.exec
  have hb := Bo9.bytes
  have hr := Bo9.returns
  have hts := fun w (h : w ∈ wT) => atoms_spec (ws := wsMO_mailbox) Bo9.pre w (List.mem_cons_of_mem _ h)
  have hown : s.vm.findClass RMO = some m.cls := findClass_of_methodNamed Bo9.named
  have hlocks := Bo9.notSynchronized
  subst hsz
  have hD := hD0.self (sz := s.heap.size)
  generalize hAe : va_A [(o, .inr (6, [.int th, .ref xv, .ref xo, .ref xn, .ref xc, .ref xb, .ref xd, .ref xq, .ref xa, .ref xk, .ref xt, .ref xh, .ref xs, .ref xS, .ref xw, .ref xW, .ref xB, .ref xM, .long jf, .long js, .int jb, .long nf, .long ns, .int nb, .ref xf, .ref xg, .ref xi]))] s.heap.size = A at hD ⊢
  have hA : ∀ q : Nat, s.heap.size ≤ q → A q := fun q h => by rw [← hAe]; exact Or.inr h
  have hl := lv_entry ([.ref o, .int x, .int y]) (n := 3) (Nat.le_of_ble_eq_true rfl)
  rw [lg_entry_eq]
  generalize (lg_sl ([.ref o, .int x, .int y]) ++ List.replicate (3 - (lg_sl ([.ref o, .int x, .int y])).length) Slot.unset).toArray = ls at hl ⊢
  have hl : lv_has ls 3 [(0, .ref o), (1, .int x), (2, .int y)] := hl
  refine xs_q (fun H Q hH hQ => ?_)
  have hS : va_S A s.heap H [] := by rw [hH]; exact va_S.rf
  have hP : va_P (dC, dI) vwCl [(o, .inr (6, [.int th, .ref xv, .ref xo, .ref xn, .ref xc, .ref xb, .ref xd, .ref xq, .ref xa, .ref xk, .ref xt, .ref xh, .ref xs, .ref xS, .ref xw, .ref xW, .ref xB, .ref xM, .long jf, .long js, .int jb, .long nf, .long ns, .int nb, .ref xf, .ref xg, .ref xi]))] H := by rw [hH]; exact hP
  refine lv_aload_n hx hb dMO_mailbox_0 rfl (lv_at hl 0 rfl) ?_
  refine lv_iload_n hx hb dMO_mailbox_1 rfl (lv_at hl 1 rfl) ?_
  refine lv_if_lt (tgt := 21) hx hb dMO_mailbox_2 (by decide) (fun h1 => ?_) (fun h1 => ?_)
  · refine lv_iconst (v := nI 1) hx hb dMO_mailbox_21 (by decide) ?_
    refine va_put (D := (dC, dI)) (ci := 6) (v := .int (nI 1)) (ty := .int) (C := RMO) (T := TMO) (N := 27) hx hb hts in_MO tyMO tyMO_ok nmMO hown hK hP hD hS 0 rfl rfl 0 (by decide) (hts _ w_f_MO_87) (fun _ h9 => h9) rfl (by decide +kernel) (rfl) (rfl) (Nat.le_of_ble_eq_true rfl) dMO_mailbox_22 (fun H locs hP hD hS => ?_)
    have hP : va_P (dC, dI) vwCl [(o, .inr (6, [.int (nI 1), .ref xv, .ref xo, .ref xn, .ref xc, .ref xb, .ref xd, .ref xq, .ref xa, .ref xk, .ref xt, .ref xh, .ref xs, .ref xS, .ref xw, .ref xW, .ref xB, .ref xM, .long jf, .long js, .int jb, .long nf, .long ns, .int nb, .ref xf, .ref xg, .ref xi]))] H := hP
    have hD : va_D A [(o, .inr (6, [.int (nI 1), .ref xv, .ref xo, .ref xn, .ref xc, .ref xb, .ref xd, .ref xq, .ref xa, .ref xk, .ref xt, .ref xh, .ref xs, .ref xS, .ref xw, .ref xW, .ref xB, .ref xM, .long jf, .long js, .int jb, .long nf, .long ns, .int nb, .ref xf, .ref xg, .ref xi]))] := hD
    refine lv_aload_n hx hb dMO_mailbox_25 rfl (lv_at hl 0 rfl) ?_
    refine va_get (D := (dC, dI)) (ci := 6) (v := .int (nI 1)) (C := RMO) (T := TMO) (N := 27) hx hb hts in_MO hown hK hP 0 rfl rfl 0 (by decide) (hts _ w_f_MO_87) (fun _ h9 => h9) rfl dMO_mailbox_26 ?_
    refine lv_if_le (tgt := 34) hx hb dMO_mailbox_29 (by decide) (fun h => absurd h (by decide +kernel)) (fun _ => ?_)
    refine lv_lconst (v := 0) hx hb dMO_mailbox_32 (by decide) ?_
    have hP : va_P (dC, dI) vwCl [(o, .inr (6, [.int (nI 1), .ref xv, .ref xo, .ref xn, .ref xc, .ref xb, .ref xd, .ref xq, .ref xa, .ref xk, .ref xt, .ref xh, .ref xs, .ref xS, .ref xw, .ref xW, .ref xB, .ref xM, .long jf, .long js, .int jb, .long nf, .long ns, .int nb, .ref xf, .ref xg, .ref xi]))] H := hP
    have hD : va_D A [(o, .inr (6, [.int (nI 1), .ref xv, .ref xo, .ref xn, .ref xc, .ref xb, .ref xd, .ref xq, .ref xa, .ref xk, .ref xt, .ref xh, .ref xs, .ref xS, .ref xw, .ref xW, .ref xB, .ref xM, .long jf, .long js, .int jb, .long nf, .long ns, .int nb, .ref xf, .ref xg, .ref xi]))] := hD
    subst hQ
    exact W.lret (v := 0) hx hb hr (fun t ht hW => ⟨⟨0, (), rfl, rfl, by rw [ht]; exact hP, va_K.moved hW.alike hK, hD⟩, hS.F ht⟩) hS.2.2 dMO_mailbox_33
  · refine lv_iload_n hx hb dMO_mailbox_5 rfl (lv_at hl 1 rfl) ?_
    refine lv_iconst (v := nI 3) hx hb dMO_mailbox_6 (by decide) ?_
    refine lv_icmp_ge (tgt := 21) hx hb dMO_mailbox_7 (by decide) (fun h2 => ?_) (fun h2 => ?_)
    · refine lv_iconst (v := nI 1) hx hb dMO_mailbox_21 (by decide) ?_
      refine va_put (D := (dC, dI)) (ci := 6) (v := .int (nI 1)) (ty := .int) (C := RMO) (T := TMO) (N := 27) hx hb hts in_MO tyMO tyMO_ok nmMO hown hK hP hD hS 0 rfl rfl 0 (by decide) (hts _ w_f_MO_87) (fun _ h9 => h9) rfl (by decide +kernel) (rfl) (rfl) (Nat.le_of_ble_eq_true rfl) dMO_mailbox_22 (fun H locs hP hD hS => ?_)
      have hP : va_P (dC, dI) vwCl [(o, .inr (6, [.int (nI 1), .ref xv, .ref xo, .ref xn, .ref xc, .ref xb, .ref xd, .ref xq, .ref xa, .ref xk, .ref xt, .ref xh, .ref xs, .ref xS, .ref xw, .ref xW, .ref xB, .ref xM, .long jf, .long js, .int jb, .long nf, .long ns, .int nb, .ref xf, .ref xg, .ref xi]))] H := hP
      have hD : va_D A [(o, .inr (6, [.int (nI 1), .ref xv, .ref xo, .ref xn, .ref xc, .ref xb, .ref xd, .ref xq, .ref xa, .ref xk, .ref xt, .ref xh, .ref xs, .ref xS, .ref xw, .ref xW, .ref xB, .ref xM, .long jf, .long js, .int jb, .long nf, .long ns, .int nb, .ref xf, .ref xg, .ref xi]))] := hD
      refine lv_aload_n hx hb dMO_mailbox_25 rfl (lv_at hl 0 rfl) ?_
      refine va_get (D := (dC, dI)) (ci := 6) (v := .int (nI 1)) (C := RMO) (T := TMO) (N := 27) hx hb hts in_MO hown hK hP 0 rfl rfl 0 (by decide) (hts _ w_f_MO_87) (fun _ h9 => h9) rfl dMO_mailbox_26 ?_
      refine lv_if_le (tgt := 34) hx hb dMO_mailbox_29 (by decide) (fun h => absurd h (by decide +kernel)) (fun _ => ?_)
      refine lv_lconst (v := 0) hx hb dMO_mailbox_32 (by decide) ?_
      have hP : va_P (dC, dI) vwCl [(o, .inr (6, [.int (nI 1), .ref xv, .ref xo, .ref xn, .ref xc, .ref xb, .ref xd, .ref xq, .ref xa, .ref xk, .ref xt, .ref xh, .ref xs, .ref xS, .ref xw, .ref xW, .ref xB, .ref xM, .long jf, .long js, .int jb, .long nf, .long ns, .int nb, .ref xf, .ref xg, .ref xi]))] H := hP
      have hD : va_D A [(o, .inr (6, [.int (nI 1), .ref xv, .ref xo, .ref xn, .ref xc, .ref xb, .ref xd, .ref xq, .ref xa, .ref xk, .ref xt, .ref xh, .ref xs, .ref xS, .ref xw, .ref xW, .ref xB, .ref xM, .long jf, .long js, .int jb, .long nf, .long ns, .int nb, .ref xf, .ref xg, .ref xi]))] := hD
      subst hQ
      exact W.lret (v := 0) hx hb hr (fun t ht hW => ⟨⟨0, (), rfl, rfl, by rw [ht]; exact hP, va_K.moved hW.alike hK, hD⟩, hS.F ht⟩) hS.2.2 dMO_mailbox_33
    · refine lv_iload_n hx hb dMO_mailbox_10 rfl (lv_at hl 2 rfl) ?_
      have hPc := hP.sub (ws' := []) [] rfl
      have hDc := hD.sub (ws' := []) [] (by decide) rfl
      have hKc := hK.sub (tys' := []) [] rfl
      have hFc := va_free (wc := []) hD hS hA [] rfl
      refine va_calli (va_runS (As := [.int y]) (rest := [.ref o]) ⟨hx, hb, hml, hown, hts⟩ (c_MO_isPlace l dC dI H.size y) (va_cwS 1 hts (wT_3 w_m_MO_167 w_t_MO_isPlace w_n_MO w_c_MO_isPlace) rfl rfl rfl (by decide +kernel) ⟨Nat.le_of_ble_eq_true rfl, Nat.le_of_ble_eq_true rfl⟩) ⟨fun a U g mk q => by obtain ⟨q0, q1, qP, qK, qD⟩ := q; exact ⟨q0, q1, qP, va_K.moved (u := U) (U := U.calling g mk a) (Vm.Alike.refl U.vm) qK, qD⟩, fun U hU hW => ⟨rfl, by rw [hU], by rw [hU]; exact hPc, va_K.moved hW.alike hKc, hDc.weaken (fun _ _ _ _ => trivial)⟩⟩ rfl rfl hl.1 rfl (lv_room (Nat.le_of_ble_eq_true rfl)) dMO_mailbox_11 ⟨Nat.zero_le _, Nat.zero_le _⟩) hS (fun q _ h => hFc q h) hFc (fun r u t H1 locs ht hvm hw hB hz1 hk1 hS => ?_)
      obtain ⟨hP1, hK1, hD1⟩ := hB
      rw [ht] at hP1
      have hK1 := va_K.moved hvm.symm hK1
      have hw : r = bs_z (bs_ii y 256) := hw
      subst hw
      obtain ⟨hP, hD⟩ := va_join (wr := [(o, .inr (6, [.int th, .ref xv, .ref xo, .ref xn, .ref xc, .ref xb, .ref xd, .ref xq, .ref xa, .ref xk, .ref xt, .ref xh, .ref xs, .ref xS, .ref xw, .ref xW, .ref xB, .ref xM, .long jf, .long js, .int jb, .long nf, .long ns, .int nb, .ref xf, .ref xg, .ref xi]))]) (w1 := []) hP hD [] [0] rfl rfl (by decide) (by decide) hk1 hFc hP1 hD1
      generalize H1 = H at hP hS ⊢
      have hP : va_P (dC, dI) vwCl [(o, .inr (6, [.int th, .ref xv, .ref xo, .ref xn, .ref xc, .ref xb, .ref xd, .ref xq, .ref xa, .ref xk, .ref xt, .ref xh, .ref xs, .ref xS, .ref xw, .ref xW, .ref xB, .ref xM, .long jf, .long js, .int jb, .long nf, .long ns, .int nb, .ref xf, .ref xg, .ref xi]))] H := hP
      have hD : va_D A [(o, .inr (6, [.int th, .ref xv, .ref xo, .ref xn, .ref xc, .ref xb, .ref xd, .ref xq, .ref xa, .ref xk, .ref xt, .ref xh, .ref xs, .ref xS, .ref xw, .ref xW, .ref xB, .ref xM, .long jf, .long js, .int jb, .long nf, .long ns, .int nb, .ref xf, .ref xg, .ref xi]))] := hD
      refine lv_if_eq (tgt := 21) hx hb dMO_mailbox_14 (by decide) (fun h3 => ?_) (fun h3 => ?_)
      · refine lv_iconst (v := nI 1) hx hb dMO_mailbox_21 (by decide) ?_
        refine va_put (D := (dC, dI)) (ci := 6) (v := .int (nI 1)) (ty := .int) (C := RMO) (T := TMO) (N := 27) hx hb hts in_MO tyMO tyMO_ok nmMO hown hK hP hD hS 0 rfl rfl 0 (by decide) (hts _ w_f_MO_87) (fun _ h9 => h9) rfl (by decide +kernel) (rfl) (rfl) (Nat.le_of_ble_eq_true rfl) dMO_mailbox_22 (fun H locs hP hD hS => ?_)
        have hP : va_P (dC, dI) vwCl [(o, .inr (6, [.int (nI 1), .ref xv, .ref xo, .ref xn, .ref xc, .ref xb, .ref xd, .ref xq, .ref xa, .ref xk, .ref xt, .ref xh, .ref xs, .ref xS, .ref xw, .ref xW, .ref xB, .ref xM, .long jf, .long js, .int jb, .long nf, .long ns, .int nb, .ref xf, .ref xg, .ref xi]))] H := hP
        have hD : va_D A [(o, .inr (6, [.int (nI 1), .ref xv, .ref xo, .ref xn, .ref xc, .ref xb, .ref xd, .ref xq, .ref xa, .ref xk, .ref xt, .ref xh, .ref xs, .ref xS, .ref xw, .ref xW, .ref xB, .ref xM, .long jf, .long js, .int jb, .long nf, .long ns, .int nb, .ref xf, .ref xg, .ref xi]))] := hD
        refine lv_aload_n hx hb dMO_mailbox_25 rfl (lv_at hl 0 rfl) ?_
        refine va_get (D := (dC, dI)) (ci := 6) (v := .int (nI 1)) (C := RMO) (T := TMO) (N := 27) hx hb hts in_MO hown hK hP 0 rfl rfl 0 (by decide) (hts _ w_f_MO_87) (fun _ h9 => h9) rfl dMO_mailbox_26 ?_
        refine lv_if_le (tgt := 34) hx hb dMO_mailbox_29 (by decide) (fun h => absurd h (by decide +kernel)) (fun _ => ?_)
        refine lv_lconst (v := 0) hx hb dMO_mailbox_32 (by decide) ?_
        have hP : va_P (dC, dI) vwCl [(o, .inr (6, [.int (nI 1), .ref xv, .ref xo, .ref xn, .ref xc, .ref xb, .ref xd, .ref xq, .ref xa, .ref xk, .ref xt, .ref xh, .ref xs, .ref xS, .ref xw, .ref xW, .ref xB, .ref xM, .long jf, .long js, .int jb, .long nf, .long ns, .int nb, .ref xf, .ref xg, .ref xi]))] H := hP
        have hD : va_D A [(o, .inr (6, [.int (nI 1), .ref xv, .ref xo, .ref xn, .ref xc, .ref xb, .ref xd, .ref xq, .ref xa, .ref xk, .ref xt, .ref xh, .ref xs, .ref xS, .ref xw, .ref xW, .ref xB, .ref xM, .long jf, .long js, .int jb, .long nf, .long ns, .int nb, .ref xf, .ref xg, .ref xi]))] := hD
        subst hQ
        exact W.lret (v := 0) hx hb hr (fun t ht hW => ⟨⟨0, (), rfl, rfl, by rw [ht]; exact hP, va_K.moved hW.alike hK, hD⟩, hS.F ht⟩) hS.2.2 dMO_mailbox_33
      · exact absurd hn (by rw [bs_ii_y (by decide) h1 h2, bs_z_1 h3]; decide)
set_option maxHeartbeats 4000000 in
set_option maxRecDepth 100000 in
theorem c_MO_record_y (l : Launch) (dC : Nat → ClassId) (dI : Nat → Nat → Nat) (sz : Nat) (o xv xo xn xc xb xd xq xa xk xt xh xs xS xw xW xB xM xf xg xi : Nat) (th : Int32) (jf js : Int64) (jb : Int32) (nf ns : Int64) (nb : Int32) (cI cL : ClassId) (nv : Nat → Int32) (fv : Nat → Int64) (k v vn i : Nat) (hk : k < 2) (hi : i < 256) (hu2 : vn < 2 ^ 30) (hv : v < 2 ^ 30) (hn : nv k = nI v) (hu : decide (nI (v - 8) ≤ nI vn ∧ nI vn ≤ nI v) = true) : Met l yMO_record wsMO_record { frames := 1, cells := 0, slots := 0, locals := 22 } (va_Pc [.ref o, .int (nI k), .int (nI vn), .int (nI i)] (fun U => U.heap.size = sz ∧ va_P (dC, dI) vwCl [(o, .inr (6, [.int th, .ref xv, .ref xo, .ref xn, .ref xc, .ref xb, .ref xd, .ref xq, .ref xa, .ref xk, .ref xt, .ref xh, .ref xs, .ref xS, .ref xw, .ref xW, .ref xB, .ref xM, .long jf, .long js, .int jb, .long nf, .long ns, .int nb, .ref xf, .ref xg, .ref xi])), (xv, .inl (cL, 4608, .inr (.inl fv))), (xn, .inl (cI, 2, .inl nv))] U.heap ∧ va_K (dC, dI) vwCl [(cI, .int), (cL, .long)] U ∧ va_D (fun _ => True) [(o, .inr (6, [.int th, .ref xv, .ref xo, .ref xn, .ref xc, .ref xb, .ref xd, .ref xq, .ref xa, .ref xk, .ref xt, .ref xh, .ref xs, .ref xS, .ref xw, .ref xW, .ref xB, .ref xM, .long jf, .long js, .int jb, .long nf, .long ns, .int nb, .ref xf, .ref xg, .ref xi])), (xv, .inl (cL, 4608, .inr (.inl fv))), (xn, .inl (cI, 2, .inl nv))])) (va_Ql (fun (r : Int64) (_ : Unit) => r = fv (256 * (9 * k + vn % 9) + i)) (fun (_ : Unit) t => va_P (dC, dI) vwCl [(o, .inr (6, [.int (nI 0), .ref xv, .ref xo, .ref xn, .ref xc, .ref xb, .ref xd, .ref xq, .ref xa, .ref xk, .ref xt, .ref xh, .ref xs, .ref xS, .ref xw, .ref xW, .ref xB, .ref xM, .long jf, .long js, .int jb, .long nf, .long ns, .int nb, .ref xf, .ref xg, .ref xi])), (xv, .inl (cL, 4608, .inr (.inl fv))), (xn, .inl (cI, 2, .inl nv))] t.heap ∧ va_K (dC, dI) vwCl [(cI, .int), (cL, .long)] t ∧ va_D (va_A [(o, .inr (6, [.int th, .ref xv, .ref xo, .ref xn, .ref xc, .ref xb, .ref xd, .ref xq, .ref xa, .ref xk, .ref xt, .ref xh, .ref xs, .ref xS, .ref xw, .ref xW, .ref xB, .ref xM, .long jf, .long js, .int jb, .long nf, .long ns, .int nb, .ref xf, .ref xg, .ref xi])), (xv, .inl (cL, 4608, .inr (.inl fv))), (xn, .inl (cI, 2, .inl nv))] sz) [(o, .inr (6, [.int (nI 0), .ref xv, .ref xo, .ref xn, .ref xc, .ref xb, .ref xd, .ref xq, .ref xa, .ref xk, .ref xt, .ref xh, .ref xs, .ref xS, .ref xw, .ref xW, .ref xB, .ref xM, .long jf, .long js, .int jb, .long nf, .long ns, .int nb, .ref xf, .ref xg, .ref xi])), (xv, .inl (cL, 4608, .inr (.inl fv))), (xn, .inl (cI, 2, .inl nv))]) (va_A [(o, .inr (6, [.int th, .ref xv, .ref xo, .ref xn, .ref xc, .ref xb, .ref xd, .ref xq, .ref xa, .ref xk, .ref xt, .ref xh, .ref xs, .ref xS, .ref xw, .ref xW, .ref xB, .ref xM, .long jf, .long js, .int jb, .long nf, .long ns, .int nb, .ref xf, .ref xg, .ref xi])), (xv, .inl (cL, 4608, .inr (.inl fv))), (xn, .inl (cI, 2, .inl nv))] sz)) 0 0 (va_A [(o, .inr (6, [.int th, .ref xv, .ref xo, .ref xn, .ref xc, .ref xb, .ref xd, .ref xq, .ref xa, .ref xk, .ref xt, .ref xh, .ref xs, .ref xS, .ref xw, .ref xW, .ref xB, .ref xM, .long jf, .long js, .int jb, .long nf, .long ns, .int nb, .ref xf, .ref xg, .ref xi])), (xv, .inl (cL, 4608, .inr (.inl fv))), (xn, .inl (cI, 2, .inl nv))] sz) := by
  refine Met.ofW (cc := cMO_record) (maxL := 4) (ret := (some .long)) (by decide) rfl ?_
  intro p e s m args below meth c s₁ Bo9 hml hv
  obtain ⟨rfl, hsz, hP, hK, hD0⟩ := hv
  have hx := Bo9.exec
  have hb := Bo9.bytes
  have hr := Bo9.returns
  have hts := fun w (h : w ∈ wT) => atoms_spec (ws := wsMO_record) Bo9.pre w (List.mem_cons_of_mem _ h)
  have hown : s.vm.findClass RMO = some m.cls := findClass_of_methodNamed Bo9.named
  have hlocks := Bo9.notSynchronized
  subst hsz
  have hD := hD0.self (sz := s.heap.size)
  generalize hAe : va_A [(o, .inr (6, [.int th, .ref xv, .ref xo, .ref xn, .ref xc, .ref xb, .ref xd, .ref xq, .ref xa, .ref xk, .ref xt, .ref xh, .ref xs, .ref xS, .ref xw, .ref xW, .ref xB, .ref xM, .long jf, .long js, .int jb, .long nf, .long ns, .int nb, .ref xf, .ref xg, .ref xi])), (xv, .inl (cL, 4608, .inr (.inl fv))), (xn, .inl (cI, 2, .inl nv))] s.heap.size = A at hD ⊢
  have hA : ∀ q : Nat, s.heap.size ≤ q → A q := fun q h => by rw [← hAe]; exact Or.inr h
  have hl := lv_entry ([.ref o, .int (nI k), .int (nI vn), .int (nI i)]) (n := 4) (Nat.le_of_ble_eq_true rfl)
  rw [lg_entry_eq]
  generalize (lg_sl ([.ref o, .int (nI k), .int (nI vn), .int (nI i)]) ++ List.replicate (4 - (lg_sl ([.ref o, .int (nI k), .int (nI vn), .int (nI i)])).length) Slot.unset).toArray = ls at hl ⊢
  have hl : lv_has ls 4 [(0, .ref o), (1, .int (nI k)), (2, .int (nI vn)), (3, .int (nI i))] := hl
  refine xs_q (fun H Q hH hQ => ?_)
  have hS : va_S A s.heap H [] := by rw [hH]; exact va_S.rf
  have hP : va_P (dC, dI) vwCl [(o, .inr (6, [.int th, .ref xv, .ref xo, .ref xn, .ref xc, .ref xb, .ref xd, .ref xq, .ref xa, .ref xk, .ref xt, .ref xh, .ref xs, .ref xS, .ref xw, .ref xW, .ref xB, .ref xM, .long jf, .long js, .int jb, .long nf, .long ns, .int nb, .ref xf, .ref xg, .ref xi])), (xv, .inl (cL, 4608, .inr (.inl fv))), (xn, .inl (cI, 2, .inl nv))] H := by rw [hH]; exact hP
  refine lv_aload_n hx hb dMO_record_0 rfl (lv_at hl 0 rfl) ?_
  refine lv_iload_n hx hb dMO_record_1 rfl (lv_at hl 1 rfl) ?_
  have hs9 : bs_ii (nI k) 2 = true := bs_ii_n hk (by omega)
  have hPc := hP.sub (ws' := []) [] rfl
  have hDc := hD.sub (ws' := []) [] (by decide) rfl
  have hKc := hK.sub (tys' := []) [] rfl
  have hFc := va_free (wc := []) hD hS hA [] rfl
  refine va_calli (va_runS (As := [.int (nI k)]) (rest := [.ref o]) ⟨hx, hb, hml, hown, hts⟩ (c_MO_isServer l dC dI H.size (nI k)) (va_cwS 1 hts (wT_3 w_m_MO_164 w_t_MO_isServer w_n_MO w_c_MO_isServer) rfl rfl rfl (by decide +kernel) ⟨Nat.le_of_ble_eq_true rfl, Nat.le_of_ble_eq_true rfl⟩) ⟨fun a U g mk q => by obtain ⟨q0, q1, qP, qK, qD⟩ := q; exact ⟨q0, q1, qP, va_K.moved (u := U) (U := U.calling g mk a) (Vm.Alike.refl U.vm) qK, qD⟩, fun U hU hW => ⟨rfl, by rw [hU], by rw [hU]; exact hPc, va_K.moved hW.alike hKc, hDc.weaken (fun _ _ _ _ => trivial)⟩⟩ rfl rfl hl.1 rfl (lv_room (Nat.le_of_ble_eq_true rfl)) dMO_record_2 ⟨Nat.zero_le _, Nat.zero_le _⟩) hS (fun q _ h => hFc q h) hFc (fun r u t H1 locs ht hvm hw hB hz1 hk1 hS => ?_)
  obtain ⟨hP1, hK1, hD1⟩ := hB
  rw [ht] at hP1
  have hK1 := va_K.moved hvm.symm hK1
  have hw : r = bs_z (bs_ii (nI k) 2) := hw
  subst hw
  obtain ⟨hP, hD⟩ := va_join (wr := [(o, .inr (6, [.int th, .ref xv, .ref xo, .ref xn, .ref xc, .ref xb, .ref xd, .ref xq, .ref xa, .ref xk, .ref xt, .ref xh, .ref xs, .ref xS, .ref xw, .ref xW, .ref xB, .ref xM, .long jf, .long js, .int jb, .long nf, .long ns, .int nb, .ref xf, .ref xg, .ref xi])), (xv, .inl (cL, 4608, .inr (.inl fv))), (xn, .inl (cI, 2, .inl nv))]) (w1 := []) hP hD [] [0, 1, 2] rfl rfl (by decide) (by decide) hk1 hFc hP1 hD1
  generalize H1 = H at hP hS ⊢
  have hP : va_P (dC, dI) vwCl [(o, .inr (6, [.int th, .ref xv, .ref xo, .ref xn, .ref xc, .ref xb, .ref xd, .ref xq, .ref xa, .ref xk, .ref xt, .ref xh, .ref xs, .ref xS, .ref xw, .ref xW, .ref xB, .ref xM, .long jf, .long js, .int jb, .long nf, .long ns, .int nb, .ref xf, .ref xg, .ref xi])), (xv, .inl (cL, 4608, .inr (.inl fv))), (xn, .inl (cI, 2, .inl nv))] H := hP
  have hD : va_D A [(o, .inr (6, [.int th, .ref xv, .ref xo, .ref xn, .ref xc, .ref xb, .ref xd, .ref xq, .ref xa, .ref xk, .ref xt, .ref xh, .ref xs, .ref xS, .ref xw, .ref xW, .ref xB, .ref xM, .long jf, .long js, .int jb, .long nf, .long ns, .int nb, .ref xf, .ref xg, .ref xi])), (xv, .inl (cL, 4608, .inr (.inl fv))), (xn, .inl (cI, 2, .inl nv))] := hD
  refine xt_i (y := nI 1) (by rw [hs9]; rfl) ?_
  refine lv_if_eq (tgt := 15) hx hb dMO_record_5 (by decide) (fun h => absurd h (by decide +kernel)) (fun _ => ?_)
  refine lv_iload_n hx hb dMO_record_8 rfl (lv_at hl 3 rfl) ?_
  have hp9 : bs_ii (nI i) 256 = true := bs_ii_n hi (by omega)
  have hPc := hP.sub (ws' := []) [] rfl
  have hDc := hD.sub (ws' := []) [] (by decide) rfl
  have hKc := hK.sub (tys' := []) [] rfl
  have hFc := va_free (wc := []) hD hS hA [] rfl
  refine va_calli (va_runS (As := [.int (nI i)]) (rest := [.ref o]) ⟨hx, hb, hml, hown, hts⟩ (c_MO_isPlace l dC dI H.size (nI i)) (va_cwS 1 hts (wT_3 w_m_MO_167 w_t_MO_isPlace w_n_MO w_c_MO_isPlace) rfl rfl rfl (by decide +kernel) ⟨Nat.le_of_ble_eq_true rfl, Nat.le_of_ble_eq_true rfl⟩) ⟨fun a U g mk q => by obtain ⟨q0, q1, qP, qK, qD⟩ := q; exact ⟨q0, q1, qP, va_K.moved (u := U) (U := U.calling g mk a) (Vm.Alike.refl U.vm) qK, qD⟩, fun U hU hW => ⟨rfl, by rw [hU], by rw [hU]; exact hPc, va_K.moved hW.alike hKc, hDc.weaken (fun _ _ _ _ => trivial)⟩⟩ rfl rfl hl.1 rfl (lv_room (Nat.le_of_ble_eq_true rfl)) dMO_record_9 ⟨Nat.zero_le _, Nat.zero_le _⟩) hS (fun q _ h => hFc q h) hFc (fun r u t H1 locs ht hvm hw hB hz1 hk1 hS => ?_)
  obtain ⟨hP1, hK1, hD1⟩ := hB
  rw [ht] at hP1
  have hK1 := va_K.moved hvm.symm hK1
  have hw : r = bs_z (bs_ii (nI i) 256) := hw
  subst hw
  obtain ⟨hP, hD⟩ := va_join (wr := [(o, .inr (6, [.int th, .ref xv, .ref xo, .ref xn, .ref xc, .ref xb, .ref xd, .ref xq, .ref xa, .ref xk, .ref xt, .ref xh, .ref xs, .ref xS, .ref xw, .ref xW, .ref xB, .ref xM, .long jf, .long js, .int jb, .long nf, .long ns, .int nb, .ref xf, .ref xg, .ref xi])), (xv, .inl (cL, 4608, .inr (.inl fv))), (xn, .inl (cI, 2, .inl nv))]) (w1 := []) hP hD [] [0, 1, 2] rfl rfl (by decide) (by decide) hk1 hFc hP1 hD1
  generalize H1 = H at hP hS ⊢
  have hP : va_P (dC, dI) vwCl [(o, .inr (6, [.int th, .ref xv, .ref xo, .ref xn, .ref xc, .ref xb, .ref xd, .ref xq, .ref xa, .ref xk, .ref xt, .ref xh, .ref xs, .ref xS, .ref xw, .ref xW, .ref xB, .ref xM, .long jf, .long js, .int jb, .long nf, .long ns, .int nb, .ref xf, .ref xg, .ref xi])), (xv, .inl (cL, 4608, .inr (.inl fv))), (xn, .inl (cI, 2, .inl nv))] H := hP
  have hD : va_D A [(o, .inr (6, [.int th, .ref xv, .ref xo, .ref xn, .ref xc, .ref xb, .ref xd, .ref xq, .ref xa, .ref xk, .ref xt, .ref xh, .ref xs, .ref xS, .ref xw, .ref xW, .ref xB, .ref xM, .long jf, .long js, .int jb, .long nf, .long ns, .int nb, .ref xf, .ref xg, .ref xi])), (xv, .inl (cL, 4608, .inr (.inl fv))), (xn, .inl (cI, 2, .inl nv))] := hD
  refine xt_i (y := nI 1) (by rw [hp9]; rfl) ?_
  refine lv_if_ne (tgt := 19) hx hb dMO_record_12 (by decide) (fun _ => ?_) (fun h => absurd h (by decide +kernel))
  refine lv_aload_n hx hb dMO_record_19 rfl (lv_at hl 0 rfl) ?_
  refine lv_iload_n hx hb dMO_record_20 rfl (lv_at hl 1 rfl) ?_
  refine lv_iload_n hx hb dMO_record_21 rfl (lv_at hl 2 rfl) ?_
  have hPc := hP.sub (ws' := [(o, .inr (6, [.int th, .ref xv, .ref xo, .ref xn, .ref xc, .ref xb, .ref xd, .ref xq, .ref xa, .ref xk, .ref xt, .ref xh, .ref xs, .ref xS, .ref xw, .ref xW, .ref xB, .ref xM, .long jf, .long js, .int jb, .long nf, .long ns, .int nb, .ref xf, .ref xg, .ref xi])), (xn, .inl (cI, 2, .inl nv))]) [0, 2] rfl
  have hDc := hD.sub (ws' := [(o, .inr (6, [.int th, .ref xv, .ref xo, .ref xn, .ref xc, .ref xb, .ref xd, .ref xq, .ref xa, .ref xk, .ref xt, .ref xh, .ref xs, .ref xS, .ref xw, .ref xW, .ref xB, .ref xM, .long jf, .long js, .int jb, .long nf, .long ns, .int nb, .ref xf, .ref xg, .ref xi])), (xn, .inl (cI, 2, .inl nv))]) [0, 2] (by decide) rfl
  have hKc := hK.sub (tys' := [(cI, .int)]) [0] rfl
  have hFc := va_free (wc := [(o, .inr (6, [.int th, .ref xv, .ref xo, .ref xn, .ref xc, .ref xb, .ref xd, .ref xq, .ref xa, .ref xk, .ref xt, .ref xh, .ref xs, .ref xS, .ref xw, .ref xW, .ref xB, .ref xM, .long jf, .long js, .int jb, .long nf, .long ns, .int nb, .ref xf, .ref xg, .ref xi])), (xn, .inl (cI, 2, .inl nv))]) hD hS hA [0, 2] rfl
  refine va_calli (va_runV (C := RMO) (As := [.int (nI k), .int (nI vn)]) (rest := [.ref o]) ⟨hx, hb, hml, hown, hts⟩ (c_MO_isHeld l dC dI H.size o xv xo xn xc xb xd xq xa xk xt xh xs xS xw xW xB xM xf xg xi th jf js jb nf ns nb cI nv k v (nI vn) hk hv hn) (cwV (C := RMO) 2 hts (wT_4 w_m_MO_176 w_i_MO_isHeld w_s_MO_isHeld w_n_MO w_c_MO_isHeld) rfl rfl rfl (by decide +kernel) ⟨Nat.le_of_ble_eq_true rfl, Nat.le_of_ble_eq_true rfl⟩) ⟨fun a U g mk q => by obtain ⟨q0, q1, qP, qK, qD⟩ := q; exact ⟨q0, q1, qP, va_K.moved (u := U) (U := U.calling g mk a) (Vm.Alike.refl U.vm) qK, qD⟩, va_recv hK hP (q0 := 0) (ci := 6) (q := (RMO, TMO, 27)) rfl rfl, fun U hU hW => ⟨rfl, by rw [hU], by rw [hU]; exact hPc, va_K.moved hW.alike hKc, hDc.weaken (fun _ _ _ _ => trivial)⟩⟩ rfl rfl hl.1 rfl (lv_room (Nat.le_of_ble_eq_true rfl)) dMO_record_22 ⟨Nat.zero_le _, Nat.zero_le _⟩) hS (fun q _ h => hFc q h) hFc (fun r u t H1 locs ht hvm hw hB hz1 hk1 hS => ?_)
  obtain ⟨hP1, hK1, hD1⟩ := hB
  rw [ht] at hP1
  have hK1 := va_K.moved hvm.symm hK1
  have hw : r = bs_z (decide (nI (v - 8) ≤ nI vn ∧ nI vn ≤ nI v)) := hw
  subst hw
  obtain ⟨hP, hD⟩ := va_join (wr := [(xv, .inl (cL, 4608, .inr (.inl fv)))]) (w1 := [(o, .inr (6, [.int th, .ref xv, .ref xo, .ref xn, .ref xc, .ref xb, .ref xd, .ref xq, .ref xa, .ref xk, .ref xt, .ref xh, .ref xs, .ref xS, .ref xw, .ref xW, .ref xB, .ref xM, .long jf, .long js, .int jb, .long nf, .long ns, .int nb, .ref xf, .ref xg, .ref xi])), (xn, .inl (cI, 2, .inl nv))]) hP hD [0, 2] [1] rfl rfl (by decide) (by decide) hk1 hFc hP1 hD1
  generalize H1 = H at hP hS ⊢
  have hP : va_P (dC, dI) vwCl [(xv, .inl (cL, 4608, .inr (.inl fv))), (o, .inr (6, [.int th, .ref xv, .ref xo, .ref xn, .ref xc, .ref xb, .ref xd, .ref xq, .ref xa, .ref xk, .ref xt, .ref xh, .ref xs, .ref xS, .ref xw, .ref xW, .ref xB, .ref xM, .long jf, .long js, .int jb, .long nf, .long ns, .int nb, .ref xf, .ref xg, .ref xi])), (xn, .inl (cI, 2, .inl nv))] H := hP
  have hD : va_D A [(xv, .inl (cL, 4608, .inr (.inl fv))), (o, .inr (6, [.int th, .ref xv, .ref xo, .ref xn, .ref xc, .ref xb, .ref xd, .ref xq, .ref xa, .ref xk, .ref xt, .ref xh, .ref xs, .ref xS, .ref xw, .ref xW, .ref xB, .ref xM, .long jf, .long js, .int jb, .long nf, .long ns, .int nb, .ref xf, .ref xg, .ref xi])), (xn, .inl (cI, 2, .inl nv))] := hD
  refine xt_i (y := nI 1) (by rw [hu]; rfl) ?_
  refine lv_if_eq (tgt := 32) hx hb dMO_record_25 (by decide) (fun h => absurd h (by decide +kernel)) (fun _ => ?_)
  refine lv_iconst (v := nI 0) hx hb dMO_record_28 (by decide) ?_
  refine lv_goto (tgt := 33) hx hb dMO_record_29 (by decide) ?_
  refine va_put (D := (dC, dI)) (ci := 6) (v := .int (nI 0)) (ty := .int) (C := RMO) (T := TMO) (N := 27) hx hb hts in_MO tyMO tyMO_ok nmMO hown hK hP hD hS 1 rfl rfl 0 (by decide) (hts _ w_f_MO_87) (fun _ h9 => h9) rfl (by decide +kernel) (rfl) (rfl) (Nat.le_of_ble_eq_true rfl) dMO_record_33 (fun H locs hP hD hS => ?_)
  have hP : va_P (dC, dI) vwCl [(xv, .inl (cL, 4608, .inr (.inl fv))), (o, .inr (6, [.int (nI 0), .ref xv, .ref xo, .ref xn, .ref xc, .ref xb, .ref xd, .ref xq, .ref xa, .ref xk, .ref xt, .ref xh, .ref xs, .ref xS, .ref xw, .ref xW, .ref xB, .ref xM, .long jf, .long js, .int jb, .long nf, .long ns, .int nb, .ref xf, .ref xg, .ref xi])), (xn, .inl (cI, 2, .inl nv))] H := hP
  have hD : va_D A [(xv, .inl (cL, 4608, .inr (.inl fv))), (o, .inr (6, [.int (nI 0), .ref xv, .ref xo, .ref xn, .ref xc, .ref xb, .ref xd, .ref xq, .ref xa, .ref xk, .ref xt, .ref xh, .ref xs, .ref xS, .ref xw, .ref xW, .ref xB, .ref xM, .long jf, .long js, .int jb, .long nf, .long ns, .int nb, .ref xf, .ref xg, .ref xi])), (xn, .inl (cI, 2, .inl nv))] := hD
  refine lv_aload_n hx hb dMO_record_36 rfl (lv_at hl 0 rfl) ?_
  refine va_get (D := (dC, dI)) (ci := 6) (v := .int (nI 0)) (C := RMO) (T := TMO) (N := 27) hx hb hts in_MO hown hK hP 1 rfl rfl 0 (by decide) (hts _ w_f_MO_87) (fun _ h9 => h9) rfl dMO_record_37 ?_
  refine lv_if_le (tgt := 47) hx hb dMO_record_40 (by decide) (fun _ => ?_) (fun h => absurd (by decide +kernel) h)
  refine lv_aload_n hx hb dMO_record_47 rfl (lv_at hl 0 rfl) ?_
  refine va_get (D := (dC, dI)) (ci := 6) (v := .ref xv) (C := RMO) (T := TMO) (N := 27) hx hb hts in_MO hown hK hP 1 rfl rfl 1 (by decide) (hts _ w_f_MO_7) (fun _ h9 => h9) rfl dMO_record_48 ?_
  refine lv_aload_n hx hb dMO_record_51 rfl (lv_at hl 0 rfl) ?_
  refine lv_iload_n hx hb dMO_record_52 rfl (lv_at hl 1 rfl) ?_
  refine lv_iload_n hx hb dMO_record_53 rfl (lv_at hl 2 rfl) ?_
  have hPc := hP.sub (ws' := [(o, .inr (6, [.int (nI 0), .ref xv, .ref xo, .ref xn, .ref xc, .ref xb, .ref xd, .ref xq, .ref xa, .ref xk, .ref xt, .ref xh, .ref xs, .ref xS, .ref xw, .ref xW, .ref xB, .ref xM, .long jf, .long js, .int jb, .long nf, .long ns, .int nb, .ref xf, .ref xg, .ref xi]))]) [1] rfl
  have hDc := hD.sub (ws' := [(o, .inr (6, [.int (nI 0), .ref xv, .ref xo, .ref xn, .ref xc, .ref xb, .ref xd, .ref xq, .ref xa, .ref xk, .ref xt, .ref xh, .ref xs, .ref xS, .ref xw, .ref xW, .ref xB, .ref xM, .long jf, .long js, .int jb, .long nf, .long ns, .int nb, .ref xf, .ref xg, .ref xi]))]) [1] (by decide) rfl
  have hKc := hK.sub (tys' := []) [] rfl
  have hFc := va_free (wc := [(o, .inr (6, [.int (nI 0), .ref xv, .ref xo, .ref xn, .ref xc, .ref xb, .ref xd, .ref xq, .ref xa, .ref xk, .ref xt, .ref xh, .ref xs, .ref xS, .ref xw, .ref xW, .ref xB, .ref xM, .long jf, .long js, .int jb, .long nf, .long ns, .int nb, .ref xf, .ref xg, .ref xi]))]) hD hS hA [1] rfl
  refine va_calli (va_runV (C := RMO) (As := [.int (nI k), .int (nI vn)]) (rest := [.ref xv]) ⟨hx, hb, hml, hown, hts⟩ (c_MO_base l dC dI H.size o xv xo xn xc xb xd xq xa xk xt xh xs xS xw xW xB xM xf xg xi (nI 0) jf js jb nf ns nb k vn hk (by omega)) (cwV (C := RMO) 2 hts (wT_4 w_m_MO_170 w_i_MO_base w_s_MO_base w_n_MO w_c_MO_base) rfl rfl rfl (by decide +kernel) ⟨Nat.le_of_ble_eq_true rfl, Nat.le_of_ble_eq_true rfl⟩) ⟨fun a U g mk q => by obtain ⟨q0, q1, qP, qK, qD⟩ := q; exact ⟨q0, q1, qP, va_K.moved (u := U) (U := U.calling g mk a) (Vm.Alike.refl U.vm) qK, qD⟩, va_recv hK hP (q0 := 1) (ci := 6) (q := (RMO, TMO, 27)) rfl rfl, fun U hU hW => ⟨rfl, by rw [hU], by rw [hU]; exact hPc, va_K.moved hW.alike hKc, hDc.weaken (fun _ _ _ _ => trivial)⟩⟩ rfl rfl hl.1 rfl (lv_room (Nat.le_of_ble_eq_true rfl)) dMO_record_54 ⟨Nat.zero_le _, Nat.zero_le _⟩) hS (fun q _ h => hFc q h) hFc (fun r u t H1 locs ht hvm hw hB hz1 hk1 hS => ?_)
  obtain ⟨hP1, hK1, hD1⟩ := hB
  rw [ht] at hP1
  have hK1 := va_K.moved hvm.symm hK1
  have hw : r = nI (256 * (9 * k + vn % 9)) := hw
  subst hw
  obtain ⟨hP, hD⟩ := va_join (wr := [(xv, .inl (cL, 4608, .inr (.inl fv))), (xn, .inl (cI, 2, .inl nv))]) (w1 := [(o, .inr (6, [.int (nI 0), .ref xv, .ref xo, .ref xn, .ref xc, .ref xb, .ref xd, .ref xq, .ref xa, .ref xk, .ref xt, .ref xh, .ref xs, .ref xS, .ref xw, .ref xW, .ref xB, .ref xM, .long jf, .long js, .int jb, .long nf, .long ns, .int nb, .ref xf, .ref xg, .ref xi]))]) hP hD [1] [0, 2] rfl rfl (by decide) (by decide) hk1 hFc hP1 hD1
  generalize H1 = H at hP hS ⊢
  have hP : va_P (dC, dI) vwCl [(xv, .inl (cL, 4608, .inr (.inl fv))), (xn, .inl (cI, 2, .inl nv)), (o, .inr (6, [.int (nI 0), .ref xv, .ref xo, .ref xn, .ref xc, .ref xb, .ref xd, .ref xq, .ref xa, .ref xk, .ref xt, .ref xh, .ref xs, .ref xS, .ref xw, .ref xW, .ref xB, .ref xM, .long jf, .long js, .int jb, .long nf, .long ns, .int nb, .ref xf, .ref xg, .ref xi]))] H := hP
  have hD : va_D A [(xv, .inl (cL, 4608, .inr (.inl fv))), (xn, .inl (cI, 2, .inl nv)), (o, .inr (6, [.int (nI 0), .ref xv, .ref xo, .ref xn, .ref xc, .ref xb, .ref xd, .ref xq, .ref xa, .ref xk, .ref xt, .ref xh, .ref xs, .ref xS, .ref xw, .ref xW, .ref xB, .ref xM, .long jf, .long js, .int jb, .long nf, .long ns, .int nb, .ref xf, .ref xg, .ref xi]))] := hD
  refine lv_iload_n hx hb dMO_record_57 rfl (lv_at hl 3 rfl) ?_
  refine lv_iadd hx hb dMO_record_58 ?_
  refine xt_i (y := nI (256 * (9 * k + vn % 9) + i)) (nI_add _ _) ?_
  refine xa_lald hx hb hK hP 0 1 rfl rfl (256 * (9 * k + vn % 9) + i) (by omega) (by decide) dMO_record_59 ?_
  have hP := hP.sub (ws' := [(o, .inr (6, [.int (nI 0), .ref xv, .ref xo, .ref xn, .ref xc, .ref xb, .ref xd, .ref xq, .ref xa, .ref xk, .ref xt, .ref xh, .ref xs, .ref xS, .ref xw, .ref xW, .ref xB, .ref xM, .long jf, .long js, .int jb, .long nf, .long ns, .int nb, .ref xf, .ref xg, .ref xi])), (xv, .inl (cL, 4608, .inr (.inl fv))), (xn, .inl (cI, 2, .inl nv))]) [2, 0, 1] rfl
  have hD := hD.sub (ws' := [(o, .inr (6, [.int (nI 0), .ref xv, .ref xo, .ref xn, .ref xc, .ref xb, .ref xd, .ref xq, .ref xa, .ref xk, .ref xt, .ref xh, .ref xs, .ref xS, .ref xw, .ref xW, .ref xB, .ref xM, .long jf, .long js, .int jb, .long nf, .long ns, .int nb, .ref xf, .ref xg, .ref xi])), (xv, .inl (cL, 4608, .inr (.inl fv))), (xn, .inl (cI, 2, .inl nv))]) [2, 0, 1] (by decide) rfl
  have hP : va_P (dC, dI) vwCl [(o, .inr (6, [.int (nI 0), .ref xv, .ref xo, .ref xn, .ref xc, .ref xb, .ref xd, .ref xq, .ref xa, .ref xk, .ref xt, .ref xh, .ref xs, .ref xS, .ref xw, .ref xW, .ref xB, .ref xM, .long jf, .long js, .int jb, .long nf, .long ns, .int nb, .ref xf, .ref xg, .ref xi])), (xv, .inl (cL, 4608, .inr (.inl fv))), (xn, .inl (cI, 2, .inl nv))] H := hP
  have hD : va_D A [(o, .inr (6, [.int (nI 0), .ref xv, .ref xo, .ref xn, .ref xc, .ref xb, .ref xd, .ref xq, .ref xa, .ref xk, .ref xt, .ref xh, .ref xs, .ref xS, .ref xw, .ref xW, .ref xB, .ref xM, .long jf, .long js, .int jb, .long nf, .long ns, .int nb, .ref xf, .ref xg, .ref xi])), (xv, .inl (cL, 4608, .inr (.inl fv))), (xn, .inl (cI, 2, .inl nv))] := hD
  subst hQ
  exact W.lret (v := fv (256 * (9 * k + vn % 9) + i)) hx hb hr (fun t ht hW => ⟨⟨fv (256 * (9 * k + vn % 9) + i), (), rfl, rfl, by rw [ht]; exact hP, va_K.moved hW.alike hK, hD⟩, hS.F ht⟩) hS.2.2 dMO_record_60
set_option maxHeartbeats 4000000 in
set_option maxRecDepth 100000 in
theorem c_MO_record_h (l : Launch) (dC : Nat → ClassId) (dI : Nat → Nat → Nat) (sz : Nat) (o xv xo xn xc xb xd xq xa xk xt xh xs xS xw xW xB xM xf xg xi : Nat) (th : Int32) (jf js : Int64) (jb : Int32) (nf ns : Int64) (nb : Int32) (cI : ClassId) (nv : Nat → Int32) (k v i : Nat) (x : Int32) (hk : k < 2) (hi : i < 256) (hv : v < 2 ^ 30) (hn : nv k = nI v) (hu : decide (nI (v - 8) ≤ x ∧ x ≤ nI v) = false) : Met l yMO_record wsMO_record { frames := 1, cells := 0, slots := 0, locals := 22 } (va_Pc [.ref o, .int (nI k), .int x, .int (nI i)] (fun U => U.heap.size = sz ∧ va_P (dC, dI) vwCl [(o, .inr (6, [.int th, .ref xv, .ref xo, .ref xn, .ref xc, .ref xb, .ref xd, .ref xq, .ref xa, .ref xk, .ref xt, .ref xh, .ref xs, .ref xS, .ref xw, .ref xW, .ref xB, .ref xM, .long jf, .long js, .int jb, .long nf, .long ns, .int nb, .ref xf, .ref xg, .ref xi])), (xn, .inl (cI, 2, .inl nv))] U.heap ∧ va_K (dC, dI) vwCl [(cI, .int)] U ∧ va_D (fun _ => True) [(o, .inr (6, [.int th, .ref xv, .ref xo, .ref xn, .ref xc, .ref xb, .ref xd, .ref xq, .ref xa, .ref xk, .ref xt, .ref xh, .ref xs, .ref xS, .ref xw, .ref xW, .ref xB, .ref xM, .long jf, .long js, .int jb, .long nf, .long ns, .int nb, .ref xf, .ref xg, .ref xi])), (xn, .inl (cI, 2, .inl nv))])) (va_Ql (fun (r : Int64) (_ : Unit) => r = 0) (fun (_ : Unit) t => va_P (dC, dI) vwCl [(o, .inr (6, [.int (nI 2), .ref xv, .ref xo, .ref xn, .ref xc, .ref xb, .ref xd, .ref xq, .ref xa, .ref xk, .ref xt, .ref xh, .ref xs, .ref xS, .ref xw, .ref xW, .ref xB, .ref xM, .long jf, .long js, .int jb, .long nf, .long ns, .int nb, .ref xf, .ref xg, .ref xi])), (xn, .inl (cI, 2, .inl nv))] t.heap ∧ va_K (dC, dI) vwCl [(cI, .int)] t ∧ va_D (va_A [(o, .inr (6, [.int th, .ref xv, .ref xo, .ref xn, .ref xc, .ref xb, .ref xd, .ref xq, .ref xa, .ref xk, .ref xt, .ref xh, .ref xs, .ref xS, .ref xw, .ref xW, .ref xB, .ref xM, .long jf, .long js, .int jb, .long nf, .long ns, .int nb, .ref xf, .ref xg, .ref xi])), (xn, .inl (cI, 2, .inl nv))] sz) [(o, .inr (6, [.int (nI 2), .ref xv, .ref xo, .ref xn, .ref xc, .ref xb, .ref xd, .ref xq, .ref xa, .ref xk, .ref xt, .ref xh, .ref xs, .ref xS, .ref xw, .ref xW, .ref xB, .ref xM, .long jf, .long js, .int jb, .long nf, .long ns, .int nb, .ref xf, .ref xg, .ref xi])), (xn, .inl (cI, 2, .inl nv))]) (va_A [(o, .inr (6, [.int th, .ref xv, .ref xo, .ref xn, .ref xc, .ref xb, .ref xd, .ref xq, .ref xa, .ref xk, .ref xt, .ref xh, .ref xs, .ref xS, .ref xw, .ref xW, .ref xB, .ref xM, .long jf, .long js, .int jb, .long nf, .long ns, .int nb, .ref xf, .ref xg, .ref xi])), (xn, .inl (cI, 2, .inl nv))] sz)) 0 0 (va_A [(o, .inr (6, [.int th, .ref xv, .ref xo, .ref xn, .ref xc, .ref xb, .ref xd, .ref xq, .ref xa, .ref xk, .ref xt, .ref xh, .ref xs, .ref xS, .ref xw, .ref xW, .ref xB, .ref xM, .long jf, .long js, .int jb, .long nf, .long ns, .int nb, .ref xf, .ref xg, .ref xi])), (xn, .inl (cI, 2, .inl nv))] sz) := by
  refine Met.ofW (cc := cMO_record) (maxL := 4) (ret := (some .long)) (by decide) rfl ?_
  intro p e s m args below meth c s₁ Bo9 hml hv
  obtain ⟨rfl, hsz, hP, hK, hD0⟩ := hv
  have hx := Bo9.exec
  have hb := Bo9.bytes
  have hr := Bo9.returns
  have hts := fun w (h : w ∈ wT) => atoms_spec (ws := wsMO_record) Bo9.pre w (List.mem_cons_of_mem _ h)
  have hown : s.vm.findClass RMO = some m.cls := findClass_of_methodNamed Bo9.named
  have hlocks := Bo9.notSynchronized
  subst hsz
  have hD := hD0.self (sz := s.heap.size)
  generalize hAe : va_A [(o, .inr (6, [.int th, .ref xv, .ref xo, .ref xn, .ref xc, .ref xb, .ref xd, .ref xq, .ref xa, .ref xk, .ref xt, .ref xh, .ref xs, .ref xS, .ref xw, .ref xW, .ref xB, .ref xM, .long jf, .long js, .int jb, .long nf, .long ns, .int nb, .ref xf, .ref xg, .ref xi])), (xn, .inl (cI, 2, .inl nv))] s.heap.size = A at hD ⊢
  have hA : ∀ q : Nat, s.heap.size ≤ q → A q := fun q h => by rw [← hAe]; exact Or.inr h
  have hl := lv_entry ([.ref o, .int (nI k), .int x, .int (nI i)]) (n := 4) (Nat.le_of_ble_eq_true rfl)
  rw [lg_entry_eq]
  generalize (lg_sl ([.ref o, .int (nI k), .int x, .int (nI i)]) ++ List.replicate (4 - (lg_sl ([.ref o, .int (nI k), .int x, .int (nI i)])).length) Slot.unset).toArray = ls at hl ⊢
  have hl : lv_has ls 4 [(0, .ref o), (1, .int (nI k)), (2, .int x), (3, .int (nI i))] := hl
  refine xs_q (fun H Q hH hQ => ?_)
  have hS : va_S A s.heap H [] := by rw [hH]; exact va_S.rf
  have hP : va_P (dC, dI) vwCl [(o, .inr (6, [.int th, .ref xv, .ref xo, .ref xn, .ref xc, .ref xb, .ref xd, .ref xq, .ref xa, .ref xk, .ref xt, .ref xh, .ref xs, .ref xS, .ref xw, .ref xW, .ref xB, .ref xM, .long jf, .long js, .int jb, .long nf, .long ns, .int nb, .ref xf, .ref xg, .ref xi])), (xn, .inl (cI, 2, .inl nv))] H := by rw [hH]; exact hP
  refine lv_aload_n hx hb dMO_record_0 rfl (lv_at hl 0 rfl) ?_
  refine lv_iload_n hx hb dMO_record_1 rfl (lv_at hl 1 rfl) ?_
  have hs9 : bs_ii (nI k) 2 = true := bs_ii_n hk (by omega)
  have hPc := hP.sub (ws' := []) [] rfl
  have hDc := hD.sub (ws' := []) [] (by decide) rfl
  have hKc := hK.sub (tys' := []) [] rfl
  have hFc := va_free (wc := []) hD hS hA [] rfl
  refine va_calli (va_runS (As := [.int (nI k)]) (rest := [.ref o]) ⟨hx, hb, hml, hown, hts⟩ (c_MO_isServer l dC dI H.size (nI k)) (va_cwS 1 hts (wT_3 w_m_MO_164 w_t_MO_isServer w_n_MO w_c_MO_isServer) rfl rfl rfl (by decide +kernel) ⟨Nat.le_of_ble_eq_true rfl, Nat.le_of_ble_eq_true rfl⟩) ⟨fun a U g mk q => by obtain ⟨q0, q1, qP, qK, qD⟩ := q; exact ⟨q0, q1, qP, va_K.moved (u := U) (U := U.calling g mk a) (Vm.Alike.refl U.vm) qK, qD⟩, fun U hU hW => ⟨rfl, by rw [hU], by rw [hU]; exact hPc, va_K.moved hW.alike hKc, hDc.weaken (fun _ _ _ _ => trivial)⟩⟩ rfl rfl hl.1 rfl (lv_room (Nat.le_of_ble_eq_true rfl)) dMO_record_2 ⟨Nat.zero_le _, Nat.zero_le _⟩) hS (fun q _ h => hFc q h) hFc (fun r u t H1 locs ht hvm hw hB hz1 hk1 hS => ?_)
  obtain ⟨hP1, hK1, hD1⟩ := hB
  rw [ht] at hP1
  have hK1 := va_K.moved hvm.symm hK1
  have hw : r = bs_z (bs_ii (nI k) 2) := hw
  subst hw
  obtain ⟨hP, hD⟩ := va_join (wr := [(o, .inr (6, [.int th, .ref xv, .ref xo, .ref xn, .ref xc, .ref xb, .ref xd, .ref xq, .ref xa, .ref xk, .ref xt, .ref xh, .ref xs, .ref xS, .ref xw, .ref xW, .ref xB, .ref xM, .long jf, .long js, .int jb, .long nf, .long ns, .int nb, .ref xf, .ref xg, .ref xi])), (xn, .inl (cI, 2, .inl nv))]) (w1 := []) hP hD [] [0, 1] rfl rfl (by decide) (by decide) hk1 hFc hP1 hD1
  generalize H1 = H at hP hS ⊢
  have hP : va_P (dC, dI) vwCl [(o, .inr (6, [.int th, .ref xv, .ref xo, .ref xn, .ref xc, .ref xb, .ref xd, .ref xq, .ref xa, .ref xk, .ref xt, .ref xh, .ref xs, .ref xS, .ref xw, .ref xW, .ref xB, .ref xM, .long jf, .long js, .int jb, .long nf, .long ns, .int nb, .ref xf, .ref xg, .ref xi])), (xn, .inl (cI, 2, .inl nv))] H := hP
  have hD : va_D A [(o, .inr (6, [.int th, .ref xv, .ref xo, .ref xn, .ref xc, .ref xb, .ref xd, .ref xq, .ref xa, .ref xk, .ref xt, .ref xh, .ref xs, .ref xS, .ref xw, .ref xW, .ref xB, .ref xM, .long jf, .long js, .int jb, .long nf, .long ns, .int nb, .ref xf, .ref xg, .ref xi])), (xn, .inl (cI, 2, .inl nv))] := hD
  refine xt_i (y := nI 1) (by rw [hs9]; rfl) ?_
  refine lv_if_eq (tgt := 15) hx hb dMO_record_5 (by decide) (fun h => absurd h (by decide +kernel)) (fun _ => ?_)
  refine lv_iload_n hx hb dMO_record_8 rfl (lv_at hl 3 rfl) ?_
  have hp9 : bs_ii (nI i) 256 = true := bs_ii_n hi (by omega)
  have hPc := hP.sub (ws' := []) [] rfl
  have hDc := hD.sub (ws' := []) [] (by decide) rfl
  have hKc := hK.sub (tys' := []) [] rfl
  have hFc := va_free (wc := []) hD hS hA [] rfl
  refine va_calli (va_runS (As := [.int (nI i)]) (rest := [.ref o]) ⟨hx, hb, hml, hown, hts⟩ (c_MO_isPlace l dC dI H.size (nI i)) (va_cwS 1 hts (wT_3 w_m_MO_167 w_t_MO_isPlace w_n_MO w_c_MO_isPlace) rfl rfl rfl (by decide +kernel) ⟨Nat.le_of_ble_eq_true rfl, Nat.le_of_ble_eq_true rfl⟩) ⟨fun a U g mk q => by obtain ⟨q0, q1, qP, qK, qD⟩ := q; exact ⟨q0, q1, qP, va_K.moved (u := U) (U := U.calling g mk a) (Vm.Alike.refl U.vm) qK, qD⟩, fun U hU hW => ⟨rfl, by rw [hU], by rw [hU]; exact hPc, va_K.moved hW.alike hKc, hDc.weaken (fun _ _ _ _ => trivial)⟩⟩ rfl rfl hl.1 rfl (lv_room (Nat.le_of_ble_eq_true rfl)) dMO_record_9 ⟨Nat.zero_le _, Nat.zero_le _⟩) hS (fun q _ h => hFc q h) hFc (fun r u t H1 locs ht hvm hw hB hz1 hk1 hS => ?_)
  obtain ⟨hP1, hK1, hD1⟩ := hB
  rw [ht] at hP1
  have hK1 := va_K.moved hvm.symm hK1
  have hw : r = bs_z (bs_ii (nI i) 256) := hw
  subst hw
  obtain ⟨hP, hD⟩ := va_join (wr := [(o, .inr (6, [.int th, .ref xv, .ref xo, .ref xn, .ref xc, .ref xb, .ref xd, .ref xq, .ref xa, .ref xk, .ref xt, .ref xh, .ref xs, .ref xS, .ref xw, .ref xW, .ref xB, .ref xM, .long jf, .long js, .int jb, .long nf, .long ns, .int nb, .ref xf, .ref xg, .ref xi])), (xn, .inl (cI, 2, .inl nv))]) (w1 := []) hP hD [] [0, 1] rfl rfl (by decide) (by decide) hk1 hFc hP1 hD1
  generalize H1 = H at hP hS ⊢
  have hP : va_P (dC, dI) vwCl [(o, .inr (6, [.int th, .ref xv, .ref xo, .ref xn, .ref xc, .ref xb, .ref xd, .ref xq, .ref xa, .ref xk, .ref xt, .ref xh, .ref xs, .ref xS, .ref xw, .ref xW, .ref xB, .ref xM, .long jf, .long js, .int jb, .long nf, .long ns, .int nb, .ref xf, .ref xg, .ref xi])), (xn, .inl (cI, 2, .inl nv))] H := hP
  have hD : va_D A [(o, .inr (6, [.int th, .ref xv, .ref xo, .ref xn, .ref xc, .ref xb, .ref xd, .ref xq, .ref xa, .ref xk, .ref xt, .ref xh, .ref xs, .ref xS, .ref xw, .ref xW, .ref xB, .ref xM, .long jf, .long js, .int jb, .long nf, .long ns, .int nb, .ref xf, .ref xg, .ref xi])), (xn, .inl (cI, 2, .inl nv))] := hD
  refine xt_i (y := nI 1) (by rw [hp9]; rfl) ?_
  refine lv_if_ne (tgt := 19) hx hb dMO_record_12 (by decide) (fun _ => ?_) (fun h => absurd h (by decide +kernel))
  refine lv_aload_n hx hb dMO_record_19 rfl (lv_at hl 0 rfl) ?_
  refine lv_iload_n hx hb dMO_record_20 rfl (lv_at hl 1 rfl) ?_
  refine lv_iload_n hx hb dMO_record_21 rfl (lv_at hl 2 rfl) ?_
  have hPc := hP.sub (ws' := [(o, .inr (6, [.int th, .ref xv, .ref xo, .ref xn, .ref xc, .ref xb, .ref xd, .ref xq, .ref xa, .ref xk, .ref xt, .ref xh, .ref xs, .ref xS, .ref xw, .ref xW, .ref xB, .ref xM, .long jf, .long js, .int jb, .long nf, .long ns, .int nb, .ref xf, .ref xg, .ref xi])), (xn, .inl (cI, 2, .inl nv))]) [0, 1] rfl
  have hDc := hD.sub (ws' := [(o, .inr (6, [.int th, .ref xv, .ref xo, .ref xn, .ref xc, .ref xb, .ref xd, .ref xq, .ref xa, .ref xk, .ref xt, .ref xh, .ref xs, .ref xS, .ref xw, .ref xW, .ref xB, .ref xM, .long jf, .long js, .int jb, .long nf, .long ns, .int nb, .ref xf, .ref xg, .ref xi])), (xn, .inl (cI, 2, .inl nv))]) [0, 1] (by decide) rfl
  have hKc := hK.sub (tys' := [(cI, .int)]) [0] rfl
  have hFc := va_free (wc := [(o, .inr (6, [.int th, .ref xv, .ref xo, .ref xn, .ref xc, .ref xb, .ref xd, .ref xq, .ref xa, .ref xk, .ref xt, .ref xh, .ref xs, .ref xS, .ref xw, .ref xW, .ref xB, .ref xM, .long jf, .long js, .int jb, .long nf, .long ns, .int nb, .ref xf, .ref xg, .ref xi])), (xn, .inl (cI, 2, .inl nv))]) hD hS hA [0, 1] rfl
  refine va_calli (va_runV (C := RMO) (As := [.int (nI k), .int x]) (rest := [.ref o]) ⟨hx, hb, hml, hown, hts⟩ (c_MO_isHeld l dC dI H.size o xv xo xn xc xb xd xq xa xk xt xh xs xS xw xW xB xM xf xg xi th jf js jb nf ns nb cI nv k v x hk hv hn) (cwV (C := RMO) 2 hts (wT_4 w_m_MO_176 w_i_MO_isHeld w_s_MO_isHeld w_n_MO w_c_MO_isHeld) rfl rfl rfl (by decide +kernel) ⟨Nat.le_of_ble_eq_true rfl, Nat.le_of_ble_eq_true rfl⟩) ⟨fun a U g mk q => by obtain ⟨q0, q1, qP, qK, qD⟩ := q; exact ⟨q0, q1, qP, va_K.moved (u := U) (U := U.calling g mk a) (Vm.Alike.refl U.vm) qK, qD⟩, va_recv hK hP (q0 := 0) (ci := 6) (q := (RMO, TMO, 27)) rfl rfl, fun U hU hW => ⟨rfl, by rw [hU], by rw [hU]; exact hPc, va_K.moved hW.alike hKc, hDc.weaken (fun _ _ _ _ => trivial)⟩⟩ rfl rfl hl.1 rfl (lv_room (Nat.le_of_ble_eq_true rfl)) dMO_record_22 ⟨Nat.zero_le _, Nat.zero_le _⟩) hS (fun q _ h => hFc q h) hFc (fun r u t H1 locs ht hvm hw hB hz1 hk1 hS => ?_)
  obtain ⟨hP1, hK1, hD1⟩ := hB
  rw [ht] at hP1
  have hK1 := va_K.moved hvm.symm hK1
  have hw : r = bs_z (decide (nI (v - 8) ≤ x ∧ x ≤ nI v)) := hw
  subst hw
  obtain ⟨hP, hD⟩ := va_join (wr := []) (w1 := [(o, .inr (6, [.int th, .ref xv, .ref xo, .ref xn, .ref xc, .ref xb, .ref xd, .ref xq, .ref xa, .ref xk, .ref xt, .ref xh, .ref xs, .ref xS, .ref xw, .ref xW, .ref xB, .ref xM, .long jf, .long js, .int jb, .long nf, .long ns, .int nb, .ref xf, .ref xg, .ref xi])), (xn, .inl (cI, 2, .inl nv))]) hP hD [0, 1] [] rfl rfl (by decide) (by decide) hk1 hFc hP1 hD1
  generalize H1 = H at hP hS ⊢
  have hP : va_P (dC, dI) vwCl [(o, .inr (6, [.int th, .ref xv, .ref xo, .ref xn, .ref xc, .ref xb, .ref xd, .ref xq, .ref xa, .ref xk, .ref xt, .ref xh, .ref xs, .ref xS, .ref xw, .ref xW, .ref xB, .ref xM, .long jf, .long js, .int jb, .long nf, .long ns, .int nb, .ref xf, .ref xg, .ref xi])), (xn, .inl (cI, 2, .inl nv))] H := hP
  have hD : va_D A [(o, .inr (6, [.int th, .ref xv, .ref xo, .ref xn, .ref xc, .ref xb, .ref xd, .ref xq, .ref xa, .ref xk, .ref xt, .ref xh, .ref xs, .ref xS, .ref xw, .ref xW, .ref xB, .ref xM, .long jf, .long js, .int jb, .long nf, .long ns, .int nb, .ref xf, .ref xg, .ref xi])), (xn, .inl (cI, 2, .inl nv))] := hD
  refine xt_i (y := nI 0) (by rw [hu]; rfl) ?_
  refine lv_if_eq (tgt := 32) hx hb dMO_record_25 (by decide) (fun _ => ?_) (fun h => absurd (by decide +kernel) h)
  refine lv_iconst (v := nI 2) hx hb dMO_record_32 (by decide) ?_
  refine va_put (D := (dC, dI)) (ci := 6) (v := .int (nI 2)) (ty := .int) (C := RMO) (T := TMO) (N := 27) hx hb hts in_MO tyMO tyMO_ok nmMO hown hK hP hD hS 0 rfl rfl 0 (by decide) (hts _ w_f_MO_87) (fun _ h9 => h9) rfl (by decide +kernel) (rfl) (rfl) (Nat.le_of_ble_eq_true rfl) dMO_record_33 (fun H locs hP hD hS => ?_)
  have hP : va_P (dC, dI) vwCl [(o, .inr (6, [.int (nI 2), .ref xv, .ref xo, .ref xn, .ref xc, .ref xb, .ref xd, .ref xq, .ref xa, .ref xk, .ref xt, .ref xh, .ref xs, .ref xS, .ref xw, .ref xW, .ref xB, .ref xM, .long jf, .long js, .int jb, .long nf, .long ns, .int nb, .ref xf, .ref xg, .ref xi])), (xn, .inl (cI, 2, .inl nv))] H := hP
  have hD : va_D A [(o, .inr (6, [.int (nI 2), .ref xv, .ref xo, .ref xn, .ref xc, .ref xb, .ref xd, .ref xq, .ref xa, .ref xk, .ref xt, .ref xh, .ref xs, .ref xS, .ref xw, .ref xW, .ref xB, .ref xM, .long jf, .long js, .int jb, .long nf, .long ns, .int nb, .ref xf, .ref xg, .ref xi])), (xn, .inl (cI, 2, .inl nv))] := hD
  refine lv_aload_n hx hb dMO_record_36 rfl (lv_at hl 0 rfl) ?_
  refine va_get (D := (dC, dI)) (ci := 6) (v := .int (nI 2)) (C := RMO) (T := TMO) (N := 27) hx hb hts in_MO hown hK hP 0 rfl rfl 0 (by decide) (hts _ w_f_MO_87) (fun _ h9 => h9) rfl dMO_record_37 ?_
  refine lv_if_le (tgt := 47) hx hb dMO_record_40 (by decide) (fun h => absurd h (by decide +kernel)) (fun _ => ?_)
  refine lv_lconst (v := 0) hx hb dMO_record_43 (by decide) ?_
  refine lv_goto (tgt := 60) hx hb dMO_record_44 (by decide) ?_
  have hP : va_P (dC, dI) vwCl [(o, .inr (6, [.int (nI 2), .ref xv, .ref xo, .ref xn, .ref xc, .ref xb, .ref xd, .ref xq, .ref xa, .ref xk, .ref xt, .ref xh, .ref xs, .ref xS, .ref xw, .ref xW, .ref xB, .ref xM, .long jf, .long js, .int jb, .long nf, .long ns, .int nb, .ref xf, .ref xg, .ref xi])), (xn, .inl (cI, 2, .inl nv))] H := hP
  have hD : va_D A [(o, .inr (6, [.int (nI 2), .ref xv, .ref xo, .ref xn, .ref xc, .ref xb, .ref xd, .ref xq, .ref xa, .ref xk, .ref xt, .ref xh, .ref xs, .ref xS, .ref xw, .ref xW, .ref xB, .ref xM, .long jf, .long js, .int jb, .long nf, .long ns, .int nb, .ref xf, .ref xg, .ref xi])), (xn, .inl (cI, 2, .inl nv))] := hD
  subst hQ
  exact W.lret (v := 0) hx hb hr (fun t ht hW => ⟨⟨0, (), rfl, rfl, by rw [ht]; exact hP, va_K.moved hW.alike hK, hD⟩, hS.F ht⟩) hS.2.2 dMO_record_60
set_option maxHeartbeats 4000000 in
set_option maxRecDepth 100000 in
theorem c_MO_record_n (l : Launch) (dC : Nat → ClassId) (dI : Nat → Nat → Nat) (sz : Nat) (o xv xo xn xc xb xd xq xa xk xt xh xs xS xw xW xB xM xf xg xi : Nat) (th : Int32) (jf js : Int64) (jb : Int32) (nf ns : Int64) (nb : Int32) (x y i : Int32) (hn : (bs_ii x 2 && bs_ii i 256) = false) : Met l yMO_record wsMO_record { frames := 1, cells := 0, slots := 0, locals := 22 } (va_Pc [.ref o, .int x, .int y, .int i] (fun U => U.heap.size = sz ∧ va_P (dC, dI) vwCl [(o, .inr (6, [.int th, .ref xv, .ref xo, .ref xn, .ref xc, .ref xb, .ref xd, .ref xq, .ref xa, .ref xk, .ref xt, .ref xh, .ref xs, .ref xS, .ref xw, .ref xW, .ref xB, .ref xM, .long jf, .long js, .int jb, .long nf, .long ns, .int nb, .ref xf, .ref xg, .ref xi]))] U.heap ∧ va_K (dC, dI) vwCl [] U ∧ va_D (fun _ => True) [(o, .inr (6, [.int th, .ref xv, .ref xo, .ref xn, .ref xc, .ref xb, .ref xd, .ref xq, .ref xa, .ref xk, .ref xt, .ref xh, .ref xs, .ref xS, .ref xw, .ref xW, .ref xB, .ref xM, .long jf, .long js, .int jb, .long nf, .long ns, .int nb, .ref xf, .ref xg, .ref xi]))])) (va_Ql (fun (r : Int64) (_ : Unit) => r = 0) (fun (_ : Unit) t => va_P (dC, dI) vwCl [(o, .inr (6, [.int (nI 1), .ref xv, .ref xo, .ref xn, .ref xc, .ref xb, .ref xd, .ref xq, .ref xa, .ref xk, .ref xt, .ref xh, .ref xs, .ref xS, .ref xw, .ref xW, .ref xB, .ref xM, .long jf, .long js, .int jb, .long nf, .long ns, .int nb, .ref xf, .ref xg, .ref xi]))] t.heap ∧ va_K (dC, dI) vwCl [] t ∧ va_D (va_A [(o, .inr (6, [.int th, .ref xv, .ref xo, .ref xn, .ref xc, .ref xb, .ref xd, .ref xq, .ref xa, .ref xk, .ref xt, .ref xh, .ref xs, .ref xS, .ref xw, .ref xW, .ref xB, .ref xM, .long jf, .long js, .int jb, .long nf, .long ns, .int nb, .ref xf, .ref xg, .ref xi]))] sz) [(o, .inr (6, [.int (nI 1), .ref xv, .ref xo, .ref xn, .ref xc, .ref xb, .ref xd, .ref xq, .ref xa, .ref xk, .ref xt, .ref xh, .ref xs, .ref xS, .ref xw, .ref xW, .ref xB, .ref xM, .long jf, .long js, .int jb, .long nf, .long ns, .int nb, .ref xf, .ref xg, .ref xi]))]) (va_A [(o, .inr (6, [.int th, .ref xv, .ref xo, .ref xn, .ref xc, .ref xb, .ref xd, .ref xq, .ref xa, .ref xk, .ref xt, .ref xh, .ref xs, .ref xS, .ref xw, .ref xW, .ref xB, .ref xM, .long jf, .long js, .int jb, .long nf, .long ns, .int nb, .ref xf, .ref xg, .ref xi]))] sz)) 0 0 (va_A [(o, .inr (6, [.int th, .ref xv, .ref xo, .ref xn, .ref xc, .ref xb, .ref xd, .ref xq, .ref xa, .ref xk, .ref xt, .ref xh, .ref xs, .ref xS, .ref xw, .ref xW, .ref xB, .ref xM, .long jf, .long js, .int jb, .long nf, .long ns, .int nb, .ref xf, .ref xg, .ref xi]))] sz) := by
  refine Met.ofW (cc := cMO_record) (maxL := 4) (ret := (some .long)) (by decide) rfl ?_
  intro p e s m args below meth c s₁ Bo9 hml hv
  obtain ⟨rfl, hsz, hP, hK, hD0⟩ := hv
  have hx := Bo9.exec
  have hb := Bo9.bytes
  have hr := Bo9.returns
  have hts := fun w (h : w ∈ wT) => atoms_spec (ws := wsMO_record) Bo9.pre w (List.mem_cons_of_mem _ h)
  have hown : s.vm.findClass RMO = some m.cls := findClass_of_methodNamed Bo9.named
  have hlocks := Bo9.notSynchronized
  subst hsz
  have hD := hD0.self (sz := s.heap.size)
  generalize hAe : va_A [(o, .inr (6, [.int th, .ref xv, .ref xo, .ref xn, .ref xc, .ref xb, .ref xd, .ref xq, .ref xa, .ref xk, .ref xt, .ref xh, .ref xs, .ref xS, .ref xw, .ref xW, .ref xB, .ref xM, .long jf, .long js, .int jb, .long nf, .long ns, .int nb, .ref xf, .ref xg, .ref xi]))] s.heap.size = A at hD ⊢
  have hA : ∀ q : Nat, s.heap.size ≤ q → A q := fun q h => by rw [← hAe]; exact Or.inr h
  have hl := lv_entry ([.ref o, .int x, .int y, .int i]) (n := 4) (Nat.le_of_ble_eq_true rfl)
  rw [lg_entry_eq]
  generalize (lg_sl ([.ref o, .int x, .int y, .int i]) ++ List.replicate (4 - (lg_sl ([.ref o, .int x, .int y, .int i])).length) Slot.unset).toArray = ls at hl ⊢
  have hl : lv_has ls 4 [(0, .ref o), (1, .int x), (2, .int y), (3, .int i)] := hl
  refine xs_q (fun H Q hH hQ => ?_)
  have hS : va_S A s.heap H [] := by rw [hH]; exact va_S.rf
  have hP : va_P (dC, dI) vwCl [(o, .inr (6, [.int th, .ref xv, .ref xo, .ref xn, .ref xc, .ref xb, .ref xd, .ref xq, .ref xa, .ref xk, .ref xt, .ref xh, .ref xs, .ref xS, .ref xw, .ref xW, .ref xB, .ref xM, .long jf, .long js, .int jb, .long nf, .long ns, .int nb, .ref xf, .ref xg, .ref xi]))] H := by rw [hH]; exact hP
  refine lv_aload_n hx hb dMO_record_0 rfl (lv_at hl 0 rfl) ?_
  refine lv_iload_n hx hb dMO_record_1 rfl (lv_at hl 1 rfl) ?_
  have hPc := hP.sub (ws' := []) [] rfl
  have hDc := hD.sub (ws' := []) [] (by decide) rfl
  have hKc := hK.sub (tys' := []) [] rfl
  have hFc := va_free (wc := []) hD hS hA [] rfl
  refine va_calli (va_runS (As := [.int x]) (rest := [.ref o]) ⟨hx, hb, hml, hown, hts⟩ (c_MO_isServer l dC dI H.size x) (va_cwS 1 hts (wT_3 w_m_MO_164 w_t_MO_isServer w_n_MO w_c_MO_isServer) rfl rfl rfl (by decide +kernel) ⟨Nat.le_of_ble_eq_true rfl, Nat.le_of_ble_eq_true rfl⟩) ⟨fun a U g mk q => by obtain ⟨q0, q1, qP, qK, qD⟩ := q; exact ⟨q0, q1, qP, va_K.moved (u := U) (U := U.calling g mk a) (Vm.Alike.refl U.vm) qK, qD⟩, fun U hU hW => ⟨rfl, by rw [hU], by rw [hU]; exact hPc, va_K.moved hW.alike hKc, hDc.weaken (fun _ _ _ _ => trivial)⟩⟩ rfl rfl hl.1 rfl (lv_room (Nat.le_of_ble_eq_true rfl)) dMO_record_2 ⟨Nat.zero_le _, Nat.zero_le _⟩) hS (fun q _ h => hFc q h) hFc (fun r u t H1 locs ht hvm hw hB hz1 hk1 hS => ?_)
  obtain ⟨hP1, hK1, hD1⟩ := hB
  rw [ht] at hP1
  have hK1 := va_K.moved hvm.symm hK1
  have hw : r = bs_z (bs_ii x 2) := hw
  subst hw
  obtain ⟨hP, hD⟩ := va_join (wr := [(o, .inr (6, [.int th, .ref xv, .ref xo, .ref xn, .ref xc, .ref xb, .ref xd, .ref xq, .ref xa, .ref xk, .ref xt, .ref xh, .ref xs, .ref xS, .ref xw, .ref xW, .ref xB, .ref xM, .long jf, .long js, .int jb, .long nf, .long ns, .int nb, .ref xf, .ref xg, .ref xi]))]) (w1 := []) hP hD [] [0] rfl rfl (by decide) (by decide) hk1 hFc hP1 hD1
  generalize H1 = H at hP hS ⊢
  have hP : va_P (dC, dI) vwCl [(o, .inr (6, [.int th, .ref xv, .ref xo, .ref xn, .ref xc, .ref xb, .ref xd, .ref xq, .ref xa, .ref xk, .ref xt, .ref xh, .ref xs, .ref xS, .ref xw, .ref xW, .ref xB, .ref xM, .long jf, .long js, .int jb, .long nf, .long ns, .int nb, .ref xf, .ref xg, .ref xi]))] H := hP
  have hD : va_D A [(o, .inr (6, [.int th, .ref xv, .ref xo, .ref xn, .ref xc, .ref xb, .ref xd, .ref xq, .ref xa, .ref xk, .ref xt, .ref xh, .ref xs, .ref xS, .ref xw, .ref xW, .ref xB, .ref xM, .long jf, .long js, .int jb, .long nf, .long ns, .int nb, .ref xf, .ref xg, .ref xi]))] := hD
  refine lv_if_eq (tgt := 15) hx hb dMO_record_5 (by decide) (fun h1 => ?_) (fun h1 => ?_)
  · refine lv_iconst (v := nI 1) hx hb dMO_record_15 (by decide) ?_
    refine lv_goto (tgt := 33) hx hb dMO_record_16 (by decide) ?_
    refine va_put (D := (dC, dI)) (ci := 6) (v := .int (nI 1)) (ty := .int) (C := RMO) (T := TMO) (N := 27) hx hb hts in_MO tyMO tyMO_ok nmMO hown hK hP hD hS 0 rfl rfl 0 (by decide) (hts _ w_f_MO_87) (fun _ h9 => h9) rfl (by decide +kernel) (rfl) (rfl) (Nat.le_of_ble_eq_true rfl) dMO_record_33 (fun H locs hP hD hS => ?_)
    have hP : va_P (dC, dI) vwCl [(o, .inr (6, [.int (nI 1), .ref xv, .ref xo, .ref xn, .ref xc, .ref xb, .ref xd, .ref xq, .ref xa, .ref xk, .ref xt, .ref xh, .ref xs, .ref xS, .ref xw, .ref xW, .ref xB, .ref xM, .long jf, .long js, .int jb, .long nf, .long ns, .int nb, .ref xf, .ref xg, .ref xi]))] H := hP
    have hD : va_D A [(o, .inr (6, [.int (nI 1), .ref xv, .ref xo, .ref xn, .ref xc, .ref xb, .ref xd, .ref xq, .ref xa, .ref xk, .ref xt, .ref xh, .ref xs, .ref xS, .ref xw, .ref xW, .ref xB, .ref xM, .long jf, .long js, .int jb, .long nf, .long ns, .int nb, .ref xf, .ref xg, .ref xi]))] := hD
    refine lv_aload_n hx hb dMO_record_36 rfl (lv_at hl 0 rfl) ?_
    refine va_get (D := (dC, dI)) (ci := 6) (v := .int (nI 1)) (C := RMO) (T := TMO) (N := 27) hx hb hts in_MO hown hK hP 0 rfl rfl 0 (by decide) (hts _ w_f_MO_87) (fun _ h9 => h9) rfl dMO_record_37 ?_
    refine lv_if_le (tgt := 47) hx hb dMO_record_40 (by decide) (fun h => absurd h (by decide +kernel)) (fun _ => ?_)
    refine lv_lconst (v := 0) hx hb dMO_record_43 (by decide) ?_
    refine lv_goto (tgt := 60) hx hb dMO_record_44 (by decide) ?_
    have hP : va_P (dC, dI) vwCl [(o, .inr (6, [.int (nI 1), .ref xv, .ref xo, .ref xn, .ref xc, .ref xb, .ref xd, .ref xq, .ref xa, .ref xk, .ref xt, .ref xh, .ref xs, .ref xS, .ref xw, .ref xW, .ref xB, .ref xM, .long jf, .long js, .int jb, .long nf, .long ns, .int nb, .ref xf, .ref xg, .ref xi]))] H := hP
    have hD : va_D A [(o, .inr (6, [.int (nI 1), .ref xv, .ref xo, .ref xn, .ref xc, .ref xb, .ref xd, .ref xq, .ref xa, .ref xk, .ref xt, .ref xh, .ref xs, .ref xS, .ref xw, .ref xW, .ref xB, .ref xM, .long jf, .long js, .int jb, .long nf, .long ns, .int nb, .ref xf, .ref xg, .ref xi]))] := hD
    subst hQ
    exact W.lret (v := 0) hx hb hr (fun t ht hW => ⟨⟨0, (), rfl, rfl, by rw [ht]; exact hP, va_K.moved hW.alike hK, hD⟩, hS.F ht⟩) hS.2.2 dMO_record_60
  · refine lv_iload_n hx hb dMO_record_8 rfl (lv_at hl 3 rfl) ?_
    have hPc := hP.sub (ws' := []) [] rfl
    have hDc := hD.sub (ws' := []) [] (by decide) rfl
    have hKc := hK.sub (tys' := []) [] rfl
    have hFc := va_free (wc := []) hD hS hA [] rfl
    refine va_calli (va_runS (As := [.int i]) (rest := [.ref o]) ⟨hx, hb, hml, hown, hts⟩ (c_MO_isPlace l dC dI H.size i) (va_cwS 1 hts (wT_3 w_m_MO_167 w_t_MO_isPlace w_n_MO w_c_MO_isPlace) rfl rfl rfl (by decide +kernel) ⟨Nat.le_of_ble_eq_true rfl, Nat.le_of_ble_eq_true rfl⟩) ⟨fun a U g mk q => by obtain ⟨q0, q1, qP, qK, qD⟩ := q; exact ⟨q0, q1, qP, va_K.moved (u := U) (U := U.calling g mk a) (Vm.Alike.refl U.vm) qK, qD⟩, fun U hU hW => ⟨rfl, by rw [hU], by rw [hU]; exact hPc, va_K.moved hW.alike hKc, hDc.weaken (fun _ _ _ _ => trivial)⟩⟩ rfl rfl hl.1 rfl (lv_room (Nat.le_of_ble_eq_true rfl)) dMO_record_9 ⟨Nat.zero_le _, Nat.zero_le _⟩) hS (fun q _ h => hFc q h) hFc (fun r u t H1 locs ht hvm hw hB hz1 hk1 hS => ?_)
    obtain ⟨hP1, hK1, hD1⟩ := hB
    rw [ht] at hP1
    have hK1 := va_K.moved hvm.symm hK1
    have hw : r = bs_z (bs_ii i 256) := hw
    subst hw
    obtain ⟨hP, hD⟩ := va_join (wr := [(o, .inr (6, [.int th, .ref xv, .ref xo, .ref xn, .ref xc, .ref xb, .ref xd, .ref xq, .ref xa, .ref xk, .ref xt, .ref xh, .ref xs, .ref xS, .ref xw, .ref xW, .ref xB, .ref xM, .long jf, .long js, .int jb, .long nf, .long ns, .int nb, .ref xf, .ref xg, .ref xi]))]) (w1 := []) hP hD [] [0] rfl rfl (by decide) (by decide) hk1 hFc hP1 hD1
    generalize H1 = H at hP hS ⊢
    have hP : va_P (dC, dI) vwCl [(o, .inr (6, [.int th, .ref xv, .ref xo, .ref xn, .ref xc, .ref xb, .ref xd, .ref xq, .ref xa, .ref xk, .ref xt, .ref xh, .ref xs, .ref xS, .ref xw, .ref xW, .ref xB, .ref xM, .long jf, .long js, .int jb, .long nf, .long ns, .int nb, .ref xf, .ref xg, .ref xi]))] H := hP
    have hD : va_D A [(o, .inr (6, [.int th, .ref xv, .ref xo, .ref xn, .ref xc, .ref xb, .ref xd, .ref xq, .ref xa, .ref xk, .ref xt, .ref xh, .ref xs, .ref xS, .ref xw, .ref xW, .ref xB, .ref xM, .long jf, .long js, .int jb, .long nf, .long ns, .int nb, .ref xf, .ref xg, .ref xi]))] := hD
    refine lv_if_ne (tgt := 19) hx hb dMO_record_12 (by decide) (fun h2 => ?_) (fun h2 => ?_)
    · exact absurd hn (by rw [bs_z_1 h1, bs_z_1 h2]; decide)
    · refine lv_iconst (v := nI 1) hx hb dMO_record_15 (by decide) ?_
      refine lv_goto (tgt := 33) hx hb dMO_record_16 (by decide) ?_
      refine va_put (D := (dC, dI)) (ci := 6) (v := .int (nI 1)) (ty := .int) (C := RMO) (T := TMO) (N := 27) hx hb hts in_MO tyMO tyMO_ok nmMO hown hK hP hD hS 0 rfl rfl 0 (by decide) (hts _ w_f_MO_87) (fun _ h9 => h9) rfl (by decide +kernel) (rfl) (rfl) (Nat.le_of_ble_eq_true rfl) dMO_record_33 (fun H locs hP hD hS => ?_)
      have hP : va_P (dC, dI) vwCl [(o, .inr (6, [.int (nI 1), .ref xv, .ref xo, .ref xn, .ref xc, .ref xb, .ref xd, .ref xq, .ref xa, .ref xk, .ref xt, .ref xh, .ref xs, .ref xS, .ref xw, .ref xW, .ref xB, .ref xM, .long jf, .long js, .int jb, .long nf, .long ns, .int nb, .ref xf, .ref xg, .ref xi]))] H := hP
      have hD : va_D A [(o, .inr (6, [.int (nI 1), .ref xv, .ref xo, .ref xn, .ref xc, .ref xb, .ref xd, .ref xq, .ref xa, .ref xk, .ref xt, .ref xh, .ref xs, .ref xS, .ref xw, .ref xW, .ref xB, .ref xM, .long jf, .long js, .int jb, .long nf, .long ns, .int nb, .ref xf, .ref xg, .ref xi]))] := hD
      refine lv_aload_n hx hb dMO_record_36 rfl (lv_at hl 0 rfl) ?_
      refine va_get (D := (dC, dI)) (ci := 6) (v := .int (nI 1)) (C := RMO) (T := TMO) (N := 27) hx hb hts in_MO hown hK hP 0 rfl rfl 0 (by decide) (hts _ w_f_MO_87) (fun _ h9 => h9) rfl dMO_record_37 ?_
      refine lv_if_le (tgt := 47) hx hb dMO_record_40 (by decide) (fun h => absurd h (by decide +kernel)) (fun _ => ?_)
      refine lv_lconst (v := 0) hx hb dMO_record_43 (by decide) ?_
      refine lv_goto (tgt := 60) hx hb dMO_record_44 (by decide) ?_
      have hP : va_P (dC, dI) vwCl [(o, .inr (6, [.int (nI 1), .ref xv, .ref xo, .ref xn, .ref xc, .ref xb, .ref xd, .ref xq, .ref xa, .ref xk, .ref xt, .ref xh, .ref xs, .ref xS, .ref xw, .ref xW, .ref xB, .ref xM, .long jf, .long js, .int jb, .long nf, .long ns, .int nb, .ref xf, .ref xg, .ref xi]))] H := hP
      have hD : va_D A [(o, .inr (6, [.int (nI 1), .ref xv, .ref xo, .ref xn, .ref xc, .ref xb, .ref xd, .ref xq, .ref xa, .ref xk, .ref xt, .ref xh, .ref xs, .ref xS, .ref xw, .ref xW, .ref xB, .ref xM, .long jf, .long js, .int jb, .long nf, .long ns, .int nb, .ref xf, .ref xg, .ref xi]))] := hD
      subst hQ
      exact W.lret (v := 0) hx hb hr (fun t ht hW => ⟨⟨0, (), rfl, rfl, by rw [ht]; exact hP, va_K.moved hW.alike hK, hD⟩, hS.F ht⟩) hS.2.2 dMO_record_60
