/-! BlindShelfModel: further, digest, count -/
set_option maxHeartbeats 4000000 in
set_option maxRecDepth 100000 in
theorem c_MO_further (l : Launch) (dC : Nat → ClassId) (dI : Nat → Nat → Nat) (sz : Nat) (s9 w9 : Nat) (h1 : s9 < 2305843009213693951) (h2 : w9 < 4294967296) : Met l yMO_further wsMO_further { frames := 0, cells := 0, slots := 0, locals := 0 } (va_Pc [.long (lN s9), .long (lN w9)] (fun U => U.heap.size = sz ∧ va_P (dC, dI) vwCl [] U.heap ∧ va_K (dC, dI) vwCl [] U ∧ va_D (fun _ => True) [])) (va_Ql (fun (r : Int64) (_ : Unit) => r = lN (bs_fur s9 w9)) (fun (_ : Unit) t => va_P (dC, dI) vwCl [] t.heap ∧ va_K (dC, dI) vwCl [] t ∧ va_D (va_A [] sz) []) (va_A [] sz)) 0 0 (va_A [] sz) := by
  refine Met.ofW (cc := cMO_further) (maxL := 10) (ret := (some .long)) (by decide) rfl ?_
  intro p e s m args below meth c s₁ Bo9 hml hv
  obtain ⟨rfl, hsz, hP, hK, hD0⟩ := hv
  have hx := Bo9.exec
  have hb := Bo9.bytes
  have hr := Bo9.returns
  have hts := fun w (h : w ∈ wT) => atoms_spec (ws := wsMO_further) Bo9.pre w (List.mem_cons_of_mem _ h)
  have hown : s.vm.findClass RMO = some m.cls := findClass_of_methodNamed Bo9.named
  have hlocks := Bo9.notSynchronized
  subst hsz
  have hD := hD0.self (sz := s.heap.size)
  generalize hAe : va_A [] s.heap.size = A at hD ⊢
  have hA : ∀ q : Nat, s.heap.size ≤ q → A q := fun q h => by rw [← hAe]; exact Or.inr h
  have hl := lv_entry ([.long (lN s9), .long (lN w9)]) (n := 10) (Nat.le_of_ble_eq_true rfl)
  rw [lg_entry_eq]
  generalize (lg_sl ([.long (lN s9), .long (lN w9)]) ++ List.replicate (10 - (lg_sl ([.long (lN s9), .long (lN w9)])).length) Slot.unset).toArray = ls at hl ⊢
  have hl : lv_has ls 10 [(0, .long (lN s9)), (2, .long (lN w9))] := hl
  refine xs_q (fun H Q hH hQ => ?_)
  have hS : va_S A s.heap H [] := by rw [hH]; exact va_S.rf
  have hP : va_P (dC, dI) vwCl [] H := by rw [hH]; exact hP
  obtain ⟨ke1, ke2⟩ := bs_furR h1 h2
  refine lv_lload_n hx hb dMO_further_0 rfl (lv_at hl 0 rfl) ?_
  refine lv_bipush (v := nI 31) hx hb dMO_further_1 (by decide) ?_
  refine lv_lshr (v := j_lshr (lN s9) (nI 31)) hx hb dMO_further_3 rfl ?_
  refine lv_ldc2 (v := 1000003) hx hb hown (hts _ w_j_MO_182) dMO_further_4 ?_
  refine lv_lmul hx hb dMO_further_7 ?_
  refine xt_l (y := lN (s9 / 2147483648 * 1000003)) (bs_mf1 (by omega)) ?_
  refine lv_lstore (lv' := [(4, .long (lN (s9 / 2147483648 * 1000003))), (0, .long (lN s9)), (2, .long (lN w9))]) hx hb dMO_further_8 hl (by decide) rfl (fun ls hl => ?_)
  refine lv_lload_n hx hb dMO_further_10 rfl (lv_at hl 1 rfl) ?_
  refine lv_ldc2 (v := 2147483647) hx hb hown (hts _ w_j_MO_184) dMO_further_11 ?_
  refine lv_land hx hb dMO_further_14 ?_
  refine lv_ldc2 (v := 1000003) hx hb hown (hts _ w_j_MO_182) dMO_further_15 ?_
  refine lv_lmul hx hb dMO_further_18 ?_
  refine xt_l (y := lN (s9 % 2147483648 * 1000003)) (bs_mf2 (by omega)) ?_
  refine lv_lstore (lv' := [(6, .long (lN (s9 % 2147483648 * 1000003))), (4, .long (lN (s9 / 2147483648 * 1000003))), (0, .long (lN s9)), (2, .long (lN w9))]) hx hb dMO_further_19 hl (by decide) rfl (fun ls hl => ?_)
  refine lv_lload hx hb dMO_further_21 (lv_at hl 1 rfl) ?_
  refine lv_bipush (v := nI 30) hx hb dMO_further_23 (by decide) ?_
  refine lv_lshr (v := j_lshr (lN (s9 / 2147483648 * 1000003)) (nI 30)) hx hb dMO_further_25 rfl ?_
  refine lv_lload hx hb dMO_further_26 (lv_at hl 1 rfl) ?_
  refine lv_ldc2 (v := 1073741823) hx hb hown (hts _ w_j_MO_186) dMO_further_28 ?_
  refine lv_land hx hb dMO_further_31 ?_
  refine lv_bipush (v := nI 31) hx hb dMO_further_32 (by decide) ?_
  refine lv_lshl (v := j_lshl ((lN (s9 / 2147483648 * 1000003)) &&& 1073741823) (nI 31)) hx hb dMO_further_34 rfl ?_
  refine lv_ladd hx hb dMO_further_35 ?_
  refine lv_lload hx hb dMO_further_36 (lv_at hl 0 rfl) ?_
  refine lv_ladd hx hb dMO_further_38 ?_
  refine lv_lload_n hx hb dMO_further_39 rfl (lv_at hl 3 rfl) ?_
  refine lv_ladd hx hb dMO_further_40 ?_
  refine xt_l (y := lN (s9 / 2147483648 * 1000003 / 1073741824 + s9 / 2147483648 * 1000003 % 1073741824 * 2147483648 + s9 % 2147483648 * 1000003 + w9)) (bs_mf3 (by omega)) ?_
  refine lv_lstore (lv' := [(8, .long (lN (s9 / 2147483648 * 1000003 / 1073741824 + s9 / 2147483648 * 1000003 % 1073741824 * 2147483648 + s9 % 2147483648 * 1000003 + w9))), (6, .long (lN (s9 % 2147483648 * 1000003))), (4, .long (lN (s9 / 2147483648 * 1000003))), (0, .long (lN s9)), (2, .long (lN w9))]) hx hb dMO_further_41 hl (by decide) rfl (fun ls hl => ?_)
  generalize s9 / 2147483648 * 1000003 / 1073741824 + s9 / 2147483648 * 1000003 % 1073741824 * 2147483648 + s9 % 2147483648 * 1000003 + w9 = n9 at ke1 ke2 hl
  refine lv_lload hx hb dMO_further_43 (lv_at hl 0 rfl) ?_
  refine lv_bipush (v := nI 61) hx hb dMO_further_45 (by decide) ?_
  refine lv_lshr (v := j_lshr (lN n9) (nI 61)) hx hb dMO_further_47 rfl ?_
  refine lv_lload hx hb dMO_further_48 (lv_at hl 0 rfl) ?_
  refine lv_ldc2 (v := 2305843009213693951) hx hb hown (hts _ w_j_MO_188) dMO_further_50 ?_
  refine lv_land hx hb dMO_further_53 ?_
  refine lv_ladd hx hb dMO_further_54 ?_
  refine xt_l (y := lN (n9 % 2305843009213693952 + n9 / 2305843009213693952)) (bs_mf4 (by omega)) ?_
  refine lv_lstore (lv' := [(8, .long (lN (n9 % 2305843009213693952 + n9 / 2305843009213693952))), (6, .long (lN (s9 % 2147483648 * 1000003))), (4, .long (lN (s9 / 2147483648 * 1000003))), (0, .long (lN s9)), (2, .long (lN w9))]) hx hb dMO_further_55 hl (by decide) rfl (fun ls hl => ?_)
  refine lv_lload hx hb dMO_further_57 (lv_at hl 0 rfl) ?_
  refine lv_ldc2 (v := 2305843009213693951) hx hb hown (hts _ w_j_MO_188) dMO_further_59 ?_
  refine W.lcmp hx hb dMO_further_62 ?_
  have key := bs_fold (n := n9) rfl ke2
  have e7 : (2305843009213693951 : Int64) = lN 2305843009213693951 := by decide +kernel
  refine lv_if_lt (tgt := 75) hx hb dMO_further_63 (by decide) (fun hc => ?_) (fun hc => ?_)
  · have hc2 := (lg_cmp_lt _ _).mp hc
    rw [e7, pk_lLT (by omega) (by decide)] at hc2
    rw [if_neg (by omega)] at key
    refine lv_lload hx hb dMO_further_75 (lv_at hl 0 rfl) ?_
    have hP : va_P (dC, dI) vwCl [] H := hP
    have hD : va_D A [] := hD
    subst hQ
    exact W.lret (v := lN (n9 % 2305843009213693952 + n9 / 2305843009213693952)) hx hb hr (fun t ht hW => ⟨⟨lN (n9 % 2305843009213693952 + n9 / 2305843009213693952), (), rfl, by rw [← ke1]; exact congrArg lN key, by rw [ht]; exact hP, va_K.moved hW.alike hK, hD⟩, hS.F ht⟩) hS.2.2 dMO_further_77
  · have hc2 : ¬ lN (n9 % 2305843009213693952 + n9 / 2305843009213693952) < (2305843009213693951 : Int64) := fun q => hc ((lg_cmp_lt _ _).mpr q)
    rw [e7, pk_lLT (by omega) (by decide)] at hc2
    rw [if_pos (by omega)] at key
    refine lv_lload hx hb dMO_further_66 (lv_at hl 0 rfl) ?_
    refine lv_ldc2 (v := 2305843009213693951) hx hb hown (hts _ w_j_MO_188) dMO_further_68 ?_
    refine lv_lsub hx hb dMO_further_71 ?_
    refine lv_goto (tgt := 77) hx hb dMO_further_72 (by decide) ?_
    have hP : va_P (dC, dI) vwCl [] H := hP
    have hD : va_D A [] := hD
    subst hQ
    exact W.lret (v := (lN (n9 % 2305843009213693952 + n9 / 2305843009213693952)) - 2305843009213693951) hx hb hr (fun t ht hW => ⟨⟨(lN (n9 % 2305843009213693952 + n9 / 2305843009213693952)) - 2305843009213693951, (), rfl, by rw [← ke1, e7, lN_sub (by omega)]; exact congrArg lN key, by rw [ht]; exact hP, va_K.moved hW.alike hK, hD⟩, hS.F ht⟩) hS.2.2 dMO_further_77
set_option maxHeartbeats 4000000 in
set_option maxRecDepth 100000 in
theorem c_MO_digest_y (l : Launch) (dC : Nat → ClassId) (dI : Nat → Nat → Nat) (sz : Nat) (o xv xo xn xc xb xd xq xa xk xt xh xs xS xw xW xB xM xf xg xi : Nat) (th : Int32) (jf js : Int64) (jb : Int32) (nf ns : Int64) (nb : Int32) (cI cL : ClassId) (nv : Nat → Int32) (fv : Nat → Int64) (k v vn : Nat) (hk : k < 2) (hu2 : vn < 2 ^ 30) (hv : v < 2 ^ 30) (hn : nv k = nI v) (hu : decide (nI (v - 8) ≤ nI vn ∧ nI vn ≤ nI v) = true) : Met l yMO_digest wsMO_digest { frames := 1, cells := 0, slots := 0, locals := 29 } (va_Pc [.ref o, .int (nI k), .int (nI vn)] (fun U => U.heap.size = sz ∧ va_P (dC, dI) vwCl [(o, .inr (6, [.int th, .ref xv, .ref xo, .ref xn, .ref xc, .ref xb, .ref xd, .ref xq, .ref xa, .ref xk, .ref xt, .ref xh, .ref xs, .ref xS, .ref xw, .ref xW, .ref xB, .ref xM, .long jf, .long js, .int jb, .long nf, .long ns, .int nb, .ref xf, .ref xg, .ref xi])), (xv, .inl (cL, 4608, .inr (.inl fv))), (xn, .inl (cI, 2, .inl nv))] U.heap ∧ va_K (dC, dI) vwCl [(cI, .int), (cL, .long)] U ∧ va_D (fun _ => True) [(o, .inr (6, [.int th, .ref xv, .ref xo, .ref xn, .ref xc, .ref xb, .ref xd, .ref xq, .ref xa, .ref xk, .ref xt, .ref xh, .ref xs, .ref xS, .ref xw, .ref xW, .ref xB, .ref xM, .long jf, .long js, .int jb, .long nf, .long ns, .int nb, .ref xf, .ref xg, .ref xi])), (xv, .inl (cL, 4608, .inr (.inl fv))), (xn, .inl (cI, 2, .inl nv))])) (va_Ql (fun (r : Int64) (_ : Unit) => r = lN (bs_dg (bs_fa fv (256 * (9 * k + vn % 9))) 256)) (fun (_ : Unit) t => va_P (dC, dI) vwCl [(o, .inr (6, [.int (nI 0), .ref xv, .ref xo, .ref xn, .ref xc, .ref xb, .ref xd, .ref xq, .ref xa, .ref xk, .ref xt, .ref xh, .ref xs, .ref xS, .ref xw, .ref xW, .ref xB, .ref xM, .long jf, .long js, .int jb, .long nf, .long ns, .int nb, .ref xf, .ref xg, .ref xi])), (xv, .inl (cL, 4608, .inr (.inl fv))), (xn, .inl (cI, 2, .inl nv))] t.heap ∧ va_K (dC, dI) vwCl [(cI, .int), (cL, .long)] t ∧ va_D (va_A [(o, .inr (6, [.int th, .ref xv, .ref xo, .ref xn, .ref xc, .ref xb, .ref xd, .ref xq, .ref xa, .ref xk, .ref xt, .ref xh, .ref xs, .ref xS, .ref xw, .ref xW, .ref xB, .ref xM, .long jf, .long js, .int jb, .long nf, .long ns, .int nb, .ref xf, .ref xg, .ref xi])), (xv, .inl (cL, 4608, .inr (.inl fv))), (xn, .inl (cI, 2, .inl nv))] sz) [(o, .inr (6, [.int (nI 0), .ref xv, .ref xo, .ref xn, .ref xc, .ref xb, .ref xd, .ref xq, .ref xa, .ref xk, .ref xt, .ref xh, .ref xs, .ref xS, .ref xw, .ref xW, .ref xB, .ref xM, .long jf, .long js, .int jb, .long nf, .long ns, .int nb, .ref xf, .ref xg, .ref xi])), (xv, .inl (cL, 4608, .inr (.inl fv))), (xn, .inl (cI, 2, .inl nv))]) (va_A [(o, .inr (6, [.int th, .ref xv, .ref xo, .ref xn, .ref xc, .ref xb, .ref xd, .ref xq, .ref xa, .ref xk, .ref xt, .ref xh, .ref xs, .ref xS, .ref xw, .ref xW, .ref xB, .ref xM, .long jf, .long js, .int jb, .long nf, .long ns, .int nb, .ref xf, .ref xg, .ref xi])), (xv, .inl (cL, 4608, .inr (.inl fv))), (xn, .inl (cI, 2, .inl nv))] sz)) 0 0 (va_A [(o, .inr (6, [.int th, .ref xv, .ref xo, .ref xn, .ref xc, .ref xb, .ref xd, .ref xq, .ref xa, .ref xk, .ref xt, .ref xh, .ref xs, .ref xS, .ref xw, .ref xW, .ref xB, .ref xM, .long jf, .long js, .int jb, .long nf, .long ns, .int nb, .ref xf, .ref xg, .ref xi])), (xv, .inl (cL, 4608, .inr (.inl fv))), (xn, .inl (cI, 2, .inl nv))] sz) := by
  refine Met.ofW (cc := cMO_digest) (maxL := 7) (ret := (some .long)) (by decide) rfl ?_
  intro p e s m args below meth c s₁ Bo9 hml hv
  obtain ⟨rfl, hsz, hP, hK, hD0⟩ := hv
  have hx := Bo9.exec
  have hb := Bo9.bytes
  have hr := Bo9.returns
  have hts := fun w (h : w ∈ wT) => atoms_spec (ws := wsMO_digest) Bo9.pre w (List.mem_cons_of_mem _ h)
  have hown : s.vm.findClass RMO = some m.cls := findClass_of_methodNamed Bo9.named
  have hlocks := Bo9.notSynchronized
  subst hsz
  have hD := hD0.self (sz := s.heap.size)
  generalize hAe : va_A [(o, .inr (6, [.int th, .ref xv, .ref xo, .ref xn, .ref xc, .ref xb, .ref xd, .ref xq, .ref xa, .ref xk, .ref xt, .ref xh, .ref xs, .ref xS, .ref xw, .ref xW, .ref xB, .ref xM, .long jf, .long js, .int jb, .long nf, .long ns, .int nb, .ref xf, .ref xg, .ref xi])), (xv, .inl (cL, 4608, .inr (.inl fv))), (xn, .inl (cI, 2, .inl nv))] s.heap.size = A at hD ⊢
  have hA : ∀ q : Nat, s.heap.size ≤ q → A q := fun q h => by rw [← hAe]; exact Or.inr h
  have hl := lv_entry ([.ref o, .int (nI k), .int (nI vn)]) (n := 7) (Nat.le_of_ble_eq_true rfl)
  rw [lg_entry_eq]
  generalize (lg_sl ([.ref o, .int (nI k), .int (nI vn)]) ++ List.replicate (7 - (lg_sl ([.ref o, .int (nI k), .int (nI vn)])).length) Slot.unset).toArray = ls at hl ⊢
  have hl : lv_has ls 7 [(0, .ref o), (1, .int (nI k)), (2, .int (nI vn))] := hl
  refine xs_q (fun H Q hH hQ => ?_)
  have hS : va_S A s.heap H [] := by rw [hH]; exact va_S.rf
  have hP : va_P (dC, dI) vwCl [(o, .inr (6, [.int th, .ref xv, .ref xo, .ref xn, .ref xc, .ref xb, .ref xd, .ref xq, .ref xa, .ref xk, .ref xt, .ref xh, .ref xs, .ref xS, .ref xw, .ref xW, .ref xB, .ref xM, .long jf, .long js, .int jb, .long nf, .long ns, .int nb, .ref xf, .ref xg, .ref xi])), (xv, .inl (cL, 4608, .inr (.inl fv))), (xn, .inl (cI, 2, .inl nv))] H := by rw [hH]; exact hP
  refine lv_aload_n hx hb dMO_digest_0 rfl (lv_at hl 0 rfl) ?_
  refine lv_iload_n hx hb dMO_digest_1 rfl (lv_at hl 1 rfl) ?_
  have hs9 : bs_ii (nI k) 2 = true := bs_ii_n hk (by omega)
  have hPc := hP.sub (ws' := []) [] rfl
  have hDc := hD.sub (ws' := []) [] (by decide) rfl
  have hKc := hK.sub (tys' := []) [] rfl
  have hFc := va_free (wc := []) hD hS hA [] rfl
  refine va_calli (va_runS (As := [.int (nI k)]) (rest := [.ref o]) ⟨hx, hb, hml, hown, hts⟩ (c_MO_isServer l dC dI H.size (nI k)) (va_cwS 1 hts (wT_3 w_m_MO_164 w_t_MO_isServer w_n_MO w_c_MO_isServer) rfl rfl rfl (by decide +kernel) ⟨Nat.le_of_ble_eq_true rfl, Nat.le_of_ble_eq_true rfl⟩) ⟨fun a U g mk q => by obtain ⟨q0, q1, qP, qK, qD⟩ := q; exact ⟨q0, q1, qP, va_K.moved (u := U) (U := U.calling g mk a) (Vm.Alike.refl U.vm) qK, qD⟩, fun U hU hW => ⟨rfl, by rw [hU], by rw [hU]; exact hPc, va_K.moved hW.alike hKc, hDc.weaken (fun _ _ _ _ => trivial)⟩⟩ rfl rfl hl.1 rfl (lv_room (Nat.le_of_ble_eq_true rfl)) dMO_digest_2 ⟨Nat.zero_le _, Nat.zero_le _⟩) hS (fun q _ h => hFc q h) hFc (fun r u t H1 locs ht hvm hw hB hz1 hk1 hS => ?_)
  obtain ⟨hP1, hK1, hD1⟩ := hB
  rw [ht] at hP1
  have hK1 := va_K.moved hvm.symm hK1
  have hw : r = bs_z (bs_ii (nI k) 2) := hw
  subst hw
  obtain ⟨hP, hD⟩ := va_join (wr := [(o, .inr (6, [.int th, .ref xv, .ref xo, .ref xn, .ref xc, .ref xb, .ref xd, .ref xq, .ref xa, .ref xk, .ref xt, .ref xh, .ref xs, .ref xS, .ref xw, .ref xW, .ref xB, .ref xM, .long jf, .long js, .int jb, .long nf, .long ns, .int nb, .ref xf, .ref xg, .ref xi])), (xv, .inl (cL, 4608, .inr (.inl fv))), (xn, .inl (cI, 2, .inl nv))]) (w1 := []) hP hD [] [0, 1, 2] rfl rfl (by decide) (by decide) hk1 hFc hP1 hD1
  generalize H1 = H at hP hS ⊢
  have hP : va_P (dC, dI) vwCl [(o, .inr (6, [.int th, .ref xv, .ref xo, .ref xn, .ref xc, .ref xb, .ref xd, .ref xq, .ref xa, .ref xk, .ref xt, .ref xh, .ref xs, .ref xS, .ref xw, .ref xW, .ref xB, .ref xM, .long jf, .long js, .int jb, .long nf, .long ns, .int nb, .ref xf, .ref xg, .ref xi])), (xv, .inl (cL, 4608, .inr (.inl fv))), (xn, .inl (cI, 2, .inl nv))] H := hP
  have hD : va_D A [(o, .inr (6, [.int th, .ref xv, .ref xo, .ref xn, .ref xc, .ref xb, .ref xd, .ref xq, .ref xa, .ref xk, .ref xt, .ref xh, .ref xs, .ref xS, .ref xw, .ref xW, .ref xB, .ref xM, .long jf, .long js, .int jb, .long nf, .long ns, .int nb, .ref xf, .ref xg, .ref xi])), (xv, .inl (cL, 4608, .inr (.inl fv))), (xn, .inl (cI, 2, .inl nv))] := hD
  refine xt_i (y := nI 1) (by rw [hs9]; rfl) ?_
  refine lv_if_ne (tgt := 12) hx hb dMO_digest_5 (by decide) (fun _ => ?_) (fun h => absurd h (by decide +kernel))
  refine lv_aload_n hx hb dMO_digest_12 rfl (lv_at hl 0 rfl) ?_
  refine lv_iload_n hx hb dMO_digest_13 rfl (lv_at hl 1 rfl) ?_
  refine lv_iload_n hx hb dMO_digest_14 rfl (lv_at hl 2 rfl) ?_
  have hPc := hP.sub (ws' := [(o, .inr (6, [.int th, .ref xv, .ref xo, .ref xn, .ref xc, .ref xb, .ref xd, .ref xq, .ref xa, .ref xk, .ref xt, .ref xh, .ref xs, .ref xS, .ref xw, .ref xW, .ref xB, .ref xM, .long jf, .long js, .int jb, .long nf, .long ns, .int nb, .ref xf, .ref xg, .ref xi])), (xn, .inl (cI, 2, .inl nv))]) [0, 2] rfl
  have hDc := hD.sub (ws' := [(o, .inr (6, [.int th, .ref xv, .ref xo, .ref xn, .ref xc, .ref xb, .ref xd, .ref xq, .ref xa, .ref xk, .ref xt, .ref xh, .ref xs, .ref xS, .ref xw, .ref xW, .ref xB, .ref xM, .long jf, .long js, .int jb, .long nf, .long ns, .int nb, .ref xf, .ref xg, .ref xi])), (xn, .inl (cI, 2, .inl nv))]) [0, 2] (by decide) rfl
  have hKc := hK.sub (tys' := [(cI, .int)]) [0] rfl
  have hFc := va_free (wc := [(o, .inr (6, [.int th, .ref xv, .ref xo, .ref xn, .ref xc, .ref xb, .ref xd, .ref xq, .ref xa, .ref xk, .ref xt, .ref xh, .ref xs, .ref xS, .ref xw, .ref xW, .ref xB, .ref xM, .long jf, .long js, .int jb, .long nf, .long ns, .int nb, .ref xf, .ref xg, .ref xi])), (xn, .inl (cI, 2, .inl nv))]) hD hS hA [0, 2] rfl
  refine va_calli (va_runV (C := RMO) (As := [.int (nI k), .int (nI vn)]) (rest := [.ref o]) ⟨hx, hb, hml, hown, hts⟩ (c_MO_isHeld l dC dI H.size o xv xo xn xc xb xd xq xa xk xt xh xs xS xw xW xB xM xf xg xi th jf js jb nf ns nb cI nv k v (nI vn) hk hv hn) (cwV (C := RMO) 2 hts (wT_4 w_m_MO_176 w_i_MO_isHeld w_s_MO_isHeld w_n_MO w_c_MO_isHeld) rfl rfl rfl (by decide +kernel) ⟨Nat.le_of_ble_eq_true rfl, Nat.le_of_ble_eq_true rfl⟩) ⟨fun a U g mk q => by obtain ⟨q0, q1, qP, qK, qD⟩ := q; exact ⟨q0, q1, qP, va_K.moved (u := U) (U := U.calling g mk a) (Vm.Alike.refl U.vm) qK, qD⟩, va_recv hK hP (q0 := 0) (ci := 6) (q := (RMO, TMO, 27)) rfl rfl, fun U hU hW => ⟨rfl, by rw [hU], by rw [hU]; exact hPc, va_K.moved hW.alike hKc, hDc.weaken (fun _ _ _ _ => trivial)⟩⟩ rfl rfl hl.1 rfl (lv_room (Nat.le_of_ble_eq_true rfl)) dMO_digest_15 ⟨Nat.zero_le _, Nat.zero_le _⟩) hS (fun q _ h => hFc q h) hFc (fun r u t H1 locs ht hvm hw hB hz1 hk1 hS => ?_)
  obtain ⟨hP1, hK1, hD1⟩ := hB
  rw [ht] at hP1
  have hK1 := va_K.moved hvm.symm hK1
  have hw : r = bs_z (decide (nI (v - 8) ≤ nI vn ∧ nI vn ≤ nI v)) := hw
  subst hw
  obtain ⟨hP, hD⟩ := va_join (wr := [(xv, .inl (cL, 4608, .inr (.inl fv)))]) (w1 := [(o, .inr (6, [.int th, .ref xv, .ref xo, .ref xn, .ref xc, .ref xb, .ref xd, .ref xq, .ref xa, .ref xk, .ref xt, .ref xh, .ref xs, .ref xS, .ref xw, .ref xW, .ref xB, .ref xM, .long jf, .long js, .int jb, .long nf, .long ns, .int nb, .ref xf, .ref xg, .ref xi])), (xn, .inl (cI, 2, .inl nv))]) hP hD [0, 2] [1] rfl rfl (by decide) (by decide) hk1 hFc hP1 hD1
  generalize H1 = H at hP hS ⊢
  have hP : va_P (dC, dI) vwCl [(xv, .inl (cL, 4608, .inr (.inl fv))), (o, .inr (6, [.int th, .ref xv, .ref xo, .ref xn, .ref xc, .ref xb, .ref xd, .ref xq, .ref xa, .ref xk, .ref xt, .ref xh, .ref xs, .ref xS, .ref xw, .ref xW, .ref xB, .ref xM, .long jf, .long js, .int jb, .long nf, .long ns, .int nb, .ref xf, .ref xg, .ref xi])), (xn, .inl (cI, 2, .inl nv))] H := hP
  have hD : va_D A [(xv, .inl (cL, 4608, .inr (.inl fv))), (o, .inr (6, [.int th, .ref xv, .ref xo, .ref xn, .ref xc, .ref xb, .ref xd, .ref xq, .ref xa, .ref xk, .ref xt, .ref xh, .ref xs, .ref xS, .ref xw, .ref xW, .ref xB, .ref xM, .long jf, .long js, .int jb, .long nf, .long ns, .int nb, .ref xf, .ref xg, .ref xi])), (xn, .inl (cI, 2, .inl nv))] := hD
  refine xt_i (y := nI 1) (by rw [hu]; rfl) ?_
  refine lv_if_eq (tgt := 25) hx hb dMO_digest_18 (by decide) (fun h => absurd h (by decide +kernel)) (fun _ => ?_)
  refine lv_iconst (v := nI 0) hx hb dMO_digest_21 (by decide) ?_
  refine lv_goto (tgt := 26) hx hb dMO_digest_22 (by decide) ?_
  refine va_put (D := (dC, dI)) (ci := 6) (v := .int (nI 0)) (ty := .int) (C := RMO) (T := TMO) (N := 27) hx hb hts in_MO tyMO tyMO_ok nmMO hown hK hP hD hS 1 rfl rfl 0 (by decide) (hts _ w_f_MO_87) (fun _ h9 => h9) rfl (by decide +kernel) (rfl) (rfl) (Nat.le_of_ble_eq_true rfl) dMO_digest_26 (fun H locs hP hD hS => ?_)
  have hP : va_P (dC, dI) vwCl [(xv, .inl (cL, 4608, .inr (.inl fv))), (o, .inr (6, [.int (nI 0), .ref xv, .ref xo, .ref xn, .ref xc, .ref xb, .ref xd, .ref xq, .ref xa, .ref xk, .ref xt, .ref xh, .ref xs, .ref xS, .ref xw, .ref xW, .ref xB, .ref xM, .long jf, .long js, .int jb, .long nf, .long ns, .int nb, .ref xf, .ref xg, .ref xi])), (xn, .inl (cI, 2, .inl nv))] H := hP
  have hD : va_D A [(xv, .inl (cL, 4608, .inr (.inl fv))), (o, .inr (6, [.int (nI 0), .ref xv, .ref xo, .ref xn, .ref xc, .ref xb, .ref xd, .ref xq, .ref xa, .ref xk, .ref xt, .ref xh, .ref xs, .ref xS, .ref xw, .ref xW, .ref xB, .ref xM, .long jf, .long js, .int jb, .long nf, .long ns, .int nb, .ref xf, .ref xg, .ref xi])), (xn, .inl (cI, 2, .inl nv))] := hD
  refine lv_aload_n hx hb dMO_digest_29 rfl (lv_at hl 0 rfl) ?_
  refine va_get (D := (dC, dI)) (ci := 6) (v := .int (nI 0)) (C := RMO) (T := TMO) (N := 27) hx hb hts in_MO hown hK hP 1 rfl rfl 0 (by decide) (hts _ w_f_MO_87) (fun _ h9 => h9) rfl dMO_digest_30 ?_
  refine lv_if_le (tgt := 38) hx hb dMO_digest_33 (by decide) (fun _ => ?_) (fun h => absurd (by decide +kernel) h)
  refine lv_aload_n hx hb dMO_digest_38 rfl (lv_at hl 0 rfl) ?_
  refine lv_iload_n hx hb dMO_digest_39 rfl (lv_at hl 1 rfl) ?_
  refine lv_iload_n hx hb dMO_digest_40 rfl (lv_at hl 2 rfl) ?_
  have hPc := hP.sub (ws' := [(o, .inr (6, [.int (nI 0), .ref xv, .ref xo, .ref xn, .ref xc, .ref xb, .ref xd, .ref xq, .ref xa, .ref xk, .ref xt, .ref xh, .ref xs, .ref xS, .ref xw, .ref xW, .ref xB, .ref xM, .long jf, .long js, .int jb, .long nf, .long ns, .int nb, .ref xf, .ref xg, .ref xi]))]) [1] rfl
  have hDc := hD.sub (ws' := [(o, .inr (6, [.int (nI 0), .ref xv, .ref xo, .ref xn, .ref xc, .ref xb, .ref xd, .ref xq, .ref xa, .ref xk, .ref xt, .ref xh, .ref xs, .ref xS, .ref xw, .ref xW, .ref xB, .ref xM, .long jf, .long js, .int jb, .long nf, .long ns, .int nb, .ref xf, .ref xg, .ref xi]))]) [1] (by decide) rfl
  have hKc := hK.sub (tys' := []) [] rfl
  have hFc := va_free (wc := [(o, .inr (6, [.int (nI 0), .ref xv, .ref xo, .ref xn, .ref xc, .ref xb, .ref xd, .ref xq, .ref xa, .ref xk, .ref xt, .ref xh, .ref xs, .ref xS, .ref xw, .ref xW, .ref xB, .ref xM, .long jf, .long js, .int jb, .long nf, .long ns, .int nb, .ref xf, .ref xg, .ref xi]))]) hD hS hA [1] rfl
  refine va_calli (va_runV (C := RMO) (As := [.int (nI k), .int (nI vn)]) (rest := []) ⟨hx, hb, hml, hown, hts⟩ (c_MO_base l dC dI H.size o xv xo xn xc xb xd xq xa xk xt xh xs xS xw xW xB xM xf xg xi (nI 0) jf js jb nf ns nb k vn hk (by omega)) (cwV (C := RMO) 2 hts (wT_4 w_m_MO_170 w_i_MO_base w_s_MO_base w_n_MO w_c_MO_base) rfl rfl rfl (by decide +kernel) ⟨Nat.le_of_ble_eq_true rfl, Nat.le_of_ble_eq_true rfl⟩) ⟨fun a U g mk q => by obtain ⟨q0, q1, qP, qK, qD⟩ := q; exact ⟨q0, q1, qP, va_K.moved (u := U) (U := U.calling g mk a) (Vm.Alike.refl U.vm) qK, qD⟩, va_recv hK hP (q0 := 1) (ci := 6) (q := (RMO, TMO, 27)) rfl rfl, fun U hU hW => ⟨rfl, by rw [hU], by rw [hU]; exact hPc, va_K.moved hW.alike hKc, hDc.weaken (fun _ _ _ _ => trivial)⟩⟩ rfl rfl hl.1 rfl (lv_room (Nat.le_of_ble_eq_true rfl)) dMO_digest_41 ⟨Nat.zero_le _, Nat.zero_le _⟩) hS (fun q _ h => hFc q h) hFc (fun r u t H1 locs ht hvm hw hB hz1 hk1 hS => ?_)
  obtain ⟨hP1, hK1, hD1⟩ := hB
  rw [ht] at hP1
  have hK1 := va_K.moved hvm.symm hK1
  have hw : r = nI (256 * (9 * k + vn % 9)) := hw
  subst hw
  obtain ⟨hP, hD⟩ := va_join (wr := [(xv, .inl (cL, 4608, .inr (.inl fv))), (xn, .inl (cI, 2, .inl nv))]) (w1 := [(o, .inr (6, [.int (nI 0), .ref xv, .ref xo, .ref xn, .ref xc, .ref xb, .ref xd, .ref xq, .ref xa, .ref xk, .ref xt, .ref xh, .ref xs, .ref xS, .ref xw, .ref xW, .ref xB, .ref xM, .long jf, .long js, .int jb, .long nf, .long ns, .int nb, .ref xf, .ref xg, .ref xi]))]) hP hD [1] [0, 2] rfl rfl (by decide) (by decide) hk1 hFc hP1 hD1
  generalize H1 = H at hP hS ⊢
  have hP : va_P (dC, dI) vwCl [(xv, .inl (cL, 4608, .inr (.inl fv))), (xn, .inl (cI, 2, .inl nv)), (o, .inr (6, [.int (nI 0), .ref xv, .ref xo, .ref xn, .ref xc, .ref xb, .ref xd, .ref xq, .ref xa, .ref xk, .ref xt, .ref xh, .ref xs, .ref xS, .ref xw, .ref xW, .ref xB, .ref xM, .long jf, .long js, .int jb, .long nf, .long ns, .int nb, .ref xf, .ref xg, .ref xi]))] H := hP
  have hD : va_D A [(xv, .inl (cL, 4608, .inr (.inl fv))), (xn, .inl (cI, 2, .inl nv)), (o, .inr (6, [.int (nI 0), .ref xv, .ref xo, .ref xn, .ref xc, .ref xb, .ref xd, .ref xq, .ref xa, .ref xk, .ref xt, .ref xh, .ref xs, .ref xS, .ref xw, .ref xW, .ref xB, .ref xM, .long jf, .long js, .int jb, .long nf, .long ns, .int nb, .ref xf, .ref xg, .ref xi]))] := hD
  refine lv_istore_n (lv' := [(3, .int (nI (256 * (9 * k + vn % 9)))), (0, .ref o), (1, .int (nI k)), (2, .int (nI vn))]) hx hb dMO_digest_44 rfl hl (by decide) rfl (fun ls hl => ?_)
  refine lv_lconst (v := 0) hx hb dMO_digest_45 (by decide) ?_
  refine lv_lstore (lv' := [(4, .long 0), (3, .int (nI (256 * (9 * k + vn % 9)))), (0, .ref o), (1, .int (nI k)), (2, .int (nI vn))]) hx hb dMO_digest_46 hl (by decide) rfl (fun ls hl => ?_)
  refine lv_sipush (v := nI 255) hx hb dMO_digest_48 (by decide) ?_
  refine lv_istore (lv' := [(6, .int (nI 255)), (4, .long 0), (3, .int (nI (256 * (9 * k + vn % 9)))), (0, .ref o), (1, .int (nI k)), (2, .int (nI vn))]) hx hb dMO_digest_51 hl (by decide) rfl (fun ls hl => ?_)
  have loop : ∀ (n i : Nat), i + n = 256 → ∀ (H : Heap) (locs : List Loc) (ls : Array Slot), va_P (dC, dI) vwCl [(o, .inr (6, [.int (nI 0), .ref xv, .ref xo, .ref xn, .ref xc, .ref xb, .ref xd, .ref xq, .ref xa, .ref xk, .ref xt, .ref xh, .ref xs, .ref xS, .ref xw, .ref xW, .ref xB, .ref xM, .long jf, .long js, .int jb, .long nf, .long ns, .int nb, .ref xf, .ref xg, .ref xi])), (xv, .inl (cL, 4608, .inr (.inl fv))), (xn, .inl (cI, 2, .inl nv))] H → va_D A [(o, .inr (6, [.int (nI 0), .ref xv, .ref xo, .ref xn, .ref xc, .ref xb, .ref xd, .ref xq, .ref xa, .ref xk, .ref xt, .ref xh, .ref xs, .ref xS, .ref xw, .ref xW, .ref xB, .ref xM, .long jf, .long js, .int jb, .long nf, .long ns, .int nb, .ref xf, .ref xg, .ref xi])), (xv, .inl (cL, 4608, .inr (.inl fv))), (xn, .inl (cI, 2, .inl nv))] → va_S A s.heap H locs → lv_has ls 7 [(0, .ref o), (1, .int (nI k)), (2, .int (nI vn)), (3, .int (nI (256 * (9 * k + vn % 9)))), (4, .long (lN (bs_dg (bs_fa fv (256 * (9 * k + vn % 9))) i))), (6, .int (nI (256 - i) + (-1)))] → W p l e (headSpec wsMO_digest { frames := 1, cells := 0, slots := 0, locals := 29 }).room s m ([.ref o, .int (nI k), .int (nI vn)] : List Value).toArray below meth c H locs 0 0 Q (F0 m 53 ls []) := by
    intro n
    induction n with
    | zero =>
      intro i hi H locs ls hP hD hS hl
      obtain rfl : i = 256 := by omega
      refine lv_iload hx hb dMO_digest_53 (lv_at hl 5 rfl) ?_
      refine lv_if_lt (tgt := 103) hx hb dMO_digest_55 (by decide) (fun _ => ?_) (fun h => absurd (by decide) h)
      refine lv_lload hx hb dMO_digest_103 (lv_at hl 4 rfl) ?_
      have hP : va_P (dC, dI) vwCl [(o, .inr (6, [.int (nI 0), .ref xv, .ref xo, .ref xn, .ref xc, .ref xb, .ref xd, .ref xq, .ref xa, .ref xk, .ref xt, .ref xh, .ref xs, .ref xS, .ref xw, .ref xW, .ref xB, .ref xM, .long jf, .long js, .int jb, .long nf, .long ns, .int nb, .ref xf, .ref xg, .ref xi])), (xv, .inl (cL, 4608, .inr (.inl fv))), (xn, .inl (cI, 2, .inl nv))] H := hP
      have hD : va_D A [(o, .inr (6, [.int (nI 0), .ref xv, .ref xo, .ref xn, .ref xc, .ref xb, .ref xd, .ref xq, .ref xa, .ref xk, .ref xt, .ref xh, .ref xs, .ref xS, .ref xw, .ref xW, .ref xB, .ref xM, .long jf, .long js, .int jb, .long nf, .long ns, .int nb, .ref xf, .ref xg, .ref xi])), (xv, .inl (cL, 4608, .inr (.inl fv))), (xn, .inl (cI, 2, .inl nv))] := hD
      subst hQ
      exact W.lret (v := lN (bs_dg (bs_fa fv (256 * (9 * k + vn % 9))) 256)) hx hb hr (fun t ht hW => ⟨⟨lN (bs_dg (bs_fa fv (256 * (9 * k + vn % 9))) 256), (), rfl, rfl, by rw [ht]; exact hP, va_K.moved hW.alike hK, hD⟩, hS.F ht⟩) hS.2.2 dMO_digest_105
    | succ n ih =>
      intro i hi H locs ls hP hD hS hl
      have e3 : nI (256 - i) + (-1) = nI (255 - i) := by rw [show 256 - i = (255 - i) + 1 by omega]; exact pk_m1 _
      rw [e3] at hl
      have d0 := bs_dg_lt (bs_fa fv (256 * (9 * k + vn % 9))) i
      refine lv_iload hx hb dMO_digest_53 (lv_at hl 5 rfl) ?_
      refine lv_if_lt (tgt := 103) hx hb dMO_digest_55 (by decide) (fun h => absurd h (nI_pos (by omega))) (fun _ => ?_)
      refine lv_lload hx hb dMO_digest_58 (lv_at hl 4 rfl) ?_
      refine lv_aload_n hx hb dMO_digest_60 rfl (lv_at hl 0 rfl) ?_
      refine va_get (D := (dC, dI)) (ci := 6) (v := .ref xv) (C := RMO) (T := TMO) (N := 27) hx hb hts in_MO hown hK hP 0 rfl rfl 1 (by decide) (hts _ w_f_MO_7) (fun _ h9 => h9) rfl dMO_digest_61 ?_
      refine lv_iload_n hx hb dMO_digest_64 rfl (lv_at hl 3 rfl) ?_
      refine lv_iload hx hb dMO_digest_65 (lv_at hl 5 rfl) ?_
      refine lv_iadd hx hb dMO_digest_67 ?_
      refine xt_i (y := nI (256 * (9 * k + vn % 9) + (255 - i))) (nI_add _ _) ?_
      refine xa_lald hx hb hK hP 1 1 rfl rfl (256 * (9 * k + vn % 9) + (255 - i)) (by omega) (by decide) dMO_digest_68 ?_
      refine lv_ldc2 (v := 4294967295) hx hb hown (hts _ w_j_MO_190) dMO_digest_69 ?_
      refine lv_land hx hb dMO_digest_72 ?_
      refine xt_l (y := lN (bs_u ((bs_fa fv (256 * (9 * k + vn % 9))) (255 - i)) % 4294967296)) (bs_lo32 ((bs_fa fv (256 * (9 * k + vn % 9))) (255 - i))) ?_
      have hPc := hP.sub (ws' := []) [] rfl
      have hDc := hD.sub (ws' := []) [] (by decide) rfl
      have hKc := hK.sub (tys' := []) [] rfl
      have hFc := va_free (wc := []) hD hS hA [] rfl
      refine va_calll (va_runS (As := [.long (lN (bs_dg (bs_fa fv (256 * (9 * k + vn % 9))) i)), .long (lN (bs_u ((bs_fa fv (256 * (9 * k + vn % 9))) (255 - i)) % 4294967296))]) (rest := []) ⟨hx, hb, hml, hown, hts⟩ (c_MO_further l dC dI H.size (bs_dg (bs_fa fv (256 * (9 * k + vn % 9))) i) (bs_u ((bs_fa fv (256 * (9 * k + vn % 9))) (255 - i)) % 4294967296) d0 (Nat.mod_lt _ (by decide))) (va_cwS 2 hts (wT_3 w_m_MO_192 w_t_MO_further w_n_MO w_c_MO_further) rfl rfl rfl (by decide +kernel) ⟨Nat.le_of_ble_eq_true rfl, Nat.le_of_ble_eq_true rfl⟩) ⟨fun a U g mk q => by obtain ⟨q0, q1, qP, qK, qD⟩ := q; exact ⟨q0, q1, qP, va_K.moved (u := U) (U := U.calling g mk a) (Vm.Alike.refl U.vm) qK, qD⟩, fun U hU hW => ⟨rfl, by rw [hU], by rw [hU]; exact hPc, va_K.moved hW.alike hKc, hDc.weaken (fun _ _ _ _ => trivial)⟩⟩ rfl rfl hl.1 rfl (lv_room (Nat.le_of_ble_eq_true rfl)) dMO_digest_73 ⟨Nat.zero_le _, Nat.zero_le _⟩) hS (fun q _ h => hFc q h) hFc (fun r u t H1 locs ht hvm hw hB hz1 hk1 hS => ?_)
      obtain ⟨hP1, hK1, hD1⟩ := hB
      rw [ht] at hP1
      have hK1 := va_K.moved hvm.symm hK1
      have hw : r = lN (bs_fur (bs_dg (bs_fa fv (256 * (9 * k + vn % 9))) i) (bs_u ((bs_fa fv (256 * (9 * k + vn % 9))) (255 - i)) % 4294967296)) := hw
      subst hw
      obtain ⟨hP, hD⟩ := va_join (wr := [(o, .inr (6, [.int (nI 0), .ref xv, .ref xo, .ref xn, .ref xc, .ref xb, .ref xd, .ref xq, .ref xa, .ref xk, .ref xt, .ref xh, .ref xs, .ref xS, .ref xw, .ref xW, .ref xB, .ref xM, .long jf, .long js, .int jb, .long nf, .long ns, .int nb, .ref xf, .ref xg, .ref xi])), (xv, .inl (cL, 4608, .inr (.inl fv))), (xn, .inl (cI, 2, .inl nv))]) (w1 := []) hP hD [] [0, 1, 2] rfl rfl (by decide) (by decide) hk1 hFc hP1 hD1
      generalize H1 = H at hP hS ⊢
      have hP : va_P (dC, dI) vwCl [(o, .inr (6, [.int (nI 0), .ref xv, .ref xo, .ref xn, .ref xc, .ref xb, .ref xd, .ref xq, .ref xa, .ref xk, .ref xt, .ref xh, .ref xs, .ref xS, .ref xw, .ref xW, .ref xB, .ref xM, .long jf, .long js, .int jb, .long nf, .long ns, .int nb, .ref xf, .ref xg, .ref xi])), (xv, .inl (cL, 4608, .inr (.inl fv))), (xn, .inl (cI, 2, .inl nv))] H := hP
      have hD : va_D A [(o, .inr (6, [.int (nI 0), .ref xv, .ref xo, .ref xn, .ref xc, .ref xb, .ref xd, .ref xq, .ref xa, .ref xk, .ref xt, .ref xh, .ref xs, .ref xS, .ref xw, .ref xW, .ref xB, .ref xM, .long jf, .long js, .int jb, .long nf, .long ns, .int nb, .ref xf, .ref xg, .ref xi])), (xv, .inl (cL, 4608, .inr (.inl fv))), (xn, .inl (cI, 2, .inl nv))] := hD
      refine lv_lstore (lv' := [(4, .long (lN (bs_fur (bs_dg (bs_fa fv (256 * (9 * k + vn % 9))) i) (bs_u ((bs_fa fv (256 * (9 * k + vn % 9))) (255 - i)) % 4294967296)))), (0, .ref o), (1, .int (nI k)), (2, .int (nI vn)), (3, .int (nI (256 * (9 * k + vn % 9)))), (6, .int (nI (255 - i)))]) hx hb dMO_digest_76 hl (by decide) rfl (fun ls hl => ?_)
      refine lv_lload hx hb dMO_digest_78 (lv_at hl 0 rfl) ?_
      refine lv_aload_n hx hb dMO_digest_80 rfl (lv_at hl 1 rfl) ?_
      refine va_get (D := (dC, dI)) (ci := 6) (v := .ref xv) (C := RMO) (T := TMO) (N := 27) hx hb hts in_MO hown hK hP 0 rfl rfl 1 (by decide) (hts _ w_f_MO_7) (fun _ h9 => h9) rfl dMO_digest_81 ?_
      refine lv_iload_n hx hb dMO_digest_84 rfl (lv_at hl 4 rfl) ?_
      refine lv_iload hx hb dMO_digest_85 (lv_at hl 5 rfl) ?_
      refine lv_iadd hx hb dMO_digest_87 ?_
      refine xt_i (y := nI (256 * (9 * k + vn % 9) + (255 - i))) (nI_add _ _) ?_
      refine xa_lald hx hb hK hP 1 1 rfl rfl (256 * (9 * k + vn % 9) + (255 - i)) (by omega) (by decide) dMO_digest_88 ?_
      refine lv_bipush (v := nI 32) hx hb dMO_digest_89 (by decide) ?_
      refine lv_lushr (v := j_lushr (fv (256 * (9 * k + vn % 9) + (255 - i))) (nI 32)) hx hb dMO_digest_91 rfl ?_
      refine xt_l (y := lN (bs_u ((bs_fa fv (256 * (9 * k + vn % 9))) (255 - i)) / 4294967296)) (bs_hi32 ((bs_fa fv (256 * (9 * k + vn % 9))) (255 - i))) ?_
      have u0 := bs_u_lt ((bs_fa fv (256 * (9 * k + vn % 9))) (255 - i))
      have hPc := hP.sub (ws' := []) [] rfl
      have hDc := hD.sub (ws' := []) [] (by decide) rfl
      have hKc := hK.sub (tys' := []) [] rfl
      have hFc := va_free (wc := []) hD hS hA [] rfl
      refine va_calll (va_runS (As := [.long (lN (bs_fur (bs_dg (bs_fa fv (256 * (9 * k + vn % 9))) i) (bs_u ((bs_fa fv (256 * (9 * k + vn % 9))) (255 - i)) % 4294967296))), .long (lN (bs_u ((bs_fa fv (256 * (9 * k + vn % 9))) (255 - i)) / 4294967296))]) (rest := []) ⟨hx, hb, hml, hown, hts⟩ (c_MO_further l dC dI H.size (bs_fur (bs_dg (bs_fa fv (256 * (9 * k + vn % 9))) i) (bs_u ((bs_fa fv (256 * (9 * k + vn % 9))) (255 - i)) % 4294967296)) (bs_u ((bs_fa fv (256 * (9 * k + vn % 9))) (255 - i)) / 4294967296) (bs_fur_lt _ _) (by omega)) (va_cwS 2 hts (wT_3 w_m_MO_192 w_t_MO_further w_n_MO w_c_MO_further) rfl rfl rfl (by decide +kernel) ⟨Nat.le_of_ble_eq_true rfl, Nat.le_of_ble_eq_true rfl⟩) ⟨fun a U g mk q => by obtain ⟨q0, q1, qP, qK, qD⟩ := q; exact ⟨q0, q1, qP, va_K.moved (u := U) (U := U.calling g mk a) (Vm.Alike.refl U.vm) qK, qD⟩, fun U hU hW => ⟨rfl, by rw [hU], by rw [hU]; exact hPc, va_K.moved hW.alike hKc, hDc.weaken (fun _ _ _ _ => trivial)⟩⟩ rfl rfl hl.1 rfl (lv_room (Nat.le_of_ble_eq_true rfl)) dMO_digest_92 ⟨Nat.zero_le _, Nat.zero_le _⟩) hS (fun q _ h => hFc q h) hFc (fun r u t H1 locs ht hvm hw hB hz1 hk1 hS => ?_)
      obtain ⟨hP1, hK1, hD1⟩ := hB
      rw [ht] at hP1
      have hK1 := va_K.moved hvm.symm hK1
      have hw : r = lN (bs_fur (bs_fur (bs_dg (bs_fa fv (256 * (9 * k + vn % 9))) i) (bs_u ((bs_fa fv (256 * (9 * k + vn % 9))) (255 - i)) % 4294967296)) (bs_u ((bs_fa fv (256 * (9 * k + vn % 9))) (255 - i)) / 4294967296)) := hw
      subst hw
      obtain ⟨hP, hD⟩ := va_join (wr := [(o, .inr (6, [.int (nI 0), .ref xv, .ref xo, .ref xn, .ref xc, .ref xb, .ref xd, .ref xq, .ref xa, .ref xk, .ref xt, .ref xh, .ref xs, .ref xS, .ref xw, .ref xW, .ref xB, .ref xM, .long jf, .long js, .int jb, .long nf, .long ns, .int nb, .ref xf, .ref xg, .ref xi])), (xv, .inl (cL, 4608, .inr (.inl fv))), (xn, .inl (cI, 2, .inl nv))]) (w1 := []) hP hD [] [0, 1, 2] rfl rfl (by decide) (by decide) hk1 hFc hP1 hD1
      generalize H1 = H at hP hS ⊢
      have hP : va_P (dC, dI) vwCl [(o, .inr (6, [.int (nI 0), .ref xv, .ref xo, .ref xn, .ref xc, .ref xb, .ref xd, .ref xq, .ref xa, .ref xk, .ref xt, .ref xh, .ref xs, .ref xS, .ref xw, .ref xW, .ref xB, .ref xM, .long jf, .long js, .int jb, .long nf, .long ns, .int nb, .ref xf, .ref xg, .ref xi])), (xv, .inl (cL, 4608, .inr (.inl fv))), (xn, .inl (cI, 2, .inl nv))] H := hP
      have hD : va_D A [(o, .inr (6, [.int (nI 0), .ref xv, .ref xo, .ref xn, .ref xc, .ref xb, .ref xd, .ref xq, .ref xa, .ref xk, .ref xt, .ref xh, .ref xs, .ref xS, .ref xw, .ref xW, .ref xB, .ref xM, .long jf, .long js, .int jb, .long nf, .long ns, .int nb, .ref xf, .ref xg, .ref xi])), (xv, .inl (cL, 4608, .inr (.inl fv))), (xn, .inl (cI, 2, .inl nv))] := hD
      refine lv_lstore (lv' := [(4, .long (lN (bs_fur (bs_fur (bs_dg (bs_fa fv (256 * (9 * k + vn % 9))) i) (bs_u ((bs_fa fv (256 * (9 * k + vn % 9))) (255 - i)) % 4294967296)) (bs_u ((bs_fa fv (256 * (9 * k + vn % 9))) (255 - i)) / 4294967296)))), (0, .ref o), (1, .int (nI k)), (2, .int (nI vn)), (3, .int (nI (256 * (9 * k + vn % 9)))), (6, .int (nI (255 - i)))]) hx hb dMO_digest_95 hl (by decide) rfl (fun ls hl => ?_)
      refine lv_iinc (k := 5) (v := nI (256 - (i + 1)) + (-1)) (lv' := [(6, .int (nI (256 - (i + 1)) + (-1))), (4, .long (lN (bs_fur (bs_fur (bs_dg (bs_fa fv (256 * (9 * k + vn % 9))) i) (bs_u ((bs_fa fv (256 * (9 * k + vn % 9))) (255 - i)) % 4294967296)) (bs_u ((bs_fa fv (256 * (9 * k + vn % 9))) (255 - i)) / 4294967296)))), (0, .ref o), (1, .int (nI k)), (2, .int (nI vn)), (3, .int (nI (256 * (9 * k + vn % 9))))]) hx hb dMO_digest_97 hl rfl (by rw [show 256 - (i + 1) = 255 - i by omega, show Int32.ofInt (-1) = (-1 : Int32) from by decide]) (by decide) rfl (fun ls hl => ?_)
      refine lv_goto (tgt := 53) hx hb dMO_digest_100 (by decide) ?_
      have hP : va_P (dC, dI) vwCl [(o, .inr (6, [.int (nI 0), .ref xv, .ref xo, .ref xn, .ref xc, .ref xb, .ref xd, .ref xq, .ref xa, .ref xk, .ref xt, .ref xh, .ref xs, .ref xS, .ref xw, .ref xW, .ref xB, .ref xM, .long jf, .long js, .int jb, .long nf, .long ns, .int nb, .ref xf, .ref xg, .ref xi])), (xv, .inl (cL, 4608, .inr (.inl fv))), (xn, .inl (cI, 2, .inl nv))] H := hP
      have hD : va_D A [(o, .inr (6, [.int (nI 0), .ref xv, .ref xo, .ref xn, .ref xc, .ref xb, .ref xd, .ref xq, .ref xa, .ref xk, .ref xt, .ref xh, .ref xs, .ref xS, .ref xw, .ref xW, .ref xB, .ref xM, .long jf, .long js, .int jb, .long nf, .long ns, .int nb, .ref xf, .ref xg, .ref xi])), (xv, .inl (cL, 4608, .inr (.inl fv))), (xn, .inl (cI, 2, .inl nv))] := hD
      have hl := lv_sub hl (l' := [(0, .ref o), (1, .int (nI k)), (2, .int (nI vn)), (3, .int (nI (256 * (9 * k + vn % 9)))), (4, .long (lN (bs_fur (bs_fur (bs_dg (bs_fa fv (256 * (9 * k + vn % 9))) i) (bs_u ((bs_fa fv (256 * (9 * k + vn % 9))) (255 - i)) % 4294967296)) (bs_u ((bs_fa fv (256 * (9 * k + vn % 9))) (255 - i)) / 4294967296)))), (6, .int (nI (256 - (i + 1)) + (-1)))]) [2, 3, 4, 5, 1, 0] rfl
      have hl : lv_has ls 7 [(0, .ref o), (1, .int (nI k)), (2, .int (nI vn)), (3, .int (nI (256 * (9 * k + vn % 9)))), (4, .long (lN (bs_dg (bs_fa fv (256 * (9 * k + vn % 9))) (i + 1)))), (6, .int (nI (256 - (i + 1)) + (-1)))] := hl
      exact ih (i + 1) (by omega) H _ ls hP hD hS hl
  have hP := hP.sub (ws' := [(o, .inr (6, [.int (nI 0), .ref xv, .ref xo, .ref xn, .ref xc, .ref xb, .ref xd, .ref xq, .ref xa, .ref xk, .ref xt, .ref xh, .ref xs, .ref xS, .ref xw, .ref xW, .ref xB, .ref xM, .long jf, .long js, .int jb, .long nf, .long ns, .int nb, .ref xf, .ref xg, .ref xi])), (xv, .inl (cL, 4608, .inr (.inl fv))), (xn, .inl (cI, 2, .inl nv))]) [2, 0, 1] rfl
  have hD := hD.sub (ws' := [(o, .inr (6, [.int (nI 0), .ref xv, .ref xo, .ref xn, .ref xc, .ref xb, .ref xd, .ref xq, .ref xa, .ref xk, .ref xt, .ref xh, .ref xs, .ref xS, .ref xw, .ref xW, .ref xB, .ref xM, .long jf, .long js, .int jb, .long nf, .long ns, .int nb, .ref xf, .ref xg, .ref xi])), (xv, .inl (cL, 4608, .inr (.inl fv))), (xn, .inl (cI, 2, .inl nv))]) [2, 0, 1] (by decide) rfl
  have hP : va_P (dC, dI) vwCl [(o, .inr (6, [.int (nI 0), .ref xv, .ref xo, .ref xn, .ref xc, .ref xb, .ref xd, .ref xq, .ref xa, .ref xk, .ref xt, .ref xh, .ref xs, .ref xS, .ref xw, .ref xW, .ref xB, .ref xM, .long jf, .long js, .int jb, .long nf, .long ns, .int nb, .ref xf, .ref xg, .ref xi])), (xv, .inl (cL, 4608, .inr (.inl fv))), (xn, .inl (cI, 2, .inl nv))] H := hP
  have hD : va_D A [(o, .inr (6, [.int (nI 0), .ref xv, .ref xo, .ref xn, .ref xc, .ref xb, .ref xd, .ref xq, .ref xa, .ref xk, .ref xt, .ref xh, .ref xs, .ref xS, .ref xw, .ref xW, .ref xB, .ref xM, .long jf, .long js, .int jb, .long nf, .long ns, .int nb, .ref xf, .ref xg, .ref xi])), (xv, .inl (cL, 4608, .inr (.inl fv))), (xn, .inl (cI, 2, .inl nv))] := hD
  have hl := lv_sub hl (l' := [(0, .ref o), (1, .int (nI k)), (2, .int (nI vn)), (3, .int (nI (256 * (9 * k + vn % 9)))), (4, .long 0), (6, .int (nI 255))]) [3, 4, 5, 2, 1, 0] rfl
  have hl : lv_has ls 7 [(0, .ref o), (1, .int (nI k)), (2, .int (nI vn)), (3, .int (nI (256 * (9 * k + vn % 9)))), (4, .long (lN (bs_dg (bs_fa fv (256 * (9 * k + vn % 9))) 0))), (6, .int (nI (256 - 0) + (-1)))] := hl
  exact loop (256 - 0) 0 (by omega) H _ ls hP hD hS hl
set_option maxHeartbeats 4000000 in
set_option maxRecDepth 100000 in
theorem c_MO_digest_h (l : Launch) (dC : Nat → ClassId) (dI : Nat → Nat → Nat) (sz : Nat) (o xv xo xn xc xb xd xq xa xk xt xh xs xS xw xW xB xM xf xg xi : Nat) (th : Int32) (jf js : Int64) (jb : Int32) (nf ns : Int64) (nb : Int32) (cI : ClassId) (nv : Nat → Int32) (k v : Nat) (x : Int32) (hk : k < 2) (hv : v < 2 ^ 30) (hn : nv k = nI v) (hu : decide (nI (v - 8) ≤ x ∧ x ≤ nI v) = false) : Met l yMO_digest wsMO_digest { frames := 1, cells := 0, slots := 0, locals := 29 } (va_Pc [.ref o, .int (nI k), .int x] (fun U => U.heap.size = sz ∧ va_P (dC, dI) vwCl [(o, .inr (6, [.int th, .ref xv, .ref xo, .ref xn, .ref xc, .ref xb, .ref xd, .ref xq, .ref xa, .ref xk, .ref xt, .ref xh, .ref xs, .ref xS, .ref xw, .ref xW, .ref xB, .ref xM, .long jf, .long js, .int jb, .long nf, .long ns, .int nb, .ref xf, .ref xg, .ref xi])), (xn, .inl (cI, 2, .inl nv))] U.heap ∧ va_K (dC, dI) vwCl [(cI, .int)] U ∧ va_D (fun _ => True) [(o, .inr (6, [.int th, .ref xv, .ref xo, .ref xn, .ref xc, .ref xb, .ref xd, .ref xq, .ref xa, .ref xk, .ref xt, .ref xh, .ref xs, .ref xS, .ref xw, .ref xW, .ref xB, .ref xM, .long jf, .long js, .int jb, .long nf, .long ns, .int nb, .ref xf, .ref xg, .ref xi])), (xn, .inl (cI, 2, .inl nv))])) (va_Ql (fun (r : Int64) (_ : Unit) => r = 0) (fun (_ : Unit) t => va_P (dC, dI) vwCl [(o, .inr (6, [.int (nI 2), .ref xv, .ref xo, .ref xn, .ref xc, .ref xb, .ref xd, .ref xq, .ref xa, .ref xk, .ref xt, .ref xh, .ref xs, .ref xS, .ref xw, .ref xW, .ref xB, .ref xM, .long jf, .long js, .int jb, .long nf, .long ns, .int nb, .ref xf, .ref xg, .ref xi])), (xn, .inl (cI, 2, .inl nv))] t.heap ∧ va_K (dC, dI) vwCl [(cI, .int)] t ∧ va_D (va_A [(o, .inr (6, [.int th, .ref xv, .ref xo, .ref xn, .ref xc, .ref xb, .ref xd, .ref xq, .ref xa, .ref xk, .ref xt, .ref xh, .ref xs, .ref xS, .ref xw, .ref xW, .ref xB, .ref xM, .long jf, .long js, .int jb, .long nf, .long ns, .int nb, .ref xf, .ref xg, .ref xi])), (xn, .inl (cI, 2, .inl nv))] sz) [(o, .inr (6, [.int (nI 2), .ref xv, .ref xo, .ref xn, .ref xc, .ref xb, .ref xd, .ref xq, .ref xa, .ref xk, .ref xt, .ref xh, .ref xs, .ref xS, .ref xw, .ref xW, .ref xB, .ref xM, .long jf, .long js, .int jb, .long nf, .long ns, .int nb, .ref xf, .ref xg, .ref xi])), (xn, .inl (cI, 2, .inl nv))]) (va_A [(o, .inr (6, [.int th, .ref xv, .ref xo, .ref xn, .ref xc, .ref xb, .ref xd, .ref xq, .ref xa, .ref xk, .ref xt, .ref xh, .ref xs, .ref xS, .ref xw, .ref xW, .ref xB, .ref xM, .long jf, .long js, .int jb, .long nf, .long ns, .int nb, .ref xf, .ref xg, .ref xi])), (xn, .inl (cI, 2, .inl nv))] sz)) 0 0 (va_A [(o, .inr (6, [.int th, .ref xv, .ref xo, .ref xn, .ref xc, .ref xb, .ref xd, .ref xq, .ref xa, .ref xk, .ref xt, .ref xh, .ref xs, .ref xS, .ref xw, .ref xW, .ref xB, .ref xM, .long jf, .long js, .int jb, .long nf, .long ns, .int nb, .ref xf, .ref xg, .ref xi])), (xn, .inl (cI, 2, .inl nv))] sz) := by
  refine Met.ofW (cc := cMO_digest) (maxL := 7) (ret := (some .long)) (by decide) rfl ?_
  intro p e s m args below meth c s₁ Bo9 hml hv
  obtain ⟨rfl, hsz, hP, hK, hD0⟩ := hv
  have hx := Bo9.exec
  have hb := Bo9.bytes
  have hr := Bo9.returns
  have hts := fun w (h : w ∈ wT) => atoms_spec (ws := wsMO_digest) Bo9.pre w (List.mem_cons_of_mem _ h)
  have hown : s.vm.findClass RMO = some m.cls := findClass_of_methodNamed Bo9.named
  have hlocks := Bo9.notSynchronized
  subst hsz
  have hD := hD0.self (sz := s.heap.size)
  generalize hAe : va_A [(o, .inr (6, [.int th, .ref xv, .ref xo, .ref xn, .ref xc, .ref xb, .ref xd, .ref xq, .ref xa, .ref xk, .ref xt, .ref xh, .ref xs, .ref xS, .ref xw, .ref xW, .ref xB, .ref xM, .long jf, .long js, .int jb, .long nf, .long ns, .int nb, .ref xf, .ref xg, .ref xi])), (xn, .inl (cI, 2, .inl nv))] s.heap.size = A at hD ⊢
  have hA : ∀ q : Nat, s.heap.size ≤ q → A q := fun q h => by rw [← hAe]; exact Or.inr h
  have hl := lv_entry ([.ref o, .int (nI k), .int x]) (n := 7) (Nat.le_of_ble_eq_true rfl)
  rw [lg_entry_eq]
  generalize (lg_sl ([.ref o, .int (nI k), .int x]) ++ List.replicate (7 - (lg_sl ([.ref o, .int (nI k), .int x])).length) Slot.unset).toArray = ls at hl ⊢
  have hl : lv_has ls 7 [(0, .ref o), (1, .int (nI k)), (2, .int x)] := hl
  refine xs_q (fun H Q hH hQ => ?_)
  have hS : va_S A s.heap H [] := by rw [hH]; exact va_S.rf
  have hP : va_P (dC, dI) vwCl [(o, .inr (6, [.int th, .ref xv, .ref xo, .ref xn, .ref xc, .ref xb, .ref xd, .ref xq, .ref xa, .ref xk, .ref xt, .ref xh, .ref xs, .ref xS, .ref xw, .ref xW, .ref xB, .ref xM, .long jf, .long js, .int jb, .long nf, .long ns, .int nb, .ref xf, .ref xg, .ref xi])), (xn, .inl (cI, 2, .inl nv))] H := by rw [hH]; exact hP
  refine lv_aload_n hx hb dMO_digest_0 rfl (lv_at hl 0 rfl) ?_
  refine lv_iload_n hx hb dMO_digest_1 rfl (lv_at hl 1 rfl) ?_
  have hs9 : bs_ii (nI k) 2 = true := bs_ii_n hk (by omega)
  have hPc := hP.sub (ws' := []) [] rfl
  have hDc := hD.sub (ws' := []) [] (by decide) rfl
  have hKc := hK.sub (tys' := []) [] rfl
  have hFc := va_free (wc := []) hD hS hA [] rfl
  refine va_calli (va_runS (As := [.int (nI k)]) (rest := [.ref o]) ⟨hx, hb, hml, hown, hts⟩ (c_MO_isServer l dC dI H.size (nI k)) (va_cwS 1 hts (wT_3 w_m_MO_164 w_t_MO_isServer w_n_MO w_c_MO_isServer) rfl rfl rfl (by decide +kernel) ⟨Nat.le_of_ble_eq_true rfl, Nat.le_of_ble_eq_true rfl⟩) ⟨fun a U g mk q => by obtain ⟨q0, q1, qP, qK, qD⟩ := q; exact ⟨q0, q1, qP, va_K.moved (u := U) (U := U.calling g mk a) (Vm.Alike.refl U.vm) qK, qD⟩, fun U hU hW => ⟨rfl, by rw [hU], by rw [hU]; exact hPc, va_K.moved hW.alike hKc, hDc.weaken (fun _ _ _ _ => trivial)⟩⟩ rfl rfl hl.1 rfl (lv_room (Nat.le_of_ble_eq_true rfl)) dMO_digest_2 ⟨Nat.zero_le _, Nat.zero_le _⟩) hS (fun q _ h => hFc q h) hFc (fun r u t H1 locs ht hvm hw hB hz1 hk1 hS => ?_)
  obtain ⟨hP1, hK1, hD1⟩ := hB
  rw [ht] at hP1
  have hK1 := va_K.moved hvm.symm hK1
  have hw : r = bs_z (bs_ii (nI k) 2) := hw
  subst hw
  obtain ⟨hP, hD⟩ := va_join (wr := [(o, .inr (6, [.int th, .ref xv, .ref xo, .ref xn, .ref xc, .ref xb, .ref xd, .ref xq, .ref xa, .ref xk, .ref xt, .ref xh, .ref xs, .ref xS, .ref xw, .ref xW, .ref xB, .ref xM, .long jf, .long js, .int jb, .long nf, .long ns, .int nb, .ref xf, .ref xg, .ref xi])), (xn, .inl (cI, 2, .inl nv))]) (w1 := []) hP hD [] [0, 1] rfl rfl (by decide) (by decide) hk1 hFc hP1 hD1
  generalize H1 = H at hP hS ⊢
  have hP : va_P (dC, dI) vwCl [(o, .inr (6, [.int th, .ref xv, .ref xo, .ref xn, .ref xc, .ref xb, .ref xd, .ref xq, .ref xa, .ref xk, .ref xt, .ref xh, .ref xs, .ref xS, .ref xw, .ref xW, .ref xB, .ref xM, .long jf, .long js, .int jb, .long nf, .long ns, .int nb, .ref xf, .ref xg, .ref xi])), (xn, .inl (cI, 2, .inl nv))] H := hP
  have hD : va_D A [(o, .inr (6, [.int th, .ref xv, .ref xo, .ref xn, .ref xc, .ref xb, .ref xd, .ref xq, .ref xa, .ref xk, .ref xt, .ref xh, .ref xs, .ref xS, .ref xw, .ref xW, .ref xB, .ref xM, .long jf, .long js, .int jb, .long nf, .long ns, .int nb, .ref xf, .ref xg, .ref xi])), (xn, .inl (cI, 2, .inl nv))] := hD
  refine xt_i (y := nI 1) (by rw [hs9]; rfl) ?_
  refine lv_if_ne (tgt := 12) hx hb dMO_digest_5 (by decide) (fun _ => ?_) (fun h => absurd h (by decide +kernel))
  refine lv_aload_n hx hb dMO_digest_12 rfl (lv_at hl 0 rfl) ?_
  refine lv_iload_n hx hb dMO_digest_13 rfl (lv_at hl 1 rfl) ?_
  refine lv_iload_n hx hb dMO_digest_14 rfl (lv_at hl 2 rfl) ?_
  have hPc := hP.sub (ws' := [(o, .inr (6, [.int th, .ref xv, .ref xo, .ref xn, .ref xc, .ref xb, .ref xd, .ref xq, .ref xa, .ref xk, .ref xt, .ref xh, .ref xs, .ref xS, .ref xw, .ref xW, .ref xB, .ref xM, .long jf, .long js, .int jb, .long nf, .long ns, .int nb, .ref xf, .ref xg, .ref xi])), (xn, .inl (cI, 2, .inl nv))]) [0, 1] rfl
  have hDc := hD.sub (ws' := [(o, .inr (6, [.int th, .ref xv, .ref xo, .ref xn, .ref xc, .ref xb, .ref xd, .ref xq, .ref xa, .ref xk, .ref xt, .ref xh, .ref xs, .ref xS, .ref xw, .ref xW, .ref xB, .ref xM, .long jf, .long js, .int jb, .long nf, .long ns, .int nb, .ref xf, .ref xg, .ref xi])), (xn, .inl (cI, 2, .inl nv))]) [0, 1] (by decide) rfl
  have hKc := hK.sub (tys' := [(cI, .int)]) [0] rfl
  have hFc := va_free (wc := [(o, .inr (6, [.int th, .ref xv, .ref xo, .ref xn, .ref xc, .ref xb, .ref xd, .ref xq, .ref xa, .ref xk, .ref xt, .ref xh, .ref xs, .ref xS, .ref xw, .ref xW, .ref xB, .ref xM, .long jf, .long js, .int jb, .long nf, .long ns, .int nb, .ref xf, .ref xg, .ref xi])), (xn, .inl (cI, 2, .inl nv))]) hD hS hA [0, 1] rfl
  refine va_calli (va_runV (C := RMO) (As := [.int (nI k), .int x]) (rest := [.ref o]) ⟨hx, hb, hml, hown, hts⟩ (c_MO_isHeld l dC dI H.size o xv xo xn xc xb xd xq xa xk xt xh xs xS xw xW xB xM xf xg xi th jf js jb nf ns nb cI nv k v x hk hv hn) (cwV (C := RMO) 2 hts (wT_4 w_m_MO_176 w_i_MO_isHeld w_s_MO_isHeld w_n_MO w_c_MO_isHeld) rfl rfl rfl (by decide +kernel) ⟨Nat.le_of_ble_eq_true rfl, Nat.le_of_ble_eq_true rfl⟩) ⟨fun a U g mk q => by obtain ⟨q0, q1, qP, qK, qD⟩ := q; exact ⟨q0, q1, qP, va_K.moved (u := U) (U := U.calling g mk a) (Vm.Alike.refl U.vm) qK, qD⟩, va_recv hK hP (q0 := 0) (ci := 6) (q := (RMO, TMO, 27)) rfl rfl, fun U hU hW => ⟨rfl, by rw [hU], by rw [hU]; exact hPc, va_K.moved hW.alike hKc, hDc.weaken (fun _ _ _ _ => trivial)⟩⟩ rfl rfl hl.1 rfl (lv_room (Nat.le_of_ble_eq_true rfl)) dMO_digest_15 ⟨Nat.zero_le _, Nat.zero_le _⟩) hS (fun q _ h => hFc q h) hFc (fun r u t H1 locs ht hvm hw hB hz1 hk1 hS => ?_)
  obtain ⟨hP1, hK1, hD1⟩ := hB
  rw [ht] at hP1
  have hK1 := va_K.moved hvm.symm hK1
  have hw : r = bs_z (decide (nI (v - 8) ≤ x ∧ x ≤ nI v)) := hw
  subst hw
  obtain ⟨hP, hD⟩ := va_join (wr := []) (w1 := [(o, .inr (6, [.int th, .ref xv, .ref xo, .ref xn, .ref xc, .ref xb, .ref xd, .ref xq, .ref xa, .ref xk, .ref xt, .ref xh, .ref xs, .ref xS, .ref xw, .ref xW, .ref xB, .ref xM, .long jf, .long js, .int jb, .long nf, .long ns, .int nb, .ref xf, .ref xg, .ref xi])), (xn, .inl (cI, 2, .inl nv))]) hP hD [0, 1] [] rfl rfl (by decide) (by decide) hk1 hFc hP1 hD1
  generalize H1 = H at hP hS ⊢
  have hP : va_P (dC, dI) vwCl [(o, .inr (6, [.int th, .ref xv, .ref xo, .ref xn, .ref xc, .ref xb, .ref xd, .ref xq, .ref xa, .ref xk, .ref xt, .ref xh, .ref xs, .ref xS, .ref xw, .ref xW, .ref xB, .ref xM, .long jf, .long js, .int jb, .long nf, .long ns, .int nb, .ref xf, .ref xg, .ref xi])), (xn, .inl (cI, 2, .inl nv))] H := hP
  have hD : va_D A [(o, .inr (6, [.int th, .ref xv, .ref xo, .ref xn, .ref xc, .ref xb, .ref xd, .ref xq, .ref xa, .ref xk, .ref xt, .ref xh, .ref xs, .ref xS, .ref xw, .ref xW, .ref xB, .ref xM, .long jf, .long js, .int jb, .long nf, .long ns, .int nb, .ref xf, .ref xg, .ref xi])), (xn, .inl (cI, 2, .inl nv))] := hD
  refine xt_i (y := nI 0) (by rw [hu]; rfl) ?_
  refine lv_if_eq (tgt := 25) hx hb dMO_digest_18 (by decide) (fun _ => ?_) (fun h => absurd (by decide +kernel) h)
  refine lv_iconst (v := nI 2) hx hb dMO_digest_25 (by decide) ?_
  refine va_put (D := (dC, dI)) (ci := 6) (v := .int (nI 2)) (ty := .int) (C := RMO) (T := TMO) (N := 27) hx hb hts in_MO tyMO tyMO_ok nmMO hown hK hP hD hS 0 rfl rfl 0 (by decide) (hts _ w_f_MO_87) (fun _ h9 => h9) rfl (by decide +kernel) (rfl) (rfl) (Nat.le_of_ble_eq_true rfl) dMO_digest_26 (fun H locs hP hD hS => ?_)
  have hP : va_P (dC, dI) vwCl [(o, .inr (6, [.int (nI 2), .ref xv, .ref xo, .ref xn, .ref xc, .ref xb, .ref xd, .ref xq, .ref xa, .ref xk, .ref xt, .ref xh, .ref xs, .ref xS, .ref xw, .ref xW, .ref xB, .ref xM, .long jf, .long js, .int jb, .long nf, .long ns, .int nb, .ref xf, .ref xg, .ref xi])), (xn, .inl (cI, 2, .inl nv))] H := hP
  have hD : va_D A [(o, .inr (6, [.int (nI 2), .ref xv, .ref xo, .ref xn, .ref xc, .ref xb, .ref xd, .ref xq, .ref xa, .ref xk, .ref xt, .ref xh, .ref xs, .ref xS, .ref xw, .ref xW, .ref xB, .ref xM, .long jf, .long js, .int jb, .long nf, .long ns, .int nb, .ref xf, .ref xg, .ref xi])), (xn, .inl (cI, 2, .inl nv))] := hD
  refine lv_aload_n hx hb dMO_digest_29 rfl (lv_at hl 0 rfl) ?_
  refine va_get (D := (dC, dI)) (ci := 6) (v := .int (nI 2)) (C := RMO) (T := TMO) (N := 27) hx hb hts in_MO hown hK hP 0 rfl rfl 0 (by decide) (hts _ w_f_MO_87) (fun _ h9 => h9) rfl dMO_digest_30 ?_
  refine lv_if_le (tgt := 38) hx hb dMO_digest_33 (by decide) (fun h => absurd h (by decide +kernel)) (fun _ => ?_)
  refine lv_lconst (v := 0) hx hb dMO_digest_36 (by decide) ?_
  have hP : va_P (dC, dI) vwCl [(o, .inr (6, [.int (nI 2), .ref xv, .ref xo, .ref xn, .ref xc, .ref xb, .ref xd, .ref xq, .ref xa, .ref xk, .ref xt, .ref xh, .ref xs, .ref xS, .ref xw, .ref xW, .ref xB, .ref xM, .long jf, .long js, .int jb, .long nf, .long ns, .int nb, .ref xf, .ref xg, .ref xi])), (xn, .inl (cI, 2, .inl nv))] H := hP
  have hD : va_D A [(o, .inr (6, [.int (nI 2), .ref xv, .ref xo, .ref xn, .ref xc, .ref xb, .ref xd, .ref xq, .ref xa, .ref xk, .ref xt, .ref xh, .ref xs, .ref xS, .ref xw, .ref xW, .ref xB, .ref xM, .long jf, .long js, .int jb, .long nf, .long ns, .int nb, .ref xf, .ref xg, .ref xi])), (xn, .inl (cI, 2, .inl nv))] := hD
  subst hQ
  exact W.lret (v := 0) hx hb hr (fun t ht hW => ⟨⟨0, (), rfl, rfl, by rw [ht]; exact hP, va_K.moved hW.alike hK, hD⟩, hS.F ht⟩) hS.2.2 dMO_digest_37
set_option maxHeartbeats 4000000 in
set_option maxRecDepth 100000 in
theorem c_MO_digest_n (l : Launch) (dC : Nat → ClassId) (dI : Nat → Nat → Nat) (sz : Nat) (o xv xo xn xc xb xd xq xa xk xt xh xs xS xw xW xB xM xf xg xi : Nat) (th : Int32) (jf js : Int64) (jb : Int32) (nf ns : Int64) (nb : Int32) (x y : Int32) (hn : bs_ii x 2 = false) : Met l yMO_digest wsMO_digest { frames := 1, cells := 0, slots := 0, locals := 29 } (va_Pc [.ref o, .int x, .int y] (fun U => U.heap.size = sz ∧ va_P (dC, dI) vwCl [(o, .inr (6, [.int th, .ref xv, .ref xo, .ref xn, .ref xc, .ref xb, .ref xd, .ref xq, .ref xa, .ref xk, .ref xt, .ref xh, .ref xs, .ref xS, .ref xw, .ref xW, .ref xB, .ref xM, .long jf, .long js, .int jb, .long nf, .long ns, .int nb, .ref xf, .ref xg, .ref xi]))] U.heap ∧ va_K (dC, dI) vwCl [] U ∧ va_D (fun _ => True) [(o, .inr (6, [.int th, .ref xv, .ref xo, .ref xn, .ref xc, .ref xb, .ref xd, .ref xq, .ref xa, .ref xk, .ref xt, .ref xh, .ref xs, .ref xS, .ref xw, .ref xW, .ref xB, .ref xM, .long jf, .long js, .int jb, .long nf, .long ns, .int nb, .ref xf, .ref xg, .ref xi]))])) (va_Ql (fun (r : Int64) (_ : Unit) => r = 0) (fun (_ : Unit) t => va_P (dC, dI) vwCl [(o, .inr (6, [.int (nI 1), .ref xv, .ref xo, .ref xn, .ref xc, .ref xb, .ref xd, .ref xq, .ref xa, .ref xk, .ref xt, .ref xh, .ref xs, .ref xS, .ref xw, .ref xW, .ref xB, .ref xM, .long jf, .long js, .int jb, .long nf, .long ns, .int nb, .ref xf, .ref xg, .ref xi]))] t.heap ∧ va_K (dC, dI) vwCl [] t ∧ va_D (va_A [(o, .inr (6, [.int th, .ref xv, .ref xo, .ref xn, .ref xc, .ref xb, .ref xd, .ref xq, .ref xa, .ref xk, .ref xt, .ref xh, .ref xs, .ref xS, .ref xw, .ref xW, .ref xB, .ref xM, .long jf, .long js, .int jb, .long nf, .long ns, .int nb, .ref xf, .ref xg, .ref xi]))] sz) [(o, .inr (6, [.int (nI 1), .ref xv, .ref xo, .ref xn, .ref xc, .ref xb, .ref xd, .ref xq, .ref xa, .ref xk, .ref xt, .ref xh, .ref xs, .ref xS, .ref xw, .ref xW, .ref xB, .ref xM, .long jf, .long js, .int jb, .long nf, .long ns, .int nb, .ref xf, .ref xg, .ref xi]))]) (va_A [(o, .inr (6, [.int th, .ref xv, .ref xo, .ref xn, .ref xc, .ref xb, .ref xd, .ref xq, .ref xa, .ref xk, .ref xt, .ref xh, .ref xs, .ref xS, .ref xw, .ref xW, .ref xB, .ref xM, .long jf, .long js, .int jb, .long nf, .long ns, .int nb, .ref xf, .ref xg, .ref xi]))] sz)) 0 0 (va_A [(o, .inr (6, [.int th, .ref xv, .ref xo, .ref xn, .ref xc, .ref xb, .ref xd, .ref xq, .ref xa, .ref xk, .ref xt, .ref xh, .ref xs, .ref xS, .ref xw, .ref xW, .ref xB, .ref xM, .long jf, .long js, .int jb, .long nf, .long ns, .int nb, .ref xf, .ref xg, .ref xi]))] sz) := by
  refine Met.ofW (cc := cMO_digest) (maxL := 7) (ret := (some .long)) (by decide) rfl ?_
  intro p e s m args below meth c s₁ Bo9 hml hv
  obtain ⟨rfl, hsz, hP, hK, hD0⟩ := hv
  have hx := Bo9.exec
  have hb := Bo9.bytes
  have hr := Bo9.returns
  have hts := fun w (h : w ∈ wT) => atoms_spec (ws := wsMO_digest) Bo9.pre w (List.mem_cons_of_mem _ h)
  have hown : s.vm.findClass RMO = some m.cls := findClass_of_methodNamed Bo9.named
  have hlocks := Bo9.notSynchronized
  subst hsz
  have hD := hD0.self (sz := s.heap.size)
  generalize hAe : va_A [(o, .inr (6, [.int th, .ref xv, .ref xo, .ref xn, .ref xc, .ref xb, .ref xd, .ref xq, .ref xa, .ref xk, .ref xt, .ref xh, .ref xs, .ref xS, .ref xw, .ref xW, .ref xB, .ref xM, .long jf, .long js, .int jb, .long nf, .long ns, .int nb, .ref xf, .ref xg, .ref xi]))] s.heap.size = A at hD ⊢
  have hA : ∀ q : Nat, s.heap.size ≤ q → A q := fun q h => by rw [← hAe]; exact Or.inr h
  have hl := lv_entry ([.ref o, .int x, .int y]) (n := 7) (Nat.le_of_ble_eq_true rfl)
  rw [lg_entry_eq]
  generalize (lg_sl ([.ref o, .int x, .int y]) ++ List.replicate (7 - (lg_sl ([.ref o, .int x, .int y])).length) Slot.unset).toArray = ls at hl ⊢
  have hl : lv_has ls 7 [(0, .ref o), (1, .int x), (2, .int y)] := hl
  refine xs_q (fun H Q hH hQ => ?_)
  have hS : va_S A s.heap H [] := by rw [hH]; exact va_S.rf
  have hP : va_P (dC, dI) vwCl [(o, .inr (6, [.int th, .ref xv, .ref xo, .ref xn, .ref xc, .ref xb, .ref xd, .ref xq, .ref xa, .ref xk, .ref xt, .ref xh, .ref xs, .ref xS, .ref xw, .ref xW, .ref xB, .ref xM, .long jf, .long js, .int jb, .long nf, .long ns, .int nb, .ref xf, .ref xg, .ref xi]))] H := by rw [hH]; exact hP
  refine lv_aload_n hx hb dMO_digest_0 rfl (lv_at hl 0 rfl) ?_
  refine lv_iload_n hx hb dMO_digest_1 rfl (lv_at hl 1 rfl) ?_
  have hPc := hP.sub (ws' := []) [] rfl
  have hDc := hD.sub (ws' := []) [] (by decide) rfl
  have hKc := hK.sub (tys' := []) [] rfl
  have hFc := va_free (wc := []) hD hS hA [] rfl
  refine va_calli (va_runS (As := [.int x]) (rest := [.ref o]) ⟨hx, hb, hml, hown, hts⟩ (c_MO_isServer l dC dI H.size x) (va_cwS 1 hts (wT_3 w_m_MO_164 w_t_MO_isServer w_n_MO w_c_MO_isServer) rfl rfl rfl (by decide +kernel) ⟨Nat.le_of_ble_eq_true rfl, Nat.le_of_ble_eq_true rfl⟩) ⟨fun a U g mk q => by obtain ⟨q0, q1, qP, qK, qD⟩ := q; exact ⟨q0, q1, qP, va_K.moved (u := U) (U := U.calling g mk a) (Vm.Alike.refl U.vm) qK, qD⟩, fun U hU hW => ⟨rfl, by rw [hU], by rw [hU]; exact hPc, va_K.moved hW.alike hKc, hDc.weaken (fun _ _ _ _ => trivial)⟩⟩ rfl rfl hl.1 rfl (lv_room (Nat.le_of_ble_eq_true rfl)) dMO_digest_2 ⟨Nat.zero_le _, Nat.zero_le _⟩) hS (fun q _ h => hFc q h) hFc (fun r u t H1 locs ht hvm hw hB hz1 hk1 hS => ?_)
  obtain ⟨hP1, hK1, hD1⟩ := hB
  rw [ht] at hP1
  have hK1 := va_K.moved hvm.symm hK1
  have hw : r = bs_z (bs_ii x 2) := hw
  subst hw
  obtain ⟨hP, hD⟩ := va_join (wr := [(o, .inr (6, [.int th, .ref xv, .ref xo, .ref xn, .ref xc, .ref xb, .ref xd, .ref xq, .ref xa, .ref xk, .ref xt, .ref xh, .ref xs, .ref xS, .ref xw, .ref xW, .ref xB, .ref xM, .long jf, .long js, .int jb, .long nf, .long ns, .int nb, .ref xf, .ref xg, .ref xi]))]) (w1 := []) hP hD [] [0] rfl rfl (by decide) (by decide) hk1 hFc hP1 hD1
  generalize H1 = H at hP hS ⊢
  have hP : va_P (dC, dI) vwCl [(o, .inr (6, [.int th, .ref xv, .ref xo, .ref xn, .ref xc, .ref xb, .ref xd, .ref xq, .ref xa, .ref xk, .ref xt, .ref xh, .ref xs, .ref xS, .ref xw, .ref xW, .ref xB, .ref xM, .long jf, .long js, .int jb, .long nf, .long ns, .int nb, .ref xf, .ref xg, .ref xi]))] H := hP
  have hD : va_D A [(o, .inr (6, [.int th, .ref xv, .ref xo, .ref xn, .ref xc, .ref xb, .ref xd, .ref xq, .ref xa, .ref xk, .ref xt, .ref xh, .ref xs, .ref xS, .ref xw, .ref xW, .ref xB, .ref xM, .long jf, .long js, .int jb, .long nf, .long ns, .int nb, .ref xf, .ref xg, .ref xi]))] := hD
  refine xt_i (y := nI 0) (by rw [hn]; rfl) ?_
  refine lv_if_ne (tgt := 12) hx hb dMO_digest_5 (by decide) (fun h => absurd (rfl) h) (fun _ => ?_)
  refine lv_iconst (v := nI 1) hx hb dMO_digest_8 (by decide) ?_
  refine lv_goto (tgt := 26) hx hb dMO_digest_9 (by decide) ?_
  refine va_put (D := (dC, dI)) (ci := 6) (v := .int (nI 1)) (ty := .int) (C := RMO) (T := TMO) (N := 27) hx hb hts in_MO tyMO tyMO_ok nmMO hown hK hP hD hS 0 rfl rfl 0 (by decide) (hts _ w_f_MO_87) (fun _ h9 => h9) rfl (by decide +kernel) (rfl) (rfl) (Nat.le_of_ble_eq_true rfl) dMO_digest_26 (fun H locs hP hD hS => ?_)
  have hP : va_P (dC, dI) vwCl [(o, .inr (6, [.int (nI 1), .ref xv, .ref xo, .ref xn, .ref xc, .ref xb, .ref xd, .ref xq, .ref xa, .ref xk, .ref xt, .ref xh, .ref xs, .ref xS, .ref xw, .ref xW, .ref xB, .ref xM, .long jf, .long js, .int jb, .long nf, .long ns, .int nb, .ref xf, .ref xg, .ref xi]))] H := hP
  have hD : va_D A [(o, .inr (6, [.int (nI 1), .ref xv, .ref xo, .ref xn, .ref xc, .ref xb, .ref xd, .ref xq, .ref xa, .ref xk, .ref xt, .ref xh, .ref xs, .ref xS, .ref xw, .ref xW, .ref xB, .ref xM, .long jf, .long js, .int jb, .long nf, .long ns, .int nb, .ref xf, .ref xg, .ref xi]))] := hD
  refine lv_aload_n hx hb dMO_digest_29 rfl (lv_at hl 0 rfl) ?_
  refine va_get (D := (dC, dI)) (ci := 6) (v := .int (nI 1)) (C := RMO) (T := TMO) (N := 27) hx hb hts in_MO hown hK hP 0 rfl rfl 0 (by decide) (hts _ w_f_MO_87) (fun _ h9 => h9) rfl dMO_digest_30 ?_
  refine lv_if_le (tgt := 38) hx hb dMO_digest_33 (by decide) (fun h => absurd h (by decide +kernel)) (fun _ => ?_)
  refine lv_lconst (v := 0) hx hb dMO_digest_36 (by decide) ?_
  have hP : va_P (dC, dI) vwCl [(o, .inr (6, [.int (nI 1), .ref xv, .ref xo, .ref xn, .ref xc, .ref xb, .ref xd, .ref xq, .ref xa, .ref xk, .ref xt, .ref xh, .ref xs, .ref xS, .ref xw, .ref xW, .ref xB, .ref xM, .long jf, .long js, .int jb, .long nf, .long ns, .int nb, .ref xf, .ref xg, .ref xi]))] H := hP
  have hD : va_D A [(o, .inr (6, [.int (nI 1), .ref xv, .ref xo, .ref xn, .ref xc, .ref xb, .ref xd, .ref xq, .ref xa, .ref xk, .ref xt, .ref xh, .ref xs, .ref xS, .ref xw, .ref xW, .ref xB, .ref xM, .long jf, .long js, .int jb, .long nf, .long ns, .int nb, .ref xf, .ref xg, .ref xi]))] := hD
  subst hQ
  exact W.lret (v := 0) hx hb hr (fun t ht hW => ⟨⟨0, (), rfl, rfl, by rw [ht]; exact hP, va_K.moved hW.alike hK, hD⟩, hS.F ht⟩) hS.2.2 dMO_digest_37
set_option maxHeartbeats 4000000 in
set_option maxRecDepth 100000 in
theorem c_MO_count_n (l : Launch) (dC : Nat → ClassId) (dI : Nat → Nat → Nat) (sz : Nat) (o xv xo xn xc xb xd xq xa xk xt xh xs xS xw xW xB xM xf xg xi : Nat) (th : Int32) (jf js : Int64) (jb : Int32) (nf ns : Int64) (nb : Int32) (x y : Int32) (hn : bs_ii x 2 = false) : Met l yMO_count wsMO_count { frames := 6, cells := 0, slots := 0, locals := 148 } (va_Pc [.ref o, .int x, .int y] (fun U => U.heap.size = sz ∧ va_P (dC, dI) vwCl [(o, .inr (6, [.int th, .ref xv, .ref xo, .ref xn, .ref xc, .ref xb, .ref xd, .ref xq, .ref xa, .ref xk, .ref xt, .ref xh, .ref xs, .ref xS, .ref xw, .ref xW, .ref xB, .ref xM, .long jf, .long js, .int jb, .long nf, .long ns, .int nb, .ref xf, .ref xg, .ref xi]))] U.heap ∧ va_K (dC, dI) vwCl [] U ∧ va_D (fun _ => True) [(o, .inr (6, [.int th, .ref xv, .ref xo, .ref xn, .ref xc, .ref xb, .ref xd, .ref xq, .ref xa, .ref xk, .ref xt, .ref xh, .ref xs, .ref xS, .ref xw, .ref xW, .ref xB, .ref xM, .long jf, .long js, .int jb, .long nf, .long ns, .int nb, .ref xf, .ref xg, .ref xi]))])) (va_Qi (fun (r : Int32) (_ : Unit) => r = (-1)) (fun (_ : Unit) t => va_P (dC, dI) vwCl [(o, .inr (6, [.int (nI 0), .ref xv, .ref xo, .ref xn, .ref xc, .ref xb, .ref xd, .ref xq, .ref xa, .ref xk, .ref xt, .ref xh, .ref xs, .ref xS, .ref xw, .ref xW, .ref xB, .ref xM, .long jf, .long js, .int jb, .long nf, .long ns, .int nb, .ref xf, .ref xg, .ref xi]))] t.heap ∧ va_K (dC, dI) vwCl [] t ∧ va_D (va_A [(o, .inr (6, [.int th, .ref xv, .ref xo, .ref xn, .ref xc, .ref xb, .ref xd, .ref xq, .ref xa, .ref xk, .ref xt, .ref xh, .ref xs, .ref xS, .ref xw, .ref xW, .ref xB, .ref xM, .long jf, .long js, .int jb, .long nf, .long ns, .int nb, .ref xf, .ref xg, .ref xi]))] sz) [(o, .inr (6, [.int (nI 0), .ref xv, .ref xo, .ref xn, .ref xc, .ref xb, .ref xd, .ref xq, .ref xa, .ref xk, .ref xt, .ref xh, .ref xs, .ref xS, .ref xw, .ref xW, .ref xB, .ref xM, .long jf, .long js, .int jb, .long nf, .long ns, .int nb, .ref xf, .ref xg, .ref xi]))]) (va_A [(o, .inr (6, [.int th, .ref xv, .ref xo, .ref xn, .ref xc, .ref xb, .ref xd, .ref xq, .ref xa, .ref xk, .ref xt, .ref xh, .ref xs, .ref xS, .ref xw, .ref xW, .ref xB, .ref xM, .long jf, .long js, .int jb, .long nf, .long ns, .int nb, .ref xf, .ref xg, .ref xi]))] sz)) 0 0 (va_A [(o, .inr (6, [.int th, .ref xv, .ref xo, .ref xn, .ref xc, .ref xb, .ref xd, .ref xq, .ref xa, .ref xk, .ref xt, .ref xh, .ref xs, .ref xS, .ref xw, .ref xW, .ref xB, .ref xM, .long jf, .long js, .int jb, .long nf, .long ns, .int nb, .ref xf, .ref xg, .ref xi]))] sz) := by
  refine Met.ofW (cc := cMO_count) (maxL := 3) (ret := (some .int)) (by decide) rfl ?_
  intro p e s m args below meth c s₁ Bo9 hml hv
  obtain ⟨rfl, hsz, hP, hK, hD0⟩ := hv
  have hx := Bo9.exec
  have hb := Bo9.bytes
  have hr := Bo9.returns
  have hts := fun w (h : w ∈ wT) => atoms_spec (ws := wsMO_count) Bo9.pre w (List.mem_cons_of_mem _ h)
  have hown : s.vm.findClass RMO = some m.cls := findClass_of_methodNamed Bo9.named
  have hlocks := Bo9.notSynchronized
  subst hsz
  have hD := hD0.self (sz := s.heap.size)
  generalize hAe : va_A [(o, .inr (6, [.int th, .ref xv, .ref xo, .ref xn, .ref xc, .ref xb, .ref xd, .ref xq, .ref xa, .ref xk, .ref xt, .ref xh, .ref xs, .ref xS, .ref xw, .ref xW, .ref xB, .ref xM, .long jf, .long js, .int jb, .long nf, .long ns, .int nb, .ref xf, .ref xg, .ref xi]))] s.heap.size = A at hD ⊢
  have hA : ∀ q : Nat, s.heap.size ≤ q → A q := fun q h => by rw [← hAe]; exact Or.inr h
  have hl := lv_entry ([.ref o, .int x, .int y]) (n := 3) (Nat.le_of_ble_eq_true rfl)
  rw [lg_entry_eq]
  generalize (lg_sl ([.ref o, .int x, .int y]) ++ List.replicate (3 - (lg_sl ([.ref o, .int x, .int y])).length) Slot.unset).toArray = ls at hl ⊢
  have hl : lv_has ls 3 [(0, .ref o), (1, .int x), (2, .int y)] := hl
  refine xs_q (fun H Q hH hQ => ?_)
  have hS : va_S A s.heap H [] := by rw [hH]; exact va_S.rf
  have hP : va_P (dC, dI) vwCl [(o, .inr (6, [.int th, .ref xv, .ref xo, .ref xn, .ref xc, .ref xb, .ref xd, .ref xq, .ref xa, .ref xk, .ref xt, .ref xh, .ref xs, .ref xS, .ref xw, .ref xW, .ref xB, .ref xM, .long jf, .long js, .int jb, .long nf, .long ns, .int nb, .ref xf, .ref xg, .ref xi]))] H := by rw [hH]; exact hP
  refine lv_aload_n hx hb dMO_count_0 rfl (lv_at hl 0 rfl) ?_
  refine lv_iconst (v := nI 0) hx hb dMO_count_1 (by decide) ?_
  refine va_put (D := (dC, dI)) (ci := 6) (v := .int (nI 0)) (ty := .int) (C := RMO) (T := TMO) (N := 27) hx hb hts in_MO tyMO tyMO_ok nmMO hown hK hP hD hS 0 rfl rfl 0 (by decide) (hts _ w_f_MO_87) (fun _ h9 => h9) rfl (by decide +kernel) (rfl) (rfl) (Nat.le_of_ble_eq_true rfl) dMO_count_2 (fun H locs hP hD hS => ?_)
  have hP : va_P (dC, dI) vwCl [(o, .inr (6, [.int (nI 0), .ref xv, .ref xo, .ref xn, .ref xc, .ref xb, .ref xd, .ref xq, .ref xa, .ref xk, .ref xt, .ref xh, .ref xs, .ref xS, .ref xw, .ref xW, .ref xB, .ref xM, .long jf, .long js, .int jb, .long nf, .long ns, .int nb, .ref xf, .ref xg, .ref xi]))] H := hP
  have hD : va_D A [(o, .inr (6, [.int (nI 0), .ref xv, .ref xo, .ref xn, .ref xc, .ref xb, .ref xd, .ref xq, .ref xa, .ref xk, .ref xt, .ref xh, .ref xs, .ref xS, .ref xw, .ref xW, .ref xB, .ref xM, .long jf, .long js, .int jb, .long nf, .long ns, .int nb, .ref xf, .ref xg, .ref xi]))] := hD
  refine lv_iload_n hx hb dMO_count_5 rfl (lv_at hl 1 rfl) ?_
  have hPc := hP.sub (ws' := []) [] rfl
  have hDc := hD.sub (ws' := []) [] (by decide) rfl
  have hKc := hK.sub (tys' := []) [] rfl
  have hFc := va_free (wc := []) hD hS hA [] rfl
  refine va_calli (va_runS (As := [.int x]) (rest := []) ⟨hx, hb, hml, hown, hts⟩ (c_MO_isServer l dC dI H.size x) (va_cwS 1 hts (wT_3 w_m_MO_164 w_t_MO_isServer w_n_MO w_c_MO_isServer) rfl rfl rfl (by decide +kernel) ⟨Nat.le_of_ble_eq_true rfl, Nat.le_of_ble_eq_true rfl⟩) ⟨fun a U g mk q => by obtain ⟨q0, q1, qP, qK, qD⟩ := q; exact ⟨q0, q1, qP, va_K.moved (u := U) (U := U.calling g mk a) (Vm.Alike.refl U.vm) qK, qD⟩, fun U hU hW => ⟨rfl, by rw [hU], by rw [hU]; exact hPc, va_K.moved hW.alike hKc, hDc.weaken (fun _ _ _ _ => trivial)⟩⟩ rfl rfl hl.1 rfl (lv_room (Nat.le_of_ble_eq_true rfl)) dMO_count_6 ⟨Nat.zero_le _, Nat.zero_le _⟩) hS (fun q _ h => hFc q h) hFc (fun r u t H1 locs ht hvm hw hB hz1 hk1 hS => ?_)
  obtain ⟨hP1, hK1, hD1⟩ := hB
  rw [ht] at hP1
  have hK1 := va_K.moved hvm.symm hK1
  have hw : r = bs_z (bs_ii x 2) := hw
  subst hw
  obtain ⟨hP, hD⟩ := va_join (wr := [(o, .inr (6, [.int (nI 0), .ref xv, .ref xo, .ref xn, .ref xc, .ref xb, .ref xd, .ref xq, .ref xa, .ref xk, .ref xt, .ref xh, .ref xs, .ref xS, .ref xw, .ref xW, .ref xB, .ref xM, .long jf, .long js, .int jb, .long nf, .long ns, .int nb, .ref xf, .ref xg, .ref xi]))]) (w1 := []) hP hD [] [0] rfl rfl (by decide) (by decide) hk1 hFc hP1 hD1
  generalize H1 = H at hP hS ⊢
  have hP : va_P (dC, dI) vwCl [(o, .inr (6, [.int (nI 0), .ref xv, .ref xo, .ref xn, .ref xc, .ref xb, .ref xd, .ref xq, .ref xa, .ref xk, .ref xt, .ref xh, .ref xs, .ref xS, .ref xw, .ref xW, .ref xB, .ref xM, .long jf, .long js, .int jb, .long nf, .long ns, .int nb, .ref xf, .ref xg, .ref xi]))] H := hP
  have hD : va_D A [(o, .inr (6, [.int (nI 0), .ref xv, .ref xo, .ref xn, .ref xc, .ref xb, .ref xd, .ref xq, .ref xa, .ref xk, .ref xt, .ref xh, .ref xs, .ref xS, .ref xw, .ref xW, .ref xB, .ref xM, .long jf, .long js, .int jb, .long nf, .long ns, .int nb, .ref xf, .ref xg, .ref xi]))] := hD
  refine xt_i (y := nI 0) (by rw [hn]; rfl) ?_
  refine lv_if_ne (tgt := 14) hx hb dMO_count_9 (by decide) (fun h => absurd (rfl) h) (fun _ => ?_)
  refine lv_iconst (v := (-1)) hx hb dMO_count_12 (by decide) ?_
  have hP : va_P (dC, dI) vwCl [(o, .inr (6, [.int (nI 0), .ref xv, .ref xo, .ref xn, .ref xc, .ref xb, .ref xd, .ref xq, .ref xa, .ref xk, .ref xt, .ref xh, .ref xs, .ref xS, .ref xw, .ref xW, .ref xB, .ref xM, .long jf, .long js, .int jb, .long nf, .long ns, .int nb, .ref xf, .ref xg, .ref xi]))] H := hP
  have hD : va_D A [(o, .inr (6, [.int (nI 0), .ref xv, .ref xo, .ref xn, .ref xc, .ref xb, .ref xd, .ref xq, .ref xa, .ref xk, .ref xt, .ref xh, .ref xs, .ref xS, .ref xw, .ref xW, .ref xB, .ref xM, .long jf, .long js, .int jb, .long nf, .long ns, .int nb, .ref xf, .ref xg, .ref xi]))] := hD
  subst hQ
  exact W.iret (v := (-1)) hx hb hr (fun t ht hW => ⟨⟨(-1), (), rfl, rfl, by rw [ht]; exact hP, va_K.moved hW.alike hK, hD⟩, hS.F ht⟩) hS.2.2 dMO_count_13
set_option maxHeartbeats 4000000 in
set_option maxRecDepth 100000 in
theorem c_MO_count_o (l : Launch) (dC : Nat → ClassId) (dI : Nat → Nat → Nat) (sz : Nat) (o xv xo xn xc xb xd xq xa xk xt xh xs xS xw xW xB xM xf xg xi : Nat) (th : Int32) (jf js : Int64) (jb : Int32) (nf ns : Int64) (nb : Int32) (k : Nat) (y : Int32) (hk : k < 2) (hy : bs_ii y 8 = false) : Met l yMO_count wsMO_count { frames := 6, cells := 0, slots := 0, locals := 148 } (va_Pc [.ref o, .int (nI k), .int y] (fun U => U.heap.size = sz ∧ va_P (dC, dI) vwCl [(o, .inr (6, [.int th, .ref xv, .ref xo, .ref xn, .ref xc, .ref xb, .ref xd, .ref xq, .ref xa, .ref xk, .ref xt, .ref xh, .ref xs, .ref xS, .ref xw, .ref xW, .ref xB, .ref xM, .long jf, .long js, .int jb, .long nf, .long ns, .int nb, .ref xf, .ref xg, .ref xi]))] U.heap ∧ va_K (dC, dI) vwCl [] U ∧ va_D (fun _ => True) [(o, .inr (6, [.int th, .ref xv, .ref xo, .ref xn, .ref xc, .ref xb, .ref xd, .ref xq, .ref xa, .ref xk, .ref xt, .ref xh, .ref xs, .ref xS, .ref xw, .ref xW, .ref xB, .ref xM, .long jf, .long js, .int jb, .long nf, .long ns, .int nb, .ref xf, .ref xg, .ref xi]))])) (va_Qi (fun (r : Int32) (_ : Unit) => r = (-1)) (fun (_ : Unit) t => va_P (dC, dI) vwCl [(o, .inr (6, [.int (nI 0), .ref xv, .ref xo, .ref xn, .ref xc, .ref xb, .ref xd, .ref xq, .ref xa, .ref xk, .ref xt, .ref xh, .ref xs, .ref xS, .ref xw, .ref xW, .ref xB, .ref xM, .long jf, .long js, .int jb, .long nf, .long ns, .int nb, .ref xf, .ref xg, .ref xi]))] t.heap ∧ va_K (dC, dI) vwCl [] t ∧ va_D (va_A [(o, .inr (6, [.int th, .ref xv, .ref xo, .ref xn, .ref xc, .ref xb, .ref xd, .ref xq, .ref xa, .ref xk, .ref xt, .ref xh, .ref xs, .ref xS, .ref xw, .ref xW, .ref xB, .ref xM, .long jf, .long js, .int jb, .long nf, .long ns, .int nb, .ref xf, .ref xg, .ref xi]))] sz) [(o, .inr (6, [.int (nI 0), .ref xv, .ref xo, .ref xn, .ref xc, .ref xb, .ref xd, .ref xq, .ref xa, .ref xk, .ref xt, .ref xh, .ref xs, .ref xS, .ref xw, .ref xW, .ref xB, .ref xM, .long jf, .long js, .int jb, .long nf, .long ns, .int nb, .ref xf, .ref xg, .ref xi]))]) (va_A [(o, .inr (6, [.int th, .ref xv, .ref xo, .ref xn, .ref xc, .ref xb, .ref xd, .ref xq, .ref xa, .ref xk, .ref xt, .ref xh, .ref xs, .ref xS, .ref xw, .ref xW, .ref xB, .ref xM, .long jf, .long js, .int jb, .long nf, .long ns, .int nb, .ref xf, .ref xg, .ref xi]))] sz)) 0 0 (va_A [(o, .inr (6, [.int th, .ref xv, .ref xo, .ref xn, .ref xc, .ref xb, .ref xd, .ref xq, .ref xa, .ref xk, .ref xt, .ref xh, .ref xs, .ref xS, .ref xw, .ref xW, .ref xB, .ref xM, .long jf, .long js, .int jb, .long nf, .long ns, .int nb, .ref xf, .ref xg, .ref xi]))] sz) := by
  refine Met.ofW (cc := cMO_count) (maxL := 3) (ret := (some .int)) (by decide) rfl ?_
  intro p e s m args below meth c s₁ Bo9 hml hv
  obtain ⟨rfl, hsz, hP, hK, hD0⟩ := hv
  have hx := Bo9.exec
  have hb := Bo9.bytes
  have hr := Bo9.returns
  have hts := fun w (h : w ∈ wT) => atoms_spec (ws := wsMO_count) Bo9.pre w (List.mem_cons_of_mem _ h)
  have hown : s.vm.findClass RMO = some m.cls := findClass_of_methodNamed Bo9.named
  have hlocks := Bo9.notSynchronized
  subst hsz
  have hD := hD0.self (sz := s.heap.size)
  generalize hAe : va_A [(o, .inr (6, [.int th, .ref xv, .ref xo, .ref xn, .ref xc, .ref xb, .ref xd, .ref xq, .ref xa, .ref xk, .ref xt, .ref xh, .ref xs, .ref xS, .ref xw, .ref xW, .ref xB, .ref xM, .long jf, .long js, .int jb, .long nf, .long ns, .int nb, .ref xf, .ref xg, .ref xi]))] s.heap.size = A at hD ⊢
  have hA : ∀ q : Nat, s.heap.size ≤ q → A q := fun q h => by rw [← hAe]; exact Or.inr h
  have hl := lv_entry ([.ref o, .int (nI k), .int y]) (n := 3) (Nat.le_of_ble_eq_true rfl)
  rw [lg_entry_eq]
  generalize (lg_sl ([.ref o, .int (nI k), .int y]) ++ List.replicate (3 - (lg_sl ([.ref o, .int (nI k), .int y])).length) Slot.unset).toArray = ls at hl ⊢
  have hl : lv_has ls 3 [(0, .ref o), (1, .int (nI k)), (2, .int y)] := hl
  refine xs_q (fun H Q hH hQ => ?_)
  have hS : va_S A s.heap H [] := by rw [hH]; exact va_S.rf
  have hP : va_P (dC, dI) vwCl [(o, .inr (6, [.int th, .ref xv, .ref xo, .ref xn, .ref xc, .ref xb, .ref xd, .ref xq, .ref xa, .ref xk, .ref xt, .ref xh, .ref xs, .ref xS, .ref xw, .ref xW, .ref xB, .ref xM, .long jf, .long js, .int jb, .long nf, .long ns, .int nb, .ref xf, .ref xg, .ref xi]))] H := by rw [hH]; exact hP
  refine lv_aload_n hx hb dMO_count_0 rfl (lv_at hl 0 rfl) ?_
  refine lv_iconst (v := nI 0) hx hb dMO_count_1 (by decide) ?_
  refine va_put (D := (dC, dI)) (ci := 6) (v := .int (nI 0)) (ty := .int) (C := RMO) (T := TMO) (N := 27) hx hb hts in_MO tyMO tyMO_ok nmMO hown hK hP hD hS 0 rfl rfl 0 (by decide) (hts _ w_f_MO_87) (fun _ h9 => h9) rfl (by decide +kernel) (rfl) (rfl) (Nat.le_of_ble_eq_true rfl) dMO_count_2 (fun H locs hP hD hS => ?_)
  have hP : va_P (dC, dI) vwCl [(o, .inr (6, [.int (nI 0), .ref xv, .ref xo, .ref xn, .ref xc, .ref xb, .ref xd, .ref xq, .ref xa, .ref xk, .ref xt, .ref xh, .ref xs, .ref xS, .ref xw, .ref xW, .ref xB, .ref xM, .long jf, .long js, .int jb, .long nf, .long ns, .int nb, .ref xf, .ref xg, .ref xi]))] H := hP
  have hD : va_D A [(o, .inr (6, [.int (nI 0), .ref xv, .ref xo, .ref xn, .ref xc, .ref xb, .ref xd, .ref xq, .ref xa, .ref xk, .ref xt, .ref xh, .ref xs, .ref xS, .ref xw, .ref xW, .ref xB, .ref xM, .long jf, .long js, .int jb, .long nf, .long ns, .int nb, .ref xf, .ref xg, .ref xi]))] := hD
  refine lv_iload_n hx hb dMO_count_5 rfl (lv_at hl 1 rfl) ?_
  have hs9 : bs_ii (nI k) 2 = true := bs_ii_n hk (by omega)
  have hPc := hP.sub (ws' := []) [] rfl
  have hDc := hD.sub (ws' := []) [] (by decide) rfl
  have hKc := hK.sub (tys' := []) [] rfl
  have hFc := va_free (wc := []) hD hS hA [] rfl
  refine va_calli (va_runS (As := [.int (nI k)]) (rest := []) ⟨hx, hb, hml, hown, hts⟩ (c_MO_isServer l dC dI H.size (nI k)) (va_cwS 1 hts (wT_3 w_m_MO_164 w_t_MO_isServer w_n_MO w_c_MO_isServer) rfl rfl rfl (by decide +kernel) ⟨Nat.le_of_ble_eq_true rfl, Nat.le_of_ble_eq_true rfl⟩) ⟨fun a U g mk q => by obtain ⟨q0, q1, qP, qK, qD⟩ := q; exact ⟨q0, q1, qP, va_K.moved (u := U) (U := U.calling g mk a) (Vm.Alike.refl U.vm) qK, qD⟩, fun U hU hW => ⟨rfl, by rw [hU], by rw [hU]; exact hPc, va_K.moved hW.alike hKc, hDc.weaken (fun _ _ _ _ => trivial)⟩⟩ rfl rfl hl.1 rfl (lv_room (Nat.le_of_ble_eq_true rfl)) dMO_count_6 ⟨Nat.zero_le _, Nat.zero_le _⟩) hS (fun q _ h => hFc q h) hFc (fun r u t H1 locs ht hvm hw hB hz1 hk1 hS => ?_)
  obtain ⟨hP1, hK1, hD1⟩ := hB
  rw [ht] at hP1
  have hK1 := va_K.moved hvm.symm hK1
  have hw : r = bs_z (bs_ii (nI k) 2) := hw
  subst hw
  obtain ⟨hP, hD⟩ := va_join (wr := [(o, .inr (6, [.int (nI 0), .ref xv, .ref xo, .ref xn, .ref xc, .ref xb, .ref xd, .ref xq, .ref xa, .ref xk, .ref xt, .ref xh, .ref xs, .ref xS, .ref xw, .ref xW, .ref xB, .ref xM, .long jf, .long js, .int jb, .long nf, .long ns, .int nb, .ref xf, .ref xg, .ref xi]))]) (w1 := []) hP hD [] [0] rfl rfl (by decide) (by decide) hk1 hFc hP1 hD1
  generalize H1 = H at hP hS ⊢
  have hP : va_P (dC, dI) vwCl [(o, .inr (6, [.int (nI 0), .ref xv, .ref xo, .ref xn, .ref xc, .ref xb, .ref xd, .ref xq, .ref xa, .ref xk, .ref xt, .ref xh, .ref xs, .ref xS, .ref xw, .ref xW, .ref xB, .ref xM, .long jf, .long js, .int jb, .long nf, .long ns, .int nb, .ref xf, .ref xg, .ref xi]))] H := hP
  have hD : va_D A [(o, .inr (6, [.int (nI 0), .ref xv, .ref xo, .ref xn, .ref xc, .ref xb, .ref xd, .ref xq, .ref xa, .ref xk, .ref xt, .ref xh, .ref xs, .ref xS, .ref xw, .ref xW, .ref xB, .ref xM, .long jf, .long js, .int jb, .long nf, .long ns, .int nb, .ref xf, .ref xg, .ref xi]))] := hD
  refine xt_i (y := nI 1) (by rw [hs9]; rfl) ?_
  refine lv_if_ne (tgt := 14) hx hb dMO_count_9 (by decide) (fun _ => ?_) (fun h => absurd h (by decide +kernel))
  refine lv_iload_n hx hb dMO_count_14 rfl (lv_at hl 2 rfl) ?_
  refine xs_sw (off := 126) (tgt := 141) hx hb dMO_count_15 (Or.inr ⟨bs_sw_o hy, rfl⟩) (by decide) ?_
  refine lv_iconst (v := (-1)) hx hb dMO_count_141 (by decide) ?_
  have hP : va_P (dC, dI) vwCl [(o, .inr (6, [.int (nI 0), .ref xv, .ref xo, .ref xn, .ref xc, .ref xb, .ref xd, .ref xq, .ref xa, .ref xk, .ref xt, .ref xh, .ref xs, .ref xS, .ref xw, .ref xW, .ref xB, .ref xM, .long jf, .long js, .int jb, .long nf, .long ns, .int nb, .ref xf, .ref xg, .ref xi]))] H := hP
  have hD : va_D A [(o, .inr (6, [.int (nI 0), .ref xv, .ref xo, .ref xn, .ref xc, .ref xb, .ref xd, .ref xq, .ref xa, .ref xk, .ref xt, .ref xh, .ref xs, .ref xS, .ref xw, .ref xW, .ref xB, .ref xM, .long jf, .long js, .int jb, .long nf, .long ns, .int nb, .ref xf, .ref xg, .ref xi]))] := hD
  subst hQ
  exact W.iret (v := (-1)) hx hb hr (fun t ht hW => ⟨⟨(-1), (), rfl, rfl, by rw [ht]; exact hP, va_K.moved hW.alike hK, hD⟩, hS.F ht⟩) hS.2.2 dMO_count_142
set_option maxHeartbeats 4000000 in
set_option maxRecDepth 100000 in
theorem c_MO_count_0 (l : Launch) (dC : Nat → ClassId) (dI : Nat → Nat → Nat) (sz : Nat) (o xv xo xn xc xb xd xq xa xk xt xh xs xS xw xW xB xM xf xg xi : Nat) (th : Int32) (jf js : Int64) (jb : Int32) (nf ns : Int64) (nb : Int32) (cI : ClassId) (nv : Nat → Int32) (k : Nat) (hk : k < 2) : Met l yMO_count wsMO_count { frames := 6, cells := 0, slots := 0, locals := 148 } (va_Pc [.ref o, .int (nI k), .int (nI 0)] (fun U => U.heap.size = sz ∧ va_P (dC, dI) vwCl [(o, .inr (6, [.int th, .ref xv, .ref xo, .ref xn, .ref xc, .ref xb, .ref xd, .ref xq, .ref xa, .ref xk, .ref xt, .ref xh, .ref xs, .ref xS, .ref xw, .ref xW, .ref xB, .ref xM, .long jf, .long js, .int jb, .long nf, .long ns, .int nb, .ref xf, .ref xg, .ref xi])), (xn, .inl (cI, 2, .inl nv))] U.heap ∧ va_K (dC, dI) vwCl [(cI, .int)] U ∧ va_D (fun _ => True) [(o, .inr (6, [.int th, .ref xv, .ref xo, .ref xn, .ref xc, .ref xb, .ref xd, .ref xq, .ref xa, .ref xk, .ref xt, .ref xh, .ref xs, .ref xS, .ref xw, .ref xW, .ref xB, .ref xM, .long jf, .long js, .int jb, .long nf, .long ns, .int nb, .ref xf, .ref xg, .ref xi])), (xn, .inl (cI, 2, .inl nv))])) (va_Qi (fun (r : Int32) (_ : Unit) => r = nv k) (fun (_ : Unit) t => va_P (dC, dI) vwCl [(o, .inr (6, [.int (nI 0), .ref xv, .ref xo, .ref xn, .ref xc, .ref xb, .ref xd, .ref xq, .ref xa, .ref xk, .ref xt, .ref xh, .ref xs, .ref xS, .ref xw, .ref xW, .ref xB, .ref xM, .long jf, .long js, .int jb, .long nf, .long ns, .int nb, .ref xf, .ref xg, .ref xi])), (xn, .inl (cI, 2, .inl nv))] t.heap ∧ va_K (dC, dI) vwCl [(cI, .int)] t ∧ va_D (va_A [(o, .inr (6, [.int th, .ref xv, .ref xo, .ref xn, .ref xc, .ref xb, .ref xd, .ref xq, .ref xa, .ref xk, .ref xt, .ref xh, .ref xs, .ref xS, .ref xw, .ref xW, .ref xB, .ref xM, .long jf, .long js, .int jb, .long nf, .long ns, .int nb, .ref xf, .ref xg, .ref xi])), (xn, .inl (cI, 2, .inl nv))] sz) [(o, .inr (6, [.int (nI 0), .ref xv, .ref xo, .ref xn, .ref xc, .ref xb, .ref xd, .ref xq, .ref xa, .ref xk, .ref xt, .ref xh, .ref xs, .ref xS, .ref xw, .ref xW, .ref xB, .ref xM, .long jf, .long js, .int jb, .long nf, .long ns, .int nb, .ref xf, .ref xg, .ref xi])), (xn, .inl (cI, 2, .inl nv))]) (va_A [(o, .inr (6, [.int th, .ref xv, .ref xo, .ref xn, .ref xc, .ref xb, .ref xd, .ref xq, .ref xa, .ref xk, .ref xt, .ref xh, .ref xs, .ref xS, .ref xw, .ref xW, .ref xB, .ref xM, .long jf, .long js, .int jb, .long nf, .long ns, .int nb, .ref xf, .ref xg, .ref xi])), (xn, .inl (cI, 2, .inl nv))] sz)) 0 0 (va_A [(o, .inr (6, [.int th, .ref xv, .ref xo, .ref xn, .ref xc, .ref xb, .ref xd, .ref xq, .ref xa, .ref xk, .ref xt, .ref xh, .ref xs, .ref xS, .ref xw, .ref xW, .ref xB, .ref xM, .long jf, .long js, .int jb, .long nf, .long ns, .int nb, .ref xf, .ref xg, .ref xi])), (xn, .inl (cI, 2, .inl nv))] sz) := by
  refine Met.ofW (cc := cMO_count) (maxL := 3) (ret := (some .int)) (by decide) rfl ?_
  intro p e s m args below meth c s₁ Bo9 hml hv
  obtain ⟨rfl, hsz, hP, hK, hD0⟩ := hv
  have hx := Bo9.exec
  have hb := Bo9.bytes
  have hr := Bo9.returns
  have hts := fun w (h : w ∈ wT) => atoms_spec (ws := wsMO_count) Bo9.pre w (List.mem_cons_of_mem _ h)
  have hown : s.vm.findClass RMO = some m.cls := findClass_of_methodNamed Bo9.named
  have hlocks := Bo9.notSynchronized
  subst hsz
  have hD := hD0.self (sz := s.heap.size)
  generalize hAe : va_A [(o, .inr (6, [.int th, .ref xv, .ref xo, .ref xn, .ref xc, .ref xb, .ref xd, .ref xq, .ref xa, .ref xk, .ref xt, .ref xh, .ref xs, .ref xS, .ref xw, .ref xW, .ref xB, .ref xM, .long jf, .long js, .int jb, .long nf, .long ns, .int nb, .ref xf, .ref xg, .ref xi])), (xn, .inl (cI, 2, .inl nv))] s.heap.size = A at hD ⊢
  have hA : ∀ q : Nat, s.heap.size ≤ q → A q := fun q h => by rw [← hAe]; exact Or.inr h
  have hl := lv_entry ([.ref o, .int (nI k), .int (nI 0)]) (n := 3) (Nat.le_of_ble_eq_true rfl)
  rw [lg_entry_eq]
  generalize (lg_sl ([.ref o, .int (nI k), .int (nI 0)]) ++ List.replicate (3 - (lg_sl ([.ref o, .int (nI k), .int (nI 0)])).length) Slot.unset).toArray = ls at hl ⊢
  have hl : lv_has ls 3 [(0, .ref o), (1, .int (nI k)), (2, .int (nI 0))] := hl
  refine xs_q (fun H Q hH hQ => ?_)
  have hS : va_S A s.heap H [] := by rw [hH]; exact va_S.rf
  have hP : va_P (dC, dI) vwCl [(o, .inr (6, [.int th, .ref xv, .ref xo, .ref xn, .ref xc, .ref xb, .ref xd, .ref xq, .ref xa, .ref xk, .ref xt, .ref xh, .ref xs, .ref xS, .ref xw, .ref xW, .ref xB, .ref xM, .long jf, .long js, .int jb, .long nf, .long ns, .int nb, .ref xf, .ref xg, .ref xi])), (xn, .inl (cI, 2, .inl nv))] H := by rw [hH]; exact hP
  refine lv_aload_n hx hb dMO_count_0 rfl (lv_at hl 0 rfl) ?_
  refine lv_iconst (v := nI 0) hx hb dMO_count_1 (by decide) ?_
  refine va_put (D := (dC, dI)) (ci := 6) (v := .int (nI 0)) (ty := .int) (C := RMO) (T := TMO) (N := 27) hx hb hts in_MO tyMO tyMO_ok nmMO hown hK hP hD hS 0 rfl rfl 0 (by decide) (hts _ w_f_MO_87) (fun _ h9 => h9) rfl (by decide +kernel) (rfl) (rfl) (Nat.le_of_ble_eq_true rfl) dMO_count_2 (fun H locs hP hD hS => ?_)
  have hP : va_P (dC, dI) vwCl [(o, .inr (6, [.int (nI 0), .ref xv, .ref xo, .ref xn, .ref xc, .ref xb, .ref xd, .ref xq, .ref xa, .ref xk, .ref xt, .ref xh, .ref xs, .ref xS, .ref xw, .ref xW, .ref xB, .ref xM, .long jf, .long js, .int jb, .long nf, .long ns, .int nb, .ref xf, .ref xg, .ref xi])), (xn, .inl (cI, 2, .inl nv))] H := hP
  have hD : va_D A [(o, .inr (6, [.int (nI 0), .ref xv, .ref xo, .ref xn, .ref xc, .ref xb, .ref xd, .ref xq, .ref xa, .ref xk, .ref xt, .ref xh, .ref xs, .ref xS, .ref xw, .ref xW, .ref xB, .ref xM, .long jf, .long js, .int jb, .long nf, .long ns, .int nb, .ref xf, .ref xg, .ref xi])), (xn, .inl (cI, 2, .inl nv))] := hD
  refine lv_iload_n hx hb dMO_count_5 rfl (lv_at hl 1 rfl) ?_
  have hs9 : bs_ii (nI k) 2 = true := bs_ii_n hk (by omega)
  have hPc := hP.sub (ws' := []) [] rfl
  have hDc := hD.sub (ws' := []) [] (by decide) rfl
  have hKc := hK.sub (tys' := []) [] rfl
  have hFc := va_free (wc := []) hD hS hA [] rfl
  refine va_calli (va_runS (As := [.int (nI k)]) (rest := []) ⟨hx, hb, hml, hown, hts⟩ (c_MO_isServer l dC dI H.size (nI k)) (va_cwS 1 hts (wT_3 w_m_MO_164 w_t_MO_isServer w_n_MO w_c_MO_isServer) rfl rfl rfl (by decide +kernel) ⟨Nat.le_of_ble_eq_true rfl, Nat.le_of_ble_eq_true rfl⟩) ⟨fun a U g mk q => by obtain ⟨q0, q1, qP, qK, qD⟩ := q; exact ⟨q0, q1, qP, va_K.moved (u := U) (U := U.calling g mk a) (Vm.Alike.refl U.vm) qK, qD⟩, fun U hU hW => ⟨rfl, by rw [hU], by rw [hU]; exact hPc, va_K.moved hW.alike hKc, hDc.weaken (fun _ _ _ _ => trivial)⟩⟩ rfl rfl hl.1 rfl (lv_room (Nat.le_of_ble_eq_true rfl)) dMO_count_6 ⟨Nat.zero_le _, Nat.zero_le _⟩) hS (fun q _ h => hFc q h) hFc (fun r u t H1 locs ht hvm hw hB hz1 hk1 hS => ?_)
  obtain ⟨hP1, hK1, hD1⟩ := hB
  rw [ht] at hP1
  have hK1 := va_K.moved hvm.symm hK1
  have hw : r = bs_z (bs_ii (nI k) 2) := hw
  subst hw
  obtain ⟨hP, hD⟩ := va_join (wr := [(o, .inr (6, [.int (nI 0), .ref xv, .ref xo, .ref xn, .ref xc, .ref xb, .ref xd, .ref xq, .ref xa, .ref xk, .ref xt, .ref xh, .ref xs, .ref xS, .ref xw, .ref xW, .ref xB, .ref xM, .long jf, .long js, .int jb, .long nf, .long ns, .int nb, .ref xf, .ref xg, .ref xi])), (xn, .inl (cI, 2, .inl nv))]) (w1 := []) hP hD [] [0, 1] rfl rfl (by decide) (by decide) hk1 hFc hP1 hD1
  generalize H1 = H at hP hS ⊢
  have hP : va_P (dC, dI) vwCl [(o, .inr (6, [.int (nI 0), .ref xv, .ref xo, .ref xn, .ref xc, .ref xb, .ref xd, .ref xq, .ref xa, .ref xk, .ref xt, .ref xh, .ref xs, .ref xS, .ref xw, .ref xW, .ref xB, .ref xM, .long jf, .long js, .int jb, .long nf, .long ns, .int nb, .ref xf, .ref xg, .ref xi])), (xn, .inl (cI, 2, .inl nv))] H := hP
  have hD : va_D A [(o, .inr (6, [.int (nI 0), .ref xv, .ref xo, .ref xn, .ref xc, .ref xb, .ref xd, .ref xq, .ref xa, .ref xk, .ref xt, .ref xh, .ref xs, .ref xS, .ref xw, .ref xW, .ref xB, .ref xM, .long jf, .long js, .int jb, .long nf, .long ns, .int nb, .ref xf, .ref xg, .ref xi])), (xn, .inl (cI, 2, .inl nv))] := hD
  refine xt_i (y := nI 1) (by rw [hs9]; rfl) ?_
  refine lv_if_ne (tgt := 14) hx hb dMO_count_9 (by decide) (fun _ => ?_) (fun h => absurd h (by decide +kernel))
  refine lv_iload_n hx hb dMO_count_14 rfl (lv_at hl 2 rfl) ?_
  refine xs_sw (off := 45) (tgt := 60) hx hb dMO_count_15 (Or.inl ⟨by decide +kernel, by decide +kernel⟩) (by decide) ?_
  refine lv_aload_n hx hb dMO_count_60 rfl (lv_at hl 0 rfl) ?_
  refine va_get (D := (dC, dI)) (ci := 6) (v := .ref xn) (C := RMO) (T := TMO) (N := 27) hx hb hts in_MO hown hK hP 0 rfl rfl 3 (by decide) (hts _ w_f_MO_16) (fun _ h9 => h9) rfl dMO_count_61 ?_
  refine lv_iload_n hx hb dMO_count_64 rfl (lv_at hl 1 rfl) ?_
  refine xa_iald hx hb hK hP 1 0 rfl rfl k (by omega) (by decide) dMO_count_65 ?_
  have hP : va_P (dC, dI) vwCl [(o, .inr (6, [.int (nI 0), .ref xv, .ref xo, .ref xn, .ref xc, .ref xb, .ref xd, .ref xq, .ref xa, .ref xk, .ref xt, .ref xh, .ref xs, .ref xS, .ref xw, .ref xW, .ref xB, .ref xM, .long jf, .long js, .int jb, .long nf, .long ns, .int nb, .ref xf, .ref xg, .ref xi])), (xn, .inl (cI, 2, .inl nv))] H := hP
  have hD : va_D A [(o, .inr (6, [.int (nI 0), .ref xv, .ref xo, .ref xn, .ref xc, .ref xb, .ref xd, .ref xq, .ref xa, .ref xk, .ref xt, .ref xh, .ref xs, .ref xS, .ref xw, .ref xW, .ref xB, .ref xM, .long jf, .long js, .int jb, .long nf, .long ns, .int nb, .ref xf, .ref xg, .ref xi])), (xn, .inl (cI, 2, .inl nv))] := hD
  subst hQ
  exact W.iret (v := nv k) hx hb hr (fun t ht hW => ⟨⟨nv k, (), rfl, rfl, by rw [ht]; exact hP, va_K.moved hW.alike hK, hD⟩, hS.F ht⟩) hS.2.2 dMO_count_66
set_option maxHeartbeats 4000000 in
set_option maxRecDepth 100000 in
theorem c_MO_count_3 (l : Launch) (dC : Nat → ClassId) (dI : Nat → Nat → Nat) (sz : Nat) (o xv xo xn xc xb xd xq xa xk xt xh xs xS xw xW xB xM xf xg xi : Nat) (th : Int32) (jf js : Int64) (jb : Int32) (nf ns : Int64) (nb : Int32) (cI : ClassId) (fc : Nat → Int32) (k : Nat) (hk : k < 2) : Met l yMO_count wsMO_count { frames := 6, cells := 0, slots := 0, locals := 148 } (va_Pc [.ref o, .int (nI k), .int (nI 3)] (fun U => U.heap.size = sz ∧ va_P (dC, dI) vwCl [(o, .inr (6, [.int th, .ref xv, .ref xo, .ref xn, .ref xc, .ref xb, .ref xd, .ref xq, .ref xa, .ref xk, .ref xt, .ref xh, .ref xs, .ref xS, .ref xw, .ref xW, .ref xB, .ref xM, .long jf, .long js, .int jb, .long nf, .long ns, .int nb, .ref xf, .ref xg, .ref xi])), (xc, .inl (cI, 2, .inl fc))] U.heap ∧ va_K (dC, dI) vwCl [(cI, .int)] U ∧ va_D (fun _ => True) [(o, .inr (6, [.int th, .ref xv, .ref xo, .ref xn, .ref xc, .ref xb, .ref xd, .ref xq, .ref xa, .ref xk, .ref xt, .ref xh, .ref xs, .ref xS, .ref xw, .ref xW, .ref xB, .ref xM, .long jf, .long js, .int jb, .long nf, .long ns, .int nb, .ref xf, .ref xg, .ref xi])), (xc, .inl (cI, 2, .inl fc))])) (va_Qi (fun (r : Int32) (_ : Unit) => r = fc k) (fun (_ : Unit) t => va_P (dC, dI) vwCl [(o, .inr (6, [.int (nI 0), .ref xv, .ref xo, .ref xn, .ref xc, .ref xb, .ref xd, .ref xq, .ref xa, .ref xk, .ref xt, .ref xh, .ref xs, .ref xS, .ref xw, .ref xW, .ref xB, .ref xM, .long jf, .long js, .int jb, .long nf, .long ns, .int nb, .ref xf, .ref xg, .ref xi])), (xc, .inl (cI, 2, .inl fc))] t.heap ∧ va_K (dC, dI) vwCl [(cI, .int)] t ∧ va_D (va_A [(o, .inr (6, [.int th, .ref xv, .ref xo, .ref xn, .ref xc, .ref xb, .ref xd, .ref xq, .ref xa, .ref xk, .ref xt, .ref xh, .ref xs, .ref xS, .ref xw, .ref xW, .ref xB, .ref xM, .long jf, .long js, .int jb, .long nf, .long ns, .int nb, .ref xf, .ref xg, .ref xi])), (xc, .inl (cI, 2, .inl fc))] sz) [(o, .inr (6, [.int (nI 0), .ref xv, .ref xo, .ref xn, .ref xc, .ref xb, .ref xd, .ref xq, .ref xa, .ref xk, .ref xt, .ref xh, .ref xs, .ref xS, .ref xw, .ref xW, .ref xB, .ref xM, .long jf, .long js, .int jb, .long nf, .long ns, .int nb, .ref xf, .ref xg, .ref xi])), (xc, .inl (cI, 2, .inl fc))]) (va_A [(o, .inr (6, [.int th, .ref xv, .ref xo, .ref xn, .ref xc, .ref xb, .ref xd, .ref xq, .ref xa, .ref xk, .ref xt, .ref xh, .ref xs, .ref xS, .ref xw, .ref xW, .ref xB, .ref xM, .long jf, .long js, .int jb, .long nf, .long ns, .int nb, .ref xf, .ref xg, .ref xi])), (xc, .inl (cI, 2, .inl fc))] sz)) 0 0 (va_A [(o, .inr (6, [.int th, .ref xv, .ref xo, .ref xn, .ref xc, .ref xb, .ref xd, .ref xq, .ref xa, .ref xk, .ref xt, .ref xh, .ref xs, .ref xS, .ref xw, .ref xW, .ref xB, .ref xM, .long jf, .long js, .int jb, .long nf, .long ns, .int nb, .ref xf, .ref xg, .ref xi])), (xc, .inl (cI, 2, .inl fc))] sz) := by
  refine Met.ofW (cc := cMO_count) (maxL := 3) (ret := (some .int)) (by decide) rfl ?_
  intro p e s m args below meth c s₁ Bo9 hml hv
  obtain ⟨rfl, hsz, hP, hK, hD0⟩ := hv
  have hx := Bo9.exec
  have hb := Bo9.bytes
  have hr := Bo9.returns
  have hts := fun w (h : w ∈ wT) => atoms_spec (ws := wsMO_count) Bo9.pre w (List.mem_cons_of_mem _ h)
  have hown : s.vm.findClass RMO = some m.cls := findClass_of_methodNamed Bo9.named
  have hlocks := Bo9.notSynchronized
  subst hsz
  have hD := hD0.self (sz := s.heap.size)
  generalize hAe : va_A [(o, .inr (6, [.int th, .ref xv, .ref xo, .ref xn, .ref xc, .ref xb, .ref xd, .ref xq, .ref xa, .ref xk, .ref xt, .ref xh, .ref xs, .ref xS, .ref xw, .ref xW, .ref xB, .ref xM, .long jf, .long js, .int jb, .long nf, .long ns, .int nb, .ref xf, .ref xg, .ref xi])), (xc, .inl (cI, 2, .inl fc))] s.heap.size = A at hD ⊢
  have hA : ∀ q : Nat, s.heap.size ≤ q → A q := fun q h => by rw [← hAe]; exact Or.inr h
  have hl := lv_entry ([.ref o, .int (nI k), .int (nI 3)]) (n := 3) (Nat.le_of_ble_eq_true rfl)
  rw [lg_entry_eq]
  generalize (lg_sl ([.ref o, .int (nI k), .int (nI 3)]) ++ List.replicate (3 - (lg_sl ([.ref o, .int (nI k), .int (nI 3)])).length) Slot.unset).toArray = ls at hl ⊢
  have hl : lv_has ls 3 [(0, .ref o), (1, .int (nI k)), (2, .int (nI 3))] := hl
  refine xs_q (fun H Q hH hQ => ?_)
  have hS : va_S A s.heap H [] := by rw [hH]; exact va_S.rf
  have hP : va_P (dC, dI) vwCl [(o, .inr (6, [.int th, .ref xv, .ref xo, .ref xn, .ref xc, .ref xb, .ref xd, .ref xq, .ref xa, .ref xk, .ref xt, .ref xh, .ref xs, .ref xS, .ref xw, .ref xW, .ref xB, .ref xM, .long jf, .long js, .int jb, .long nf, .long ns, .int nb, .ref xf, .ref xg, .ref xi])), (xc, .inl (cI, 2, .inl fc))] H := by rw [hH]; exact hP
  refine lv_aload_n hx hb dMO_count_0 rfl (lv_at hl 0 rfl) ?_
  refine lv_iconst (v := nI 0) hx hb dMO_count_1 (by decide) ?_
  refine va_put (D := (dC, dI)) (ci := 6) (v := .int (nI 0)) (ty := .int) (C := RMO) (T := TMO) (N := 27) hx hb hts in_MO tyMO tyMO_ok nmMO hown hK hP hD hS 0 rfl rfl 0 (by decide) (hts _ w_f_MO_87) (fun _ h9 => h9) rfl (by decide +kernel) (rfl) (rfl) (Nat.le_of_ble_eq_true rfl) dMO_count_2 (fun H locs hP hD hS => ?_)
  have hP : va_P (dC, dI) vwCl [(o, .inr (6, [.int (nI 0), .ref xv, .ref xo, .ref xn, .ref xc, .ref xb, .ref xd, .ref xq, .ref xa, .ref xk, .ref xt, .ref xh, .ref xs, .ref xS, .ref xw, .ref xW, .ref xB, .ref xM, .long jf, .long js, .int jb, .long nf, .long ns, .int nb, .ref xf, .ref xg, .ref xi])), (xc, .inl (cI, 2, .inl fc))] H := hP
  have hD : va_D A [(o, .inr (6, [.int (nI 0), .ref xv, .ref xo, .ref xn, .ref xc, .ref xb, .ref xd, .ref xq, .ref xa, .ref xk, .ref xt, .ref xh, .ref xs, .ref xS, .ref xw, .ref xW, .ref xB, .ref xM, .long jf, .long js, .int jb, .long nf, .long ns, .int nb, .ref xf, .ref xg, .ref xi])), (xc, .inl (cI, 2, .inl fc))] := hD
  refine lv_iload_n hx hb dMO_count_5 rfl (lv_at hl 1 rfl) ?_
  have hs9 : bs_ii (nI k) 2 = true := bs_ii_n hk (by omega)
  have hPc := hP.sub (ws' := []) [] rfl
  have hDc := hD.sub (ws' := []) [] (by decide) rfl
  have hKc := hK.sub (tys' := []) [] rfl
  have hFc := va_free (wc := []) hD hS hA [] rfl
  refine va_calli (va_runS (As := [.int (nI k)]) (rest := []) ⟨hx, hb, hml, hown, hts⟩ (c_MO_isServer l dC dI H.size (nI k)) (va_cwS 1 hts (wT_3 w_m_MO_164 w_t_MO_isServer w_n_MO w_c_MO_isServer) rfl rfl rfl (by decide +kernel) ⟨Nat.le_of_ble_eq_true rfl, Nat.le_of_ble_eq_true rfl⟩) ⟨fun a U g mk q => by obtain ⟨q0, q1, qP, qK, qD⟩ := q; exact ⟨q0, q1, qP, va_K.moved (u := U) (U := U.calling g mk a) (Vm.Alike.refl U.vm) qK, qD⟩, fun U hU hW => ⟨rfl, by rw [hU], by rw [hU]; exact hPc, va_K.moved hW.alike hKc, hDc.weaken (fun _ _ _ _ => trivial)⟩⟩ rfl rfl hl.1 rfl (lv_room (Nat.le_of_ble_eq_true rfl)) dMO_count_6 ⟨Nat.zero_le _, Nat.zero_le _⟩) hS (fun q _ h => hFc q h) hFc (fun r u t H1 locs ht hvm hw hB hz1 hk1 hS => ?_)
  obtain ⟨hP1, hK1, hD1⟩ := hB
  rw [ht] at hP1
  have hK1 := va_K.moved hvm.symm hK1
  have hw : r = bs_z (bs_ii (nI k) 2) := hw
  subst hw
  obtain ⟨hP, hD⟩ := va_join (wr := [(o, .inr (6, [.int (nI 0), .ref xv, .ref xo, .ref xn, .ref xc, .ref xb, .ref xd, .ref xq, .ref xa, .ref xk, .ref xt, .ref xh, .ref xs, .ref xS, .ref xw, .ref xW, .ref xB, .ref xM, .long jf, .long js, .int jb, .long nf, .long ns, .int nb, .ref xf, .ref xg, .ref xi])), (xc, .inl (cI, 2, .inl fc))]) (w1 := []) hP hD [] [0, 1] rfl rfl (by decide) (by decide) hk1 hFc hP1 hD1
  generalize H1 = H at hP hS ⊢
  have hP : va_P (dC, dI) vwCl [(o, .inr (6, [.int (nI 0), .ref xv, .ref xo, .ref xn, .ref xc, .ref xb, .ref xd, .ref xq, .ref xa, .ref xk, .ref xt, .ref xh, .ref xs, .ref xS, .ref xw, .ref xW, .ref xB, .ref xM, .long jf, .long js, .int jb, .long nf, .long ns, .int nb, .ref xf, .ref xg, .ref xi])), (xc, .inl (cI, 2, .inl fc))] H := hP
  have hD : va_D A [(o, .inr (6, [.int (nI 0), .ref xv, .ref xo, .ref xn, .ref xc, .ref xb, .ref xd, .ref xq, .ref xa, .ref xk, .ref xt, .ref xh, .ref xs, .ref xS, .ref xw, .ref xW, .ref xB, .ref xM, .long jf, .long js, .int jb, .long nf, .long ns, .int nb, .ref xf, .ref xg, .ref xi])), (xc, .inl (cI, 2, .inl fc))] := hD
  refine xt_i (y := nI 1) (by rw [hs9]; rfl) ?_
  refine lv_if_ne (tgt := 14) hx hb dMO_count_9 (by decide) (fun _ => ?_) (fun h => absurd h (by decide +kernel))
  refine lv_iload_n hx hb dMO_count_14 rfl (lv_at hl 2 rfl) ?_
  refine xs_sw (off := 85) (tgt := 100) hx hb dMO_count_15 (Or.inl ⟨by decide +kernel, by decide +kernel⟩) (by decide) ?_
  refine lv_aload_n hx hb dMO_count_100 rfl (lv_at hl 0 rfl) ?_
  refine va_get (D := (dC, dI)) (ci := 6) (v := .ref xc) (C := RMO) (T := TMO) (N := 27) hx hb hts in_MO hown hK hP 0 rfl rfl 4 (by decide) (hts _ w_f_MO_20) (fun _ h9 => h9) rfl dMO_count_101 ?_
  refine lv_iload_n hx hb dMO_count_104 rfl (lv_at hl 1 rfl) ?_
  refine xa_iald hx hb hK hP 1 0 rfl rfl k (by omega) (by decide) dMO_count_105 ?_
  have hP : va_P (dC, dI) vwCl [(o, .inr (6, [.int (nI 0), .ref xv, .ref xo, .ref xn, .ref xc, .ref xb, .ref xd, .ref xq, .ref xa, .ref xk, .ref xt, .ref xh, .ref xs, .ref xS, .ref xw, .ref xW, .ref xB, .ref xM, .long jf, .long js, .int jb, .long nf, .long ns, .int nb, .ref xf, .ref xg, .ref xi])), (xc, .inl (cI, 2, .inl fc))] H := hP
  have hD : va_D A [(o, .inr (6, [.int (nI 0), .ref xv, .ref xo, .ref xn, .ref xc, .ref xb, .ref xd, .ref xq, .ref xa, .ref xk, .ref xt, .ref xh, .ref xs, .ref xS, .ref xw, .ref xW, .ref xB, .ref xM, .long jf, .long js, .int jb, .long nf, .long ns, .int nb, .ref xf, .ref xg, .ref xi])), (xc, .inl (cI, 2, .inl fc))] := hD
  subst hQ
  exact W.iret (v := fc k) hx hb hr (fun t ht hW => ⟨⟨fc k, (), rfl, rfl, by rw [ht]; exact hP, va_K.moved hW.alike hK, hD⟩, hS.F ht⟩) hS.2.2 dMO_count_106
set_option maxHeartbeats 4000000 in
set_option maxRecDepth 100000 in
theorem c_MO_count_4 (l : Launch) (dC : Nat → ClassId) (dI : Nat → Nat → Nat) (sz : Nat) (o xv xo xn xc xb xd xq xa xk xt xh xs xS xw xW xB xM xf xg xi : Nat) (th : Int32) (jf js : Int64) (jb : Int32) (nf ns : Int64) (nb : Int32) (cI : ClassId) (fd : Nat → Int32) (k : Nat) (hk : k < 2) : Met l yMO_count wsMO_count { frames := 6, cells := 0, slots := 0, locals := 148 } (va_Pc [.ref o, .int (nI k), .int (nI 4)] (fun U => U.heap.size = sz ∧ va_P (dC, dI) vwCl [(o, .inr (6, [.int th, .ref xv, .ref xo, .ref xn, .ref xc, .ref xb, .ref xd, .ref xq, .ref xa, .ref xk, .ref xt, .ref xh, .ref xs, .ref xS, .ref xw, .ref xW, .ref xB, .ref xM, .long jf, .long js, .int jb, .long nf, .long ns, .int nb, .ref xf, .ref xg, .ref xi])), (xd, .inl (cI, 2, .inl fd))] U.heap ∧ va_K (dC, dI) vwCl [(cI, .int)] U ∧ va_D (fun _ => True) [(o, .inr (6, [.int th, .ref xv, .ref xo, .ref xn, .ref xc, .ref xb, .ref xd, .ref xq, .ref xa, .ref xk, .ref xt, .ref xh, .ref xs, .ref xS, .ref xw, .ref xW, .ref xB, .ref xM, .long jf, .long js, .int jb, .long nf, .long ns, .int nb, .ref xf, .ref xg, .ref xi])), (xd, .inl (cI, 2, .inl fd))])) (va_Qi (fun (r : Int32) (_ : Unit) => r = fd k) (fun (_ : Unit) t => va_P (dC, dI) vwCl [(o, .inr (6, [.int (nI 0), .ref xv, .ref xo, .ref xn, .ref xc, .ref xb, .ref xd, .ref xq, .ref xa, .ref xk, .ref xt, .ref xh, .ref xs, .ref xS, .ref xw, .ref xW, .ref xB, .ref xM, .long jf, .long js, .int jb, .long nf, .long ns, .int nb, .ref xf, .ref xg, .ref xi])), (xd, .inl (cI, 2, .inl fd))] t.heap ∧ va_K (dC, dI) vwCl [(cI, .int)] t ∧ va_D (va_A [(o, .inr (6, [.int th, .ref xv, .ref xo, .ref xn, .ref xc, .ref xb, .ref xd, .ref xq, .ref xa, .ref xk, .ref xt, .ref xh, .ref xs, .ref xS, .ref xw, .ref xW, .ref xB, .ref xM, .long jf, .long js, .int jb, .long nf, .long ns, .int nb, .ref xf, .ref xg, .ref xi])), (xd, .inl (cI, 2, .inl fd))] sz) [(o, .inr (6, [.int (nI 0), .ref xv, .ref xo, .ref xn, .ref xc, .ref xb, .ref xd, .ref xq, .ref xa, .ref xk, .ref xt, .ref xh, .ref xs, .ref xS, .ref xw, .ref xW, .ref xB, .ref xM, .long jf, .long js, .int jb, .long nf, .long ns, .int nb, .ref xf, .ref xg, .ref xi])), (xd, .inl (cI, 2, .inl fd))]) (va_A [(o, .inr (6, [.int th, .ref xv, .ref xo, .ref xn, .ref xc, .ref xb, .ref xd, .ref xq, .ref xa, .ref xk, .ref xt, .ref xh, .ref xs, .ref xS, .ref xw, .ref xW, .ref xB, .ref xM, .long jf, .long js, .int jb, .long nf, .long ns, .int nb, .ref xf, .ref xg, .ref xi])), (xd, .inl (cI, 2, .inl fd))] sz)) 0 0 (va_A [(o, .inr (6, [.int th, .ref xv, .ref xo, .ref xn, .ref xc, .ref xb, .ref xd, .ref xq, .ref xa, .ref xk, .ref xt, .ref xh, .ref xs, .ref xS, .ref xw, .ref xW, .ref xB, .ref xM, .long jf, .long js, .int jb, .long nf, .long ns, .int nb, .ref xf, .ref xg, .ref xi])), (xd, .inl (cI, 2, .inl fd))] sz) := by
  refine Met.ofW (cc := cMO_count) (maxL := 3) (ret := (some .int)) (by decide) rfl ?_
  intro p e s m args below meth c s₁ Bo9 hml hv
  obtain ⟨rfl, hsz, hP, hK, hD0⟩ := hv
  have hx := Bo9.exec
  have hb := Bo9.bytes
  have hr := Bo9.returns
  have hts := fun w (h : w ∈ wT) => atoms_spec (ws := wsMO_count) Bo9.pre w (List.mem_cons_of_mem _ h)
  have hown : s.vm.findClass RMO = some m.cls := findClass_of_methodNamed Bo9.named
  have hlocks := Bo9.notSynchronized
  subst hsz
  have hD := hD0.self (sz := s.heap.size)
  generalize hAe : va_A [(o, .inr (6, [.int th, .ref xv, .ref xo, .ref xn, .ref xc, .ref xb, .ref xd, .ref xq, .ref xa, .ref xk, .ref xt, .ref xh, .ref xs, .ref xS, .ref xw, .ref xW, .ref xB, .ref xM, .long jf, .long js, .int jb, .long nf, .long ns, .int nb, .ref xf, .ref xg, .ref xi])), (xd, .inl (cI, 2, .inl fd))] s.heap.size = A at hD ⊢
  have hA : ∀ q : Nat, s.heap.size ≤ q → A q := fun q h => by rw [← hAe]; exact Or.inr h
  have hl := lv_entry ([.ref o, .int (nI k), .int (nI 4)]) (n := 3) (Nat.le_of_ble_eq_true rfl)
  rw [lg_entry_eq]
  generalize (lg_sl ([.ref o, .int (nI k), .int (nI 4)]) ++ List.replicate (3 - (lg_sl ([.ref o, .int (nI k), .int (nI 4)])).length) Slot.unset).toArray = ls at hl ⊢
  have hl : lv_has ls 3 [(0, .ref o), (1, .int (nI k)), (2, .int (nI 4))] := hl
  refine xs_q (fun H Q hH hQ => ?_)
  have hS : va_S A s.heap H [] := by rw [hH]; exact va_S.rf
  have hP : va_P (dC, dI) vwCl [(o, .inr (6, [.int th, .ref xv, .ref xo, .ref xn, .ref xc, .ref xb, .ref xd, .ref xq, .ref xa, .ref xk, .ref xt, .ref xh, .ref xs, .ref xS, .ref xw, .ref xW, .ref xB, .ref xM, .long jf, .long js, .int jb, .long nf, .long ns, .int nb, .ref xf, .ref xg, .ref xi])), (xd, .inl (cI, 2, .inl fd))] H := by rw [hH]; exact hP
  refine lv_aload_n hx hb dMO_count_0 rfl (lv_at hl 0 rfl) ?_
  refine lv_iconst (v := nI 0) hx hb dMO_count_1 (by decide) ?_
  refine va_put (D := (dC, dI)) (ci := 6) (v := .int (nI 0)) (ty := .int) (C := RMO) (T := TMO) (N := 27) hx hb hts in_MO tyMO tyMO_ok nmMO hown hK hP hD hS 0 rfl rfl 0 (by decide) (hts _ w_f_MO_87) (fun _ h9 => h9) rfl (by decide +kernel) (rfl) (rfl) (Nat.le_of_ble_eq_true rfl) dMO_count_2 (fun H locs hP hD hS => ?_)
  have hP : va_P (dC, dI) vwCl [(o, .inr (6, [.int (nI 0), .ref xv, .ref xo, .ref xn, .ref xc, .ref xb, .ref xd, .ref xq, .ref xa, .ref xk, .ref xt, .ref xh, .ref xs, .ref xS, .ref xw, .ref xW, .ref xB, .ref xM, .long jf, .long js, .int jb, .long nf, .long ns, .int nb, .ref xf, .ref xg, .ref xi])), (xd, .inl (cI, 2, .inl fd))] H := hP
  have hD : va_D A [(o, .inr (6, [.int (nI 0), .ref xv, .ref xo, .ref xn, .ref xc, .ref xb, .ref xd, .ref xq, .ref xa, .ref xk, .ref xt, .ref xh, .ref xs, .ref xS, .ref xw, .ref xW, .ref xB, .ref xM, .long jf, .long js, .int jb, .long nf, .long ns, .int nb, .ref xf, .ref xg, .ref xi])), (xd, .inl (cI, 2, .inl fd))] := hD
  refine lv_iload_n hx hb dMO_count_5 rfl (lv_at hl 1 rfl) ?_
  have hs9 : bs_ii (nI k) 2 = true := bs_ii_n hk (by omega)
  have hPc := hP.sub (ws' := []) [] rfl
  have hDc := hD.sub (ws' := []) [] (by decide) rfl
  have hKc := hK.sub (tys' := []) [] rfl
  have hFc := va_free (wc := []) hD hS hA [] rfl
  refine va_calli (va_runS (As := [.int (nI k)]) (rest := []) ⟨hx, hb, hml, hown, hts⟩ (c_MO_isServer l dC dI H.size (nI k)) (va_cwS 1 hts (wT_3 w_m_MO_164 w_t_MO_isServer w_n_MO w_c_MO_isServer) rfl rfl rfl (by decide +kernel) ⟨Nat.le_of_ble_eq_true rfl, Nat.le_of_ble_eq_true rfl⟩) ⟨fun a U g mk q => by obtain ⟨q0, q1, qP, qK, qD⟩ := q; exact ⟨q0, q1, qP, va_K.moved (u := U) (U := U.calling g mk a) (Vm.Alike.refl U.vm) qK, qD⟩, fun U hU hW => ⟨rfl, by rw [hU], by rw [hU]; exact hPc, va_K.moved hW.alike hKc, hDc.weaken (fun _ _ _ _ => trivial)⟩⟩ rfl rfl hl.1 rfl (lv_room (Nat.le_of_ble_eq_true rfl)) dMO_count_6 ⟨Nat.zero_le _, Nat.zero_le _⟩) hS (fun q _ h => hFc q h) hFc (fun r u t H1 locs ht hvm hw hB hz1 hk1 hS => ?_)
  obtain ⟨hP1, hK1, hD1⟩ := hB
  rw [ht] at hP1
  have hK1 := va_K.moved hvm.symm hK1
  have hw : r = bs_z (bs_ii (nI k) 2) := hw
  subst hw
  obtain ⟨hP, hD⟩ := va_join (wr := [(o, .inr (6, [.int (nI 0), .ref xv, .ref xo, .ref xn, .ref xc, .ref xb, .ref xd, .ref xq, .ref xa, .ref xk, .ref xt, .ref xh, .ref xs, .ref xS, .ref xw, .ref xW, .ref xB, .ref xM, .long jf, .long js, .int jb, .long nf, .long ns, .int nb, .ref xf, .ref xg, .ref xi])), (xd, .inl (cI, 2, .inl fd))]) (w1 := []) hP hD [] [0, 1] rfl rfl (by decide) (by decide) hk1 hFc hP1 hD1
  generalize H1 = H at hP hS ⊢
  have hP : va_P (dC, dI) vwCl [(o, .inr (6, [.int (nI 0), .ref xv, .ref xo, .ref xn, .ref xc, .ref xb, .ref xd, .ref xq, .ref xa, .ref xk, .ref xt, .ref xh, .ref xs, .ref xS, .ref xw, .ref xW, .ref xB, .ref xM, .long jf, .long js, .int jb, .long nf, .long ns, .int nb, .ref xf, .ref xg, .ref xi])), (xd, .inl (cI, 2, .inl fd))] H := hP
  have hD : va_D A [(o, .inr (6, [.int (nI 0), .ref xv, .ref xo, .ref xn, .ref xc, .ref xb, .ref xd, .ref xq, .ref xa, .ref xk, .ref xt, .ref xh, .ref xs, .ref xS, .ref xw, .ref xW, .ref xB, .ref xM, .long jf, .long js, .int jb, .long nf, .long ns, .int nb, .ref xf, .ref xg, .ref xi])), (xd, .inl (cI, 2, .inl fd))] := hD
  refine xt_i (y := nI 1) (by rw [hs9]; rfl) ?_
  refine lv_if_ne (tgt := 14) hx hb dMO_count_9 (by decide) (fun _ => ?_) (fun h => absurd h (by decide +kernel))
  refine lv_iload_n hx hb dMO_count_14 rfl (lv_at hl 2 rfl) ?_
  refine xs_sw (off := 92) (tgt := 107) hx hb dMO_count_15 (Or.inl ⟨by decide +kernel, by decide +kernel⟩) (by decide) ?_
  refine lv_aload_n hx hb dMO_count_107 rfl (lv_at hl 0 rfl) ?_
  refine va_get (D := (dC, dI)) (ci := 6) (v := .ref xd) (C := RMO) (T := TMO) (N := 27) hx hb hts in_MO hown hK hP 0 rfl rfl 6 (by decide) (hts _ w_f_MO_26) (fun _ h9 => h9) rfl dMO_count_108 ?_
  refine lv_iload_n hx hb dMO_count_111 rfl (lv_at hl 1 rfl) ?_
  refine xa_iald hx hb hK hP 1 0 rfl rfl k (by omega) (by decide) dMO_count_112 ?_
  have hP : va_P (dC, dI) vwCl [(o, .inr (6, [.int (nI 0), .ref xv, .ref xo, .ref xn, .ref xc, .ref xb, .ref xd, .ref xq, .ref xa, .ref xk, .ref xt, .ref xh, .ref xs, .ref xS, .ref xw, .ref xW, .ref xB, .ref xM, .long jf, .long js, .int jb, .long nf, .long ns, .int nb, .ref xf, .ref xg, .ref xi])), (xd, .inl (cI, 2, .inl fd))] H := hP
  have hD : va_D A [(o, .inr (6, [.int (nI 0), .ref xv, .ref xo, .ref xn, .ref xc, .ref xb, .ref xd, .ref xq, .ref xa, .ref xk, .ref xt, .ref xh, .ref xs, .ref xS, .ref xw, .ref xW, .ref xB, .ref xM, .long jf, .long js, .int jb, .long nf, .long ns, .int nb, .ref xf, .ref xg, .ref xi])), (xd, .inl (cI, 2, .inl fd))] := hD
  subst hQ
  exact W.iret (v := fd k) hx hb hr (fun t ht hW => ⟨⟨fd k, (), rfl, rfl, by rw [ht]; exact hP, va_K.moved hW.alike hK, hD⟩, hS.F ht⟩) hS.2.2 dMO_count_113
set_option maxHeartbeats 4000000 in
set_option maxRecDepth 100000 in
theorem c_MO_count_5 (l : Launch) (dC : Nat → ClassId) (dI : Nat → Nat → Nat) (sz : Nat) (o xv xo xn xc xb xd xq xa xk xt xh xs xS xw xW xB xM xf xg xi : Nat) (th : Int32) (jf js : Int64) (jb : Int32) (nf ns : Int64) (nb : Int32) (cI : ClassId) (fq : Nat → Int32) (k : Nat) (hk : k < 2) : Met l yMO_count wsMO_count { frames := 6, cells := 0, slots := 0, locals := 148 } (va_Pc [.ref o, .int (nI k), .int (nI 5)] (fun U => U.heap.size = sz ∧ va_P (dC, dI) vwCl [(o, .inr (6, [.int th, .ref xv, .ref xo, .ref xn, .ref xc, .ref xb, .ref xd, .ref xq, .ref xa, .ref xk, .ref xt, .ref xh, .ref xs, .ref xS, .ref xw, .ref xW, .ref xB, .ref xM, .long jf, .long js, .int jb, .long nf, .long ns, .int nb, .ref xf, .ref xg, .ref xi])), (xq, .inl (cI, 2, .inl fq))] U.heap ∧ va_K (dC, dI) vwCl [(cI, .int)] U ∧ va_D (fun _ => True) [(o, .inr (6, [.int th, .ref xv, .ref xo, .ref xn, .ref xc, .ref xb, .ref xd, .ref xq, .ref xa, .ref xk, .ref xt, .ref xh, .ref xs, .ref xS, .ref xw, .ref xW, .ref xB, .ref xM, .long jf, .long js, .int jb, .long nf, .long ns, .int nb, .ref xf, .ref xg, .ref xi])), (xq, .inl (cI, 2, .inl fq))])) (va_Qi (fun (r : Int32) (_ : Unit) => r = fq k) (fun (_ : Unit) t => va_P (dC, dI) vwCl [(o, .inr (6, [.int (nI 0), .ref xv, .ref xo, .ref xn, .ref xc, .ref xb, .ref xd, .ref xq, .ref xa, .ref xk, .ref xt, .ref xh, .ref xs, .ref xS, .ref xw, .ref xW, .ref xB, .ref xM, .long jf, .long js, .int jb, .long nf, .long ns, .int nb, .ref xf, .ref xg, .ref xi])), (xq, .inl (cI, 2, .inl fq))] t.heap ∧ va_K (dC, dI) vwCl [(cI, .int)] t ∧ va_D (va_A [(o, .inr (6, [.int th, .ref xv, .ref xo, .ref xn, .ref xc, .ref xb, .ref xd, .ref xq, .ref xa, .ref xk, .ref xt, .ref xh, .ref xs, .ref xS, .ref xw, .ref xW, .ref xB, .ref xM, .long jf, .long js, .int jb, .long nf, .long ns, .int nb, .ref xf, .ref xg, .ref xi])), (xq, .inl (cI, 2, .inl fq))] sz) [(o, .inr (6, [.int (nI 0), .ref xv, .ref xo, .ref xn, .ref xc, .ref xb, .ref xd, .ref xq, .ref xa, .ref xk, .ref xt, .ref xh, .ref xs, .ref xS, .ref xw, .ref xW, .ref xB, .ref xM, .long jf, .long js, .int jb, .long nf, .long ns, .int nb, .ref xf, .ref xg, .ref xi])), (xq, .inl (cI, 2, .inl fq))]) (va_A [(o, .inr (6, [.int th, .ref xv, .ref xo, .ref xn, .ref xc, .ref xb, .ref xd, .ref xq, .ref xa, .ref xk, .ref xt, .ref xh, .ref xs, .ref xS, .ref xw, .ref xW, .ref xB, .ref xM, .long jf, .long js, .int jb, .long nf, .long ns, .int nb, .ref xf, .ref xg, .ref xi])), (xq, .inl (cI, 2, .inl fq))] sz)) 0 0 (va_A [(o, .inr (6, [.int th, .ref xv, .ref xo, .ref xn, .ref xc, .ref xb, .ref xd, .ref xq, .ref xa, .ref xk, .ref xt, .ref xh, .ref xs, .ref xS, .ref xw, .ref xW, .ref xB, .ref xM, .long jf, .long js, .int jb, .long nf, .long ns, .int nb, .ref xf, .ref xg, .ref xi])), (xq, .inl (cI, 2, .inl fq))] sz) := by
  refine Met.ofW (cc := cMO_count) (maxL := 3) (ret := (some .int)) (by decide) rfl ?_
  intro p e s m args below meth c s₁ Bo9 hml hv
  obtain ⟨rfl, hsz, hP, hK, hD0⟩ := hv
  have hx := Bo9.exec
  have hb := Bo9.bytes
  have hr := Bo9.returns
  have hts := fun w (h : w ∈ wT) => atoms_spec (ws := wsMO_count) Bo9.pre w (List.mem_cons_of_mem _ h)
  have hown : s.vm.findClass RMO = some m.cls := findClass_of_methodNamed Bo9.named
  have hlocks := Bo9.notSynchronized
  subst hsz
  have hD := hD0.self (sz := s.heap.size)
  generalize hAe : va_A [(o, .inr (6, [.int th, .ref xv, .ref xo, .ref xn, .ref xc, .ref xb, .ref xd, .ref xq, .ref xa, .ref xk, .ref xt, .ref xh, .ref xs, .ref xS, .ref xw, .ref xW, .ref xB, .ref xM, .long jf, .long js, .int jb, .long nf, .long ns, .int nb, .ref xf, .ref xg, .ref xi])), (xq, .inl (cI, 2, .inl fq))] s.heap.size = A at hD ⊢
  have hA : ∀ q : Nat, s.heap.size ≤ q → A q := fun q h => by rw [← hAe]; exact Or.inr h
  have hl := lv_entry ([.ref o, .int (nI k), .int (nI 5)]) (n := 3) (Nat.le_of_ble_eq_true rfl)
  rw [lg_entry_eq]
  generalize (lg_sl ([.ref o, .int (nI k), .int (nI 5)]) ++ List.replicate (3 - (lg_sl ([.ref o, .int (nI k), .int (nI 5)])).length) Slot.unset).toArray = ls at hl ⊢
  have hl : lv_has ls 3 [(0, .ref o), (1, .int (nI k)), (2, .int (nI 5))] := hl
  refine xs_q (fun H Q hH hQ => ?_)
  have hS : va_S A s.heap H [] := by rw [hH]; exact va_S.rf
  have hP : va_P (dC, dI) vwCl [(o, .inr (6, [.int th, .ref xv, .ref xo, .ref xn, .ref xc, .ref xb, .ref xd, .ref xq, .ref xa, .ref xk, .ref xt, .ref xh, .ref xs, .ref xS, .ref xw, .ref xW, .ref xB, .ref xM, .long jf, .long js, .int jb, .long nf, .long ns, .int nb, .ref xf, .ref xg, .ref xi])), (xq, .inl (cI, 2, .inl fq))] H := by rw [hH]; exact hP
  refine lv_aload_n hx hb dMO_count_0 rfl (lv_at hl 0 rfl) ?_
  refine lv_iconst (v := nI 0) hx hb dMO_count_1 (by decide) ?_
  refine va_put (D := (dC, dI)) (ci := 6) (v := .int (nI 0)) (ty := .int) (C := RMO) (T := TMO) (N := 27) hx hb hts in_MO tyMO tyMO_ok nmMO hown hK hP hD hS 0 rfl rfl 0 (by decide) (hts _ w_f_MO_87) (fun _ h9 => h9) rfl (by decide +kernel) (rfl) (rfl) (Nat.le_of_ble_eq_true rfl) dMO_count_2 (fun H locs hP hD hS => ?_)
  have hP : va_P (dC, dI) vwCl [(o, .inr (6, [.int (nI 0), .ref xv, .ref xo, .ref xn, .ref xc, .ref xb, .ref xd, .ref xq, .ref xa, .ref xk, .ref xt, .ref xh, .ref xs, .ref xS, .ref xw, .ref xW, .ref xB, .ref xM, .long jf, .long js, .int jb, .long nf, .long ns, .int nb, .ref xf, .ref xg, .ref xi])), (xq, .inl (cI, 2, .inl fq))] H := hP
  have hD : va_D A [(o, .inr (6, [.int (nI 0), .ref xv, .ref xo, .ref xn, .ref xc, .ref xb, .ref xd, .ref xq, .ref xa, .ref xk, .ref xt, .ref xh, .ref xs, .ref xS, .ref xw, .ref xW, .ref xB, .ref xM, .long jf, .long js, .int jb, .long nf, .long ns, .int nb, .ref xf, .ref xg, .ref xi])), (xq, .inl (cI, 2, .inl fq))] := hD
  refine lv_iload_n hx hb dMO_count_5 rfl (lv_at hl 1 rfl) ?_
  have hs9 : bs_ii (nI k) 2 = true := bs_ii_n hk (by omega)
  have hPc := hP.sub (ws' := []) [] rfl
  have hDc := hD.sub (ws' := []) [] (by decide) rfl
  have hKc := hK.sub (tys' := []) [] rfl
  have hFc := va_free (wc := []) hD hS hA [] rfl
  refine va_calli (va_runS (As := [.int (nI k)]) (rest := []) ⟨hx, hb, hml, hown, hts⟩ (c_MO_isServer l dC dI H.size (nI k)) (va_cwS 1 hts (wT_3 w_m_MO_164 w_t_MO_isServer w_n_MO w_c_MO_isServer) rfl rfl rfl (by decide +kernel) ⟨Nat.le_of_ble_eq_true rfl, Nat.le_of_ble_eq_true rfl⟩) ⟨fun a U g mk q => by obtain ⟨q0, q1, qP, qK, qD⟩ := q; exact ⟨q0, q1, qP, va_K.moved (u := U) (U := U.calling g mk a) (Vm.Alike.refl U.vm) qK, qD⟩, fun U hU hW => ⟨rfl, by rw [hU], by rw [hU]; exact hPc, va_K.moved hW.alike hKc, hDc.weaken (fun _ _ _ _ => trivial)⟩⟩ rfl rfl hl.1 rfl (lv_room (Nat.le_of_ble_eq_true rfl)) dMO_count_6 ⟨Nat.zero_le _, Nat.zero_le _⟩) hS (fun q _ h => hFc q h) hFc (fun r u t H1 locs ht hvm hw hB hz1 hk1 hS => ?_)
  obtain ⟨hP1, hK1, hD1⟩ := hB
  rw [ht] at hP1
  have hK1 := va_K.moved hvm.symm hK1
  have hw : r = bs_z (bs_ii (nI k) 2) := hw
  subst hw
  obtain ⟨hP, hD⟩ := va_join (wr := [(o, .inr (6, [.int (nI 0), .ref xv, .ref xo, .ref xn, .ref xc, .ref xb, .ref xd, .ref xq, .ref xa, .ref xk, .ref xt, .ref xh, .ref xs, .ref xS, .ref xw, .ref xW, .ref xB, .ref xM, .long jf, .long js, .int jb, .long nf, .long ns, .int nb, .ref xf, .ref xg, .ref xi])), (xq, .inl (cI, 2, .inl fq))]) (w1 := []) hP hD [] [0, 1] rfl rfl (by decide) (by decide) hk1 hFc hP1 hD1
  generalize H1 = H at hP hS ⊢
  have hP : va_P (dC, dI) vwCl [(o, .inr (6, [.int (nI 0), .ref xv, .ref xo, .ref xn, .ref xc, .ref xb, .ref xd, .ref xq, .ref xa, .ref xk, .ref xt, .ref xh, .ref xs, .ref xS, .ref xw, .ref xW, .ref xB, .ref xM, .long jf, .long js, .int jb, .long nf, .long ns, .int nb, .ref xf, .ref xg, .ref xi])), (xq, .inl (cI, 2, .inl fq))] H := hP
  have hD : va_D A [(o, .inr (6, [.int (nI 0), .ref xv, .ref xo, .ref xn, .ref xc, .ref xb, .ref xd, .ref xq, .ref xa, .ref xk, .ref xt, .ref xh, .ref xs, .ref xS, .ref xw, .ref xW, .ref xB, .ref xM, .long jf, .long js, .int jb, .long nf, .long ns, .int nb, .ref xf, .ref xg, .ref xi])), (xq, .inl (cI, 2, .inl fq))] := hD
  refine xt_i (y := nI 1) (by rw [hs9]; rfl) ?_
  refine lv_if_ne (tgt := 14) hx hb dMO_count_9 (by decide) (fun _ => ?_) (fun h => absurd h (by decide +kernel))
  refine lv_iload_n hx hb dMO_count_14 rfl (lv_at hl 2 rfl) ?_
  refine xs_sw (off := 99) (tgt := 114) hx hb dMO_count_15 (Or.inl ⟨by decide +kernel, by decide +kernel⟩) (by decide) ?_
  refine lv_aload_n hx hb dMO_count_114 rfl (lv_at hl 0 rfl) ?_
  refine va_get (D := (dC, dI)) (ci := 6) (v := .ref xq) (C := RMO) (T := TMO) (N := 27) hx hb hts in_MO hown hK hP 0 rfl rfl 7 (by decide) (hts _ w_f_MO_29) (fun _ h9 => h9) rfl dMO_count_115 ?_
  refine lv_iload_n hx hb dMO_count_118 rfl (lv_at hl 1 rfl) ?_
  refine xa_iald hx hb hK hP 1 0 rfl rfl k (by omega) (by decide) dMO_count_119 ?_
  have hP : va_P (dC, dI) vwCl [(o, .inr (6, [.int (nI 0), .ref xv, .ref xo, .ref xn, .ref xc, .ref xb, .ref xd, .ref xq, .ref xa, .ref xk, .ref xt, .ref xh, .ref xs, .ref xS, .ref xw, .ref xW, .ref xB, .ref xM, .long jf, .long js, .int jb, .long nf, .long ns, .int nb, .ref xf, .ref xg, .ref xi])), (xq, .inl (cI, 2, .inl fq))] H := hP
  have hD : va_D A [(o, .inr (6, [.int (nI 0), .ref xv, .ref xo, .ref xn, .ref xc, .ref xb, .ref xd, .ref xq, .ref xa, .ref xk, .ref xt, .ref xh, .ref xs, .ref xS, .ref xw, .ref xW, .ref xB, .ref xM, .long jf, .long js, .int jb, .long nf, .long ns, .int nb, .ref xf, .ref xg, .ref xi])), (xq, .inl (cI, 2, .inl fq))] := hD
  subst hQ
  exact W.iret (v := fq k) hx hb hr (fun t ht hW => ⟨⟨fq k, (), rfl, rfl, by rw [ht]; exact hP, va_K.moved hW.alike hK, hD⟩, hS.F ht⟩) hS.2.2 dMO_count_120
set_option maxHeartbeats 4000000 in
set_option maxRecDepth 100000 in
theorem c_MO_count_1 (l : Launch) (dC : Nat → ClassId) (dI : Nat → Nat → Nat) (sz : Nat) (o xv xo xn xc xb xd xq xa xk xt xh xs xS xw xW xB xM xf xg xi : Nat) (th : Int32) (jf js : Int64) (jb : Int32) (nf ns : Int64) (nb : Int32) (cI : ClassId) (nv : Nat → Int32) (k v : Nat) (hk : k < 2) (hv : v < 2 ^ 30) (hn : nv k = nI v) : Met l yMO_count wsMO_count { frames := 6, cells := 0, slots := 0, locals := 148 } (va_Pc [.ref o, .int (nI k), .int (nI 1)] (fun U => U.heap.size = sz ∧ va_P (dC, dI) vwCl [(o, .inr (6, [.int th, .ref xv, .ref xo, .ref xn, .ref xc, .ref xb, .ref xd, .ref xq, .ref xa, .ref xk, .ref xt, .ref xh, .ref xs, .ref xS, .ref xw, .ref xW, .ref xB, .ref xM, .long jf, .long js, .int jb, .long nf, .long ns, .int nb, .ref xf, .ref xg, .ref xi])), (xn, .inl (cI, 2, .inl nv))] U.heap ∧ va_K (dC, dI) vwCl [(cI, .int)] U ∧ va_D (fun _ => True) [(o, .inr (6, [.int th, .ref xv, .ref xo, .ref xn, .ref xc, .ref xb, .ref xd, .ref xq, .ref xa, .ref xk, .ref xt, .ref xh, .ref xs, .ref xS, .ref xw, .ref xW, .ref xB, .ref xM, .long jf, .long js, .int jb, .long nf, .long ns, .int nb, .ref xf, .ref xg, .ref xi])), (xn, .inl (cI, 2, .inl nv))])) (va_Qi (fun (r : Int32) (_ : Unit) => r = nI (v - 8)) (fun (_ : Unit) t => va_P (dC, dI) vwCl [(o, .inr (6, [.int (nI 0), .ref xv, .ref xo, .ref xn, .ref xc, .ref xb, .ref xd, .ref xq, .ref xa, .ref xk, .ref xt, .ref xh, .ref xs, .ref xS, .ref xw, .ref xW, .ref xB, .ref xM, .long jf, .long js, .int jb, .long nf, .long ns, .int nb, .ref xf, .ref xg, .ref xi])), (xn, .inl (cI, 2, .inl nv))] t.heap ∧ va_K (dC, dI) vwCl [(cI, .int)] t ∧ va_D (va_A [(o, .inr (6, [.int th, .ref xv, .ref xo, .ref xn, .ref xc, .ref xb, .ref xd, .ref xq, .ref xa, .ref xk, .ref xt, .ref xh, .ref xs, .ref xS, .ref xw, .ref xW, .ref xB, .ref xM, .long jf, .long js, .int jb, .long nf, .long ns, .int nb, .ref xf, .ref xg, .ref xi])), (xn, .inl (cI, 2, .inl nv))] sz) [(o, .inr (6, [.int (nI 0), .ref xv, .ref xo, .ref xn, .ref xc, .ref xb, .ref xd, .ref xq, .ref xa, .ref xk, .ref xt, .ref xh, .ref xs, .ref xS, .ref xw, .ref xW, .ref xB, .ref xM, .long jf, .long js, .int jb, .long nf, .long ns, .int nb, .ref xf, .ref xg, .ref xi])), (xn, .inl (cI, 2, .inl nv))]) (va_A [(o, .inr (6, [.int th, .ref xv, .ref xo, .ref xn, .ref xc, .ref xb, .ref xd, .ref xq, .ref xa, .ref xk, .ref xt, .ref xh, .ref xs, .ref xS, .ref xw, .ref xW, .ref xB, .ref xM, .long jf, .long js, .int jb, .long nf, .long ns, .int nb, .ref xf, .ref xg, .ref xi])), (xn, .inl (cI, 2, .inl nv))] sz)) 0 0 (va_A [(o, .inr (6, [.int th, .ref xv, .ref xo, .ref xn, .ref xc, .ref xb, .ref xd, .ref xq, .ref xa, .ref xk, .ref xt, .ref xh, .ref xs, .ref xS, .ref xw, .ref xW, .ref xB, .ref xM, .long jf, .long js, .int jb, .long nf, .long ns, .int nb, .ref xf, .ref xg, .ref xi])), (xn, .inl (cI, 2, .inl nv))] sz) := by
  refine Met.ofW (cc := cMO_count) (maxL := 3) (ret := (some .int)) (by decide) rfl ?_
  intro p e s m args below meth c s₁ Bo9 hml hv
  obtain ⟨rfl, hsz, hP, hK, hD0⟩ := hv
  have hx := Bo9.exec
  have hb := Bo9.bytes
  have hr := Bo9.returns
  have hts := fun w (h : w ∈ wT) => atoms_spec (ws := wsMO_count) Bo9.pre w (List.mem_cons_of_mem _ h)
  have hown : s.vm.findClass RMO = some m.cls := findClass_of_methodNamed Bo9.named
  have hlocks := Bo9.notSynchronized
  subst hsz
  have hD := hD0.self (sz := s.heap.size)
  generalize hAe : va_A [(o, .inr (6, [.int th, .ref xv, .ref xo, .ref xn, .ref xc, .ref xb, .ref xd, .ref xq, .ref xa, .ref xk, .ref xt, .ref xh, .ref xs, .ref xS, .ref xw, .ref xW, .ref xB, .ref xM, .long jf, .long js, .int jb, .long nf, .long ns, .int nb, .ref xf, .ref xg, .ref xi])), (xn, .inl (cI, 2, .inl nv))] s.heap.size = A at hD ⊢
  have hA : ∀ q : Nat, s.heap.size ≤ q → A q := fun q h => by rw [← hAe]; exact Or.inr h
  have hl := lv_entry ([.ref o, .int (nI k), .int (nI 1)]) (n := 3) (Nat.le_of_ble_eq_true rfl)
  rw [lg_entry_eq]
  generalize (lg_sl ([.ref o, .int (nI k), .int (nI 1)]) ++ List.replicate (3 - (lg_sl ([.ref o, .int (nI k), .int (nI 1)])).length) Slot.unset).toArray = ls at hl ⊢
  have hl : lv_has ls 3 [(0, .ref o), (1, .int (nI k)), (2, .int (nI 1))] := hl
  refine xs_q (fun H Q hH hQ => ?_)
  have hS : va_S A s.heap H [] := by rw [hH]; exact va_S.rf
  have hP : va_P (dC, dI) vwCl [(o, .inr (6, [.int th, .ref xv, .ref xo, .ref xn, .ref xc, .ref xb, .ref xd, .ref xq, .ref xa, .ref xk, .ref xt, .ref xh, .ref xs, .ref xS, .ref xw, .ref xW, .ref xB, .ref xM, .long jf, .long js, .int jb, .long nf, .long ns, .int nb, .ref xf, .ref xg, .ref xi])), (xn, .inl (cI, 2, .inl nv))] H := by rw [hH]; exact hP
  refine lv_aload_n hx hb dMO_count_0 rfl (lv_at hl 0 rfl) ?_
  refine lv_iconst (v := nI 0) hx hb dMO_count_1 (by decide) ?_
  refine va_put (D := (dC, dI)) (ci := 6) (v := .int (nI 0)) (ty := .int) (C := RMO) (T := TMO) (N := 27) hx hb hts in_MO tyMO tyMO_ok nmMO hown hK hP hD hS 0 rfl rfl 0 (by decide) (hts _ w_f_MO_87) (fun _ h9 => h9) rfl (by decide +kernel) (rfl) (rfl) (Nat.le_of_ble_eq_true rfl) dMO_count_2 (fun H locs hP hD hS => ?_)
  have hP : va_P (dC, dI) vwCl [(o, .inr (6, [.int (nI 0), .ref xv, .ref xo, .ref xn, .ref xc, .ref xb, .ref xd, .ref xq, .ref xa, .ref xk, .ref xt, .ref xh, .ref xs, .ref xS, .ref xw, .ref xW, .ref xB, .ref xM, .long jf, .long js, .int jb, .long nf, .long ns, .int nb, .ref xf, .ref xg, .ref xi])), (xn, .inl (cI, 2, .inl nv))] H := hP
  have hD : va_D A [(o, .inr (6, [.int (nI 0), .ref xv, .ref xo, .ref xn, .ref xc, .ref xb, .ref xd, .ref xq, .ref xa, .ref xk, .ref xt, .ref xh, .ref xs, .ref xS, .ref xw, .ref xW, .ref xB, .ref xM, .long jf, .long js, .int jb, .long nf, .long ns, .int nb, .ref xf, .ref xg, .ref xi])), (xn, .inl (cI, 2, .inl nv))] := hD
  refine lv_iload_n hx hb dMO_count_5 rfl (lv_at hl 1 rfl) ?_
  have hs9 : bs_ii (nI k) 2 = true := bs_ii_n hk (by omega)
  have hPc := hP.sub (ws' := []) [] rfl
  have hDc := hD.sub (ws' := []) [] (by decide) rfl
  have hKc := hK.sub (tys' := []) [] rfl
  have hFc := va_free (wc := []) hD hS hA [] rfl
  refine va_calli (va_runS (As := [.int (nI k)]) (rest := []) ⟨hx, hb, hml, hown, hts⟩ (c_MO_isServer l dC dI H.size (nI k)) (va_cwS 1 hts (wT_3 w_m_MO_164 w_t_MO_isServer w_n_MO w_c_MO_isServer) rfl rfl rfl (by decide +kernel) ⟨Nat.le_of_ble_eq_true rfl, Nat.le_of_ble_eq_true rfl⟩) ⟨fun a U g mk q => by obtain ⟨q0, q1, qP, qK, qD⟩ := q; exact ⟨q0, q1, qP, va_K.moved (u := U) (U := U.calling g mk a) (Vm.Alike.refl U.vm) qK, qD⟩, fun U hU hW => ⟨rfl, by rw [hU], by rw [hU]; exact hPc, va_K.moved hW.alike hKc, hDc.weaken (fun _ _ _ _ => trivial)⟩⟩ rfl rfl hl.1 rfl (lv_room (Nat.le_of_ble_eq_true rfl)) dMO_count_6 ⟨Nat.zero_le _, Nat.zero_le _⟩) hS (fun q _ h => hFc q h) hFc (fun r u t H1 locs ht hvm hw hB hz1 hk1 hS => ?_)
  obtain ⟨hP1, hK1, hD1⟩ := hB
  rw [ht] at hP1
  have hK1 := va_K.moved hvm.symm hK1
  have hw : r = bs_z (bs_ii (nI k) 2) := hw
  subst hw
  obtain ⟨hP, hD⟩ := va_join (wr := [(o, .inr (6, [.int (nI 0), .ref xv, .ref xo, .ref xn, .ref xc, .ref xb, .ref xd, .ref xq, .ref xa, .ref xk, .ref xt, .ref xh, .ref xs, .ref xS, .ref xw, .ref xW, .ref xB, .ref xM, .long jf, .long js, .int jb, .long nf, .long ns, .int nb, .ref xf, .ref xg, .ref xi])), (xn, .inl (cI, 2, .inl nv))]) (w1 := []) hP hD [] [0, 1] rfl rfl (by decide) (by decide) hk1 hFc hP1 hD1
  generalize H1 = H at hP hS ⊢
  have hP : va_P (dC, dI) vwCl [(o, .inr (6, [.int (nI 0), .ref xv, .ref xo, .ref xn, .ref xc, .ref xb, .ref xd, .ref xq, .ref xa, .ref xk, .ref xt, .ref xh, .ref xs, .ref xS, .ref xw, .ref xW, .ref xB, .ref xM, .long jf, .long js, .int jb, .long nf, .long ns, .int nb, .ref xf, .ref xg, .ref xi])), (xn, .inl (cI, 2, .inl nv))] H := hP
  have hD : va_D A [(o, .inr (6, [.int (nI 0), .ref xv, .ref xo, .ref xn, .ref xc, .ref xb, .ref xd, .ref xq, .ref xa, .ref xk, .ref xt, .ref xh, .ref xs, .ref xS, .ref xw, .ref xW, .ref xB, .ref xM, .long jf, .long js, .int jb, .long nf, .long ns, .int nb, .ref xf, .ref xg, .ref xi])), (xn, .inl (cI, 2, .inl nv))] := hD
  refine xt_i (y := nI 1) (by rw [hs9]; rfl) ?_
  refine lv_if_ne (tgt := 14) hx hb dMO_count_9 (by decide) (fun _ => ?_) (fun h => absurd h (by decide +kernel))
  refine lv_iload_n hx hb dMO_count_14 rfl (lv_at hl 2 rfl) ?_
  refine xs_sw (off := 52) (tgt := 67) hx hb dMO_count_15 (Or.inl ⟨by decide +kernel, by decide +kernel⟩) (by decide) ?_
  refine lv_aload_n hx hb dMO_count_67 rfl (lv_at hl 0 rfl) ?_
  refine va_get (D := (dC, dI)) (ci := 6) (v := .ref xn) (C := RMO) (T := TMO) (N := 27) hx hb hts in_MO hown hK hP 0 rfl rfl 3 (by decide) (hts _ w_f_MO_16) (fun _ h9 => h9) rfl dMO_count_68 ?_
  refine lv_iload_n hx hb dMO_count_71 rfl (lv_at hl 1 rfl) ?_
  refine xa_iald hx hb hK hP 1 0 rfl rfl k (by omega) (by decide) dMO_count_72 ?_
  refine xt_i (y := nI v) (hn) ?_
  refine lv_bipush (v := nI 9) hx hb dMO_count_73 (by decide) ?_
  refine lv_icmp_ge (tgt := 82) hx hb dMO_count_75 (by decide) (fun hc => ?_) (fun hc => ?_)
  · rw [nI_leI (by decide) (by omega)] at hc
    refine lv_aload_n hx hb dMO_count_82 rfl (lv_at hl 0 rfl) ?_
    refine va_get (D := (dC, dI)) (ci := 6) (v := .ref xn) (C := RMO) (T := TMO) (N := 27) hx hb hts in_MO hown hK hP 0 rfl rfl 3 (by decide) (hts _ w_f_MO_16) (fun _ h9 => h9) rfl dMO_count_83 ?_
    refine lv_iload_n hx hb dMO_count_86 rfl (lv_at hl 1 rfl) ?_
    refine xa_iald hx hb hK hP 1 0 rfl rfl k (by omega) (by decide) dMO_count_87 ?_
    refine xt_i (y := nI v) (hn) ?_
    refine lv_bipush (v := nI 9) hx hb dMO_count_88 (by decide) ?_
    refine lv_isub hx hb dMO_count_90 ?_
    refine xt_i (y := nI (v - 9)) (pk_sub (by omega)) ?_
    refine lv_iconst (v := nI 1) hx hb dMO_count_91 (by decide) ?_
    refine lv_iadd hx hb dMO_count_92 ?_
    refine xt_i (y := nI (v - 9 + 1)) (nI_add _ _) ?_
    refine xt_i (y := nI (v - 8)) (congrArg nI (by omega)) ?_
    have hP : va_P (dC, dI) vwCl [(o, .inr (6, [.int (nI 0), .ref xv, .ref xo, .ref xn, .ref xc, .ref xb, .ref xd, .ref xq, .ref xa, .ref xk, .ref xt, .ref xh, .ref xs, .ref xS, .ref xw, .ref xW, .ref xB, .ref xM, .long jf, .long js, .int jb, .long nf, .long ns, .int nb, .ref xf, .ref xg, .ref xi])), (xn, .inl (cI, 2, .inl nv))] H := hP
    have hD : va_D A [(o, .inr (6, [.int (nI 0), .ref xv, .ref xo, .ref xn, .ref xc, .ref xb, .ref xd, .ref xq, .ref xa, .ref xk, .ref xt, .ref xh, .ref xs, .ref xS, .ref xw, .ref xW, .ref xB, .ref xM, .long jf, .long js, .int jb, .long nf, .long ns, .int nb, .ref xf, .ref xg, .ref xi])), (xn, .inl (cI, 2, .inl nv))] := hD
    subst hQ
    exact W.iret (v := nI (v - 8)) hx hb hr (fun t ht hW => ⟨⟨nI (v - 8), (), rfl, rfl, by rw [ht]; exact hP, va_K.moved hW.alike hK, hD⟩, hS.F ht⟩) hS.2.2 dMO_count_93
  · rw [nI_leI (by decide) (by omega)] at hc
    refine lv_iconst (v := nI 0) hx hb dMO_count_78 (by decide) ?_
    refine lv_goto (tgt := 93) hx hb dMO_count_79 (by decide) ?_
    refine xt_i (y := nI (v - 8)) (congrArg nI (by omega)) ?_
    have hP : va_P (dC, dI) vwCl [(o, .inr (6, [.int (nI 0), .ref xv, .ref xo, .ref xn, .ref xc, .ref xb, .ref xd, .ref xq, .ref xa, .ref xk, .ref xt, .ref xh, .ref xs, .ref xS, .ref xw, .ref xW, .ref xB, .ref xM, .long jf, .long js, .int jb, .long nf, .long ns, .int nb, .ref xf, .ref xg, .ref xi])), (xn, .inl (cI, 2, .inl nv))] H := hP
    have hD : va_D A [(o, .inr (6, [.int (nI 0), .ref xv, .ref xo, .ref xn, .ref xc, .ref xb, .ref xd, .ref xq, .ref xa, .ref xk, .ref xt, .ref xh, .ref xs, .ref xS, .ref xw, .ref xW, .ref xB, .ref xM, .long jf, .long js, .int jb, .long nf, .long ns, .int nb, .ref xf, .ref xg, .ref xi])), (xn, .inl (cI, 2, .inl nv))] := hD
    subst hQ
    exact W.iret (v := nI (v - 8)) hx hb hr (fun t ht hW => ⟨⟨nI (v - 8), (), rfl, rfl, by rw [ht]; exact hP, va_K.moved hW.alike hK, hD⟩, hS.F ht⟩) hS.2.2 dMO_count_93
set_option maxHeartbeats 4000000 in
set_option maxRecDepth 100000 in
theorem c_MO_count_2 (l : Launch) (dC : Nat → ClassId) (dI : Nat → Nat → Nat) (sz : Nat) (o xv xo xn xc xb xd xq xa xk xt xh xs xS xw xW xB xM xf xg xi : Nat) (th : Int32) (jf js : Int64) (jb : Int32) (nf ns : Int64) (nb : Int32) (cI cL : ClassId) (nv : Nat → Int32) (fo fv : Nat → Int64) (k v : Nat) (hk : k < 2) (hv : v < 2 ^ 30) (hn : nv k = nI v) : Met l yMO_count wsMO_count { frames := 6, cells := 0, slots := 0, locals := 148 } (va_Pc [.ref o, .int (nI k), .int (nI 2)] (fun U => U.heap.size = sz ∧ va_P (dC, dI) vwCl [(o, .inr (6, [.int th, .ref xv, .ref xo, .ref xn, .ref xc, .ref xb, .ref xd, .ref xq, .ref xa, .ref xk, .ref xt, .ref xh, .ref xs, .ref xS, .ref xw, .ref xW, .ref xB, .ref xM, .long jf, .long js, .int jb, .long nf, .long ns, .int nb, .ref xf, .ref xg, .ref xi])), (xo, .inl (cL, 512, .inr (.inl fo))), (xv, .inl (cL, 4608, .inr (.inl fv))), (xn, .inl (cI, 2, .inl nv))] U.heap ∧ va_K (dC, dI) vwCl [(cI, .int), (cL, .long)] U ∧ va_D (fun _ => True) [(o, .inr (6, [.int th, .ref xv, .ref xo, .ref xn, .ref xc, .ref xb, .ref xd, .ref xq, .ref xa, .ref xk, .ref xt, .ref xh, .ref xs, .ref xS, .ref xw, .ref xW, .ref xB, .ref xM, .long jf, .long js, .int jb, .long nf, .long ns, .int nb, .ref xf, .ref xg, .ref xi])), (xo, .inl (cL, 512, .inr (.inl fo))), (xv, .inl (cL, 4608, .inr (.inl fv))), (xn, .inl (cI, 2, .inl nv))])) (va_Qi (fun (r : Int32) (_ : Unit) => r = nI (bs_chg (bs_fa fo (256 * k)) (bs_fa fv (256 * (9 * k + v % 9))) 256)) (fun (_ : Unit) t => va_P (dC, dI) vwCl [(o, .inr (6, [.int (nI 0), .ref xv, .ref xo, .ref xn, .ref xc, .ref xb, .ref xd, .ref xq, .ref xa, .ref xk, .ref xt, .ref xh, .ref xs, .ref xS, .ref xw, .ref xW, .ref xB, .ref xM, .long jf, .long js, .int jb, .long nf, .long ns, .int nb, .ref xf, .ref xg, .ref xi])), (xo, .inl (cL, 512, .inr (.inl fo))), (xv, .inl (cL, 4608, .inr (.inl fv))), (xn, .inl (cI, 2, .inl nv))] t.heap ∧ va_K (dC, dI) vwCl [(cI, .int), (cL, .long)] t ∧ va_D (va_A [(o, .inr (6, [.int th, .ref xv, .ref xo, .ref xn, .ref xc, .ref xb, .ref xd, .ref xq, .ref xa, .ref xk, .ref xt, .ref xh, .ref xs, .ref xS, .ref xw, .ref xW, .ref xB, .ref xM, .long jf, .long js, .int jb, .long nf, .long ns, .int nb, .ref xf, .ref xg, .ref xi])), (xo, .inl (cL, 512, .inr (.inl fo))), (xv, .inl (cL, 4608, .inr (.inl fv))), (xn, .inl (cI, 2, .inl nv))] sz) [(o, .inr (6, [.int (nI 0), .ref xv, .ref xo, .ref xn, .ref xc, .ref xb, .ref xd, .ref xq, .ref xa, .ref xk, .ref xt, .ref xh, .ref xs, .ref xS, .ref xw, .ref xW, .ref xB, .ref xM, .long jf, .long js, .int jb, .long nf, .long ns, .int nb, .ref xf, .ref xg, .ref xi])), (xo, .inl (cL, 512, .inr (.inl fo))), (xv, .inl (cL, 4608, .inr (.inl fv))), (xn, .inl (cI, 2, .inl nv))]) (va_A [(o, .inr (6, [.int th, .ref xv, .ref xo, .ref xn, .ref xc, .ref xb, .ref xd, .ref xq, .ref xa, .ref xk, .ref xt, .ref xh, .ref xs, .ref xS, .ref xw, .ref xW, .ref xB, .ref xM, .long jf, .long js, .int jb, .long nf, .long ns, .int nb, .ref xf, .ref xg, .ref xi])), (xo, .inl (cL, 512, .inr (.inl fo))), (xv, .inl (cL, 4608, .inr (.inl fv))), (xn, .inl (cI, 2, .inl nv))] sz)) 0 0 (va_A [(o, .inr (6, [.int th, .ref xv, .ref xo, .ref xn, .ref xc, .ref xb, .ref xd, .ref xq, .ref xa, .ref xk, .ref xt, .ref xh, .ref xs, .ref xS, .ref xw, .ref xW, .ref xB, .ref xM, .long jf, .long js, .int jb, .long nf, .long ns, .int nb, .ref xf, .ref xg, .ref xi])), (xo, .inl (cL, 512, .inr (.inl fo))), (xv, .inl (cL, 4608, .inr (.inl fv))), (xn, .inl (cI, 2, .inl nv))] sz) := by
  refine Met.ofW (cc := cMO_count) (maxL := 3) (ret := (some .int)) (by decide) rfl ?_
  intro p e s m args below meth c s₁ Bo9 hml hv
  obtain ⟨rfl, hsz, hP, hK, hD0⟩ := hv
  have hx := Bo9.exec
  have hb := Bo9.bytes
  have hr := Bo9.returns
  have hts := fun w (h : w ∈ wT) => atoms_spec (ws := wsMO_count) Bo9.pre w (List.mem_cons_of_mem _ h)
  have hown : s.vm.findClass RMO = some m.cls := findClass_of_methodNamed Bo9.named
  have hlocks := Bo9.notSynchronized
  subst hsz
  have hD := hD0.self (sz := s.heap.size)
  generalize hAe : va_A [(o, .inr (6, [.int th, .ref xv, .ref xo, .ref xn, .ref xc, .ref xb, .ref xd, .ref xq, .ref xa, .ref xk, .ref xt, .ref xh, .ref xs, .ref xS, .ref xw, .ref xW, .ref xB, .ref xM, .long jf, .long js, .int jb, .long nf, .long ns, .int nb, .ref xf, .ref xg, .ref xi])), (xo, .inl (cL, 512, .inr (.inl fo))), (xv, .inl (cL, 4608, .inr (.inl fv))), (xn, .inl (cI, 2, .inl nv))] s.heap.size = A at hD ⊢
  have hA : ∀ q : Nat, s.heap.size ≤ q → A q := fun q h => by rw [← hAe]; exact Or.inr h
  have hl := lv_entry ([.ref o, .int (nI k), .int (nI 2)]) (n := 3) (Nat.le_of_ble_eq_true rfl)
  rw [lg_entry_eq]
  generalize (lg_sl ([.ref o, .int (nI k), .int (nI 2)]) ++ List.replicate (3 - (lg_sl ([.ref o, .int (nI k), .int (nI 2)])).length) Slot.unset).toArray = ls at hl ⊢
  have hl : lv_has ls 3 [(0, .ref o), (1, .int (nI k)), (2, .int (nI 2))] := hl
  refine xs_q (fun H Q hH hQ => ?_)
  have hS : va_S A s.heap H [] := by rw [hH]; exact va_S.rf
  have hP : va_P (dC, dI) vwCl [(o, .inr (6, [.int th, .ref xv, .ref xo, .ref xn, .ref xc, .ref xb, .ref xd, .ref xq, .ref xa, .ref xk, .ref xt, .ref xh, .ref xs, .ref xS, .ref xw, .ref xW, .ref xB, .ref xM, .long jf, .long js, .int jb, .long nf, .long ns, .int nb, .ref xf, .ref xg, .ref xi])), (xo, .inl (cL, 512, .inr (.inl fo))), (xv, .inl (cL, 4608, .inr (.inl fv))), (xn, .inl (cI, 2, .inl nv))] H := by rw [hH]; exact hP
  refine lv_aload_n hx hb dMO_count_0 rfl (lv_at hl 0 rfl) ?_
  refine lv_iconst (v := nI 0) hx hb dMO_count_1 (by decide) ?_
  refine va_put (D := (dC, dI)) (ci := 6) (v := .int (nI 0)) (ty := .int) (C := RMO) (T := TMO) (N := 27) hx hb hts in_MO tyMO tyMO_ok nmMO hown hK hP hD hS 0 rfl rfl 0 (by decide) (hts _ w_f_MO_87) (fun _ h9 => h9) rfl (by decide +kernel) (rfl) (rfl) (Nat.le_of_ble_eq_true rfl) dMO_count_2 (fun H locs hP hD hS => ?_)
  have hP : va_P (dC, dI) vwCl [(o, .inr (6, [.int (nI 0), .ref xv, .ref xo, .ref xn, .ref xc, .ref xb, .ref xd, .ref xq, .ref xa, .ref xk, .ref xt, .ref xh, .ref xs, .ref xS, .ref xw, .ref xW, .ref xB, .ref xM, .long jf, .long js, .int jb, .long nf, .long ns, .int nb, .ref xf, .ref xg, .ref xi])), (xo, .inl (cL, 512, .inr (.inl fo))), (xv, .inl (cL, 4608, .inr (.inl fv))), (xn, .inl (cI, 2, .inl nv))] H := hP
  have hD : va_D A [(o, .inr (6, [.int (nI 0), .ref xv, .ref xo, .ref xn, .ref xc, .ref xb, .ref xd, .ref xq, .ref xa, .ref xk, .ref xt, .ref xh, .ref xs, .ref xS, .ref xw, .ref xW, .ref xB, .ref xM, .long jf, .long js, .int jb, .long nf, .long ns, .int nb, .ref xf, .ref xg, .ref xi])), (xo, .inl (cL, 512, .inr (.inl fo))), (xv, .inl (cL, 4608, .inr (.inl fv))), (xn, .inl (cI, 2, .inl nv))] := hD
  refine lv_iload_n hx hb dMO_count_5 rfl (lv_at hl 1 rfl) ?_
  have hs9 : bs_ii (nI k) 2 = true := bs_ii_n hk (by omega)
  have hPc := hP.sub (ws' := []) [] rfl
  have hDc := hD.sub (ws' := []) [] (by decide) rfl
  have hKc := hK.sub (tys' := []) [] rfl
  have hFc := va_free (wc := []) hD hS hA [] rfl
  refine va_calli (va_runS (As := [.int (nI k)]) (rest := []) ⟨hx, hb, hml, hown, hts⟩ (c_MO_isServer l dC dI H.size (nI k)) (va_cwS 1 hts (wT_3 w_m_MO_164 w_t_MO_isServer w_n_MO w_c_MO_isServer) rfl rfl rfl (by decide +kernel) ⟨Nat.le_of_ble_eq_true rfl, Nat.le_of_ble_eq_true rfl⟩) ⟨fun a U g mk q => by obtain ⟨q0, q1, qP, qK, qD⟩ := q; exact ⟨q0, q1, qP, va_K.moved (u := U) (U := U.calling g mk a) (Vm.Alike.refl U.vm) qK, qD⟩, fun U hU hW => ⟨rfl, by rw [hU], by rw [hU]; exact hPc, va_K.moved hW.alike hKc, hDc.weaken (fun _ _ _ _ => trivial)⟩⟩ rfl rfl hl.1 rfl (lv_room (Nat.le_of_ble_eq_true rfl)) dMO_count_6 ⟨Nat.zero_le _, Nat.zero_le _⟩) hS (fun q _ h => hFc q h) hFc (fun r u t H1 locs ht hvm hw hB hz1 hk1 hS => ?_)
  obtain ⟨hP1, hK1, hD1⟩ := hB
  rw [ht] at hP1
  have hK1 := va_K.moved hvm.symm hK1
  have hw : r = bs_z (bs_ii (nI k) 2) := hw
  subst hw
  obtain ⟨hP, hD⟩ := va_join (wr := [(o, .inr (6, [.int (nI 0), .ref xv, .ref xo, .ref xn, .ref xc, .ref xb, .ref xd, .ref xq, .ref xa, .ref xk, .ref xt, .ref xh, .ref xs, .ref xS, .ref xw, .ref xW, .ref xB, .ref xM, .long jf, .long js, .int jb, .long nf, .long ns, .int nb, .ref xf, .ref xg, .ref xi])), (xo, .inl (cL, 512, .inr (.inl fo))), (xv, .inl (cL, 4608, .inr (.inl fv))), (xn, .inl (cI, 2, .inl nv))]) (w1 := []) hP hD [] [0, 1, 2, 3] rfl rfl (by decide) (by decide) hk1 hFc hP1 hD1
  generalize H1 = H at hP hS ⊢
  have hP : va_P (dC, dI) vwCl [(o, .inr (6, [.int (nI 0), .ref xv, .ref xo, .ref xn, .ref xc, .ref xb, .ref xd, .ref xq, .ref xa, .ref xk, .ref xt, .ref xh, .ref xs, .ref xS, .ref xw, .ref xW, .ref xB, .ref xM, .long jf, .long js, .int jb, .long nf, .long ns, .int nb, .ref xf, .ref xg, .ref xi])), (xo, .inl (cL, 512, .inr (.inl fo))), (xv, .inl (cL, 4608, .inr (.inl fv))), (xn, .inl (cI, 2, .inl nv))] H := hP
  have hD : va_D A [(o, .inr (6, [.int (nI 0), .ref xv, .ref xo, .ref xn, .ref xc, .ref xb, .ref xd, .ref xq, .ref xa, .ref xk, .ref xt, .ref xh, .ref xs, .ref xS, .ref xw, .ref xW, .ref xB, .ref xM, .long jf, .long js, .int jb, .long nf, .long ns, .int nb, .ref xf, .ref xg, .ref xi])), (xo, .inl (cL, 512, .inr (.inl fo))), (xv, .inl (cL, 4608, .inr (.inl fv))), (xn, .inl (cI, 2, .inl nv))] := hD
  refine xt_i (y := nI 1) (by rw [hs9]; rfl) ?_
  refine lv_if_ne (tgt := 14) hx hb dMO_count_9 (by decide) (fun _ => ?_) (fun h => absurd h (by decide +kernel))
  refine lv_iload_n hx hb dMO_count_14 rfl (lv_at hl 2 rfl) ?_
  refine xs_sw (off := 79) (tgt := 94) hx hb dMO_count_15 (Or.inl ⟨by decide +kernel, by decide +kernel⟩) (by decide) ?_
  refine lv_aload_n hx hb dMO_count_94 rfl (lv_at hl 0 rfl) ?_
  refine lv_iload_n hx hb dMO_count_95 rfl (lv_at hl 1 rfl) ?_
  have hPc := hP.sub (ws' := [(o, .inr (6, [.int (nI 0), .ref xv, .ref xo, .ref xn, .ref xc, .ref xb, .ref xd, .ref xq, .ref xa, .ref xk, .ref xt, .ref xh, .ref xs, .ref xS, .ref xw, .ref xW, .ref xB, .ref xM, .long jf, .long js, .int jb, .long nf, .long ns, .int nb, .ref xf, .ref xg, .ref xi])), (xo, .inl (cL, 512, .inr (.inl fo))), (xv, .inl (cL, 4608, .inr (.inl fv))), (xn, .inl (cI, 2, .inl nv))]) [0, 1, 2, 3] rfl
  have hDc := hD.sub (ws' := [(o, .inr (6, [.int (nI 0), .ref xv, .ref xo, .ref xn, .ref xc, .ref xb, .ref xd, .ref xq, .ref xa, .ref xk, .ref xt, .ref xh, .ref xs, .ref xS, .ref xw, .ref xW, .ref xB, .ref xM, .long jf, .long js, .int jb, .long nf, .long ns, .int nb, .ref xf, .ref xg, .ref xi])), (xo, .inl (cL, 512, .inr (.inl fo))), (xv, .inl (cL, 4608, .inr (.inl fv))), (xn, .inl (cI, 2, .inl nv))]) [0, 1, 2, 3] (by decide) rfl
  have hKc := hK.sub (tys' := [(cI, .int), (cL, .long)]) [0, 1] rfl
  have hFc := va_free (wc := [(o, .inr (6, [.int (nI 0), .ref xv, .ref xo, .ref xn, .ref xc, .ref xb, .ref xd, .ref xq, .ref xa, .ref xk, .ref xt, .ref xh, .ref xs, .ref xS, .ref xw, .ref xW, .ref xB, .ref xM, .long jf, .long js, .int jb, .long nf, .long ns, .int nb, .ref xf, .ref xg, .ref xi])), (xo, .inl (cL, 512, .inr (.inl fo))), (xv, .inl (cL, 4608, .inr (.inl fv))), (xn, .inl (cI, 2, .inl nv))]) hD hS hA [0, 1, 2, 3] rfl
  refine va_calli (va_runV (C := RMO) (As := [.int (nI k)]) (rest := []) ⟨hx, hb, hml, hown, hts⟩ (c_MO_others l dC dI H.size o xv xo xn xc xb xd xq xa xk xt xh xs xS xw xW xB xM xf xg xi (nI 0) jf js jb nf ns nb cI cL nv fo fv k v hk hv hn) (cwV (C := RMO) 1 hts (wT_4 w_m_MO_173 w_i_MO_others w_s_MO_others w_n_MO w_c_MO_others) rfl rfl rfl (by decide +kernel) ⟨Nat.le_of_ble_eq_true rfl, Nat.le_of_ble_eq_true rfl⟩) ⟨fun a U g mk q => by obtain ⟨q0, q1, qP, qK, qD⟩ := q; exact ⟨q0, q1, qP, va_K.moved (u := U) (U := U.calling g mk a) (Vm.Alike.refl U.vm) qK, qD⟩, va_recv hK hP (q0 := 0) (ci := 6) (q := (RMO, TMO, 27)) rfl rfl, fun U hU hW => ⟨rfl, by rw [hU], by rw [hU]; exact hPc, va_K.moved hW.alike hKc, hDc.weaken (fun _ _ _ _ => trivial)⟩⟩ rfl rfl hl.1 rfl (lv_room (Nat.le_of_ble_eq_true rfl)) dMO_count_96 ⟨Nat.zero_le _, Nat.zero_le _⟩) hS (fun q _ h => hFc q h) hFc (fun r u t H1 locs ht hvm hw hB hz1 hk1 hS => ?_)
  obtain ⟨hP1, hK1, hD1⟩ := hB
  rw [ht] at hP1
  have hK1 := va_K.moved hvm.symm hK1
  have hw : r = nI (bs_chg (bs_fa fo (256 * k)) (bs_fa fv (256 * (9 * k + v % 9))) 256) := hw
  subst hw
  obtain ⟨hP, hD⟩ := va_join (wr := []) (w1 := [(o, .inr (6, [.int (nI 0), .ref xv, .ref xo, .ref xn, .ref xc, .ref xb, .ref xd, .ref xq, .ref xa, .ref xk, .ref xt, .ref xh, .ref xs, .ref xS, .ref xw, .ref xW, .ref xB, .ref xM, .long jf, .long js, .int jb, .long nf, .long ns, .int nb, .ref xf, .ref xg, .ref xi])), (xo, .inl (cL, 512, .inr (.inl fo))), (xv, .inl (cL, 4608, .inr (.inl fv))), (xn, .inl (cI, 2, .inl nv))]) hP hD [0, 1, 2, 3] [] rfl rfl (by decide) (by decide) hk1 hFc hP1 hD1
  generalize H1 = H at hP hS ⊢
  have hP : va_P (dC, dI) vwCl [(o, .inr (6, [.int (nI 0), .ref xv, .ref xo, .ref xn, .ref xc, .ref xb, .ref xd, .ref xq, .ref xa, .ref xk, .ref xt, .ref xh, .ref xs, .ref xS, .ref xw, .ref xW, .ref xB, .ref xM, .long jf, .long js, .int jb, .long nf, .long ns, .int nb, .ref xf, .ref xg, .ref xi])), (xo, .inl (cL, 512, .inr (.inl fo))), (xv, .inl (cL, 4608, .inr (.inl fv))), (xn, .inl (cI, 2, .inl nv))] H := hP
  have hD : va_D A [(o, .inr (6, [.int (nI 0), .ref xv, .ref xo, .ref xn, .ref xc, .ref xb, .ref xd, .ref xq, .ref xa, .ref xk, .ref xt, .ref xh, .ref xs, .ref xS, .ref xw, .ref xW, .ref xB, .ref xM, .long jf, .long js, .int jb, .long nf, .long ns, .int nb, .ref xf, .ref xg, .ref xi])), (xo, .inl (cL, 512, .inr (.inl fo))), (xv, .inl (cL, 4608, .inr (.inl fv))), (xn, .inl (cI, 2, .inl nv))] := hD
  have hP : va_P (dC, dI) vwCl [(o, .inr (6, [.int (nI 0), .ref xv, .ref xo, .ref xn, .ref xc, .ref xb, .ref xd, .ref xq, .ref xa, .ref xk, .ref xt, .ref xh, .ref xs, .ref xS, .ref xw, .ref xW, .ref xB, .ref xM, .long jf, .long js, .int jb, .long nf, .long ns, .int nb, .ref xf, .ref xg, .ref xi])), (xo, .inl (cL, 512, .inr (.inl fo))), (xv, .inl (cL, 4608, .inr (.inl fv))), (xn, .inl (cI, 2, .inl nv))] H := hP
  have hD : va_D A [(o, .inr (6, [.int (nI 0), .ref xv, .ref xo, .ref xn, .ref xc, .ref xb, .ref xd, .ref xq, .ref xa, .ref xk, .ref xt, .ref xh, .ref xs, .ref xS, .ref xw, .ref xW, .ref xB, .ref xM, .long jf, .long js, .int jb, .long nf, .long ns, .int nb, .ref xf, .ref xg, .ref xi])), (xo, .inl (cL, 512, .inr (.inl fo))), (xv, .inl (cL, 4608, .inr (.inl fv))), (xn, .inl (cI, 2, .inl nv))] := hD
  subst hQ
  exact W.iret (v := nI (bs_chg (bs_fa fo (256 * k)) (bs_fa fv (256 * (9 * k + v % 9))) 256)) hx hb hr (fun t ht hW => ⟨⟨nI (bs_chg (bs_fa fo (256 * k)) (bs_fa fv (256 * (9 * k + v % 9))) 256), (), rfl, rfl, by rw [ht]; exact hP, va_K.moved hW.alike hK, hD⟩, hS.F ht⟩) hS.2.2 dMO_count_99
set_option maxHeartbeats 4000000 in
set_option maxRecDepth 100000 in
theorem c_MO_count_6 (l : Launch) (dC : Nat → ClassId) (dI : Nat → Nat → Nat) (sz : Nat) (o xv xo xn xc xb xd xq xa xk xt xh xs xS xw xW xB xM xf xg xi : Nat) (th : Int32) (jf js : Int64) (jb : Int32) (nf ns : Int64) (nb : Int32) (cI : ClassId) (fk : Nat → Int32) (k : Nat) (hk : k < 2) (hby : ∀ j, j < 320 → ∃ n, n < 256 ∧ fk j = nI n) : Met l yMO_count wsMO_count { frames := 6, cells := 0, slots := 0, locals := 148 } (va_Pc [.ref o, .int (nI k), .int (nI 6)] (fun U => U.heap.size = sz ∧ va_P (dC, dI) vwCl [(o, .inr (6, [.int th, .ref xv, .ref xo, .ref xn, .ref xc, .ref xb, .ref xd, .ref xq, .ref xa, .ref xk, .ref xt, .ref xh, .ref xs, .ref xS, .ref xw, .ref xW, .ref xB, .ref xM, .long jf, .long js, .int jb, .long nf, .long ns, .int nb, .ref xf, .ref xg, .ref xi])), (xk, .inl (cI, 320, .inl fk))] U.heap ∧ va_K (dC, dI) vwCl [(cI, .int)] U ∧ va_D (fun _ => True) [(o, .inr (6, [.int th, .ref xv, .ref xo, .ref xn, .ref xc, .ref xb, .ref xd, .ref xq, .ref xa, .ref xk, .ref xt, .ref xh, .ref xs, .ref xS, .ref xw, .ref xW, .ref xB, .ref xM, .long jf, .long js, .int jb, .long nf, .long ns, .int nb, .ref xf, .ref xg, .ref xi])), (xk, .inl (cI, 320, .inl fk))])) (va_Qi (fun (r : Int32) (_ : Unit) => r = bs_z (bs_gd (bs_kf fk k) 8)) (fun (_ : Unit) t => va_P (dC, dI) vwCl [(o, .inr (6, [.int (nI 0), .ref xv, .ref xo, .ref xn, .ref xc, .ref xb, .ref xd, .ref xq, .ref xa, .ref xk, .ref xt, .ref xh, .ref xs, .ref xS, .ref xw, .ref xW, .ref xB, .ref xM, .long jf, .long js, .int jb, .long nf, .long ns, .int nb, .ref xf, .ref xg, .ref xi])), (xk, .inl (cI, 320, .inl fk))] t.heap ∧ va_K (dC, dI) vwCl [(cI, .int)] t ∧ va_D (va_A [(o, .inr (6, [.int th, .ref xv, .ref xo, .ref xn, .ref xc, .ref xb, .ref xd, .ref xq, .ref xa, .ref xk, .ref xt, .ref xh, .ref xs, .ref xS, .ref xw, .ref xW, .ref xB, .ref xM, .long jf, .long js, .int jb, .long nf, .long ns, .int nb, .ref xf, .ref xg, .ref xi])), (xk, .inl (cI, 320, .inl fk))] sz) [(o, .inr (6, [.int (nI 0), .ref xv, .ref xo, .ref xn, .ref xc, .ref xb, .ref xd, .ref xq, .ref xa, .ref xk, .ref xt, .ref xh, .ref xs, .ref xS, .ref xw, .ref xW, .ref xB, .ref xM, .long jf, .long js, .int jb, .long nf, .long ns, .int nb, .ref xf, .ref xg, .ref xi])), (xk, .inl (cI, 320, .inl fk))]) (va_A [(o, .inr (6, [.int th, .ref xv, .ref xo, .ref xn, .ref xc, .ref xb, .ref xd, .ref xq, .ref xa, .ref xk, .ref xt, .ref xh, .ref xs, .ref xS, .ref xw, .ref xW, .ref xB, .ref xM, .long jf, .long js, .int jb, .long nf, .long ns, .int nb, .ref xf, .ref xg, .ref xi])), (xk, .inl (cI, 320, .inl fk))] sz)) 0 0 (va_A [(o, .inr (6, [.int th, .ref xv, .ref xo, .ref xn, .ref xc, .ref xb, .ref xd, .ref xq, .ref xa, .ref xk, .ref xt, .ref xh, .ref xs, .ref xS, .ref xw, .ref xW, .ref xB, .ref xM, .long jf, .long js, .int jb, .long nf, .long ns, .int nb, .ref xf, .ref xg, .ref xi])), (xk, .inl (cI, 320, .inl fk))] sz) := by
  refine Met.ofW (cc := cMO_count) (maxL := 3) (ret := (some .int)) (by decide) rfl ?_
  intro p e s m args below meth c s₁ Bo9 hml hv
  obtain ⟨rfl, hsz, hP, hK, hD0⟩ := hv
  have hx := Bo9.exec
  have hb := Bo9.bytes
  have hr := Bo9.returns
  have hts := fun w (h : w ∈ wT) => atoms_spec (ws := wsMO_count) Bo9.pre w (List.mem_cons_of_mem _ h)
  have hown : s.vm.findClass RMO = some m.cls := findClass_of_methodNamed Bo9.named
  have hlocks := Bo9.notSynchronized
  subst hsz
  have hD := hD0.self (sz := s.heap.size)
  generalize hAe : va_A [(o, .inr (6, [.int th, .ref xv, .ref xo, .ref xn, .ref xc, .ref xb, .ref xd, .ref xq, .ref xa, .ref xk, .ref xt, .ref xh, .ref xs, .ref xS, .ref xw, .ref xW, .ref xB, .ref xM, .long jf, .long js, .int jb, .long nf, .long ns, .int nb, .ref xf, .ref xg, .ref xi])), (xk, .inl (cI, 320, .inl fk))] s.heap.size = A at hD ⊢
  have hA : ∀ q : Nat, s.heap.size ≤ q → A q := fun q h => by rw [← hAe]; exact Or.inr h
  have hl := lv_entry ([.ref o, .int (nI k), .int (nI 6)]) (n := 3) (Nat.le_of_ble_eq_true rfl)
  rw [lg_entry_eq]
  generalize (lg_sl ([.ref o, .int (nI k), .int (nI 6)]) ++ List.replicate (3 - (lg_sl ([.ref o, .int (nI k), .int (nI 6)])).length) Slot.unset).toArray = ls at hl ⊢
  have hl : lv_has ls 3 [(0, .ref o), (1, .int (nI k)), (2, .int (nI 6))] := hl
  refine xs_q (fun H Q hH hQ => ?_)
  have hS : va_S A s.heap H [] := by rw [hH]; exact va_S.rf
  have hP : va_P (dC, dI) vwCl [(o, .inr (6, [.int th, .ref xv, .ref xo, .ref xn, .ref xc, .ref xb, .ref xd, .ref xq, .ref xa, .ref xk, .ref xt, .ref xh, .ref xs, .ref xS, .ref xw, .ref xW, .ref xB, .ref xM, .long jf, .long js, .int jb, .long nf, .long ns, .int nb, .ref xf, .ref xg, .ref xi])), (xk, .inl (cI, 320, .inl fk))] H := by rw [hH]; exact hP
  refine lv_aload_n hx hb dMO_count_0 rfl (lv_at hl 0 rfl) ?_
  refine lv_iconst (v := nI 0) hx hb dMO_count_1 (by decide) ?_
  refine va_put (D := (dC, dI)) (ci := 6) (v := .int (nI 0)) (ty := .int) (C := RMO) (T := TMO) (N := 27) hx hb hts in_MO tyMO tyMO_ok nmMO hown hK hP hD hS 0 rfl rfl 0 (by decide) (hts _ w_f_MO_87) (fun _ h9 => h9) rfl (by decide +kernel) (rfl) (rfl) (Nat.le_of_ble_eq_true rfl) dMO_count_2 (fun H locs hP hD hS => ?_)
  have hP : va_P (dC, dI) vwCl [(o, .inr (6, [.int (nI 0), .ref xv, .ref xo, .ref xn, .ref xc, .ref xb, .ref xd, .ref xq, .ref xa, .ref xk, .ref xt, .ref xh, .ref xs, .ref xS, .ref xw, .ref xW, .ref xB, .ref xM, .long jf, .long js, .int jb, .long nf, .long ns, .int nb, .ref xf, .ref xg, .ref xi])), (xk, .inl (cI, 320, .inl fk))] H := hP
  have hD : va_D A [(o, .inr (6, [.int (nI 0), .ref xv, .ref xo, .ref xn, .ref xc, .ref xb, .ref xd, .ref xq, .ref xa, .ref xk, .ref xt, .ref xh, .ref xs, .ref xS, .ref xw, .ref xW, .ref xB, .ref xM, .long jf, .long js, .int jb, .long nf, .long ns, .int nb, .ref xf, .ref xg, .ref xi])), (xk, .inl (cI, 320, .inl fk))] := hD
  refine lv_iload_n hx hb dMO_count_5 rfl (lv_at hl 1 rfl) ?_
  have hs9 : bs_ii (nI k) 2 = true := bs_ii_n hk (by omega)
  have hPc := hP.sub (ws' := []) [] rfl
  have hDc := hD.sub (ws' := []) [] (by decide) rfl
  have hKc := hK.sub (tys' := []) [] rfl
  have hFc := va_free (wc := []) hD hS hA [] rfl
  refine va_calli (va_runS (As := [.int (nI k)]) (rest := []) ⟨hx, hb, hml, hown, hts⟩ (c_MO_isServer l dC dI H.size (nI k)) (va_cwS 1 hts (wT_3 w_m_MO_164 w_t_MO_isServer w_n_MO w_c_MO_isServer) rfl rfl rfl (by decide +kernel) ⟨Nat.le_of_ble_eq_true rfl, Nat.le_of_ble_eq_true rfl⟩) ⟨fun a U g mk q => by obtain ⟨q0, q1, qP, qK, qD⟩ := q; exact ⟨q0, q1, qP, va_K.moved (u := U) (U := U.calling g mk a) (Vm.Alike.refl U.vm) qK, qD⟩, fun U hU hW => ⟨rfl, by rw [hU], by rw [hU]; exact hPc, va_K.moved hW.alike hKc, hDc.weaken (fun _ _ _ _ => trivial)⟩⟩ rfl rfl hl.1 rfl (lv_room (Nat.le_of_ble_eq_true rfl)) dMO_count_6 ⟨Nat.zero_le _, Nat.zero_le _⟩) hS (fun q _ h => hFc q h) hFc (fun r u t H1 locs ht hvm hw hB hz1 hk1 hS => ?_)
  obtain ⟨hP1, hK1, hD1⟩ := hB
  rw [ht] at hP1
  have hK1 := va_K.moved hvm.symm hK1
  have hw : r = bs_z (bs_ii (nI k) 2) := hw
  subst hw
  obtain ⟨hP, hD⟩ := va_join (wr := [(o, .inr (6, [.int (nI 0), .ref xv, .ref xo, .ref xn, .ref xc, .ref xb, .ref xd, .ref xq, .ref xa, .ref xk, .ref xt, .ref xh, .ref xs, .ref xS, .ref xw, .ref xW, .ref xB, .ref xM, .long jf, .long js, .int jb, .long nf, .long ns, .int nb, .ref xf, .ref xg, .ref xi])), (xk, .inl (cI, 320, .inl fk))]) (w1 := []) hP hD [] [0, 1] rfl rfl (by decide) (by decide) hk1 hFc hP1 hD1
  generalize H1 = H at hP hS ⊢
  have hP : va_P (dC, dI) vwCl [(o, .inr (6, [.int (nI 0), .ref xv, .ref xo, .ref xn, .ref xc, .ref xb, .ref xd, .ref xq, .ref xa, .ref xk, .ref xt, .ref xh, .ref xs, .ref xS, .ref xw, .ref xW, .ref xB, .ref xM, .long jf, .long js, .int jb, .long nf, .long ns, .int nb, .ref xf, .ref xg, .ref xi])), (xk, .inl (cI, 320, .inl fk))] H := hP
  have hD : va_D A [(o, .inr (6, [.int (nI 0), .ref xv, .ref xo, .ref xn, .ref xc, .ref xb, .ref xd, .ref xq, .ref xa, .ref xk, .ref xt, .ref xh, .ref xs, .ref xS, .ref xw, .ref xW, .ref xB, .ref xM, .long jf, .long js, .int jb, .long nf, .long ns, .int nb, .ref xf, .ref xg, .ref xi])), (xk, .inl (cI, 320, .inl fk))] := hD
  refine xt_i (y := nI 1) (by rw [hs9]; rfl) ?_
  refine lv_if_ne (tgt := 14) hx hb dMO_count_9 (by decide) (fun _ => ?_) (fun h => absurd h (by decide +kernel))
  refine lv_iload_n hx hb dMO_count_14 rfl (lv_at hl 2 rfl) ?_
  refine xs_sw (off := 106) (tgt := 121) hx hb dMO_count_15 (Or.inl ⟨by decide +kernel, by decide +kernel⟩) (by decide) ?_
  refine lv_aload_n hx hb dMO_count_121 rfl (lv_at hl 0 rfl) ?_
  refine lv_iload_n hx hb dMO_count_122 rfl (lv_at hl 1 rfl) ?_
  have hPc := hP.sub (ws' := [(o, .inr (6, [.int (nI 0), .ref xv, .ref xo, .ref xn, .ref xc, .ref xb, .ref xd, .ref xq, .ref xa, .ref xk, .ref xt, .ref xh, .ref xs, .ref xS, .ref xw, .ref xW, .ref xB, .ref xM, .long jf, .long js, .int jb, .long nf, .long ns, .int nb, .ref xf, .ref xg, .ref xi])), (xk, .inl (cI, 320, .inl fk))]) [0, 1] rfl
  have hDc := hD.sub (ws' := [(o, .inr (6, [.int (nI 0), .ref xv, .ref xo, .ref xn, .ref xc, .ref xb, .ref xd, .ref xq, .ref xa, .ref xk, .ref xt, .ref xh, .ref xs, .ref xS, .ref xw, .ref xW, .ref xB, .ref xM, .long jf, .long js, .int jb, .long nf, .long ns, .int nb, .ref xf, .ref xg, .ref xi])), (xk, .inl (cI, 320, .inl fk))]) [0, 1] (by decide) rfl
  have hKc := hK.sub (tys' := [(cI, .int)]) [0] rfl
  have hFc := va_free (wc := [(o, .inr (6, [.int (nI 0), .ref xv, .ref xo, .ref xn, .ref xc, .ref xb, .ref xd, .ref xq, .ref xa, .ref xk, .ref xt, .ref xh, .ref xs, .ref xS, .ref xw, .ref xW, .ref xB, .ref xM, .long jf, .long js, .int jb, .long nf, .long ns, .int nb, .ref xf, .ref xg, .ref xi])), (xk, .inl (cI, 320, .inl fk))]) hD hS hA [0, 1] rfl
  refine va_calli (va_runV (C := RMO) (As := [.int (nI k)]) (rest := []) ⟨hx, hb, hml, hown, hts⟩ (c_MO_isGood l dC dI H.size o xv xo xn xc xb xd xq xa xk xt xh xs xS xw xW xB xM xf xg xi (nI 0) jf js jb nf ns nb cI fk k hk hby) (cwV (C := RMO) 1 hts (wT_4 w_m_MO_157 w_i_MO_isGood w_s_MO_isGood w_n_MO w_c_MO_isGood) rfl rfl rfl (by decide +kernel) ⟨Nat.le_of_ble_eq_true rfl, Nat.le_of_ble_eq_true rfl⟩) ⟨fun a U g mk q => by obtain ⟨q0, q1, qP, qK, qD⟩ := q; exact ⟨q0, q1, qP, va_K.moved (u := U) (U := U.calling g mk a) (Vm.Alike.refl U.vm) qK, qD⟩, va_recv hK hP (q0 := 0) (ci := 6) (q := (RMO, TMO, 27)) rfl rfl, fun U hU hW => ⟨rfl, by rw [hU], by rw [hU]; exact hPc, va_K.moved hW.alike hKc, hDc.weaken (fun _ _ _ _ => trivial)⟩⟩ rfl rfl hl.1 rfl (lv_room (Nat.le_of_ble_eq_true rfl)) dMO_count_123 ⟨Nat.zero_le _, Nat.zero_le _⟩) hS (fun q _ h => hFc q h) hFc (fun r u t H1 locs ht hvm hw hB hz1 hk1 hS => ?_)
  obtain ⟨hP1, hK1, hD1⟩ := hB
  rw [ht] at hP1
  have hK1 := va_K.moved hvm.symm hK1
  have hw : r = bs_z (bs_gd (bs_kf fk k) 8) := hw
  subst hw
  obtain ⟨hP, hD⟩ := va_join (wr := []) (w1 := [(o, .inr (6, [.int (nI 0), .ref xv, .ref xo, .ref xn, .ref xc, .ref xb, .ref xd, .ref xq, .ref xa, .ref xk, .ref xt, .ref xh, .ref xs, .ref xS, .ref xw, .ref xW, .ref xB, .ref xM, .long jf, .long js, .int jb, .long nf, .long ns, .int nb, .ref xf, .ref xg, .ref xi])), (xk, .inl (cI, 320, .inl fk))]) hP hD [0, 1] [] rfl rfl (by decide) (by decide) hk1 hFc hP1 hD1
  generalize H1 = H at hP hS ⊢
  have hP : va_P (dC, dI) vwCl [(o, .inr (6, [.int (nI 0), .ref xv, .ref xo, .ref xn, .ref xc, .ref xb, .ref xd, .ref xq, .ref xa, .ref xk, .ref xt, .ref xh, .ref xs, .ref xS, .ref xw, .ref xW, .ref xB, .ref xM, .long jf, .long js, .int jb, .long nf, .long ns, .int nb, .ref xf, .ref xg, .ref xi])), (xk, .inl (cI, 320, .inl fk))] H := hP
  have hD : va_D A [(o, .inr (6, [.int (nI 0), .ref xv, .ref xo, .ref xn, .ref xc, .ref xb, .ref xd, .ref xq, .ref xa, .ref xk, .ref xt, .ref xh, .ref xs, .ref xS, .ref xw, .ref xW, .ref xB, .ref xM, .long jf, .long js, .int jb, .long nf, .long ns, .int nb, .ref xf, .ref xg, .ref xi])), (xk, .inl (cI, 320, .inl fk))] := hD
  refine lv_if_eq (tgt := 133) hx hb dMO_count_126 (by decide) (fun hc => ?_) (fun hc => ?_)
  · refine lv_iconst (v := nI 0) hx hb dMO_count_133 (by decide) ?_
    refine xt_i (y := bs_z (bs_gd (bs_kf fk k) 8)) (by rw [bs_z_0 hc]; rfl) ?_
    have hP : va_P (dC, dI) vwCl [(o, .inr (6, [.int (nI 0), .ref xv, .ref xo, .ref xn, .ref xc, .ref xb, .ref xd, .ref xq, .ref xa, .ref xk, .ref xt, .ref xh, .ref xs, .ref xS, .ref xw, .ref xW, .ref xB, .ref xM, .long jf, .long js, .int jb, .long nf, .long ns, .int nb, .ref xf, .ref xg, .ref xi])), (xk, .inl (cI, 320, .inl fk))] H := hP
    have hD : va_D A [(o, .inr (6, [.int (nI 0), .ref xv, .ref xo, .ref xn, .ref xc, .ref xb, .ref xd, .ref xq, .ref xa, .ref xk, .ref xt, .ref xh, .ref xs, .ref xS, .ref xw, .ref xW, .ref xB, .ref xM, .long jf, .long js, .int jb, .long nf, .long ns, .int nb, .ref xf, .ref xg, .ref xi])), (xk, .inl (cI, 320, .inl fk))] := hD
    subst hQ
    exact W.iret (v := bs_z (bs_gd (bs_kf fk k) 8)) hx hb hr (fun t ht hW => ⟨⟨bs_z (bs_gd (bs_kf fk k) 8), (), rfl, rfl, by rw [ht]; exact hP, va_K.moved hW.alike hK, hD⟩, hS.F ht⟩) hS.2.2 dMO_count_134
  · refine lv_iconst (v := nI 1) hx hb dMO_count_129 (by decide) ?_
    refine lv_goto (tgt := 134) hx hb dMO_count_130 (by decide) ?_
    refine xt_i (y := bs_z (bs_gd (bs_kf fk k) 8)) (by rw [bs_z_1 hc]; rfl) ?_
    have hP : va_P (dC, dI) vwCl [(o, .inr (6, [.int (nI 0), .ref xv, .ref xo, .ref xn, .ref xc, .ref xb, .ref xd, .ref xq, .ref xa, .ref xk, .ref xt, .ref xh, .ref xs, .ref xS, .ref xw, .ref xW, .ref xB, .ref xM, .long jf, .long js, .int jb, .long nf, .long ns, .int nb, .ref xf, .ref xg, .ref xi])), (xk, .inl (cI, 320, .inl fk))] H := hP
    have hD : va_D A [(o, .inr (6, [.int (nI 0), .ref xv, .ref xo, .ref xn, .ref xc, .ref xb, .ref xd, .ref xq, .ref xa, .ref xk, .ref xt, .ref xh, .ref xs, .ref xS, .ref xw, .ref xW, .ref xB, .ref xM, .long jf, .long js, .int jb, .long nf, .long ns, .int nb, .ref xf, .ref xg, .ref xi])), (xk, .inl (cI, 320, .inl fk))] := hD
    subst hQ
    exact W.iret (v := bs_z (bs_gd (bs_kf fk k) 8)) hx hb hr (fun t ht hW => ⟨⟨bs_z (bs_gd (bs_kf fk k) 8), (), rfl, rfl, by rw [ht]; exact hP, va_K.moved hW.alike hK, hD⟩, hS.F ht⟩) hS.2.2 dMO_count_134
set_option maxHeartbeats 4000000 in
set_option maxRecDepth 100000 in
theorem c_MO_count_7 (l : Launch) (dC : Nat → ClassId) (dI : Nat → Nat → Nat) (sz : Nat) (o xv xo xn xc xb xd xq xa xk xt xh xs xS xw xW xB xM xf xg xi : Nat) (th : Int32) (jf js : Int64) (jb : Int32) (nf ns : Int64) (nb : Int32) (cI cL cZ : ClassId) (K : Nat → Nat) (fk : Nat → Int32) (k : Nat) (bl mv ts hh : Nat → Int32) (ss : Nat → Int64) (hk : k < 2) (hKw : ∀ j, K j < 256) (hst : ts k = 0 → ∀ i, i < 256 → hh (256 * k + i) = bs_chm K fk k i ∧ ss (256 * k + i) = bs_shm K fk k i) (hby : ∀ j, j < 320 → ∃ n, n < 256 ∧ fk j = nI n) (hg : bs_gd (bs_kf fk k) 8 = true) : Met l yMO_count wsMO_count { frames := 6, cells := 0, slots := 0, locals := 148 } (va_Pc [.ref o, .int (nI k), .int (nI 7)] (fun U => U.heap.size = sz ∧ va_P (dC, dI) vwCl [(o, .inr (6, [.int th, .ref xv, .ref xo, .ref xn, .ref xc, .ref xb, .ref xd, .ref xq, .ref xa, .ref xk, .ref xt, .ref xh, .ref xs, .ref xS, .ref xw, .ref xW, .ref xB, .ref xM, .long jf, .long js, .int jb, .long nf, .long ns, .int nb, .ref xf, .ref xg, .ref xi])), (xk, .inl (cI, 320, .inl fk)), (xB, .inl (cI, 16, .inl bl)), (xM, .inl (cI, 16, .inl mv)), (xS, .inl (cI, 256, .inl (bs_fn bs_SB))), (xw, .inl (cI, 256, .inl (bs_fn bs_tX))), (xW, .inl (cI, 352, .inl (bs_fn K))), (xt, .inl (cZ, 2, .inl ts)), (xh, .inl (cZ, 512, .inl hh)), (xs, .inl (cL, 512, .inr (.inl ss)))] U.heap ∧ va_K (dC, dI) vwCl [(cI, .int), (cL, .long), (cZ, .boolean)] U ∧ va_D (fun _ => True) [(o, .inr (6, [.int th, .ref xv, .ref xo, .ref xn, .ref xc, .ref xb, .ref xd, .ref xq, .ref xa, .ref xk, .ref xt, .ref xh, .ref xs, .ref xS, .ref xw, .ref xW, .ref xB, .ref xM, .long jf, .long js, .int jb, .long nf, .long ns, .int nb, .ref xf, .ref xg, .ref xi])), (xk, .inl (cI, 320, .inl fk)), (xB, .inl (cI, 16, .inl bl)), (xM, .inl (cI, 16, .inl mv)), (xS, .inl (cI, 256, .inl (bs_fn bs_SB))), (xw, .inl (cI, 256, .inl (bs_fn bs_tX))), (xW, .inl (cI, 352, .inl (bs_fn K))), (xt, .inl (cZ, 2, .inl ts)), (xh, .inl (cZ, 512, .inl hh)), (xs, .inl (cL, 512, .inr (.inl ss)))])) (va_Qi (fun (r : Int32) (u : (Int64) × (Int64) × (Int32) × (Nat → Int32) × (Nat → Int32) × (Int64) × (Int64) × (Int32)) => match u with | (jf2, js2, jb2, bl2, mv2, nf2, ns2, nb2) => r = nI (bs_cn (bs_cm K fk k) 256) ∧ True) (fun (u : (Int64) × (Int64) × (Int32) × (Nat → Int32) × (Nat → Int32) × (Int64) × (Int64) × (Int32)) t => match u with | (jf2, js2, jb2, bl2, mv2, nf2, ns2, nb2) => va_P (dC, dI) vwCl [(o, .inr (6, [.int (nI 0), .ref xv, .ref xo, .ref xn, .ref xc, .ref xb, .ref xd, .ref xq, .ref xa, .ref xk, .ref xt, .ref xh, .ref xs, .ref xS, .ref xw, .ref xW, .ref xB, .ref xM, .long jf2, .long js2, .int jb2, .long nf2, .long ns2, .int nb2, .ref xf, .ref xg, .ref xi])), (xk, .inl (cI, 320, .inl fk)), (xB, .inl (cI, 16, .inl bl2)), (xM, .inl (cI, 16, .inl mv2)), (xS, .inl (cI, 256, .inl (bs_fn bs_SB))), (xw, .inl (cI, 256, .inl (bs_fn bs_tX))), (xW, .inl (cI, 352, .inl (bs_fn K))), (xt, .inl (cZ, 2, .inl (upd ts k (nI 0)))), (xh, .inl (cZ, 512, .inl (bs_so (bs_chm K fk k) hh k 256))), (xs, .inl (cL, 512, .inr (.inl (bs_so (bs_shm K fk k) ss k 256))))] t.heap ∧ va_K (dC, dI) vwCl [(cI, .int), (cL, .long), (cZ, .boolean)] t ∧ va_D (va_A [(o, .inr (6, [.int th, .ref xv, .ref xo, .ref xn, .ref xc, .ref xb, .ref xd, .ref xq, .ref xa, .ref xk, .ref xt, .ref xh, .ref xs, .ref xS, .ref xw, .ref xW, .ref xB, .ref xM, .long jf, .long js, .int jb, .long nf, .long ns, .int nb, .ref xf, .ref xg, .ref xi])), (xk, .inl (cI, 320, .inl fk)), (xB, .inl (cI, 16, .inl bl)), (xM, .inl (cI, 16, .inl mv)), (xS, .inl (cI, 256, .inl (bs_fn bs_SB))), (xw, .inl (cI, 256, .inl (bs_fn bs_tX))), (xW, .inl (cI, 352, .inl (bs_fn K))), (xt, .inl (cZ, 2, .inl ts)), (xh, .inl (cZ, 512, .inl hh)), (xs, .inl (cL, 512, .inr (.inl ss)))] sz) [(o, .inr (6, [.int (nI 0), .ref xv, .ref xo, .ref xn, .ref xc, .ref xb, .ref xd, .ref xq, .ref xa, .ref xk, .ref xt, .ref xh, .ref xs, .ref xS, .ref xw, .ref xW, .ref xB, .ref xM, .long jf2, .long js2, .int jb2, .long nf2, .long ns2, .int nb2, .ref xf, .ref xg, .ref xi])), (xk, .inl (cI, 320, .inl fk)), (xB, .inl (cI, 16, .inl bl2)), (xM, .inl (cI, 16, .inl mv2)), (xS, .inl (cI, 256, .inl (bs_fn bs_SB))), (xw, .inl (cI, 256, .inl (bs_fn bs_tX))), (xW, .inl (cI, 352, .inl (bs_fn K))), (xt, .inl (cZ, 2, .inl (upd ts k (nI 0)))), (xh, .inl (cZ, 512, .inl (bs_so (bs_chm K fk k) hh k 256))), (xs, .inl (cL, 512, .inr (.inl (bs_so (bs_shm K fk k) ss k 256))))]) (va_A [(o, .inr (6, [.int th, .ref xv, .ref xo, .ref xn, .ref xc, .ref xb, .ref xd, .ref xq, .ref xa, .ref xk, .ref xt, .ref xh, .ref xs, .ref xS, .ref xw, .ref xW, .ref xB, .ref xM, .long jf, .long js, .int jb, .long nf, .long ns, .int nb, .ref xf, .ref xg, .ref xi])), (xk, .inl (cI, 320, .inl fk)), (xB, .inl (cI, 16, .inl bl)), (xM, .inl (cI, 16, .inl mv)), (xS, .inl (cI, 256, .inl (bs_fn bs_SB))), (xw, .inl (cI, 256, .inl (bs_fn bs_tX))), (xW, .inl (cI, 352, .inl (bs_fn K))), (xt, .inl (cZ, 2, .inl ts)), (xh, .inl (cZ, 512, .inl hh)), (xs, .inl (cL, 512, .inr (.inl ss)))] sz)) 0 0 (va_A [(o, .inr (6, [.int th, .ref xv, .ref xo, .ref xn, .ref xc, .ref xb, .ref xd, .ref xq, .ref xa, .ref xk, .ref xt, .ref xh, .ref xs, .ref xS, .ref xw, .ref xW, .ref xB, .ref xM, .long jf, .long js, .int jb, .long nf, .long ns, .int nb, .ref xf, .ref xg, .ref xi])), (xk, .inl (cI, 320, .inl fk)), (xB, .inl (cI, 16, .inl bl)), (xM, .inl (cI, 16, .inl mv)), (xS, .inl (cI, 256, .inl (bs_fn bs_SB))), (xw, .inl (cI, 256, .inl (bs_fn bs_tX))), (xW, .inl (cI, 352, .inl (bs_fn K))), (xt, .inl (cZ, 2, .inl ts)), (xh, .inl (cZ, 512, .inl hh)), (xs, .inl (cL, 512, .inr (.inl ss)))] sz) := by
  refine Met.ofW (cc := cMO_count) (maxL := 3) (ret := (some .int)) (by decide) rfl ?_
  intro p e s m args below meth c s₁ Bo9 hml hv
  obtain ⟨rfl, hsz, hP, hK, hD0⟩ := hv
  have hx := Bo9.exec
  have hb := Bo9.bytes
  have hr := Bo9.returns
  have hts := fun w (h : w ∈ wT) => atoms_spec (ws := wsMO_count) Bo9.pre w (List.mem_cons_of_mem _ h)
  have hown : s.vm.findClass RMO = some m.cls := findClass_of_methodNamed Bo9.named
  have hlocks := Bo9.notSynchronized
  subst hsz
  have hD := hD0.self (sz := s.heap.size)
  generalize hAe : va_A [(o, .inr (6, [.int th, .ref xv, .ref xo, .ref xn, .ref xc, .ref xb, .ref xd, .ref xq, .ref xa, .ref xk, .ref xt, .ref xh, .ref xs, .ref xS, .ref xw, .ref xW, .ref xB, .ref xM, .long jf, .long js, .int jb, .long nf, .long ns, .int nb, .ref xf, .ref xg, .ref xi])), (xk, .inl (cI, 320, .inl fk)), (xB, .inl (cI, 16, .inl bl)), (xM, .inl (cI, 16, .inl mv)), (xS, .inl (cI, 256, .inl (bs_fn bs_SB))), (xw, .inl (cI, 256, .inl (bs_fn bs_tX))), (xW, .inl (cI, 352, .inl (bs_fn K))), (xt, .inl (cZ, 2, .inl ts)), (xh, .inl (cZ, 512, .inl hh)), (xs, .inl (cL, 512, .inr (.inl ss)))] s.heap.size = A at hD ⊢
  have hA : ∀ q : Nat, s.heap.size ≤ q → A q := fun q h => by rw [← hAe]; exact Or.inr h
  have hl := lv_entry ([.ref o, .int (nI k), .int (nI 7)]) (n := 3) (Nat.le_of_ble_eq_true rfl)
  rw [lg_entry_eq]
  generalize (lg_sl ([.ref o, .int (nI k), .int (nI 7)]) ++ List.replicate (3 - (lg_sl ([.ref o, .int (nI k), .int (nI 7)])).length) Slot.unset).toArray = ls at hl ⊢
  have hl : lv_has ls 3 [(0, .ref o), (1, .int (nI k)), (2, .int (nI 7))] := hl
  refine xs_q (fun H Q hH hQ => ?_)
  have hS : va_S A s.heap H [] := by rw [hH]; exact va_S.rf
  have hP : va_P (dC, dI) vwCl [(o, .inr (6, [.int th, .ref xv, .ref xo, .ref xn, .ref xc, .ref xb, .ref xd, .ref xq, .ref xa, .ref xk, .ref xt, .ref xh, .ref xs, .ref xS, .ref xw, .ref xW, .ref xB, .ref xM, .long jf, .long js, .int jb, .long nf, .long ns, .int nb, .ref xf, .ref xg, .ref xi])), (xk, .inl (cI, 320, .inl fk)), (xB, .inl (cI, 16, .inl bl)), (xM, .inl (cI, 16, .inl mv)), (xS, .inl (cI, 256, .inl (bs_fn bs_SB))), (xw, .inl (cI, 256, .inl (bs_fn bs_tX))), (xW, .inl (cI, 352, .inl (bs_fn K))), (xt, .inl (cZ, 2, .inl ts)), (xh, .inl (cZ, 512, .inl hh)), (xs, .inl (cL, 512, .inr (.inl ss)))] H := by rw [hH]; exact hP
  refine lv_aload_n hx hb dMO_count_0 rfl (lv_at hl 0 rfl) ?_
  refine lv_iconst (v := nI 0) hx hb dMO_count_1 (by decide) ?_
  refine va_put (D := (dC, dI)) (ci := 6) (v := .int (nI 0)) (ty := .int) (C := RMO) (T := TMO) (N := 27) hx hb hts in_MO tyMO tyMO_ok nmMO hown hK hP hD hS 0 rfl rfl 0 (by decide) (hts _ w_f_MO_87) (fun _ h9 => h9) rfl (by decide +kernel) (rfl) (rfl) (Nat.le_of_ble_eq_true rfl) dMO_count_2 (fun H locs hP hD hS => ?_)
  have hP : va_P (dC, dI) vwCl [(o, .inr (6, [.int (nI 0), .ref xv, .ref xo, .ref xn, .ref xc, .ref xb, .ref xd, .ref xq, .ref xa, .ref xk, .ref xt, .ref xh, .ref xs, .ref xS, .ref xw, .ref xW, .ref xB, .ref xM, .long jf, .long js, .int jb, .long nf, .long ns, .int nb, .ref xf, .ref xg, .ref xi])), (xk, .inl (cI, 320, .inl fk)), (xB, .inl (cI, 16, .inl bl)), (xM, .inl (cI, 16, .inl mv)), (xS, .inl (cI, 256, .inl (bs_fn bs_SB))), (xw, .inl (cI, 256, .inl (bs_fn bs_tX))), (xW, .inl (cI, 352, .inl (bs_fn K))), (xt, .inl (cZ, 2, .inl ts)), (xh, .inl (cZ, 512, .inl hh)), (xs, .inl (cL, 512, .inr (.inl ss)))] H := hP
  have hD : va_D A [(o, .inr (6, [.int (nI 0), .ref xv, .ref xo, .ref xn, .ref xc, .ref xb, .ref xd, .ref xq, .ref xa, .ref xk, .ref xt, .ref xh, .ref xs, .ref xS, .ref xw, .ref xW, .ref xB, .ref xM, .long jf, .long js, .int jb, .long nf, .long ns, .int nb, .ref xf, .ref xg, .ref xi])), (xk, .inl (cI, 320, .inl fk)), (xB, .inl (cI, 16, .inl bl)), (xM, .inl (cI, 16, .inl mv)), (xS, .inl (cI, 256, .inl (bs_fn bs_SB))), (xw, .inl (cI, 256, .inl (bs_fn bs_tX))), (xW, .inl (cI, 352, .inl (bs_fn K))), (xt, .inl (cZ, 2, .inl ts)), (xh, .inl (cZ, 512, .inl hh)), (xs, .inl (cL, 512, .inr (.inl ss)))] := hD
  refine lv_iload_n hx hb dMO_count_5 rfl (lv_at hl 1 rfl) ?_
  have hs9 : bs_ii (nI k) 2 = true := bs_ii_n hk (by omega)
  have hPc := hP.sub (ws' := []) [] rfl
  have hDc := hD.sub (ws' := []) [] (by decide) rfl
  have hKc := hK.sub (tys' := []) [] rfl
  have hFc := va_free (wc := []) hD hS hA [] rfl
  refine va_calli (va_runS (As := [.int (nI k)]) (rest := []) ⟨hx, hb, hml, hown, hts⟩ (c_MO_isServer l dC dI H.size (nI k)) (va_cwS 1 hts (wT_3 w_m_MO_164 w_t_MO_isServer w_n_MO w_c_MO_isServer) rfl rfl rfl (by decide +kernel) ⟨Nat.le_of_ble_eq_true rfl, Nat.le_of_ble_eq_true rfl⟩) ⟨fun a U g mk q => by obtain ⟨q0, q1, qP, qK, qD⟩ := q; exact ⟨q0, q1, qP, va_K.moved (u := U) (U := U.calling g mk a) (Vm.Alike.refl U.vm) qK, qD⟩, fun U hU hW => ⟨rfl, by rw [hU], by rw [hU]; exact hPc, va_K.moved hW.alike hKc, hDc.weaken (fun _ _ _ _ => trivial)⟩⟩ rfl rfl hl.1 rfl (lv_room (Nat.le_of_ble_eq_true rfl)) dMO_count_6 ⟨Nat.zero_le _, Nat.zero_le _⟩) hS (fun q _ h => hFc q h) hFc (fun r u t H1 locs ht hvm hw hB hz1 hk1 hS => ?_)
  obtain ⟨hP1, hK1, hD1⟩ := hB
  rw [ht] at hP1
  have hK1 := va_K.moved hvm.symm hK1
  have hw : r = bs_z (bs_ii (nI k) 2) := hw
  subst hw
  obtain ⟨hP, hD⟩ := va_join (wr := [(o, .inr (6, [.int (nI 0), .ref xv, .ref xo, .ref xn, .ref xc, .ref xb, .ref xd, .ref xq, .ref xa, .ref xk, .ref xt, .ref xh, .ref xs, .ref xS, .ref xw, .ref xW, .ref xB, .ref xM, .long jf, .long js, .int jb, .long nf, .long ns, .int nb, .ref xf, .ref xg, .ref xi])), (xk, .inl (cI, 320, .inl fk)), (xB, .inl (cI, 16, .inl bl)), (xM, .inl (cI, 16, .inl mv)), (xS, .inl (cI, 256, .inl (bs_fn bs_SB))), (xw, .inl (cI, 256, .inl (bs_fn bs_tX))), (xW, .inl (cI, 352, .inl (bs_fn K))), (xt, .inl (cZ, 2, .inl ts)), (xh, .inl (cZ, 512, .inl hh)), (xs, .inl (cL, 512, .inr (.inl ss)))]) (w1 := []) hP hD [] [0, 1, 2, 3, 4, 5, 6, 7, 8, 9] rfl rfl (by decide) (by decide) hk1 hFc hP1 hD1
  generalize H1 = H at hP hS ⊢
  have hP : va_P (dC, dI) vwCl [(o, .inr (6, [.int (nI 0), .ref xv, .ref xo, .ref xn, .ref xc, .ref xb, .ref xd, .ref xq, .ref xa, .ref xk, .ref xt, .ref xh, .ref xs, .ref xS, .ref xw, .ref xW, .ref xB, .ref xM, .long jf, .long js, .int jb, .long nf, .long ns, .int nb, .ref xf, .ref xg, .ref xi])), (xk, .inl (cI, 320, .inl fk)), (xB, .inl (cI, 16, .inl bl)), (xM, .inl (cI, 16, .inl mv)), (xS, .inl (cI, 256, .inl (bs_fn bs_SB))), (xw, .inl (cI, 256, .inl (bs_fn bs_tX))), (xW, .inl (cI, 352, .inl (bs_fn K))), (xt, .inl (cZ, 2, .inl ts)), (xh, .inl (cZ, 512, .inl hh)), (xs, .inl (cL, 512, .inr (.inl ss)))] H := hP
  have hD : va_D A [(o, .inr (6, [.int (nI 0), .ref xv, .ref xo, .ref xn, .ref xc, .ref xb, .ref xd, .ref xq, .ref xa, .ref xk, .ref xt, .ref xh, .ref xs, .ref xS, .ref xw, .ref xW, .ref xB, .ref xM, .long jf, .long js, .int jb, .long nf, .long ns, .int nb, .ref xf, .ref xg, .ref xi])), (xk, .inl (cI, 320, .inl fk)), (xB, .inl (cI, 16, .inl bl)), (xM, .inl (cI, 16, .inl mv)), (xS, .inl (cI, 256, .inl (bs_fn bs_SB))), (xw, .inl (cI, 256, .inl (bs_fn bs_tX))), (xW, .inl (cI, 352, .inl (bs_fn K))), (xt, .inl (cZ, 2, .inl ts)), (xh, .inl (cZ, 512, .inl hh)), (xs, .inl (cL, 512, .inr (.inl ss)))] := hD
  refine xt_i (y := nI 1) (by rw [hs9]; rfl) ?_
  refine lv_if_ne (tgt := 14) hx hb dMO_count_9 (by decide) (fun _ => ?_) (fun h => absurd h (by decide +kernel))
  refine lv_iload_n hx hb dMO_count_14 rfl (lv_at hl 2 rfl) ?_
  refine xs_sw (off := 120) (tgt := 135) hx hb dMO_count_15 (Or.inl ⟨by decide +kernel, by decide +kernel⟩) (by decide) ?_
  refine lv_aload_n hx hb dMO_count_135 rfl (lv_at hl 0 rfl) ?_
  refine lv_iload_n hx hb dMO_count_136 rfl (lv_at hl 1 rfl) ?_
  have hPc := hP.sub (ws' := [(o, .inr (6, [.int (nI 0), .ref xv, .ref xo, .ref xn, .ref xc, .ref xb, .ref xd, .ref xq, .ref xa, .ref xk, .ref xt, .ref xh, .ref xs, .ref xS, .ref xw, .ref xW, .ref xB, .ref xM, .long jf, .long js, .int jb, .long nf, .long ns, .int nb, .ref xf, .ref xg, .ref xi])), (xk, .inl (cI, 320, .inl fk)), (xB, .inl (cI, 16, .inl bl)), (xM, .inl (cI, 16, .inl mv)), (xS, .inl (cI, 256, .inl (bs_fn bs_SB))), (xw, .inl (cI, 256, .inl (bs_fn bs_tX))), (xW, .inl (cI, 352, .inl (bs_fn K))), (xt, .inl (cZ, 2, .inl ts)), (xh, .inl (cZ, 512, .inl hh)), (xs, .inl (cL, 512, .inr (.inl ss)))]) [0, 1, 2, 3, 4, 5, 6, 7, 8, 9] rfl
  have hDc := hD.sub (ws' := [(o, .inr (6, [.int (nI 0), .ref xv, .ref xo, .ref xn, .ref xc, .ref xb, .ref xd, .ref xq, .ref xa, .ref xk, .ref xt, .ref xh, .ref xs, .ref xS, .ref xw, .ref xW, .ref xB, .ref xM, .long jf, .long js, .int jb, .long nf, .long ns, .int nb, .ref xf, .ref xg, .ref xi])), (xk, .inl (cI, 320, .inl fk)), (xB, .inl (cI, 16, .inl bl)), (xM, .inl (cI, 16, .inl mv)), (xS, .inl (cI, 256, .inl (bs_fn bs_SB))), (xw, .inl (cI, 256, .inl (bs_fn bs_tX))), (xW, .inl (cI, 352, .inl (bs_fn K))), (xt, .inl (cZ, 2, .inl ts)), (xh, .inl (cZ, 512, .inl hh)), (xs, .inl (cL, 512, .inr (.inl ss)))]) [0, 1, 2, 3, 4, 5, 6, 7, 8, 9] (by decide) rfl
  have hKc := hK.sub (tys' := [(cI, .int), (cL, .long), (cZ, .boolean)]) [0, 1, 2] rfl
  have hFc := va_free (wc := [(o, .inr (6, [.int (nI 0), .ref xv, .ref xo, .ref xn, .ref xc, .ref xb, .ref xd, .ref xq, .ref xa, .ref xk, .ref xt, .ref xh, .ref xs, .ref xS, .ref xw, .ref xW, .ref xB, .ref xM, .long jf, .long js, .int jb, .long nf, .long ns, .int nb, .ref xf, .ref xg, .ref xi])), (xk, .inl (cI, 320, .inl fk)), (xB, .inl (cI, 16, .inl bl)), (xM, .inl (cI, 16, .inl mv)), (xS, .inl (cI, 256, .inl (bs_fn bs_SB))), (xw, .inl (cI, 256, .inl (bs_fn bs_tX))), (xW, .inl (cI, 352, .inl (bs_fn K))), (xt, .inl (cZ, 2, .inl ts)), (xh, .inl (cZ, 512, .inl hh)), (xs, .inl (cL, 512, .inr (.inl ss)))]) hD hS hA [0, 1, 2, 3, 4, 5, 6, 7, 8, 9] rfl
  refine va_calli (va_runV (C := RMO) (As := [.int (nI k)]) (rest := []) ⟨hx, hb, hml, hown, hts⟩ (c_MO_chosen_y l dC dI H.size o xv xo xn xc xb xd xq xa xk xt xh xs xS xw xW xB xM xf xg xi (nI 0) jf js jb nf ns nb cI cL cZ K fk k bl mv ts hh ss hk hKw hst hby hg) (cwV (C := RMO) 1 hts (wT_4 w_m_MO_196 w_i_MO_chosen w_s_MO_chosen w_n_MO w_c_MO_chosen) rfl rfl rfl (by decide +kernel) ⟨Nat.le_of_ble_eq_true rfl, Nat.le_of_ble_eq_true rfl⟩) ⟨fun a U g mk q => by obtain ⟨q0, q1, qP, qK, qD⟩ := q; exact ⟨q0, q1, qP, va_K.moved (u := U) (U := U.calling g mk a) (Vm.Alike.refl U.vm) qK, qD⟩, va_recv hK hP (q0 := 0) (ci := 6) (q := (RMO, TMO, 27)) rfl rfl, fun U hU hW => ⟨rfl, by rw [hU], by rw [hU]; exact hPc, va_K.moved hW.alike hKc, hDc.weaken (fun _ _ _ _ => trivial)⟩⟩ rfl rfl hl.1 rfl (lv_room (Nat.le_of_ble_eq_true rfl)) dMO_count_137 ⟨Nat.zero_le _, Nat.zero_le _⟩) hS (fun q _ h => hFc q h) hFc (fun r u t H1 locs ht hvm hw hB hz1 hk1 hS => ?_)
  obtain ⟨jf2, js2, jb2, bl2, mv2, nf2, ns2, nb2⟩ := u
  obtain ⟨hP1, hK1, hD1⟩ := hB
  rw [ht] at hP1
  have hK1 := va_K.moved hvm.symm hK1
  obtain ⟨hw, hw9⟩ : r = nI (bs_cn (bs_cm K fk k) 256) ∧ True := hw
  subst hw
  obtain ⟨hP, hD⟩ := va_join (wr := []) (w1 := [(o, .inr (6, [.int (nI 0), .ref xv, .ref xo, .ref xn, .ref xc, .ref xb, .ref xd, .ref xq, .ref xa, .ref xk, .ref xt, .ref xh, .ref xs, .ref xS, .ref xw, .ref xW, .ref xB, .ref xM, .long jf2, .long js2, .int jb2, .long nf2, .long ns2, .int nb2, .ref xf, .ref xg, .ref xi])), (xk, .inl (cI, 320, .inl fk)), (xB, .inl (cI, 16, .inl bl2)), (xM, .inl (cI, 16, .inl mv2)), (xS, .inl (cI, 256, .inl (bs_fn bs_SB))), (xw, .inl (cI, 256, .inl (bs_fn bs_tX))), (xW, .inl (cI, 352, .inl (bs_fn K))), (xt, .inl (cZ, 2, .inl (upd ts k (nI 0)))), (xh, .inl (cZ, 512, .inl (bs_so (bs_chm K fk k) hh k 256))), (xs, .inl (cL, 512, .inr (.inl (bs_so (bs_shm K fk k) ss k 256))))]) hP hD [0, 1, 2, 3, 4, 5, 6, 7, 8, 9] [] rfl rfl (by decide) (by decide) hk1 hFc hP1 hD1
  generalize H1 = H at hP hS ⊢
  have hP : va_P (dC, dI) vwCl [(o, .inr (6, [.int (nI 0), .ref xv, .ref xo, .ref xn, .ref xc, .ref xb, .ref xd, .ref xq, .ref xa, .ref xk, .ref xt, .ref xh, .ref xs, .ref xS, .ref xw, .ref xW, .ref xB, .ref xM, .long jf2, .long js2, .int jb2, .long nf2, .long ns2, .int nb2, .ref xf, .ref xg, .ref xi])), (xk, .inl (cI, 320, .inl fk)), (xB, .inl (cI, 16, .inl bl2)), (xM, .inl (cI, 16, .inl mv2)), (xS, .inl (cI, 256, .inl (bs_fn bs_SB))), (xw, .inl (cI, 256, .inl (bs_fn bs_tX))), (xW, .inl (cI, 352, .inl (bs_fn K))), (xt, .inl (cZ, 2, .inl (upd ts k (nI 0)))), (xh, .inl (cZ, 512, .inl (bs_so (bs_chm K fk k) hh k 256))), (xs, .inl (cL, 512, .inr (.inl (bs_so (bs_shm K fk k) ss k 256))))] H := hP
  have hD : va_D A [(o, .inr (6, [.int (nI 0), .ref xv, .ref xo, .ref xn, .ref xc, .ref xb, .ref xd, .ref xq, .ref xa, .ref xk, .ref xt, .ref xh, .ref xs, .ref xS, .ref xw, .ref xW, .ref xB, .ref xM, .long jf2, .long js2, .int jb2, .long nf2, .long ns2, .int nb2, .ref xf, .ref xg, .ref xi])), (xk, .inl (cI, 320, .inl fk)), (xB, .inl (cI, 16, .inl bl2)), (xM, .inl (cI, 16, .inl mv2)), (xS, .inl (cI, 256, .inl (bs_fn bs_SB))), (xw, .inl (cI, 256, .inl (bs_fn bs_tX))), (xW, .inl (cI, 352, .inl (bs_fn K))), (xt, .inl (cZ, 2, .inl (upd ts k (nI 0)))), (xh, .inl (cZ, 512, .inl (bs_so (bs_chm K fk k) hh k 256))), (xs, .inl (cL, 512, .inr (.inl (bs_so (bs_shm K fk k) ss k 256))))] := hD
  subst hQ
  exact W.iret (v := nI (bs_cn (bs_cm K fk k) 256)) hx hb hr (fun t ht hW => ⟨⟨nI (bs_cn (bs_cm K fk k) 256), (jf2, js2, jb2, bl2, mv2, nf2, ns2, nb2), rfl, ⟨rfl, trivial⟩, by rw [ht]; exact hP, va_K.moved hW.alike hK, hD⟩, hS.F ht⟩) hS.2.2 dMO_count_140
set_option maxHeartbeats 4000000 in
set_option maxRecDepth 100000 in
theorem c_MO_count_7b (l : Launch) (dC : Nat → ClassId) (dI : Nat → Nat → Nat) (sz : Nat) (o xv xo xn xc xb xd xq xa xk xt xh xs xS xw xW xB xM xf xg xi : Nat) (th : Int32) (jf js : Int64) (jb : Int32) (nf ns : Int64) (nb : Int32) (cI : ClassId) (fk : Nat → Int32) (k : Nat) (hk : k < 2) (hby : ∀ j, j < 320 → ∃ n, n < 256 ∧ fk j = nI n) (hg : bs_gd (bs_kf fk k) 8 = false) : Met l yMO_count wsMO_count { frames := 6, cells := 0, slots := 0, locals := 148 } (va_Pc [.ref o, .int (nI k), .int (nI 7)] (fun U => U.heap.size = sz ∧ va_P (dC, dI) vwCl [(o, .inr (6, [.int th, .ref xv, .ref xo, .ref xn, .ref xc, .ref xb, .ref xd, .ref xq, .ref xa, .ref xk, .ref xt, .ref xh, .ref xs, .ref xS, .ref xw, .ref xW, .ref xB, .ref xM, .long jf, .long js, .int jb, .long nf, .long ns, .int nb, .ref xf, .ref xg, .ref xi])), (xk, .inl (cI, 320, .inl fk))] U.heap ∧ va_K (dC, dI) vwCl [(cI, .int)] U ∧ va_D (fun _ => True) [(o, .inr (6, [.int th, .ref xv, .ref xo, .ref xn, .ref xc, .ref xb, .ref xd, .ref xq, .ref xa, .ref xk, .ref xt, .ref xh, .ref xs, .ref xS, .ref xw, .ref xW, .ref xB, .ref xM, .long jf, .long js, .int jb, .long nf, .long ns, .int nb, .ref xf, .ref xg, .ref xi])), (xk, .inl (cI, 320, .inl fk))])) (va_Qi (fun (r : Int32) (_ : Unit) => r = (-1)) (fun (_ : Unit) t => va_P (dC, dI) vwCl [(o, .inr (6, [.int (nI 0), .ref xv, .ref xo, .ref xn, .ref xc, .ref xb, .ref xd, .ref xq, .ref xa, .ref xk, .ref xt, .ref xh, .ref xs, .ref xS, .ref xw, .ref xW, .ref xB, .ref xM, .long jf, .long js, .int jb, .long nf, .long ns, .int nb, .ref xf, .ref xg, .ref xi])), (xk, .inl (cI, 320, .inl fk))] t.heap ∧ va_K (dC, dI) vwCl [(cI, .int)] t ∧ va_D (va_A [(o, .inr (6, [.int th, .ref xv, .ref xo, .ref xn, .ref xc, .ref xb, .ref xd, .ref xq, .ref xa, .ref xk, .ref xt, .ref xh, .ref xs, .ref xS, .ref xw, .ref xW, .ref xB, .ref xM, .long jf, .long js, .int jb, .long nf, .long ns, .int nb, .ref xf, .ref xg, .ref xi])), (xk, .inl (cI, 320, .inl fk))] sz) [(o, .inr (6, [.int (nI 0), .ref xv, .ref xo, .ref xn, .ref xc, .ref xb, .ref xd, .ref xq, .ref xa, .ref xk, .ref xt, .ref xh, .ref xs, .ref xS, .ref xw, .ref xW, .ref xB, .ref xM, .long jf, .long js, .int jb, .long nf, .long ns, .int nb, .ref xf, .ref xg, .ref xi])), (xk, .inl (cI, 320, .inl fk))]) (va_A [(o, .inr (6, [.int th, .ref xv, .ref xo, .ref xn, .ref xc, .ref xb, .ref xd, .ref xq, .ref xa, .ref xk, .ref xt, .ref xh, .ref xs, .ref xS, .ref xw, .ref xW, .ref xB, .ref xM, .long jf, .long js, .int jb, .long nf, .long ns, .int nb, .ref xf, .ref xg, .ref xi])), (xk, .inl (cI, 320, .inl fk))] sz)) 0 0 (va_A [(o, .inr (6, [.int th, .ref xv, .ref xo, .ref xn, .ref xc, .ref xb, .ref xd, .ref xq, .ref xa, .ref xk, .ref xt, .ref xh, .ref xs, .ref xS, .ref xw, .ref xW, .ref xB, .ref xM, .long jf, .long js, .int jb, .long nf, .long ns, .int nb, .ref xf, .ref xg, .ref xi])), (xk, .inl (cI, 320, .inl fk))] sz) := by
  refine Met.ofW (cc := cMO_count) (maxL := 3) (ret := (some .int)) (by decide) rfl ?_
  intro p e s m args below meth c s₁ Bo9 hml hv
  obtain ⟨rfl, hsz, hP, hK, hD0⟩ := hv
  have hx := Bo9.exec
  have hb := Bo9.bytes
  have hr := Bo9.returns
  have hts := fun w (h : w ∈ wT) => atoms_spec (ws := wsMO_count) Bo9.pre w (List.mem_cons_of_mem _ h)
  have hown : s.vm.findClass RMO = some m.cls := findClass_of_methodNamed Bo9.named
  have hlocks := Bo9.notSynchronized
  subst hsz
  have hD := hD0.self (sz := s.heap.size)
  generalize hAe : va_A [(o, .inr (6, [.int th, .ref xv, .ref xo, .ref xn, .ref xc, .ref xb, .ref xd, .ref xq, .ref xa, .ref xk, .ref xt, .ref xh, .ref xs, .ref xS, .ref xw, .ref xW, .ref xB, .ref xM, .long jf, .long js, .int jb, .long nf, .long ns, .int nb, .ref xf, .ref xg, .ref xi])), (xk, .inl (cI, 320, .inl fk))] s.heap.size = A at hD ⊢
  have hA : ∀ q : Nat, s.heap.size ≤ q → A q := fun q h => by rw [← hAe]; exact Or.inr h
  have hl := lv_entry ([.ref o, .int (nI k), .int (nI 7)]) (n := 3) (Nat.le_of_ble_eq_true rfl)
  rw [lg_entry_eq]
  generalize (lg_sl ([.ref o, .int (nI k), .int (nI 7)]) ++ List.replicate (3 - (lg_sl ([.ref o, .int (nI k), .int (nI 7)])).length) Slot.unset).toArray = ls at hl ⊢
  have hl : lv_has ls 3 [(0, .ref o), (1, .int (nI k)), (2, .int (nI 7))] := hl
  refine xs_q (fun H Q hH hQ => ?_)
  have hS : va_S A s.heap H [] := by rw [hH]; exact va_S.rf
  have hP : va_P (dC, dI) vwCl [(o, .inr (6, [.int th, .ref xv, .ref xo, .ref xn, .ref xc, .ref xb, .ref xd, .ref xq, .ref xa, .ref xk, .ref xt, .ref xh, .ref xs, .ref xS, .ref xw, .ref xW, .ref xB, .ref xM, .long jf, .long js, .int jb, .long nf, .long ns, .int nb, .ref xf, .ref xg, .ref xi])), (xk, .inl (cI, 320, .inl fk))] H := by rw [hH]; exact hP
  refine lv_aload_n hx hb dMO_count_0 rfl (lv_at hl 0 rfl) ?_
  refine lv_iconst (v := nI 0) hx hb dMO_count_1 (by decide) ?_
  refine va_put (D := (dC, dI)) (ci := 6) (v := .int (nI 0)) (ty := .int) (C := RMO) (T := TMO) (N := 27) hx hb hts in_MO tyMO tyMO_ok nmMO hown hK hP hD hS 0 rfl rfl 0 (by decide) (hts _ w_f_MO_87) (fun _ h9 => h9) rfl (by decide +kernel) (rfl) (rfl) (Nat.le_of_ble_eq_true rfl) dMO_count_2 (fun H locs hP hD hS => ?_)
  have hP : va_P (dC, dI) vwCl [(o, .inr (6, [.int (nI 0), .ref xv, .ref xo, .ref xn, .ref xc, .ref xb, .ref xd, .ref xq, .ref xa, .ref xk, .ref xt, .ref xh, .ref xs, .ref xS, .ref xw, .ref xW, .ref xB, .ref xM, .long jf, .long js, .int jb, .long nf, .long ns, .int nb, .ref xf, .ref xg, .ref xi])), (xk, .inl (cI, 320, .inl fk))] H := hP
  have hD : va_D A [(o, .inr (6, [.int (nI 0), .ref xv, .ref xo, .ref xn, .ref xc, .ref xb, .ref xd, .ref xq, .ref xa, .ref xk, .ref xt, .ref xh, .ref xs, .ref xS, .ref xw, .ref xW, .ref xB, .ref xM, .long jf, .long js, .int jb, .long nf, .long ns, .int nb, .ref xf, .ref xg, .ref xi])), (xk, .inl (cI, 320, .inl fk))] := hD
  refine lv_iload_n hx hb dMO_count_5 rfl (lv_at hl 1 rfl) ?_
  have hs9 : bs_ii (nI k) 2 = true := bs_ii_n hk (by omega)
  have hPc := hP.sub (ws' := []) [] rfl
  have hDc := hD.sub (ws' := []) [] (by decide) rfl
  have hKc := hK.sub (tys' := []) [] rfl
  have hFc := va_free (wc := []) hD hS hA [] rfl
  refine va_calli (va_runS (As := [.int (nI k)]) (rest := []) ⟨hx, hb, hml, hown, hts⟩ (c_MO_isServer l dC dI H.size (nI k)) (va_cwS 1 hts (wT_3 w_m_MO_164 w_t_MO_isServer w_n_MO w_c_MO_isServer) rfl rfl rfl (by decide +kernel) ⟨Nat.le_of_ble_eq_true rfl, Nat.le_of_ble_eq_true rfl⟩) ⟨fun a U g mk q => by obtain ⟨q0, q1, qP, qK, qD⟩ := q; exact ⟨q0, q1, qP, va_K.moved (u := U) (U := U.calling g mk a) (Vm.Alike.refl U.vm) qK, qD⟩, fun U hU hW => ⟨rfl, by rw [hU], by rw [hU]; exact hPc, va_K.moved hW.alike hKc, hDc.weaken (fun _ _ _ _ => trivial)⟩⟩ rfl rfl hl.1 rfl (lv_room (Nat.le_of_ble_eq_true rfl)) dMO_count_6 ⟨Nat.zero_le _, Nat.zero_le _⟩) hS (fun q _ h => hFc q h) hFc (fun r u t H1 locs ht hvm hw hB hz1 hk1 hS => ?_)
  obtain ⟨hP1, hK1, hD1⟩ := hB
  rw [ht] at hP1
  have hK1 := va_K.moved hvm.symm hK1
  have hw : r = bs_z (bs_ii (nI k) 2) := hw
  subst hw
  obtain ⟨hP, hD⟩ := va_join (wr := [(o, .inr (6, [.int (nI 0), .ref xv, .ref xo, .ref xn, .ref xc, .ref xb, .ref xd, .ref xq, .ref xa, .ref xk, .ref xt, .ref xh, .ref xs, .ref xS, .ref xw, .ref xW, .ref xB, .ref xM, .long jf, .long js, .int jb, .long nf, .long ns, .int nb, .ref xf, .ref xg, .ref xi])), (xk, .inl (cI, 320, .inl fk))]) (w1 := []) hP hD [] [0, 1] rfl rfl (by decide) (by decide) hk1 hFc hP1 hD1
  generalize H1 = H at hP hS ⊢
  have hP : va_P (dC, dI) vwCl [(o, .inr (6, [.int (nI 0), .ref xv, .ref xo, .ref xn, .ref xc, .ref xb, .ref xd, .ref xq, .ref xa, .ref xk, .ref xt, .ref xh, .ref xs, .ref xS, .ref xw, .ref xW, .ref xB, .ref xM, .long jf, .long js, .int jb, .long nf, .long ns, .int nb, .ref xf, .ref xg, .ref xi])), (xk, .inl (cI, 320, .inl fk))] H := hP
  have hD : va_D A [(o, .inr (6, [.int (nI 0), .ref xv, .ref xo, .ref xn, .ref xc, .ref xb, .ref xd, .ref xq, .ref xa, .ref xk, .ref xt, .ref xh, .ref xs, .ref xS, .ref xw, .ref xW, .ref xB, .ref xM, .long jf, .long js, .int jb, .long nf, .long ns, .int nb, .ref xf, .ref xg, .ref xi])), (xk, .inl (cI, 320, .inl fk))] := hD
  refine xt_i (y := nI 1) (by rw [hs9]; rfl) ?_
  refine lv_if_ne (tgt := 14) hx hb dMO_count_9 (by decide) (fun _ => ?_) (fun h => absurd h (by decide +kernel))
  refine lv_iload_n hx hb dMO_count_14 rfl (lv_at hl 2 rfl) ?_
  refine xs_sw (off := 120) (tgt := 135) hx hb dMO_count_15 (Or.inl ⟨by decide +kernel, by decide +kernel⟩) (by decide) ?_
  refine lv_aload_n hx hb dMO_count_135 rfl (lv_at hl 0 rfl) ?_
  refine lv_iload_n hx hb dMO_count_136 rfl (lv_at hl 1 rfl) ?_
  have hPc := hP.sub (ws' := [(o, .inr (6, [.int (nI 0), .ref xv, .ref xo, .ref xn, .ref xc, .ref xb, .ref xd, .ref xq, .ref xa, .ref xk, .ref xt, .ref xh, .ref xs, .ref xS, .ref xw, .ref xW, .ref xB, .ref xM, .long jf, .long js, .int jb, .long nf, .long ns, .int nb, .ref xf, .ref xg, .ref xi])), (xk, .inl (cI, 320, .inl fk))]) [0, 1] rfl
  have hDc := hD.sub (ws' := [(o, .inr (6, [.int (nI 0), .ref xv, .ref xo, .ref xn, .ref xc, .ref xb, .ref xd, .ref xq, .ref xa, .ref xk, .ref xt, .ref xh, .ref xs, .ref xS, .ref xw, .ref xW, .ref xB, .ref xM, .long jf, .long js, .int jb, .long nf, .long ns, .int nb, .ref xf, .ref xg, .ref xi])), (xk, .inl (cI, 320, .inl fk))]) [0, 1] (by decide) rfl
  have hKc := hK.sub (tys' := [(cI, .int)]) [0] rfl
  have hFc := va_free (wc := [(o, .inr (6, [.int (nI 0), .ref xv, .ref xo, .ref xn, .ref xc, .ref xb, .ref xd, .ref xq, .ref xa, .ref xk, .ref xt, .ref xh, .ref xs, .ref xS, .ref xw, .ref xW, .ref xB, .ref xM, .long jf, .long js, .int jb, .long nf, .long ns, .int nb, .ref xf, .ref xg, .ref xi])), (xk, .inl (cI, 320, .inl fk))]) hD hS hA [0, 1] rfl
  refine va_calli (va_runV (C := RMO) (As := [.int (nI k)]) (rest := []) ⟨hx, hb, hml, hown, hts⟩ (c_MO_chosen_b l dC dI H.size o xv xo xn xc xb xd xq xa xk xt xh xs xS xw xW xB xM xf xg xi (nI 0) jf js jb nf ns nb cI fk k hk hby hg) (cwV (C := RMO) 1 hts (wT_4 w_m_MO_196 w_i_MO_chosen w_s_MO_chosen w_n_MO w_c_MO_chosen) rfl rfl rfl (by decide +kernel) ⟨Nat.le_of_ble_eq_true rfl, Nat.le_of_ble_eq_true rfl⟩) ⟨fun a U g mk q => by obtain ⟨q0, q1, qP, qK, qD⟩ := q; exact ⟨q0, q1, qP, va_K.moved (u := U) (U := U.calling g mk a) (Vm.Alike.refl U.vm) qK, qD⟩, va_recv hK hP (q0 := 0) (ci := 6) (q := (RMO, TMO, 27)) rfl rfl, fun U hU hW => ⟨rfl, by rw [hU], by rw [hU]; exact hPc, va_K.moved hW.alike hKc, hDc.weaken (fun _ _ _ _ => trivial)⟩⟩ rfl rfl hl.1 rfl (lv_room (Nat.le_of_ble_eq_true rfl)) dMO_count_137 ⟨Nat.zero_le _, Nat.zero_le _⟩) hS (fun q _ h => hFc q h) hFc (fun r u t H1 locs ht hvm hw hB hz1 hk1 hS => ?_)
  obtain ⟨hP1, hK1, hD1⟩ := hB
  rw [ht] at hP1
  have hK1 := va_K.moved hvm.symm hK1
  have hw : r = (-1) := hw
  subst hw
  obtain ⟨hP, hD⟩ := va_join (wr := []) (w1 := [(o, .inr (6, [.int (nI 0), .ref xv, .ref xo, .ref xn, .ref xc, .ref xb, .ref xd, .ref xq, .ref xa, .ref xk, .ref xt, .ref xh, .ref xs, .ref xS, .ref xw, .ref xW, .ref xB, .ref xM, .long jf, .long js, .int jb, .long nf, .long ns, .int nb, .ref xf, .ref xg, .ref xi])), (xk, .inl (cI, 320, .inl fk))]) hP hD [0, 1] [] rfl rfl (by decide) (by decide) hk1 hFc hP1 hD1
  generalize H1 = H at hP hS ⊢
  have hP : va_P (dC, dI) vwCl [(o, .inr (6, [.int (nI 0), .ref xv, .ref xo, .ref xn, .ref xc, .ref xb, .ref xd, .ref xq, .ref xa, .ref xk, .ref xt, .ref xh, .ref xs, .ref xS, .ref xw, .ref xW, .ref xB, .ref xM, .long jf, .long js, .int jb, .long nf, .long ns, .int nb, .ref xf, .ref xg, .ref xi])), (xk, .inl (cI, 320, .inl fk))] H := hP
  have hD : va_D A [(o, .inr (6, [.int (nI 0), .ref xv, .ref xo, .ref xn, .ref xc, .ref xb, .ref xd, .ref xq, .ref xa, .ref xk, .ref xt, .ref xh, .ref xs, .ref xS, .ref xw, .ref xW, .ref xB, .ref xM, .long jf, .long js, .int jb, .long nf, .long ns, .int nb, .ref xf, .ref xg, .ref xi])), (xk, .inl (cI, 320, .inl fk))] := hD
  have hP : va_P (dC, dI) vwCl [(o, .inr (6, [.int (nI 0), .ref xv, .ref xo, .ref xn, .ref xc, .ref xb, .ref xd, .ref xq, .ref xa, .ref xk, .ref xt, .ref xh, .ref xs, .ref xS, .ref xw, .ref xW, .ref xB, .ref xM, .long jf, .long js, .int jb, .long nf, .long ns, .int nb, .ref xf, .ref xg, .ref xi])), (xk, .inl (cI, 320, .inl fk))] H := hP
  have hD : va_D A [(o, .inr (6, [.int (nI 0), .ref xv, .ref xo, .ref xn, .ref xc, .ref xb, .ref xd, .ref xq, .ref xa, .ref xk, .ref xt, .ref xh, .ref xs, .ref xS, .ref xw, .ref xW, .ref xB, .ref xM, .long jf, .long js, .int jb, .long nf, .long ns, .int nb, .ref xf, .ref xg, .ref xi])), (xk, .inl (cI, 320, .inl fk))] := hD
  subst hQ
  exact W.iret (v := (-1)) hx hb hr (fun t ht hW => ⟨⟨(-1), (), rfl, rfl, by rw [ht]; exact hP, va_K.moved hW.alike hK, hD⟩, hS.F ht⟩) hS.2.2 dMO_count_140
