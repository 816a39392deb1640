set_option maxHeartbeats 8000000 in
set_option maxRecDepth 100000 in
theorem lc_put {p : Program} {e : Env} {s : State} {m : MethodId} {below : List Frame} {meth : Method} {c : Code} {l : Launch} {b L : Nat} {sc : Nat → Int32} {dC : Nat → ClassId} {dI : Nat → Nat → Nat} {A : Nat → Prop} {Q : State → Prop} {cI cL cZ cR cJ cK cV : ClassId} (C9 : lc_At p l s m c b L sc dC dI A cI cL cZ cR cJ cK cV) {t9 k9 n9 : Nat} (ht9 : 12 * t9 + 12 ≤ L) (hk9 : k9 ≤ 600000) (hn9 : n9 ≤ 7000000) {bo q km ka cs s0 h0 ra0 op0 l0 s1 h1 ra1 op1 l1 o xv xo xn xc xb xd xq xa xk xt xh xs xS xw xW xB xM xf xg xi ou : Nat} {an0 : Int64} {an1 : Int64} {jf : Int64} {js : Int64} {nf : Int64} {ns : Int64} {lc0 : Int32} {lc1 : Int32} {dp0 : Int32} {dp1 : Int32} {qn0 : Int32} {qn1 : Int32} {th : Int32} {jb : Int32} {nb : Int32} {v0 : Nat} {v1 : Nat} {nv : Nat → Int32} {fc : Nat → Int32} {fo0 : Nat → Int64} {fo1 : Nat → Int64} {fv : Nat → Int64} {fp : Nat → Int64} {fr0 : Nat → Nat → Int64} {fr1 : Nat → Nat → Int64} {wt : va_W} {H : Heap} {locs : List Loc} {ls : Array Slot}
    (hP : va_P (dC, dI) vwCl (xj_ap [(bo, .inr (5, [.ref q, .ref km, .ref ka, .ref cs])), (cs, .inl (cV, 2, .inr (.inr (.inr (.inr (bs_gl [s0, s1])))))), (s0, .inr (3, [.ref h0, .ref l0, .long an0, .int dp0, .int qn0])), (h0, .inr (4, [.ref ra0, .ref op0, .int (nI v0), .int lc0])), (op0, .inl (cL, 256, .inr (.inl fo0))), (s1, .inr (3, [.ref h1, .ref l1, .long an1, .int dp1, .int qn1])), (h1, .inr (4, [.ref ra1, .ref op1, .int (nI v1), .int lc1])), (op1, .inl (cL, 256, .inr (.inl fo1))), (o, .inr (6, [.int th, .ref xv, .ref xo, .ref xn, .ref xc, .ref xb, .ref xd, .ref xq, .ref xa, .ref xk, .ref xt, .ref xh, .ref xs, .ref xS, .ref xw, .ref xW, .ref xB, .ref xM, .long jf, .long js, .int jb, .long nf, .long ns, .int nb, .ref xf, .ref xg, .ref xi])), (xo, .inl (cL, 512, .inr (.inl fp)))] wt) H) (hD : va_D A (xj_ap [(bo, .inr (5, [.ref q, .ref km, .ref ka, .ref cs])), (cs, .inl (cV, 2, .inr (.inr (.inr (.inr (bs_gl [s0, s1])))))), (s0, .inr (3, [.ref h0, .ref l0, .long an0, .int dp0, .int qn0])), (h0, .inr (4, [.ref ra0, .ref op0, .int (nI v0), .int lc0])), (op0, .inl (cL, 256, .inr (.inl fo0))), (s1, .inr (3, [.ref h1, .ref l1, .long an1, .int dp1, .int qn1])), (h1, .inr (4, [.ref ra1, .ref op1, .int (nI v1), .int lc1])), (op1, .inl (cL, 256, .inr (.inl fo1))), (o, .inr (6, [.int th, .ref xv, .ref xo, .ref xn, .ref xc, .ref xb, .ref xd, .ref xq, .ref xa, .ref xk, .ref xt, .ref xh, .ref xs, .ref xS, .ref xw, .ref xW, .ref xB, .ref xM, .long jf, .long js, .int jb, .long nf, .long ns, .int nb, .ref xf, .ref xg, .ref xi])), (xo, .inl (cL, 512, .inr (.inl fp)))] wt)) (hS : va_S A s.heap H locs) (hl : lv_has ls 8 [(0, .ref b), (1, .ref bo), (2, .ref o), (3, .ref ou), (4, .int (nI (12 * t9)))]) (hJ : bs_RS 0 t9 v0 lc0 fr0 fo0 fv fp nv fc ∧ bs_RS 1 t9 v1 lc1 fr1 fo1 fv fp nv fc)
    (hk : ∀ (fo0' : Nat → Int64) (fo1' : Nat → Int64) (fp' : Nat → Int64) (th' : Int32) (H : Heap) (locs : List Loc) (ls : Array Slot), (bs_RS 0 t9 v0 lc0 fr0 fo0' fv fp' nv fc ∧ bs_RS 1 t9 v1 lc1 fr1 fo1' fv fp' nv fc) → va_P (dC, dI) vwCl (xj_ap (lc_w_put cL cV bo q km ka cs s0 h0 ra0 op0 l0 s1 h1 ra1 op1 l1 o xv xo xn xc xb xd xq xa xk xt xh xs xS xw xW xB xM xf xg xi an0 an1 jf js nf ns lc0 lc1 dp0 dp1 qn0 qn1 th' jb nb v0 v1 fo0' fo1' fp') wt) H → va_D A (xj_ap (lc_w_put cL cV bo q km ka cs s0 h0 ra0 op0 l0 s1 h1 ra1 op1 l1 o xv xo xn xc xb xd xq xa xk xt xh xs xS xw xW xB xM xf xg xi an0 an1 jf js nf ns lc0 lc1 dp0 dp1 qn0 qn1 th' jb nb v0 v1 fo0' fo1' fp') wt) → va_S A s.heap H locs → lv_has ls 8 [(0, .ref b), (1, .ref bo), (2, .ref o), (3, .ref ou), (4, .int (nI (12 * t9)))] → W p l e room_1 s m #[Value.ref b] below meth c H locs (k9 + 1) (n9 + 6) Q (F0 m 1342 ls [])) :
    W p l e room_1 s m #[Value.ref b] below meth c H locs k9 n9 Q (F0 m 116 ls []) := by
  obtain ⟨hx, hb, hml, hown, hts, hl9, hA, hK, hX, hXs, hbl, hbA, hL⟩ := id C9
  rcases Bool.eq_false_or_eq_true (bs_ii (sc (12 * t9 + 1)) 2) with hs9 | hs9
  · obtain ⟨x9, hx9, hxe⟩ := bs_ii_t hs9
    obtain rfl | rfl : x9 = 0 ∨ x9 = 1 := by omega
    · rcases Bool.eq_false_or_eq_true (bs_ii (sc (12 * t9 + 2)) 256) with hp9 | hp9
      · obtain ⟨i9, hi9, hye⟩ := bs_ii_t hp9
        refine lv_aload_n hx hb dLW_law_116 rfl (lv_at hl 1 rfl) ?_
        refine lv_aload_n hx hb dLW_law_117 rfl (lv_at hl 0 rfl) ?_
        refine lv_iload hx hb dLW_law_118 (lv_at hl 4 rfl) ?_
        refine lv_iconst (v := nI 1) hx hb dLW_law_120 (by decide) ?_
        refine lv_iadd hx hb dLW_law_121 ?_
        refine xt_i (y := nI (12 * t9 + 1)) (nI_add _ _) ?_
        refine xs_ld hx hb hXs hbl hbA (Nat.lt_of_le_of_lt hL (by decide)) hS (12 * t9 + 1) (by omega) dLW_law_122 ?_
        refine xt_i (y := nI 0) (hxe) ?_
        refine lv_aload_n hx hb dLW_law_123 rfl (lv_at hl 0 rfl) ?_
        refine lv_iload hx hb dLW_law_124 (lv_at hl 4 rfl) ?_
        refine lv_iconst (v := nI 2) hx hb dLW_law_126 (by decide) ?_
        refine lv_iadd hx hb dLW_law_127 ?_
        refine xt_i (y := nI (12 * t9 + 2)) (nI_add _ _) ?_
        refine xs_ld hx hb hXs hbl hbA (Nat.lt_of_le_of_lt hL (by decide)) hS (12 * t9 + 2) (by omega) dLW_law_128 ?_
        refine xt_i (y := nI i9) (hye) ?_
        refine lv_aload_n hx hb dLW_law_129 rfl (lv_at hl 0 rfl) ?_
        refine lv_iload hx hb dLW_law_130 (lv_at hl 4 rfl) ?_
        refine lv_iconst (v := nI 3) hx hb dLW_law_132 (by decide) ?_
        refine lv_iadd hx hb dLW_law_133 ?_
        refine xt_i (y := nI (12 * t9 + 3)) (nI_add _ _) ?_
        refine xs_ld hx hb hXs hbl hbA (Nat.lt_of_le_of_lt hL (by decide)) hS (12 * t9 + 3) (by omega) dLW_law_134 ?_
        refine lv_i2l (v := (sc (12 * t9 + 3)).toInt64) hx hb dLW_law_135 rfl ?_
        refine lv_bipush (v := nI 32) hx hb dLW_law_136 (by decide) ?_
        refine lv_lshl (v := j_lshl ((sc (12 * t9 + 3)).toInt64) (nI 32)) hx hb dLW_law_138 rfl ?_
        refine lv_aload_n hx hb dLW_law_139 rfl (lv_at hl 0 rfl) ?_
        refine lv_iload hx hb dLW_law_140 (lv_at hl 4 rfl) ?_
        refine lv_iconst (v := nI 4) hx hb dLW_law_142 (by decide) ?_
        refine lv_iadd hx hb dLW_law_143 ?_
        refine xt_i (y := nI (12 * t9 + 4)) (nI_add _ _) ?_
        refine xs_ld hx hb hXs hbl hbA (Nat.lt_of_le_of_lt hL (by decide)) hS (12 * t9 + 4) (by omega) dLW_law_144 ?_
        refine lv_i2l (v := (sc (12 * t9 + 4)).toInt64) hx hb dLW_law_145 rfl ?_
        refine lv_ldc2 (v := 4294967295) hx hb hown (hts _ w_j_LW_68) dLW_law_146 ?_
        refine lv_land hx hb dLW_law_149 ?_
        refine lv_lor hx hb dLW_law_150 ?_
        refine xt_l (y := lc_lg sc (12 * t9 + 3)) (rfl) ?_
        have hPc := hP.sub (ws' := [(bo, .inr (5, [.ref q, .ref km, .ref ka, .ref cs])), (cs, .inl (cV, 2, .inr (.inr (.inr (.inr (bs_gl [s0, s1])))))), (s0, .inr (3, [.ref h0, .ref l0, .long an0, .int dp0, .int qn0])), (h0, .inr (4, [.ref ra0, .ref op0, .int (nI v0), .int lc0])), (op0, .inl (cL, 256, .inr (.inl fo0)))]) [0, 1, 2, 3, 4] rfl
        have hDc := hD.sub (ws' := [(bo, .inr (5, [.ref q, .ref km, .ref ka, .ref cs])), (cs, .inl (cV, 2, .inr (.inr (.inr (.inr (bs_gl [s0, s1])))))), (s0, .inr (3, [.ref h0, .ref l0, .long an0, .int dp0, .int qn0])), (h0, .inr (4, [.ref ra0, .ref op0, .int (nI v0), .int lc0])), (op0, .inl (cL, 256, .inr (.inl fo0)))]) [0, 1, 2, 3, 4] (by decide) rfl
        have hKc := hK.sub (tys' := [(cV, .object "BlindShelf$Server"), (cL, .long)]) [6, 1] rfl
        have hFc := va_free (wc := [(bo, .inr (5, [.ref q, .ref km, .ref ka, .ref cs])), (cs, .inl (cV, 2, .inr (.inr (.inr (.inr (bs_gl [s0, s1])))))), (s0, .inr (3, [.ref h0, .ref l0, .long an0, .int dp0, .int qn0])), (h0, .inr (4, [.ref ra0, .ref op0, .int (nI v0), .int lc0])), (op0, .inl (cL, 256, .inr (.inl fo0)))]) hD hS hA [0, 1, 2, 3, 4] rfl
        refine va_calli (xs_runW (n := 4) (hh := [(0, 7, 10, 13)]) (As := [.ref bo, .int (nI 0), .int (nI i9), .long (lc_lg sc (12 * t9 + 3))]) (rest := []) ⟨hx, hb, hml, hown, hts⟩ (c_LW_put_y l dC dI H.size bo q km ka cs s0 h0 l0 an0 dp0 qn0 cV (bs_gl [s0, s1]) 0 ra0 op0 v0 lc0 cL fo0 i9 (lc_lg sc (12 * t9 + 3)) (by decide) rfl hi9) (wT_3 w_m_LW_70 w_t_LW_put w_n_LW w_c_LW_put) rfl rfl rfl (by decide +kernel) ⟨Nat.le_of_ble_eq_true rfl, Nat.le_of_ble_eq_true rfl⟩ ⟨fun a U g mk q => by obtain ⟨q0, q1, qP, qK, qD⟩ := q; exact ⟨q0, q1, qP, va_K.moved (u := U) (U := U.calling g mk a) (Vm.Alike.refl U.vm) qK, qD⟩, fun U hU hW => ⟨rfl, by rw [hU], by rw [hU]; exact hPc, va_K.moved hW.alike hKc, hDc.weaken (fun _ _ _ _ => trivial)⟩⟩ rfl rfl hl.1 rfl (lv_room (Nat.le_of_ble_eq_true rfl)) dLW_law_151 ⟨show k9 + 1 ≤ 601024 from by omega, show n9 + 6 ≤ 7293034 from by omega⟩) hS (fun q _ h => hFc q h) hFc (fun r u t H1 locs ht hvm hw hB hz1 hk1 hS => ?_)
        obtain ⟨hP1, hK1, hD1⟩ := hB
        rw [ht] at hP1
        have hK1 := va_K.moved hvm.symm hK1
        have hw : r = nI 0 := hw
        rw [hw]
        obtain ⟨hP, hD⟩ := xj_join (wt := wt) (wr := [(s1, .inr (3, [.ref h1, .ref l1, .long an1, .int dp1, .int qn1])), (h1, .inr (4, [.ref ra1, .ref op1, .int (nI v1), .int lc1])), (op1, .inl (cL, 256, .inr (.inl fo1))), (o, .inr (6, [.int th, .ref xv, .ref xo, .ref xn, .ref xc, .ref xb, .ref xd, .ref xq, .ref xa, .ref xk, .ref xt, .ref xh, .ref xs, .ref xS, .ref xw, .ref xW, .ref xB, .ref xM, .long jf, .long js, .int jb, .long nf, .long ns, .int nb, .ref xf, .ref xg, .ref xi])), (xo, .inl (cL, 512, .inr (.inl fp)))]) (w1 := [(bo, .inr (5, [.ref q, .ref km, .ref ka, .ref cs])), (cs, .inl (cV, 2, .inr (.inr (.inr (.inr (bs_gl [s0, s1])))))), (s0, .inr (3, [.ref h0, .ref l0, .long an0, .int dp0, .int qn0])), (h0, .inr (4, [.ref ra0, .ref op0, .int (nI v0), .int lc0])), (op0, .inl (cL, 256, .inr (.inl (vp_updL fo0 i9 (lc_lg sc (12 * t9 + 3))))))]) hP hD [0, 1, 2, 3, 4] [5, 6, 7, 8, 9] rfl rfl (by decide) (by decide) hk1 hFc hP1 hD1
        generalize H1 = H at hP hS ⊢
        have hP : va_P (dC, dI) vwCl (xj_ap [(s1, .inr (3, [.ref h1, .ref l1, .long an1, .int dp1, .int qn1])), (h1, .inr (4, [.ref ra1, .ref op1, .int (nI v1), .int lc1])), (op1, .inl (cL, 256, .inr (.inl fo1))), (o, .inr (6, [.int th, .ref xv, .ref xo, .ref xn, .ref xc, .ref xb, .ref xd, .ref xq, .ref xa, .ref xk, .ref xt, .ref xh, .ref xs, .ref xS, .ref xw, .ref xW, .ref xB, .ref xM, .long jf, .long js, .int jb, .long nf, .long ns, .int nb, .ref xf, .ref xg, .ref xi])), (xo, .inl (cL, 512, .inr (.inl fp))), (bo, .inr (5, [.ref q, .ref km, .ref ka, .ref cs])), (cs, .inl (cV, 2, .inr (.inr (.inr (.inr (bs_gl [s0, s1])))))), (s0, .inr (3, [.ref h0, .ref l0, .long an0, .int dp0, .int qn0])), (h0, .inr (4, [.ref ra0, .ref op0, .int (nI v0), .int lc0])), (op0, .inl (cL, 256, .inr (.inl (vp_updL fo0 i9 (lc_lg sc (12 * t9 + 3))))))] wt) H := hP
        have hD : va_D A (xj_ap [(s1, .inr (3, [.ref h1, .ref l1, .long an1, .int dp1, .int qn1])), (h1, .inr (4, [.ref ra1, .ref op1, .int (nI v1), .int lc1])), (op1, .inl (cL, 256, .inr (.inl fo1))), (o, .inr (6, [.int th, .ref xv, .ref xo, .ref xn, .ref xc, .ref xb, .ref xd, .ref xq, .ref xa, .ref xk, .ref xt, .ref xh, .ref xs, .ref xS, .ref xw, .ref xW, .ref xB, .ref xM, .long jf, .long js, .int jb, .long nf, .long ns, .int nb, .ref xf, .ref xg, .ref xi])), (xo, .inl (cL, 512, .inr (.inl fp))), (bo, .inr (5, [.ref q, .ref km, .ref ka, .ref cs])), (cs, .inl (cV, 2, .inr (.inr (.inr (.inr (bs_gl [s0, s1])))))), (s0, .inr (3, [.ref h0, .ref l0, .long an0, .int dp0, .int qn0])), (h0, .inr (4, [.ref ra0, .ref op0, .int (nI v0), .int lc0])), (op0, .inl (cL, 256, .inr (.inl (vp_updL fo0 i9 (lc_lg sc (12 * t9 + 3))))))] wt) := hD
        refine lv_istore (lv' := [(5, .int (nI 0)), (0, .ref b), (1, .ref bo), (2, .ref o), (3, .ref ou), (4, .int (nI (12 * t9)))]) hx hb dLW_law_154 hl (by decide) rfl (fun ls hl => ?_)
        refine lv_aload_n hx hb dLW_law_156 rfl (lv_at hl 3 rfl) ?_
        refine lv_aload_n hx hb dLW_law_157 rfl (lv_at hl 1 rfl) ?_
        refine lv_iload hx hb dLW_law_158 (lv_at hl 5 rfl) ?_
        refine lv_iconst (v := nI 1) hx hb dLW_law_160 (by decide) ?_
        refine lv_iadd hx hb dLW_law_161 ?_
        refine xt_i (y := nI (12 * t9 + 1)) (nI_add _ _) ?_
        refine xs_ld hx hb hXs hbl hbA (Nat.lt_of_le_of_lt hL (by decide)) hS (12 * t9 + 1) (by omega) dLW_law_162 ?_
        refine xt_i (y := nI 0) (hxe) ?_
        refine lv_aload_n hx hb dLW_law_163 rfl (lv_at hl 1 rfl) ?_
        refine lv_iload hx hb dLW_law_164 (lv_at hl 5 rfl) ?_
        refine lv_iconst (v := nI 2) hx hb dLW_law_166 (by decide) ?_
        refine lv_iadd hx hb dLW_law_167 ?_
        refine xt_i (y := nI (12 * t9 + 2)) (nI_add _ _) ?_
        refine xs_ld hx hb hXs hbl hbA (Nat.lt_of_le_of_lt hL (by decide)) hS (12 * t9 + 2) (by omega) dLW_law_168 ?_
        refine xt_i (y := nI i9) (hye) ?_
        refine lv_aload_n hx hb dLW_law_169 rfl (lv_at hl 1 rfl) ?_
        refine lv_iload hx hb dLW_law_170 (lv_at hl 5 rfl) ?_
        refine lv_iconst (v := nI 3) hx hb dLW_law_172 (by decide) ?_
        refine lv_iadd hx hb dLW_law_173 ?_
        refine xt_i (y := nI (12 * t9 + 3)) (nI_add _ _) ?_
        refine xs_ld hx hb hXs hbl hbA (Nat.lt_of_le_of_lt hL (by decide)) hS (12 * t9 + 3) (by omega) dLW_law_174 ?_
        refine lv_i2l (v := (sc (12 * t9 + 3)).toInt64) hx hb dLW_law_175 rfl ?_
        refine lv_bipush (v := nI 32) hx hb dLW_law_176 (by decide) ?_
        refine lv_lshl (v := j_lshl ((sc (12 * t9 + 3)).toInt64) (nI 32)) hx hb dLW_law_178 rfl ?_
        refine lv_aload_n hx hb dLW_law_179 rfl (lv_at hl 1 rfl) ?_
        refine lv_iload hx hb dLW_law_180 (lv_at hl 5 rfl) ?_
        refine lv_iconst (v := nI 4) hx hb dLW_law_182 (by decide) ?_
        refine lv_iadd hx hb dLW_law_183 ?_
        refine xt_i (y := nI (12 * t9 + 4)) (nI_add _ _) ?_
        refine xs_ld hx hb hXs hbl hbA (Nat.lt_of_le_of_lt hL (by decide)) hS (12 * t9 + 4) (by omega) dLW_law_184 ?_
        refine lv_i2l (v := (sc (12 * t9 + 4)).toInt64) hx hb dLW_law_185 rfl ?_
        refine lv_ldc2 (v := 4294967295) hx hb hown (hts _ w_j_LW_68) dLW_law_186 ?_
        refine lv_land hx hb dLW_law_189 ?_
        refine lv_lor hx hb dLW_law_190 ?_
        refine xt_l (y := lc_lg sc (12 * t9 + 3)) (rfl) ?_
        have hPc := hP.sub (ws' := [(o, .inr (6, [.int th, .ref xv, .ref xo, .ref xn, .ref xc, .ref xb, .ref xd, .ref xq, .ref xa, .ref xk, .ref xt, .ref xh, .ref xs, .ref xS, .ref xw, .ref xW, .ref xB, .ref xM, .long jf, .long js, .int jb, .long nf, .long ns, .int nb, .ref xf, .ref xg, .ref xi])), (xo, .inl (cL, 512, .inr (.inl fp)))]) [3, 4] rfl
        have hDc := hD.sub (ws' := [(o, .inr (6, [.int th, .ref xv, .ref xo, .ref xn, .ref xc, .ref xb, .ref xd, .ref xq, .ref xa, .ref xk, .ref xt, .ref xh, .ref xs, .ref xS, .ref xw, .ref xW, .ref xB, .ref xM, .long jf, .long js, .int jb, .long nf, .long ns, .int nb, .ref xf, .ref xg, .ref xi])), (xo, .inl (cL, 512, .inr (.inl fp)))]) [3, 4] (by decide) rfl
        have hKc := hK.sub (tys' := [(cL, .long)]) [1] rfl
        have hFc := va_free (wc := [(o, .inr (6, [.int th, .ref xv, .ref xo, .ref xn, .ref xc, .ref xb, .ref xd, .ref xq, .ref xa, .ref xk, .ref xt, .ref xh, .ref xs, .ref xS, .ref xw, .ref xW, .ref xB, .ref xM, .long jf, .long js, .int jb, .long nf, .long ns, .int nb, .ref xf, .ref xg, .ref xi])), (xo, .inl (cL, 512, .inr (.inl fp)))]) hD hS hA [3, 4] rfl
        refine va_callv (va_runV (C := RMO) (As := [.int (nI 0), .int (nI i9), .long (lc_lg sc (12 * t9 + 3))]) (rest := []) ⟨hx, hb, hml, hown, hts⟩ (c_MO_put_y l dC dI H.size o xv xo xn xc xb xd xq xa xk xt xh xs xS xw xW xB xM xf xg xi th jf js jb nf ns nb cL fp 0 i9 (lc_lg sc (12 * t9 + 3)) (by decide) hi9) (cwV (C := RMO) 3 hts (wT_4 w_m_LW_75 w_i_MO_put w_s_MO_put w_n_MO w_c_MO_put) rfl rfl rfl (by decide +kernel) ⟨Nat.le_of_ble_eq_true rfl, Nat.le_of_ble_eq_true rfl⟩) ⟨fun a U g mk q => by obtain ⟨q0, q1, qP, qK, qD⟩ := q; exact ⟨q0, q1, qP, va_K.moved (u := U) (U := U.calling g mk a) (Vm.Alike.refl U.vm) qK, qD⟩, va_recv hK hP (q0 := 3) (ci := 6) (q := (RMO, TMO, 27)) rfl rfl, fun U hU hW => ⟨rfl, by rw [hU], by rw [hU]; exact hPc, va_K.moved hW.alike hKc, hDc.weaken (fun _ _ _ _ => trivial)⟩⟩ rfl rfl hl.1 rfl (lv_room (Nat.le_of_ble_eq_true rfl)) dLW_law_191 ⟨show k9 + 1 + 0 ≤ 601024 from by omega, show n9 + 6 + 0 ≤ 7293034 from by omega⟩) hS (fun q _ h => hFc q h) hFc (fun u t H1 locs ht hvm hw hB hz1 hk1 hS => ?_)
        obtain ⟨hP1, hK1, hD1⟩ := hB
        rw [ht] at hP1
        have hK1 := va_K.moved hvm.symm hK1
        obtain ⟨hP, hD⟩ := xj_join (wt := wt) (wr := [(s1, .inr (3, [.ref h1, .ref l1, .long an1, .int dp1, .int qn1])), (h1, .inr (4, [.ref ra1, .ref op1, .int (nI v1), .int lc1])), (op1, .inl (cL, 256, .inr (.inl fo1))), (bo, .inr (5, [.ref q, .ref km, .ref ka, .ref cs])), (cs, .inl (cV, 2, .inr (.inr (.inr (.inr (bs_gl [s0, s1])))))), (s0, .inr (3, [.ref h0, .ref l0, .long an0, .int dp0, .int qn0])), (h0, .inr (4, [.ref ra0, .ref op0, .int (nI v0), .int lc0])), (op0, .inl (cL, 256, .inr (.inl (vp_updL fo0 i9 (lc_lg sc (12 * t9 + 3))))))]) (w1 := [(o, .inr (6, [.int (nI 0), .ref xv, .ref xo, .ref xn, .ref xc, .ref xb, .ref xd, .ref xq, .ref xa, .ref xk, .ref xt, .ref xh, .ref xs, .ref xS, .ref xw, .ref xW, .ref xB, .ref xM, .long jf, .long js, .int jb, .long nf, .long ns, .int nb, .ref xf, .ref xg, .ref xi])), (xo, .inl (cL, 512, .inr (.inl (vp_updL fp (256 * 0 + i9) (lc_lg sc (12 * t9 + 3))))))]) hP hD [3, 4] [0, 1, 2, 5, 6, 7, 8, 9] rfl rfl (by decide) (by decide) hk1 hFc hP1 hD1
        generalize H1 = H at hP hS ⊢
        have hP : va_P (dC, dI) vwCl (xj_ap [(s1, .inr (3, [.ref h1, .ref l1, .long an1, .int dp1, .int qn1])), (h1, .inr (4, [.ref ra1, .ref op1, .int (nI v1), .int lc1])), (op1, .inl (cL, 256, .inr (.inl fo1))), (bo, .inr (5, [.ref q, .ref km, .ref ka, .ref cs])), (cs, .inl (cV, 2, .inr (.inr (.inr (.inr (bs_gl [s0, s1])))))), (s0, .inr (3, [.ref h0, .ref l0, .long an0, .int dp0, .int qn0])), (h0, .inr (4, [.ref ra0, .ref op0, .int (nI v0), .int lc0])), (op0, .inl (cL, 256, .inr (.inl (vp_updL fo0 i9 (lc_lg sc (12 * t9 + 3)))))), (o, .inr (6, [.int (nI 0), .ref xv, .ref xo, .ref xn, .ref xc, .ref xb, .ref xd, .ref xq, .ref xa, .ref xk, .ref xt, .ref xh, .ref xs, .ref xS, .ref xw, .ref xW, .ref xB, .ref xM, .long jf, .long js, .int jb, .long nf, .long ns, .int nb, .ref xf, .ref xg, .ref xi])), (xo, .inl (cL, 512, .inr (.inl (vp_updL fp (256 * 0 + i9) (lc_lg sc (12 * t9 + 3))))))] wt) H := hP
        have hD : va_D A (xj_ap [(s1, .inr (3, [.ref h1, .ref l1, .long an1, .int dp1, .int qn1])), (h1, .inr (4, [.ref ra1, .ref op1, .int (nI v1), .int lc1])), (op1, .inl (cL, 256, .inr (.inl fo1))), (bo, .inr (5, [.ref q, .ref km, .ref ka, .ref cs])), (cs, .inl (cV, 2, .inr (.inr (.inr (.inr (bs_gl [s0, s1])))))), (s0, .inr (3, [.ref h0, .ref l0, .long an0, .int dp0, .int qn0])), (h0, .inr (4, [.ref ra0, .ref op0, .int (nI v0), .int lc0])), (op0, .inl (cL, 256, .inr (.inl (vp_updL fo0 i9 (lc_lg sc (12 * t9 + 3)))))), (o, .inr (6, [.int (nI 0), .ref xv, .ref xo, .ref xn, .ref xc, .ref xb, .ref xd, .ref xq, .ref xa, .ref xk, .ref xt, .ref xh, .ref xs, .ref xS, .ref xw, .ref xW, .ref xB, .ref xM, .long jf, .long js, .int jb, .long nf, .long ns, .int nb, .ref xf, .ref xg, .ref xi])), (xo, .inl (cL, 512, .inr (.inl (vp_updL fp (256 * 0 + i9) (lc_lg sc (12 * t9 + 3))))))] wt) := hD
        refine lv_aload_n hx hb dLW_law_194 rfl (lv_at hl 3 rfl) ?_
        have hPc := hP.sub (ws' := [(o, .inr (6, [.int (nI 0), .ref xv, .ref xo, .ref xn, .ref xc, .ref xb, .ref xd, .ref xq, .ref xa, .ref xk, .ref xt, .ref xh, .ref xs, .ref xS, .ref xw, .ref xW, .ref xB, .ref xM, .long jf, .long js, .int jb, .long nf, .long ns, .int nb, .ref xf, .ref xg, .ref xi]))]) [8] rfl
        have hDc := hD.sub (ws' := [(o, .inr (6, [.int (nI 0), .ref xv, .ref xo, .ref xn, .ref xc, .ref xb, .ref xd, .ref xq, .ref xa, .ref xk, .ref xt, .ref xh, .ref xs, .ref xS, .ref xw, .ref xW, .ref xB, .ref xM, .long jf, .long js, .int jb, .long nf, .long ns, .int nb, .ref xf, .ref xg, .ref xi]))]) [8] (by decide) rfl
        have hKc := hK.sub (tys' := []) [] rfl
        have hFc := va_free (wc := [(o, .inr (6, [.int (nI 0), .ref xv, .ref xo, .ref xn, .ref xc, .ref xb, .ref xd, .ref xq, .ref xa, .ref xk, .ref xt, .ref xh, .ref xs, .ref xS, .ref xw, .ref xW, .ref xB, .ref xM, .long jf, .long js, .int jb, .long nf, .long ns, .int nb, .ref xf, .ref xg, .ref xi]))]) hD hS hA [8] rfl
        refine va_calli (va_runV (C := RMO) (As := []) (rest := []) ⟨hx, hb, hml, hown, hts⟩ (c_MO_thrown l dC dI H.size o xv xo xn xc xb xd xq xa xk xt xh xs xS xw xW xB xM xf xg xi (nI 0) jf js jb nf ns nb) (cwV (C := RMO) 0 hts (wT_4 w_m_LW_76 w_i_MO_thrown w_s_MO_thrown w_n_MO w_c_MO_thrown) rfl rfl rfl (by decide +kernel) ⟨Nat.le_of_ble_eq_true rfl, Nat.le_of_ble_eq_true rfl⟩) ⟨fun a U g mk q => by obtain ⟨q0, q1, qP, qK, qD⟩ := q; exact ⟨q0, q1, qP, va_K.moved (u := U) (U := U.calling g mk a) (Vm.Alike.refl U.vm) qK, qD⟩, va_recv hK hP (q0 := 8) (ci := 6) (q := (RMO, TMO, 27)) rfl rfl, fun U hU hW => ⟨rfl, by rw [hU], by rw [hU]; exact hPc, va_K.moved hW.alike hKc, hDc.weaken (fun _ _ _ _ => trivial)⟩⟩ rfl rfl hl.1 rfl (lv_room (Nat.le_of_ble_eq_true rfl)) dLW_law_195 ⟨show k9 + 1 + 0 ≤ 601024 from by omega, show n9 + 6 + 0 ≤ 7293034 from by omega⟩) hS (fun q _ h => hFc q h) hFc (fun r u t H1 locs ht hvm hw hB hz1 hk1 hS => ?_)
        obtain ⟨hP1, hK1, hD1⟩ := hB
        rw [ht] at hP1
        have hK1 := va_K.moved hvm.symm hK1
        have hw : r = nI 0 := hw
        rw [hw]
        obtain ⟨hP, hD⟩ := xj_join (wt := wt) (wr := [(s1, .inr (3, [.ref h1, .ref l1, .long an1, .int dp1, .int qn1])), (h1, .inr (4, [.ref ra1, .ref op1, .int (nI v1), .int lc1])), (op1, .inl (cL, 256, .inr (.inl fo1))), (bo, .inr (5, [.ref q, .ref km, .ref ka, .ref cs])), (cs, .inl (cV, 2, .inr (.inr (.inr (.inr (bs_gl [s0, s1])))))), (s0, .inr (3, [.ref h0, .ref l0, .long an0, .int dp0, .int qn0])), (h0, .inr (4, [.ref ra0, .ref op0, .int (nI v0), .int lc0])), (op0, .inl (cL, 256, .inr (.inl (vp_updL fo0 i9 (lc_lg sc (12 * t9 + 3)))))), (xo, .inl (cL, 512, .inr (.inl (vp_updL fp (256 * 0 + i9) (lc_lg sc (12 * t9 + 3))))))]) (w1 := [(o, .inr (6, [.int (nI 0), .ref xv, .ref xo, .ref xn, .ref xc, .ref xb, .ref xd, .ref xq, .ref xa, .ref xk, .ref xt, .ref xh, .ref xs, .ref xS, .ref xw, .ref xW, .ref xB, .ref xM, .long jf, .long js, .int jb, .long nf, .long ns, .int nb, .ref xf, .ref xg, .ref xi]))]) hP hD [8] [0, 1, 2, 3, 4, 5, 6, 7, 9] rfl rfl (by decide) (by decide) hk1 hFc hP1 hD1
        generalize H1 = H at hP hS ⊢
        have hP : va_P (dC, dI) vwCl (xj_ap [(s1, .inr (3, [.ref h1, .ref l1, .long an1, .int dp1, .int qn1])), (h1, .inr (4, [.ref ra1, .ref op1, .int (nI v1), .int lc1])), (op1, .inl (cL, 256, .inr (.inl fo1))), (bo, .inr (5, [.ref q, .ref km, .ref ka, .ref cs])), (cs, .inl (cV, 2, .inr (.inr (.inr (.inr (bs_gl [s0, s1])))))), (s0, .inr (3, [.ref h0, .ref l0, .long an0, .int dp0, .int qn0])), (h0, .inr (4, [.ref ra0, .ref op0, .int (nI v0), .int lc0])), (op0, .inl (cL, 256, .inr (.inl (vp_updL fo0 i9 (lc_lg sc (12 * t9 + 3)))))), (xo, .inl (cL, 512, .inr (.inl (vp_updL fp (256 * 0 + i9) (lc_lg sc (12 * t9 + 3)))))), (o, .inr (6, [.int (nI 0), .ref xv, .ref xo, .ref xn, .ref xc, .ref xb, .ref xd, .ref xq, .ref xa, .ref xk, .ref xt, .ref xh, .ref xs, .ref xS, .ref xw, .ref xW, .ref xB, .ref xM, .long jf, .long js, .int jb, .long nf, .long ns, .int nb, .ref xf, .ref xg, .ref xi]))] wt) H := hP
        have hD : va_D A (xj_ap [(s1, .inr (3, [.ref h1, .ref l1, .long an1, .int dp1, .int qn1])), (h1, .inr (4, [.ref ra1, .ref op1, .int (nI v1), .int lc1])), (op1, .inl (cL, 256, .inr (.inl fo1))), (bo, .inr (5, [.ref q, .ref km, .ref ka, .ref cs])), (cs, .inl (cV, 2, .inr (.inr (.inr (.inr (bs_gl [s0, s1])))))), (s0, .inr (3, [.ref h0, .ref l0, .long an0, .int dp0, .int qn0])), (h0, .inr (4, [.ref ra0, .ref op0, .int (nI v0), .int lc0])), (op0, .inl (cL, 256, .inr (.inl (vp_updL fo0 i9 (lc_lg sc (12 * t9 + 3)))))), (xo, .inl (cL, 512, .inr (.inl (vp_updL fp (256 * 0 + i9) (lc_lg sc (12 * t9 + 3)))))), (o, .inr (6, [.int (nI 0), .ref xv, .ref xo, .ref xn, .ref xc, .ref xb, .ref xd, .ref xq, .ref xa, .ref xk, .ref xt, .ref xh, .ref xs, .ref xS, .ref xw, .ref xW, .ref xB, .ref xM, .long jf, .long js, .int jb, .long nf, .long ns, .int nb, .ref xf, .ref xg, .ref xi]))] wt) := hD
        refine lv_iload hx hb dLW_law_198 (lv_at hl 0 rfl) ?_
        refine lv_icmp_eq (tgt := 205) hx hb dLW_law_200 (by decide) (fun _ => ?_) (fun h => absurd (rfl) h)
        refine lv_goto (tgt := 1342) hx hb dLW_law_205 (by decide) ?_
        have hP := xj_subP (ws' := [(bo, .inr (5, [.ref q, .ref km, .ref ka, .ref cs])), (cs, .inl (cV, 2, .inr (.inr (.inr (.inr (bs_gl [s0, s1])))))), (s0, .inr (3, [.ref h0, .ref l0, .long an0, .int dp0, .int qn0])), (h0, .inr (4, [.ref ra0, .ref op0, .int (nI v0), .int lc0])), (op0, .inl (cL, 256, .inr (.inl (vp_updL fo0 i9 (lc_lg sc (12 * t9 + 3)))))), (s1, .inr (3, [.ref h1, .ref l1, .long an1, .int dp1, .int qn1])), (h1, .inr (4, [.ref ra1, .ref op1, .int (nI v1), .int lc1])), (op1, .inl (cL, 256, .inr (.inl fo1))), (o, .inr (6, [.int (nI 0), .ref xv, .ref xo, .ref xn, .ref xc, .ref xb, .ref xd, .ref xq, .ref xa, .ref xk, .ref xt, .ref xh, .ref xs, .ref xS, .ref xw, .ref xW, .ref xB, .ref xM, .long jf, .long js, .int jb, .long nf, .long ns, .int nb, .ref xf, .ref xg, .ref xi])), (xo, .inl (cL, 512, .inr (.inl (vp_updL fp (256 * 0 + i9) (lc_lg sc (12 * t9 + 3))))))]) hP [3, 4, 5, 6, 7, 0, 1, 2, 9, 8] rfl
        have hD := xj_subD (ws' := [(bo, .inr (5, [.ref q, .ref km, .ref ka, .ref cs])), (cs, .inl (cV, 2, .inr (.inr (.inr (.inr (bs_gl [s0, s1])))))), (s0, .inr (3, [.ref h0, .ref l0, .long an0, .int dp0, .int qn0])), (h0, .inr (4, [.ref ra0, .ref op0, .int (nI v0), .int lc0])), (op0, .inl (cL, 256, .inr (.inl (vp_updL fo0 i9 (lc_lg sc (12 * t9 + 3)))))), (s1, .inr (3, [.ref h1, .ref l1, .long an1, .int dp1, .int qn1])), (h1, .inr (4, [.ref ra1, .ref op1, .int (nI v1), .int lc1])), (op1, .inl (cL, 256, .inr (.inl fo1))), (o, .inr (6, [.int (nI 0), .ref xv, .ref xo, .ref xn, .ref xc, .ref xb, .ref xd, .ref xq, .ref xa, .ref xk, .ref xt, .ref xh, .ref xs, .ref xS, .ref xw, .ref xW, .ref xB, .ref xM, .long jf, .long js, .int jb, .long nf, .long ns, .int nb, .ref xf, .ref xg, .ref xi])), (xo, .inl (cL, 512, .inr (.inl (vp_updL fp (256 * 0 + i9) (lc_lg sc (12 * t9 + 3))))))]) hD [3, 4, 5, 6, 7, 0, 1, 2, 9, 8] (by decide) rfl
        have hP : va_P (dC, dI) vwCl (xj_ap [(bo, .inr (5, [.ref q, .ref km, .ref ka, .ref cs])), (cs, .inl (cV, 2, .inr (.inr (.inr (.inr (bs_gl [s0, s1])))))), (s0, .inr (3, [.ref h0, .ref l0, .long an0, .int dp0, .int qn0])), (h0, .inr (4, [.ref ra0, .ref op0, .int (nI v0), .int lc0])), (op0, .inl (cL, 256, .inr (.inl (vp_updL fo0 i9 (lc_lg sc (12 * t9 + 3)))))), (s1, .inr (3, [.ref h1, .ref l1, .long an1, .int dp1, .int qn1])), (h1, .inr (4, [.ref ra1, .ref op1, .int (nI v1), .int lc1])), (op1, .inl (cL, 256, .inr (.inl fo1))), (o, .inr (6, [.int (nI 0), .ref xv, .ref xo, .ref xn, .ref xc, .ref xb, .ref xd, .ref xq, .ref xa, .ref xk, .ref xt, .ref xh, .ref xs, .ref xS, .ref xw, .ref xW, .ref xB, .ref xM, .long jf, .long js, .int jb, .long nf, .long ns, .int nb, .ref xf, .ref xg, .ref xi])), (xo, .inl (cL, 512, .inr (.inl (vp_updL fp (256 * 0 + i9) (lc_lg sc (12 * t9 + 3))))))] wt) H := hP
        have hD : va_D A (xj_ap [(bo, .inr (5, [.ref q, .ref km, .ref ka, .ref cs])), (cs, .inl (cV, 2, .inr (.inr (.inr (.inr (bs_gl [s0, s1])))))), (s0, .inr (3, [.ref h0, .ref l0, .long an0, .int dp0, .int qn0])), (h0, .inr (4, [.ref ra0, .ref op0, .int (nI v0), .int lc0])), (op0, .inl (cL, 256, .inr (.inl (vp_updL fo0 i9 (lc_lg sc (12 * t9 + 3)))))), (s1, .inr (3, [.ref h1, .ref l1, .long an1, .int dp1, .int qn1])), (h1, .inr (4, [.ref ra1, .ref op1, .int (nI v1), .int lc1])), (op1, .inl (cL, 256, .inr (.inl fo1))), (o, .inr (6, [.int (nI 0), .ref xv, .ref xo, .ref xn, .ref xc, .ref xb, .ref xd, .ref xq, .ref xa, .ref xk, .ref xt, .ref xh, .ref xs, .ref xS, .ref xw, .ref xW, .ref xB, .ref xM, .long jf, .long js, .int jb, .long nf, .long ns, .int nb, .ref xf, .ref xg, .ref xi])), (xo, .inl (cL, 512, .inr (.inl (vp_updL fp (256 * 0 + i9) (lc_lg sc (12 * t9 + 3))))))] wt) := hD
        have hl := lv_sub hl (l' := [(0, .ref b), (1, .ref bo), (2, .ref o), (3, .ref ou), (4, .int (nI (12 * t9)))]) [1, 2, 3, 4, 5] rfl
        exact hk (vp_updL fo0 i9 (lc_lg sc (12 * t9 + 3))) fo1 (vp_updL fp (256 * 0 + i9) (lc_lg sc (12 * t9 + 3))) (nI 0) H _ ls (⟨bs_RS_put hJ.1 _, bs_RS_put' (by decide) hi9 hJ.2 _⟩) hP hD hS hl
      · refine lv_aload_n hx hb dLW_law_116 rfl (lv_at hl 1 rfl) ?_
        refine lv_aload_n hx hb dLW_law_117 rfl (lv_at hl 0 rfl) ?_
        refine lv_iload hx hb dLW_law_118 (lv_at hl 4 rfl) ?_
        refine lv_iconst (v := nI 1) hx hb dLW_law_120 (by decide) ?_
        refine lv_iadd hx hb dLW_law_121 ?_
        refine xt_i (y := nI (12 * t9 + 1)) (nI_add _ _) ?_
        refine xs_ld hx hb hXs hbl hbA (Nat.lt_of_le_of_lt hL (by decide)) hS (12 * t9 + 1) (by omega) dLW_law_122 ?_
        refine xt_i (y := nI 0) (hxe) ?_
        refine lv_aload_n hx hb dLW_law_123 rfl (lv_at hl 0 rfl) ?_
        refine lv_iload hx hb dLW_law_124 (lv_at hl 4 rfl) ?_
        refine lv_iconst (v := nI 2) hx hb dLW_law_126 (by decide) ?_
        refine lv_iadd hx hb dLW_law_127 ?_
        refine xt_i (y := nI (12 * t9 + 2)) (nI_add _ _) ?_
        refine xs_ld hx hb hXs hbl hbA (Nat.lt_of_le_of_lt hL (by decide)) hS (12 * t9 + 2) (by omega) dLW_law_128 ?_
        refine lv_aload_n hx hb dLW_law_129 rfl (lv_at hl 0 rfl) ?_
        refine lv_iload hx hb dLW_law_130 (lv_at hl 4 rfl) ?_
        refine lv_iconst (v := nI 3) hx hb dLW_law_132 (by decide) ?_
        refine lv_iadd hx hb dLW_law_133 ?_
        refine xt_i (y := nI (12 * t9 + 3)) (nI_add _ _) ?_
        refine xs_ld hx hb hXs hbl hbA (Nat.lt_of_le_of_lt hL (by decide)) hS (12 * t9 + 3) (by omega) dLW_law_134 ?_
        refine lv_i2l (v := (sc (12 * t9 + 3)).toInt64) hx hb dLW_law_135 rfl ?_
        refine lv_bipush (v := nI 32) hx hb dLW_law_136 (by decide) ?_
        refine lv_lshl (v := j_lshl ((sc (12 * t9 + 3)).toInt64) (nI 32)) hx hb dLW_law_138 rfl ?_
        refine lv_aload_n hx hb dLW_law_139 rfl (lv_at hl 0 rfl) ?_
        refine lv_iload hx hb dLW_law_140 (lv_at hl 4 rfl) ?_
        refine lv_iconst (v := nI 4) hx hb dLW_law_142 (by decide) ?_
        refine lv_iadd hx hb dLW_law_143 ?_
        refine xt_i (y := nI (12 * t9 + 4)) (nI_add _ _) ?_
        refine xs_ld hx hb hXs hbl hbA (Nat.lt_of_le_of_lt hL (by decide)) hS (12 * t9 + 4) (by omega) dLW_law_144 ?_
        refine lv_i2l (v := (sc (12 * t9 + 4)).toInt64) hx hb dLW_law_145 rfl ?_
        refine lv_ldc2 (v := 4294967295) hx hb hown (hts _ w_j_LW_68) dLW_law_146 ?_
        refine lv_land hx hb dLW_law_149 ?_
        refine lv_lor hx hb dLW_law_150 ?_
        refine xt_l (y := lc_lg sc (12 * t9 + 3)) (rfl) ?_
        have hPc := hP.sub (ws' := [(bo, .inr (5, [.ref q, .ref km, .ref ka, .ref cs]))]) [0] rfl
        have hDc := hD.sub (ws' := [(bo, .inr (5, [.ref q, .ref km, .ref ka, .ref cs]))]) [0] (by decide) rfl
        have hKc := hK.sub (tys' := []) [] rfl
        have hFc := va_free (wc := [(bo, .inr (5, [.ref q, .ref km, .ref ka, .ref cs]))]) hD hS hA [0] rfl
        have hXc := (hX.kept hS.2.1).narrow hFc
        refine va_calli (xs_runW (n := 4) (hh := [(0, 7, 10, 13)]) (As := [.ref bo, .int (nI 0), .int (sc (12 * t9 + 2)), .long (lc_lg sc (12 * t9 + 3))]) (rest := []) ⟨hx, hb, hml, hown, hts⟩ (c_LW_put_n2 l dC dI H.size bo q km ka cs 0 (sc (12 * t9 + 2)) (lc_lg sc (12 * t9 + 3)) hl9 (by decide) hp9) (wT_3 w_m_LW_70 w_t_LW_put w_n_LW w_c_LW_put) rfl rfl rfl (by decide +kernel) ⟨Nat.le_of_ble_eq_true rfl, Nat.le_of_ble_eq_true rfl⟩ ⟨fun a U g mk q => by obtain ⟨q0, q1, qP, qK, qD, qX⟩ := q; exact ⟨q0, q1, qP, va_K.moved (u := U) (U := U.calling g mk a) (Vm.Alike.refl U.vm) qK, qD, qX.same rfl⟩, fun U hU hW => ⟨rfl, by rw [hU], by rw [hU]; exact hPc, va_K.moved hW.alike hKc, hDc.weaken (fun _ _ _ _ => trivial), by rw [hU]; exact hXc.warm hW⟩⟩ rfl rfl hl.1 rfl (lv_room (Nat.le_of_ble_eq_true rfl)) dLW_law_151 ⟨show k9 + 1 ≤ 601024 from by omega, show n9 + 6 ≤ 7293034 from by omega⟩) hS (fun q _ h => hFc q h) hFc (fun r u t H1 locs ht hvm hw hB hz1 hk1 hS => ?_)
        obtain ⟨hP1, hK1, hD1⟩ := hB
        rw [ht] at hP1
        have hK1 := va_K.moved hvm.symm hK1
        have hw : r = nI 1 := hw
        rw [hw]
        obtain ⟨hP, hD⟩ := xj_join (wt := wt) (wr := [(cs, .inl (cV, 2, .inr (.inr (.inr (.inr (bs_gl [s0, s1])))))), (s0, .inr (3, [.ref h0, .ref l0, .long an0, .int dp0, .int qn0])), (h0, .inr (4, [.ref ra0, .ref op0, .int (nI v0), .int lc0])), (op0, .inl (cL, 256, .inr (.inl fo0))), (s1, .inr (3, [.ref h1, .ref l1, .long an1, .int dp1, .int qn1])), (h1, .inr (4, [.ref ra1, .ref op1, .int (nI v1), .int lc1])), (op1, .inl (cL, 256, .inr (.inl fo1))), (o, .inr (6, [.int th, .ref xv, .ref xo, .ref xn, .ref xc, .ref xb, .ref xd, .ref xq, .ref xa, .ref xk, .ref xt, .ref xh, .ref xs, .ref xS, .ref xw, .ref xW, .ref xB, .ref xM, .long jf, .long js, .int jb, .long nf, .long ns, .int nb, .ref xf, .ref xg, .ref xi])), (xo, .inl (cL, 512, .inr (.inl fp)))]) (w1 := [(bo, .inr (5, [.ref q, .ref km, .ref ka, .ref cs]))]) hP hD [0] [1, 2, 3, 4, 5, 6, 7, 8, 9] rfl rfl (by decide) (by decide) hk1 hFc hP1 hD1
        generalize H1 = H at hP hS ⊢
        have hP : va_P (dC, dI) vwCl (xj_ap [(cs, .inl (cV, 2, .inr (.inr (.inr (.inr (bs_gl [s0, s1])))))), (s0, .inr (3, [.ref h0, .ref l0, .long an0, .int dp0, .int qn0])), (h0, .inr (4, [.ref ra0, .ref op0, .int (nI v0), .int lc0])), (op0, .inl (cL, 256, .inr (.inl fo0))), (s1, .inr (3, [.ref h1, .ref l1, .long an1, .int dp1, .int qn1])), (h1, .inr (4, [.ref ra1, .ref op1, .int (nI v1), .int lc1])), (op1, .inl (cL, 256, .inr (.inl fo1))), (o, .inr (6, [.int th, .ref xv, .ref xo, .ref xn, .ref xc, .ref xb, .ref xd, .ref xq, .ref xa, .ref xk, .ref xt, .ref xh, .ref xs, .ref xS, .ref xw, .ref xW, .ref xB, .ref xM, .long jf, .long js, .int jb, .long nf, .long ns, .int nb, .ref xf, .ref xg, .ref xi])), (xo, .inl (cL, 512, .inr (.inl fp))), (bo, .inr (5, [.ref q, .ref km, .ref ka, .ref cs]))] wt) H := hP
        have hD : va_D A (xj_ap [(cs, .inl (cV, 2, .inr (.inr (.inr (.inr (bs_gl [s0, s1])))))), (s0, .inr (3, [.ref h0, .ref l0, .long an0, .int dp0, .int qn0])), (h0, .inr (4, [.ref ra0, .ref op0, .int (nI v0), .int lc0])), (op0, .inl (cL, 256, .inr (.inl fo0))), (s1, .inr (3, [.ref h1, .ref l1, .long an1, .int dp1, .int qn1])), (h1, .inr (4, [.ref ra1, .ref op1, .int (nI v1), .int lc1])), (op1, .inl (cL, 256, .inr (.inl fo1))), (o, .inr (6, [.int th, .ref xv, .ref xo, .ref xn, .ref xc, .ref xb, .ref xd, .ref xq, .ref xa, .ref xk, .ref xt, .ref xh, .ref xs, .ref xS, .ref xw, .ref xW, .ref xB, .ref xM, .long jf, .long js, .int jb, .long nf, .long ns, .int nb, .ref xf, .ref xg, .ref xi])), (xo, .inl (cL, 512, .inr (.inl fp))), (bo, .inr (5, [.ref q, .ref km, .ref ka, .ref cs]))] wt) := hD
        refine lv_istore (lv' := [(5, .int (nI 1)), (0, .ref b), (1, .ref bo), (2, .ref o), (3, .ref ou), (4, .int (nI (12 * t9)))]) hx hb dLW_law_154 hl (by decide) rfl (fun ls hl => ?_)
        refine lv_aload_n hx hb dLW_law_156 rfl (lv_at hl 3 rfl) ?_
        refine lv_aload_n hx hb dLW_law_157 rfl (lv_at hl 1 rfl) ?_
        refine lv_iload hx hb dLW_law_158 (lv_at hl 5 rfl) ?_
        refine lv_iconst (v := nI 1) hx hb dLW_law_160 (by decide) ?_
        refine lv_iadd hx hb dLW_law_161 ?_
        refine xt_i (y := nI (12 * t9 + 1)) (nI_add _ _) ?_
        refine xs_ld hx hb hXs hbl hbA (Nat.lt_of_le_of_lt hL (by decide)) hS (12 * t9 + 1) (by omega) dLW_law_162 ?_
        refine xt_i (y := nI 0) (hxe) ?_
        refine lv_aload_n hx hb dLW_law_163 rfl (lv_at hl 1 rfl) ?_
        refine lv_iload hx hb dLW_law_164 (lv_at hl 5 rfl) ?_
        refine lv_iconst (v := nI 2) hx hb dLW_law_166 (by decide) ?_
        refine lv_iadd hx hb dLW_law_167 ?_
        refine xt_i (y := nI (12 * t9 + 2)) (nI_add _ _) ?_
        refine xs_ld hx hb hXs hbl hbA (Nat.lt_of_le_of_lt hL (by decide)) hS (12 * t9 + 2) (by omega) dLW_law_168 ?_
        refine lv_aload_n hx hb dLW_law_169 rfl (lv_at hl 1 rfl) ?_
        refine lv_iload hx hb dLW_law_170 (lv_at hl 5 rfl) ?_
        refine lv_iconst (v := nI 3) hx hb dLW_law_172 (by decide) ?_
        refine lv_iadd hx hb dLW_law_173 ?_
        refine xt_i (y := nI (12 * t9 + 3)) (nI_add _ _) ?_
        refine xs_ld hx hb hXs hbl hbA (Nat.lt_of_le_of_lt hL (by decide)) hS (12 * t9 + 3) (by omega) dLW_law_174 ?_
        refine lv_i2l (v := (sc (12 * t9 + 3)).toInt64) hx hb dLW_law_175 rfl ?_
        refine lv_bipush (v := nI 32) hx hb dLW_law_176 (by decide) ?_
        refine lv_lshl (v := j_lshl ((sc (12 * t9 + 3)).toInt64) (nI 32)) hx hb dLW_law_178 rfl ?_
        refine lv_aload_n hx hb dLW_law_179 rfl (lv_at hl 1 rfl) ?_
        refine lv_iload hx hb dLW_law_180 (lv_at hl 5 rfl) ?_
        refine lv_iconst (v := nI 4) hx hb dLW_law_182 (by decide) ?_
        refine lv_iadd hx hb dLW_law_183 ?_
        refine xt_i (y := nI (12 * t9 + 4)) (nI_add _ _) ?_
        refine xs_ld hx hb hXs hbl hbA (Nat.lt_of_le_of_lt hL (by decide)) hS (12 * t9 + 4) (by omega) dLW_law_184 ?_
        refine lv_i2l (v := (sc (12 * t9 + 4)).toInt64) hx hb dLW_law_185 rfl ?_
        refine lv_ldc2 (v := 4294967295) hx hb hown (hts _ w_j_LW_68) dLW_law_186 ?_
        refine lv_land hx hb dLW_law_189 ?_
        refine lv_lor hx hb dLW_law_190 ?_
        refine xt_l (y := lc_lg sc (12 * t9 + 3)) (rfl) ?_
        have hPc := hP.sub (ws' := [(o, .inr (6, [.int th, .ref xv, .ref xo, .ref xn, .ref xc, .ref xb, .ref xd, .ref xq, .ref xa, .ref xk, .ref xt, .ref xh, .ref xs, .ref xS, .ref xw, .ref xW, .ref xB, .ref xM, .long jf, .long js, .int jb, .long nf, .long ns, .int nb, .ref xf, .ref xg, .ref xi]))]) [7] rfl
        have hDc := hD.sub (ws' := [(o, .inr (6, [.int th, .ref xv, .ref xo, .ref xn, .ref xc, .ref xb, .ref xd, .ref xq, .ref xa, .ref xk, .ref xt, .ref xh, .ref xs, .ref xS, .ref xw, .ref xW, .ref xB, .ref xM, .long jf, .long js, .int jb, .long nf, .long ns, .int nb, .ref xf, .ref xg, .ref xi]))]) [7] (by decide) rfl
        have hKc := hK.sub (tys' := []) [] rfl
        have hFc := va_free (wc := [(o, .inr (6, [.int th, .ref xv, .ref xo, .ref xn, .ref xc, .ref xb, .ref xd, .ref xq, .ref xa, .ref xk, .ref xt, .ref xh, .ref xs, .ref xS, .ref xw, .ref xW, .ref xB, .ref xM, .long jf, .long js, .int jb, .long nf, .long ns, .int nb, .ref xf, .ref xg, .ref xi]))]) hD hS hA [7] rfl
        refine va_callv (va_runV (C := RMO) (As := [.int (nI 0), .int (sc (12 * t9 + 2)), .long (lc_lg sc (12 * t9 + 3))]) (rest := []) ⟨hx, hb, hml, hown, hts⟩ (c_MO_put_n l dC dI H.size o xv xo xn xc xb xd xq xa xk xt xh xs xS xw xW xB xM xf xg xi th jf js jb nf ns nb (nI 0) (sc (12 * t9 + 2)) (lc_lg sc (12 * t9 + 3)) (by rw [hp9]; exact Bool.and_false _)) (cwV (C := RMO) 3 hts (wT_4 w_m_LW_75 w_i_MO_put w_s_MO_put w_n_MO w_c_MO_put) rfl rfl rfl (by decide +kernel) ⟨Nat.le_of_ble_eq_true rfl, Nat.le_of_ble_eq_true rfl⟩) ⟨fun a U g mk q => by obtain ⟨q0, q1, qP, qK, qD⟩ := q; exact ⟨q0, q1, qP, va_K.moved (u := U) (U := U.calling g mk a) (Vm.Alike.refl U.vm) qK, qD⟩, va_recv hK hP (q0 := 7) (ci := 6) (q := (RMO, TMO, 27)) rfl rfl, fun U hU hW => ⟨rfl, by rw [hU], by rw [hU]; exact hPc, va_K.moved hW.alike hKc, hDc.weaken (fun _ _ _ _ => trivial)⟩⟩ rfl rfl hl.1 rfl (lv_room (Nat.le_of_ble_eq_true rfl)) dLW_law_191 ⟨show k9 + 1 + 0 ≤ 601024 from by omega, show n9 + 6 + 0 ≤ 7293034 from by omega⟩) hS (fun q _ h => hFc q h) hFc (fun u t H1 locs ht hvm hw hB hz1 hk1 hS => ?_)
        obtain ⟨hP1, hK1, hD1⟩ := hB
        rw [ht] at hP1
        have hK1 := va_K.moved hvm.symm hK1
        obtain ⟨hP, hD⟩ := xj_join (wt := wt) (wr := [(cs, .inl (cV, 2, .inr (.inr (.inr (.inr (bs_gl [s0, s1])))))), (s0, .inr (3, [.ref h0, .ref l0, .long an0, .int dp0, .int qn0])), (h0, .inr (4, [.ref ra0, .ref op0, .int (nI v0), .int lc0])), (op0, .inl (cL, 256, .inr (.inl fo0))), (s1, .inr (3, [.ref h1, .ref l1, .long an1, .int dp1, .int qn1])), (h1, .inr (4, [.ref ra1, .ref op1, .int (nI v1), .int lc1])), (op1, .inl (cL, 256, .inr (.inl fo1))), (xo, .inl (cL, 512, .inr (.inl fp))), (bo, .inr (5, [.ref q, .ref km, .ref ka, .ref cs]))]) (w1 := [(o, .inr (6, [.int (nI 1), .ref xv, .ref xo, .ref xn, .ref xc, .ref xb, .ref xd, .ref xq, .ref xa, .ref xk, .ref xt, .ref xh, .ref xs, .ref xS, .ref xw, .ref xW, .ref xB, .ref xM, .long jf, .long js, .int jb, .long nf, .long ns, .int nb, .ref xf, .ref xg, .ref xi]))]) hP hD [7] [0, 1, 2, 3, 4, 5, 6, 8, 9] rfl rfl (by decide) (by decide) hk1 hFc hP1 hD1
        generalize H1 = H at hP hS ⊢
        have hP : va_P (dC, dI) vwCl (xj_ap [(cs, .inl (cV, 2, .inr (.inr (.inr (.inr (bs_gl [s0, s1])))))), (s0, .inr (3, [.ref h0, .ref l0, .long an0, .int dp0, .int qn0])), (h0, .inr (4, [.ref ra0, .ref op0, .int (nI v0), .int lc0])), (op0, .inl (cL, 256, .inr (.inl fo0))), (s1, .inr (3, [.ref h1, .ref l1, .long an1, .int dp1, .int qn1])), (h1, .inr (4, [.ref ra1, .ref op1, .int (nI v1), .int lc1])), (op1, .inl (cL, 256, .inr (.inl fo1))), (xo, .inl (cL, 512, .inr (.inl fp))), (bo, .inr (5, [.ref q, .ref km, .ref ka, .ref cs])), (o, .inr (6, [.int (nI 1), .ref xv, .ref xo, .ref xn, .ref xc, .ref xb, .ref xd, .ref xq, .ref xa, .ref xk, .ref xt, .ref xh, .ref xs, .ref xS, .ref xw, .ref xW, .ref xB, .ref xM, .long jf, .long js, .int jb, .long nf, .long ns, .int nb, .ref xf, .ref xg, .ref xi]))] wt) H := hP
        have hD : va_D A (xj_ap [(cs, .inl (cV, 2, .inr (.inr (.inr (.inr (bs_gl [s0, s1])))))), (s0, .inr (3, [.ref h0, .ref l0, .long an0, .int dp0, .int qn0])), (h0, .inr (4, [.ref ra0, .ref op0, .int (nI v0), .int lc0])), (op0, .inl (cL, 256, .inr (.inl fo0))), (s1, .inr (3, [.ref h1, .ref l1, .long an1, .int dp1, .int qn1])), (h1, .inr (4, [.ref ra1, .ref op1, .int (nI v1), .int lc1])), (op1, .inl (cL, 256, .inr (.inl fo1))), (xo, .inl (cL, 512, .inr (.inl fp))), (bo, .inr (5, [.ref q, .ref km, .ref ka, .ref cs])), (o, .inr (6, [.int (nI 1), .ref xv, .ref xo, .ref xn, .ref xc, .ref xb, .ref xd, .ref xq, .ref xa, .ref xk, .ref xt, .ref xh, .ref xs, .ref xS, .ref xw, .ref xW, .ref xB, .ref xM, .long jf, .long js, .int jb, .long nf, .long ns, .int nb, .ref xf, .ref xg, .ref xi]))] wt) := hD
        refine lv_aload_n hx hb dLW_law_194 rfl (lv_at hl 3 rfl) ?_
        have hPc := hP.sub (ws' := [(o, .inr (6, [.int (nI 1), .ref xv, .ref xo, .ref xn, .ref xc, .ref xb, .ref xd, .ref xq, .ref xa, .ref xk, .ref xt, .ref xh, .ref xs, .ref xS, .ref xw, .ref xW, .ref xB, .ref xM, .long jf, .long js, .int jb, .long nf, .long ns, .int nb, .ref xf, .ref xg, .ref xi]))]) [9] rfl
        have hDc := hD.sub (ws' := [(o, .inr (6, [.int (nI 1), .ref xv, .ref xo, .ref xn, .ref xc, .ref xb, .ref xd, .ref xq, .ref xa, .ref xk, .ref xt, .ref xh, .ref xs, .ref xS, .ref xw, .ref xW, .ref xB, .ref xM, .long jf, .long js, .int jb, .long nf, .long ns, .int nb, .ref xf, .ref xg, .ref xi]))]) [9] (by decide) rfl
        have hKc := hK.sub (tys' := []) [] rfl
        have hFc := va_free (wc := [(o, .inr (6, [.int (nI 1), .ref xv, .ref xo, .ref xn, .ref xc, .ref xb, .ref xd, .ref xq, .ref xa, .ref xk, .ref xt, .ref xh, .ref xs, .ref xS, .ref xw, .ref xW, .ref xB, .ref xM, .long jf, .long js, .int jb, .long nf, .long ns, .int nb, .ref xf, .ref xg, .ref xi]))]) hD hS hA [9] rfl
        refine va_calli (va_runV (C := RMO) (As := []) (rest := []) ⟨hx, hb, hml, hown, hts⟩ (c_MO_thrown l dC dI H.size o xv xo xn xc xb xd xq xa xk xt xh xs xS xw xW xB xM xf xg xi (nI 1) jf js jb nf ns nb) (cwV (C := RMO) 0 hts (wT_4 w_m_LW_76 w_i_MO_thrown w_s_MO_thrown w_n_MO w_c_MO_thrown) rfl rfl rfl (by decide +kernel) ⟨Nat.le_of_ble_eq_true rfl, Nat.le_of_ble_eq_true rfl⟩) ⟨fun a U g mk q => by obtain ⟨q0, q1, qP, qK, qD⟩ := q; exact ⟨q0, q1, qP, va_K.moved (u := U) (U := U.calling g mk a) (Vm.Alike.refl U.vm) qK, qD⟩, va_recv hK hP (q0 := 9) (ci := 6) (q := (RMO, TMO, 27)) rfl rfl, fun U hU hW => ⟨rfl, by rw [hU], by rw [hU]; exact hPc, va_K.moved hW.alike hKc, hDc.weaken (fun _ _ _ _ => trivial)⟩⟩ rfl rfl hl.1 rfl (lv_room (Nat.le_of_ble_eq_true rfl)) dLW_law_195 ⟨show k9 + 1 + 0 ≤ 601024 from by omega, show n9 + 6 + 0 ≤ 7293034 from by omega⟩) hS (fun q _ h => hFc q h) hFc (fun r u t H1 locs ht hvm hw hB hz1 hk1 hS => ?_)
        obtain ⟨hP1, hK1, hD1⟩ := hB
        rw [ht] at hP1
        have hK1 := va_K.moved hvm.symm hK1
        have hw : r = nI 1 := hw
        rw [hw]
        obtain ⟨hP, hD⟩ := xj_join (wt := wt) (wr := [(cs, .inl (cV, 2, .inr (.inr (.inr (.inr (bs_gl [s0, s1])))))), (s0, .inr (3, [.ref h0, .ref l0, .long an0, .int dp0, .int qn0])), (h0, .inr (4, [.ref ra0, .ref op0, .int (nI v0), .int lc0])), (op0, .inl (cL, 256, .inr (.inl fo0))), (s1, .inr (3, [.ref h1, .ref l1, .long an1, .int dp1, .int qn1])), (h1, .inr (4, [.ref ra1, .ref op1, .int (nI v1), .int lc1])), (op1, .inl (cL, 256, .inr (.inl fo1))), (xo, .inl (cL, 512, .inr (.inl fp))), (bo, .inr (5, [.ref q, .ref km, .ref ka, .ref cs]))]) (w1 := [(o, .inr (6, [.int (nI 1), .ref xv, .ref xo, .ref xn, .ref xc, .ref xb, .ref xd, .ref xq, .ref xa, .ref xk, .ref xt, .ref xh, .ref xs, .ref xS, .ref xw, .ref xW, .ref xB, .ref xM, .long jf, .long js, .int jb, .long nf, .long ns, .int nb, .ref xf, .ref xg, .ref xi]))]) hP hD [9] [0, 1, 2, 3, 4, 5, 6, 7, 8] rfl rfl (by decide) (by decide) hk1 hFc hP1 hD1
        generalize H1 = H at hP hS ⊢
        have hP : va_P (dC, dI) vwCl (xj_ap [(cs, .inl (cV, 2, .inr (.inr (.inr (.inr (bs_gl [s0, s1])))))), (s0, .inr (3, [.ref h0, .ref l0, .long an0, .int dp0, .int qn0])), (h0, .inr (4, [.ref ra0, .ref op0, .int (nI v0), .int lc0])), (op0, .inl (cL, 256, .inr (.inl fo0))), (s1, .inr (3, [.ref h1, .ref l1, .long an1, .int dp1, .int qn1])), (h1, .inr (4, [.ref ra1, .ref op1, .int (nI v1), .int lc1])), (op1, .inl (cL, 256, .inr (.inl fo1))), (xo, .inl (cL, 512, .inr (.inl fp))), (bo, .inr (5, [.ref q, .ref km, .ref ka, .ref cs])), (o, .inr (6, [.int (nI 1), .ref xv, .ref xo, .ref xn, .ref xc, .ref xb, .ref xd, .ref xq, .ref xa, .ref xk, .ref xt, .ref xh, .ref xs, .ref xS, .ref xw, .ref xW, .ref xB, .ref xM, .long jf, .long js, .int jb, .long nf, .long ns, .int nb, .ref xf, .ref xg, .ref xi]))] wt) H := hP
        have hD : va_D A (xj_ap [(cs, .inl (cV, 2, .inr (.inr (.inr (.inr (bs_gl [s0, s1])))))), (s0, .inr (3, [.ref h0, .ref l0, .long an0, .int dp0, .int qn0])), (h0, .inr (4, [.ref ra0, .ref op0, .int (nI v0), .int lc0])), (op0, .inl (cL, 256, .inr (.inl fo0))), (s1, .inr (3, [.ref h1, .ref l1, .long an1, .int dp1, .int qn1])), (h1, .inr (4, [.ref ra1, .ref op1, .int (nI v1), .int lc1])), (op1, .inl (cL, 256, .inr (.inl fo1))), (xo, .inl (cL, 512, .inr (.inl fp))), (bo, .inr (5, [.ref q, .ref km, .ref ka, .ref cs])), (o, .inr (6, [.int (nI 1), .ref xv, .ref xo, .ref xn, .ref xc, .ref xb, .ref xd, .ref xq, .ref xa, .ref xk, .ref xt, .ref xh, .ref xs, .ref xS, .ref xw, .ref xW, .ref xB, .ref xM, .long jf, .long js, .int jb, .long nf, .long ns, .int nb, .ref xf, .ref xg, .ref xi]))] wt) := hD
        refine lv_iload hx hb dLW_law_198 (lv_at hl 0 rfl) ?_
        refine lv_icmp_eq (tgt := 205) hx hb dLW_law_200 (by decide) (fun _ => ?_) (fun h => absurd (rfl) h)
        refine lv_goto (tgt := 1342) hx hb dLW_law_205 (by decide) ?_
        have hP := xj_subP (ws' := [(bo, .inr (5, [.ref q, .ref km, .ref ka, .ref cs])), (cs, .inl (cV, 2, .inr (.inr (.inr (.inr (bs_gl [s0, s1])))))), (s0, .inr (3, [.ref h0, .ref l0, .long an0, .int dp0, .int qn0])), (h0, .inr (4, [.ref ra0, .ref op0, .int (nI v0), .int lc0])), (op0, .inl (cL, 256, .inr (.inl fo0))), (s1, .inr (3, [.ref h1, .ref l1, .long an1, .int dp1, .int qn1])), (h1, .inr (4, [.ref ra1, .ref op1, .int (nI v1), .int lc1])), (op1, .inl (cL, 256, .inr (.inl fo1))), (o, .inr (6, [.int (nI 1), .ref xv, .ref xo, .ref xn, .ref xc, .ref xb, .ref xd, .ref xq, .ref xa, .ref xk, .ref xt, .ref xh, .ref xs, .ref xS, .ref xw, .ref xW, .ref xB, .ref xM, .long jf, .long js, .int jb, .long nf, .long ns, .int nb, .ref xf, .ref xg, .ref xi])), (xo, .inl (cL, 512, .inr (.inl fp)))]) hP [8, 0, 1, 2, 3, 4, 5, 6, 9, 7] rfl
        have hD := xj_subD (ws' := [(bo, .inr (5, [.ref q, .ref km, .ref ka, .ref cs])), (cs, .inl (cV, 2, .inr (.inr (.inr (.inr (bs_gl [s0, s1])))))), (s0, .inr (3, [.ref h0, .ref l0, .long an0, .int dp0, .int qn0])), (h0, .inr (4, [.ref ra0, .ref op0, .int (nI v0), .int lc0])), (op0, .inl (cL, 256, .inr (.inl fo0))), (s1, .inr (3, [.ref h1, .ref l1, .long an1, .int dp1, .int qn1])), (h1, .inr (4, [.ref ra1, .ref op1, .int (nI v1), .int lc1])), (op1, .inl (cL, 256, .inr (.inl fo1))), (o, .inr (6, [.int (nI 1), .ref xv, .ref xo, .ref xn, .ref xc, .ref xb, .ref xd, .ref xq, .ref xa, .ref xk, .ref xt, .ref xh, .ref xs, .ref xS, .ref xw, .ref xW, .ref xB, .ref xM, .long jf, .long js, .int jb, .long nf, .long ns, .int nb, .ref xf, .ref xg, .ref xi])), (xo, .inl (cL, 512, .inr (.inl fp)))]) hD [8, 0, 1, 2, 3, 4, 5, 6, 9, 7] (by decide) rfl
        have hP : va_P (dC, dI) vwCl (xj_ap [(bo, .inr (5, [.ref q, .ref km, .ref ka, .ref cs])), (cs, .inl (cV, 2, .inr (.inr (.inr (.inr (bs_gl [s0, s1])))))), (s0, .inr (3, [.ref h0, .ref l0, .long an0, .int dp0, .int qn0])), (h0, .inr (4, [.ref ra0, .ref op0, .int (nI v0), .int lc0])), (op0, .inl (cL, 256, .inr (.inl fo0))), (s1, .inr (3, [.ref h1, .ref l1, .long an1, .int dp1, .int qn1])), (h1, .inr (4, [.ref ra1, .ref op1, .int (nI v1), .int lc1])), (op1, .inl (cL, 256, .inr (.inl fo1))), (o, .inr (6, [.int (nI 1), .ref xv, .ref xo, .ref xn, .ref xc, .ref xb, .ref xd, .ref xq, .ref xa, .ref xk, .ref xt, .ref xh, .ref xs, .ref xS, .ref xw, .ref xW, .ref xB, .ref xM, .long jf, .long js, .int jb, .long nf, .long ns, .int nb, .ref xf, .ref xg, .ref xi])), (xo, .inl (cL, 512, .inr (.inl fp)))] wt) H := hP
        have hD : va_D A (xj_ap [(bo, .inr (5, [.ref q, .ref km, .ref ka, .ref cs])), (cs, .inl (cV, 2, .inr (.inr (.inr (.inr (bs_gl [s0, s1])))))), (s0, .inr (3, [.ref h0, .ref l0, .long an0, .int dp0, .int qn0])), (h0, .inr (4, [.ref ra0, .ref op0, .int (nI v0), .int lc0])), (op0, .inl (cL, 256, .inr (.inl fo0))), (s1, .inr (3, [.ref h1, .ref l1, .long an1, .int dp1, .int qn1])), (h1, .inr (4, [.ref ra1, .ref op1, .int (nI v1), .int lc1])), (op1, .inl (cL, 256, .inr (.inl fo1))), (o, .inr (6, [.int (nI 1), .ref xv, .ref xo, .ref xn, .ref xc, .ref xb, .ref xd, .ref xq, .ref xa, .ref xk, .ref xt, .ref xh, .ref xs, .ref xS, .ref xw, .ref xW, .ref xB, .ref xM, .long jf, .long js, .int jb, .long nf, .long ns, .int nb, .ref xf, .ref xg, .ref xi])), (xo, .inl (cL, 512, .inr (.inl fp)))] wt) := hD
        have hl := lv_sub hl (l' := [(0, .ref b), (1, .ref bo), (2, .ref o), (3, .ref ou), (4, .int (nI (12 * t9)))]) [1, 2, 3, 4, 5] rfl
        exact hk fo0 fo1 fp (nI 1) H _ ls (hJ) hP hD hS hl
    · rcases Bool.eq_false_or_eq_true (bs_ii (sc (12 * t9 + 2)) 256) with hp9 | hp9
      · obtain ⟨i9, hi9, hye⟩ := bs_ii_t hp9
        refine lv_aload_n hx hb dLW_law_116 rfl (lv_at hl 1 rfl) ?_
        refine lv_aload_n hx hb dLW_law_117 rfl (lv_at hl 0 rfl) ?_
        refine lv_iload hx hb dLW_law_118 (lv_at hl 4 rfl) ?_
        refine lv_iconst (v := nI 1) hx hb dLW_law_120 (by decide) ?_
        refine lv_iadd hx hb dLW_law_121 ?_
        refine xt_i (y := nI (12 * t9 + 1)) (nI_add _ _) ?_
        refine xs_ld hx hb hXs hbl hbA (Nat.lt_of_le_of_lt hL (by decide)) hS (12 * t9 + 1) (by omega) dLW_law_122 ?_
        refine xt_i (y := nI 1) (hxe) ?_
        refine lv_aload_n hx hb dLW_law_123 rfl (lv_at hl 0 rfl) ?_
        refine lv_iload hx hb dLW_law_124 (lv_at hl 4 rfl) ?_
        refine lv_iconst (v := nI 2) hx hb dLW_law_126 (by decide) ?_
        refine lv_iadd hx hb dLW_law_127 ?_
        refine xt_i (y := nI (12 * t9 + 2)) (nI_add _ _) ?_
        refine xs_ld hx hb hXs hbl hbA (Nat.lt_of_le_of_lt hL (by decide)) hS (12 * t9 + 2) (by omega) dLW_law_128 ?_
        refine xt_i (y := nI i9) (hye) ?_
        refine lv_aload_n hx hb dLW_law_129 rfl (lv_at hl 0 rfl) ?_
        refine lv_iload hx hb dLW_law_130 (lv_at hl 4 rfl) ?_
        refine lv_iconst (v := nI 3) hx hb dLW_law_132 (by decide) ?_
        refine lv_iadd hx hb dLW_law_133 ?_
        refine xt_i (y := nI (12 * t9 + 3)) (nI_add _ _) ?_
        refine xs_ld hx hb hXs hbl hbA (Nat.lt_of_le_of_lt hL (by decide)) hS (12 * t9 + 3) (by omega) dLW_law_134 ?_
        refine lv_i2l (v := (sc (12 * t9 + 3)).toInt64) hx hb dLW_law_135 rfl ?_
        refine lv_bipush (v := nI 32) hx hb dLW_law_136 (by decide) ?_
        refine lv_lshl (v := j_lshl ((sc (12 * t9 + 3)).toInt64) (nI 32)) hx hb dLW_law_138 rfl ?_
        refine lv_aload_n hx hb dLW_law_139 rfl (lv_at hl 0 rfl) ?_
        refine lv_iload hx hb dLW_law_140 (lv_at hl 4 rfl) ?_
        refine lv_iconst (v := nI 4) hx hb dLW_law_142 (by decide) ?_
        refine lv_iadd hx hb dLW_law_143 ?_
        refine xt_i (y := nI (12 * t9 + 4)) (nI_add _ _) ?_
        refine xs_ld hx hb hXs hbl hbA (Nat.lt_of_le_of_lt hL (by decide)) hS (12 * t9 + 4) (by omega) dLW_law_144 ?_
        refine lv_i2l (v := (sc (12 * t9 + 4)).toInt64) hx hb dLW_law_145 rfl ?_
        refine lv_ldc2 (v := 4294967295) hx hb hown (hts _ w_j_LW_68) dLW_law_146 ?_
        refine lv_land hx hb dLW_law_149 ?_
        refine lv_lor hx hb dLW_law_150 ?_
        refine xt_l (y := lc_lg sc (12 * t9 + 3)) (rfl) ?_
        have hPc := hP.sub (ws' := [(bo, .inr (5, [.ref q, .ref km, .ref ka, .ref cs])), (cs, .inl (cV, 2, .inr (.inr (.inr (.inr (bs_gl [s0, s1])))))), (s1, .inr (3, [.ref h1, .ref l1, .long an1, .int dp1, .int qn1])), (h1, .inr (4, [.ref ra1, .ref op1, .int (nI v1), .int lc1])), (op1, .inl (cL, 256, .inr (.inl fo1)))]) [0, 1, 5, 6, 7] rfl
        have hDc := hD.sub (ws' := [(bo, .inr (5, [.ref q, .ref km, .ref ka, .ref cs])), (cs, .inl (cV, 2, .inr (.inr (.inr (.inr (bs_gl [s0, s1])))))), (s1, .inr (3, [.ref h1, .ref l1, .long an1, .int dp1, .int qn1])), (h1, .inr (4, [.ref ra1, .ref op1, .int (nI v1), .int lc1])), (op1, .inl (cL, 256, .inr (.inl fo1)))]) [0, 1, 5, 6, 7] (by decide) rfl
        have hKc := hK.sub (tys' := [(cV, .object "BlindShelf$Server"), (cL, .long)]) [6, 1] rfl
        have hFc := va_free (wc := [(bo, .inr (5, [.ref q, .ref km, .ref ka, .ref cs])), (cs, .inl (cV, 2, .inr (.inr (.inr (.inr (bs_gl [s0, s1])))))), (s1, .inr (3, [.ref h1, .ref l1, .long an1, .int dp1, .int qn1])), (h1, .inr (4, [.ref ra1, .ref op1, .int (nI v1), .int lc1])), (op1, .inl (cL, 256, .inr (.inl fo1)))]) hD hS hA [0, 1, 5, 6, 7] rfl
        refine va_calli (xs_runW (n := 4) (hh := [(0, 7, 10, 13)]) (As := [.ref bo, .int (nI 1), .int (nI i9), .long (lc_lg sc (12 * t9 + 3))]) (rest := []) ⟨hx, hb, hml, hown, hts⟩ (c_LW_put_y l dC dI H.size bo q km ka cs s1 h1 l1 an1 dp1 qn1 cV (bs_gl [s0, s1]) 1 ra1 op1 v1 lc1 cL fo1 i9 (lc_lg sc (12 * t9 + 3)) (by decide) rfl hi9) (wT_3 w_m_LW_70 w_t_LW_put w_n_LW w_c_LW_put) rfl rfl rfl (by decide +kernel) ⟨Nat.le_of_ble_eq_true rfl, Nat.le_of_ble_eq_true rfl⟩ ⟨fun a U g mk q => by obtain ⟨q0, q1, qP, qK, qD⟩ := q; exact ⟨q0, q1, qP, va_K.moved (u := U) (U := U.calling g mk a) (Vm.Alike.refl U.vm) qK, qD⟩, fun U hU hW => ⟨rfl, by rw [hU], by rw [hU]; exact hPc, va_K.moved hW.alike hKc, hDc.weaken (fun _ _ _ _ => trivial)⟩⟩ rfl rfl hl.1 rfl (lv_room (Nat.le_of_ble_eq_true rfl)) dLW_law_151 ⟨show k9 + 1 ≤ 601024 from by omega, show n9 + 6 ≤ 7293034 from by omega⟩) hS (fun q _ h => hFc q h) hFc (fun r u t H1 locs ht hvm hw hB hz1 hk1 hS => ?_)
        obtain ⟨hP1, hK1, hD1⟩ := hB
        rw [ht] at hP1
        have hK1 := va_K.moved hvm.symm hK1
        have hw : r = nI 0 := hw
        rw [hw]
        obtain ⟨hP, hD⟩ := xj_join (wt := wt) (wr := [(s0, .inr (3, [.ref h0, .ref l0, .long an0, .int dp0, .int qn0])), (h0, .inr (4, [.ref ra0, .ref op0, .int (nI v0), .int lc0])), (op0, .inl (cL, 256, .inr (.inl fo0))), (o, .inr (6, [.int th, .ref xv, .ref xo, .ref xn, .ref xc, .ref xb, .ref xd, .ref xq, .ref xa, .ref xk, .ref xt, .ref xh, .ref xs, .ref xS, .ref xw, .ref xW, .ref xB, .ref xM, .long jf, .long js, .int jb, .long nf, .long ns, .int nb, .ref xf, .ref xg, .ref xi])), (xo, .inl (cL, 512, .inr (.inl fp)))]) (w1 := [(bo, .inr (5, [.ref q, .ref km, .ref ka, .ref cs])), (cs, .inl (cV, 2, .inr (.inr (.inr (.inr (bs_gl [s0, s1])))))), (s1, .inr (3, [.ref h1, .ref l1, .long an1, .int dp1, .int qn1])), (h1, .inr (4, [.ref ra1, .ref op1, .int (nI v1), .int lc1])), (op1, .inl (cL, 256, .inr (.inl (vp_updL fo1 i9 (lc_lg sc (12 * t9 + 3))))))]) hP hD [0, 1, 5, 6, 7] [2, 3, 4, 8, 9] rfl rfl (by decide) (by decide) hk1 hFc hP1 hD1
        generalize H1 = H at hP hS ⊢
        have hP : va_P (dC, dI) vwCl (xj_ap [(s0, .inr (3, [.ref h0, .ref l0, .long an0, .int dp0, .int qn0])), (h0, .inr (4, [.ref ra0, .ref op0, .int (nI v0), .int lc0])), (op0, .inl (cL, 256, .inr (.inl fo0))), (o, .inr (6, [.int th, .ref xv, .ref xo, .ref xn, .ref xc, .ref xb, .ref xd, .ref xq, .ref xa, .ref xk, .ref xt, .ref xh, .ref xs, .ref xS, .ref xw, .ref xW, .ref xB, .ref xM, .long jf, .long js, .int jb, .long nf, .long ns, .int nb, .ref xf, .ref xg, .ref xi])), (xo, .inl (cL, 512, .inr (.inl fp))), (bo, .inr (5, [.ref q, .ref km, .ref ka, .ref cs])), (cs, .inl (cV, 2, .inr (.inr (.inr (.inr (bs_gl [s0, s1])))))), (s1, .inr (3, [.ref h1, .ref l1, .long an1, .int dp1, .int qn1])), (h1, .inr (4, [.ref ra1, .ref op1, .int (nI v1), .int lc1])), (op1, .inl (cL, 256, .inr (.inl (vp_updL fo1 i9 (lc_lg sc (12 * t9 + 3))))))] wt) H := hP
        have hD : va_D A (xj_ap [(s0, .inr (3, [.ref h0, .ref l0, .long an0, .int dp0, .int qn0])), (h0, .inr (4, [.ref ra0, .ref op0, .int (nI v0), .int lc0])), (op0, .inl (cL, 256, .inr (.inl fo0))), (o, .inr (6, [.int th, .ref xv, .ref xo, .ref xn, .ref xc, .ref xb, .ref xd, .ref xq, .ref xa, .ref xk, .ref xt, .ref xh, .ref xs, .ref xS, .ref xw, .ref xW, .ref xB, .ref xM, .long jf, .long js, .int jb, .long nf, .long ns, .int nb, .ref xf, .ref xg, .ref xi])), (xo, .inl (cL, 512, .inr (.inl fp))), (bo, .inr (5, [.ref q, .ref km, .ref ka, .ref cs])), (cs, .inl (cV, 2, .inr (.inr (.inr (.inr (bs_gl [s0, s1])))))), (s1, .inr (3, [.ref h1, .ref l1, .long an1, .int dp1, .int qn1])), (h1, .inr (4, [.ref ra1, .ref op1, .int (nI v1), .int lc1])), (op1, .inl (cL, 256, .inr (.inl (vp_updL fo1 i9 (lc_lg sc (12 * t9 + 3))))))] wt) := hD
        refine lv_istore (lv' := [(5, .int (nI 0)), (0, .ref b), (1, .ref bo), (2, .ref o), (3, .ref ou), (4, .int (nI (12 * t9)))]) hx hb dLW_law_154 hl (by decide) rfl (fun ls hl => ?_)
        refine lv_aload_n hx hb dLW_law_156 rfl (lv_at hl 3 rfl) ?_
        refine lv_aload_n hx hb dLW_law_157 rfl (lv_at hl 1 rfl) ?_
        refine lv_iload hx hb dLW_law_158 (lv_at hl 5 rfl) ?_
        refine lv_iconst (v := nI 1) hx hb dLW_law_160 (by decide) ?_
        refine lv_iadd hx hb dLW_law_161 ?_
        refine xt_i (y := nI (12 * t9 + 1)) (nI_add _ _) ?_
        refine xs_ld hx hb hXs hbl hbA (Nat.lt_of_le_of_lt hL (by decide)) hS (12 * t9 + 1) (by omega) dLW_law_162 ?_
        refine xt_i (y := nI 1) (hxe) ?_
        refine lv_aload_n hx hb dLW_law_163 rfl (lv_at hl 1 rfl) ?_
        refine lv_iload hx hb dLW_law_164 (lv_at hl 5 rfl) ?_
        refine lv_iconst (v := nI 2) hx hb dLW_law_166 (by decide) ?_
        refine lv_iadd hx hb dLW_law_167 ?_
        refine xt_i (y := nI (12 * t9 + 2)) (nI_add _ _) ?_
        refine xs_ld hx hb hXs hbl hbA (Nat.lt_of_le_of_lt hL (by decide)) hS (12 * t9 + 2) (by omega) dLW_law_168 ?_
        refine xt_i (y := nI i9) (hye) ?_
        refine lv_aload_n hx hb dLW_law_169 rfl (lv_at hl 1 rfl) ?_
        refine lv_iload hx hb dLW_law_170 (lv_at hl 5 rfl) ?_
        refine lv_iconst (v := nI 3) hx hb dLW_law_172 (by decide) ?_
        refine lv_iadd hx hb dLW_law_173 ?_
        refine xt_i (y := nI (12 * t9 + 3)) (nI_add _ _) ?_
        refine xs_ld hx hb hXs hbl hbA (Nat.lt_of_le_of_lt hL (by decide)) hS (12 * t9 + 3) (by omega) dLW_law_174 ?_
        refine lv_i2l (v := (sc (12 * t9 + 3)).toInt64) hx hb dLW_law_175 rfl ?_
        refine lv_bipush (v := nI 32) hx hb dLW_law_176 (by decide) ?_
        refine lv_lshl (v := j_lshl ((sc (12 * t9 + 3)).toInt64) (nI 32)) hx hb dLW_law_178 rfl ?_
        refine lv_aload_n hx hb dLW_law_179 rfl (lv_at hl 1 rfl) ?_
        refine lv_iload hx hb dLW_law_180 (lv_at hl 5 rfl) ?_
        refine lv_iconst (v := nI 4) hx hb dLW_law_182 (by decide) ?_
        refine lv_iadd hx hb dLW_law_183 ?_
        refine xt_i (y := nI (12 * t9 + 4)) (nI_add _ _) ?_
        refine xs_ld hx hb hXs hbl hbA (Nat.lt_of_le_of_lt hL (by decide)) hS (12 * t9 + 4) (by omega) dLW_law_184 ?_
        refine lv_i2l (v := (sc (12 * t9 + 4)).toInt64) hx hb dLW_law_185 rfl ?_
        refine lv_ldc2 (v := 4294967295) hx hb hown (hts _ w_j_LW_68) dLW_law_186 ?_
        refine lv_land hx hb dLW_law_189 ?_
        refine lv_lor hx hb dLW_law_190 ?_
        refine xt_l (y := lc_lg sc (12 * t9 + 3)) (rfl) ?_
        have hPc := hP.sub (ws' := [(o, .inr (6, [.int th, .ref xv, .ref xo, .ref xn, .ref xc, .ref xb, .ref xd, .ref xq, .ref xa, .ref xk, .ref xt, .ref xh, .ref xs, .ref xS, .ref xw, .ref xW, .ref xB, .ref xM, .long jf, .long js, .int jb, .long nf, .long ns, .int nb, .ref xf, .ref xg, .ref xi])), (xo, .inl (cL, 512, .inr (.inl fp)))]) [3, 4] rfl
        have hDc := hD.sub (ws' := [(o, .inr (6, [.int th, .ref xv, .ref xo, .ref xn, .ref xc, .ref xb, .ref xd, .ref xq, .ref xa, .ref xk, .ref xt, .ref xh, .ref xs, .ref xS, .ref xw, .ref xW, .ref xB, .ref xM, .long jf, .long js, .int jb, .long nf, .long ns, .int nb, .ref xf, .ref xg, .ref xi])), (xo, .inl (cL, 512, .inr (.inl fp)))]) [3, 4] (by decide) rfl
        have hKc := hK.sub (tys' := [(cL, .long)]) [1] rfl
        have hFc := va_free (wc := [(o, .inr (6, [.int th, .ref xv, .ref xo, .ref xn, .ref xc, .ref xb, .ref xd, .ref xq, .ref xa, .ref xk, .ref xt, .ref xh, .ref xs, .ref xS, .ref xw, .ref xW, .ref xB, .ref xM, .long jf, .long js, .int jb, .long nf, .long ns, .int nb, .ref xf, .ref xg, .ref xi])), (xo, .inl (cL, 512, .inr (.inl fp)))]) hD hS hA [3, 4] rfl
        refine va_callv (va_runV (C := RMO) (As := [.int (nI 1), .int (nI i9), .long (lc_lg sc (12 * t9 + 3))]) (rest := []) ⟨hx, hb, hml, hown, hts⟩ (c_MO_put_y l dC dI H.size o xv xo xn xc xb xd xq xa xk xt xh xs xS xw xW xB xM xf xg xi th jf js jb nf ns nb cL fp 1 i9 (lc_lg sc (12 * t9 + 3)) (by decide) hi9) (cwV (C := RMO) 3 hts (wT_4 w_m_LW_75 w_i_MO_put w_s_MO_put w_n_MO w_c_MO_put) rfl rfl rfl (by decide +kernel) ⟨Nat.le_of_ble_eq_true rfl, Nat.le_of_ble_eq_true rfl⟩) ⟨fun a U g mk q => by obtain ⟨q0, q1, qP, qK, qD⟩ := q; exact ⟨q0, q1, qP, va_K.moved (u := U) (U := U.calling g mk a) (Vm.Alike.refl U.vm) qK, qD⟩, va_recv hK hP (q0 := 3) (ci := 6) (q := (RMO, TMO, 27)) rfl rfl, fun U hU hW => ⟨rfl, by rw [hU], by rw [hU]; exact hPc, va_K.moved hW.alike hKc, hDc.weaken (fun _ _ _ _ => trivial)⟩⟩ rfl rfl hl.1 rfl (lv_room (Nat.le_of_ble_eq_true rfl)) dLW_law_191 ⟨show k9 + 1 + 0 ≤ 601024 from by omega, show n9 + 6 + 0 ≤ 7293034 from by omega⟩) hS (fun q _ h => hFc q h) hFc (fun u t H1 locs ht hvm hw hB hz1 hk1 hS => ?_)
        obtain ⟨hP1, hK1, hD1⟩ := hB
        rw [ht] at hP1
        have hK1 := va_K.moved hvm.symm hK1
        obtain ⟨hP, hD⟩ := xj_join (wt := wt) (wr := [(s0, .inr (3, [.ref h0, .ref l0, .long an0, .int dp0, .int qn0])), (h0, .inr (4, [.ref ra0, .ref op0, .int (nI v0), .int lc0])), (op0, .inl (cL, 256, .inr (.inl fo0))), (bo, .inr (5, [.ref q, .ref km, .ref ka, .ref cs])), (cs, .inl (cV, 2, .inr (.inr (.inr (.inr (bs_gl [s0, s1])))))), (s1, .inr (3, [.ref h1, .ref l1, .long an1, .int dp1, .int qn1])), (h1, .inr (4, [.ref ra1, .ref op1, .int (nI v1), .int lc1])), (op1, .inl (cL, 256, .inr (.inl (vp_updL fo1 i9 (lc_lg sc (12 * t9 + 3))))))]) (w1 := [(o, .inr (6, [.int (nI 0), .ref xv, .ref xo, .ref xn, .ref xc, .ref xb, .ref xd, .ref xq, .ref xa, .ref xk, .ref xt, .ref xh, .ref xs, .ref xS, .ref xw, .ref xW, .ref xB, .ref xM, .long jf, .long js, .int jb, .long nf, .long ns, .int nb, .ref xf, .ref xg, .ref xi])), (xo, .inl (cL, 512, .inr (.inl (vp_updL fp (256 * 1 + i9) (lc_lg sc (12 * t9 + 3))))))]) hP hD [3, 4] [0, 1, 2, 5, 6, 7, 8, 9] rfl rfl (by decide) (by decide) hk1 hFc hP1 hD1
        generalize H1 = H at hP hS ⊢
        have hP : va_P (dC, dI) vwCl (xj_ap [(s0, .inr (3, [.ref h0, .ref l0, .long an0, .int dp0, .int qn0])), (h0, .inr (4, [.ref ra0, .ref op0, .int (nI v0), .int lc0])), (op0, .inl (cL, 256, .inr (.inl fo0))), (bo, .inr (5, [.ref q, .ref km, .ref ka, .ref cs])), (cs, .inl (cV, 2, .inr (.inr (.inr (.inr (bs_gl [s0, s1])))))), (s1, .inr (3, [.ref h1, .ref l1, .long an1, .int dp1, .int qn1])), (h1, .inr (4, [.ref ra1, .ref op1, .int (nI v1), .int lc1])), (op1, .inl (cL, 256, .inr (.inl (vp_updL fo1 i9 (lc_lg sc (12 * t9 + 3)))))), (o, .inr (6, [.int (nI 0), .ref xv, .ref xo, .ref xn, .ref xc, .ref xb, .ref xd, .ref xq, .ref xa, .ref xk, .ref xt, .ref xh, .ref xs, .ref xS, .ref xw, .ref xW, .ref xB, .ref xM, .long jf, .long js, .int jb, .long nf, .long ns, .int nb, .ref xf, .ref xg, .ref xi])), (xo, .inl (cL, 512, .inr (.inl (vp_updL fp (256 * 1 + i9) (lc_lg sc (12 * t9 + 3))))))] wt) H := hP
        have hD : va_D A (xj_ap [(s0, .inr (3, [.ref h0, .ref l0, .long an0, .int dp0, .int qn0])), (h0, .inr (4, [.ref ra0, .ref op0, .int (nI v0), .int lc0])), (op0, .inl (cL, 256, .inr (.inl fo0))), (bo, .inr (5, [.ref q, .ref km, .ref ka, .ref cs])), (cs, .inl (cV, 2, .inr (.inr (.inr (.inr (bs_gl [s0, s1])))))), (s1, .inr (3, [.ref h1, .ref l1, .long an1, .int dp1, .int qn1])), (h1, .inr (4, [.ref ra1, .ref op1, .int (nI v1), .int lc1])), (op1, .inl (cL, 256, .inr (.inl (vp_updL fo1 i9 (lc_lg sc (12 * t9 + 3)))))), (o, .inr (6, [.int (nI 0), .ref xv, .ref xo, .ref xn, .ref xc, .ref xb, .ref xd, .ref xq, .ref xa, .ref xk, .ref xt, .ref xh, .ref xs, .ref xS, .ref xw, .ref xW, .ref xB, .ref xM, .long jf, .long js, .int jb, .long nf, .long ns, .int nb, .ref xf, .ref xg, .ref xi])), (xo, .inl (cL, 512, .inr (.inl (vp_updL fp (256 * 1 + i9) (lc_lg sc (12 * t9 + 3))))))] wt) := hD
        refine lv_aload_n hx hb dLW_law_194 rfl (lv_at hl 3 rfl) ?_
        have hPc := hP.sub (ws' := [(o, .inr (6, [.int (nI 0), .ref xv, .ref xo, .ref xn, .ref xc, .ref xb, .ref xd, .ref xq, .ref xa, .ref xk, .ref xt, .ref xh, .ref xs, .ref xS, .ref xw, .ref xW, .ref xB, .ref xM, .long jf, .long js, .int jb, .long nf, .long ns, .int nb, .ref xf, .ref xg, .ref xi]))]) [8] rfl
        have hDc := hD.sub (ws' := [(o, .inr (6, [.int (nI 0), .ref xv, .ref xo, .ref xn, .ref xc, .ref xb, .ref xd, .ref xq, .ref xa, .ref xk, .ref xt, .ref xh, .ref xs, .ref xS, .ref xw, .ref xW, .ref xB, .ref xM, .long jf, .long js, .int jb, .long nf, .long ns, .int nb, .ref xf, .ref xg, .ref xi]))]) [8] (by decide) rfl
        have hKc := hK.sub (tys' := []) [] rfl
        have hFc := va_free (wc := [(o, .inr (6, [.int (nI 0), .ref xv, .ref xo, .ref xn, .ref xc, .ref xb, .ref xd, .ref xq, .ref xa, .ref xk, .ref xt, .ref xh, .ref xs, .ref xS, .ref xw, .ref xW, .ref xB, .ref xM, .long jf, .long js, .int jb, .long nf, .long ns, .int nb, .ref xf, .ref xg, .ref xi]))]) hD hS hA [8] rfl
        refine va_calli (va_runV (C := RMO) (As := []) (rest := []) ⟨hx, hb, hml, hown, hts⟩ (c_MO_thrown l dC dI H.size o xv xo xn xc xb xd xq xa xk xt xh xs xS xw xW xB xM xf xg xi (nI 0) jf js jb nf ns nb) (cwV (C := RMO) 0 hts (wT_4 w_m_LW_76 w_i_MO_thrown w_s_MO_thrown w_n_MO w_c_MO_thrown) rfl rfl rfl (by decide +kernel) ⟨Nat.le_of_ble_eq_true rfl, Nat.le_of_ble_eq_true rfl⟩) ⟨fun a U g mk q => by obtain ⟨q0, q1, qP, qK, qD⟩ := q; exact ⟨q0, q1, qP, va_K.moved (u := U) (U := U.calling g mk a) (Vm.Alike.refl U.vm) qK, qD⟩, va_recv hK hP (q0 := 8) (ci := 6) (q := (RMO, TMO, 27)) rfl rfl, fun U hU hW => ⟨rfl, by rw [hU], by rw [hU]; exact hPc, va_K.moved hW.alike hKc, hDc.weaken (fun _ _ _ _ => trivial)⟩⟩ rfl rfl hl.1 rfl (lv_room (Nat.le_of_ble_eq_true rfl)) dLW_law_195 ⟨show k9 + 1 + 0 ≤ 601024 from by omega, show n9 + 6 + 0 ≤ 7293034 from by omega⟩) hS (fun q _ h => hFc q h) hFc (fun r u t H1 locs ht hvm hw hB hz1 hk1 hS => ?_)
        obtain ⟨hP1, hK1, hD1⟩ := hB
        rw [ht] at hP1
        have hK1 := va_K.moved hvm.symm hK1
        have hw : r = nI 0 := hw
        rw [hw]
        obtain ⟨hP, hD⟩ := xj_join (wt := wt) (wr := [(s0, .inr (3, [.ref h0, .ref l0, .long an0, .int dp0, .int qn0])), (h0, .inr (4, [.ref ra0, .ref op0, .int (nI v0), .int lc0])), (op0, .inl (cL, 256, .inr (.inl fo0))), (bo, .inr (5, [.ref q, .ref km, .ref ka, .ref cs])), (cs, .inl (cV, 2, .inr (.inr (.inr (.inr (bs_gl [s0, s1])))))), (s1, .inr (3, [.ref h1, .ref l1, .long an1, .int dp1, .int qn1])), (h1, .inr (4, [.ref ra1, .ref op1, .int (nI v1), .int lc1])), (op1, .inl (cL, 256, .inr (.inl (vp_updL fo1 i9 (lc_lg sc (12 * t9 + 3)))))), (xo, .inl (cL, 512, .inr (.inl (vp_updL fp (256 * 1 + i9) (lc_lg sc (12 * t9 + 3))))))]) (w1 := [(o, .inr (6, [.int (nI 0), .ref xv, .ref xo, .ref xn, .ref xc, .ref xb, .ref xd, .ref xq, .ref xa, .ref xk, .ref xt, .ref xh, .ref xs, .ref xS, .ref xw, .ref xW, .ref xB, .ref xM, .long jf, .long js, .int jb, .long nf, .long ns, .int nb, .ref xf, .ref xg, .ref xi]))]) hP hD [8] [0, 1, 2, 3, 4, 5, 6, 7, 9] rfl rfl (by decide) (by decide) hk1 hFc hP1 hD1
        generalize H1 = H at hP hS ⊢
        have hP : va_P (dC, dI) vwCl (xj_ap [(s0, .inr (3, [.ref h0, .ref l0, .long an0, .int dp0, .int qn0])), (h0, .inr (4, [.ref ra0, .ref op0, .int (nI v0), .int lc0])), (op0, .inl (cL, 256, .inr (.inl fo0))), (bo, .inr (5, [.ref q, .ref km, .ref ka, .ref cs])), (cs, .inl (cV, 2, .inr (.inr (.inr (.inr (bs_gl [s0, s1])))))), (s1, .inr (3, [.ref h1, .ref l1, .long an1, .int dp1, .int qn1])), (h1, .inr (4, [.ref ra1, .ref op1, .int (nI v1), .int lc1])), (op1, .inl (cL, 256, .inr (.inl (vp_updL fo1 i9 (lc_lg sc (12 * t9 + 3)))))), (xo, .inl (cL, 512, .inr (.inl (vp_updL fp (256 * 1 + i9) (lc_lg sc (12 * t9 + 3)))))), (o, .inr (6, [.int (nI 0), .ref xv, .ref xo, .ref xn, .ref xc, .ref xb, .ref xd, .ref xq, .ref xa, .ref xk, .ref xt, .ref xh, .ref xs, .ref xS, .ref xw, .ref xW, .ref xB, .ref xM, .long jf, .long js, .int jb, .long nf, .long ns, .int nb, .ref xf, .ref xg, .ref xi]))] wt) H := hP
        have hD : va_D A (xj_ap [(s0, .inr (3, [.ref h0, .ref l0, .long an0, .int dp0, .int qn0])), (h0, .inr (4, [.ref ra0, .ref op0, .int (nI v0), .int lc0])), (op0, .inl (cL, 256, .inr (.inl fo0))), (bo, .inr (5, [.ref q, .ref km, .ref ka, .ref cs])), (cs, .inl (cV, 2, .inr (.inr (.inr (.inr (bs_gl [s0, s1])))))), (s1, .inr (3, [.ref h1, .ref l1, .long an1, .int dp1, .int qn1])), (h1, .inr (4, [.ref ra1, .ref op1, .int (nI v1), .int lc1])), (op1, .inl (cL, 256, .inr (.inl (vp_updL fo1 i9 (lc_lg sc (12 * t9 + 3)))))), (xo, .inl (cL, 512, .inr (.inl (vp_updL fp (256 * 1 + i9) (lc_lg sc (12 * t9 + 3)))))), (o, .inr (6, [.int (nI 0), .ref xv, .ref xo, .ref xn, .ref xc, .ref xb, .ref xd, .ref xq, .ref xa, .ref xk, .ref xt, .ref xh, .ref xs, .ref xS, .ref xw, .ref xW, .ref xB, .ref xM, .long jf, .long js, .int jb, .long nf, .long ns, .int nb, .ref xf, .ref xg, .ref xi]))] wt) := hD
        refine lv_iload hx hb dLW_law_198 (lv_at hl 0 rfl) ?_
        refine lv_icmp_eq (tgt := 205) hx hb dLW_law_200 (by decide) (fun _ => ?_) (fun h => absurd (rfl) h)
        refine lv_goto (tgt := 1342) hx hb dLW_law_205 (by decide) ?_
        have hP := xj_subP (ws' := [(bo, .inr (5, [.ref q, .ref km, .ref ka, .ref cs])), (cs, .inl (cV, 2, .inr (.inr (.inr (.inr (bs_gl [s0, s1])))))), (s0, .inr (3, [.ref h0, .ref l0, .long an0, .int dp0, .int qn0])), (h0, .inr (4, [.ref ra0, .ref op0, .int (nI v0), .int lc0])), (op0, .inl (cL, 256, .inr (.inl fo0))), (s1, .inr (3, [.ref h1, .ref l1, .long an1, .int dp1, .int qn1])), (h1, .inr (4, [.ref ra1, .ref op1, .int (nI v1), .int lc1])), (op1, .inl (cL, 256, .inr (.inl (vp_updL fo1 i9 (lc_lg sc (12 * t9 + 3)))))), (o, .inr (6, [.int (nI 0), .ref xv, .ref xo, .ref xn, .ref xc, .ref xb, .ref xd, .ref xq, .ref xa, .ref xk, .ref xt, .ref xh, .ref xs, .ref xS, .ref xw, .ref xW, .ref xB, .ref xM, .long jf, .long js, .int jb, .long nf, .long ns, .int nb, .ref xf, .ref xg, .ref xi])), (xo, .inl (cL, 512, .inr (.inl (vp_updL fp (256 * 1 + i9) (lc_lg sc (12 * t9 + 3))))))]) hP [3, 4, 0, 1, 2, 5, 6, 7, 9, 8] rfl
        have hD := xj_subD (ws' := [(bo, .inr (5, [.ref q, .ref km, .ref ka, .ref cs])), (cs, .inl (cV, 2, .inr (.inr (.inr (.inr (bs_gl [s0, s1])))))), (s0, .inr (3, [.ref h0, .ref l0, .long an0, .int dp0, .int qn0])), (h0, .inr (4, [.ref ra0, .ref op0, .int (nI v0), .int lc0])), (op0, .inl (cL, 256, .inr (.inl fo0))), (s1, .inr (3, [.ref h1, .ref l1, .long an1, .int dp1, .int qn1])), (h1, .inr (4, [.ref ra1, .ref op1, .int (nI v1), .int lc1])), (op1, .inl (cL, 256, .inr (.inl (vp_updL fo1 i9 (lc_lg sc (12 * t9 + 3)))))), (o, .inr (6, [.int (nI 0), .ref xv, .ref xo, .ref xn, .ref xc, .ref xb, .ref xd, .ref xq, .ref xa, .ref xk, .ref xt, .ref xh, .ref xs, .ref xS, .ref xw, .ref xW, .ref xB, .ref xM, .long jf, .long js, .int jb, .long nf, .long ns, .int nb, .ref xf, .ref xg, .ref xi])), (xo, .inl (cL, 512, .inr (.inl (vp_updL fp (256 * 1 + i9) (lc_lg sc (12 * t9 + 3))))))]) hD [3, 4, 0, 1, 2, 5, 6, 7, 9, 8] (by decide) rfl
        have hP : va_P (dC, dI) vwCl (xj_ap [(bo, .inr (5, [.ref q, .ref km, .ref ka, .ref cs])), (cs, .inl (cV, 2, .inr (.inr (.inr (.inr (bs_gl [s0, s1])))))), (s0, .inr (3, [.ref h0, .ref l0, .long an0, .int dp0, .int qn0])), (h0, .inr (4, [.ref ra0, .ref op0, .int (nI v0), .int lc0])), (op0, .inl (cL, 256, .inr (.inl fo0))), (s1, .inr (3, [.ref h1, .ref l1, .long an1, .int dp1, .int qn1])), (h1, .inr (4, [.ref ra1, .ref op1, .int (nI v1), .int lc1])), (op1, .inl (cL, 256, .inr (.inl (vp_updL fo1 i9 (lc_lg sc (12 * t9 + 3)))))), (o, .inr (6, [.int (nI 0), .ref xv, .ref xo, .ref xn, .ref xc, .ref xb, .ref xd, .ref xq, .ref xa, .ref xk, .ref xt, .ref xh, .ref xs, .ref xS, .ref xw, .ref xW, .ref xB, .ref xM, .long jf, .long js, .int jb, .long nf, .long ns, .int nb, .ref xf, .ref xg, .ref xi])), (xo, .inl (cL, 512, .inr (.inl (vp_updL fp (256 * 1 + i9) (lc_lg sc (12 * t9 + 3))))))] wt) H := hP
        have hD : va_D A (xj_ap [(bo, .inr (5, [.ref q, .ref km, .ref ka, .ref cs])), (cs, .inl (cV, 2, .inr (.inr (.inr (.inr (bs_gl [s0, s1])))))), (s0, .inr (3, [.ref h0, .ref l0, .long an0, .int dp0, .int qn0])), (h0, .inr (4, [.ref ra0, .ref op0, .int (nI v0), .int lc0])), (op0, .inl (cL, 256, .inr (.inl fo0))), (s1, .inr (3, [.ref h1, .ref l1, .long an1, .int dp1, .int qn1])), (h1, .inr (4, [.ref ra1, .ref op1, .int (nI v1), .int lc1])), (op1, .inl (cL, 256, .inr (.inl (vp_updL fo1 i9 (lc_lg sc (12 * t9 + 3)))))), (o, .inr (6, [.int (nI 0), .ref xv, .ref xo, .ref xn, .ref xc, .ref xb, .ref xd, .ref xq, .ref xa, .ref xk, .ref xt, .ref xh, .ref xs, .ref xS, .ref xw, .ref xW, .ref xB, .ref xM, .long jf, .long js, .int jb, .long nf, .long ns, .int nb, .ref xf, .ref xg, .ref xi])), (xo, .inl (cL, 512, .inr (.inl (vp_updL fp (256 * 1 + i9) (lc_lg sc (12 * t9 + 3))))))] wt) := hD
        have hl := lv_sub hl (l' := [(0, .ref b), (1, .ref bo), (2, .ref o), (3, .ref ou), (4, .int (nI (12 * t9)))]) [1, 2, 3, 4, 5] rfl
        exact hk fo0 (vp_updL fo1 i9 (lc_lg sc (12 * t9 + 3))) (vp_updL fp (256 * 1 + i9) (lc_lg sc (12 * t9 + 3))) (nI 0) H _ ls (⟨bs_RS_put' (by decide) hi9 hJ.1 _, bs_RS_put hJ.2 _⟩) hP hD hS hl
      · refine lv_aload_n hx hb dLW_law_116 rfl (lv_at hl 1 rfl) ?_
        refine lv_aload_n hx hb dLW_law_117 rfl (lv_at hl 0 rfl) ?_
        refine lv_iload hx hb dLW_law_118 (lv_at hl 4 rfl) ?_
        refine lv_iconst (v := nI 1) hx hb dLW_law_120 (by decide) ?_
        refine lv_iadd hx hb dLW_law_121 ?_
        refine xt_i (y := nI (12 * t9 + 1)) (nI_add _ _) ?_
        refine xs_ld hx hb hXs hbl hbA (Nat.lt_of_le_of_lt hL (by decide)) hS (12 * t9 + 1) (by omega) dLW_law_122 ?_
        refine xt_i (y := nI 1) (hxe) ?_
        refine lv_aload_n hx hb dLW_law_123 rfl (lv_at hl 0 rfl) ?_
        refine lv_iload hx hb dLW_law_124 (lv_at hl 4 rfl) ?_
        refine lv_iconst (v := nI 2) hx hb dLW_law_126 (by decide) ?_
        refine lv_iadd hx hb dLW_law_127 ?_
        refine xt_i (y := nI (12 * t9 + 2)) (nI_add _ _) ?_
        refine xs_ld hx hb hXs hbl hbA (Nat.lt_of_le_of_lt hL (by decide)) hS (12 * t9 + 2) (by omega) dLW_law_128 ?_
        refine lv_aload_n hx hb dLW_law_129 rfl (lv_at hl 0 rfl) ?_
        refine lv_iload hx hb dLW_law_130 (lv_at hl 4 rfl) ?_
        refine lv_iconst (v := nI 3) hx hb dLW_law_132 (by decide) ?_
        refine lv_iadd hx hb dLW_law_133 ?_
        refine xt_i (y := nI (12 * t9 + 3)) (nI_add _ _) ?_
        refine xs_ld hx hb hXs hbl hbA (Nat.lt_of_le_of_lt hL (by decide)) hS (12 * t9 + 3) (by omega) dLW_law_134 ?_
        refine lv_i2l (v := (sc (12 * t9 + 3)).toInt64) hx hb dLW_law_135 rfl ?_
        refine lv_bipush (v := nI 32) hx hb dLW_law_136 (by decide) ?_
        refine lv_lshl (v := j_lshl ((sc (12 * t9 + 3)).toInt64) (nI 32)) hx hb dLW_law_138 rfl ?_
        refine lv_aload_n hx hb dLW_law_139 rfl (lv_at hl 0 rfl) ?_
        refine lv_iload hx hb dLW_law_140 (lv_at hl 4 rfl) ?_
        refine lv_iconst (v := nI 4) hx hb dLW_law_142 (by decide) ?_
        refine lv_iadd hx hb dLW_law_143 ?_
        refine xt_i (y := nI (12 * t9 + 4)) (nI_add _ _) ?_
        refine xs_ld hx hb hXs hbl hbA (Nat.lt_of_le_of_lt hL (by decide)) hS (12 * t9 + 4) (by omega) dLW_law_144 ?_
        refine lv_i2l (v := (sc (12 * t9 + 4)).toInt64) hx hb dLW_law_145 rfl ?_
        refine lv_ldc2 (v := 4294967295) hx hb hown (hts _ w_j_LW_68) dLW_law_146 ?_
        refine lv_land hx hb dLW_law_149 ?_
        refine lv_lor hx hb dLW_law_150 ?_
        refine xt_l (y := lc_lg sc (12 * t9 + 3)) (rfl) ?_
        have hPc := hP.sub (ws' := [(bo, .inr (5, [.ref q, .ref km, .ref ka, .ref cs]))]) [0] rfl
        have hDc := hD.sub (ws' := [(bo, .inr (5, [.ref q, .ref km, .ref ka, .ref cs]))]) [0] (by decide) rfl
        have hKc := hK.sub (tys' := []) [] rfl
        have hFc := va_free (wc := [(bo, .inr (5, [.ref q, .ref km, .ref ka, .ref cs]))]) hD hS hA [0] rfl
        have hXc := (hX.kept hS.2.1).narrow hFc
        refine va_calli (xs_runW (n := 4) (hh := [(0, 7, 10, 13)]) (As := [.ref bo, .int (nI 1), .int (sc (12 * t9 + 2)), .long (lc_lg sc (12 * t9 + 3))]) (rest := []) ⟨hx, hb, hml, hown, hts⟩ (c_LW_put_n2 l dC dI H.size bo q km ka cs 1 (sc (12 * t9 + 2)) (lc_lg sc (12 * t9 + 3)) hl9 (by decide) hp9) (wT_3 w_m_LW_70 w_t_LW_put w_n_LW w_c_LW_put) rfl rfl rfl (by decide +kernel) ⟨Nat.le_of_ble_eq_true rfl, Nat.le_of_ble_eq_true rfl⟩ ⟨fun a U g mk q => by obtain ⟨q0, q1, qP, qK, qD, qX⟩ := q; exact ⟨q0, q1, qP, va_K.moved (u := U) (U := U.calling g mk a) (Vm.Alike.refl U.vm) qK, qD, qX.same rfl⟩, fun U hU hW => ⟨rfl, by rw [hU], by rw [hU]; exact hPc, va_K.moved hW.alike hKc, hDc.weaken (fun _ _ _ _ => trivial), by rw [hU]; exact hXc.warm hW⟩⟩ rfl rfl hl.1 rfl (lv_room (Nat.le_of_ble_eq_true rfl)) dLW_law_151 ⟨show k9 + 1 ≤ 601024 from by omega, show n9 + 6 ≤ 7293034 from by omega⟩) hS (fun q _ h => hFc q h) hFc (fun r u t H1 locs ht hvm hw hB hz1 hk1 hS => ?_)
        obtain ⟨hP1, hK1, hD1⟩ := hB
        rw [ht] at hP1
        have hK1 := va_K.moved hvm.symm hK1
        have hw : r = nI 1 := hw
        rw [hw]
        obtain ⟨hP, hD⟩ := xj_join (wt := wt) (wr := [(cs, .inl (cV, 2, .inr (.inr (.inr (.inr (bs_gl [s0, s1])))))), (s0, .inr (3, [.ref h0, .ref l0, .long an0, .int dp0, .int qn0])), (h0, .inr (4, [.ref ra0, .ref op0, .int (nI v0), .int lc0])), (op0, .inl (cL, 256, .inr (.inl fo0))), (s1, .inr (3, [.ref h1, .ref l1, .long an1, .int dp1, .int qn1])), (h1, .inr (4, [.ref ra1, .ref op1, .int (nI v1), .int lc1])), (op1, .inl (cL, 256, .inr (.inl fo1))), (o, .inr (6, [.int th, .ref xv, .ref xo, .ref xn, .ref xc, .ref xb, .ref xd, .ref xq, .ref xa, .ref xk, .ref xt, .ref xh, .ref xs, .ref xS, .ref xw, .ref xW, .ref xB, .ref xM, .long jf, .long js, .int jb, .long nf, .long ns, .int nb, .ref xf, .ref xg, .ref xi])), (xo, .inl (cL, 512, .inr (.inl fp)))]) (w1 := [(bo, .inr (5, [.ref q, .ref km, .ref ka, .ref cs]))]) hP hD [0] [1, 2, 3, 4, 5, 6, 7, 8, 9] rfl rfl (by decide) (by decide) hk1 hFc hP1 hD1
        generalize H1 = H at hP hS ⊢
        have hP : va_P (dC, dI) vwCl (xj_ap [(cs, .inl (cV, 2, .inr (.inr (.inr (.inr (bs_gl [s0, s1])))))), (s0, .inr (3, [.ref h0, .ref l0, .long an0, .int dp0, .int qn0])), (h0, .inr (4, [.ref ra0, .ref op0, .int (nI v0), .int lc0])), (op0, .inl (cL, 256, .inr (.inl fo0))), (s1, .inr (3, [.ref h1, .ref l1, .long an1, .int dp1, .int qn1])), (h1, .inr (4, [.ref ra1, .ref op1, .int (nI v1), .int lc1])), (op1, .inl (cL, 256, .inr (.inl fo1))), (o, .inr (6, [.int th, .ref xv, .ref xo, .ref xn, .ref xc, .ref xb, .ref xd, .ref xq, .ref xa, .ref xk, .ref xt, .ref xh, .ref xs, .ref xS, .ref xw, .ref xW, .ref xB, .ref xM, .long jf, .long js, .int jb, .long nf, .long ns, .int nb, .ref xf, .ref xg, .ref xi])), (xo, .inl (cL, 512, .inr (.inl fp))), (bo, .inr (5, [.ref q, .ref km, .ref ka, .ref cs]))] wt) H := hP
        have hD : va_D A (xj_ap [(cs, .inl (cV, 2, .inr (.inr (.inr (.inr (bs_gl [s0, s1])))))), (s0, .inr (3, [.ref h0, .ref l0, .long an0, .int dp0, .int qn0])), (h0, .inr (4, [.ref ra0, .ref op0, .int (nI v0), .int lc0])), (op0, .inl (cL, 256, .inr (.inl fo0))), (s1, .inr (3, [.ref h1, .ref l1, .long an1, .int dp1, .int qn1])), (h1, .inr (4, [.ref ra1, .ref op1, .int (nI v1), .int lc1])), (op1, .inl (cL, 256, .inr (.inl fo1))), (o, .inr (6, [.int th, .ref xv, .ref xo, .ref xn, .ref xc, .ref xb, .ref xd, .ref xq, .ref xa, .ref xk, .ref xt, .ref xh, .ref xs, .ref xS, .ref xw, .ref xW, .ref xB, .ref xM, .long jf, .long js, .int jb, .long nf, .long ns, .int nb, .ref xf, .ref xg, .ref xi])), (xo, .inl (cL, 512, .inr (.inl fp))), (bo, .inr (5, [.ref q, .ref km, .ref ka, .ref cs]))] wt) := hD
        refine lv_istore (lv' := [(5, .int (nI 1)), (0, .ref b), (1, .ref bo), (2, .ref o), (3, .ref ou), (4, .int (nI (12 * t9)))]) hx hb dLW_law_154 hl (by decide) rfl (fun ls hl => ?_)
        refine lv_aload_n hx hb dLW_law_156 rfl (lv_at hl 3 rfl) ?_
        refine lv_aload_n hx hb dLW_law_157 rfl (lv_at hl 1 rfl) ?_
        refine lv_iload hx hb dLW_law_158 (lv_at hl 5 rfl) ?_
        refine lv_iconst (v := nI 1) hx hb dLW_law_160 (by decide) ?_
        refine lv_iadd hx hb dLW_law_161 ?_
        refine xt_i (y := nI (12 * t9 + 1)) (nI_add _ _) ?_
        refine xs_ld hx hb hXs hbl hbA (Nat.lt_of_le_of_lt hL (by decide)) hS (12 * t9 + 1) (by omega) dLW_law_162 ?_
        refine xt_i (y := nI 1) (hxe) ?_
        refine lv_aload_n hx hb dLW_law_163 rfl (lv_at hl 1 rfl) ?_
        refine lv_iload hx hb dLW_law_164 (lv_at hl 5 rfl) ?_
        refine lv_iconst (v := nI 2) hx hb dLW_law_166 (by decide) ?_
        refine lv_iadd hx hb dLW_law_167 ?_
        refine xt_i (y := nI (12 * t9 + 2)) (nI_add _ _) ?_
        refine xs_ld hx hb hXs hbl hbA (Nat.lt_of_le_of_lt hL (by decide)) hS (12 * t9 + 2) (by omega) dLW_law_168 ?_
        refine lv_aload_n hx hb dLW_law_169 rfl (lv_at hl 1 rfl) ?_
        refine lv_iload hx hb dLW_law_170 (lv_at hl 5 rfl) ?_
        refine lv_iconst (v := nI 3) hx hb dLW_law_172 (by decide) ?_
        refine lv_iadd hx hb dLW_law_173 ?_
        refine xt_i (y := nI (12 * t9 + 3)) (nI_add _ _) ?_
        refine xs_ld hx hb hXs hbl hbA (Nat.lt_of_le_of_lt hL (by decide)) hS (12 * t9 + 3) (by omega) dLW_law_174 ?_
        refine lv_i2l (v := (sc (12 * t9 + 3)).toInt64) hx hb dLW_law_175 rfl ?_
        refine lv_bipush (v := nI 32) hx hb dLW_law_176 (by decide) ?_
        refine lv_lshl (v := j_lshl ((sc (12 * t9 + 3)).toInt64) (nI 32)) hx hb dLW_law_178 rfl ?_
        refine lv_aload_n hx hb dLW_law_179 rfl (lv_at hl 1 rfl) ?_
        refine lv_iload hx hb dLW_law_180 (lv_at hl 5 rfl) ?_
        refine lv_iconst (v := nI 4) hx hb dLW_law_182 (by decide) ?_
        refine lv_iadd hx hb dLW_law_183 ?_
        refine xt_i (y := nI (12 * t9 + 4)) (nI_add _ _) ?_
        refine xs_ld hx hb hXs hbl hbA (Nat.lt_of_le_of_lt hL (by decide)) hS (12 * t9 + 4) (by omega) dLW_law_184 ?_
        refine lv_i2l (v := (sc (12 * t9 + 4)).toInt64) hx hb dLW_law_185 rfl ?_
        refine lv_ldc2 (v := 4294967295) hx hb hown (hts _ w_j_LW_68) dLW_law_186 ?_
        refine lv_land hx hb dLW_law_189 ?_
        refine lv_lor hx hb dLW_law_190 ?_
        refine xt_l (y := lc_lg sc (12 * t9 + 3)) (rfl) ?_
        have hPc := hP.sub (ws' := [(o, .inr (6, [.int th, .ref xv, .ref xo, .ref xn, .ref xc, .ref xb, .ref xd, .ref xq, .ref xa, .ref xk, .ref xt, .ref xh, .ref xs, .ref xS, .ref xw, .ref xW, .ref xB, .ref xM, .long jf, .long js, .int jb, .long nf, .long ns, .int nb, .ref xf, .ref xg, .ref xi]))]) [7] rfl
        have hDc := hD.sub (ws' := [(o, .inr (6, [.int th, .ref xv, .ref xo, .ref xn, .ref xc, .ref xb, .ref xd, .ref xq, .ref xa, .ref xk, .ref xt, .ref xh, .ref xs, .ref xS, .ref xw, .ref xW, .ref xB, .ref xM, .long jf, .long js, .int jb, .long nf, .long ns, .int nb, .ref xf, .ref xg, .ref xi]))]) [7] (by decide) rfl
        have hKc := hK.sub (tys' := []) [] rfl
        have hFc := va_free (wc := [(o, .inr (6, [.int th, .ref xv, .ref xo, .ref xn, .ref xc, .ref xb, .ref xd, .ref xq, .ref xa, .ref xk, .ref xt, .ref xh, .ref xs, .ref xS, .ref xw, .ref xW, .ref xB, .ref xM, .long jf, .long js, .int jb, .long nf, .long ns, .int nb, .ref xf, .ref xg, .ref xi]))]) hD hS hA [7] rfl
        refine va_callv (va_runV (C := RMO) (As := [.int (nI 1), .int (sc (12 * t9 + 2)), .long (lc_lg sc (12 * t9 + 3))]) (rest := []) ⟨hx, hb, hml, hown, hts⟩ (c_MO_put_n l dC dI H.size o xv xo xn xc xb xd xq xa xk xt xh xs xS xw xW xB xM xf xg xi th jf js jb nf ns nb (nI 1) (sc (12 * t9 + 2)) (lc_lg sc (12 * t9 + 3)) (by rw [hp9]; exact Bool.and_false _)) (cwV (C := RMO) 3 hts (wT_4 w_m_LW_75 w_i_MO_put w_s_MO_put w_n_MO w_c_MO_put) rfl rfl rfl (by decide +kernel) ⟨Nat.le_of_ble_eq_true rfl, Nat.le_of_ble_eq_true rfl⟩) ⟨fun a U g mk q => by obtain ⟨q0, q1, qP, qK, qD⟩ := q; exact ⟨q0, q1, qP, va_K.moved (u := U) (U := U.calling g mk a) (Vm.Alike.refl U.vm) qK, qD⟩, va_recv hK hP (q0 := 7) (ci := 6) (q := (RMO, TMO, 27)) rfl rfl, fun U hU hW => ⟨rfl, by rw [hU], by rw [hU]; exact hPc, va_K.moved hW.alike hKc, hDc.weaken (fun _ _ _ _ => trivial)⟩⟩ rfl rfl hl.1 rfl (lv_room (Nat.le_of_ble_eq_true rfl)) dLW_law_191 ⟨show k9 + 1 + 0 ≤ 601024 from by omega, show n9 + 6 + 0 ≤ 7293034 from by omega⟩) hS (fun q _ h => hFc q h) hFc (fun u t H1 locs ht hvm hw hB hz1 hk1 hS => ?_)
        obtain ⟨hP1, hK1, hD1⟩ := hB
        rw [ht] at hP1
        have hK1 := va_K.moved hvm.symm hK1
        obtain ⟨hP, hD⟩ := xj_join (wt := wt) (wr := [(cs, .inl (cV, 2, .inr (.inr (.inr (.inr (bs_gl [s0, s1])))))), (s0, .inr (3, [.ref h0, .ref l0, .long an0, .int dp0, .int qn0])), (h0, .inr (4, [.ref ra0, .ref op0, .int (nI v0), .int lc0])), (op0, .inl (cL, 256, .inr (.inl fo0))), (s1, .inr (3, [.ref h1, .ref l1, .long an1, .int dp1, .int qn1])), (h1, .inr (4, [.ref ra1, .ref op1, .int (nI v1), .int lc1])), (op1, .inl (cL, 256, .inr (.inl fo1))), (xo, .inl (cL, 512, .inr (.inl fp))), (bo, .inr (5, [.ref q, .ref km, .ref ka, .ref cs]))]) (w1 := [(o, .inr (6, [.int (nI 1), .ref xv, .ref xo, .ref xn, .ref xc, .ref xb, .ref xd, .ref xq, .ref xa, .ref xk, .ref xt, .ref xh, .ref xs, .ref xS, .ref xw, .ref xW, .ref xB, .ref xM, .long jf, .long js, .int jb, .long nf, .long ns, .int nb, .ref xf, .ref xg, .ref xi]))]) hP hD [7] [0, 1, 2, 3, 4, 5, 6, 8, 9] rfl rfl (by decide) (by decide) hk1 hFc hP1 hD1
        generalize H1 = H at hP hS ⊢
        have hP : va_P (dC, dI) vwCl (xj_ap [(cs, .inl (cV, 2, .inr (.inr (.inr (.inr (bs_gl [s0, s1])))))), (s0, .inr (3, [.ref h0, .ref l0, .long an0, .int dp0, .int qn0])), (h0, .inr (4, [.ref ra0, .ref op0, .int (nI v0), .int lc0])), (op0, .inl (cL, 256, .inr (.inl fo0))), (s1, .inr (3, [.ref h1, .ref l1, .long an1, .int dp1, .int qn1])), (h1, .inr (4, [.ref ra1, .ref op1, .int (nI v1), .int lc1])), (op1, .inl (cL, 256, .inr (.inl fo1))), (xo, .inl (cL, 512, .inr (.inl fp))), (bo, .inr (5, [.ref q, .ref km, .ref ka, .ref cs])), (o, .inr (6, [.int (nI 1), .ref xv, .ref xo, .ref xn, .ref xc, .ref xb, .ref xd, .ref xq, .ref xa, .ref xk, .ref xt, .ref xh, .ref xs, .ref xS, .ref xw, .ref xW, .ref xB, .ref xM, .long jf, .long js, .int jb, .long nf, .long ns, .int nb, .ref xf, .ref xg, .ref xi]))] wt) H := hP
        have hD : va_D A (xj_ap [(cs, .inl (cV, 2, .inr (.inr (.inr (.inr (bs_gl [s0, s1])))))), (s0, .inr (3, [.ref h0, .ref l0, .long an0, .int dp0, .int qn0])), (h0, .inr (4, [.ref ra0, .ref op0, .int (nI v0), .int lc0])), (op0, .inl (cL, 256, .inr (.inl fo0))), (s1, .inr (3, [.ref h1, .ref l1, .long an1, .int dp1, .int qn1])), (h1, .inr (4, [.ref ra1, .ref op1, .int (nI v1), .int lc1])), (op1, .inl (cL, 256, .inr (.inl fo1))), (xo, .inl (cL, 512, .inr (.inl fp))), (bo, .inr (5, [.ref q, .ref km, .ref ka, .ref cs])), (o, .inr (6, [.int (nI 1), .ref xv, .ref xo, .ref xn, .ref xc, .ref xb, .ref xd, .ref xq, .ref xa, .ref xk, .ref xt, .ref xh, .ref xs, .ref xS, .ref xw, .ref xW, .ref xB, .ref xM, .long jf, .long js, .int jb, .long nf, .long ns, .int nb, .ref xf, .ref xg, .ref xi]))] wt) := hD
        refine lv_aload_n hx hb dLW_law_194 rfl (lv_at hl 3 rfl) ?_
        have hPc := hP.sub (ws' := [(o, .inr (6, [.int (nI 1), .ref xv, .ref xo, .ref xn, .ref xc, .ref xb, .ref xd, .ref xq, .ref xa, .ref xk, .ref xt, .ref xh, .ref xs, .ref xS, .ref xw, .ref xW, .ref xB, .ref xM, .long jf, .long js, .int jb, .long nf, .long ns, .int nb, .ref xf, .ref xg, .ref xi]))]) [9] rfl
        have hDc := hD.sub (ws' := [(o, .inr (6, [.int (nI 1), .ref xv, .ref xo, .ref xn, .ref xc, .ref xb, .ref xd, .ref xq, .ref xa, .ref xk, .ref xt, .ref xh, .ref xs, .ref xS, .ref xw, .ref xW, .ref xB, .ref xM, .long jf, .long js, .int jb, .long nf, .long ns, .int nb, .ref xf, .ref xg, .ref xi]))]) [9] (by decide) rfl
        have hKc := hK.sub (tys' := []) [] rfl
        have hFc := va_free (wc := [(o, .inr (6, [.int (nI 1), .ref xv, .ref xo, .ref xn, .ref xc, .ref xb, .ref xd, .ref xq, .ref xa, .ref xk, .ref xt, .ref xh, .ref xs, .ref xS, .ref xw, .ref xW, .ref xB, .ref xM, .long jf, .long js, .int jb, .long nf, .long ns, .int nb, .ref xf, .ref xg, .ref xi]))]) hD hS hA [9] rfl
        refine va_calli (va_runV (C := RMO) (As := []) (rest := []) ⟨hx, hb, hml, hown, hts⟩ (c_MO_thrown l dC dI H.size o xv xo xn xc xb xd xq xa xk xt xh xs xS xw xW xB xM xf xg xi (nI 1) jf js jb nf ns nb) (cwV (C := RMO) 0 hts (wT_4 w_m_LW_76 w_i_MO_thrown w_s_MO_thrown w_n_MO w_c_MO_thrown) rfl rfl rfl (by decide +kernel) ⟨Nat.le_of_ble_eq_true rfl, Nat.le_of_ble_eq_true rfl⟩) ⟨fun a U g mk q => by obtain ⟨q0, q1, qP, qK, qD⟩ := q; exact ⟨q0, q1, qP, va_K.moved (u := U) (U := U.calling g mk a) (Vm.Alike.refl U.vm) qK, qD⟩, va_recv hK hP (q0 := 9) (ci := 6) (q := (RMO, TMO, 27)) rfl rfl, fun U hU hW => ⟨rfl, by rw [hU], by rw [hU]; exact hPc, va_K.moved hW.alike hKc, hDc.weaken (fun _ _ _ _ => trivial)⟩⟩ rfl rfl hl.1 rfl (lv_room (Nat.le_of_ble_eq_true rfl)) dLW_law_195 ⟨show k9 + 1 + 0 ≤ 601024 from by omega, show n9 + 6 + 0 ≤ 7293034 from by omega⟩) hS (fun q _ h => hFc q h) hFc (fun r u t H1 locs ht hvm hw hB hz1 hk1 hS => ?_)
        obtain ⟨hP1, hK1, hD1⟩ := hB
        rw [ht] at hP1
        have hK1 := va_K.moved hvm.symm hK1
        have hw : r = nI 1 := hw
        rw [hw]
        obtain ⟨hP, hD⟩ := xj_join (wt := wt) (wr := [(cs, .inl (cV, 2, .inr (.inr (.inr (.inr (bs_gl [s0, s1])))))), (s0, .inr (3, [.ref h0, .ref l0, .long an0, .int dp0, .int qn0])), (h0, .inr (4, [.ref ra0, .ref op0, .int (nI v0), .int lc0])), (op0, .inl (cL, 256, .inr (.inl fo0))), (s1, .inr (3, [.ref h1, .ref l1, .long an1, .int dp1, .int qn1])), (h1, .inr (4, [.ref ra1, .ref op1, .int (nI v1), .int lc1])), (op1, .inl (cL, 256, .inr (.inl fo1))), (xo, .inl (cL, 512, .inr (.inl fp))), (bo, .inr (5, [.ref q, .ref km, .ref ka, .ref cs]))]) (w1 := [(o, .inr (6, [.int (nI 1), .ref xv, .ref xo, .ref xn, .ref xc, .ref xb, .ref xd, .ref xq, .ref xa, .ref xk, .ref xt, .ref xh, .ref xs, .ref xS, .ref xw, .ref xW, .ref xB, .ref xM, .long jf, .long js, .int jb, .long nf, .long ns, .int nb, .ref xf, .ref xg, .ref xi]))]) hP hD [9] [0, 1, 2, 3, 4, 5, 6, 7, 8] rfl rfl (by decide) (by decide) hk1 hFc hP1 hD1
        generalize H1 = H at hP hS ⊢
        have hP : va_P (dC, dI) vwCl (xj_ap [(cs, .inl (cV, 2, .inr (.inr (.inr (.inr (bs_gl [s0, s1])))))), (s0, .inr (3, [.ref h0, .ref l0, .long an0, .int dp0, .int qn0])), (h0, .inr (4, [.ref ra0, .ref op0, .int (nI v0), .int lc0])), (op0, .inl (cL, 256, .inr (.inl fo0))), (s1, .inr (3, [.ref h1, .ref l1, .long an1, .int dp1, .int qn1])), (h1, .inr (4, [.ref ra1, .ref op1, .int (nI v1), .int lc1])), (op1, .inl (cL, 256, .inr (.inl fo1))), (xo, .inl (cL, 512, .inr (.inl fp))), (bo, .inr (5, [.ref q, .ref km, .ref ka, .ref cs])), (o, .inr (6, [.int (nI 1), .ref xv, .ref xo, .ref xn, .ref xc, .ref xb, .ref xd, .ref xq, .ref xa, .ref xk, .ref xt, .ref xh, .ref xs, .ref xS, .ref xw, .ref xW, .ref xB, .ref xM, .long jf, .long js, .int jb, .long nf, .long ns, .int nb, .ref xf, .ref xg, .ref xi]))] wt) H := hP
        have hD : va_D A (xj_ap [(cs, .inl (cV, 2, .inr (.inr (.inr (.inr (bs_gl [s0, s1])))))), (s0, .inr (3, [.ref h0, .ref l0, .long an0, .int dp0, .int qn0])), (h0, .inr (4, [.ref ra0, .ref op0, .int (nI v0), .int lc0])), (op0, .inl (cL, 256, .inr (.inl fo0))), (s1, .inr (3, [.ref h1, .ref l1, .long an1, .int dp1, .int qn1])), (h1, .inr (4, [.ref ra1, .ref op1, .int (nI v1), .int lc1])), (op1, .inl (cL, 256, .inr (.inl fo1))), (xo, .inl (cL, 512, .inr (.inl fp))), (bo, .inr (5, [.ref q, .ref km, .ref ka, .ref cs])), (o, .inr (6, [.int (nI 1), .ref xv, .ref xo, .ref xn, .ref xc, .ref xb, .ref xd, .ref xq, .ref xa, .ref xk, .ref xt, .ref xh, .ref xs, .ref xS, .ref xw, .ref xW, .ref xB, .ref xM, .long jf, .long js, .int jb, .long nf, .long ns, .int nb, .ref xf, .ref xg, .ref xi]))] wt) := hD
        refine lv_iload hx hb dLW_law_198 (lv_at hl 0 rfl) ?_
        refine lv_icmp_eq (tgt := 205) hx hb dLW_law_200 (by decide) (fun _ => ?_) (fun h => absurd (rfl) h)
        refine lv_goto (tgt := 1342) hx hb dLW_law_205 (by decide) ?_
        have hP := xj_subP (ws' := [(bo, .inr (5, [.ref q, .ref km, .ref ka, .ref cs])), (cs, .inl (cV, 2, .inr (.inr (.inr (.inr (bs_gl [s0, s1])))))), (s0, .inr (3, [.ref h0, .ref l0, .long an0, .int dp0, .int qn0])), (h0, .inr (4, [.ref ra0, .ref op0, .int (nI v0), .int lc0])), (op0, .inl (cL, 256, .inr (.inl fo0))), (s1, .inr (3, [.ref h1, .ref l1, .long an1, .int dp1, .int qn1])), (h1, .inr (4, [.ref ra1, .ref op1, .int (nI v1), .int lc1])), (op1, .inl (cL, 256, .inr (.inl fo1))), (o, .inr (6, [.int (nI 1), .ref xv, .ref xo, .ref xn, .ref xc, .ref xb, .ref xd, .ref xq, .ref xa, .ref xk, .ref xt, .ref xh, .ref xs, .ref xS, .ref xw, .ref xW, .ref xB, .ref xM, .long jf, .long js, .int jb, .long nf, .long ns, .int nb, .ref xf, .ref xg, .ref xi])), (xo, .inl (cL, 512, .inr (.inl fp)))]) hP [8, 0, 1, 2, 3, 4, 5, 6, 9, 7] rfl
        have hD := xj_subD (ws' := [(bo, .inr (5, [.ref q, .ref km, .ref ka, .ref cs])), (cs, .inl (cV, 2, .inr (.inr (.inr (.inr (bs_gl [s0, s1])))))), (s0, .inr (3, [.ref h0, .ref l0, .long an0, .int dp0, .int qn0])), (h0, .inr (4, [.ref ra0, .ref op0, .int (nI v0), .int lc0])), (op0, .inl (cL, 256, .inr (.inl fo0))), (s1, .inr (3, [.ref h1, .ref l1, .long an1, .int dp1, .int qn1])), (h1, .inr (4, [.ref ra1, .ref op1, .int (nI v1), .int lc1])), (op1, .inl (cL, 256, .inr (.inl fo1))), (o, .inr (6, [.int (nI 1), .ref xv, .ref xo, .ref xn, .ref xc, .ref xb, .ref xd, .ref xq, .ref xa, .ref xk, .ref xt, .ref xh, .ref xs, .ref xS, .ref xw, .ref xW, .ref xB, .ref xM, .long jf, .long js, .int jb, .long nf, .long ns, .int nb, .ref xf, .ref xg, .ref xi])), (xo, .inl (cL, 512, .inr (.inl fp)))]) hD [8, 0, 1, 2, 3, 4, 5, 6, 9, 7] (by decide) rfl
        have hP : va_P (dC, dI) vwCl (xj_ap [(bo, .inr (5, [.ref q, .ref km, .ref ka, .ref cs])), (cs, .inl (cV, 2, .inr (.inr (.inr (.inr (bs_gl [s0, s1])))))), (s0, .inr (3, [.ref h0, .ref l0, .long an0, .int dp0, .int qn0])), (h0, .inr (4, [.ref ra0, .ref op0, .int (nI v0), .int lc0])), (op0, .inl (cL, 256, .inr (.inl fo0))), (s1, .inr (3, [.ref h1, .ref l1, .long an1, .int dp1, .int qn1])), (h1, .inr (4, [.ref ra1, .ref op1, .int (nI v1), .int lc1])), (op1, .inl (cL, 256, .inr (.inl fo1))), (o, .inr (6, [.int (nI 1), .ref xv, .ref xo, .ref xn, .ref xc, .ref xb, .ref xd, .ref xq, .ref xa, .ref xk, .ref xt, .ref xh, .ref xs, .ref xS, .ref xw, .ref xW, .ref xB, .ref xM, .long jf, .long js, .int jb, .long nf, .long ns, .int nb, .ref xf, .ref xg, .ref xi])), (xo, .inl (cL, 512, .inr (.inl fp)))] wt) H := hP
        have hD : va_D A (xj_ap [(bo, .inr (5, [.ref q, .ref km, .ref ka, .ref cs])), (cs, .inl (cV, 2, .inr (.inr (.inr (.inr (bs_gl [s0, s1])))))), (s0, .inr (3, [.ref h0, .ref l0, .long an0, .int dp0, .int qn0])), (h0, .inr (4, [.ref ra0, .ref op0, .int (nI v0), .int lc0])), (op0, .inl (cL, 256, .inr (.inl fo0))), (s1, .inr (3, [.ref h1, .ref l1, .long an1, .int dp1, .int qn1])), (h1, .inr (4, [.ref ra1, .ref op1, .int (nI v1), .int lc1])), (op1, .inl (cL, 256, .inr (.inl fo1))), (o, .inr (6, [.int (nI 1), .ref xv, .ref xo, .ref xn, .ref xc, .ref xb, .ref xd, .ref xq, .ref xa, .ref xk, .ref xt, .ref xh, .ref xs, .ref xS, .ref xw, .ref xW, .ref xB, .ref xM, .long jf, .long js, .int jb, .long nf, .long ns, .int nb, .ref xf, .ref xg, .ref xi])), (xo, .inl (cL, 512, .inr (.inl fp)))] wt) := hD
        have hl := lv_sub hl (l' := [(0, .ref b), (1, .ref bo), (2, .ref o), (3, .ref ou), (4, .int (nI (12 * t9)))]) [1, 2, 3, 4, 5] rfl
        exact hk fo0 fo1 fp (nI 1) H _ ls (hJ) hP hD hS hl
  · refine lv_aload_n hx hb dLW_law_116 rfl (lv_at hl 1 rfl) ?_
    refine lv_aload_n hx hb dLW_law_117 rfl (lv_at hl 0 rfl) ?_
    refine lv_iload hx hb dLW_law_118 (lv_at hl 4 rfl) ?_
    refine lv_iconst (v := nI 1) hx hb dLW_law_120 (by decide) ?_
    refine lv_iadd hx hb dLW_law_121 ?_
    refine xt_i (y := nI (12 * t9 + 1)) (nI_add _ _) ?_
    refine xs_ld hx hb hXs hbl hbA (Nat.lt_of_le_of_lt hL (by decide)) hS (12 * t9 + 1) (by omega) dLW_law_122 ?_
    refine lv_aload_n hx hb dLW_law_123 rfl (lv_at hl 0 rfl) ?_
    refine lv_iload hx hb dLW_law_124 (lv_at hl 4 rfl) ?_
    refine lv_iconst (v := nI 2) hx hb dLW_law_126 (by decide) ?_
    refine lv_iadd hx hb dLW_law_127 ?_
    refine xt_i (y := nI (12 * t9 + 2)) (nI_add _ _) ?_
    refine xs_ld hx hb hXs hbl hbA (Nat.lt_of_le_of_lt hL (by decide)) hS (12 * t9 + 2) (by omega) dLW_law_128 ?_
    refine lv_aload_n hx hb dLW_law_129 rfl (lv_at hl 0 rfl) ?_
    refine lv_iload hx hb dLW_law_130 (lv_at hl 4 rfl) ?_
    refine lv_iconst (v := nI 3) hx hb dLW_law_132 (by decide) ?_
    refine lv_iadd hx hb dLW_law_133 ?_
    refine xt_i (y := nI (12 * t9 + 3)) (nI_add _ _) ?_
    refine xs_ld hx hb hXs hbl hbA (Nat.lt_of_le_of_lt hL (by decide)) hS (12 * t9 + 3) (by omega) dLW_law_134 ?_
    refine lv_i2l (v := (sc (12 * t9 + 3)).toInt64) hx hb dLW_law_135 rfl ?_
    refine lv_bipush (v := nI 32) hx hb dLW_law_136 (by decide) ?_
    refine lv_lshl (v := j_lshl ((sc (12 * t9 + 3)).toInt64) (nI 32)) hx hb dLW_law_138 rfl ?_
    refine lv_aload_n hx hb dLW_law_139 rfl (lv_at hl 0 rfl) ?_
    refine lv_iload hx hb dLW_law_140 (lv_at hl 4 rfl) ?_
    refine lv_iconst (v := nI 4) hx hb dLW_law_142 (by decide) ?_
    refine lv_iadd hx hb dLW_law_143 ?_
    refine xt_i (y := nI (12 * t9 + 4)) (nI_add _ _) ?_
    refine xs_ld hx hb hXs hbl hbA (Nat.lt_of_le_of_lt hL (by decide)) hS (12 * t9 + 4) (by omega) dLW_law_144 ?_
    refine lv_i2l (v := (sc (12 * t9 + 4)).toInt64) hx hb dLW_law_145 rfl ?_
    refine lv_ldc2 (v := 4294967295) hx hb hown (hts _ w_j_LW_68) dLW_law_146 ?_
    refine lv_land hx hb dLW_law_149 ?_
    refine lv_lor hx hb dLW_law_150 ?_
    refine xt_l (y := lc_lg sc (12 * t9 + 3)) (rfl) ?_
    have hPc := hP.sub (ws' := [(bo, .inr (5, [.ref q, .ref km, .ref ka, .ref cs]))]) [0] rfl
    have hDc := hD.sub (ws' := [(bo, .inr (5, [.ref q, .ref km, .ref ka, .ref cs]))]) [0] (by decide) rfl
    have hKc := hK.sub (tys' := []) [] rfl
    have hFc := va_free (wc := [(bo, .inr (5, [.ref q, .ref km, .ref ka, .ref cs]))]) hD hS hA [0] rfl
    have hXc := (hX.kept hS.2.1).narrow hFc
    refine va_calli (xs_runW (n := 4) (hh := [(0, 7, 10, 13)]) (As := [.ref bo, .int (sc (12 * t9 + 1)), .int (sc (12 * t9 + 2)), .long (lc_lg sc (12 * t9 + 3))]) (rest := []) ⟨hx, hb, hml, hown, hts⟩ (c_LW_put_n1 l dC dI H.size bo q km ka cs (sc (12 * t9 + 1)) (sc (12 * t9 + 2)) (lc_lg sc (12 * t9 + 3)) hl9 hs9) (wT_3 w_m_LW_70 w_t_LW_put w_n_LW w_c_LW_put) rfl rfl rfl (by decide +kernel) ⟨Nat.le_of_ble_eq_true rfl, Nat.le_of_ble_eq_true rfl⟩ ⟨fun a U g mk q => by obtain ⟨q0, q1, qP, qK, qD, qX⟩ := q; exact ⟨q0, q1, qP, va_K.moved (u := U) (U := U.calling g mk a) (Vm.Alike.refl U.vm) qK, qD, qX.same rfl⟩, fun U hU hW => ⟨rfl, by rw [hU], by rw [hU]; exact hPc, va_K.moved hW.alike hKc, hDc.weaken (fun _ _ _ _ => trivial), by rw [hU]; exact hXc.warm hW⟩⟩ rfl rfl hl.1 rfl (lv_room (Nat.le_of_ble_eq_true rfl)) dLW_law_151 ⟨show k9 + 1 ≤ 601024 from by omega, show n9 + 6 ≤ 7293034 from by omega⟩) hS (fun q _ h => hFc q h) hFc (fun r u t H1 locs ht hvm hw hB hz1 hk1 hS => ?_)
    obtain ⟨hP1, hK1, hD1⟩ := hB
    rw [ht] at hP1
    have hK1 := va_K.moved hvm.symm hK1
    have hw : r = nI 1 := hw
    rw [hw]
    obtain ⟨hP, hD⟩ := xj_join (wt := wt) (wr := [(cs, .inl (cV, 2, .inr (.inr (.inr (.inr (bs_gl [s0, s1])))))), (s0, .inr (3, [.ref h0, .ref l0, .long an0, .int dp0, .int qn0])), (h0, .inr (4, [.ref ra0, .ref op0, .int (nI v0), .int lc0])), (op0, .inl (cL, 256, .inr (.inl fo0))), (s1, .inr (3, [.ref h1, .ref l1, .long an1, .int dp1, .int qn1])), (h1, .inr (4, [.ref ra1, .ref op1, .int (nI v1), .int lc1])), (op1, .inl (cL, 256, .inr (.inl fo1))), (o, .inr (6, [.int th, .ref xv, .ref xo, .ref xn, .ref xc, .ref xb, .ref xd, .ref xq, .ref xa, .ref xk, .ref xt, .ref xh, .ref xs, .ref xS, .ref xw, .ref xW, .ref xB, .ref xM, .long jf, .long js, .int jb, .long nf, .long ns, .int nb, .ref xf, .ref xg, .ref xi])), (xo, .inl (cL, 512, .inr (.inl fp)))]) (w1 := [(bo, .inr (5, [.ref q, .ref km, .ref ka, .ref cs]))]) hP hD [0] [1, 2, 3, 4, 5, 6, 7, 8, 9] rfl rfl (by decide) (by decide) hk1 hFc hP1 hD1
    generalize H1 = H at hP hS ⊢
    have hP : va_P (dC, dI) vwCl (xj_ap [(cs, .inl (cV, 2, .inr (.inr (.inr (.inr (bs_gl [s0, s1])))))), (s0, .inr (3, [.ref h0, .ref l0, .long an0, .int dp0, .int qn0])), (h0, .inr (4, [.ref ra0, .ref op0, .int (nI v0), .int lc0])), (op0, .inl (cL, 256, .inr (.inl fo0))), (s1, .inr (3, [.ref h1, .ref l1, .long an1, .int dp1, .int qn1])), (h1, .inr (4, [.ref ra1, .ref op1, .int (nI v1), .int lc1])), (op1, .inl (cL, 256, .inr (.inl fo1))), (o, .inr (6, [.int th, .ref xv, .ref xo, .ref xn, .ref xc, .ref xb, .ref xd, .ref xq, .ref xa, .ref xk, .ref xt, .ref xh, .ref xs, .ref xS, .ref xw, .ref xW, .ref xB, .ref xM, .long jf, .long js, .int jb, .long nf, .long ns, .int nb, .ref xf, .ref xg, .ref xi])), (xo, .inl (cL, 512, .inr (.inl fp))), (bo, .inr (5, [.ref q, .ref km, .ref ka, .ref cs]))] wt) H := hP
    have hD : va_D A (xj_ap [(cs, .inl (cV, 2, .inr (.inr (.inr (.inr (bs_gl [s0, s1])))))), (s0, .inr (3, [.ref h0, .ref l0, .long an0, .int dp0, .int qn0])), (h0, .inr (4, [.ref ra0, .ref op0, .int (nI v0), .int lc0])), (op0, .inl (cL, 256, .inr (.inl fo0))), (s1, .inr (3, [.ref h1, .ref l1, .long an1, .int dp1, .int qn1])), (h1, .inr (4, [.ref ra1, .ref op1, .int (nI v1), .int lc1])), (op1, .inl (cL, 256, .inr (.inl fo1))), (o, .inr (6, [.int th, .ref xv, .ref xo, .ref xn, .ref xc, .ref xb, .ref xd, .ref xq, .ref xa, .ref xk, .ref xt, .ref xh, .ref xs, .ref xS, .ref xw, .ref xW, .ref xB, .ref xM, .long jf, .long js, .int jb, .long nf, .long ns, .int nb, .ref xf, .ref xg, .ref xi])), (xo, .inl (cL, 512, .inr (.inl fp))), (bo, .inr (5, [.ref q, .ref km, .ref ka, .ref cs]))] wt) := hD
    refine lv_istore (lv' := [(5, .int (nI 1)), (0, .ref b), (1, .ref bo), (2, .ref o), (3, .ref ou), (4, .int (nI (12 * t9)))]) hx hb dLW_law_154 hl (by decide) rfl (fun ls hl => ?_)
    refine lv_aload_n hx hb dLW_law_156 rfl (lv_at hl 3 rfl) ?_
    refine lv_aload_n hx hb dLW_law_157 rfl (lv_at hl 1 rfl) ?_
    refine lv_iload hx hb dLW_law_158 (lv_at hl 5 rfl) ?_
    refine lv_iconst (v := nI 1) hx hb dLW_law_160 (by decide) ?_
    refine lv_iadd hx hb dLW_law_161 ?_
    refine xt_i (y := nI (12 * t9 + 1)) (nI_add _ _) ?_
    refine xs_ld hx hb hXs hbl hbA (Nat.lt_of_le_of_lt hL (by decide)) hS (12 * t9 + 1) (by omega) dLW_law_162 ?_
    refine lv_aload_n hx hb dLW_law_163 rfl (lv_at hl 1 rfl) ?_
    refine lv_iload hx hb dLW_law_164 (lv_at hl 5 rfl) ?_
    refine lv_iconst (v := nI 2) hx hb dLW_law_166 (by decide) ?_
    refine lv_iadd hx hb dLW_law_167 ?_
    refine xt_i (y := nI (12 * t9 + 2)) (nI_add _ _) ?_
    refine xs_ld hx hb hXs hbl hbA (Nat.lt_of_le_of_lt hL (by decide)) hS (12 * t9 + 2) (by omega) dLW_law_168 ?_
    refine lv_aload_n hx hb dLW_law_169 rfl (lv_at hl 1 rfl) ?_
    refine lv_iload hx hb dLW_law_170 (lv_at hl 5 rfl) ?_
    refine lv_iconst (v := nI 3) hx hb dLW_law_172 (by decide) ?_
    refine lv_iadd hx hb dLW_law_173 ?_
    refine xt_i (y := nI (12 * t9 + 3)) (nI_add _ _) ?_
    refine xs_ld hx hb hXs hbl hbA (Nat.lt_of_le_of_lt hL (by decide)) hS (12 * t9 + 3) (by omega) dLW_law_174 ?_
    refine lv_i2l (v := (sc (12 * t9 + 3)).toInt64) hx hb dLW_law_175 rfl ?_
    refine lv_bipush (v := nI 32) hx hb dLW_law_176 (by decide) ?_
    refine lv_lshl (v := j_lshl ((sc (12 * t9 + 3)).toInt64) (nI 32)) hx hb dLW_law_178 rfl ?_
    refine lv_aload_n hx hb dLW_law_179 rfl (lv_at hl 1 rfl) ?_
    refine lv_iload hx hb dLW_law_180 (lv_at hl 5 rfl) ?_
    refine lv_iconst (v := nI 4) hx hb dLW_law_182 (by decide) ?_
    refine lv_iadd hx hb dLW_law_183 ?_
    refine xt_i (y := nI (12 * t9 + 4)) (nI_add _ _) ?_
    refine xs_ld hx hb hXs hbl hbA (Nat.lt_of_le_of_lt hL (by decide)) hS (12 * t9 + 4) (by omega) dLW_law_184 ?_
    refine lv_i2l (v := (sc (12 * t9 + 4)).toInt64) hx hb dLW_law_185 rfl ?_
    refine lv_ldc2 (v := 4294967295) hx hb hown (hts _ w_j_LW_68) dLW_law_186 ?_
    refine lv_land hx hb dLW_law_189 ?_
    refine lv_lor hx hb dLW_law_190 ?_
    refine xt_l (y := lc_lg sc (12 * t9 + 3)) (rfl) ?_
    have hPc := hP.sub (ws' := [(o, .inr (6, [.int th, .ref xv, .ref xo, .ref xn, .ref xc, .ref xb, .ref xd, .ref xq, .ref xa, .ref xk, .ref xt, .ref xh, .ref xs, .ref xS, .ref xw, .ref xW, .ref xB, .ref xM, .long jf, .long js, .int jb, .long nf, .long ns, .int nb, .ref xf, .ref xg, .ref xi]))]) [7] rfl
    have hDc := hD.sub (ws' := [(o, .inr (6, [.int th, .ref xv, .ref xo, .ref xn, .ref xc, .ref xb, .ref xd, .ref xq, .ref xa, .ref xk, .ref xt, .ref xh, .ref xs, .ref xS, .ref xw, .ref xW, .ref xB, .ref xM, .long jf, .long js, .int jb, .long nf, .long ns, .int nb, .ref xf, .ref xg, .ref xi]))]) [7] (by decide) rfl
    have hKc := hK.sub (tys' := []) [] rfl
    have hFc := va_free (wc := [(o, .inr (6, [.int th, .ref xv, .ref xo, .ref xn, .ref xc, .ref xb, .ref xd, .ref xq, .ref xa, .ref xk, .ref xt, .ref xh, .ref xs, .ref xS, .ref xw, .ref xW, .ref xB, .ref xM, .long jf, .long js, .int jb, .long nf, .long ns, .int nb, .ref xf, .ref xg, .ref xi]))]) hD hS hA [7] rfl
    refine va_callv (va_runV (C := RMO) (As := [.int (sc (12 * t9 + 1)), .int (sc (12 * t9 + 2)), .long (lc_lg sc (12 * t9 + 3))]) (rest := []) ⟨hx, hb, hml, hown, hts⟩ (c_MO_put_n l dC dI H.size o xv xo xn xc xb xd xq xa xk xt xh xs xS xw xW xB xM xf xg xi th jf js jb nf ns nb (sc (12 * t9 + 1)) (sc (12 * t9 + 2)) (lc_lg sc (12 * t9 + 3)) (by rw [hs9]; rfl)) (cwV (C := RMO) 3 hts (wT_4 w_m_LW_75 w_i_MO_put w_s_MO_put w_n_MO w_c_MO_put) rfl rfl rfl (by decide +kernel) ⟨Nat.le_of_ble_eq_true rfl, Nat.le_of_ble_eq_true rfl⟩) ⟨fun a U g mk q => by obtain ⟨q0, q1, qP, qK, qD⟩ := q; exact ⟨q0, q1, qP, va_K.moved (u := U) (U := U.calling g mk a) (Vm.Alike.refl U.vm) qK, qD⟩, va_recv hK hP (q0 := 7) (ci := 6) (q := (RMO, TMO, 27)) rfl rfl, fun U hU hW => ⟨rfl, by rw [hU], by rw [hU]; exact hPc, va_K.moved hW.alike hKc, hDc.weaken (fun _ _ _ _ => trivial)⟩⟩ rfl rfl hl.1 rfl (lv_room (Nat.le_of_ble_eq_true rfl)) dLW_law_191 ⟨show k9 + 1 + 0 ≤ 601024 from by omega, show n9 + 6 + 0 ≤ 7293034 from by omega⟩) hS (fun q _ h => hFc q h) hFc (fun u t H1 locs ht hvm hw hB hz1 hk1 hS => ?_)
    obtain ⟨hP1, hK1, hD1⟩ := hB
    rw [ht] at hP1
    have hK1 := va_K.moved hvm.symm hK1
    obtain ⟨hP, hD⟩ := xj_join (wt := wt) (wr := [(cs, .inl (cV, 2, .inr (.inr (.inr (.inr (bs_gl [s0, s1])))))), (s0, .inr (3, [.ref h0, .ref l0, .long an0, .int dp0, .int qn0])), (h0, .inr (4, [.ref ra0, .ref op0, .int (nI v0), .int lc0])), (op0, .inl (cL, 256, .inr (.inl fo0))), (s1, .inr (3, [.ref h1, .ref l1, .long an1, .int dp1, .int qn1])), (h1, .inr (4, [.ref ra1, .ref op1, .int (nI v1), .int lc1])), (op1, .inl (cL, 256, .inr (.inl fo1))), (xo, .inl (cL, 512, .inr (.inl fp))), (bo, .inr (5, [.ref q, .ref km, .ref ka, .ref cs]))]) (w1 := [(o, .inr (6, [.int (nI 1), .ref xv, .ref xo, .ref xn, .ref xc, .ref xb, .ref xd, .ref xq, .ref xa, .ref xk, .ref xt, .ref xh, .ref xs, .ref xS, .ref xw, .ref xW, .ref xB, .ref xM, .long jf, .long js, .int jb, .long nf, .long ns, .int nb, .ref xf, .ref xg, .ref xi]))]) hP hD [7] [0, 1, 2, 3, 4, 5, 6, 8, 9] rfl rfl (by decide) (by decide) hk1 hFc hP1 hD1
    generalize H1 = H at hP hS ⊢
    have hP : va_P (dC, dI) vwCl (xj_ap [(cs, .inl (cV, 2, .inr (.inr (.inr (.inr (bs_gl [s0, s1])))))), (s0, .inr (3, [.ref h0, .ref l0, .long an0, .int dp0, .int qn0])), (h0, .inr (4, [.ref ra0, .ref op0, .int (nI v0), .int lc0])), (op0, .inl (cL, 256, .inr (.inl fo0))), (s1, .inr (3, [.ref h1, .ref l1, .long an1, .int dp1, .int qn1])), (h1, .inr (4, [.ref ra1, .ref op1, .int (nI v1), .int lc1])), (op1, .inl (cL, 256, .inr (.inl fo1))), (xo, .inl (cL, 512, .inr (.inl fp))), (bo, .inr (5, [.ref q, .ref km, .ref ka, .ref cs])), (o, .inr (6, [.int (nI 1), .ref xv, .ref xo, .ref xn, .ref xc, .ref xb, .ref xd, .ref xq, .ref xa, .ref xk, .ref xt, .ref xh, .ref xs, .ref xS, .ref xw, .ref xW, .ref xB, .ref xM, .long jf, .long js, .int jb, .long nf, .long ns, .int nb, .ref xf, .ref xg, .ref xi]))] wt) H := hP
    have hD : va_D A (xj_ap [(cs, .inl (cV, 2, .inr (.inr (.inr (.inr (bs_gl [s0, s1])))))), (s0, .inr (3, [.ref h0, .ref l0, .long an0, .int dp0, .int qn0])), (h0, .inr (4, [.ref ra0, .ref op0, .int (nI v0), .int lc0])), (op0, .inl (cL, 256, .inr (.inl fo0))), (s1, .inr (3, [.ref h1, .ref l1, .long an1, .int dp1, .int qn1])), (h1, .inr (4, [.ref ra1, .ref op1, .int (nI v1), .int lc1])), (op1, .inl (cL, 256, .inr (.inl fo1))), (xo, .inl (cL, 512, .inr (.inl fp))), (bo, .inr (5, [.ref q, .ref km, .ref ka, .ref cs])), (o, .inr (6, [.int (nI 1), .ref xv, .ref xo, .ref xn, .ref xc, .ref xb, .ref xd, .ref xq, .ref xa, .ref xk, .ref xt, .ref xh, .ref xs, .ref xS, .ref xw, .ref xW, .ref xB, .ref xM, .long jf, .long js, .int jb, .long nf, .long ns, .int nb, .ref xf, .ref xg, .ref xi]))] wt) := hD
    refine lv_aload_n hx hb dLW_law_194 rfl (lv_at hl 3 rfl) ?_
    have hPc := hP.sub (ws' := [(o, .inr (6, [.int (nI 1), .ref xv, .ref xo, .ref xn, .ref xc, .ref xb, .ref xd, .ref xq, .ref xa, .ref xk, .ref xt, .ref xh, .ref xs, .ref xS, .ref xw, .ref xW, .ref xB, .ref xM, .long jf, .long js, .int jb, .long nf, .long ns, .int nb, .ref xf, .ref xg, .ref xi]))]) [9] rfl
    have hDc := hD.sub (ws' := [(o, .inr (6, [.int (nI 1), .ref xv, .ref xo, .ref xn, .ref xc, .ref xb, .ref xd, .ref xq, .ref xa, .ref xk, .ref xt, .ref xh, .ref xs, .ref xS, .ref xw, .ref xW, .ref xB, .ref xM, .long jf, .long js, .int jb, .long nf, .long ns, .int nb, .ref xf, .ref xg, .ref xi]))]) [9] (by decide) rfl
    have hKc := hK.sub (tys' := []) [] rfl
    have hFc := va_free (wc := [(o, .inr (6, [.int (nI 1), .ref xv, .ref xo, .ref xn, .ref xc, .ref xb, .ref xd, .ref xq, .ref xa, .ref xk, .ref xt, .ref xh, .ref xs, .ref xS, .ref xw, .ref xW, .ref xB, .ref xM, .long jf, .long js, .int jb, .long nf, .long ns, .int nb, .ref xf, .ref xg, .ref xi]))]) hD hS hA [9] rfl
    refine va_calli (va_runV (C := RMO) (As := []) (rest := []) ⟨hx, hb, hml, hown, hts⟩ (c_MO_thrown l dC dI H.size o xv xo xn xc xb xd xq xa xk xt xh xs xS xw xW xB xM xf xg xi (nI 1) jf js jb nf ns nb) (cwV (C := RMO) 0 hts (wT_4 w_m_LW_76 w_i_MO_thrown w_s_MO_thrown w_n_MO w_c_MO_thrown) rfl rfl rfl (by decide +kernel) ⟨Nat.le_of_ble_eq_true rfl, Nat.le_of_ble_eq_true rfl⟩) ⟨fun a U g mk q => by obtain ⟨q0, q1, qP, qK, qD⟩ := q; exact ⟨q0, q1, qP, va_K.moved (u := U) (U := U.calling g mk a) (Vm.Alike.refl U.vm) qK, qD⟩, va_recv hK hP (q0 := 9) (ci := 6) (q := (RMO, TMO, 27)) rfl rfl, fun U hU hW => ⟨rfl, by rw [hU], by rw [hU]; exact hPc, va_K.moved hW.alike hKc, hDc.weaken (fun _ _ _ _ => trivial)⟩⟩ rfl rfl hl.1 rfl (lv_room (Nat.le_of_ble_eq_true rfl)) dLW_law_195 ⟨show k9 + 1 + 0 ≤ 601024 from by omega, show n9 + 6 + 0 ≤ 7293034 from by omega⟩) hS (fun q _ h => hFc q h) hFc (fun r u t H1 locs ht hvm hw hB hz1 hk1 hS => ?_)
    obtain ⟨hP1, hK1, hD1⟩ := hB
    rw [ht] at hP1
    have hK1 := va_K.moved hvm.symm hK1
    have hw : r = nI 1 := hw
    rw [hw]
    obtain ⟨hP, hD⟩ := xj_join (wt := wt) (wr := [(cs, .inl (cV, 2, .inr (.inr (.inr (.inr (bs_gl [s0, s1])))))), (s0, .inr (3, [.ref h0, .ref l0, .long an0, .int dp0, .int qn0])), (h0, .inr (4, [.ref ra0, .ref op0, .int (nI v0), .int lc0])), (op0, .inl (cL, 256, .inr (.inl fo0))), (s1, .inr (3, [.ref h1, .ref l1, .long an1, .int dp1, .int qn1])), (h1, .inr (4, [.ref ra1, .ref op1, .int (nI v1), .int lc1])), (op1, .inl (cL, 256, .inr (.inl fo1))), (xo, .inl (cL, 512, .inr (.inl fp))), (bo, .inr (5, [.ref q, .ref km, .ref ka, .ref cs]))]) (w1 := [(o, .inr (6, [.int (nI 1), .ref xv, .ref xo, .ref xn, .ref xc, .ref xb, .ref xd, .ref xq, .ref xa, .ref xk, .ref xt, .ref xh, .ref xs, .ref xS, .ref xw, .ref xW, .ref xB, .ref xM, .long jf, .long js, .int jb, .long nf, .long ns, .int nb, .ref xf, .ref xg, .ref xi]))]) hP hD [9] [0, 1, 2, 3, 4, 5, 6, 7, 8] rfl rfl (by decide) (by decide) hk1 hFc hP1 hD1
    generalize H1 = H at hP hS ⊢
    have hP : va_P (dC, dI) vwCl (xj_ap [(cs, .inl (cV, 2, .inr (.inr (.inr (.inr (bs_gl [s0, s1])))))), (s0, .inr (3, [.ref h0, .ref l0, .long an0, .int dp0, .int qn0])), (h0, .inr (4, [.ref ra0, .ref op0, .int (nI v0), .int lc0])), (op0, .inl (cL, 256, .inr (.inl fo0))), (s1, .inr (3, [.ref h1, .ref l1, .long an1, .int dp1, .int qn1])), (h1, .inr (4, [.ref ra1, .ref op1, .int (nI v1), .int lc1])), (op1, .inl (cL, 256, .inr (.inl fo1))), (xo, .inl (cL, 512, .inr (.inl fp))), (bo, .inr (5, [.ref q, .ref km, .ref ka, .ref cs])), (o, .inr (6, [.int (nI 1), .ref xv, .ref xo, .ref xn, .ref xc, .ref xb, .ref xd, .ref xq, .ref xa, .ref xk, .ref xt, .ref xh, .ref xs, .ref xS, .ref xw, .ref xW, .ref xB, .ref xM, .long jf, .long js, .int jb, .long nf, .long ns, .int nb, .ref xf, .ref xg, .ref xi]))] wt) H := hP
    have hD : va_D A (xj_ap [(cs, .inl (cV, 2, .inr (.inr (.inr (.inr (bs_gl [s0, s1])))))), (s0, .inr (3, [.ref h0, .ref l0, .long an0, .int dp0, .int qn0])), (h0, .inr (4, [.ref ra0, .ref op0, .int (nI v0), .int lc0])), (op0, .inl (cL, 256, .inr (.inl fo0))), (s1, .inr (3, [.ref h1, .ref l1, .long an1, .int dp1, .int qn1])), (h1, .inr (4, [.ref ra1, .ref op1, .int (nI v1), .int lc1])), (op1, .inl (cL, 256, .inr (.inl fo1))), (xo, .inl (cL, 512, .inr (.inl fp))), (bo, .inr (5, [.ref q, .ref km, .ref ka, .ref cs])), (o, .inr (6, [.int (nI 1), .ref xv, .ref xo, .ref xn, .ref xc, .ref xb, .ref xd, .ref xq, .ref xa, .ref xk, .ref xt, .ref xh, .ref xs, .ref xS, .ref xw, .ref xW, .ref xB, .ref xM, .long jf, .long js, .int jb, .long nf, .long ns, .int nb, .ref xf, .ref xg, .ref xi]))] wt) := hD
    refine lv_iload hx hb dLW_law_198 (lv_at hl 0 rfl) ?_
    refine lv_icmp_eq (tgt := 205) hx hb dLW_law_200 (by decide) (fun _ => ?_) (fun h => absurd (rfl) h)
    refine lv_goto (tgt := 1342) hx hb dLW_law_205 (by decide) ?_
    have hP := xj_subP (ws' := [(bo, .inr (5, [.ref q, .ref km, .ref ka, .ref cs])), (cs, .inl (cV, 2, .inr (.inr (.inr (.inr (bs_gl [s0, s1])))))), (s0, .inr (3, [.ref h0, .ref l0, .long an0, .int dp0, .int qn0])), (h0, .inr (4, [.ref ra0, .ref op0, .int (nI v0), .int lc0])), (op0, .inl (cL, 256, .inr (.inl fo0))), (s1, .inr (3, [.ref h1, .ref l1, .long an1, .int dp1, .int qn1])), (h1, .inr (4, [.ref ra1, .ref op1, .int (nI v1), .int lc1])), (op1, .inl (cL, 256, .inr (.inl fo1))), (o, .inr (6, [.int (nI 1), .ref xv, .ref xo, .ref xn, .ref xc, .ref xb, .ref xd, .ref xq, .ref xa, .ref xk, .ref xt, .ref xh, .ref xs, .ref xS, .ref xw, .ref xW, .ref xB, .ref xM, .long jf, .long js, .int jb, .long nf, .long ns, .int nb, .ref xf, .ref xg, .ref xi])), (xo, .inl (cL, 512, .inr (.inl fp)))]) hP [8, 0, 1, 2, 3, 4, 5, 6, 9, 7] rfl
    have hD := xj_subD (ws' := [(bo, .inr (5, [.ref q, .ref km, .ref ka, .ref cs])), (cs, .inl (cV, 2, .inr (.inr (.inr (.inr (bs_gl [s0, s1])))))), (s0, .inr (3, [.ref h0, .ref l0, .long an0, .int dp0, .int qn0])), (h0, .inr (4, [.ref ra0, .ref op0, .int (nI v0), .int lc0])), (op0, .inl (cL, 256, .inr (.inl fo0))), (s1, .inr (3, [.ref h1, .ref l1, .long an1, .int dp1, .int qn1])), (h1, .inr (4, [.ref ra1, .ref op1, .int (nI v1), .int lc1])), (op1, .inl (cL, 256, .inr (.inl fo1))), (o, .inr (6, [.int (nI 1), .ref xv, .ref xo, .ref xn, .ref xc, .ref xb, .ref xd, .ref xq, .ref xa, .ref xk, .ref xt, .ref xh, .ref xs, .ref xS, .ref xw, .ref xW, .ref xB, .ref xM, .long jf, .long js, .int jb, .long nf, .long ns, .int nb, .ref xf, .ref xg, .ref xi])), (xo, .inl (cL, 512, .inr (.inl fp)))]) hD [8, 0, 1, 2, 3, 4, 5, 6, 9, 7] (by decide) rfl
    have hP : va_P (dC, dI) vwCl (xj_ap [(bo, .inr (5, [.ref q, .ref km, .ref ka, .ref cs])), (cs, .inl (cV, 2, .inr (.inr (.inr (.inr (bs_gl [s0, s1])))))), (s0, .inr (3, [.ref h0, .ref l0, .long an0, .int dp0, .int qn0])), (h0, .inr (4, [.ref ra0, .ref op0, .int (nI v0), .int lc0])), (op0, .inl (cL, 256, .inr (.inl fo0))), (s1, .inr (3, [.ref h1, .ref l1, .long an1, .int dp1, .int qn1])), (h1, .inr (4, [.ref ra1, .ref op1, .int (nI v1), .int lc1])), (op1, .inl (cL, 256, .inr (.inl fo1))), (o, .inr (6, [.int (nI 1), .ref xv, .ref xo, .ref xn, .ref xc, .ref xb, .ref xd, .ref xq, .ref xa, .ref xk, .ref xt, .ref xh, .ref xs, .ref xS, .ref xw, .ref xW, .ref xB, .ref xM, .long jf, .long js, .int jb, .long nf, .long ns, .int nb, .ref xf, .ref xg, .ref xi])), (xo, .inl (cL, 512, .inr (.inl fp)))] wt) H := hP
    have hD : va_D A (xj_ap [(bo, .inr (5, [.ref q, .ref km, .ref ka, .ref cs])), (cs, .inl (cV, 2, .inr (.inr (.inr (.inr (bs_gl [s0, s1])))))), (s0, .inr (3, [.ref h0, .ref l0, .long an0, .int dp0, .int qn0])), (h0, .inr (4, [.ref ra0, .ref op0, .int (nI v0), .int lc0])), (op0, .inl (cL, 256, .inr (.inl fo0))), (s1, .inr (3, [.ref h1, .ref l1, .long an1, .int dp1, .int qn1])), (h1, .inr (4, [.ref ra1, .ref op1, .int (nI v1), .int lc1])), (op1, .inl (cL, 256, .inr (.inl fo1))), (o, .inr (6, [.int (nI 1), .ref xv, .ref xo, .ref xn, .ref xc, .ref xb, .ref xd, .ref xq, .ref xa, .ref xk, .ref xt, .ref xh, .ref xs, .ref xS, .ref xw, .ref xW, .ref xB, .ref xM, .long jf, .long js, .int jb, .long nf, .long ns, .int nb, .ref xf, .ref xg, .ref xi])), (xo, .inl (cL, 512, .inr (.inl fp)))] wt) := hD
    have hl := lv_sub hl (l' := [(0, .ref b), (1, .ref bo), (2, .ref o), (3, .ref ou), (4, .int (nI (12 * t9)))]) [1, 2, 3, 4, 5] rfl
    exact hk fo0 fo1 fp (nI 1) H _ ls (hJ) hP hD hS hl
