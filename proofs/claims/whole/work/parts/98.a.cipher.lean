set_option maxHeartbeats 8000000 in
set_option maxRecDepth 100000 in
theorem lc_cipher {p : Program} {e : Env} {s : State} {m : MethodId} {below : List Frame} {meth : Method} {c : Code} {l : Launch} {b L : Nat} {sc : Nat → Int32} {dC : Nat → ClassId} {dI : Nat → Nat → Nat} {A : Nat → Prop} {Q : State → Prop} {cI cL cZ cR cJ cK cV : ClassId} (C9 : lc_At p l s m c b L sc dC dI A cI cL cZ cR cJ cK cV) {t9 k9 n9 : Nat} (ht9 : 12 * t9 + 12 ≤ L) (hk9 : k9 ≤ 600000) (hn9 : n9 ≤ 7000000) {bo q sb co rk rk0 rk1 km ka cs o xv xo xn xc xb xd xq xa xk xt xh xs xS xw xW xB xM xf xg xi ou : Nat} {f1 : Int64} {f2 : Int64} {jf : Int64} {js : Int64} {nf : Int64} {ns : Int64} {bt : Int32} {th : Int32} {jb : Int32} {nb : Int32} {bl : Nat → Int32} {mv : Nat → Int32} {fz : Nat → Int64} {wt : va_W} {H : Heap} {locs : List Loc} {ls : Array Slot}
    (hP : va_P (dC, dI) vwCl (xj_ap [(bo, .inr (5, [.ref q, .ref km, .ref ka, .ref cs])), (q, .inr (0, [.ref sb, .ref co, .ref rk, .long f1, .long f2, .int bt])), (sb, .inl (cI, 256, .inl bs_SBf)), (co, .inl (cI, 256, .inl bs_CTf)), (rk, .inl (cR, 2, .inr (.inr (.inr (.inr (bs_gl [rk0, rk1])))))), (rk0, .inl (cI, 44, .inl bs_V0)), (rk1, .inl (cI, 44, .inl bs_V1)), (o, .inr (6, [.int th, .ref xv, .ref xo, .ref xn, .ref xc, .ref xb, .ref xd, .ref xq, .ref xa, .ref xk, .ref xt, .ref xh, .ref xs, .ref xS, .ref xw, .ref xW, .ref xB, .ref xM, .long jf, .long js, .int jb, .long nf, .long ns, .int nb, .ref xf, .ref xg, .ref xi])), (xB, .inl (cI, 16, .inl bl)), (xM, .inl (cI, 16, .inl mv)), (xS, .inl (cI, 256, .inl (bs_fn bs_SB))), (xw, .inl (cI, 256, .inl (bs_fn bs_tX))), (xW, .inl (cI, 352, .inl (bs_fn bs_KK))), (ou, .inl (cL, 1, .inr (.inl fz)))] wt) H) (hD : va_D A (xj_ap [(bo, .inr (5, [.ref q, .ref km, .ref ka, .ref cs])), (q, .inr (0, [.ref sb, .ref co, .ref rk, .long f1, .long f2, .int bt])), (sb, .inl (cI, 256, .inl bs_SBf)), (co, .inl (cI, 256, .inl bs_CTf)), (rk, .inl (cR, 2, .inr (.inr (.inr (.inr (bs_gl [rk0, rk1])))))), (rk0, .inl (cI, 44, .inl bs_V0)), (rk1, .inl (cI, 44, .inl bs_V1)), (o, .inr (6, [.int th, .ref xv, .ref xo, .ref xn, .ref xc, .ref xb, .ref xd, .ref xq, .ref xa, .ref xk, .ref xt, .ref xh, .ref xs, .ref xS, .ref xw, .ref xW, .ref xB, .ref xM, .long jf, .long js, .int jb, .long nf, .long ns, .int nb, .ref xf, .ref xg, .ref xi])), (xB, .inl (cI, 16, .inl bl)), (xM, .inl (cI, 16, .inl mv)), (xS, .inl (cI, 256, .inl (bs_fn bs_SB))), (xw, .inl (cI, 256, .inl (bs_fn bs_tX))), (xW, .inl (cI, 352, .inl (bs_fn bs_KK))), (ou, .inl (cL, 1, .inr (.inl fz)))] wt)) (hS : va_S A s.heap H locs) (hl : lv_has ls 8 [(0, .ref b), (1, .ref bo), (2, .ref o), (3, .ref ou), (4, .int (nI (12 * t9)))]) (hJ : True)
    (hk : ∀ (f1' : Int64) (f2' : Int64) (bl' : Nat → Int32) (mv' : Nat → Int32) (th' : Int32) (fz' : Nat → Int64) (H : Heap) (locs : List Loc) (ls : Array Slot), (True) → va_P (dC, dI) vwCl (xj_ap (lc_w_cipher cI cL cR bo q sb co rk rk0 rk1 km ka cs o xv xo xn xc xb xd xq xa xk xt xh xs xS xw xW xB xM xf xg xi ou f1' f2' jf js nf ns bt th' jb nb bl' mv' fz') wt) H → va_D A (xj_ap (lc_w_cipher cI cL cR bo q sb co rk rk0 rk1 km ka cs o xv xo xn xc xb xd xq xa xk xt xh xs xS xw xW xB xM xf xg xi ou f1' f2' jf js nf ns bt th' jb nb bl' mv' fz') wt) → va_S A s.heap H locs → lv_has ls 8 [(0, .ref b), (1, .ref bo), (2, .ref o), (3, .ref ou), (4, .int (nI (12 * t9)))] → W p l e room_1 s m #[Value.ref b] below meth c H locs (k9 + 1) (n9 + 6) Q (F0 m 1342 ls [])) :
    W p l e room_1 s m #[Value.ref b] below meth c H locs k9 n9 Q (F0 m 1132 ls []) := by
  obtain ⟨hx, hb, hml, hown, hts, hl9, hA, hK, hX, hXs, hbl, hbA, hL⟩ := id C9
  by_cases h6 : sc (12 * t9 + 6) = 0
  · rcases Bool.eq_false_or_eq_true (bs_ii (sc (12 * t9 + 1)) 2) with hs9 | hs9
    · obtain ⟨x9, hx9, hxe⟩ := bs_ii_t hs9
      obtain rfl | rfl : x9 = 0 ∨ x9 = 1 := by omega
      · refine lv_aload_n hx hb dLW_law_1132 rfl (lv_at hl 1 rfl) ?_
        refine lv_aload_n hx hb dLW_law_1133 rfl (lv_at hl 0 rfl) ?_
        refine lv_iload hx hb dLW_law_1134 (lv_at hl 4 rfl) ?_
        refine lv_iconst (v := nI 1) hx hb dLW_law_1136 (by decide) ?_
        refine lv_iadd hx hb dLW_law_1137 ?_
        refine xt_i (y := nI (12 * t9 + 1)) (nI_add _ _) ?_
        refine xs_ld hx hb hXs hbl hbA (Nat.lt_of_le_of_lt hL (by decide)) hS (12 * t9 + 1) (by omega) dLW_law_1138 ?_
        refine xt_i (y := nI 0) (hxe) ?_
        refine lv_aload_n hx hb dLW_law_1139 rfl (lv_at hl 0 rfl) ?_
        refine lv_iload hx hb dLW_law_1140 (lv_at hl 4 rfl) ?_
        refine lv_iconst (v := nI 2) hx hb dLW_law_1142 (by decide) ?_
        refine lv_iadd hx hb dLW_law_1143 ?_
        refine xt_i (y := nI (12 * t9 + 2)) (nI_add _ _) ?_
        refine xs_ld hx hb hXs hbl hbA (Nat.lt_of_le_of_lt hL (by decide)) hS (12 * t9 + 2) (by omega) dLW_law_1144 ?_
        refine lv_i2l (v := (sc (12 * t9 + 2)).toInt64) hx hb dLW_law_1145 rfl ?_
        refine lv_bipush (v := nI 32) hx hb dLW_law_1146 (by decide) ?_
        refine lv_lshl (v := j_lshl ((sc (12 * t9 + 2)).toInt64) (nI 32)) hx hb dLW_law_1148 rfl ?_
        refine lv_aload_n hx hb dLW_law_1149 rfl (lv_at hl 0 rfl) ?_
        refine lv_iload hx hb dLW_law_1150 (lv_at hl 4 rfl) ?_
        refine lv_iconst (v := nI 3) hx hb dLW_law_1152 (by decide) ?_
        refine lv_iadd hx hb dLW_law_1153 ?_
        refine xt_i (y := nI (12 * t9 + 3)) (nI_add _ _) ?_
        refine xs_ld hx hb hXs hbl hbA (Nat.lt_of_le_of_lt hL (by decide)) hS (12 * t9 + 3) (by omega) dLW_law_1154 ?_
        refine lv_i2l (v := (sc (12 * t9 + 3)).toInt64) hx hb dLW_law_1155 rfl ?_
        refine lv_ldc2 (v := 4294967295) hx hb hown (hts _ w_j_LW_68) dLW_law_1156 ?_
        refine lv_land hx hb dLW_law_1159 ?_
        refine lv_lor hx hb dLW_law_1160 ?_
        refine xt_l (y := lc_lg sc (12 * t9 + 2)) (rfl) ?_
        refine lv_aload_n hx hb dLW_law_1161 rfl (lv_at hl 0 rfl) ?_
        refine lv_iload hx hb dLW_law_1162 (lv_at hl 4 rfl) ?_
        refine lv_iconst (v := nI 4) hx hb dLW_law_1164 (by decide) ?_
        refine lv_iadd hx hb dLW_law_1165 ?_
        refine xt_i (y := nI (12 * t9 + 4)) (nI_add _ _) ?_
        refine xs_ld hx hb hXs hbl hbA (Nat.lt_of_le_of_lt hL (by decide)) hS (12 * t9 + 4) (by omega) dLW_law_1166 ?_
        refine lv_i2l (v := (sc (12 * t9 + 4)).toInt64) hx hb dLW_law_1167 rfl ?_
        refine lv_bipush (v := nI 32) hx hb dLW_law_1168 (by decide) ?_
        refine lv_lshl (v := j_lshl ((sc (12 * t9 + 4)).toInt64) (nI 32)) hx hb dLW_law_1170 rfl ?_
        refine lv_aload_n hx hb dLW_law_1171 rfl (lv_at hl 0 rfl) ?_
        refine lv_iload hx hb dLW_law_1172 (lv_at hl 4 rfl) ?_
        refine lv_iconst (v := nI 5) hx hb dLW_law_1174 (by decide) ?_
        refine lv_iadd hx hb dLW_law_1175 ?_
        refine xt_i (y := nI (12 * t9 + 5)) (nI_add _ _) ?_
        refine xs_ld hx hb hXs hbl hbA (Nat.lt_of_le_of_lt hL (by decide)) hS (12 * t9 + 5) (by omega) dLW_law_1176 ?_
        refine lv_i2l (v := (sc (12 * t9 + 5)).toInt64) hx hb dLW_law_1177 rfl ?_
        refine lv_ldc2 (v := 4294967295) hx hb hown (hts _ w_j_LW_68) dLW_law_1178 ?_
        refine lv_land hx hb dLW_law_1181 ?_
        refine lv_lor hx hb dLW_law_1182 ?_
        refine xt_l (y := lc_lg sc (12 * t9 + 4)) (rfl) ?_
        refine lv_aload_n hx hb dLW_law_1183 rfl (lv_at hl 0 rfl) ?_
        refine lv_iload hx hb dLW_law_1184 (lv_at hl 4 rfl) ?_
        refine lv_bipush (v := nI 6) hx hb dLW_law_1186 (by decide) ?_
        refine lv_iadd hx hb dLW_law_1188 ?_
        refine xt_i (y := nI (12 * t9 + 6)) (nI_add _ _) ?_
        refine xs_ld hx hb hXs hbl hbA (Nat.lt_of_le_of_lt hL (by decide)) hS (12 * t9 + 6) (by omega) dLW_law_1189 ?_
        refine lv_if_eq (tgt := 1197) hx hb dLW_law_1190 (by decide) (fun _ => ?_) (fun h => absurd (h6) h)
        refine lv_iconst (v := nI 0) hx hb dLW_law_1197 (by decide) ?_
        refine xt_i (y := bs_z false) (rfl) ?_
        refine lv_aload_n hx hb dLW_law_1198 rfl (lv_at hl 3 rfl) ?_
        have hPc := hP.sub (ws' := [(bo, .inr (5, [.ref q, .ref km, .ref ka, .ref cs])), (q, .inr (0, [.ref sb, .ref co, .ref rk, .long f1, .long f2, .int bt])), (sb, .inl (cI, 256, .inl bs_SBf)), (co, .inl (cI, 256, .inl bs_CTf)), (rk, .inl (cR, 2, .inr (.inr (.inr (.inr (bs_gl [rk0, rk1])))))), (rk0, .inl (cI, 44, .inl bs_V0)), (ou, .inl (cL, 1, .inr (.inl fz)))]) [0, 1, 2, 3, 4, 5, 13] rfl
        have hDc := hD.sub (ws' := [(bo, .inr (5, [.ref q, .ref km, .ref ka, .ref cs])), (q, .inr (0, [.ref sb, .ref co, .ref rk, .long f1, .long f2, .int bt])), (sb, .inl (cI, 256, .inl bs_SBf)), (co, .inl (cI, 256, .inl bs_CTf)), (rk, .inl (cR, 2, .inr (.inr (.inr (.inr (bs_gl [rk0, rk1])))))), (rk0, .inl (cI, 44, .inl bs_V0)), (ou, .inl (cL, 1, .inr (.inl fz)))]) [0, 1, 2, 3, 4, 5, 13] (by decide) rfl
        have hKc := hK.sub (tys' := [(cI, .int), (cR, .array .int), (cL, .long)]) [0, 3, 1] rfl
        have hFc := va_free (wc := [(bo, .inr (5, [.ref q, .ref km, .ref ka, .ref cs])), (q, .inr (0, [.ref sb, .ref co, .ref rk, .long f1, .long f2, .int bt])), (sb, .inl (cI, 256, .inl bs_SBf)), (co, .inl (cI, 256, .inl bs_CTf)), (rk, .inl (cR, 2, .inr (.inr (.inr (.inr (bs_gl [rk0, rk1])))))), (rk0, .inl (cI, 44, .inl bs_V0)), (ou, .inl (cL, 1, .inr (.inl fz)))]) hD hS hA [0, 1, 2, 3, 4, 5, 13] rfl
        refine va_calli (xs_runW (n := 6) (hh := [(0, 14, 17, 13)]) (As := [.ref bo, .int (nI 0), .long (lc_lg sc (12 * t9 + 2)), .long (lc_lg sc (12 * t9 + 4)), .int (bs_z false), .ref ou]) (rest := []) ⟨hx, hb, hml, hown, hts⟩ (c_LW_cipher_y l dC dI H.size bo km ka cs q sb co rk rk0 cI cR bs_SBf bs_CTf (bs_gl [rk0, rk1]) bs_V0 0 (lc_lg sc (12 * t9 + 2)) (lc_lg sc (12 * t9 + 4)) f1 f2 bt false cL ou fz (by decide) rfl) (wT_3 w_m_LW_124 w_t_LW_cipher w_n_LW w_c_LW_cipher) rfl rfl rfl (by decide +kernel) ⟨Nat.le_of_ble_eq_true rfl, Nat.le_of_ble_eq_true rfl⟩ ⟨fun a U g mk q => by obtain ⟨q0, q1, qP, qK, qD⟩ := q; exact ⟨q0, q1, qP, va_K.moved (u := U) (U := U.calling g mk a) (Vm.Alike.refl U.vm) qK, qD⟩, fun U hU hW => ⟨rfl, by rw [hU], by rw [hU]; exact hPc, va_K.moved hW.alike hKc, hDc.weaken (fun _ _ _ _ => trivial)⟩⟩ rfl rfl hl.1 rfl (lv_room (Nat.le_of_ble_eq_true rfl)) dLW_law_1199 ⟨show k9 + 1 ≤ 601024 from by omega, show n9 + 6 ≤ 7293034 from by omega⟩) hS (fun q _ h => hFc q h) hFc (fun r u t H1 locs ht hvm hw hB hz1 hk1 hS => ?_)
        obtain ⟨hP1, hK1, hD1⟩ := hB
        rw [ht] at hP1
        have hK1 := va_K.moved hvm.symm hK1
        have hw : r = nI 0 := hw
        rw [hw]
        obtain ⟨hP, hD⟩ := xj_join (wt := wt) (wr := [(rk1, .inl (cI, 44, .inl bs_V1)), (o, .inr (6, [.int th, .ref xv, .ref xo, .ref xn, .ref xc, .ref xb, .ref xd, .ref xq, .ref xa, .ref xk, .ref xt, .ref xh, .ref xs, .ref xS, .ref xw, .ref xW, .ref xB, .ref xM, .long jf, .long js, .int jb, .long nf, .long ns, .int nb, .ref xf, .ref xg, .ref xi])), (xB, .inl (cI, 16, .inl bl)), (xM, .inl (cI, 16, .inl mv)), (xS, .inl (cI, 256, .inl (bs_fn bs_SB))), (xw, .inl (cI, 256, .inl (bs_fn bs_tX))), (xW, .inl (cI, 352, .inl (bs_fn bs_KK)))]) (w1 := [(bo, .inr (5, [.ref q, .ref km, .ref ka, .ref cs])), (q, .inr (0, [.ref sb, .ref co, .ref rk, .long (bs_e1 bs_CTf bs_SBf bs_V0 (lc_lg sc (12 * t9 + 2)) (lc_lg sc (12 * t9 + 4))), .long (bs_e2 bs_CTf bs_SBf bs_V0 (lc_lg sc (12 * t9 + 2)) (lc_lg sc (12 * t9 + 4))), .int bt])), (sb, .inl (cI, 256, .inl bs_SBf)), (co, .inl (cI, 256, .inl bs_CTf)), (rk, .inl (cR, 2, .inr (.inr (.inr (.inr (bs_gl [rk0, rk1])))))), (rk0, .inl (cI, 44, .inl bs_V0)), (ou, .inl (cL, 1, .inr (.inl (vp_updL fz 0 (if false then bs_e1 bs_CTf bs_SBf bs_V0 (lc_lg sc (12 * t9 + 2)) (lc_lg sc (12 * t9 + 4)) else bs_e2 bs_CTf bs_SBf bs_V0 (lc_lg sc (12 * t9 + 2)) (lc_lg sc (12 * t9 + 4)))))))]) hP hD [0, 1, 2, 3, 4, 5, 13] [6, 7, 8, 9, 10, 11, 12] rfl rfl (by decide) (by decide) hk1 hFc hP1 hD1
        generalize H1 = H at hP hS ⊢
        have hP : va_P (dC, dI) vwCl (xj_ap [(rk1, .inl (cI, 44, .inl bs_V1)), (o, .inr (6, [.int th, .ref xv, .ref xo, .ref xn, .ref xc, .ref xb, .ref xd, .ref xq, .ref xa, .ref xk, .ref xt, .ref xh, .ref xs, .ref xS, .ref xw, .ref xW, .ref xB, .ref xM, .long jf, .long js, .int jb, .long nf, .long ns, .int nb, .ref xf, .ref xg, .ref xi])), (xB, .inl (cI, 16, .inl bl)), (xM, .inl (cI, 16, .inl mv)), (xS, .inl (cI, 256, .inl (bs_fn bs_SB))), (xw, .inl (cI, 256, .inl (bs_fn bs_tX))), (xW, .inl (cI, 352, .inl (bs_fn bs_KK))), (bo, .inr (5, [.ref q, .ref km, .ref ka, .ref cs])), (q, .inr (0, [.ref sb, .ref co, .ref rk, .long (bs_e1 bs_CTf bs_SBf bs_V0 (lc_lg sc (12 * t9 + 2)) (lc_lg sc (12 * t9 + 4))), .long (bs_e2 bs_CTf bs_SBf bs_V0 (lc_lg sc (12 * t9 + 2)) (lc_lg sc (12 * t9 + 4))), .int bt])), (sb, .inl (cI, 256, .inl bs_SBf)), (co, .inl (cI, 256, .inl bs_CTf)), (rk, .inl (cR, 2, .inr (.inr (.inr (.inr (bs_gl [rk0, rk1])))))), (rk0, .inl (cI, 44, .inl bs_V0)), (ou, .inl (cL, 1, .inr (.inl (vp_updL fz 0 (if false then bs_e1 bs_CTf bs_SBf bs_V0 (lc_lg sc (12 * t9 + 2)) (lc_lg sc (12 * t9 + 4)) else bs_e2 bs_CTf bs_SBf bs_V0 (lc_lg sc (12 * t9 + 2)) (lc_lg sc (12 * t9 + 4)))))))] wt) H := hP
        have hD : va_D A (xj_ap [(rk1, .inl (cI, 44, .inl bs_V1)), (o, .inr (6, [.int th, .ref xv, .ref xo, .ref xn, .ref xc, .ref xb, .ref xd, .ref xq, .ref xa, .ref xk, .ref xt, .ref xh, .ref xs, .ref xS, .ref xw, .ref xW, .ref xB, .ref xM, .long jf, .long js, .int jb, .long nf, .long ns, .int nb, .ref xf, .ref xg, .ref xi])), (xB, .inl (cI, 16, .inl bl)), (xM, .inl (cI, 16, .inl mv)), (xS, .inl (cI, 256, .inl (bs_fn bs_SB))), (xw, .inl (cI, 256, .inl (bs_fn bs_tX))), (xW, .inl (cI, 352, .inl (bs_fn bs_KK))), (bo, .inr (5, [.ref q, .ref km, .ref ka, .ref cs])), (q, .inr (0, [.ref sb, .ref co, .ref rk, .long (bs_e1 bs_CTf bs_SBf bs_V0 (lc_lg sc (12 * t9 + 2)) (lc_lg sc (12 * t9 + 4))), .long (bs_e2 bs_CTf bs_SBf bs_V0 (lc_lg sc (12 * t9 + 2)) (lc_lg sc (12 * t9 + 4))), .int bt])), (sb, .inl (cI, 256, .inl bs_SBf)), (co, .inl (cI, 256, .inl bs_CTf)), (rk, .inl (cR, 2, .inr (.inr (.inr (.inr (bs_gl [rk0, rk1])))))), (rk0, .inl (cI, 44, .inl bs_V0)), (ou, .inl (cL, 1, .inr (.inl (vp_updL fz 0 (if false then bs_e1 bs_CTf bs_SBf bs_V0 (lc_lg sc (12 * t9 + 2)) (lc_lg sc (12 * t9 + 4)) else bs_e2 bs_CTf bs_SBf bs_V0 (lc_lg sc (12 * t9 + 2)) (lc_lg sc (12 * t9 + 4)))))))] wt) := hD
        refine lv_istore (lv' := [(5, .int (nI 0)), (0, .ref b), (1, .ref bo), (2, .ref o), (3, .ref ou), (4, .int (nI (12 * t9)))]) hx hb dLW_law_1202 hl (by decide) rfl (fun ls hl => ?_)
        refine lv_aload_n hx hb dLW_law_1204 rfl (lv_at hl 3 rfl) ?_
        refine lv_aload_n hx hb dLW_law_1205 rfl (lv_at hl 1 rfl) ?_
        refine lv_iload hx hb dLW_law_1206 (lv_at hl 5 rfl) ?_
        refine lv_iconst (v := nI 1) hx hb dLW_law_1208 (by decide) ?_
        refine lv_iadd hx hb dLW_law_1209 ?_
        refine xt_i (y := nI (12 * t9 + 1)) (nI_add _ _) ?_
        refine xs_ld hx hb hXs hbl hbA (Nat.lt_of_le_of_lt hL (by decide)) hS (12 * t9 + 1) (by omega) dLW_law_1210 ?_
        refine xt_i (y := nI 0) (hxe) ?_
        refine lv_aload_n hx hb dLW_law_1211 rfl (lv_at hl 1 rfl) ?_
        refine lv_iload hx hb dLW_law_1212 (lv_at hl 5 rfl) ?_
        refine lv_iconst (v := nI 2) hx hb dLW_law_1214 (by decide) ?_
        refine lv_iadd hx hb dLW_law_1215 ?_
        refine xt_i (y := nI (12 * t9 + 2)) (nI_add _ _) ?_
        refine xs_ld hx hb hXs hbl hbA (Nat.lt_of_le_of_lt hL (by decide)) hS (12 * t9 + 2) (by omega) dLW_law_1216 ?_
        refine lv_i2l (v := (sc (12 * t9 + 2)).toInt64) hx hb dLW_law_1217 rfl ?_
        refine lv_bipush (v := nI 32) hx hb dLW_law_1218 (by decide) ?_
        refine lv_lshl (v := j_lshl ((sc (12 * t9 + 2)).toInt64) (nI 32)) hx hb dLW_law_1220 rfl ?_
        refine lv_aload_n hx hb dLW_law_1221 rfl (lv_at hl 1 rfl) ?_
        refine lv_iload hx hb dLW_law_1222 (lv_at hl 5 rfl) ?_
        refine lv_iconst (v := nI 3) hx hb dLW_law_1224 (by decide) ?_
        refine lv_iadd hx hb dLW_law_1225 ?_
        refine xt_i (y := nI (12 * t9 + 3)) (nI_add _ _) ?_
        refine xs_ld hx hb hXs hbl hbA (Nat.lt_of_le_of_lt hL (by decide)) hS (12 * t9 + 3) (by omega) dLW_law_1226 ?_
        refine lv_i2l (v := (sc (12 * t9 + 3)).toInt64) hx hb dLW_law_1227 rfl ?_
        refine lv_ldc2 (v := 4294967295) hx hb hown (hts _ w_j_LW_68) dLW_law_1228 ?_
        refine lv_land hx hb dLW_law_1231 ?_
        refine lv_lor hx hb dLW_law_1232 ?_
        refine xt_l (y := lc_lg sc (12 * t9 + 2)) (rfl) ?_
        refine lv_aload_n hx hb dLW_law_1233 rfl (lv_at hl 1 rfl) ?_
        refine lv_iload hx hb dLW_law_1234 (lv_at hl 5 rfl) ?_
        refine lv_iconst (v := nI 4) hx hb dLW_law_1236 (by decide) ?_
        refine lv_iadd hx hb dLW_law_1237 ?_
        refine xt_i (y := nI (12 * t9 + 4)) (nI_add _ _) ?_
        refine xs_ld hx hb hXs hbl hbA (Nat.lt_of_le_of_lt hL (by decide)) hS (12 * t9 + 4) (by omega) dLW_law_1238 ?_
        refine lv_i2l (v := (sc (12 * t9 + 4)).toInt64) hx hb dLW_law_1239 rfl ?_
        refine lv_bipush (v := nI 32) hx hb dLW_law_1240 (by decide) ?_
        refine lv_lshl (v := j_lshl ((sc (12 * t9 + 4)).toInt64) (nI 32)) hx hb dLW_law_1242 rfl ?_
        refine lv_aload_n hx hb dLW_law_1243 rfl (lv_at hl 1 rfl) ?_
        refine lv_iload hx hb dLW_law_1244 (lv_at hl 5 rfl) ?_
        refine lv_iconst (v := nI 5) hx hb dLW_law_1246 (by decide) ?_
        refine lv_iadd hx hb dLW_law_1247 ?_
        refine xt_i (y := nI (12 * t9 + 5)) (nI_add _ _) ?_
        refine xs_ld hx hb hXs hbl hbA (Nat.lt_of_le_of_lt hL (by decide)) hS (12 * t9 + 5) (by omega) dLW_law_1248 ?_
        refine lv_i2l (v := (sc (12 * t9 + 5)).toInt64) hx hb dLW_law_1249 rfl ?_
        refine lv_ldc2 (v := 4294967295) hx hb hown (hts _ w_j_LW_68) dLW_law_1250 ?_
        refine lv_land hx hb dLW_law_1253 ?_
        refine lv_lor hx hb dLW_law_1254 ?_
        refine xt_l (y := lc_lg sc (12 * t9 + 4)) (rfl) ?_
        refine lv_aload_n hx hb dLW_law_1255 rfl (lv_at hl 1 rfl) ?_
        refine lv_iload hx hb dLW_law_1256 (lv_at hl 5 rfl) ?_
        refine lv_bipush (v := nI 6) hx hb dLW_law_1258 (by decide) ?_
        refine lv_iadd hx hb dLW_law_1260 ?_
        refine xt_i (y := nI (12 * t9 + 6)) (nI_add _ _) ?_
        refine xs_ld hx hb hXs hbl hbA (Nat.lt_of_le_of_lt hL (by decide)) hS (12 * t9 + 6) (by omega) dLW_law_1261 ?_
        refine lv_if_eq (tgt := 1269) hx hb dLW_law_1262 (by decide) (fun _ => ?_) (fun h => absurd (h6) h)
        refine lv_iconst (v := nI 0) hx hb dLW_law_1269 (by decide) ?_
        refine xt_i (y := bs_z false) (rfl) ?_
        have hPc := hP.sub (ws' := [(o, .inr (6, [.int th, .ref xv, .ref xo, .ref xn, .ref xc, .ref xb, .ref xd, .ref xq, .ref xa, .ref xk, .ref xt, .ref xh, .ref xs, .ref xS, .ref xw, .ref xW, .ref xB, .ref xM, .long jf, .long js, .int jb, .long nf, .long ns, .int nb, .ref xf, .ref xg, .ref xi])), (xB, .inl (cI, 16, .inl bl)), (xM, .inl (cI, 16, .inl mv)), (xS, .inl (cI, 256, .inl (bs_fn bs_SB))), (xw, .inl (cI, 256, .inl (bs_fn bs_tX))), (xW, .inl (cI, 352, .inl (bs_fn bs_KK)))]) [1, 2, 3, 4, 5, 6] rfl
        have hDc := hD.sub (ws' := [(o, .inr (6, [.int th, .ref xv, .ref xo, .ref xn, .ref xc, .ref xb, .ref xd, .ref xq, .ref xa, .ref xk, .ref xt, .ref xh, .ref xs, .ref xS, .ref xw, .ref xW, .ref xB, .ref xM, .long jf, .long js, .int jb, .long nf, .long ns, .int nb, .ref xf, .ref xg, .ref xi])), (xB, .inl (cI, 16, .inl bl)), (xM, .inl (cI, 16, .inl mv)), (xS, .inl (cI, 256, .inl (bs_fn bs_SB))), (xw, .inl (cI, 256, .inl (bs_fn bs_tX))), (xW, .inl (cI, 352, .inl (bs_fn bs_KK)))]) [1, 2, 3, 4, 5, 6] (by decide) rfl
        have hKc := hK.sub (tys' := [(cI, .int)]) [0] rfl
        have hFc := va_free (wc := [(o, .inr (6, [.int th, .ref xv, .ref xo, .ref xn, .ref xc, .ref xb, .ref xd, .ref xq, .ref xa, .ref xk, .ref xt, .ref xh, .ref xs, .ref xS, .ref xw, .ref xW, .ref xB, .ref xM, .long jf, .long js, .int jb, .long nf, .long ns, .int nb, .ref xf, .ref xg, .ref xi])), (xB, .inl (cI, 16, .inl bl)), (xM, .inl (cI, 16, .inl mv)), (xS, .inl (cI, 256, .inl (bs_fn bs_SB))), (xw, .inl (cI, 256, .inl (bs_fn bs_tX))), (xW, .inl (cI, 352, .inl (bs_fn bs_KK)))]) hD hS hA [1, 2, 3, 4, 5, 6] rfl
        refine va_calll (va_runV (C := RMO) (As := [.int (nI 0), .long (lc_lg sc (12 * t9 + 2)), .long (lc_lg sc (12 * t9 + 4)), .int (bs_z false)]) (rest := []) ⟨hx, hb, hml, hown, hts⟩ (c_MO_cipher_y l dC dI H.size o xv xo xn xc xb xd xq xa xk xt xh xs xS xw xW xB xM xf xg xi th jf js jb nf ns nb cI bs_KK 0 (lc_lg sc (12 * t9 + 2)) (lc_lg sc (12 * t9 + 4)) bl mv false (by decide) bs_KK_lt) (cwV (C := RMO) 4 hts (wT_4 w_m_LW_127 w_i_MO_cipher w_s_MO_cipher w_n_MO w_c_MO_cipher) rfl rfl rfl (by decide +kernel) ⟨Nat.le_of_ble_eq_true rfl, Nat.le_of_ble_eq_true rfl⟩) ⟨fun a U g mk q => by obtain ⟨q0, q1, qP, qK, qD⟩ := q; exact ⟨q0, q1, qP, va_K.moved (u := U) (U := U.calling g mk a) (Vm.Alike.refl U.vm) qK, qD⟩, va_recv hK hP (q0 := 1) (ci := 6) (q := (RMO, TMO, 27)) rfl rfl, fun U hU hW => ⟨rfl, by rw [hU], by rw [hU]; exact hPc, va_K.moved hW.alike hKc, hDc.weaken (fun _ _ _ _ => trivial)⟩⟩ rfl rfl hl.1 rfl (lv_room (Nat.le_of_ble_eq_true rfl)) dLW_law_1270 ⟨show k9 + 1 + 0 ≤ 601024 from by omega, show n9 + 6 + 0 ≤ 7293034 from by omega⟩) hS (fun q _ h => hFc q h) hFc (fun r u t H1 locs ht hvm hw hB hz1 hk1 hS => ?_)
        obtain ⟨mv2, rfl⟩ : ∃ z, z = u := ⟨_, rfl⟩
        obtain ⟨hP1, hK1, hD1⟩ := hB
        rw [ht] at hP1
        have hK1 := va_K.moved hvm.symm hK1
        obtain ⟨hw, hw8⟩ : r = (if false then bs_rd (bs_fn (bs_E (fun j9 => bs_KK (176 * 0 + j9)) (lc_lg sc (12 * t9 + 2)) (lc_lg sc (12 * t9 + 4)))) 0 8 else bs_rd (bs_fn (bs_E (fun j9 => bs_KK (176 * 0 + j9)) (lc_lg sc (12 * t9 + 2)) (lc_lg sc (12 * t9 + 4)))) 8 8) ∧ True := hw
        rw [hw]
        obtain ⟨hP, hD⟩ := xj_join (wt := wt) (wr := [(rk1, .inl (cI, 44, .inl bs_V1)), (bo, .inr (5, [.ref q, .ref km, .ref ka, .ref cs])), (q, .inr (0, [.ref sb, .ref co, .ref rk, .long (bs_e1 bs_CTf bs_SBf bs_V0 (lc_lg sc (12 * t9 + 2)) (lc_lg sc (12 * t9 + 4))), .long (bs_e2 bs_CTf bs_SBf bs_V0 (lc_lg sc (12 * t9 + 2)) (lc_lg sc (12 * t9 + 4))), .int bt])), (sb, .inl (cI, 256, .inl bs_SBf)), (co, .inl (cI, 256, .inl bs_CTf)), (rk, .inl (cR, 2, .inr (.inr (.inr (.inr (bs_gl [rk0, rk1])))))), (rk0, .inl (cI, 44, .inl bs_V0)), (ou, .inl (cL, 1, .inr (.inl (vp_updL fz 0 (if false then bs_e1 bs_CTf bs_SBf bs_V0 (lc_lg sc (12 * t9 + 2)) (lc_lg sc (12 * t9 + 4)) else bs_e2 bs_CTf bs_SBf bs_V0 (lc_lg sc (12 * t9 + 2)) (lc_lg sc (12 * t9 + 4)))))))]) (w1 := [(o, .inr (6, [.int (nI 0), .ref xv, .ref xo, .ref xn, .ref xc, .ref xb, .ref xd, .ref xq, .ref xa, .ref xk, .ref xt, .ref xh, .ref xs, .ref xS, .ref xw, .ref xW, .ref xB, .ref xM, .long jf, .long js, .int jb, .long nf, .long ns, .int nb, .ref xf, .ref xg, .ref xi])), (xB, .inl (cI, 16, .inl (bs_fn (bs_E (fun j9 => bs_KK (176 * 0 + j9)) (lc_lg sc (12 * t9 + 2)) (lc_lg sc (12 * t9 + 4)))))), (xM, .inl (cI, 16, .inl mv2)), (xS, .inl (cI, 256, .inl (bs_fn bs_SB))), (xw, .inl (cI, 256, .inl (bs_fn bs_tX))), (xW, .inl (cI, 352, .inl (bs_fn bs_KK)))]) hP hD [1, 2, 3, 4, 5, 6] [0, 7, 8, 9, 10, 11, 12, 13] rfl rfl (by decide) (by decide) hk1 hFc hP1 hD1
        generalize H1 = H at hP hS ⊢
        have hP : va_P (dC, dI) vwCl (xj_ap [(rk1, .inl (cI, 44, .inl bs_V1)), (bo, .inr (5, [.ref q, .ref km, .ref ka, .ref cs])), (q, .inr (0, [.ref sb, .ref co, .ref rk, .long (bs_e1 bs_CTf bs_SBf bs_V0 (lc_lg sc (12 * t9 + 2)) (lc_lg sc (12 * t9 + 4))), .long (bs_e2 bs_CTf bs_SBf bs_V0 (lc_lg sc (12 * t9 + 2)) (lc_lg sc (12 * t9 + 4))), .int bt])), (sb, .inl (cI, 256, .inl bs_SBf)), (co, .inl (cI, 256, .inl bs_CTf)), (rk, .inl (cR, 2, .inr (.inr (.inr (.inr (bs_gl [rk0, rk1])))))), (rk0, .inl (cI, 44, .inl bs_V0)), (ou, .inl (cL, 1, .inr (.inl (vp_updL fz 0 (if false then bs_e1 bs_CTf bs_SBf bs_V0 (lc_lg sc (12 * t9 + 2)) (lc_lg sc (12 * t9 + 4)) else bs_e2 bs_CTf bs_SBf bs_V0 (lc_lg sc (12 * t9 + 2)) (lc_lg sc (12 * t9 + 4))))))), (o, .inr (6, [.int (nI 0), .ref xv, .ref xo, .ref xn, .ref xc, .ref xb, .ref xd, .ref xq, .ref xa, .ref xk, .ref xt, .ref xh, .ref xs, .ref xS, .ref xw, .ref xW, .ref xB, .ref xM, .long jf, .long js, .int jb, .long nf, .long ns, .int nb, .ref xf, .ref xg, .ref xi])), (xB, .inl (cI, 16, .inl (bs_fn (bs_E (fun j9 => bs_KK (176 * 0 + j9)) (lc_lg sc (12 * t9 + 2)) (lc_lg sc (12 * t9 + 4)))))), (xM, .inl (cI, 16, .inl mv2)), (xS, .inl (cI, 256, .inl (bs_fn bs_SB))), (xw, .inl (cI, 256, .inl (bs_fn bs_tX))), (xW, .inl (cI, 352, .inl (bs_fn bs_KK)))] wt) H := hP
        have hD : va_D A (xj_ap [(rk1, .inl (cI, 44, .inl bs_V1)), (bo, .inr (5, [.ref q, .ref km, .ref ka, .ref cs])), (q, .inr (0, [.ref sb, .ref co, .ref rk, .long (bs_e1 bs_CTf bs_SBf bs_V0 (lc_lg sc (12 * t9 + 2)) (lc_lg sc (12 * t9 + 4))), .long (bs_e2 bs_CTf bs_SBf bs_V0 (lc_lg sc (12 * t9 + 2)) (lc_lg sc (12 * t9 + 4))), .int bt])), (sb, .inl (cI, 256, .inl bs_SBf)), (co, .inl (cI, 256, .inl bs_CTf)), (rk, .inl (cR, 2, .inr (.inr (.inr (.inr (bs_gl [rk0, rk1])))))), (rk0, .inl (cI, 44, .inl bs_V0)), (ou, .inl (cL, 1, .inr (.inl (vp_updL fz 0 (if false then bs_e1 bs_CTf bs_SBf bs_V0 (lc_lg sc (12 * t9 + 2)) (lc_lg sc (12 * t9 + 4)) else bs_e2 bs_CTf bs_SBf bs_V0 (lc_lg sc (12 * t9 + 2)) (lc_lg sc (12 * t9 + 4))))))), (o, .inr (6, [.int (nI 0), .ref xv, .ref xo, .ref xn, .ref xc, .ref xb, .ref xd, .ref xq, .ref xa, .ref xk, .ref xt, .ref xh, .ref xs, .ref xS, .ref xw, .ref xW, .ref xB, .ref xM, .long jf, .long js, .int jb, .long nf, .long ns, .int nb, .ref xf, .ref xg, .ref xi])), (xB, .inl (cI, 16, .inl (bs_fn (bs_E (fun j9 => bs_KK (176 * 0 + j9)) (lc_lg sc (12 * t9 + 2)) (lc_lg sc (12 * t9 + 4)))))), (xM, .inl (cI, 16, .inl mv2)), (xS, .inl (cI, 256, .inl (bs_fn bs_SB))), (xw, .inl (cI, 256, .inl (bs_fn bs_tX))), (xW, .inl (cI, 352, .inl (bs_fn bs_KK)))] wt) := hD
        refine lv_lstore (lv' := [(6, .long (if false then bs_rd (bs_fn (bs_E (fun j9 => bs_KK (176 * 0 + j9)) (lc_lg sc (12 * t9 + 2)) (lc_lg sc (12 * t9 + 4)))) 0 8 else bs_rd (bs_fn (bs_E (fun j9 => bs_KK (176 * 0 + j9)) (lc_lg sc (12 * t9 + 2)) (lc_lg sc (12 * t9 + 4)))) 8 8)), (5, .int (nI 0)), (0, .ref b), (1, .ref bo), (2, .ref o), (3, .ref ou), (4, .int (nI (12 * t9)))]) hx hb dLW_law_1273 hl (by decide) rfl (fun ls hl => ?_)
        refine lv_aload_n hx hb dLW_law_1275 rfl (lv_at hl 4 rfl) ?_
        have hPc := hP.sub (ws' := [(o, .inr (6, [.int (nI 0), .ref xv, .ref xo, .ref xn, .ref xc, .ref xb, .ref xd, .ref xq, .ref xa, .ref xk, .ref xt, .ref xh, .ref xs, .ref xS, .ref xw, .ref xW, .ref xB, .ref xM, .long jf, .long js, .int jb, .long nf, .long ns, .int nb, .ref xf, .ref xg, .ref xi]))]) [8] rfl
        have hDc := hD.sub (ws' := [(o, .inr (6, [.int (nI 0), .ref xv, .ref xo, .ref xn, .ref xc, .ref xb, .ref xd, .ref xq, .ref xa, .ref xk, .ref xt, .ref xh, .ref xs, .ref xS, .ref xw, .ref xW, .ref xB, .ref xM, .long jf, .long js, .int jb, .long nf, .long ns, .int nb, .ref xf, .ref xg, .ref xi]))]) [8] (by decide) rfl
        have hKc := hK.sub (tys' := []) [] rfl
        have hFc := va_free (wc := [(o, .inr (6, [.int (nI 0), .ref xv, .ref xo, .ref xn, .ref xc, .ref xb, .ref xd, .ref xq, .ref xa, .ref xk, .ref xt, .ref xh, .ref xs, .ref xS, .ref xw, .ref xW, .ref xB, .ref xM, .long jf, .long js, .int jb, .long nf, .long ns, .int nb, .ref xf, .ref xg, .ref xi]))]) hD hS hA [8] rfl
        refine va_calli (va_runV (C := RMO) (As := []) (rest := []) ⟨hx, hb, hml, hown, hts⟩ (c_MO_thrown l dC dI H.size o xv xo xn xc xb xd xq xa xk xt xh xs xS xw xW xB xM xf xg xi (nI 0) jf js jb nf ns nb) (cwV (C := RMO) 0 hts (wT_4 w_m_LW_76 w_i_MO_thrown w_s_MO_thrown w_n_MO w_c_MO_thrown) rfl rfl rfl (by decide +kernel) ⟨Nat.le_of_ble_eq_true rfl, Nat.le_of_ble_eq_true rfl⟩) ⟨fun a U g mk q => by obtain ⟨q0, q1, qP, qK, qD⟩ := q; exact ⟨q0, q1, qP, va_K.moved (u := U) (U := U.calling g mk a) (Vm.Alike.refl U.vm) qK, qD⟩, va_recv hK hP (q0 := 8) (ci := 6) (q := (RMO, TMO, 27)) rfl rfl, fun U hU hW => ⟨rfl, by rw [hU], by rw [hU]; exact hPc, va_K.moved hW.alike hKc, hDc.weaken (fun _ _ _ _ => trivial)⟩⟩ rfl rfl hl.1 rfl (lv_room (Nat.le_of_ble_eq_true rfl)) dLW_law_1276 ⟨show k9 + 1 + 0 ≤ 601024 from by omega, show n9 + 6 + 0 ≤ 7293034 from by omega⟩) hS (fun q _ h => hFc q h) hFc (fun r u t H1 locs ht hvm hw hB hz1 hk1 hS => ?_)
        obtain ⟨hP1, hK1, hD1⟩ := hB
        rw [ht] at hP1
        have hK1 := va_K.moved hvm.symm hK1
        have hw : r = nI 0 := hw
        rw [hw]
        obtain ⟨hP, hD⟩ := xj_join (wt := wt) (wr := [(rk1, .inl (cI, 44, .inl bs_V1)), (bo, .inr (5, [.ref q, .ref km, .ref ka, .ref cs])), (q, .inr (0, [.ref sb, .ref co, .ref rk, .long (bs_e1 bs_CTf bs_SBf bs_V0 (lc_lg sc (12 * t9 + 2)) (lc_lg sc (12 * t9 + 4))), .long (bs_e2 bs_CTf bs_SBf bs_V0 (lc_lg sc (12 * t9 + 2)) (lc_lg sc (12 * t9 + 4))), .int bt])), (sb, .inl (cI, 256, .inl bs_SBf)), (co, .inl (cI, 256, .inl bs_CTf)), (rk, .inl (cR, 2, .inr (.inr (.inr (.inr (bs_gl [rk0, rk1])))))), (rk0, .inl (cI, 44, .inl bs_V0)), (ou, .inl (cL, 1, .inr (.inl (vp_updL fz 0 (if false then bs_e1 bs_CTf bs_SBf bs_V0 (lc_lg sc (12 * t9 + 2)) (lc_lg sc (12 * t9 + 4)) else bs_e2 bs_CTf bs_SBf bs_V0 (lc_lg sc (12 * t9 + 2)) (lc_lg sc (12 * t9 + 4))))))), (xB, .inl (cI, 16, .inl (bs_fn (bs_E (fun j9 => bs_KK (176 * 0 + j9)) (lc_lg sc (12 * t9 + 2)) (lc_lg sc (12 * t9 + 4)))))), (xM, .inl (cI, 16, .inl mv2)), (xS, .inl (cI, 256, .inl (bs_fn bs_SB))), (xw, .inl (cI, 256, .inl (bs_fn bs_tX))), (xW, .inl (cI, 352, .inl (bs_fn bs_KK)))]) (w1 := [(o, .inr (6, [.int (nI 0), .ref xv, .ref xo, .ref xn, .ref xc, .ref xb, .ref xd, .ref xq, .ref xa, .ref xk, .ref xt, .ref xh, .ref xs, .ref xS, .ref xw, .ref xW, .ref xB, .ref xM, .long jf, .long js, .int jb, .long nf, .long ns, .int nb, .ref xf, .ref xg, .ref xi]))]) hP hD [8] [0, 1, 2, 3, 4, 5, 6, 7, 9, 10, 11, 12, 13] rfl rfl (by decide) (by decide) hk1 hFc hP1 hD1
        generalize H1 = H at hP hS ⊢
        have hP : va_P (dC, dI) vwCl (xj_ap [(rk1, .inl (cI, 44, .inl bs_V1)), (bo, .inr (5, [.ref q, .ref km, .ref ka, .ref cs])), (q, .inr (0, [.ref sb, .ref co, .ref rk, .long (bs_e1 bs_CTf bs_SBf bs_V0 (lc_lg sc (12 * t9 + 2)) (lc_lg sc (12 * t9 + 4))), .long (bs_e2 bs_CTf bs_SBf bs_V0 (lc_lg sc (12 * t9 + 2)) (lc_lg sc (12 * t9 + 4))), .int bt])), (sb, .inl (cI, 256, .inl bs_SBf)), (co, .inl (cI, 256, .inl bs_CTf)), (rk, .inl (cR, 2, .inr (.inr (.inr (.inr (bs_gl [rk0, rk1])))))), (rk0, .inl (cI, 44, .inl bs_V0)), (ou, .inl (cL, 1, .inr (.inl (vp_updL fz 0 (if false then bs_e1 bs_CTf bs_SBf bs_V0 (lc_lg sc (12 * t9 + 2)) (lc_lg sc (12 * t9 + 4)) else bs_e2 bs_CTf bs_SBf bs_V0 (lc_lg sc (12 * t9 + 2)) (lc_lg sc (12 * t9 + 4))))))), (xB, .inl (cI, 16, .inl (bs_fn (bs_E (fun j9 => bs_KK (176 * 0 + j9)) (lc_lg sc (12 * t9 + 2)) (lc_lg sc (12 * t9 + 4)))))), (xM, .inl (cI, 16, .inl mv2)), (xS, .inl (cI, 256, .inl (bs_fn bs_SB))), (xw, .inl (cI, 256, .inl (bs_fn bs_tX))), (xW, .inl (cI, 352, .inl (bs_fn bs_KK))), (o, .inr (6, [.int (nI 0), .ref xv, .ref xo, .ref xn, .ref xc, .ref xb, .ref xd, .ref xq, .ref xa, .ref xk, .ref xt, .ref xh, .ref xs, .ref xS, .ref xw, .ref xW, .ref xB, .ref xM, .long jf, .long js, .int jb, .long nf, .long ns, .int nb, .ref xf, .ref xg, .ref xi]))] wt) H := hP
        have hD : va_D A (xj_ap [(rk1, .inl (cI, 44, .inl bs_V1)), (bo, .inr (5, [.ref q, .ref km, .ref ka, .ref cs])), (q, .inr (0, [.ref sb, .ref co, .ref rk, .long (bs_e1 bs_CTf bs_SBf bs_V0 (lc_lg sc (12 * t9 + 2)) (lc_lg sc (12 * t9 + 4))), .long (bs_e2 bs_CTf bs_SBf bs_V0 (lc_lg sc (12 * t9 + 2)) (lc_lg sc (12 * t9 + 4))), .int bt])), (sb, .inl (cI, 256, .inl bs_SBf)), (co, .inl (cI, 256, .inl bs_CTf)), (rk, .inl (cR, 2, .inr (.inr (.inr (.inr (bs_gl [rk0, rk1])))))), (rk0, .inl (cI, 44, .inl bs_V0)), (ou, .inl (cL, 1, .inr (.inl (vp_updL fz 0 (if false then bs_e1 bs_CTf bs_SBf bs_V0 (lc_lg sc (12 * t9 + 2)) (lc_lg sc (12 * t9 + 4)) else bs_e2 bs_CTf bs_SBf bs_V0 (lc_lg sc (12 * t9 + 2)) (lc_lg sc (12 * t9 + 4))))))), (xB, .inl (cI, 16, .inl (bs_fn (bs_E (fun j9 => bs_KK (176 * 0 + j9)) (lc_lg sc (12 * t9 + 2)) (lc_lg sc (12 * t9 + 4)))))), (xM, .inl (cI, 16, .inl mv2)), (xS, .inl (cI, 256, .inl (bs_fn bs_SB))), (xw, .inl (cI, 256, .inl (bs_fn bs_tX))), (xW, .inl (cI, 352, .inl (bs_fn bs_KK))), (o, .inr (6, [.int (nI 0), .ref xv, .ref xo, .ref xn, .ref xc, .ref xb, .ref xd, .ref xq, .ref xa, .ref xk, .ref xt, .ref xh, .ref xs, .ref xS, .ref xw, .ref xW, .ref xB, .ref xM, .long jf, .long js, .int jb, .long nf, .long ns, .int nb, .ref xf, .ref xg, .ref xi]))] wt) := hD
        refine lv_iload hx hb dLW_law_1279 (lv_at hl 1 rfl) ?_
        refine lv_icmp_eq (tgt := 1286) hx hb dLW_law_1281 (by decide) (fun _ => ?_) (fun h => absurd (rfl) h)
        refine lv_iload hx hb dLW_law_1286 (lv_at hl 1 rfl) ?_
        refine lv_if_ne (tgt := 1302) hx hb dLW_law_1288 (by decide) (fun h => absurd (by decide +kernel) h) (fun _ => ?_)
        refine lv_aload_n hx hb dLW_law_1291 rfl (lv_at hl 5 rfl) ?_
        refine lv_iconst (v := nI 0) hx hb dLW_law_1292 (by decide) ?_
        refine xa_lald hx hb hK hP 7 1 rfl rfl 0 (by omega) (by decide) dLW_law_1293 ?_
        refine xt_l (y := (if false then bs_e1 bs_CTf bs_SBf bs_V0 (lc_lg sc (12 * t9 + 2)) (lc_lg sc (12 * t9 + 4)) else bs_e2 bs_CTf bs_SBf bs_V0 (lc_lg sc (12 * t9 + 2)) (lc_lg sc (12 * t9 + 4)))) (pk_uLs) ?_
        refine lv_lload hx hb dLW_law_1294 (lv_at hl 0 rfl) ?_
        refine W.lcmp hx hb dLW_law_1296 ?_
        refine lv_if_eq (tgt := 1302) hx hb dLW_law_1297 (by decide) (fun _ => ?_) (fun h => absurd ((lg_cmp_eq _ _).mpr (by rw [if_neg (by decide), if_neg (by decide)]; exact (bs_enc_eq (K := bs_Kx bs_KK 0) (fun j => bs_KK_lt _) (lc_lg sc (12 * t9 + 2)) (lc_lg sc (12 * t9 + 4))).2)) h)
        refine lv_goto (tgt := 1342) hx hb dLW_law_1302 (by decide) ?_
        have hP := xj_subP (ws' := [(bo, .inr (5, [.ref q, .ref km, .ref ka, .ref cs])), (q, .inr (0, [.ref sb, .ref co, .ref rk, .long (bs_e1 bs_CTf bs_SBf bs_V0 (lc_lg sc (12 * t9 + 2)) (lc_lg sc (12 * t9 + 4))), .long (bs_e2 bs_CTf bs_SBf bs_V0 (lc_lg sc (12 * t9 + 2)) (lc_lg sc (12 * t9 + 4))), .int bt])), (sb, .inl (cI, 256, .inl bs_SBf)), (co, .inl (cI, 256, .inl bs_CTf)), (rk, .inl (cR, 2, .inr (.inr (.inr (.inr (bs_gl [rk0, rk1])))))), (rk0, .inl (cI, 44, .inl bs_V0)), (rk1, .inl (cI, 44, .inl bs_V1)), (o, .inr (6, [.int (nI 0), .ref xv, .ref xo, .ref xn, .ref xc, .ref xb, .ref xd, .ref xq, .ref xa, .ref xk, .ref xt, .ref xh, .ref xs, .ref xS, .ref xw, .ref xW, .ref xB, .ref xM, .long jf, .long js, .int jb, .long nf, .long ns, .int nb, .ref xf, .ref xg, .ref xi])), (xB, .inl (cI, 16, .inl (bs_fn (bs_E (fun j9 => bs_KK (176 * 0 + j9)) (lc_lg sc (12 * t9 + 2)) (lc_lg sc (12 * t9 + 4)))))), (xM, .inl (cI, 16, .inl mv2)), (xS, .inl (cI, 256, .inl (bs_fn bs_SB))), (xw, .inl (cI, 256, .inl (bs_fn bs_tX))), (xW, .inl (cI, 352, .inl (bs_fn bs_KK))), (ou, .inl (cL, 1, .inr (.inl (vp_updL fz 0 (if false then bs_e1 bs_CTf bs_SBf bs_V0 (lc_lg sc (12 * t9 + 2)) (lc_lg sc (12 * t9 + 4)) else bs_e2 bs_CTf bs_SBf bs_V0 (lc_lg sc (12 * t9 + 2)) (lc_lg sc (12 * t9 + 4)))))))]) hP [1, 2, 3, 4, 5, 6, 0, 13, 8, 9, 10, 11, 12, 7] rfl
        have hD := xj_subD (ws' := [(bo, .inr (5, [.ref q, .ref km, .ref ka, .ref cs])), (q, .inr (0, [.ref sb, .ref co, .ref rk, .long (bs_e1 bs_CTf bs_SBf bs_V0 (lc_lg sc (12 * t9 + 2)) (lc_lg sc (12 * t9 + 4))), .long (bs_e2 bs_CTf bs_SBf bs_V0 (lc_lg sc (12 * t9 + 2)) (lc_lg sc (12 * t9 + 4))), .int bt])), (sb, .inl (cI, 256, .inl bs_SBf)), (co, .inl (cI, 256, .inl bs_CTf)), (rk, .inl (cR, 2, .inr (.inr (.inr (.inr (bs_gl [rk0, rk1])))))), (rk0, .inl (cI, 44, .inl bs_V0)), (rk1, .inl (cI, 44, .inl bs_V1)), (o, .inr (6, [.int (nI 0), .ref xv, .ref xo, .ref xn, .ref xc, .ref xb, .ref xd, .ref xq, .ref xa, .ref xk, .ref xt, .ref xh, .ref xs, .ref xS, .ref xw, .ref xW, .ref xB, .ref xM, .long jf, .long js, .int jb, .long nf, .long ns, .int nb, .ref xf, .ref xg, .ref xi])), (xB, .inl (cI, 16, .inl (bs_fn (bs_E (fun j9 => bs_KK (176 * 0 + j9)) (lc_lg sc (12 * t9 + 2)) (lc_lg sc (12 * t9 + 4)))))), (xM, .inl (cI, 16, .inl mv2)), (xS, .inl (cI, 256, .inl (bs_fn bs_SB))), (xw, .inl (cI, 256, .inl (bs_fn bs_tX))), (xW, .inl (cI, 352, .inl (bs_fn bs_KK))), (ou, .inl (cL, 1, .inr (.inl (vp_updL fz 0 (if false then bs_e1 bs_CTf bs_SBf bs_V0 (lc_lg sc (12 * t9 + 2)) (lc_lg sc (12 * t9 + 4)) else bs_e2 bs_CTf bs_SBf bs_V0 (lc_lg sc (12 * t9 + 2)) (lc_lg sc (12 * t9 + 4)))))))]) hD [1, 2, 3, 4, 5, 6, 0, 13, 8, 9, 10, 11, 12, 7] (by decide) rfl
        have hP : va_P (dC, dI) vwCl (xj_ap [(bo, .inr (5, [.ref q, .ref km, .ref ka, .ref cs])), (q, .inr (0, [.ref sb, .ref co, .ref rk, .long (bs_e1 bs_CTf bs_SBf bs_V0 (lc_lg sc (12 * t9 + 2)) (lc_lg sc (12 * t9 + 4))), .long (bs_e2 bs_CTf bs_SBf bs_V0 (lc_lg sc (12 * t9 + 2)) (lc_lg sc (12 * t9 + 4))), .int bt])), (sb, .inl (cI, 256, .inl bs_SBf)), (co, .inl (cI, 256, .inl bs_CTf)), (rk, .inl (cR, 2, .inr (.inr (.inr (.inr (bs_gl [rk0, rk1])))))), (rk0, .inl (cI, 44, .inl bs_V0)), (rk1, .inl (cI, 44, .inl bs_V1)), (o, .inr (6, [.int (nI 0), .ref xv, .ref xo, .ref xn, .ref xc, .ref xb, .ref xd, .ref xq, .ref xa, .ref xk, .ref xt, .ref xh, .ref xs, .ref xS, .ref xw, .ref xW, .ref xB, .ref xM, .long jf, .long js, .int jb, .long nf, .long ns, .int nb, .ref xf, .ref xg, .ref xi])), (xB, .inl (cI, 16, .inl (bs_fn (bs_E (fun j9 => bs_KK (176 * 0 + j9)) (lc_lg sc (12 * t9 + 2)) (lc_lg sc (12 * t9 + 4)))))), (xM, .inl (cI, 16, .inl mv2)), (xS, .inl (cI, 256, .inl (bs_fn bs_SB))), (xw, .inl (cI, 256, .inl (bs_fn bs_tX))), (xW, .inl (cI, 352, .inl (bs_fn bs_KK))), (ou, .inl (cL, 1, .inr (.inl (vp_updL fz 0 (if false then bs_e1 bs_CTf bs_SBf bs_V0 (lc_lg sc (12 * t9 + 2)) (lc_lg sc (12 * t9 + 4)) else bs_e2 bs_CTf bs_SBf bs_V0 (lc_lg sc (12 * t9 + 2)) (lc_lg sc (12 * t9 + 4)))))))] wt) H := hP
        have hD : va_D A (xj_ap [(bo, .inr (5, [.ref q, .ref km, .ref ka, .ref cs])), (q, .inr (0, [.ref sb, .ref co, .ref rk, .long (bs_e1 bs_CTf bs_SBf bs_V0 (lc_lg sc (12 * t9 + 2)) (lc_lg sc (12 * t9 + 4))), .long (bs_e2 bs_CTf bs_SBf bs_V0 (lc_lg sc (12 * t9 + 2)) (lc_lg sc (12 * t9 + 4))), .int bt])), (sb, .inl (cI, 256, .inl bs_SBf)), (co, .inl (cI, 256, .inl bs_CTf)), (rk, .inl (cR, 2, .inr (.inr (.inr (.inr (bs_gl [rk0, rk1])))))), (rk0, .inl (cI, 44, .inl bs_V0)), (rk1, .inl (cI, 44, .inl bs_V1)), (o, .inr (6, [.int (nI 0), .ref xv, .ref xo, .ref xn, .ref xc, .ref xb, .ref xd, .ref xq, .ref xa, .ref xk, .ref xt, .ref xh, .ref xs, .ref xS, .ref xw, .ref xW, .ref xB, .ref xM, .long jf, .long js, .int jb, .long nf, .long ns, .int nb, .ref xf, .ref xg, .ref xi])), (xB, .inl (cI, 16, .inl (bs_fn (bs_E (fun j9 => bs_KK (176 * 0 + j9)) (lc_lg sc (12 * t9 + 2)) (lc_lg sc (12 * t9 + 4)))))), (xM, .inl (cI, 16, .inl mv2)), (xS, .inl (cI, 256, .inl (bs_fn bs_SB))), (xw, .inl (cI, 256, .inl (bs_fn bs_tX))), (xW, .inl (cI, 352, .inl (bs_fn bs_KK))), (ou, .inl (cL, 1, .inr (.inl (vp_updL fz 0 (if false then bs_e1 bs_CTf bs_SBf bs_V0 (lc_lg sc (12 * t9 + 2)) (lc_lg sc (12 * t9 + 4)) else bs_e2 bs_CTf bs_SBf bs_V0 (lc_lg sc (12 * t9 + 2)) (lc_lg sc (12 * t9 + 4)))))))] wt) := hD
        have hl := lv_sub hl (l' := [(0, .ref b), (1, .ref bo), (2, .ref o), (3, .ref ou), (4, .int (nI (12 * t9)))]) [2, 3, 4, 5, 6] rfl
        exact hk (bs_e1 bs_CTf bs_SBf bs_V0 (lc_lg sc (12 * t9 + 2)) (lc_lg sc (12 * t9 + 4))) (bs_e2 bs_CTf bs_SBf bs_V0 (lc_lg sc (12 * t9 + 2)) (lc_lg sc (12 * t9 + 4))) (bs_fn (bs_E (fun j9 => bs_KK (176 * 0 + j9)) (lc_lg sc (12 * t9 + 2)) (lc_lg sc (12 * t9 + 4)))) mv2 (nI 0) (vp_updL fz 0 (if false then bs_e1 bs_CTf bs_SBf bs_V0 (lc_lg sc (12 * t9 + 2)) (lc_lg sc (12 * t9 + 4)) else bs_e2 bs_CTf bs_SBf bs_V0 (lc_lg sc (12 * t9 + 2)) (lc_lg sc (12 * t9 + 4)))) H _ ls (hJ) hP hD hS hl
      · refine lv_aload_n hx hb dLW_law_1132 rfl (lv_at hl 1 rfl) ?_
        refine lv_aload_n hx hb dLW_law_1133 rfl (lv_at hl 0 rfl) ?_
        refine lv_iload hx hb dLW_law_1134 (lv_at hl 4 rfl) ?_
        refine lv_iconst (v := nI 1) hx hb dLW_law_1136 (by decide) ?_
        refine lv_iadd hx hb dLW_law_1137 ?_
        refine xt_i (y := nI (12 * t9 + 1)) (nI_add _ _) ?_
        refine xs_ld hx hb hXs hbl hbA (Nat.lt_of_le_of_lt hL (by decide)) hS (12 * t9 + 1) (by omega) dLW_law_1138 ?_
        refine xt_i (y := nI 1) (hxe) ?_
        refine lv_aload_n hx hb dLW_law_1139 rfl (lv_at hl 0 rfl) ?_
        refine lv_iload hx hb dLW_law_1140 (lv_at hl 4 rfl) ?_
        refine lv_iconst (v := nI 2) hx hb dLW_law_1142 (by decide) ?_
        refine lv_iadd hx hb dLW_law_1143 ?_
        refine xt_i (y := nI (12 * t9 + 2)) (nI_add _ _) ?_
        refine xs_ld hx hb hXs hbl hbA (Nat.lt_of_le_of_lt hL (by decide)) hS (12 * t9 + 2) (by omega) dLW_law_1144 ?_
        refine lv_i2l (v := (sc (12 * t9 + 2)).toInt64) hx hb dLW_law_1145 rfl ?_
        refine lv_bipush (v := nI 32) hx hb dLW_law_1146 (by decide) ?_
        refine lv_lshl (v := j_lshl ((sc (12 * t9 + 2)).toInt64) (nI 32)) hx hb dLW_law_1148 rfl ?_
        refine lv_aload_n hx hb dLW_law_1149 rfl (lv_at hl 0 rfl) ?_
        refine lv_iload hx hb dLW_law_1150 (lv_at hl 4 rfl) ?_
        refine lv_iconst (v := nI 3) hx hb dLW_law_1152 (by decide) ?_
        refine lv_iadd hx hb dLW_law_1153 ?_
        refine xt_i (y := nI (12 * t9 + 3)) (nI_add _ _) ?_
        refine xs_ld hx hb hXs hbl hbA (Nat.lt_of_le_of_lt hL (by decide)) hS (12 * t9 + 3) (by omega) dLW_law_1154 ?_
        refine lv_i2l (v := (sc (12 * t9 + 3)).toInt64) hx hb dLW_law_1155 rfl ?_
        refine lv_ldc2 (v := 4294967295) hx hb hown (hts _ w_j_LW_68) dLW_law_1156 ?_
        refine lv_land hx hb dLW_law_1159 ?_
        refine lv_lor hx hb dLW_law_1160 ?_
        refine xt_l (y := lc_lg sc (12 * t9 + 2)) (rfl) ?_
        refine lv_aload_n hx hb dLW_law_1161 rfl (lv_at hl 0 rfl) ?_
        refine lv_iload hx hb dLW_law_1162 (lv_at hl 4 rfl) ?_
        refine lv_iconst (v := nI 4) hx hb dLW_law_1164 (by decide) ?_
        refine lv_iadd hx hb dLW_law_1165 ?_
        refine xt_i (y := nI (12 * t9 + 4)) (nI_add _ _) ?_
        refine xs_ld hx hb hXs hbl hbA (Nat.lt_of_le_of_lt hL (by decide)) hS (12 * t9 + 4) (by omega) dLW_law_1166 ?_
        refine lv_i2l (v := (sc (12 * t9 + 4)).toInt64) hx hb dLW_law_1167 rfl ?_
        refine lv_bipush (v := nI 32) hx hb dLW_law_1168 (by decide) ?_
        refine lv_lshl (v := j_lshl ((sc (12 * t9 + 4)).toInt64) (nI 32)) hx hb dLW_law_1170 rfl ?_
        refine lv_aload_n hx hb dLW_law_1171 rfl (lv_at hl 0 rfl) ?_
        refine lv_iload hx hb dLW_law_1172 (lv_at hl 4 rfl) ?_
        refine lv_iconst (v := nI 5) hx hb dLW_law_1174 (by decide) ?_
        refine lv_iadd hx hb dLW_law_1175 ?_
        refine xt_i (y := nI (12 * t9 + 5)) (nI_add _ _) ?_
        refine xs_ld hx hb hXs hbl hbA (Nat.lt_of_le_of_lt hL (by decide)) hS (12 * t9 + 5) (by omega) dLW_law_1176 ?_
        refine lv_i2l (v := (sc (12 * t9 + 5)).toInt64) hx hb dLW_law_1177 rfl ?_
        refine lv_ldc2 (v := 4294967295) hx hb hown (hts _ w_j_LW_68) dLW_law_1178 ?_
        refine lv_land hx hb dLW_law_1181 ?_
        refine lv_lor hx hb dLW_law_1182 ?_
        refine xt_l (y := lc_lg sc (12 * t9 + 4)) (rfl) ?_
        refine lv_aload_n hx hb dLW_law_1183 rfl (lv_at hl 0 rfl) ?_
        refine lv_iload hx hb dLW_law_1184 (lv_at hl 4 rfl) ?_
        refine lv_bipush (v := nI 6) hx hb dLW_law_1186 (by decide) ?_
        refine lv_iadd hx hb dLW_law_1188 ?_
        refine xt_i (y := nI (12 * t9 + 6)) (nI_add _ _) ?_
        refine xs_ld hx hb hXs hbl hbA (Nat.lt_of_le_of_lt hL (by decide)) hS (12 * t9 + 6) (by omega) dLW_law_1189 ?_
        refine lv_if_eq (tgt := 1197) hx hb dLW_law_1190 (by decide) (fun _ => ?_) (fun h => absurd (h6) h)
        refine lv_iconst (v := nI 0) hx hb dLW_law_1197 (by decide) ?_
        refine xt_i (y := bs_z false) (rfl) ?_
        refine lv_aload_n hx hb dLW_law_1198 rfl (lv_at hl 3 rfl) ?_
        have hPc := hP.sub (ws' := [(bo, .inr (5, [.ref q, .ref km, .ref ka, .ref cs])), (q, .inr (0, [.ref sb, .ref co, .ref rk, .long f1, .long f2, .int bt])), (sb, .inl (cI, 256, .inl bs_SBf)), (co, .inl (cI, 256, .inl bs_CTf)), (rk, .inl (cR, 2, .inr (.inr (.inr (.inr (bs_gl [rk0, rk1])))))), (rk1, .inl (cI, 44, .inl bs_V1)), (ou, .inl (cL, 1, .inr (.inl fz)))]) [0, 1, 2, 3, 4, 6, 13] rfl
        have hDc := hD.sub (ws' := [(bo, .inr (5, [.ref q, .ref km, .ref ka, .ref cs])), (q, .inr (0, [.ref sb, .ref co, .ref rk, .long f1, .long f2, .int bt])), (sb, .inl (cI, 256, .inl bs_SBf)), (co, .inl (cI, 256, .inl bs_CTf)), (rk, .inl (cR, 2, .inr (.inr (.inr (.inr (bs_gl [rk0, rk1])))))), (rk1, .inl (cI, 44, .inl bs_V1)), (ou, .inl (cL, 1, .inr (.inl fz)))]) [0, 1, 2, 3, 4, 6, 13] (by decide) rfl
        have hKc := hK.sub (tys' := [(cI, .int), (cR, .array .int), (cL, .long)]) [0, 3, 1] rfl
        have hFc := va_free (wc := [(bo, .inr (5, [.ref q, .ref km, .ref ka, .ref cs])), (q, .inr (0, [.ref sb, .ref co, .ref rk, .long f1, .long f2, .int bt])), (sb, .inl (cI, 256, .inl bs_SBf)), (co, .inl (cI, 256, .inl bs_CTf)), (rk, .inl (cR, 2, .inr (.inr (.inr (.inr (bs_gl [rk0, rk1])))))), (rk1, .inl (cI, 44, .inl bs_V1)), (ou, .inl (cL, 1, .inr (.inl fz)))]) hD hS hA [0, 1, 2, 3, 4, 6, 13] rfl
        refine va_calli (xs_runW (n := 6) (hh := [(0, 14, 17, 13)]) (As := [.ref bo, .int (nI 1), .long (lc_lg sc (12 * t9 + 2)), .long (lc_lg sc (12 * t9 + 4)), .int (bs_z false), .ref ou]) (rest := []) ⟨hx, hb, hml, hown, hts⟩ (c_LW_cipher_y l dC dI H.size bo km ka cs q sb co rk rk1 cI cR bs_SBf bs_CTf (bs_gl [rk0, rk1]) bs_V1 1 (lc_lg sc (12 * t9 + 2)) (lc_lg sc (12 * t9 + 4)) f1 f2 bt false cL ou fz (by decide) rfl) (wT_3 w_m_LW_124 w_t_LW_cipher w_n_LW w_c_LW_cipher) rfl rfl rfl (by decide +kernel) ⟨Nat.le_of_ble_eq_true rfl, Nat.le_of_ble_eq_true rfl⟩ ⟨fun a U g mk q => by obtain ⟨q0, q1, qP, qK, qD⟩ := q; exact ⟨q0, q1, qP, va_K.moved (u := U) (U := U.calling g mk a) (Vm.Alike.refl U.vm) qK, qD⟩, fun U hU hW => ⟨rfl, by rw [hU], by rw [hU]; exact hPc, va_K.moved hW.alike hKc, hDc.weaken (fun _ _ _ _ => trivial)⟩⟩ rfl rfl hl.1 rfl (lv_room (Nat.le_of_ble_eq_true rfl)) dLW_law_1199 ⟨show k9 + 1 ≤ 601024 from by omega, show n9 + 6 ≤ 7293034 from by omega⟩) hS (fun q _ h => hFc q h) hFc (fun r u t H1 locs ht hvm hw hB hz1 hk1 hS => ?_)
        obtain ⟨hP1, hK1, hD1⟩ := hB
        rw [ht] at hP1
        have hK1 := va_K.moved hvm.symm hK1
        have hw : r = nI 0 := hw
        rw [hw]
        obtain ⟨hP, hD⟩ := xj_join (wt := wt) (wr := [(rk0, .inl (cI, 44, .inl bs_V0)), (o, .inr (6, [.int th, .ref xv, .ref xo, .ref xn, .ref xc, .ref xb, .ref xd, .ref xq, .ref xa, .ref xk, .ref xt, .ref xh, .ref xs, .ref xS, .ref xw, .ref xW, .ref xB, .ref xM, .long jf, .long js, .int jb, .long nf, .long ns, .int nb, .ref xf, .ref xg, .ref xi])), (xB, .inl (cI, 16, .inl bl)), (xM, .inl (cI, 16, .inl mv)), (xS, .inl (cI, 256, .inl (bs_fn bs_SB))), (xw, .inl (cI, 256, .inl (bs_fn bs_tX))), (xW, .inl (cI, 352, .inl (bs_fn bs_KK)))]) (w1 := [(bo, .inr (5, [.ref q, .ref km, .ref ka, .ref cs])), (q, .inr (0, [.ref sb, .ref co, .ref rk, .long (bs_e1 bs_CTf bs_SBf bs_V1 (lc_lg sc (12 * t9 + 2)) (lc_lg sc (12 * t9 + 4))), .long (bs_e2 bs_CTf bs_SBf bs_V1 (lc_lg sc (12 * t9 + 2)) (lc_lg sc (12 * t9 + 4))), .int bt])), (sb, .inl (cI, 256, .inl bs_SBf)), (co, .inl (cI, 256, .inl bs_CTf)), (rk, .inl (cR, 2, .inr (.inr (.inr (.inr (bs_gl [rk0, rk1])))))), (rk1, .inl (cI, 44, .inl bs_V1)), (ou, .inl (cL, 1, .inr (.inl (vp_updL fz 0 (if false then bs_e1 bs_CTf bs_SBf bs_V1 (lc_lg sc (12 * t9 + 2)) (lc_lg sc (12 * t9 + 4)) else bs_e2 bs_CTf bs_SBf bs_V1 (lc_lg sc (12 * t9 + 2)) (lc_lg sc (12 * t9 + 4)))))))]) hP hD [0, 1, 2, 3, 4, 6, 13] [5, 7, 8, 9, 10, 11, 12] rfl rfl (by decide) (by decide) hk1 hFc hP1 hD1
        generalize H1 = H at hP hS ⊢
        have hP : va_P (dC, dI) vwCl (xj_ap [(rk0, .inl (cI, 44, .inl bs_V0)), (o, .inr (6, [.int th, .ref xv, .ref xo, .ref xn, .ref xc, .ref xb, .ref xd, .ref xq, .ref xa, .ref xk, .ref xt, .ref xh, .ref xs, .ref xS, .ref xw, .ref xW, .ref xB, .ref xM, .long jf, .long js, .int jb, .long nf, .long ns, .int nb, .ref xf, .ref xg, .ref xi])), (xB, .inl (cI, 16, .inl bl)), (xM, .inl (cI, 16, .inl mv)), (xS, .inl (cI, 256, .inl (bs_fn bs_SB))), (xw, .inl (cI, 256, .inl (bs_fn bs_tX))), (xW, .inl (cI, 352, .inl (bs_fn bs_KK))), (bo, .inr (5, [.ref q, .ref km, .ref ka, .ref cs])), (q, .inr (0, [.ref sb, .ref co, .ref rk, .long (bs_e1 bs_CTf bs_SBf bs_V1 (lc_lg sc (12 * t9 + 2)) (lc_lg sc (12 * t9 + 4))), .long (bs_e2 bs_CTf bs_SBf bs_V1 (lc_lg sc (12 * t9 + 2)) (lc_lg sc (12 * t9 + 4))), .int bt])), (sb, .inl (cI, 256, .inl bs_SBf)), (co, .inl (cI, 256, .inl bs_CTf)), (rk, .inl (cR, 2, .inr (.inr (.inr (.inr (bs_gl [rk0, rk1])))))), (rk1, .inl (cI, 44, .inl bs_V1)), (ou, .inl (cL, 1, .inr (.inl (vp_updL fz 0 (if false then bs_e1 bs_CTf bs_SBf bs_V1 (lc_lg sc (12 * t9 + 2)) (lc_lg sc (12 * t9 + 4)) else bs_e2 bs_CTf bs_SBf bs_V1 (lc_lg sc (12 * t9 + 2)) (lc_lg sc (12 * t9 + 4)))))))] wt) H := hP
        have hD : va_D A (xj_ap [(rk0, .inl (cI, 44, .inl bs_V0)), (o, .inr (6, [.int th, .ref xv, .ref xo, .ref xn, .ref xc, .ref xb, .ref xd, .ref xq, .ref xa, .ref xk, .ref xt, .ref xh, .ref xs, .ref xS, .ref xw, .ref xW, .ref xB, .ref xM, .long jf, .long js, .int jb, .long nf, .long ns, .int nb, .ref xf, .ref xg, .ref xi])), (xB, .inl (cI, 16, .inl bl)), (xM, .inl (cI, 16, .inl mv)), (xS, .inl (cI, 256, .inl (bs_fn bs_SB))), (xw, .inl (cI, 256, .inl (bs_fn bs_tX))), (xW, .inl (cI, 352, .inl (bs_fn bs_KK))), (bo, .inr (5, [.ref q, .ref km, .ref ka, .ref cs])), (q, .inr (0, [.ref sb, .ref co, .ref rk, .long (bs_e1 bs_CTf bs_SBf bs_V1 (lc_lg sc (12 * t9 + 2)) (lc_lg sc (12 * t9 + 4))), .long (bs_e2 bs_CTf bs_SBf bs_V1 (lc_lg sc (12 * t9 + 2)) (lc_lg sc (12 * t9 + 4))), .int bt])), (sb, .inl (cI, 256, .inl bs_SBf)), (co, .inl (cI, 256, .inl bs_CTf)), (rk, .inl (cR, 2, .inr (.inr (.inr (.inr (bs_gl [rk0, rk1])))))), (rk1, .inl (cI, 44, .inl bs_V1)), (ou, .inl (cL, 1, .inr (.inl (vp_updL fz 0 (if false then bs_e1 bs_CTf bs_SBf bs_V1 (lc_lg sc (12 * t9 + 2)) (lc_lg sc (12 * t9 + 4)) else bs_e2 bs_CTf bs_SBf bs_V1 (lc_lg sc (12 * t9 + 2)) (lc_lg sc (12 * t9 + 4)))))))] wt) := hD
        refine lv_istore (lv' := [(5, .int (nI 0)), (0, .ref b), (1, .ref bo), (2, .ref o), (3, .ref ou), (4, .int (nI (12 * t9)))]) hx hb dLW_law_1202 hl (by decide) rfl (fun ls hl => ?_)
        refine lv_aload_n hx hb dLW_law_1204 rfl (lv_at hl 3 rfl) ?_
        refine lv_aload_n hx hb dLW_law_1205 rfl (lv_at hl 1 rfl) ?_
        refine lv_iload hx hb dLW_law_1206 (lv_at hl 5 rfl) ?_
        refine lv_iconst (v := nI 1) hx hb dLW_law_1208 (by decide) ?_
        refine lv_iadd hx hb dLW_law_1209 ?_
        refine xt_i (y := nI (12 * t9 + 1)) (nI_add _ _) ?_
        refine xs_ld hx hb hXs hbl hbA (Nat.lt_of_le_of_lt hL (by decide)) hS (12 * t9 + 1) (by omega) dLW_law_1210 ?_
        refine xt_i (y := nI 1) (hxe) ?_
        refine lv_aload_n hx hb dLW_law_1211 rfl (lv_at hl 1 rfl) ?_
        refine lv_iload hx hb dLW_law_1212 (lv_at hl 5 rfl) ?_
        refine lv_iconst (v := nI 2) hx hb dLW_law_1214 (by decide) ?_
        refine lv_iadd hx hb dLW_law_1215 ?_
        refine xt_i (y := nI (12 * t9 + 2)) (nI_add _ _) ?_
        refine xs_ld hx hb hXs hbl hbA (Nat.lt_of_le_of_lt hL (by decide)) hS (12 * t9 + 2) (by omega) dLW_law_1216 ?_
        refine lv_i2l (v := (sc (12 * t9 + 2)).toInt64) hx hb dLW_law_1217 rfl ?_
        refine lv_bipush (v := nI 32) hx hb dLW_law_1218 (by decide) ?_
        refine lv_lshl (v := j_lshl ((sc (12 * t9 + 2)).toInt64) (nI 32)) hx hb dLW_law_1220 rfl ?_
        refine lv_aload_n hx hb dLW_law_1221 rfl (lv_at hl 1 rfl) ?_
        refine lv_iload hx hb dLW_law_1222 (lv_at hl 5 rfl) ?_
        refine lv_iconst (v := nI 3) hx hb dLW_law_1224 (by decide) ?_
        refine lv_iadd hx hb dLW_law_1225 ?_
        refine xt_i (y := nI (12 * t9 + 3)) (nI_add _ _) ?_
        refine xs_ld hx hb hXs hbl hbA (Nat.lt_of_le_of_lt hL (by decide)) hS (12 * t9 + 3) (by omega) dLW_law_1226 ?_
        refine lv_i2l (v := (sc (12 * t9 + 3)).toInt64) hx hb dLW_law_1227 rfl ?_
        refine lv_ldc2 (v := 4294967295) hx hb hown (hts _ w_j_LW_68) dLW_law_1228 ?_
        refine lv_land hx hb dLW_law_1231 ?_
        refine lv_lor hx hb dLW_law_1232 ?_
        refine xt_l (y := lc_lg sc (12 * t9 + 2)) (rfl) ?_
        refine lv_aload_n hx hb dLW_law_1233 rfl (lv_at hl 1 rfl) ?_
        refine lv_iload hx hb dLW_law_1234 (lv_at hl 5 rfl) ?_
        refine lv_iconst (v := nI 4) hx hb dLW_law_1236 (by decide) ?_
        refine lv_iadd hx hb dLW_law_1237 ?_
        refine xt_i (y := nI (12 * t9 + 4)) (nI_add _ _) ?_
        refine xs_ld hx hb hXs hbl hbA (Nat.lt_of_le_of_lt hL (by decide)) hS (12 * t9 + 4) (by omega) dLW_law_1238 ?_
        refine lv_i2l (v := (sc (12 * t9 + 4)).toInt64) hx hb dLW_law_1239 rfl ?_
        refine lv_bipush (v := nI 32) hx hb dLW_law_1240 (by decide) ?_
        refine lv_lshl (v := j_lshl ((sc (12 * t9 + 4)).toInt64) (nI 32)) hx hb dLW_law_1242 rfl ?_
        refine lv_aload_n hx hb dLW_law_1243 rfl (lv_at hl 1 rfl) ?_
        refine lv_iload hx hb dLW_law_1244 (lv_at hl 5 rfl) ?_
        refine lv_iconst (v := nI 5) hx hb dLW_law_1246 (by decide) ?_
        refine lv_iadd hx hb dLW_law_1247 ?_
        refine xt_i (y := nI (12 * t9 + 5)) (nI_add _ _) ?_
        refine xs_ld hx hb hXs hbl hbA (Nat.lt_of_le_of_lt hL (by decide)) hS (12 * t9 + 5) (by omega) dLW_law_1248 ?_
        refine lv_i2l (v := (sc (12 * t9 + 5)).toInt64) hx hb dLW_law_1249 rfl ?_
        refine lv_ldc2 (v := 4294967295) hx hb hown (hts _ w_j_LW_68) dLW_law_1250 ?_
        refine lv_land hx hb dLW_law_1253 ?_
        refine lv_lor hx hb dLW_law_1254 ?_
        refine xt_l (y := lc_lg sc (12 * t9 + 4)) (rfl) ?_
        refine lv_aload_n hx hb dLW_law_1255 rfl (lv_at hl 1 rfl) ?_
        refine lv_iload hx hb dLW_law_1256 (lv_at hl 5 rfl) ?_
        refine lv_bipush (v := nI 6) hx hb dLW_law_1258 (by decide) ?_
        refine lv_iadd hx hb dLW_law_1260 ?_
        refine xt_i (y := nI (12 * t9 + 6)) (nI_add _ _) ?_
        refine xs_ld hx hb hXs hbl hbA (Nat.lt_of_le_of_lt hL (by decide)) hS (12 * t9 + 6) (by omega) dLW_law_1261 ?_
        refine lv_if_eq (tgt := 1269) hx hb dLW_law_1262 (by decide) (fun _ => ?_) (fun h => absurd (h6) h)
        refine lv_iconst (v := nI 0) hx hb dLW_law_1269 (by decide) ?_
        refine xt_i (y := bs_z false) (rfl) ?_
        have hPc := hP.sub (ws' := [(o, .inr (6, [.int th, .ref xv, .ref xo, .ref xn, .ref xc, .ref xb, .ref xd, .ref xq, .ref xa, .ref xk, .ref xt, .ref xh, .ref xs, .ref xS, .ref xw, .ref xW, .ref xB, .ref xM, .long jf, .long js, .int jb, .long nf, .long ns, .int nb, .ref xf, .ref xg, .ref xi])), (xB, .inl (cI, 16, .inl bl)), (xM, .inl (cI, 16, .inl mv)), (xS, .inl (cI, 256, .inl (bs_fn bs_SB))), (xw, .inl (cI, 256, .inl (bs_fn bs_tX))), (xW, .inl (cI, 352, .inl (bs_fn bs_KK)))]) [1, 2, 3, 4, 5, 6] rfl
        have hDc := hD.sub (ws' := [(o, .inr (6, [.int th, .ref xv, .ref xo, .ref xn, .ref xc, .ref xb, .ref xd, .ref xq, .ref xa, .ref xk, .ref xt, .ref xh, .ref xs, .ref xS, .ref xw, .ref xW, .ref xB, .ref xM, .long jf, .long js, .int jb, .long nf, .long ns, .int nb, .ref xf, .ref xg, .ref xi])), (xB, .inl (cI, 16, .inl bl)), (xM, .inl (cI, 16, .inl mv)), (xS, .inl (cI, 256, .inl (bs_fn bs_SB))), (xw, .inl (cI, 256, .inl (bs_fn bs_tX))), (xW, .inl (cI, 352, .inl (bs_fn bs_KK)))]) [1, 2, 3, 4, 5, 6] (by decide) rfl
        have hKc := hK.sub (tys' := [(cI, .int)]) [0] rfl
        have hFc := va_free (wc := [(o, .inr (6, [.int th, .ref xv, .ref xo, .ref xn, .ref xc, .ref xb, .ref xd, .ref xq, .ref xa, .ref xk, .ref xt, .ref xh, .ref xs, .ref xS, .ref xw, .ref xW, .ref xB, .ref xM, .long jf, .long js, .int jb, .long nf, .long ns, .int nb, .ref xf, .ref xg, .ref xi])), (xB, .inl (cI, 16, .inl bl)), (xM, .inl (cI, 16, .inl mv)), (xS, .inl (cI, 256, .inl (bs_fn bs_SB))), (xw, .inl (cI, 256, .inl (bs_fn bs_tX))), (xW, .inl (cI, 352, .inl (bs_fn bs_KK)))]) hD hS hA [1, 2, 3, 4, 5, 6] rfl
        refine va_calll (va_runV (C := RMO) (As := [.int (nI 1), .long (lc_lg sc (12 * t9 + 2)), .long (lc_lg sc (12 * t9 + 4)), .int (bs_z false)]) (rest := []) ⟨hx, hb, hml, hown, hts⟩ (c_MO_cipher_y l dC dI H.size o xv xo xn xc xb xd xq xa xk xt xh xs xS xw xW xB xM xf xg xi th jf js jb nf ns nb cI bs_KK 1 (lc_lg sc (12 * t9 + 2)) (lc_lg sc (12 * t9 + 4)) bl mv false (by decide) bs_KK_lt) (cwV (C := RMO) 4 hts (wT_4 w_m_LW_127 w_i_MO_cipher w_s_MO_cipher w_n_MO w_c_MO_cipher) rfl rfl rfl (by decide +kernel) ⟨Nat.le_of_ble_eq_true rfl, Nat.le_of_ble_eq_true rfl⟩) ⟨fun a U g mk q => by obtain ⟨q0, q1, qP, qK, qD⟩ := q; exact ⟨q0, q1, qP, va_K.moved (u := U) (U := U.calling g mk a) (Vm.Alike.refl U.vm) qK, qD⟩, va_recv hK hP (q0 := 1) (ci := 6) (q := (RMO, TMO, 27)) rfl rfl, fun U hU hW => ⟨rfl, by rw [hU], by rw [hU]; exact hPc, va_K.moved hW.alike hKc, hDc.weaken (fun _ _ _ _ => trivial)⟩⟩ rfl rfl hl.1 rfl (lv_room (Nat.le_of_ble_eq_true rfl)) dLW_law_1270 ⟨show k9 + 1 + 0 ≤ 601024 from by omega, show n9 + 6 + 0 ≤ 7293034 from by omega⟩) hS (fun q _ h => hFc q h) hFc (fun r u t H1 locs ht hvm hw hB hz1 hk1 hS => ?_)
        obtain ⟨mv2, rfl⟩ : ∃ z, z = u := ⟨_, rfl⟩
        obtain ⟨hP1, hK1, hD1⟩ := hB
        rw [ht] at hP1
        have hK1 := va_K.moved hvm.symm hK1
        obtain ⟨hw, hw8⟩ : r = (if false then bs_rd (bs_fn (bs_E (fun j9 => bs_KK (176 * 1 + j9)) (lc_lg sc (12 * t9 + 2)) (lc_lg sc (12 * t9 + 4)))) 0 8 else bs_rd (bs_fn (bs_E (fun j9 => bs_KK (176 * 1 + j9)) (lc_lg sc (12 * t9 + 2)) (lc_lg sc (12 * t9 + 4)))) 8 8) ∧ True := hw
        rw [hw]
        obtain ⟨hP, hD⟩ := xj_join (wt := wt) (wr := [(rk0, .inl (cI, 44, .inl bs_V0)), (bo, .inr (5, [.ref q, .ref km, .ref ka, .ref cs])), (q, .inr (0, [.ref sb, .ref co, .ref rk, .long (bs_e1 bs_CTf bs_SBf bs_V1 (lc_lg sc (12 * t9 + 2)) (lc_lg sc (12 * t9 + 4))), .long (bs_e2 bs_CTf bs_SBf bs_V1 (lc_lg sc (12 * t9 + 2)) (lc_lg sc (12 * t9 + 4))), .int bt])), (sb, .inl (cI, 256, .inl bs_SBf)), (co, .inl (cI, 256, .inl bs_CTf)), (rk, .inl (cR, 2, .inr (.inr (.inr (.inr (bs_gl [rk0, rk1])))))), (rk1, .inl (cI, 44, .inl bs_V1)), (ou, .inl (cL, 1, .inr (.inl (vp_updL fz 0 (if false then bs_e1 bs_CTf bs_SBf bs_V1 (lc_lg sc (12 * t9 + 2)) (lc_lg sc (12 * t9 + 4)) else bs_e2 bs_CTf bs_SBf bs_V1 (lc_lg sc (12 * t9 + 2)) (lc_lg sc (12 * t9 + 4)))))))]) (w1 := [(o, .inr (6, [.int (nI 0), .ref xv, .ref xo, .ref xn, .ref xc, .ref xb, .ref xd, .ref xq, .ref xa, .ref xk, .ref xt, .ref xh, .ref xs, .ref xS, .ref xw, .ref xW, .ref xB, .ref xM, .long jf, .long js, .int jb, .long nf, .long ns, .int nb, .ref xf, .ref xg, .ref xi])), (xB, .inl (cI, 16, .inl (bs_fn (bs_E (fun j9 => bs_KK (176 * 1 + j9)) (lc_lg sc (12 * t9 + 2)) (lc_lg sc (12 * t9 + 4)))))), (xM, .inl (cI, 16, .inl mv2)), (xS, .inl (cI, 256, .inl (bs_fn bs_SB))), (xw, .inl (cI, 256, .inl (bs_fn bs_tX))), (xW, .inl (cI, 352, .inl (bs_fn bs_KK)))]) hP hD [1, 2, 3, 4, 5, 6] [0, 7, 8, 9, 10, 11, 12, 13] rfl rfl (by decide) (by decide) hk1 hFc hP1 hD1
        generalize H1 = H at hP hS ⊢
        have hP : va_P (dC, dI) vwCl (xj_ap [(rk0, .inl (cI, 44, .inl bs_V0)), (bo, .inr (5, [.ref q, .ref km, .ref ka, .ref cs])), (q, .inr (0, [.ref sb, .ref co, .ref rk, .long (bs_e1 bs_CTf bs_SBf bs_V1 (lc_lg sc (12 * t9 + 2)) (lc_lg sc (12 * t9 + 4))), .long (bs_e2 bs_CTf bs_SBf bs_V1 (lc_lg sc (12 * t9 + 2)) (lc_lg sc (12 * t9 + 4))), .int bt])), (sb, .inl (cI, 256, .inl bs_SBf)), (co, .inl (cI, 256, .inl bs_CTf)), (rk, .inl (cR, 2, .inr (.inr (.inr (.inr (bs_gl [rk0, rk1])))))), (rk1, .inl (cI, 44, .inl bs_V1)), (ou, .inl (cL, 1, .inr (.inl (vp_updL fz 0 (if false then bs_e1 bs_CTf bs_SBf bs_V1 (lc_lg sc (12 * t9 + 2)) (lc_lg sc (12 * t9 + 4)) else bs_e2 bs_CTf bs_SBf bs_V1 (lc_lg sc (12 * t9 + 2)) (lc_lg sc (12 * t9 + 4))))))), (o, .inr (6, [.int (nI 0), .ref xv, .ref xo, .ref xn, .ref xc, .ref xb, .ref xd, .ref xq, .ref xa, .ref xk, .ref xt, .ref xh, .ref xs, .ref xS, .ref xw, .ref xW, .ref xB, .ref xM, .long jf, .long js, .int jb, .long nf, .long ns, .int nb, .ref xf, .ref xg, .ref xi])), (xB, .inl (cI, 16, .inl (bs_fn (bs_E (fun j9 => bs_KK (176 * 1 + j9)) (lc_lg sc (12 * t9 + 2)) (lc_lg sc (12 * t9 + 4)))))), (xM, .inl (cI, 16, .inl mv2)), (xS, .inl (cI, 256, .inl (bs_fn bs_SB))), (xw, .inl (cI, 256, .inl (bs_fn bs_tX))), (xW, .inl (cI, 352, .inl (bs_fn bs_KK)))] wt) H := hP
        have hD : va_D A (xj_ap [(rk0, .inl (cI, 44, .inl bs_V0)), (bo, .inr (5, [.ref q, .ref km, .ref ka, .ref cs])), (q, .inr (0, [.ref sb, .ref co, .ref rk, .long (bs_e1 bs_CTf bs_SBf bs_V1 (lc_lg sc (12 * t9 + 2)) (lc_lg sc (12 * t9 + 4))), .long (bs_e2 bs_CTf bs_SBf bs_V1 (lc_lg sc (12 * t9 + 2)) (lc_lg sc (12 * t9 + 4))), .int bt])), (sb, .inl (cI, 256, .inl bs_SBf)), (co, .inl (cI, 256, .inl bs_CTf)), (rk, .inl (cR, 2, .inr (.inr (.inr (.inr (bs_gl [rk0, rk1])))))), (rk1, .inl (cI, 44, .inl bs_V1)), (ou, .inl (cL, 1, .inr (.inl (vp_updL fz 0 (if false then bs_e1 bs_CTf bs_SBf bs_V1 (lc_lg sc (12 * t9 + 2)) (lc_lg sc (12 * t9 + 4)) else bs_e2 bs_CTf bs_SBf bs_V1 (lc_lg sc (12 * t9 + 2)) (lc_lg sc (12 * t9 + 4))))))), (o, .inr (6, [.int (nI 0), .ref xv, .ref xo, .ref xn, .ref xc, .ref xb, .ref xd, .ref xq, .ref xa, .ref xk, .ref xt, .ref xh, .ref xs, .ref xS, .ref xw, .ref xW, .ref xB, .ref xM, .long jf, .long js, .int jb, .long nf, .long ns, .int nb, .ref xf, .ref xg, .ref xi])), (xB, .inl (cI, 16, .inl (bs_fn (bs_E (fun j9 => bs_KK (176 * 1 + j9)) (lc_lg sc (12 * t9 + 2)) (lc_lg sc (12 * t9 + 4)))))), (xM, .inl (cI, 16, .inl mv2)), (xS, .inl (cI, 256, .inl (bs_fn bs_SB))), (xw, .inl (cI, 256, .inl (bs_fn bs_tX))), (xW, .inl (cI, 352, .inl (bs_fn bs_KK)))] wt) := hD
        refine lv_lstore (lv' := [(6, .long (if false then bs_rd (bs_fn (bs_E (fun j9 => bs_KK (176 * 1 + j9)) (lc_lg sc (12 * t9 + 2)) (lc_lg sc (12 * t9 + 4)))) 0 8 else bs_rd (bs_fn (bs_E (fun j9 => bs_KK (176 * 1 + j9)) (lc_lg sc (12 * t9 + 2)) (lc_lg sc (12 * t9 + 4)))) 8 8)), (5, .int (nI 0)), (0, .ref b), (1, .ref bo), (2, .ref o), (3, .ref ou), (4, .int (nI (12 * t9)))]) hx hb dLW_law_1273 hl (by decide) rfl (fun ls hl => ?_)
        refine lv_aload_n hx hb dLW_law_1275 rfl (lv_at hl 4 rfl) ?_
        have hPc := hP.sub (ws' := [(o, .inr (6, [.int (nI 0), .ref xv, .ref xo, .ref xn, .ref xc, .ref xb, .ref xd, .ref xq, .ref xa, .ref xk, .ref xt, .ref xh, .ref xs, .ref xS, .ref xw, .ref xW, .ref xB, .ref xM, .long jf, .long js, .int jb, .long nf, .long ns, .int nb, .ref xf, .ref xg, .ref xi]))]) [8] rfl
        have hDc := hD.sub (ws' := [(o, .inr (6, [.int (nI 0), .ref xv, .ref xo, .ref xn, .ref xc, .ref xb, .ref xd, .ref xq, .ref xa, .ref xk, .ref xt, .ref xh, .ref xs, .ref xS, .ref xw, .ref xW, .ref xB, .ref xM, .long jf, .long js, .int jb, .long nf, .long ns, .int nb, .ref xf, .ref xg, .ref xi]))]) [8] (by decide) rfl
        have hKc := hK.sub (tys' := []) [] rfl
        have hFc := va_free (wc := [(o, .inr (6, [.int (nI 0), .ref xv, .ref xo, .ref xn, .ref xc, .ref xb, .ref xd, .ref xq, .ref xa, .ref xk, .ref xt, .ref xh, .ref xs, .ref xS, .ref xw, .ref xW, .ref xB, .ref xM, .long jf, .long js, .int jb, .long nf, .long ns, .int nb, .ref xf, .ref xg, .ref xi]))]) hD hS hA [8] rfl
        refine va_calli (va_runV (C := RMO) (As := []) (rest := []) ⟨hx, hb, hml, hown, hts⟩ (c_MO_thrown l dC dI H.size o xv xo xn xc xb xd xq xa xk xt xh xs xS xw xW xB xM xf xg xi (nI 0) jf js jb nf ns nb) (cwV (C := RMO) 0 hts (wT_4 w_m_LW_76 w_i_MO_thrown w_s_MO_thrown w_n_MO w_c_MO_thrown) rfl rfl rfl (by decide +kernel) ⟨Nat.le_of_ble_eq_true rfl, Nat.le_of_ble_eq_true rfl⟩) ⟨fun a U g mk q => by obtain ⟨q0, q1, qP, qK, qD⟩ := q; exact ⟨q0, q1, qP, va_K.moved (u := U) (U := U.calling g mk a) (Vm.Alike.refl U.vm) qK, qD⟩, va_recv hK hP (q0 := 8) (ci := 6) (q := (RMO, TMO, 27)) rfl rfl, fun U hU hW => ⟨rfl, by rw [hU], by rw [hU]; exact hPc, va_K.moved hW.alike hKc, hDc.weaken (fun _ _ _ _ => trivial)⟩⟩ rfl rfl hl.1 rfl (lv_room (Nat.le_of_ble_eq_true rfl)) dLW_law_1276 ⟨show k9 + 1 + 0 ≤ 601024 from by omega, show n9 + 6 + 0 ≤ 7293034 from by omega⟩) hS (fun q _ h => hFc q h) hFc (fun r u t H1 locs ht hvm hw hB hz1 hk1 hS => ?_)
        obtain ⟨hP1, hK1, hD1⟩ := hB
        rw [ht] at hP1
        have hK1 := va_K.moved hvm.symm hK1
        have hw : r = nI 0 := hw
        rw [hw]
        obtain ⟨hP, hD⟩ := xj_join (wt := wt) (wr := [(rk0, .inl (cI, 44, .inl bs_V0)), (bo, .inr (5, [.ref q, .ref km, .ref ka, .ref cs])), (q, .inr (0, [.ref sb, .ref co, .ref rk, .long (bs_e1 bs_CTf bs_SBf bs_V1 (lc_lg sc (12 * t9 + 2)) (lc_lg sc (12 * t9 + 4))), .long (bs_e2 bs_CTf bs_SBf bs_V1 (lc_lg sc (12 * t9 + 2)) (lc_lg sc (12 * t9 + 4))), .int bt])), (sb, .inl (cI, 256, .inl bs_SBf)), (co, .inl (cI, 256, .inl bs_CTf)), (rk, .inl (cR, 2, .inr (.inr (.inr (.inr (bs_gl [rk0, rk1])))))), (rk1, .inl (cI, 44, .inl bs_V1)), (ou, .inl (cL, 1, .inr (.inl (vp_updL fz 0 (if false then bs_e1 bs_CTf bs_SBf bs_V1 (lc_lg sc (12 * t9 + 2)) (lc_lg sc (12 * t9 + 4)) else bs_e2 bs_CTf bs_SBf bs_V1 (lc_lg sc (12 * t9 + 2)) (lc_lg sc (12 * t9 + 4))))))), (xB, .inl (cI, 16, .inl (bs_fn (bs_E (fun j9 => bs_KK (176 * 1 + j9)) (lc_lg sc (12 * t9 + 2)) (lc_lg sc (12 * t9 + 4)))))), (xM, .inl (cI, 16, .inl mv2)), (xS, .inl (cI, 256, .inl (bs_fn bs_SB))), (xw, .inl (cI, 256, .inl (bs_fn bs_tX))), (xW, .inl (cI, 352, .inl (bs_fn bs_KK)))]) (w1 := [(o, .inr (6, [.int (nI 0), .ref xv, .ref xo, .ref xn, .ref xc, .ref xb, .ref xd, .ref xq, .ref xa, .ref xk, .ref xt, .ref xh, .ref xs, .ref xS, .ref xw, .ref xW, .ref xB, .ref xM, .long jf, .long js, .int jb, .long nf, .long ns, .int nb, .ref xf, .ref xg, .ref xi]))]) hP hD [8] [0, 1, 2, 3, 4, 5, 6, 7, 9, 10, 11, 12, 13] rfl rfl (by decide) (by decide) hk1 hFc hP1 hD1
        generalize H1 = H at hP hS ⊢
        have hP : va_P (dC, dI) vwCl (xj_ap [(rk0, .inl (cI, 44, .inl bs_V0)), (bo, .inr (5, [.ref q, .ref km, .ref ka, .ref cs])), (q, .inr (0, [.ref sb, .ref co, .ref rk, .long (bs_e1 bs_CTf bs_SBf bs_V1 (lc_lg sc (12 * t9 + 2)) (lc_lg sc (12 * t9 + 4))), .long (bs_e2 bs_CTf bs_SBf bs_V1 (lc_lg sc (12 * t9 + 2)) (lc_lg sc (12 * t9 + 4))), .int bt])), (sb, .inl (cI, 256, .inl bs_SBf)), (co, .inl (cI, 256, .inl bs_CTf)), (rk, .inl (cR, 2, .inr (.inr (.inr (.inr (bs_gl [rk0, rk1])))))), (rk1, .inl (cI, 44, .inl bs_V1)), (ou, .inl (cL, 1, .inr (.inl (vp_updL fz 0 (if false then bs_e1 bs_CTf bs_SBf bs_V1 (lc_lg sc (12 * t9 + 2)) (lc_lg sc (12 * t9 + 4)) else bs_e2 bs_CTf bs_SBf bs_V1 (lc_lg sc (12 * t9 + 2)) (lc_lg sc (12 * t9 + 4))))))), (xB, .inl (cI, 16, .inl (bs_fn (bs_E (fun j9 => bs_KK (176 * 1 + j9)) (lc_lg sc (12 * t9 + 2)) (lc_lg sc (12 * t9 + 4)))))), (xM, .inl (cI, 16, .inl mv2)), (xS, .inl (cI, 256, .inl (bs_fn bs_SB))), (xw, .inl (cI, 256, .inl (bs_fn bs_tX))), (xW, .inl (cI, 352, .inl (bs_fn bs_KK))), (o, .inr (6, [.int (nI 0), .ref xv, .ref xo, .ref xn, .ref xc, .ref xb, .ref xd, .ref xq, .ref xa, .ref xk, .ref xt, .ref xh, .ref xs, .ref xS, .ref xw, .ref xW, .ref xB, .ref xM, .long jf, .long js, .int jb, .long nf, .long ns, .int nb, .ref xf, .ref xg, .ref xi]))] wt) H := hP
        have hD : va_D A (xj_ap [(rk0, .inl (cI, 44, .inl bs_V0)), (bo, .inr (5, [.ref q, .ref km, .ref ka, .ref cs])), (q, .inr (0, [.ref sb, .ref co, .ref rk, .long (bs_e1 bs_CTf bs_SBf bs_V1 (lc_lg sc (12 * t9 + 2)) (lc_lg sc (12 * t9 + 4))), .long (bs_e2 bs_CTf bs_SBf bs_V1 (lc_lg sc (12 * t9 + 2)) (lc_lg sc (12 * t9 + 4))), .int bt])), (sb, .inl (cI, 256, .inl bs_SBf)), (co, .inl (cI, 256, .inl bs_CTf)), (rk, .inl (cR, 2, .inr (.inr (.inr (.inr (bs_gl [rk0, rk1])))))), (rk1, .inl (cI, 44, .inl bs_V1)), (ou, .inl (cL, 1, .inr (.inl (vp_updL fz 0 (if false then bs_e1 bs_CTf bs_SBf bs_V1 (lc_lg sc (12 * t9 + 2)) (lc_lg sc (12 * t9 + 4)) else bs_e2 bs_CTf bs_SBf bs_V1 (lc_lg sc (12 * t9 + 2)) (lc_lg sc (12 * t9 + 4))))))), (xB, .inl (cI, 16, .inl (bs_fn (bs_E (fun j9 => bs_KK (176 * 1 + j9)) (lc_lg sc (12 * t9 + 2)) (lc_lg sc (12 * t9 + 4)))))), (xM, .inl (cI, 16, .inl mv2)), (xS, .inl (cI, 256, .inl (bs_fn bs_SB))), (xw, .inl (cI, 256, .inl (bs_fn bs_tX))), (xW, .inl (cI, 352, .inl (bs_fn bs_KK))), (o, .inr (6, [.int (nI 0), .ref xv, .ref xo, .ref xn, .ref xc, .ref xb, .ref xd, .ref xq, .ref xa, .ref xk, .ref xt, .ref xh, .ref xs, .ref xS, .ref xw, .ref xW, .ref xB, .ref xM, .long jf, .long js, .int jb, .long nf, .long ns, .int nb, .ref xf, .ref xg, .ref xi]))] wt) := hD
        refine lv_iload hx hb dLW_law_1279 (lv_at hl 1 rfl) ?_
        refine lv_icmp_eq (tgt := 1286) hx hb dLW_law_1281 (by decide) (fun _ => ?_) (fun h => absurd (rfl) h)
        refine lv_iload hx hb dLW_law_1286 (lv_at hl 1 rfl) ?_
        refine lv_if_ne (tgt := 1302) hx hb dLW_law_1288 (by decide) (fun h => absurd (by decide +kernel) h) (fun _ => ?_)
        refine lv_aload_n hx hb dLW_law_1291 rfl (lv_at hl 5 rfl) ?_
        refine lv_iconst (v := nI 0) hx hb dLW_law_1292 (by decide) ?_
        refine xa_lald hx hb hK hP 7 1 rfl rfl 0 (by omega) (by decide) dLW_law_1293 ?_
        refine xt_l (y := (if false then bs_e1 bs_CTf bs_SBf bs_V1 (lc_lg sc (12 * t9 + 2)) (lc_lg sc (12 * t9 + 4)) else bs_e2 bs_CTf bs_SBf bs_V1 (lc_lg sc (12 * t9 + 2)) (lc_lg sc (12 * t9 + 4)))) (pk_uLs) ?_
        refine lv_lload hx hb dLW_law_1294 (lv_at hl 0 rfl) ?_
        refine W.lcmp hx hb dLW_law_1296 ?_
        refine lv_if_eq (tgt := 1302) hx hb dLW_law_1297 (by decide) (fun _ => ?_) (fun h => absurd ((lg_cmp_eq _ _).mpr (by rw [if_neg (by decide), if_neg (by decide)]; exact (bs_enc_eq (K := bs_Kx bs_KK 1) (fun j => bs_KK_lt _) (lc_lg sc (12 * t9 + 2)) (lc_lg sc (12 * t9 + 4))).2)) h)
        refine lv_goto (tgt := 1342) hx hb dLW_law_1302 (by decide) ?_
        have hP := xj_subP (ws' := [(bo, .inr (5, [.ref q, .ref km, .ref ka, .ref cs])), (q, .inr (0, [.ref sb, .ref co, .ref rk, .long (bs_e1 bs_CTf bs_SBf bs_V1 (lc_lg sc (12 * t9 + 2)) (lc_lg sc (12 * t9 + 4))), .long (bs_e2 bs_CTf bs_SBf bs_V1 (lc_lg sc (12 * t9 + 2)) (lc_lg sc (12 * t9 + 4))), .int bt])), (sb, .inl (cI, 256, .inl bs_SBf)), (co, .inl (cI, 256, .inl bs_CTf)), (rk, .inl (cR, 2, .inr (.inr (.inr (.inr (bs_gl [rk0, rk1])))))), (rk0, .inl (cI, 44, .inl bs_V0)), (rk1, .inl (cI, 44, .inl bs_V1)), (o, .inr (6, [.int (nI 0), .ref xv, .ref xo, .ref xn, .ref xc, .ref xb, .ref xd, .ref xq, .ref xa, .ref xk, .ref xt, .ref xh, .ref xs, .ref xS, .ref xw, .ref xW, .ref xB, .ref xM, .long jf, .long js, .int jb, .long nf, .long ns, .int nb, .ref xf, .ref xg, .ref xi])), (xB, .inl (cI, 16, .inl (bs_fn (bs_E (fun j9 => bs_KK (176 * 1 + j9)) (lc_lg sc (12 * t9 + 2)) (lc_lg sc (12 * t9 + 4)))))), (xM, .inl (cI, 16, .inl mv2)), (xS, .inl (cI, 256, .inl (bs_fn bs_SB))), (xw, .inl (cI, 256, .inl (bs_fn bs_tX))), (xW, .inl (cI, 352, .inl (bs_fn bs_KK))), (ou, .inl (cL, 1, .inr (.inl (vp_updL fz 0 (if false then bs_e1 bs_CTf bs_SBf bs_V1 (lc_lg sc (12 * t9 + 2)) (lc_lg sc (12 * t9 + 4)) else bs_e2 bs_CTf bs_SBf bs_V1 (lc_lg sc (12 * t9 + 2)) (lc_lg sc (12 * t9 + 4)))))))]) hP [1, 2, 3, 4, 5, 0, 6, 13, 8, 9, 10, 11, 12, 7] rfl
        have hD := xj_subD (ws' := [(bo, .inr (5, [.ref q, .ref km, .ref ka, .ref cs])), (q, .inr (0, [.ref sb, .ref co, .ref rk, .long (bs_e1 bs_CTf bs_SBf bs_V1 (lc_lg sc (12 * t9 + 2)) (lc_lg sc (12 * t9 + 4))), .long (bs_e2 bs_CTf bs_SBf bs_V1 (lc_lg sc (12 * t9 + 2)) (lc_lg sc (12 * t9 + 4))), .int bt])), (sb, .inl (cI, 256, .inl bs_SBf)), (co, .inl (cI, 256, .inl bs_CTf)), (rk, .inl (cR, 2, .inr (.inr (.inr (.inr (bs_gl [rk0, rk1])))))), (rk0, .inl (cI, 44, .inl bs_V0)), (rk1, .inl (cI, 44, .inl bs_V1)), (o, .inr (6, [.int (nI 0), .ref xv, .ref xo, .ref xn, .ref xc, .ref xb, .ref xd, .ref xq, .ref xa, .ref xk, .ref xt, .ref xh, .ref xs, .ref xS, .ref xw, .ref xW, .ref xB, .ref xM, .long jf, .long js, .int jb, .long nf, .long ns, .int nb, .ref xf, .ref xg, .ref xi])), (xB, .inl (cI, 16, .inl (bs_fn (bs_E (fun j9 => bs_KK (176 * 1 + j9)) (lc_lg sc (12 * t9 + 2)) (lc_lg sc (12 * t9 + 4)))))), (xM, .inl (cI, 16, .inl mv2)), (xS, .inl (cI, 256, .inl (bs_fn bs_SB))), (xw, .inl (cI, 256, .inl (bs_fn bs_tX))), (xW, .inl (cI, 352, .inl (bs_fn bs_KK))), (ou, .inl (cL, 1, .inr (.inl (vp_updL fz 0 (if false then bs_e1 bs_CTf bs_SBf bs_V1 (lc_lg sc (12 * t9 + 2)) (lc_lg sc (12 * t9 + 4)) else bs_e2 bs_CTf bs_SBf bs_V1 (lc_lg sc (12 * t9 + 2)) (lc_lg sc (12 * t9 + 4)))))))]) hD [1, 2, 3, 4, 5, 0, 6, 13, 8, 9, 10, 11, 12, 7] (by decide) rfl
        have hP : va_P (dC, dI) vwCl (xj_ap [(bo, .inr (5, [.ref q, .ref km, .ref ka, .ref cs])), (q, .inr (0, [.ref sb, .ref co, .ref rk, .long (bs_e1 bs_CTf bs_SBf bs_V1 (lc_lg sc (12 * t9 + 2)) (lc_lg sc (12 * t9 + 4))), .long (bs_e2 bs_CTf bs_SBf bs_V1 (lc_lg sc (12 * t9 + 2)) (lc_lg sc (12 * t9 + 4))), .int bt])), (sb, .inl (cI, 256, .inl bs_SBf)), (co, .inl (cI, 256, .inl bs_CTf)), (rk, .inl (cR, 2, .inr (.inr (.inr (.inr (bs_gl [rk0, rk1])))))), (rk0, .inl (cI, 44, .inl bs_V0)), (rk1, .inl (cI, 44, .inl bs_V1)), (o, .inr (6, [.int (nI 0), .ref xv, .ref xo, .ref xn, .ref xc, .ref xb, .ref xd, .ref xq, .ref xa, .ref xk, .ref xt, .ref xh, .ref xs, .ref xS, .ref xw, .ref xW, .ref xB, .ref xM, .long jf, .long js, .int jb, .long nf, .long ns, .int nb, .ref xf, .ref xg, .ref xi])), (xB, .inl (cI, 16, .inl (bs_fn (bs_E (fun j9 => bs_KK (176 * 1 + j9)) (lc_lg sc (12 * t9 + 2)) (lc_lg sc (12 * t9 + 4)))))), (xM, .inl (cI, 16, .inl mv2)), (xS, .inl (cI, 256, .inl (bs_fn bs_SB))), (xw, .inl (cI, 256, .inl (bs_fn bs_tX))), (xW, .inl (cI, 352, .inl (bs_fn bs_KK))), (ou, .inl (cL, 1, .inr (.inl (vp_updL fz 0 (if false then bs_e1 bs_CTf bs_SBf bs_V1 (lc_lg sc (12 * t9 + 2)) (lc_lg sc (12 * t9 + 4)) else bs_e2 bs_CTf bs_SBf bs_V1 (lc_lg sc (12 * t9 + 2)) (lc_lg sc (12 * t9 + 4)))))))] wt) H := hP
        have hD : va_D A (xj_ap [(bo, .inr (5, [.ref q, .ref km, .ref ka, .ref cs])), (q, .inr (0, [.ref sb, .ref co, .ref rk, .long (bs_e1 bs_CTf bs_SBf bs_V1 (lc_lg sc (12 * t9 + 2)) (lc_lg sc (12 * t9 + 4))), .long (bs_e2 bs_CTf bs_SBf bs_V1 (lc_lg sc (12 * t9 + 2)) (lc_lg sc (12 * t9 + 4))), .int bt])), (sb, .inl (cI, 256, .inl bs_SBf)), (co, .inl (cI, 256, .inl bs_CTf)), (rk, .inl (cR, 2, .inr (.inr (.inr (.inr (bs_gl [rk0, rk1])))))), (rk0, .inl (cI, 44, .inl bs_V0)), (rk1, .inl (cI, 44, .inl bs_V1)), (o, .inr (6, [.int (nI 0), .ref xv, .ref xo, .ref xn, .ref xc, .ref xb, .ref xd, .ref xq, .ref xa, .ref xk, .ref xt, .ref xh, .ref xs, .ref xS, .ref xw, .ref xW, .ref xB, .ref xM, .long jf, .long js, .int jb, .long nf, .long ns, .int nb, .ref xf, .ref xg, .ref xi])), (xB, .inl (cI, 16, .inl (bs_fn (bs_E (fun j9 => bs_KK (176 * 1 + j9)) (lc_lg sc (12 * t9 + 2)) (lc_lg sc (12 * t9 + 4)))))), (xM, .inl (cI, 16, .inl mv2)), (xS, .inl (cI, 256, .inl (bs_fn bs_SB))), (xw, .inl (cI, 256, .inl (bs_fn bs_tX))), (xW, .inl (cI, 352, .inl (bs_fn bs_KK))), (ou, .inl (cL, 1, .inr (.inl (vp_updL fz 0 (if false then bs_e1 bs_CTf bs_SBf bs_V1 (lc_lg sc (12 * t9 + 2)) (lc_lg sc (12 * t9 + 4)) else bs_e2 bs_CTf bs_SBf bs_V1 (lc_lg sc (12 * t9 + 2)) (lc_lg sc (12 * t9 + 4)))))))] wt) := hD
        have hl := lv_sub hl (l' := [(0, .ref b), (1, .ref bo), (2, .ref o), (3, .ref ou), (4, .int (nI (12 * t9)))]) [2, 3, 4, 5, 6] rfl
        exact hk (bs_e1 bs_CTf bs_SBf bs_V1 (lc_lg sc (12 * t9 + 2)) (lc_lg sc (12 * t9 + 4))) (bs_e2 bs_CTf bs_SBf bs_V1 (lc_lg sc (12 * t9 + 2)) (lc_lg sc (12 * t9 + 4))) (bs_fn (bs_E (fun j9 => bs_KK (176 * 1 + j9)) (lc_lg sc (12 * t9 + 2)) (lc_lg sc (12 * t9 + 4)))) mv2 (nI 0) (vp_updL fz 0 (if false then bs_e1 bs_CTf bs_SBf bs_V1 (lc_lg sc (12 * t9 + 2)) (lc_lg sc (12 * t9 + 4)) else bs_e2 bs_CTf bs_SBf bs_V1 (lc_lg sc (12 * t9 + 2)) (lc_lg sc (12 * t9 + 4)))) H _ ls (hJ) hP hD hS hl
    · refine lv_aload_n hx hb dLW_law_1132 rfl (lv_at hl 1 rfl) ?_
      refine lv_aload_n hx hb dLW_law_1133 rfl (lv_at hl 0 rfl) ?_
      refine lv_iload hx hb dLW_law_1134 (lv_at hl 4 rfl) ?_
      refine lv_iconst (v := nI 1) hx hb dLW_law_1136 (by decide) ?_
      refine lv_iadd hx hb dLW_law_1137 ?_
      refine xt_i (y := nI (12 * t9 + 1)) (nI_add _ _) ?_
      refine xs_ld hx hb hXs hbl hbA (Nat.lt_of_le_of_lt hL (by decide)) hS (12 * t9 + 1) (by omega) dLW_law_1138 ?_
      refine lv_aload_n hx hb dLW_law_1139 rfl (lv_at hl 0 rfl) ?_
      refine lv_iload hx hb dLW_law_1140 (lv_at hl 4 rfl) ?_
      refine lv_iconst (v := nI 2) hx hb dLW_law_1142 (by decide) ?_
      refine lv_iadd hx hb dLW_law_1143 ?_
      refine xt_i (y := nI (12 * t9 + 2)) (nI_add _ _) ?_
      refine xs_ld hx hb hXs hbl hbA (Nat.lt_of_le_of_lt hL (by decide)) hS (12 * t9 + 2) (by omega) dLW_law_1144 ?_
      refine lv_i2l (v := (sc (12 * t9 + 2)).toInt64) hx hb dLW_law_1145 rfl ?_
      refine lv_bipush (v := nI 32) hx hb dLW_law_1146 (by decide) ?_
      refine lv_lshl (v := j_lshl ((sc (12 * t9 + 2)).toInt64) (nI 32)) hx hb dLW_law_1148 rfl ?_
      refine lv_aload_n hx hb dLW_law_1149 rfl (lv_at hl 0 rfl) ?_
      refine lv_iload hx hb dLW_law_1150 (lv_at hl 4 rfl) ?_
      refine lv_iconst (v := nI 3) hx hb dLW_law_1152 (by decide) ?_
      refine lv_iadd hx hb dLW_law_1153 ?_
      refine xt_i (y := nI (12 * t9 + 3)) (nI_add _ _) ?_
      refine xs_ld hx hb hXs hbl hbA (Nat.lt_of_le_of_lt hL (by decide)) hS (12 * t9 + 3) (by omega) dLW_law_1154 ?_
      refine lv_i2l (v := (sc (12 * t9 + 3)).toInt64) hx hb dLW_law_1155 rfl ?_
      refine lv_ldc2 (v := 4294967295) hx hb hown (hts _ w_j_LW_68) dLW_law_1156 ?_
      refine lv_land hx hb dLW_law_1159 ?_
      refine lv_lor hx hb dLW_law_1160 ?_
      refine xt_l (y := lc_lg sc (12 * t9 + 2)) (rfl) ?_
      refine lv_aload_n hx hb dLW_law_1161 rfl (lv_at hl 0 rfl) ?_
      refine lv_iload hx hb dLW_law_1162 (lv_at hl 4 rfl) ?_
      refine lv_iconst (v := nI 4) hx hb dLW_law_1164 (by decide) ?_
      refine lv_iadd hx hb dLW_law_1165 ?_
      refine xt_i (y := nI (12 * t9 + 4)) (nI_add _ _) ?_
      refine xs_ld hx hb hXs hbl hbA (Nat.lt_of_le_of_lt hL (by decide)) hS (12 * t9 + 4) (by omega) dLW_law_1166 ?_
      refine lv_i2l (v := (sc (12 * t9 + 4)).toInt64) hx hb dLW_law_1167 rfl ?_
      refine lv_bipush (v := nI 32) hx hb dLW_law_1168 (by decide) ?_
      refine lv_lshl (v := j_lshl ((sc (12 * t9 + 4)).toInt64) (nI 32)) hx hb dLW_law_1170 rfl ?_
      refine lv_aload_n hx hb dLW_law_1171 rfl (lv_at hl 0 rfl) ?_
      refine lv_iload hx hb dLW_law_1172 (lv_at hl 4 rfl) ?_
      refine lv_iconst (v := nI 5) hx hb dLW_law_1174 (by decide) ?_
      refine lv_iadd hx hb dLW_law_1175 ?_
      refine xt_i (y := nI (12 * t9 + 5)) (nI_add _ _) ?_
      refine xs_ld hx hb hXs hbl hbA (Nat.lt_of_le_of_lt hL (by decide)) hS (12 * t9 + 5) (by omega) dLW_law_1176 ?_
      refine lv_i2l (v := (sc (12 * t9 + 5)).toInt64) hx hb dLW_law_1177 rfl ?_
      refine lv_ldc2 (v := 4294967295) hx hb hown (hts _ w_j_LW_68) dLW_law_1178 ?_
      refine lv_land hx hb dLW_law_1181 ?_
      refine lv_lor hx hb dLW_law_1182 ?_
      refine xt_l (y := lc_lg sc (12 * t9 + 4)) (rfl) ?_
      refine lv_aload_n hx hb dLW_law_1183 rfl (lv_at hl 0 rfl) ?_
      refine lv_iload hx hb dLW_law_1184 (lv_at hl 4 rfl) ?_
      refine lv_bipush (v := nI 6) hx hb dLW_law_1186 (by decide) ?_
      refine lv_iadd hx hb dLW_law_1188 ?_
      refine xt_i (y := nI (12 * t9 + 6)) (nI_add _ _) ?_
      refine xs_ld hx hb hXs hbl hbA (Nat.lt_of_le_of_lt hL (by decide)) hS (12 * t9 + 6) (by omega) dLW_law_1189 ?_
      refine lv_if_eq (tgt := 1197) hx hb dLW_law_1190 (by decide) (fun _ => ?_) (fun h => absurd (h6) h)
      refine lv_iconst (v := nI 0) hx hb dLW_law_1197 (by decide) ?_
      refine xt_i (y := bs_z false) (rfl) ?_
      refine lv_aload_n hx hb dLW_law_1198 rfl (lv_at hl 3 rfl) ?_
      have hPc := hP.sub (ws' := [(bo, .inr (5, [.ref q, .ref km, .ref ka, .ref cs]))]) [0] rfl
      have hDc := hD.sub (ws' := [(bo, .inr (5, [.ref q, .ref km, .ref ka, .ref cs]))]) [0] (by decide) rfl
      have hKc := hK.sub (tys' := []) [] rfl
      have hFc := va_free (wc := [(bo, .inr (5, [.ref q, .ref km, .ref ka, .ref cs]))]) hD hS hA [0] rfl
      have hXc := (hX.kept hS.2.1).narrow hFc
      refine va_calli (xs_runW (n := 6) (hh := [(0, 14, 17, 13)]) (As := [.ref bo, .int (sc (12 * t9 + 1)), .long (lc_lg sc (12 * t9 + 2)), .long (lc_lg sc (12 * t9 + 4)), .int (bs_z false), .ref ou]) (rest := []) ⟨hx, hb, hml, hown, hts⟩ (c_LW_cipher_n l dC dI H.size bo q km ka cs (sc (12 * t9 + 1)) (lc_lg sc (12 * t9 + 2)) (lc_lg sc (12 * t9 + 4)) (bs_z false) ou hl9 hs9) (wT_3 w_m_LW_124 w_t_LW_cipher w_n_LW w_c_LW_cipher) rfl rfl rfl (by decide +kernel) ⟨Nat.le_of_ble_eq_true rfl, Nat.le_of_ble_eq_true rfl⟩ ⟨fun a U g mk q => by obtain ⟨q0, q1, qP, qK, qD, qX⟩ := q; exact ⟨q0, q1, qP, va_K.moved (u := U) (U := U.calling g mk a) (Vm.Alike.refl U.vm) qK, qD, qX.same rfl⟩, fun U hU hW => ⟨rfl, by rw [hU], by rw [hU]; exact hPc, va_K.moved hW.alike hKc, hDc.weaken (fun _ _ _ _ => trivial), by rw [hU]; exact hXc.warm hW⟩⟩ rfl rfl hl.1 rfl (lv_room (Nat.le_of_ble_eq_true rfl)) dLW_law_1199 ⟨show k9 + 1 ≤ 601024 from by omega, show n9 + 6 ≤ 7293034 from by omega⟩) hS (fun q _ h => hFc q h) hFc (fun r u t H1 locs ht hvm hw hB hz1 hk1 hS => ?_)
      obtain ⟨hP1, hK1, hD1⟩ := hB
      rw [ht] at hP1
      have hK1 := va_K.moved hvm.symm hK1
      have hw : r = nI 1 := hw
      rw [hw]
      obtain ⟨hP, hD⟩ := xj_join (wt := wt) (wr := [(q, .inr (0, [.ref sb, .ref co, .ref rk, .long f1, .long f2, .int bt])), (sb, .inl (cI, 256, .inl bs_SBf)), (co, .inl (cI, 256, .inl bs_CTf)), (rk, .inl (cR, 2, .inr (.inr (.inr (.inr (bs_gl [rk0, rk1])))))), (rk0, .inl (cI, 44, .inl bs_V0)), (rk1, .inl (cI, 44, .inl bs_V1)), (o, .inr (6, [.int th, .ref xv, .ref xo, .ref xn, .ref xc, .ref xb, .ref xd, .ref xq, .ref xa, .ref xk, .ref xt, .ref xh, .ref xs, .ref xS, .ref xw, .ref xW, .ref xB, .ref xM, .long jf, .long js, .int jb, .long nf, .long ns, .int nb, .ref xf, .ref xg, .ref xi])), (xB, .inl (cI, 16, .inl bl)), (xM, .inl (cI, 16, .inl mv)), (xS, .inl (cI, 256, .inl (bs_fn bs_SB))), (xw, .inl (cI, 256, .inl (bs_fn bs_tX))), (xW, .inl (cI, 352, .inl (bs_fn bs_KK))), (ou, .inl (cL, 1, .inr (.inl fz)))]) (w1 := [(bo, .inr (5, [.ref q, .ref km, .ref ka, .ref cs]))]) hP hD [0] [1, 2, 3, 4, 5, 6, 7, 8, 9, 10, 11, 12, 13] rfl rfl (by decide) (by decide) hk1 hFc hP1 hD1
      generalize H1 = H at hP hS ⊢
      have hP : va_P (dC, dI) vwCl (xj_ap [(q, .inr (0, [.ref sb, .ref co, .ref rk, .long f1, .long f2, .int bt])), (sb, .inl (cI, 256, .inl bs_SBf)), (co, .inl (cI, 256, .inl bs_CTf)), (rk, .inl (cR, 2, .inr (.inr (.inr (.inr (bs_gl [rk0, rk1])))))), (rk0, .inl (cI, 44, .inl bs_V0)), (rk1, .inl (cI, 44, .inl bs_V1)), (o, .inr (6, [.int th, .ref xv, .ref xo, .ref xn, .ref xc, .ref xb, .ref xd, .ref xq, .ref xa, .ref xk, .ref xt, .ref xh, .ref xs, .ref xS, .ref xw, .ref xW, .ref xB, .ref xM, .long jf, .long js, .int jb, .long nf, .long ns, .int nb, .ref xf, .ref xg, .ref xi])), (xB, .inl (cI, 16, .inl bl)), (xM, .inl (cI, 16, .inl mv)), (xS, .inl (cI, 256, .inl (bs_fn bs_SB))), (xw, .inl (cI, 256, .inl (bs_fn bs_tX))), (xW, .inl (cI, 352, .inl (bs_fn bs_KK))), (ou, .inl (cL, 1, .inr (.inl fz))), (bo, .inr (5, [.ref q, .ref km, .ref ka, .ref cs]))] wt) H := hP
      have hD : va_D A (xj_ap [(q, .inr (0, [.ref sb, .ref co, .ref rk, .long f1, .long f2, .int bt])), (sb, .inl (cI, 256, .inl bs_SBf)), (co, .inl (cI, 256, .inl bs_CTf)), (rk, .inl (cR, 2, .inr (.inr (.inr (.inr (bs_gl [rk0, rk1])))))), (rk0, .inl (cI, 44, .inl bs_V0)), (rk1, .inl (cI, 44, .inl bs_V1)), (o, .inr (6, [.int th, .ref xv, .ref xo, .ref xn, .ref xc, .ref xb, .ref xd, .ref xq, .ref xa, .ref xk, .ref xt, .ref xh, .ref xs, .ref xS, .ref xw, .ref xW, .ref xB, .ref xM, .long jf, .long js, .int jb, .long nf, .long ns, .int nb, .ref xf, .ref xg, .ref xi])), (xB, .inl (cI, 16, .inl bl)), (xM, .inl (cI, 16, .inl mv)), (xS, .inl (cI, 256, .inl (bs_fn bs_SB))), (xw, .inl (cI, 256, .inl (bs_fn bs_tX))), (xW, .inl (cI, 352, .inl (bs_fn bs_KK))), (ou, .inl (cL, 1, .inr (.inl fz))), (bo, .inr (5, [.ref q, .ref km, .ref ka, .ref cs]))] wt) := hD
      refine lv_istore (lv' := [(5, .int (nI 1)), (0, .ref b), (1, .ref bo), (2, .ref o), (3, .ref ou), (4, .int (nI (12 * t9)))]) hx hb dLW_law_1202 hl (by decide) rfl (fun ls hl => ?_)
      refine lv_aload_n hx hb dLW_law_1204 rfl (lv_at hl 3 rfl) ?_
      refine lv_aload_n hx hb dLW_law_1205 rfl (lv_at hl 1 rfl) ?_
      refine lv_iload hx hb dLW_law_1206 (lv_at hl 5 rfl) ?_
      refine lv_iconst (v := nI 1) hx hb dLW_law_1208 (by decide) ?_
      refine lv_iadd hx hb dLW_law_1209 ?_
      refine xt_i (y := nI (12 * t9 + 1)) (nI_add _ _) ?_
      refine xs_ld hx hb hXs hbl hbA (Nat.lt_of_le_of_lt hL (by decide)) hS (12 * t9 + 1) (by omega) dLW_law_1210 ?_
      refine lv_aload_n hx hb dLW_law_1211 rfl (lv_at hl 1 rfl) ?_
      refine lv_iload hx hb dLW_law_1212 (lv_at hl 5 rfl) ?_
      refine lv_iconst (v := nI 2) hx hb dLW_law_1214 (by decide) ?_
      refine lv_iadd hx hb dLW_law_1215 ?_
      refine xt_i (y := nI (12 * t9 + 2)) (nI_add _ _) ?_
      refine xs_ld hx hb hXs hbl hbA (Nat.lt_of_le_of_lt hL (by decide)) hS (12 * t9 + 2) (by omega) dLW_law_1216 ?_
      refine lv_i2l (v := (sc (12 * t9 + 2)).toInt64) hx hb dLW_law_1217 rfl ?_
      refine lv_bipush (v := nI 32) hx hb dLW_law_1218 (by decide) ?_
      refine lv_lshl (v := j_lshl ((sc (12 * t9 + 2)).toInt64) (nI 32)) hx hb dLW_law_1220 rfl ?_
      refine lv_aload_n hx hb dLW_law_1221 rfl (lv_at hl 1 rfl) ?_
      refine lv_iload hx hb dLW_law_1222 (lv_at hl 5 rfl) ?_
      refine lv_iconst (v := nI 3) hx hb dLW_law_1224 (by decide) ?_
      refine lv_iadd hx hb dLW_law_1225 ?_
      refine xt_i (y := nI (12 * t9 + 3)) (nI_add _ _) ?_
      refine xs_ld hx hb hXs hbl hbA (Nat.lt_of_le_of_lt hL (by decide)) hS (12 * t9 + 3) (by omega) dLW_law_1226 ?_
      refine lv_i2l (v := (sc (12 * t9 + 3)).toInt64) hx hb dLW_law_1227 rfl ?_
      refine lv_ldc2 (v := 4294967295) hx hb hown (hts _ w_j_LW_68) dLW_law_1228 ?_
      refine lv_land hx hb dLW_law_1231 ?_
      refine lv_lor hx hb dLW_law_1232 ?_
      refine xt_l (y := lc_lg sc (12 * t9 + 2)) (rfl) ?_
      refine lv_aload_n hx hb dLW_law_1233 rfl (lv_at hl 1 rfl) ?_
      refine lv_iload hx hb dLW_law_1234 (lv_at hl 5 rfl) ?_
      refine lv_iconst (v := nI 4) hx hb dLW_law_1236 (by decide) ?_
      refine lv_iadd hx hb dLW_law_1237 ?_
      refine xt_i (y := nI (12 * t9 + 4)) (nI_add _ _) ?_
      refine xs_ld hx hb hXs hbl hbA (Nat.lt_of_le_of_lt hL (by decide)) hS (12 * t9 + 4) (by omega) dLW_law_1238 ?_
      refine lv_i2l (v := (sc (12 * t9 + 4)).toInt64) hx hb dLW_law_1239 rfl ?_
      refine lv_bipush (v := nI 32) hx hb dLW_law_1240 (by decide) ?_
      refine lv_lshl (v := j_lshl ((sc (12 * t9 + 4)).toInt64) (nI 32)) hx hb dLW_law_1242 rfl ?_
      refine lv_aload_n hx hb dLW_law_1243 rfl (lv_at hl 1 rfl) ?_
      refine lv_iload hx hb dLW_law_1244 (lv_at hl 5 rfl) ?_
      refine lv_iconst (v := nI 5) hx hb dLW_law_1246 (by decide) ?_
      refine lv_iadd hx hb dLW_law_1247 ?_
      refine xt_i (y := nI (12 * t9 + 5)) (nI_add _ _) ?_
      refine xs_ld hx hb hXs hbl hbA (Nat.lt_of_le_of_lt hL (by decide)) hS (12 * t9 + 5) (by omega) dLW_law_1248 ?_
      refine lv_i2l (v := (sc (12 * t9 + 5)).toInt64) hx hb dLW_law_1249 rfl ?_
      refine lv_ldc2 (v := 4294967295) hx hb hown (hts _ w_j_LW_68) dLW_law_1250 ?_
      refine lv_land hx hb dLW_law_1253 ?_
      refine lv_lor hx hb dLW_law_1254 ?_
      refine xt_l (y := lc_lg sc (12 * t9 + 4)) (rfl) ?_
      refine lv_aload_n hx hb dLW_law_1255 rfl (lv_at hl 1 rfl) ?_
      refine lv_iload hx hb dLW_law_1256 (lv_at hl 5 rfl) ?_
      refine lv_bipush (v := nI 6) hx hb dLW_law_1258 (by decide) ?_
      refine lv_iadd hx hb dLW_law_1260 ?_
      refine xt_i (y := nI (12 * t9 + 6)) (nI_add _ _) ?_
      refine xs_ld hx hb hXs hbl hbA (Nat.lt_of_le_of_lt hL (by decide)) hS (12 * t9 + 6) (by omega) dLW_law_1261 ?_
      refine lv_if_eq (tgt := 1269) hx hb dLW_law_1262 (by decide) (fun _ => ?_) (fun h => absurd (h6) h)
      refine lv_iconst (v := nI 0) hx hb dLW_law_1269 (by decide) ?_
      refine xt_i (y := bs_z false) (rfl) ?_
      have hPc := hP.sub (ws' := [(o, .inr (6, [.int th, .ref xv, .ref xo, .ref xn, .ref xc, .ref xb, .ref xd, .ref xq, .ref xa, .ref xk, .ref xt, .ref xh, .ref xs, .ref xS, .ref xw, .ref xW, .ref xB, .ref xM, .long jf, .long js, .int jb, .long nf, .long ns, .int nb, .ref xf, .ref xg, .ref xi]))]) [6] rfl
      have hDc := hD.sub (ws' := [(o, .inr (6, [.int th, .ref xv, .ref xo, .ref xn, .ref xc, .ref xb, .ref xd, .ref xq, .ref xa, .ref xk, .ref xt, .ref xh, .ref xs, .ref xS, .ref xw, .ref xW, .ref xB, .ref xM, .long jf, .long js, .int jb, .long nf, .long ns, .int nb, .ref xf, .ref xg, .ref xi]))]) [6] (by decide) rfl
      have hKc := hK.sub (tys' := []) [] rfl
      have hFc := va_free (wc := [(o, .inr (6, [.int th, .ref xv, .ref xo, .ref xn, .ref xc, .ref xb, .ref xd, .ref xq, .ref xa, .ref xk, .ref xt, .ref xh, .ref xs, .ref xS, .ref xw, .ref xW, .ref xB, .ref xM, .long jf, .long js, .int jb, .long nf, .long ns, .int nb, .ref xf, .ref xg, .ref xi]))]) hD hS hA [6] rfl
      refine va_calll (va_runV (C := RMO) (As := [.int (sc (12 * t9 + 1)), .long (lc_lg sc (12 * t9 + 2)), .long (lc_lg sc (12 * t9 + 4)), .int (bs_z false)]) (rest := []) ⟨hx, hb, hml, hown, hts⟩ (c_MO_cipher_n l dC dI H.size o xv xo xn xc xb xd xq xa xk xt xh xs xS xw xW xB xM xf xg xi th jf js jb nf ns nb (sc (12 * t9 + 1)) (bs_z false) (lc_lg sc (12 * t9 + 2)) (lc_lg sc (12 * t9 + 4)) hs9) (cwV (C := RMO) 4 hts (wT_4 w_m_LW_127 w_i_MO_cipher w_s_MO_cipher w_n_MO w_c_MO_cipher) rfl rfl rfl (by decide +kernel) ⟨Nat.le_of_ble_eq_true rfl, Nat.le_of_ble_eq_true rfl⟩) ⟨fun a U g mk q => by obtain ⟨q0, q1, qP, qK, qD⟩ := q; exact ⟨q0, q1, qP, va_K.moved (u := U) (U := U.calling g mk a) (Vm.Alike.refl U.vm) qK, qD⟩, va_recv hK hP (q0 := 6) (ci := 6) (q := (RMO, TMO, 27)) rfl rfl, fun U hU hW => ⟨rfl, by rw [hU], by rw [hU]; exact hPc, va_K.moved hW.alike hKc, hDc.weaken (fun _ _ _ _ => trivial)⟩⟩ rfl rfl hl.1 rfl (lv_room (Nat.le_of_ble_eq_true rfl)) dLW_law_1270 ⟨show k9 + 1 + 0 ≤ 601024 from by omega, show n9 + 6 + 0 ≤ 7293034 from by omega⟩) hS (fun q _ h => hFc q h) hFc (fun r u t H1 locs ht hvm hw hB hz1 hk1 hS => ?_)
      obtain ⟨hP1, hK1, hD1⟩ := hB
      rw [ht] at hP1
      have hK1 := va_K.moved hvm.symm hK1
      have hw : r = 0 := hw
      rw [hw]
      obtain ⟨hP, hD⟩ := xj_join (wt := wt) (wr := [(q, .inr (0, [.ref sb, .ref co, .ref rk, .long f1, .long f2, .int bt])), (sb, .inl (cI, 256, .inl bs_SBf)), (co, .inl (cI, 256, .inl bs_CTf)), (rk, .inl (cR, 2, .inr (.inr (.inr (.inr (bs_gl [rk0, rk1])))))), (rk0, .inl (cI, 44, .inl bs_V0)), (rk1, .inl (cI, 44, .inl bs_V1)), (xB, .inl (cI, 16, .inl bl)), (xM, .inl (cI, 16, .inl mv)), (xS, .inl (cI, 256, .inl (bs_fn bs_SB))), (xw, .inl (cI, 256, .inl (bs_fn bs_tX))), (xW, .inl (cI, 352, .inl (bs_fn bs_KK))), (ou, .inl (cL, 1, .inr (.inl fz))), (bo, .inr (5, [.ref q, .ref km, .ref ka, .ref cs]))]) (w1 := [(o, .inr (6, [.int (nI 1), .ref xv, .ref xo, .ref xn, .ref xc, .ref xb, .ref xd, .ref xq, .ref xa, .ref xk, .ref xt, .ref xh, .ref xs, .ref xS, .ref xw, .ref xW, .ref xB, .ref xM, .long jf, .long js, .int jb, .long nf, .long ns, .int nb, .ref xf, .ref xg, .ref xi]))]) hP hD [6] [0, 1, 2, 3, 4, 5, 7, 8, 9, 10, 11, 12, 13] rfl rfl (by decide) (by decide) hk1 hFc hP1 hD1
      generalize H1 = H at hP hS ⊢
      have hP : va_P (dC, dI) vwCl (xj_ap [(q, .inr (0, [.ref sb, .ref co, .ref rk, .long f1, .long f2, .int bt])), (sb, .inl (cI, 256, .inl bs_SBf)), (co, .inl (cI, 256, .inl bs_CTf)), (rk, .inl (cR, 2, .inr (.inr (.inr (.inr (bs_gl [rk0, rk1])))))), (rk0, .inl (cI, 44, .inl bs_V0)), (rk1, .inl (cI, 44, .inl bs_V1)), (xB, .inl (cI, 16, .inl bl)), (xM, .inl (cI, 16, .inl mv)), (xS, .inl (cI, 256, .inl (bs_fn bs_SB))), (xw, .inl (cI, 256, .inl (bs_fn bs_tX))), (xW, .inl (cI, 352, .inl (bs_fn bs_KK))), (ou, .inl (cL, 1, .inr (.inl fz))), (bo, .inr (5, [.ref q, .ref km, .ref ka, .ref cs])), (o, .inr (6, [.int (nI 1), .ref xv, .ref xo, .ref xn, .ref xc, .ref xb, .ref xd, .ref xq, .ref xa, .ref xk, .ref xt, .ref xh, .ref xs, .ref xS, .ref xw, .ref xW, .ref xB, .ref xM, .long jf, .long js, .int jb, .long nf, .long ns, .int nb, .ref xf, .ref xg, .ref xi]))] wt) H := hP
      have hD : va_D A (xj_ap [(q, .inr (0, [.ref sb, .ref co, .ref rk, .long f1, .long f2, .int bt])), (sb, .inl (cI, 256, .inl bs_SBf)), (co, .inl (cI, 256, .inl bs_CTf)), (rk, .inl (cR, 2, .inr (.inr (.inr (.inr (bs_gl [rk0, rk1])))))), (rk0, .inl (cI, 44, .inl bs_V0)), (rk1, .inl (cI, 44, .inl bs_V1)), (xB, .inl (cI, 16, .inl bl)), (xM, .inl (cI, 16, .inl mv)), (xS, .inl (cI, 256, .inl (bs_fn bs_SB))), (xw, .inl (cI, 256, .inl (bs_fn bs_tX))), (xW, .inl (cI, 352, .inl (bs_fn bs_KK))), (ou, .inl (cL, 1, .inr (.inl fz))), (bo, .inr (5, [.ref q, .ref km, .ref ka, .ref cs])), (o, .inr (6, [.int (nI 1), .ref xv, .ref xo, .ref xn, .ref xc, .ref xb, .ref xd, .ref xq, .ref xa, .ref xk, .ref xt, .ref xh, .ref xs, .ref xS, .ref xw, .ref xW, .ref xB, .ref xM, .long jf, .long js, .int jb, .long nf, .long ns, .int nb, .ref xf, .ref xg, .ref xi]))] wt) := hD
      refine lv_lstore (lv' := [(6, .long 0), (5, .int (nI 1)), (0, .ref b), (1, .ref bo), (2, .ref o), (3, .ref ou), (4, .int (nI (12 * t9)))]) hx hb dLW_law_1273 hl (by decide) rfl (fun ls hl => ?_)
      refine lv_aload_n hx hb dLW_law_1275 rfl (lv_at hl 4 rfl) ?_
      have hPc := hP.sub (ws' := [(o, .inr (6, [.int (nI 1), .ref xv, .ref xo, .ref xn, .ref xc, .ref xb, .ref xd, .ref xq, .ref xa, .ref xk, .ref xt, .ref xh, .ref xs, .ref xS, .ref xw, .ref xW, .ref xB, .ref xM, .long jf, .long js, .int jb, .long nf, .long ns, .int nb, .ref xf, .ref xg, .ref xi]))]) [13] rfl
      have hDc := hD.sub (ws' := [(o, .inr (6, [.int (nI 1), .ref xv, .ref xo, .ref xn, .ref xc, .ref xb, .ref xd, .ref xq, .ref xa, .ref xk, .ref xt, .ref xh, .ref xs, .ref xS, .ref xw, .ref xW, .ref xB, .ref xM, .long jf, .long js, .int jb, .long nf, .long ns, .int nb, .ref xf, .ref xg, .ref xi]))]) [13] (by decide) rfl
      have hKc := hK.sub (tys' := []) [] rfl
      have hFc := va_free (wc := [(o, .inr (6, [.int (nI 1), .ref xv, .ref xo, .ref xn, .ref xc, .ref xb, .ref xd, .ref xq, .ref xa, .ref xk, .ref xt, .ref xh, .ref xs, .ref xS, .ref xw, .ref xW, .ref xB, .ref xM, .long jf, .long js, .int jb, .long nf, .long ns, .int nb, .ref xf, .ref xg, .ref xi]))]) hD hS hA [13] rfl
      refine va_calli (va_runV (C := RMO) (As := []) (rest := []) ⟨hx, hb, hml, hown, hts⟩ (c_MO_thrown l dC dI H.size o xv xo xn xc xb xd xq xa xk xt xh xs xS xw xW xB xM xf xg xi (nI 1) jf js jb nf ns nb) (cwV (C := RMO) 0 hts (wT_4 w_m_LW_76 w_i_MO_thrown w_s_MO_thrown w_n_MO w_c_MO_thrown) rfl rfl rfl (by decide +kernel) ⟨Nat.le_of_ble_eq_true rfl, Nat.le_of_ble_eq_true rfl⟩) ⟨fun a U g mk q => by obtain ⟨q0, q1, qP, qK, qD⟩ := q; exact ⟨q0, q1, qP, va_K.moved (u := U) (U := U.calling g mk a) (Vm.Alike.refl U.vm) qK, qD⟩, va_recv hK hP (q0 := 13) (ci := 6) (q := (RMO, TMO, 27)) rfl rfl, fun U hU hW => ⟨rfl, by rw [hU], by rw [hU]; exact hPc, va_K.moved hW.alike hKc, hDc.weaken (fun _ _ _ _ => trivial)⟩⟩ rfl rfl hl.1 rfl (lv_room (Nat.le_of_ble_eq_true rfl)) dLW_law_1276 ⟨show k9 + 1 + 0 ≤ 601024 from by omega, show n9 + 6 + 0 ≤ 7293034 from by omega⟩) hS (fun q _ h => hFc q h) hFc (fun r u t H1 locs ht hvm hw hB hz1 hk1 hS => ?_)
      obtain ⟨hP1, hK1, hD1⟩ := hB
      rw [ht] at hP1
      have hK1 := va_K.moved hvm.symm hK1
      have hw : r = nI 1 := hw
      rw [hw]
      obtain ⟨hP, hD⟩ := xj_join (wt := wt) (wr := [(q, .inr (0, [.ref sb, .ref co, .ref rk, .long f1, .long f2, .int bt])), (sb, .inl (cI, 256, .inl bs_SBf)), (co, .inl (cI, 256, .inl bs_CTf)), (rk, .inl (cR, 2, .inr (.inr (.inr (.inr (bs_gl [rk0, rk1])))))), (rk0, .inl (cI, 44, .inl bs_V0)), (rk1, .inl (cI, 44, .inl bs_V1)), (xB, .inl (cI, 16, .inl bl)), (xM, .inl (cI, 16, .inl mv)), (xS, .inl (cI, 256, .inl (bs_fn bs_SB))), (xw, .inl (cI, 256, .inl (bs_fn bs_tX))), (xW, .inl (cI, 352, .inl (bs_fn bs_KK))), (ou, .inl (cL, 1, .inr (.inl fz))), (bo, .inr (5, [.ref q, .ref km, .ref ka, .ref cs]))]) (w1 := [(o, .inr (6, [.int (nI 1), .ref xv, .ref xo, .ref xn, .ref xc, .ref xb, .ref xd, .ref xq, .ref xa, .ref xk, .ref xt, .ref xh, .ref xs, .ref xS, .ref xw, .ref xW, .ref xB, .ref xM, .long jf, .long js, .int jb, .long nf, .long ns, .int nb, .ref xf, .ref xg, .ref xi]))]) hP hD [13] [0, 1, 2, 3, 4, 5, 6, 7, 8, 9, 10, 11, 12] rfl rfl (by decide) (by decide) hk1 hFc hP1 hD1
      generalize H1 = H at hP hS ⊢
      have hP : va_P (dC, dI) vwCl (xj_ap [(q, .inr (0, [.ref sb, .ref co, .ref rk, .long f1, .long f2, .int bt])), (sb, .inl (cI, 256, .inl bs_SBf)), (co, .inl (cI, 256, .inl bs_CTf)), (rk, .inl (cR, 2, .inr (.inr (.inr (.inr (bs_gl [rk0, rk1])))))), (rk0, .inl (cI, 44, .inl bs_V0)), (rk1, .inl (cI, 44, .inl bs_V1)), (xB, .inl (cI, 16, .inl bl)), (xM, .inl (cI, 16, .inl mv)), (xS, .inl (cI, 256, .inl (bs_fn bs_SB))), (xw, .inl (cI, 256, .inl (bs_fn bs_tX))), (xW, .inl (cI, 352, .inl (bs_fn bs_KK))), (ou, .inl (cL, 1, .inr (.inl fz))), (bo, .inr (5, [.ref q, .ref km, .ref ka, .ref cs])), (o, .inr (6, [.int (nI 1), .ref xv, .ref xo, .ref xn, .ref xc, .ref xb, .ref xd, .ref xq, .ref xa, .ref xk, .ref xt, .ref xh, .ref xs, .ref xS, .ref xw, .ref xW, .ref xB, .ref xM, .long jf, .long js, .int jb, .long nf, .long ns, .int nb, .ref xf, .ref xg, .ref xi]))] wt) H := hP
      have hD : va_D A (xj_ap [(q, .inr (0, [.ref sb, .ref co, .ref rk, .long f1, .long f2, .int bt])), (sb, .inl (cI, 256, .inl bs_SBf)), (co, .inl (cI, 256, .inl bs_CTf)), (rk, .inl (cR, 2, .inr (.inr (.inr (.inr (bs_gl [rk0, rk1])))))), (rk0, .inl (cI, 44, .inl bs_V0)), (rk1, .inl (cI, 44, .inl bs_V1)), (xB, .inl (cI, 16, .inl bl)), (xM, .inl (cI, 16, .inl mv)), (xS, .inl (cI, 256, .inl (bs_fn bs_SB))), (xw, .inl (cI, 256, .inl (bs_fn bs_tX))), (xW, .inl (cI, 352, .inl (bs_fn bs_KK))), (ou, .inl (cL, 1, .inr (.inl fz))), (bo, .inr (5, [.ref q, .ref km, .ref ka, .ref cs])), (o, .inr (6, [.int (nI 1), .ref xv, .ref xo, .ref xn, .ref xc, .ref xb, .ref xd, .ref xq, .ref xa, .ref xk, .ref xt, .ref xh, .ref xs, .ref xS, .ref xw, .ref xW, .ref xB, .ref xM, .long jf, .long js, .int jb, .long nf, .long ns, .int nb, .ref xf, .ref xg, .ref xi]))] wt) := hD
      refine lv_iload hx hb dLW_law_1279 (lv_at hl 1 rfl) ?_
      refine lv_icmp_eq (tgt := 1286) hx hb dLW_law_1281 (by decide) (fun _ => ?_) (fun h => absurd (rfl) h)
      refine lv_iload hx hb dLW_law_1286 (lv_at hl 1 rfl) ?_
      refine lv_if_ne (tgt := 1302) hx hb dLW_law_1288 (by decide) (fun _ => ?_) (fun h => absurd h (by decide +kernel))
      refine lv_goto (tgt := 1342) hx hb dLW_law_1302 (by decide) ?_
      have hP := xj_subP (ws' := [(bo, .inr (5, [.ref q, .ref km, .ref ka, .ref cs])), (q, .inr (0, [.ref sb, .ref co, .ref rk, .long f1, .long f2, .int bt])), (sb, .inl (cI, 256, .inl bs_SBf)), (co, .inl (cI, 256, .inl bs_CTf)), (rk, .inl (cR, 2, .inr (.inr (.inr (.inr (bs_gl [rk0, rk1])))))), (rk0, .inl (cI, 44, .inl bs_V0)), (rk1, .inl (cI, 44, .inl bs_V1)), (o, .inr (6, [.int (nI 1), .ref xv, .ref xo, .ref xn, .ref xc, .ref xb, .ref xd, .ref xq, .ref xa, .ref xk, .ref xt, .ref xh, .ref xs, .ref xS, .ref xw, .ref xW, .ref xB, .ref xM, .long jf, .long js, .int jb, .long nf, .long ns, .int nb, .ref xf, .ref xg, .ref xi])), (xB, .inl (cI, 16, .inl bl)), (xM, .inl (cI, 16, .inl mv)), (xS, .inl (cI, 256, .inl (bs_fn bs_SB))), (xw, .inl (cI, 256, .inl (bs_fn bs_tX))), (xW, .inl (cI, 352, .inl (bs_fn bs_KK))), (ou, .inl (cL, 1, .inr (.inl fz)))]) hP [12, 0, 1, 2, 3, 4, 5, 13, 6, 7, 8, 9, 10, 11] rfl
      have hD := xj_subD (ws' := [(bo, .inr (5, [.ref q, .ref km, .ref ka, .ref cs])), (q, .inr (0, [.ref sb, .ref co, .ref rk, .long f1, .long f2, .int bt])), (sb, .inl (cI, 256, .inl bs_SBf)), (co, .inl (cI, 256, .inl bs_CTf)), (rk, .inl (cR, 2, .inr (.inr (.inr (.inr (bs_gl [rk0, rk1])))))), (rk0, .inl (cI, 44, .inl bs_V0)), (rk1, .inl (cI, 44, .inl bs_V1)), (o, .inr (6, [.int (nI 1), .ref xv, .ref xo, .ref xn, .ref xc, .ref xb, .ref xd, .ref xq, .ref xa, .ref xk, .ref xt, .ref xh, .ref xs, .ref xS, .ref xw, .ref xW, .ref xB, .ref xM, .long jf, .long js, .int jb, .long nf, .long ns, .int nb, .ref xf, .ref xg, .ref xi])), (xB, .inl (cI, 16, .inl bl)), (xM, .inl (cI, 16, .inl mv)), (xS, .inl (cI, 256, .inl (bs_fn bs_SB))), (xw, .inl (cI, 256, .inl (bs_fn bs_tX))), (xW, .inl (cI, 352, .inl (bs_fn bs_KK))), (ou, .inl (cL, 1, .inr (.inl fz)))]) hD [12, 0, 1, 2, 3, 4, 5, 13, 6, 7, 8, 9, 10, 11] (by decide) rfl
      have hP : va_P (dC, dI) vwCl (xj_ap [(bo, .inr (5, [.ref q, .ref km, .ref ka, .ref cs])), (q, .inr (0, [.ref sb, .ref co, .ref rk, .long f1, .long f2, .int bt])), (sb, .inl (cI, 256, .inl bs_SBf)), (co, .inl (cI, 256, .inl bs_CTf)), (rk, .inl (cR, 2, .inr (.inr (.inr (.inr (bs_gl [rk0, rk1])))))), (rk0, .inl (cI, 44, .inl bs_V0)), (rk1, .inl (cI, 44, .inl bs_V1)), (o, .inr (6, [.int (nI 1), .ref xv, .ref xo, .ref xn, .ref xc, .ref xb, .ref xd, .ref xq, .ref xa, .ref xk, .ref xt, .ref xh, .ref xs, .ref xS, .ref xw, .ref xW, .ref xB, .ref xM, .long jf, .long js, .int jb, .long nf, .long ns, .int nb, .ref xf, .ref xg, .ref xi])), (xB, .inl (cI, 16, .inl bl)), (xM, .inl (cI, 16, .inl mv)), (xS, .inl (cI, 256, .inl (bs_fn bs_SB))), (xw, .inl (cI, 256, .inl (bs_fn bs_tX))), (xW, .inl (cI, 352, .inl (bs_fn bs_KK))), (ou, .inl (cL, 1, .inr (.inl fz)))] wt) H := hP
      have hD : va_D A (xj_ap [(bo, .inr (5, [.ref q, .ref km, .ref ka, .ref cs])), (q, .inr (0, [.ref sb, .ref co, .ref rk, .long f1, .long f2, .int bt])), (sb, .inl (cI, 256, .inl bs_SBf)), (co, .inl (cI, 256, .inl bs_CTf)), (rk, .inl (cR, 2, .inr (.inr (.inr (.inr (bs_gl [rk0, rk1])))))), (rk0, .inl (cI, 44, .inl bs_V0)), (rk1, .inl (cI, 44, .inl bs_V1)), (o, .inr (6, [.int (nI 1), .ref xv, .ref xo, .ref xn, .ref xc, .ref xb, .ref xd, .ref xq, .ref xa, .ref xk, .ref xt, .ref xh, .ref xs, .ref xS, .ref xw, .ref xW, .ref xB, .ref xM, .long jf, .long js, .int jb, .long nf, .long ns, .int nb, .ref xf, .ref xg, .ref xi])), (xB, .inl (cI, 16, .inl bl)), (xM, .inl (cI, 16, .inl mv)), (xS, .inl (cI, 256, .inl (bs_fn bs_SB))), (xw, .inl (cI, 256, .inl (bs_fn bs_tX))), (xW, .inl (cI, 352, .inl (bs_fn bs_KK))), (ou, .inl (cL, 1, .inr (.inl fz)))] wt) := hD
      have hl := lv_sub hl (l' := [(0, .ref b), (1, .ref bo), (2, .ref o), (3, .ref ou), (4, .int (nI (12 * t9)))]) [2, 3, 4, 5, 6] rfl
      exact hk f1 f2 bl mv (nI 1) fz H _ ls (hJ) hP hD hS hl
  · rcases Bool.eq_false_or_eq_true (bs_ii (sc (12 * t9 + 1)) 2) with hs9 | hs9
    · obtain ⟨x9, hx9, hxe⟩ := bs_ii_t hs9
      obtain rfl | rfl : x9 = 0 ∨ x9 = 1 := by omega
      · refine lv_aload_n hx hb dLW_law_1132 rfl (lv_at hl 1 rfl) ?_
        refine lv_aload_n hx hb dLW_law_1133 rfl (lv_at hl 0 rfl) ?_
        refine lv_iload hx hb dLW_law_1134 (lv_at hl 4 rfl) ?_
        refine lv_iconst (v := nI 1) hx hb dLW_law_1136 (by decide) ?_
        refine lv_iadd hx hb dLW_law_1137 ?_
        refine xt_i (y := nI (12 * t9 + 1)) (nI_add _ _) ?_
        refine xs_ld hx hb hXs hbl hbA (Nat.lt_of_le_of_lt hL (by decide)) hS (12 * t9 + 1) (by omega) dLW_law_1138 ?_
        refine xt_i (y := nI 0) (hxe) ?_
        refine lv_aload_n hx hb dLW_law_1139 rfl (lv_at hl 0 rfl) ?_
        refine lv_iload hx hb dLW_law_1140 (lv_at hl 4 rfl) ?_
        refine lv_iconst (v := nI 2) hx hb dLW_law_1142 (by decide) ?_
        refine lv_iadd hx hb dLW_law_1143 ?_
        refine xt_i (y := nI (12 * t9 + 2)) (nI_add _ _) ?_
        refine xs_ld hx hb hXs hbl hbA (Nat.lt_of_le_of_lt hL (by decide)) hS (12 * t9 + 2) (by omega) dLW_law_1144 ?_
        refine lv_i2l (v := (sc (12 * t9 + 2)).toInt64) hx hb dLW_law_1145 rfl ?_
        refine lv_bipush (v := nI 32) hx hb dLW_law_1146 (by decide) ?_
        refine lv_lshl (v := j_lshl ((sc (12 * t9 + 2)).toInt64) (nI 32)) hx hb dLW_law_1148 rfl ?_
        refine lv_aload_n hx hb dLW_law_1149 rfl (lv_at hl 0 rfl) ?_
        refine lv_iload hx hb dLW_law_1150 (lv_at hl 4 rfl) ?_
        refine lv_iconst (v := nI 3) hx hb dLW_law_1152 (by decide) ?_
        refine lv_iadd hx hb dLW_law_1153 ?_
        refine xt_i (y := nI (12 * t9 + 3)) (nI_add _ _) ?_
        refine xs_ld hx hb hXs hbl hbA (Nat.lt_of_le_of_lt hL (by decide)) hS (12 * t9 + 3) (by omega) dLW_law_1154 ?_
        refine lv_i2l (v := (sc (12 * t9 + 3)).toInt64) hx hb dLW_law_1155 rfl ?_
        refine lv_ldc2 (v := 4294967295) hx hb hown (hts _ w_j_LW_68) dLW_law_1156 ?_
        refine lv_land hx hb dLW_law_1159 ?_
        refine lv_lor hx hb dLW_law_1160 ?_
        refine xt_l (y := lc_lg sc (12 * t9 + 2)) (rfl) ?_
        refine lv_aload_n hx hb dLW_law_1161 rfl (lv_at hl 0 rfl) ?_
        refine lv_iload hx hb dLW_law_1162 (lv_at hl 4 rfl) ?_
        refine lv_iconst (v := nI 4) hx hb dLW_law_1164 (by decide) ?_
        refine lv_iadd hx hb dLW_law_1165 ?_
        refine xt_i (y := nI (12 * t9 + 4)) (nI_add _ _) ?_
        refine xs_ld hx hb hXs hbl hbA (Nat.lt_of_le_of_lt hL (by decide)) hS (12 * t9 + 4) (by omega) dLW_law_1166 ?_
        refine lv_i2l (v := (sc (12 * t9 + 4)).toInt64) hx hb dLW_law_1167 rfl ?_
        refine lv_bipush (v := nI 32) hx hb dLW_law_1168 (by decide) ?_
        refine lv_lshl (v := j_lshl ((sc (12 * t9 + 4)).toInt64) (nI 32)) hx hb dLW_law_1170 rfl ?_
        refine lv_aload_n hx hb dLW_law_1171 rfl (lv_at hl 0 rfl) ?_
        refine lv_iload hx hb dLW_law_1172 (lv_at hl 4 rfl) ?_
        refine lv_iconst (v := nI 5) hx hb dLW_law_1174 (by decide) ?_
        refine lv_iadd hx hb dLW_law_1175 ?_
        refine xt_i (y := nI (12 * t9 + 5)) (nI_add _ _) ?_
        refine xs_ld hx hb hXs hbl hbA (Nat.lt_of_le_of_lt hL (by decide)) hS (12 * t9 + 5) (by omega) dLW_law_1176 ?_
        refine lv_i2l (v := (sc (12 * t9 + 5)).toInt64) hx hb dLW_law_1177 rfl ?_
        refine lv_ldc2 (v := 4294967295) hx hb hown (hts _ w_j_LW_68) dLW_law_1178 ?_
        refine lv_land hx hb dLW_law_1181 ?_
        refine lv_lor hx hb dLW_law_1182 ?_
        refine xt_l (y := lc_lg sc (12 * t9 + 4)) (rfl) ?_
        refine lv_aload_n hx hb dLW_law_1183 rfl (lv_at hl 0 rfl) ?_
        refine lv_iload hx hb dLW_law_1184 (lv_at hl 4 rfl) ?_
        refine lv_bipush (v := nI 6) hx hb dLW_law_1186 (by decide) ?_
        refine lv_iadd hx hb dLW_law_1188 ?_
        refine xt_i (y := nI (12 * t9 + 6)) (nI_add _ _) ?_
        refine xs_ld hx hb hXs hbl hbA (Nat.lt_of_le_of_lt hL (by decide)) hS (12 * t9 + 6) (by omega) dLW_law_1189 ?_
        refine lv_if_eq (tgt := 1197) hx hb dLW_law_1190 (by decide) (fun h => absurd h (h6)) (fun _ => ?_)
        refine lv_iconst (v := nI 1) hx hb dLW_law_1193 (by decide) ?_
        refine lv_goto (tgt := 1198) hx hb dLW_law_1194 (by decide) ?_
        refine xt_i (y := bs_z true) (rfl) ?_
        refine lv_aload_n hx hb dLW_law_1198 rfl (lv_at hl 3 rfl) ?_
        have hPc := hP.sub (ws' := [(bo, .inr (5, [.ref q, .ref km, .ref ka, .ref cs])), (q, .inr (0, [.ref sb, .ref co, .ref rk, .long f1, .long f2, .int bt])), (sb, .inl (cI, 256, .inl bs_SBf)), (co, .inl (cI, 256, .inl bs_CTf)), (rk, .inl (cR, 2, .inr (.inr (.inr (.inr (bs_gl [rk0, rk1])))))), (rk0, .inl (cI, 44, .inl bs_V0)), (ou, .inl (cL, 1, .inr (.inl fz)))]) [0, 1, 2, 3, 4, 5, 13] rfl
        have hDc := hD.sub (ws' := [(bo, .inr (5, [.ref q, .ref km, .ref ka, .ref cs])), (q, .inr (0, [.ref sb, .ref co, .ref rk, .long f1, .long f2, .int bt])), (sb, .inl (cI, 256, .inl bs_SBf)), (co, .inl (cI, 256, .inl bs_CTf)), (rk, .inl (cR, 2, .inr (.inr (.inr (.inr (bs_gl [rk0, rk1])))))), (rk0, .inl (cI, 44, .inl bs_V0)), (ou, .inl (cL, 1, .inr (.inl fz)))]) [0, 1, 2, 3, 4, 5, 13] (by decide) rfl
        have hKc := hK.sub (tys' := [(cI, .int), (cR, .array .int), (cL, .long)]) [0, 3, 1] rfl
        have hFc := va_free (wc := [(bo, .inr (5, [.ref q, .ref km, .ref ka, .ref cs])), (q, .inr (0, [.ref sb, .ref co, .ref rk, .long f1, .long f2, .int bt])), (sb, .inl (cI, 256, .inl bs_SBf)), (co, .inl (cI, 256, .inl bs_CTf)), (rk, .inl (cR, 2, .inr (.inr (.inr (.inr (bs_gl [rk0, rk1])))))), (rk0, .inl (cI, 44, .inl bs_V0)), (ou, .inl (cL, 1, .inr (.inl fz)))]) hD hS hA [0, 1, 2, 3, 4, 5, 13] rfl
        refine va_calli (xs_runW (n := 6) (hh := [(0, 14, 17, 13)]) (As := [.ref bo, .int (nI 0), .long (lc_lg sc (12 * t9 + 2)), .long (lc_lg sc (12 * t9 + 4)), .int (bs_z true), .ref ou]) (rest := []) ⟨hx, hb, hml, hown, hts⟩ (c_LW_cipher_y l dC dI H.size bo km ka cs q sb co rk rk0 cI cR bs_SBf bs_CTf (bs_gl [rk0, rk1]) bs_V0 0 (lc_lg sc (12 * t9 + 2)) (lc_lg sc (12 * t9 + 4)) f1 f2 bt true cL ou fz (by decide) rfl) (wT_3 w_m_LW_124 w_t_LW_cipher w_n_LW w_c_LW_cipher) rfl rfl rfl (by decide +kernel) ⟨Nat.le_of_ble_eq_true rfl, Nat.le_of_ble_eq_true rfl⟩ ⟨fun a U g mk q => by obtain ⟨q0, q1, qP, qK, qD⟩ := q; exact ⟨q0, q1, qP, va_K.moved (u := U) (U := U.calling g mk a) (Vm.Alike.refl U.vm) qK, qD⟩, fun U hU hW => ⟨rfl, by rw [hU], by rw [hU]; exact hPc, va_K.moved hW.alike hKc, hDc.weaken (fun _ _ _ _ => trivial)⟩⟩ rfl rfl hl.1 rfl (lv_room (Nat.le_of_ble_eq_true rfl)) dLW_law_1199 ⟨show k9 + 1 ≤ 601024 from by omega, show n9 + 6 ≤ 7293034 from by omega⟩) hS (fun q _ h => hFc q h) hFc (fun r u t H1 locs ht hvm hw hB hz1 hk1 hS => ?_)
        obtain ⟨hP1, hK1, hD1⟩ := hB
        rw [ht] at hP1
        have hK1 := va_K.moved hvm.symm hK1
        have hw : r = nI 0 := hw
        rw [hw]
        obtain ⟨hP, hD⟩ := xj_join (wt := wt) (wr := [(rk1, .inl (cI, 44, .inl bs_V1)), (o, .inr (6, [.int th, .ref xv, .ref xo, .ref xn, .ref xc, .ref xb, .ref xd, .ref xq, .ref xa, .ref xk, .ref xt, .ref xh, .ref xs, .ref xS, .ref xw, .ref xW, .ref xB, .ref xM, .long jf, .long js, .int jb, .long nf, .long ns, .int nb, .ref xf, .ref xg, .ref xi])), (xB, .inl (cI, 16, .inl bl)), (xM, .inl (cI, 16, .inl mv)), (xS, .inl (cI, 256, .inl (bs_fn bs_SB))), (xw, .inl (cI, 256, .inl (bs_fn bs_tX))), (xW, .inl (cI, 352, .inl (bs_fn bs_KK)))]) (w1 := [(bo, .inr (5, [.ref q, .ref km, .ref ka, .ref cs])), (q, .inr (0, [.ref sb, .ref co, .ref rk, .long (bs_e1 bs_CTf bs_SBf bs_V0 (lc_lg sc (12 * t9 + 2)) (lc_lg sc (12 * t9 + 4))), .long (bs_e2 bs_CTf bs_SBf bs_V0 (lc_lg sc (12 * t9 + 2)) (lc_lg sc (12 * t9 + 4))), .int bt])), (sb, .inl (cI, 256, .inl bs_SBf)), (co, .inl (cI, 256, .inl bs_CTf)), (rk, .inl (cR, 2, .inr (.inr (.inr (.inr (bs_gl [rk0, rk1])))))), (rk0, .inl (cI, 44, .inl bs_V0)), (ou, .inl (cL, 1, .inr (.inl (vp_updL fz 0 (if true then bs_e1 bs_CTf bs_SBf bs_V0 (lc_lg sc (12 * t9 + 2)) (lc_lg sc (12 * t9 + 4)) else bs_e2 bs_CTf bs_SBf bs_V0 (lc_lg sc (12 * t9 + 2)) (lc_lg sc (12 * t9 + 4)))))))]) hP hD [0, 1, 2, 3, 4, 5, 13] [6, 7, 8, 9, 10, 11, 12] rfl rfl (by decide) (by decide) hk1 hFc hP1 hD1
        generalize H1 = H at hP hS ⊢
        have hP : va_P (dC, dI) vwCl (xj_ap [(rk1, .inl (cI, 44, .inl bs_V1)), (o, .inr (6, [.int th, .ref xv, .ref xo, .ref xn, .ref xc, .ref xb, .ref xd, .ref xq, .ref xa, .ref xk, .ref xt, .ref xh, .ref xs, .ref xS, .ref xw, .ref xW, .ref xB, .ref xM, .long jf, .long js, .int jb, .long nf, .long ns, .int nb, .ref xf, .ref xg, .ref xi])), (xB, .inl (cI, 16, .inl bl)), (xM, .inl (cI, 16, .inl mv)), (xS, .inl (cI, 256, .inl (bs_fn bs_SB))), (xw, .inl (cI, 256, .inl (bs_fn bs_tX))), (xW, .inl (cI, 352, .inl (bs_fn bs_KK))), (bo, .inr (5, [.ref q, .ref km, .ref ka, .ref cs])), (q, .inr (0, [.ref sb, .ref co, .ref rk, .long (bs_e1 bs_CTf bs_SBf bs_V0 (lc_lg sc (12 * t9 + 2)) (lc_lg sc (12 * t9 + 4))), .long (bs_e2 bs_CTf bs_SBf bs_V0 (lc_lg sc (12 * t9 + 2)) (lc_lg sc (12 * t9 + 4))), .int bt])), (sb, .inl (cI, 256, .inl bs_SBf)), (co, .inl (cI, 256, .inl bs_CTf)), (rk, .inl (cR, 2, .inr (.inr (.inr (.inr (bs_gl [rk0, rk1])))))), (rk0, .inl (cI, 44, .inl bs_V0)), (ou, .inl (cL, 1, .inr (.inl (vp_updL fz 0 (if true then bs_e1 bs_CTf bs_SBf bs_V0 (lc_lg sc (12 * t9 + 2)) (lc_lg sc (12 * t9 + 4)) else bs_e2 bs_CTf bs_SBf bs_V0 (lc_lg sc (12 * t9 + 2)) (lc_lg sc (12 * t9 + 4)))))))] wt) H := hP
        have hD : va_D A (xj_ap [(rk1, .inl (cI, 44, .inl bs_V1)), (o, .inr (6, [.int th, .ref xv, .ref xo, .ref xn, .ref xc, .ref xb, .ref xd, .ref xq, .ref xa, .ref xk, .ref xt, .ref xh, .ref xs, .ref xS, .ref xw, .ref xW, .ref xB, .ref xM, .long jf, .long js, .int jb, .long nf, .long ns, .int nb, .ref xf, .ref xg, .ref xi])), (xB, .inl (cI, 16, .inl bl)), (xM, .inl (cI, 16, .inl mv)), (xS, .inl (cI, 256, .inl (bs_fn bs_SB))), (xw, .inl (cI, 256, .inl (bs_fn bs_tX))), (xW, .inl (cI, 352, .inl (bs_fn bs_KK))), (bo, .inr (5, [.ref q, .ref km, .ref ka, .ref cs])), (q, .inr (0, [.ref sb, .ref co, .ref rk, .long (bs_e1 bs_CTf bs_SBf bs_V0 (lc_lg sc (12 * t9 + 2)) (lc_lg sc (12 * t9 + 4))), .long (bs_e2 bs_CTf bs_SBf bs_V0 (lc_lg sc (12 * t9 + 2)) (lc_lg sc (12 * t9 + 4))), .int bt])), (sb, .inl (cI, 256, .inl bs_SBf)), (co, .inl (cI, 256, .inl bs_CTf)), (rk, .inl (cR, 2, .inr (.inr (.inr (.inr (bs_gl [rk0, rk1])))))), (rk0, .inl (cI, 44, .inl bs_V0)), (ou, .inl (cL, 1, .inr (.inl (vp_updL fz 0 (if true then bs_e1 bs_CTf bs_SBf bs_V0 (lc_lg sc (12 * t9 + 2)) (lc_lg sc (12 * t9 + 4)) else bs_e2 bs_CTf bs_SBf bs_V0 (lc_lg sc (12 * t9 + 2)) (lc_lg sc (12 * t9 + 4)))))))] wt) := hD
        refine lv_istore (lv' := [(5, .int (nI 0)), (0, .ref b), (1, .ref bo), (2, .ref o), (3, .ref ou), (4, .int (nI (12 * t9)))]) hx hb dLW_law_1202 hl (by decide) rfl (fun ls hl => ?_)
        refine lv_aload_n hx hb dLW_law_1204 rfl (lv_at hl 3 rfl) ?_
        refine lv_aload_n hx hb dLW_law_1205 rfl (lv_at hl 1 rfl) ?_
        refine lv_iload hx hb dLW_law_1206 (lv_at hl 5 rfl) ?_
        refine lv_iconst (v := nI 1) hx hb dLW_law_1208 (by decide) ?_
        refine lv_iadd hx hb dLW_law_1209 ?_
        refine xt_i (y := nI (12 * t9 + 1)) (nI_add _ _) ?_
        refine xs_ld hx hb hXs hbl hbA (Nat.lt_of_le_of_lt hL (by decide)) hS (12 * t9 + 1) (by omega) dLW_law_1210 ?_
        refine xt_i (y := nI 0) (hxe) ?_
        refine lv_aload_n hx hb dLW_law_1211 rfl (lv_at hl 1 rfl) ?_
        refine lv_iload hx hb dLW_law_1212 (lv_at hl 5 rfl) ?_
        refine lv_iconst (v := nI 2) hx hb dLW_law_1214 (by decide) ?_
        refine lv_iadd hx hb dLW_law_1215 ?_
        refine xt_i (y := nI (12 * t9 + 2)) (nI_add _ _) ?_
        refine xs_ld hx hb hXs hbl hbA (Nat.lt_of_le_of_lt hL (by decide)) hS (12 * t9 + 2) (by omega) dLW_law_1216 ?_
        refine lv_i2l (v := (sc (12 * t9 + 2)).toInt64) hx hb dLW_law_1217 rfl ?_
        refine lv_bipush (v := nI 32) hx hb dLW_law_1218 (by decide) ?_
        refine lv_lshl (v := j_lshl ((sc (12 * t9 + 2)).toInt64) (nI 32)) hx hb dLW_law_1220 rfl ?_
        refine lv_aload_n hx hb dLW_law_1221 rfl (lv_at hl 1 rfl) ?_
        refine lv_iload hx hb dLW_law_1222 (lv_at hl 5 rfl) ?_
        refine lv_iconst (v := nI 3) hx hb dLW_law_1224 (by decide) ?_
        refine lv_iadd hx hb dLW_law_1225 ?_
        refine xt_i (y := nI (12 * t9 + 3)) (nI_add _ _) ?_
        refine xs_ld hx hb hXs hbl hbA (Nat.lt_of_le_of_lt hL (by decide)) hS (12 * t9 + 3) (by omega) dLW_law_1226 ?_
        refine lv_i2l (v := (sc (12 * t9 + 3)).toInt64) hx hb dLW_law_1227 rfl ?_
        refine lv_ldc2 (v := 4294967295) hx hb hown (hts _ w_j_LW_68) dLW_law_1228 ?_
        refine lv_land hx hb dLW_law_1231 ?_
        refine lv_lor hx hb dLW_law_1232 ?_
        refine xt_l (y := lc_lg sc (12 * t9 + 2)) (rfl) ?_
        refine lv_aload_n hx hb dLW_law_1233 rfl (lv_at hl 1 rfl) ?_
        refine lv_iload hx hb dLW_law_1234 (lv_at hl 5 rfl) ?_
        refine lv_iconst (v := nI 4) hx hb dLW_law_1236 (by decide) ?_
        refine lv_iadd hx hb dLW_law_1237 ?_
        refine xt_i (y := nI (12 * t9 + 4)) (nI_add _ _) ?_
        refine xs_ld hx hb hXs hbl hbA (Nat.lt_of_le_of_lt hL (by decide)) hS (12 * t9 + 4) (by omega) dLW_law_1238 ?_
        refine lv_i2l (v := (sc (12 * t9 + 4)).toInt64) hx hb dLW_law_1239 rfl ?_
        refine lv_bipush (v := nI 32) hx hb dLW_law_1240 (by decide) ?_
        refine lv_lshl (v := j_lshl ((sc (12 * t9 + 4)).toInt64) (nI 32)) hx hb dLW_law_1242 rfl ?_
        refine lv_aload_n hx hb dLW_law_1243 rfl (lv_at hl 1 rfl) ?_
        refine lv_iload hx hb dLW_law_1244 (lv_at hl 5 rfl) ?_
        refine lv_iconst (v := nI 5) hx hb dLW_law_1246 (by decide) ?_
        refine lv_iadd hx hb dLW_law_1247 ?_
        refine xt_i (y := nI (12 * t9 + 5)) (nI_add _ _) ?_
        refine xs_ld hx hb hXs hbl hbA (Nat.lt_of_le_of_lt hL (by decide)) hS (12 * t9 + 5) (by omega) dLW_law_1248 ?_
        refine lv_i2l (v := (sc (12 * t9 + 5)).toInt64) hx hb dLW_law_1249 rfl ?_
        refine lv_ldc2 (v := 4294967295) hx hb hown (hts _ w_j_LW_68) dLW_law_1250 ?_
        refine lv_land hx hb dLW_law_1253 ?_
        refine lv_lor hx hb dLW_law_1254 ?_
        refine xt_l (y := lc_lg sc (12 * t9 + 4)) (rfl) ?_
        refine lv_aload_n hx hb dLW_law_1255 rfl (lv_at hl 1 rfl) ?_
        refine lv_iload hx hb dLW_law_1256 (lv_at hl 5 rfl) ?_
        refine lv_bipush (v := nI 6) hx hb dLW_law_1258 (by decide) ?_
        refine lv_iadd hx hb dLW_law_1260 ?_
        refine xt_i (y := nI (12 * t9 + 6)) (nI_add _ _) ?_
        refine xs_ld hx hb hXs hbl hbA (Nat.lt_of_le_of_lt hL (by decide)) hS (12 * t9 + 6) (by omega) dLW_law_1261 ?_
        refine lv_if_eq (tgt := 1269) hx hb dLW_law_1262 (by decide) (fun h => absurd h (h6)) (fun _ => ?_)
        refine lv_iconst (v := nI 1) hx hb dLW_law_1265 (by decide) ?_
        refine lv_goto (tgt := 1270) hx hb dLW_law_1266 (by decide) ?_
        refine xt_i (y := bs_z true) (rfl) ?_
        have hPc := hP.sub (ws' := [(o, .inr (6, [.int th, .ref xv, .ref xo, .ref xn, .ref xc, .ref xb, .ref xd, .ref xq, .ref xa, .ref xk, .ref xt, .ref xh, .ref xs, .ref xS, .ref xw, .ref xW, .ref xB, .ref xM, .long jf, .long js, .int jb, .long nf, .long ns, .int nb, .ref xf, .ref xg, .ref xi])), (xB, .inl (cI, 16, .inl bl)), (xM, .inl (cI, 16, .inl mv)), (xS, .inl (cI, 256, .inl (bs_fn bs_SB))), (xw, .inl (cI, 256, .inl (bs_fn bs_tX))), (xW, .inl (cI, 352, .inl (bs_fn bs_KK)))]) [1, 2, 3, 4, 5, 6] rfl
        have hDc := hD.sub (ws' := [(o, .inr (6, [.int th, .ref xv, .ref xo, .ref xn, .ref xc, .ref xb, .ref xd, .ref xq, .ref xa, .ref xk, .ref xt, .ref xh, .ref xs, .ref xS, .ref xw, .ref xW, .ref xB, .ref xM, .long jf, .long js, .int jb, .long nf, .long ns, .int nb, .ref xf, .ref xg, .ref xi])), (xB, .inl (cI, 16, .inl bl)), (xM, .inl (cI, 16, .inl mv)), (xS, .inl (cI, 256, .inl (bs_fn bs_SB))), (xw, .inl (cI, 256, .inl (bs_fn bs_tX))), (xW, .inl (cI, 352, .inl (bs_fn bs_KK)))]) [1, 2, 3, 4, 5, 6] (by decide) rfl
        have hKc := hK.sub (tys' := [(cI, .int)]) [0] rfl
        have hFc := va_free (wc := [(o, .inr (6, [.int th, .ref xv, .ref xo, .ref xn, .ref xc, .ref xb, .ref xd, .ref xq, .ref xa, .ref xk, .ref xt, .ref xh, .ref xs, .ref xS, .ref xw, .ref xW, .ref xB, .ref xM, .long jf, .long js, .int jb, .long nf, .long ns, .int nb, .ref xf, .ref xg, .ref xi])), (xB, .inl (cI, 16, .inl bl)), (xM, .inl (cI, 16, .inl mv)), (xS, .inl (cI, 256, .inl (bs_fn bs_SB))), (xw, .inl (cI, 256, .inl (bs_fn bs_tX))), (xW, .inl (cI, 352, .inl (bs_fn bs_KK)))]) hD hS hA [1, 2, 3, 4, 5, 6] rfl
        refine va_calll (va_runV (C := RMO) (As := [.int (nI 0), .long (lc_lg sc (12 * t9 + 2)), .long (lc_lg sc (12 * t9 + 4)), .int (bs_z true)]) (rest := []) ⟨hx, hb, hml, hown, hts⟩ (c_MO_cipher_y l dC dI H.size o xv xo xn xc xb xd xq xa xk xt xh xs xS xw xW xB xM xf xg xi th jf js jb nf ns nb cI bs_KK 0 (lc_lg sc (12 * t9 + 2)) (lc_lg sc (12 * t9 + 4)) bl mv true (by decide) bs_KK_lt) (cwV (C := RMO) 4 hts (wT_4 w_m_LW_127 w_i_MO_cipher w_s_MO_cipher w_n_MO w_c_MO_cipher) rfl rfl rfl (by decide +kernel) ⟨Nat.le_of_ble_eq_true rfl, Nat.le_of_ble_eq_true rfl⟩) ⟨fun a U g mk q => by obtain ⟨q0, q1, qP, qK, qD⟩ := q; exact ⟨q0, q1, qP, va_K.moved (u := U) (U := U.calling g mk a) (Vm.Alike.refl U.vm) qK, qD⟩, va_recv hK hP (q0 := 1) (ci := 6) (q := (RMO, TMO, 27)) rfl rfl, fun U hU hW => ⟨rfl, by rw [hU], by rw [hU]; exact hPc, va_K.moved hW.alike hKc, hDc.weaken (fun _ _ _ _ => trivial)⟩⟩ rfl rfl hl.1 rfl (lv_room (Nat.le_of_ble_eq_true rfl)) dLW_law_1270 ⟨show k9 + 1 + 0 ≤ 601024 from by omega, show n9 + 6 + 0 ≤ 7293034 from by omega⟩) hS (fun q _ h => hFc q h) hFc (fun r u t H1 locs ht hvm hw hB hz1 hk1 hS => ?_)
        obtain ⟨mv2, rfl⟩ : ∃ z, z = u := ⟨_, rfl⟩
        obtain ⟨hP1, hK1, hD1⟩ := hB
        rw [ht] at hP1
        have hK1 := va_K.moved hvm.symm hK1
        obtain ⟨hw, hw8⟩ : r = (if true then bs_rd (bs_fn (bs_E (fun j9 => bs_KK (176 * 0 + j9)) (lc_lg sc (12 * t9 + 2)) (lc_lg sc (12 * t9 + 4)))) 0 8 else bs_rd (bs_fn (bs_E (fun j9 => bs_KK (176 * 0 + j9)) (lc_lg sc (12 * t9 + 2)) (lc_lg sc (12 * t9 + 4)))) 8 8) ∧ True := hw
        rw [hw]
        obtain ⟨hP, hD⟩ := xj_join (wt := wt) (wr := [(rk1, .inl (cI, 44, .inl bs_V1)), (bo, .inr (5, [.ref q, .ref km, .ref ka, .ref cs])), (q, .inr (0, [.ref sb, .ref co, .ref rk, .long (bs_e1 bs_CTf bs_SBf bs_V0 (lc_lg sc (12 * t9 + 2)) (lc_lg sc (12 * t9 + 4))), .long (bs_e2 bs_CTf bs_SBf bs_V0 (lc_lg sc (12 * t9 + 2)) (lc_lg sc (12 * t9 + 4))), .int bt])), (sb, .inl (cI, 256, .inl bs_SBf)), (co, .inl (cI, 256, .inl bs_CTf)), (rk, .inl (cR, 2, .inr (.inr (.inr (.inr (bs_gl [rk0, rk1])))))), (rk0, .inl (cI, 44, .inl bs_V0)), (ou, .inl (cL, 1, .inr (.inl (vp_updL fz 0 (if true then bs_e1 bs_CTf bs_SBf bs_V0 (lc_lg sc (12 * t9 + 2)) (lc_lg sc (12 * t9 + 4)) else bs_e2 bs_CTf bs_SBf bs_V0 (lc_lg sc (12 * t9 + 2)) (lc_lg sc (12 * t9 + 4)))))))]) (w1 := [(o, .inr (6, [.int (nI 0), .ref xv, .ref xo, .ref xn, .ref xc, .ref xb, .ref xd, .ref xq, .ref xa, .ref xk, .ref xt, .ref xh, .ref xs, .ref xS, .ref xw, .ref xW, .ref xB, .ref xM, .long jf, .long js, .int jb, .long nf, .long ns, .int nb, .ref xf, .ref xg, .ref xi])), (xB, .inl (cI, 16, .inl (bs_fn (bs_E (fun j9 => bs_KK (176 * 0 + j9)) (lc_lg sc (12 * t9 + 2)) (lc_lg sc (12 * t9 + 4)))))), (xM, .inl (cI, 16, .inl mv2)), (xS, .inl (cI, 256, .inl (bs_fn bs_SB))), (xw, .inl (cI, 256, .inl (bs_fn bs_tX))), (xW, .inl (cI, 352, .inl (bs_fn bs_KK)))]) hP hD [1, 2, 3, 4, 5, 6] [0, 7, 8, 9, 10, 11, 12, 13] rfl rfl (by decide) (by decide) hk1 hFc hP1 hD1
        generalize H1 = H at hP hS ⊢
        have hP : va_P (dC, dI) vwCl (xj_ap [(rk1, .inl (cI, 44, .inl bs_V1)), (bo, .inr (5, [.ref q, .ref km, .ref ka, .ref cs])), (q, .inr (0, [.ref sb, .ref co, .ref rk, .long (bs_e1 bs_CTf bs_SBf bs_V0 (lc_lg sc (12 * t9 + 2)) (lc_lg sc (12 * t9 + 4))), .long (bs_e2 bs_CTf bs_SBf bs_V0 (lc_lg sc (12 * t9 + 2)) (lc_lg sc (12 * t9 + 4))), .int bt])), (sb, .inl (cI, 256, .inl bs_SBf)), (co, .inl (cI, 256, .inl bs_CTf)), (rk, .inl (cR, 2, .inr (.inr (.inr (.inr (bs_gl [rk0, rk1])))))), (rk0, .inl (cI, 44, .inl bs_V0)), (ou, .inl (cL, 1, .inr (.inl (vp_updL fz 0 (if true then bs_e1 bs_CTf bs_SBf bs_V0 (lc_lg sc (12 * t9 + 2)) (lc_lg sc (12 * t9 + 4)) else bs_e2 bs_CTf bs_SBf bs_V0 (lc_lg sc (12 * t9 + 2)) (lc_lg sc (12 * t9 + 4))))))), (o, .inr (6, [.int (nI 0), .ref xv, .ref xo, .ref xn, .ref xc, .ref xb, .ref xd, .ref xq, .ref xa, .ref xk, .ref xt, .ref xh, .ref xs, .ref xS, .ref xw, .ref xW, .ref xB, .ref xM, .long jf, .long js, .int jb, .long nf, .long ns, .int nb, .ref xf, .ref xg, .ref xi])), (xB, .inl (cI, 16, .inl (bs_fn (bs_E (fun j9 => bs_KK (176 * 0 + j9)) (lc_lg sc (12 * t9 + 2)) (lc_lg sc (12 * t9 + 4)))))), (xM, .inl (cI, 16, .inl mv2)), (xS, .inl (cI, 256, .inl (bs_fn bs_SB))), (xw, .inl (cI, 256, .inl (bs_fn bs_tX))), (xW, .inl (cI, 352, .inl (bs_fn bs_KK)))] wt) H := hP
        have hD : va_D A (xj_ap [(rk1, .inl (cI, 44, .inl bs_V1)), (bo, .inr (5, [.ref q, .ref km, .ref ka, .ref cs])), (q, .inr (0, [.ref sb, .ref co, .ref rk, .long (bs_e1 bs_CTf bs_SBf bs_V0 (lc_lg sc (12 * t9 + 2)) (lc_lg sc (12 * t9 + 4))), .long (bs_e2 bs_CTf bs_SBf bs_V0 (lc_lg sc (12 * t9 + 2)) (lc_lg sc (12 * t9 + 4))), .int bt])), (sb, .inl (cI, 256, .inl bs_SBf)), (co, .inl (cI, 256, .inl bs_CTf)), (rk, .inl (cR, 2, .inr (.inr (.inr (.inr (bs_gl [rk0, rk1])))))), (rk0, .inl (cI, 44, .inl bs_V0)), (ou, .inl (cL, 1, .inr (.inl (vp_updL fz 0 (if true then bs_e1 bs_CTf bs_SBf bs_V0 (lc_lg sc (12 * t9 + 2)) (lc_lg sc (12 * t9 + 4)) else bs_e2 bs_CTf bs_SBf bs_V0 (lc_lg sc (12 * t9 + 2)) (lc_lg sc (12 * t9 + 4))))))), (o, .inr (6, [.int (nI 0), .ref xv, .ref xo, .ref xn, .ref xc, .ref xb, .ref xd, .ref xq, .ref xa, .ref xk, .ref xt, .ref xh, .ref xs, .ref xS, .ref xw, .ref xW, .ref xB, .ref xM, .long jf, .long js, .int jb, .long nf, .long ns, .int nb, .ref xf, .ref xg, .ref xi])), (xB, .inl (cI, 16, .inl (bs_fn (bs_E (fun j9 => bs_KK (176 * 0 + j9)) (lc_lg sc (12 * t9 + 2)) (lc_lg sc (12 * t9 + 4)))))), (xM, .inl (cI, 16, .inl mv2)), (xS, .inl (cI, 256, .inl (bs_fn bs_SB))), (xw, .inl (cI, 256, .inl (bs_fn bs_tX))), (xW, .inl (cI, 352, .inl (bs_fn bs_KK)))] wt) := hD
        refine lv_lstore (lv' := [(6, .long (if true then bs_rd (bs_fn (bs_E (fun j9 => bs_KK (176 * 0 + j9)) (lc_lg sc (12 * t9 + 2)) (lc_lg sc (12 * t9 + 4)))) 0 8 else bs_rd (bs_fn (bs_E (fun j9 => bs_KK (176 * 0 + j9)) (lc_lg sc (12 * t9 + 2)) (lc_lg sc (12 * t9 + 4)))) 8 8)), (5, .int (nI 0)), (0, .ref b), (1, .ref bo), (2, .ref o), (3, .ref ou), (4, .int (nI (12 * t9)))]) hx hb dLW_law_1273 hl (by decide) rfl (fun ls hl => ?_)
        refine lv_aload_n hx hb dLW_law_1275 rfl (lv_at hl 4 rfl) ?_
        have hPc := hP.sub (ws' := [(o, .inr (6, [.int (nI 0), .ref xv, .ref xo, .ref xn, .ref xc, .ref xb, .ref xd, .ref xq, .ref xa, .ref xk, .ref xt, .ref xh, .ref xs, .ref xS, .ref xw, .ref xW, .ref xB, .ref xM, .long jf, .long js, .int jb, .long nf, .long ns, .int nb, .ref xf, .ref xg, .ref xi]))]) [8] rfl
        have hDc := hD.sub (ws' := [(o, .inr (6, [.int (nI 0), .ref xv, .ref xo, .ref xn, .ref xc, .ref xb, .ref xd, .ref xq, .ref xa, .ref xk, .ref xt, .ref xh, .ref xs, .ref xS, .ref xw, .ref xW, .ref xB, .ref xM, .long jf, .long js, .int jb, .long nf, .long ns, .int nb, .ref xf, .ref xg, .ref xi]))]) [8] (by decide) rfl
        have hKc := hK.sub (tys' := []) [] rfl
        have hFc := va_free (wc := [(o, .inr (6, [.int (nI 0), .ref xv, .ref xo, .ref xn, .ref xc, .ref xb, .ref xd, .ref xq, .ref xa, .ref xk, .ref xt, .ref xh, .ref xs, .ref xS, .ref xw, .ref xW, .ref xB, .ref xM, .long jf, .long js, .int jb, .long nf, .long ns, .int nb, .ref xf, .ref xg, .ref xi]))]) hD hS hA [8] rfl
        refine va_calli (va_runV (C := RMO) (As := []) (rest := []) ⟨hx, hb, hml, hown, hts⟩ (c_MO_thrown l dC dI H.size o xv xo xn xc xb xd xq xa xk xt xh xs xS xw xW xB xM xf xg xi (nI 0) jf js jb nf ns nb) (cwV (C := RMO) 0 hts (wT_4 w_m_LW_76 w_i_MO_thrown w_s_MO_thrown w_n_MO w_c_MO_thrown) rfl rfl rfl (by decide +kernel) ⟨Nat.le_of_ble_eq_true rfl, Nat.le_of_ble_eq_true rfl⟩) ⟨fun a U g mk q => by obtain ⟨q0, q1, qP, qK, qD⟩ := q; exact ⟨q0, q1, qP, va_K.moved (u := U) (U := U.calling g mk a) (Vm.Alike.refl U.vm) qK, qD⟩, va_recv hK hP (q0 := 8) (ci := 6) (q := (RMO, TMO, 27)) rfl rfl, fun U hU hW => ⟨rfl, by rw [hU], by rw [hU]; exact hPc, va_K.moved hW.alike hKc, hDc.weaken (fun _ _ _ _ => trivial)⟩⟩ rfl rfl hl.1 rfl (lv_room (Nat.le_of_ble_eq_true rfl)) dLW_law_1276 ⟨show k9 + 1 + 0 ≤ 601024 from by omega, show n9 + 6 + 0 ≤ 7293034 from by omega⟩) hS (fun q _ h => hFc q h) hFc (fun r u t H1 locs ht hvm hw hB hz1 hk1 hS => ?_)
        obtain ⟨hP1, hK1, hD1⟩ := hB
        rw [ht] at hP1
        have hK1 := va_K.moved hvm.symm hK1
        have hw : r = nI 0 := hw
        rw [hw]
        obtain ⟨hP, hD⟩ := xj_join (wt := wt) (wr := [(rk1, .inl (cI, 44, .inl bs_V1)), (bo, .inr (5, [.ref q, .ref km, .ref ka, .ref cs])), (q, .inr (0, [.ref sb, .ref co, .ref rk, .long (bs_e1 bs_CTf bs_SBf bs_V0 (lc_lg sc (12 * t9 + 2)) (lc_lg sc (12 * t9 + 4))), .long (bs_e2 bs_CTf bs_SBf bs_V0 (lc_lg sc (12 * t9 + 2)) (lc_lg sc (12 * t9 + 4))), .int bt])), (sb, .inl (cI, 256, .inl bs_SBf)), (co, .inl (cI, 256, .inl bs_CTf)), (rk, .inl (cR, 2, .inr (.inr (.inr (.inr (bs_gl [rk0, rk1])))))), (rk0, .inl (cI, 44, .inl bs_V0)), (ou, .inl (cL, 1, .inr (.inl (vp_updL fz 0 (if true then bs_e1 bs_CTf bs_SBf bs_V0 (lc_lg sc (12 * t9 + 2)) (lc_lg sc (12 * t9 + 4)) else bs_e2 bs_CTf bs_SBf bs_V0 (lc_lg sc (12 * t9 + 2)) (lc_lg sc (12 * t9 + 4))))))), (xB, .inl (cI, 16, .inl (bs_fn (bs_E (fun j9 => bs_KK (176 * 0 + j9)) (lc_lg sc (12 * t9 + 2)) (lc_lg sc (12 * t9 + 4)))))), (xM, .inl (cI, 16, .inl mv2)), (xS, .inl (cI, 256, .inl (bs_fn bs_SB))), (xw, .inl (cI, 256, .inl (bs_fn bs_tX))), (xW, .inl (cI, 352, .inl (bs_fn bs_KK)))]) (w1 := [(o, .inr (6, [.int (nI 0), .ref xv, .ref xo, .ref xn, .ref xc, .ref xb, .ref xd, .ref xq, .ref xa, .ref xk, .ref xt, .ref xh, .ref xs, .ref xS, .ref xw, .ref xW, .ref xB, .ref xM, .long jf, .long js, .int jb, .long nf, .long ns, .int nb, .ref xf, .ref xg, .ref xi]))]) hP hD [8] [0, 1, 2, 3, 4, 5, 6, 7, 9, 10, 11, 12, 13] rfl rfl (by decide) (by decide) hk1 hFc hP1 hD1
        generalize H1 = H at hP hS ⊢
        have hP : va_P (dC, dI) vwCl (xj_ap [(rk1, .inl (cI, 44, .inl bs_V1)), (bo, .inr (5, [.ref q, .ref km, .ref ka, .ref cs])), (q, .inr (0, [.ref sb, .ref co, .ref rk, .long (bs_e1 bs_CTf bs_SBf bs_V0 (lc_lg sc (12 * t9 + 2)) (lc_lg sc (12 * t9 + 4))), .long (bs_e2 bs_CTf bs_SBf bs_V0 (lc_lg sc (12 * t9 + 2)) (lc_lg sc (12 * t9 + 4))), .int bt])), (sb, .inl (cI, 256, .inl bs_SBf)), (co, .inl (cI, 256, .inl bs_CTf)), (rk, .inl (cR, 2, .inr (.inr (.inr (.inr (bs_gl [rk0, rk1])))))), (rk0, .inl (cI, 44, .inl bs_V0)), (ou, .inl (cL, 1, .inr (.inl (vp_updL fz 0 (if true then bs_e1 bs_CTf bs_SBf bs_V0 (lc_lg sc (12 * t9 + 2)) (lc_lg sc (12 * t9 + 4)) else bs_e2 bs_CTf bs_SBf bs_V0 (lc_lg sc (12 * t9 + 2)) (lc_lg sc (12 * t9 + 4))))))), (xB, .inl (cI, 16, .inl (bs_fn (bs_E (fun j9 => bs_KK (176 * 0 + j9)) (lc_lg sc (12 * t9 + 2)) (lc_lg sc (12 * t9 + 4)))))), (xM, .inl (cI, 16, .inl mv2)), (xS, .inl (cI, 256, .inl (bs_fn bs_SB))), (xw, .inl (cI, 256, .inl (bs_fn bs_tX))), (xW, .inl (cI, 352, .inl (bs_fn bs_KK))), (o, .inr (6, [.int (nI 0), .ref xv, .ref xo, .ref xn, .ref xc, .ref xb, .ref xd, .ref xq, .ref xa, .ref xk, .ref xt, .ref xh, .ref xs, .ref xS, .ref xw, .ref xW, .ref xB, .ref xM, .long jf, .long js, .int jb, .long nf, .long ns, .int nb, .ref xf, .ref xg, .ref xi]))] wt) H := hP
        have hD : va_D A (xj_ap [(rk1, .inl (cI, 44, .inl bs_V1)), (bo, .inr (5, [.ref q, .ref km, .ref ka, .ref cs])), (q, .inr (0, [.ref sb, .ref co, .ref rk, .long (bs_e1 bs_CTf bs_SBf bs_V0 (lc_lg sc (12 * t9 + 2)) (lc_lg sc (12 * t9 + 4))), .long (bs_e2 bs_CTf bs_SBf bs_V0 (lc_lg sc (12 * t9 + 2)) (lc_lg sc (12 * t9 + 4))), .int bt])), (sb, .inl (cI, 256, .inl bs_SBf)), (co, .inl (cI, 256, .inl bs_CTf)), (rk, .inl (cR, 2, .inr (.inr (.inr (.inr (bs_gl [rk0, rk1])))))), (rk0, .inl (cI, 44, .inl bs_V0)), (ou, .inl (cL, 1, .inr (.inl (vp_updL fz 0 (if true then bs_e1 bs_CTf bs_SBf bs_V0 (lc_lg sc (12 * t9 + 2)) (lc_lg sc (12 * t9 + 4)) else bs_e2 bs_CTf bs_SBf bs_V0 (lc_lg sc (12 * t9 + 2)) (lc_lg sc (12 * t9 + 4))))))), (xB, .inl (cI, 16, .inl (bs_fn (bs_E (fun j9 => bs_KK (176 * 0 + j9)) (lc_lg sc (12 * t9 + 2)) (lc_lg sc (12 * t9 + 4)))))), (xM, .inl (cI, 16, .inl mv2)), (xS, .inl (cI, 256, .inl (bs_fn bs_SB))), (xw, .inl (cI, 256, .inl (bs_fn bs_tX))), (xW, .inl (cI, 352, .inl (bs_fn bs_KK))), (o, .inr (6, [.int (nI 0), .ref xv, .ref xo, .ref xn, .ref xc, .ref xb, .ref xd, .ref xq, .ref xa, .ref xk, .ref xt, .ref xh, .ref xs, .ref xS, .ref xw, .ref xW, .ref xB, .ref xM, .long jf, .long js, .int jb, .long nf, .long ns, .int nb, .ref xf, .ref xg, .ref xi]))] wt) := hD
        refine lv_iload hx hb dLW_law_1279 (lv_at hl 1 rfl) ?_
        refine lv_icmp_eq (tgt := 1286) hx hb dLW_law_1281 (by decide) (fun _ => ?_) (fun h => absurd (rfl) h)
        refine lv_iload hx hb dLW_law_1286 (lv_at hl 1 rfl) ?_
        refine lv_if_ne (tgt := 1302) hx hb dLW_law_1288 (by decide) (fun h => absurd (by decide +kernel) h) (fun _ => ?_)
        refine lv_aload_n hx hb dLW_law_1291 rfl (lv_at hl 5 rfl) ?_
        refine lv_iconst (v := nI 0) hx hb dLW_law_1292 (by decide) ?_
        refine xa_lald hx hb hK hP 7 1 rfl rfl 0 (by omega) (by decide) dLW_law_1293 ?_
        refine xt_l (y := (if true then bs_e1 bs_CTf bs_SBf bs_V0 (lc_lg sc (12 * t9 + 2)) (lc_lg sc (12 * t9 + 4)) else bs_e2 bs_CTf bs_SBf bs_V0 (lc_lg sc (12 * t9 + 2)) (lc_lg sc (12 * t9 + 4)))) (pk_uLs) ?_
        refine lv_lload hx hb dLW_law_1294 (lv_at hl 0 rfl) ?_
        refine W.lcmp hx hb dLW_law_1296 ?_
        refine lv_if_eq (tgt := 1302) hx hb dLW_law_1297 (by decide) (fun _ => ?_) (fun h => absurd ((lg_cmp_eq _ _).mpr (by rw [if_pos rfl, if_pos rfl]; exact (bs_enc_eq (K := bs_Kx bs_KK 0) (fun j => bs_KK_lt _) (lc_lg sc (12 * t9 + 2)) (lc_lg sc (12 * t9 + 4))).1)) h)
        refine lv_goto (tgt := 1342) hx hb dLW_law_1302 (by decide) ?_
        have hP := xj_subP (ws' := [(bo, .inr (5, [.ref q, .ref km, .ref ka, .ref cs])), (q, .inr (0, [.ref sb, .ref co, .ref rk, .long (bs_e1 bs_CTf bs_SBf bs_V0 (lc_lg sc (12 * t9 + 2)) (lc_lg sc (12 * t9 + 4))), .long (bs_e2 bs_CTf bs_SBf bs_V0 (lc_lg sc (12 * t9 + 2)) (lc_lg sc (12 * t9 + 4))), .int bt])), (sb, .inl (cI, 256, .inl bs_SBf)), (co, .inl (cI, 256, .inl bs_CTf)), (rk, .inl (cR, 2, .inr (.inr (.inr (.inr (bs_gl [rk0, rk1])))))), (rk0, .inl (cI, 44, .inl bs_V0)), (rk1, .inl (cI, 44, .inl bs_V1)), (o, .inr (6, [.int (nI 0), .ref xv, .ref xo, .ref xn, .ref xc, .ref xb, .ref xd, .ref xq, .ref xa, .ref xk, .ref xt, .ref xh, .ref xs, .ref xS, .ref xw, .ref xW, .ref xB, .ref xM, .long jf, .long js, .int jb, .long nf, .long ns, .int nb, .ref xf, .ref xg, .ref xi])), (xB, .inl (cI, 16, .inl (bs_fn (bs_E (fun j9 => bs_KK (176 * 0 + j9)) (lc_lg sc (12 * t9 + 2)) (lc_lg sc (12 * t9 + 4)))))), (xM, .inl (cI, 16, .inl mv2)), (xS, .inl (cI, 256, .inl (bs_fn bs_SB))), (xw, .inl (cI, 256, .inl (bs_fn bs_tX))), (xW, .inl (cI, 352, .inl (bs_fn bs_KK))), (ou, .inl (cL, 1, .inr (.inl (vp_updL fz 0 (if true then bs_e1 bs_CTf bs_SBf bs_V0 (lc_lg sc (12 * t9 + 2)) (lc_lg sc (12 * t9 + 4)) else bs_e2 bs_CTf bs_SBf bs_V0 (lc_lg sc (12 * t9 + 2)) (lc_lg sc (12 * t9 + 4)))))))]) hP [1, 2, 3, 4, 5, 6, 0, 13, 8, 9, 10, 11, 12, 7] rfl
        have hD := xj_subD (ws' := [(bo, .inr (5, [.ref q, .ref km, .ref ka, .ref cs])), (q, .inr (0, [.ref sb, .ref co, .ref rk, .long (bs_e1 bs_CTf bs_SBf bs_V0 (lc_lg sc (12 * t9 + 2)) (lc_lg sc (12 * t9 + 4))), .long (bs_e2 bs_CTf bs_SBf bs_V0 (lc_lg sc (12 * t9 + 2)) (lc_lg sc (12 * t9 + 4))), .int bt])), (sb, .inl (cI, 256, .inl bs_SBf)), (co, .inl (cI, 256, .inl bs_CTf)), (rk, .inl (cR, 2, .inr (.inr (.inr (.inr (bs_gl [rk0, rk1])))))), (rk0, .inl (cI, 44, .inl bs_V0)), (rk1, .inl (cI, 44, .inl bs_V1)), (o, .inr (6, [.int (nI 0), .ref xv, .ref xo, .ref xn, .ref xc, .ref xb, .ref xd, .ref xq, .ref xa, .ref xk, .ref xt, .ref xh, .ref xs, .ref xS, .ref xw, .ref xW, .ref xB, .ref xM, .long jf, .long js, .int jb, .long nf, .long ns, .int nb, .ref xf, .ref xg, .ref xi])), (xB, .inl (cI, 16, .inl (bs_fn (bs_E (fun j9 => bs_KK (176 * 0 + j9)) (lc_lg sc (12 * t9 + 2)) (lc_lg sc (12 * t9 + 4)))))), (xM, .inl (cI, 16, .inl mv2)), (xS, .inl (cI, 256, .inl (bs_fn bs_SB))), (xw, .inl (cI, 256, .inl (bs_fn bs_tX))), (xW, .inl (cI, 352, .inl (bs_fn bs_KK))), (ou, .inl (cL, 1, .inr (.inl (vp_updL fz 0 (if true then bs_e1 bs_CTf bs_SBf bs_V0 (lc_lg sc (12 * t9 + 2)) (lc_lg sc (12 * t9 + 4)) else bs_e2 bs_CTf bs_SBf bs_V0 (lc_lg sc (12 * t9 + 2)) (lc_lg sc (12 * t9 + 4)))))))]) hD [1, 2, 3, 4, 5, 6, 0, 13, 8, 9, 10, 11, 12, 7] (by decide) rfl
        have hP : va_P (dC, dI) vwCl (xj_ap [(bo, .inr (5, [.ref q, .ref km, .ref ka, .ref cs])), (q, .inr (0, [.ref sb, .ref co, .ref rk, .long (bs_e1 bs_CTf bs_SBf bs_V0 (lc_lg sc (12 * t9 + 2)) (lc_lg sc (12 * t9 + 4))), .long (bs_e2 bs_CTf bs_SBf bs_V0 (lc_lg sc (12 * t9 + 2)) (lc_lg sc (12 * t9 + 4))), .int bt])), (sb, .inl (cI, 256, .inl bs_SBf)), (co, .inl (cI, 256, .inl bs_CTf)), (rk, .inl (cR, 2, .inr (.inr (.inr (.inr (bs_gl [rk0, rk1])))))), (rk0, .inl (cI, 44, .inl bs_V0)), (rk1, .inl (cI, 44, .inl bs_V1)), (o, .inr (6, [.int (nI 0), .ref xv, .ref xo, .ref xn, .ref xc, .ref xb, .ref xd, .ref xq, .ref xa, .ref xk, .ref xt, .ref xh, .ref xs, .ref xS, .ref xw, .ref xW, .ref xB, .ref xM, .long jf, .long js, .int jb, .long nf, .long ns, .int nb, .ref xf, .ref xg, .ref xi])), (xB, .inl (cI, 16, .inl (bs_fn (bs_E (fun j9 => bs_KK (176 * 0 + j9)) (lc_lg sc (12 * t9 + 2)) (lc_lg sc (12 * t9 + 4)))))), (xM, .inl (cI, 16, .inl mv2)), (xS, .inl (cI, 256, .inl (bs_fn bs_SB))), (xw, .inl (cI, 256, .inl (bs_fn bs_tX))), (xW, .inl (cI, 352, .inl (bs_fn bs_KK))), (ou, .inl (cL, 1, .inr (.inl (vp_updL fz 0 (if true then bs_e1 bs_CTf bs_SBf bs_V0 (lc_lg sc (12 * t9 + 2)) (lc_lg sc (12 * t9 + 4)) else bs_e2 bs_CTf bs_SBf bs_V0 (lc_lg sc (12 * t9 + 2)) (lc_lg sc (12 * t9 + 4)))))))] wt) H := hP
        have hD : va_D A (xj_ap [(bo, .inr (5, [.ref q, .ref km, .ref ka, .ref cs])), (q, .inr (0, [.ref sb, .ref co, .ref rk, .long (bs_e1 bs_CTf bs_SBf bs_V0 (lc_lg sc (12 * t9 + 2)) (lc_lg sc (12 * t9 + 4))), .long (bs_e2 bs_CTf bs_SBf bs_V0 (lc_lg sc (12 * t9 + 2)) (lc_lg sc (12 * t9 + 4))), .int bt])), (sb, .inl (cI, 256, .inl bs_SBf)), (co, .inl (cI, 256, .inl bs_CTf)), (rk, .inl (cR, 2, .inr (.inr (.inr (.inr (bs_gl [rk0, rk1])))))), (rk0, .inl (cI, 44, .inl bs_V0)), (rk1, .inl (cI, 44, .inl bs_V1)), (o, .inr (6, [.int (nI 0), .ref xv, .ref xo, .ref xn, .ref xc, .ref xb, .ref xd, .ref xq, .ref xa, .ref xk, .ref xt, .ref xh, .ref xs, .ref xS, .ref xw, .ref xW, .ref xB, .ref xM, .long jf, .long js, .int jb, .long nf, .long ns, .int nb, .ref xf, .ref xg, .ref xi])), (xB, .inl (cI, 16, .inl (bs_fn (bs_E (fun j9 => bs_KK (176 * 0 + j9)) (lc_lg sc (12 * t9 + 2)) (lc_lg sc (12 * t9 + 4)))))), (xM, .inl (cI, 16, .inl mv2)), (xS, .inl (cI, 256, .inl (bs_fn bs_SB))), (xw, .inl (cI, 256, .inl (bs_fn bs_tX))), (xW, .inl (cI, 352, .inl (bs_fn bs_KK))), (ou, .inl (cL, 1, .inr (.inl (vp_updL fz 0 (if true then bs_e1 bs_CTf bs_SBf bs_V0 (lc_lg sc (12 * t9 + 2)) (lc_lg sc (12 * t9 + 4)) else bs_e2 bs_CTf bs_SBf bs_V0 (lc_lg sc (12 * t9 + 2)) (lc_lg sc (12 * t9 + 4)))))))] wt) := hD
        have hl := lv_sub hl (l' := [(0, .ref b), (1, .ref bo), (2, .ref o), (3, .ref ou), (4, .int (nI (12 * t9)))]) [2, 3, 4, 5, 6] rfl
        exact hk (bs_e1 bs_CTf bs_SBf bs_V0 (lc_lg sc (12 * t9 + 2)) (lc_lg sc (12 * t9 + 4))) (bs_e2 bs_CTf bs_SBf bs_V0 (lc_lg sc (12 * t9 + 2)) (lc_lg sc (12 * t9 + 4))) (bs_fn (bs_E (fun j9 => bs_KK (176 * 0 + j9)) (lc_lg sc (12 * t9 + 2)) (lc_lg sc (12 * t9 + 4)))) mv2 (nI 0) (vp_updL fz 0 (if true then bs_e1 bs_CTf bs_SBf bs_V0 (lc_lg sc (12 * t9 + 2)) (lc_lg sc (12 * t9 + 4)) else bs_e2 bs_CTf bs_SBf bs_V0 (lc_lg sc (12 * t9 + 2)) (lc_lg sc (12 * t9 + 4)))) H _ ls (hJ) hP hD hS hl
      · refine lv_aload_n hx hb dLW_law_1132 rfl (lv_at hl 1 rfl) ?_
        refine lv_aload_n hx hb dLW_law_1133 rfl (lv_at hl 0 rfl) ?_
        refine lv_iload hx hb dLW_law_1134 (lv_at hl 4 rfl) ?_
        refine lv_iconst (v := nI 1) hx hb dLW_law_1136 (by decide) ?_
        refine lv_iadd hx hb dLW_law_1137 ?_
        refine xt_i (y := nI (12 * t9 + 1)) (nI_add _ _) ?_
        refine xs_ld hx hb hXs hbl hbA (Nat.lt_of_le_of_lt hL (by decide)) hS (12 * t9 + 1) (by omega) dLW_law_1138 ?_
        refine xt_i (y := nI 1) (hxe) ?_
        refine lv_aload_n hx hb dLW_law_1139 rfl (lv_at hl 0 rfl) ?_
        refine lv_iload hx hb dLW_law_1140 (lv_at hl 4 rfl) ?_
        refine lv_iconst (v := nI 2) hx hb dLW_law_1142 (by decide) ?_
        refine lv_iadd hx hb dLW_law_1143 ?_
        refine xt_i (y := nI (12 * t9 + 2)) (nI_add _ _) ?_
        refine xs_ld hx hb hXs hbl hbA (Nat.lt_of_le_of_lt hL (by decide)) hS (12 * t9 + 2) (by omega) dLW_law_1144 ?_
        refine lv_i2l (v := (sc (12 * t9 + 2)).toInt64) hx hb dLW_law_1145 rfl ?_
        refine lv_bipush (v := nI 32) hx hb dLW_law_1146 (by decide) ?_
        refine lv_lshl (v := j_lshl ((sc (12 * t9 + 2)).toInt64) (nI 32)) hx hb dLW_law_1148 rfl ?_
        refine lv_aload_n hx hb dLW_law_1149 rfl (lv_at hl 0 rfl) ?_
        refine lv_iload hx hb dLW_law_1150 (lv_at hl 4 rfl) ?_
        refine lv_iconst (v := nI 3) hx hb dLW_law_1152 (by decide) ?_
        refine lv_iadd hx hb dLW_law_1153 ?_
        refine xt_i (y := nI (12 * t9 + 3)) (nI_add _ _) ?_
        refine xs_ld hx hb hXs hbl hbA (Nat.lt_of_le_of_lt hL (by decide)) hS (12 * t9 + 3) (by omega) dLW_law_1154 ?_
        refine lv_i2l (v := (sc (12 * t9 + 3)).toInt64) hx hb dLW_law_1155 rfl ?_
        refine lv_ldc2 (v := 4294967295) hx hb hown (hts _ w_j_LW_68) dLW_law_1156 ?_
        refine lv_land hx hb dLW_law_1159 ?_
        refine lv_lor hx hb dLW_law_1160 ?_
        refine xt_l (y := lc_lg sc (12 * t9 + 2)) (rfl) ?_
        refine lv_aload_n hx hb dLW_law_1161 rfl (lv_at hl 0 rfl) ?_
        refine lv_iload hx hb dLW_law_1162 (lv_at hl 4 rfl) ?_
        refine lv_iconst (v := nI 4) hx hb dLW_law_1164 (by decide) ?_
        refine lv_iadd hx hb dLW_law_1165 ?_
        refine xt_i (y := nI (12 * t9 + 4)) (nI_add _ _) ?_
        refine xs_ld hx hb hXs hbl hbA (Nat.lt_of_le_of_lt hL (by decide)) hS (12 * t9 + 4) (by omega) dLW_law_1166 ?_
        refine lv_i2l (v := (sc (12 * t9 + 4)).toInt64) hx hb dLW_law_1167 rfl ?_
        refine lv_bipush (v := nI 32) hx hb dLW_law_1168 (by decide) ?_
        refine lv_lshl (v := j_lshl ((sc (12 * t9 + 4)).toInt64) (nI 32)) hx hb dLW_law_1170 rfl ?_
        refine lv_aload_n hx hb dLW_law_1171 rfl (lv_at hl 0 rfl) ?_
        refine lv_iload hx hb dLW_law_1172 (lv_at hl 4 rfl) ?_
        refine lv_iconst (v := nI 5) hx hb dLW_law_1174 (by decide) ?_
        refine lv_iadd hx hb dLW_law_1175 ?_
        refine xt_i (y := nI (12 * t9 + 5)) (nI_add _ _) ?_
        refine xs_ld hx hb hXs hbl hbA (Nat.lt_of_le_of_lt hL (by decide)) hS (12 * t9 + 5) (by omega) dLW_law_1176 ?_
        refine lv_i2l (v := (sc (12 * t9 + 5)).toInt64) hx hb dLW_law_1177 rfl ?_
        refine lv_ldc2 (v := 4294967295) hx hb hown (hts _ w_j_LW_68) dLW_law_1178 ?_
        refine lv_land hx hb dLW_law_1181 ?_
        refine lv_lor hx hb dLW_law_1182 ?_
        refine xt_l (y := lc_lg sc (12 * t9 + 4)) (rfl) ?_
        refine lv_aload_n hx hb dLW_law_1183 rfl (lv_at hl 0 rfl) ?_
        refine lv_iload hx hb dLW_law_1184 (lv_at hl 4 rfl) ?_
        refine lv_bipush (v := nI 6) hx hb dLW_law_1186 (by decide) ?_
        refine lv_iadd hx hb dLW_law_1188 ?_
        refine xt_i (y := nI (12 * t9 + 6)) (nI_add _ _) ?_
        refine xs_ld hx hb hXs hbl hbA (Nat.lt_of_le_of_lt hL (by decide)) hS (12 * t9 + 6) (by omega) dLW_law_1189 ?_
        refine lv_if_eq (tgt := 1197) hx hb dLW_law_1190 (by decide) (fun h => absurd h (h6)) (fun _ => ?_)
        refine lv_iconst (v := nI 1) hx hb dLW_law_1193 (by decide) ?_
        refine lv_goto (tgt := 1198) hx hb dLW_law_1194 (by decide) ?_
        refine xt_i (y := bs_z true) (rfl) ?_
        refine lv_aload_n hx hb dLW_law_1198 rfl (lv_at hl 3 rfl) ?_
        have hPc := hP.sub (ws' := [(bo, .inr (5, [.ref q, .ref km, .ref ka, .ref cs])), (q, .inr (0, [.ref sb, .ref co, .ref rk, .long f1, .long f2, .int bt])), (sb, .inl (cI, 256, .inl bs_SBf)), (co, .inl (cI, 256, .inl bs_CTf)), (rk, .inl (cR, 2, .inr (.inr (.inr (.inr (bs_gl [rk0, rk1])))))), (rk1, .inl (cI, 44, .inl bs_V1)), (ou, .inl (cL, 1, .inr (.inl fz)))]) [0, 1, 2, 3, 4, 6, 13] rfl
        have hDc := hD.sub (ws' := [(bo, .inr (5, [.ref q, .ref km, .ref ka, .ref cs])), (q, .inr (0, [.ref sb, .ref co, .ref rk, .long f1, .long f2, .int bt])), (sb, .inl (cI, 256, .inl bs_SBf)), (co, .inl (cI, 256, .inl bs_CTf)), (rk, .inl (cR, 2, .inr (.inr (.inr (.inr (bs_gl [rk0, rk1])))))), (rk1, .inl (cI, 44, .inl bs_V1)), (ou, .inl (cL, 1, .inr (.inl fz)))]) [0, 1, 2, 3, 4, 6, 13] (by decide) rfl
        have hKc := hK.sub (tys' := [(cI, .int), (cR, .array .int), (cL, .long)]) [0, 3, 1] rfl
        have hFc := va_free (wc := [(bo, .inr (5, [.ref q, .ref km, .ref ka, .ref cs])), (q, .inr (0, [.ref sb, .ref co, .ref rk, .long f1, .long f2, .int bt])), (sb, .inl (cI, 256, .inl bs_SBf)), (co, .inl (cI, 256, .inl bs_CTf)), (rk, .inl (cR, 2, .inr (.inr (.inr (.inr (bs_gl [rk0, rk1])))))), (rk1, .inl (cI, 44, .inl bs_V1)), (ou, .inl (cL, 1, .inr (.inl fz)))]) hD hS hA [0, 1, 2, 3, 4, 6, 13] rfl
        refine va_calli (xs_runW (n := 6) (hh := [(0, 14, 17, 13)]) (As := [.ref bo, .int (nI 1), .long (lc_lg sc (12 * t9 + 2)), .long (lc_lg sc (12 * t9 + 4)), .int (bs_z true), .ref ou]) (rest := []) ⟨hx, hb, hml, hown, hts⟩ (c_LW_cipher_y l dC dI H.size bo km ka cs q sb co rk rk1 cI cR bs_SBf bs_CTf (bs_gl [rk0, rk1]) bs_V1 1 (lc_lg sc (12 * t9 + 2)) (lc_lg sc (12 * t9 + 4)) f1 f2 bt true cL ou fz (by decide) rfl) (wT_3 w_m_LW_124 w_t_LW_cipher w_n_LW w_c_LW_cipher) rfl rfl rfl (by decide +kernel) ⟨Nat.le_of_ble_eq_true rfl, Nat.le_of_ble_eq_true rfl⟩ ⟨fun a U g mk q => by obtain ⟨q0, q1, qP, qK, qD⟩ := q; exact ⟨q0, q1, qP, va_K.moved (u := U) (U := U.calling g mk a) (Vm.Alike.refl U.vm) qK, qD⟩, fun U hU hW => ⟨rfl, by rw [hU], by rw [hU]; exact hPc, va_K.moved hW.alike hKc, hDc.weaken (fun _ _ _ _ => trivial)⟩⟩ rfl rfl hl.1 rfl (lv_room (Nat.le_of_ble_eq_true rfl)) dLW_law_1199 ⟨show k9 + 1 ≤ 601024 from by omega, show n9 + 6 ≤ 7293034 from by omega⟩) hS (fun q _ h => hFc q h) hFc (fun r u t H1 locs ht hvm hw hB hz1 hk1 hS => ?_)
        obtain ⟨hP1, hK1, hD1⟩ := hB
        rw [ht] at hP1
        have hK1 := va_K.moved hvm.symm hK1
        have hw : r = nI 0 := hw
        rw [hw]
        obtain ⟨hP, hD⟩ := xj_join (wt := wt) (wr := [(rk0, .inl (cI, 44, .inl bs_V0)), (o, .inr (6, [.int th, .ref xv, .ref xo, .ref xn, .ref xc, .ref xb, .ref xd, .ref xq, .ref xa, .ref xk, .ref xt, .ref xh, .ref xs, .ref xS, .ref xw, .ref xW, .ref xB, .ref xM, .long jf, .long js, .int jb, .long nf, .long ns, .int nb, .ref xf, .ref xg, .ref xi])), (xB, .inl (cI, 16, .inl bl)), (xM, .inl (cI, 16, .inl mv)), (xS, .inl (cI, 256, .inl (bs_fn bs_SB))), (xw, .inl (cI, 256, .inl (bs_fn bs_tX))), (xW, .inl (cI, 352, .inl (bs_fn bs_KK)))]) (w1 := [(bo, .inr (5, [.ref q, .ref km, .ref ka, .ref cs])), (q, .inr (0, [.ref sb, .ref co, .ref rk, .long (bs_e1 bs_CTf bs_SBf bs_V1 (lc_lg sc (12 * t9 + 2)) (lc_lg sc (12 * t9 + 4))), .long (bs_e2 bs_CTf bs_SBf bs_V1 (lc_lg sc (12 * t9 + 2)) (lc_lg sc (12 * t9 + 4))), .int bt])), (sb, .inl (cI, 256, .inl bs_SBf)), (co, .inl (cI, 256, .inl bs_CTf)), (rk, .inl (cR, 2, .inr (.inr (.inr (.inr (bs_gl [rk0, rk1])))))), (rk1, .inl (cI, 44, .inl bs_V1)), (ou, .inl (cL, 1, .inr (.inl (vp_updL fz 0 (if true then bs_e1 bs_CTf bs_SBf bs_V1 (lc_lg sc (12 * t9 + 2)) (lc_lg sc (12 * t9 + 4)) else bs_e2 bs_CTf bs_SBf bs_V1 (lc_lg sc (12 * t9 + 2)) (lc_lg sc (12 * t9 + 4)))))))]) hP hD [0, 1, 2, 3, 4, 6, 13] [5, 7, 8, 9, 10, 11, 12] rfl rfl (by decide) (by decide) hk1 hFc hP1 hD1
        generalize H1 = H at hP hS ⊢
        have hP : va_P (dC, dI) vwCl (xj_ap [(rk0, .inl (cI, 44, .inl bs_V0)), (o, .inr (6, [.int th, .ref xv, .ref xo, .ref xn, .ref xc, .ref xb, .ref xd, .ref xq, .ref xa, .ref xk, .ref xt, .ref xh, .ref xs, .ref xS, .ref xw, .ref xW, .ref xB, .ref xM, .long jf, .long js, .int jb, .long nf, .long ns, .int nb, .ref xf, .ref xg, .ref xi])), (xB, .inl (cI, 16, .inl bl)), (xM, .inl (cI, 16, .inl mv)), (xS, .inl (cI, 256, .inl (bs_fn bs_SB))), (xw, .inl (cI, 256, .inl (bs_fn bs_tX))), (xW, .inl (cI, 352, .inl (bs_fn bs_KK))), (bo, .inr (5, [.ref q, .ref km, .ref ka, .ref cs])), (q, .inr (0, [.ref sb, .ref co, .ref rk, .long (bs_e1 bs_CTf bs_SBf bs_V1 (lc_lg sc (12 * t9 + 2)) (lc_lg sc (12 * t9 + 4))), .long (bs_e2 bs_CTf bs_SBf bs_V1 (lc_lg sc (12 * t9 + 2)) (lc_lg sc (12 * t9 + 4))), .int bt])), (sb, .inl (cI, 256, .inl bs_SBf)), (co, .inl (cI, 256, .inl bs_CTf)), (rk, .inl (cR, 2, .inr (.inr (.inr (.inr (bs_gl [rk0, rk1])))))), (rk1, .inl (cI, 44, .inl bs_V1)), (ou, .inl (cL, 1, .inr (.inl (vp_updL fz 0 (if true then bs_e1 bs_CTf bs_SBf bs_V1 (lc_lg sc (12 * t9 + 2)) (lc_lg sc (12 * t9 + 4)) else bs_e2 bs_CTf bs_SBf bs_V1 (lc_lg sc (12 * t9 + 2)) (lc_lg sc (12 * t9 + 4)))))))] wt) H := hP
        have hD : va_D A (xj_ap [(rk0, .inl (cI, 44, .inl bs_V0)), (o, .inr (6, [.int th, .ref xv, .ref xo, .ref xn, .ref xc, .ref xb, .ref xd, .ref xq, .ref xa, .ref xk, .ref xt, .ref xh, .ref xs, .ref xS, .ref xw, .ref xW, .ref xB, .ref xM, .long jf, .long js, .int jb, .long nf, .long ns, .int nb, .ref xf, .ref xg, .ref xi])), (xB, .inl (cI, 16, .inl bl)), (xM, .inl (cI, 16, .inl mv)), (xS, .inl (cI, 256, .inl (bs_fn bs_SB))), (xw, .inl (cI, 256, .inl (bs_fn bs_tX))), (xW, .inl (cI, 352, .inl (bs_fn bs_KK))), (bo, .inr (5, [.ref q, .ref km, .ref ka, .ref cs])), (q, .inr (0, [.ref sb, .ref co, .ref rk, .long (bs_e1 bs_CTf bs_SBf bs_V1 (lc_lg sc (12 * t9 + 2)) (lc_lg sc (12 * t9 + 4))), .long (bs_e2 bs_CTf bs_SBf bs_V1 (lc_lg sc (12 * t9 + 2)) (lc_lg sc (12 * t9 + 4))), .int bt])), (sb, .inl (cI, 256, .inl bs_SBf)), (co, .inl (cI, 256, .inl bs_CTf)), (rk, .inl (cR, 2, .inr (.inr (.inr (.inr (bs_gl [rk0, rk1])))))), (rk1, .inl (cI, 44, .inl bs_V1)), (ou, .inl (cL, 1, .inr (.inl (vp_updL fz 0 (if true then bs_e1 bs_CTf bs_SBf bs_V1 (lc_lg sc (12 * t9 + 2)) (lc_lg sc (12 * t9 + 4)) else bs_e2 bs_CTf bs_SBf bs_V1 (lc_lg sc (12 * t9 + 2)) (lc_lg sc (12 * t9 + 4)))))))] wt) := hD
        refine lv_istore (lv' := [(5, .int (nI 0)), (0, .ref b), (1, .ref bo), (2, .ref o), (3, .ref ou), (4, .int (nI (12 * t9)))]) hx hb dLW_law_1202 hl (by decide) rfl (fun ls hl => ?_)
        refine lv_aload_n hx hb dLW_law_1204 rfl (lv_at hl 3 rfl) ?_
        refine lv_aload_n hx hb dLW_law_1205 rfl (lv_at hl 1 rfl) ?_
        refine lv_iload hx hb dLW_law_1206 (lv_at hl 5 rfl) ?_
        refine lv_iconst (v := nI 1) hx hb dLW_law_1208 (by decide) ?_
        refine lv_iadd hx hb dLW_law_1209 ?_
        refine xt_i (y := nI (12 * t9 + 1)) (nI_add _ _) ?_
        refine xs_ld hx hb hXs hbl hbA (Nat.lt_of_le_of_lt hL (by decide)) hS (12 * t9 + 1) (by omega) dLW_law_1210 ?_
        refine xt_i (y := nI 1) (hxe) ?_
        refine lv_aload_n hx hb dLW_law_1211 rfl (lv_at hl 1 rfl) ?_
        refine lv_iload hx hb dLW_law_1212 (lv_at hl 5 rfl) ?_
        refine lv_iconst (v := nI 2) hx hb dLW_law_1214 (by decide) ?_
        refine lv_iadd hx hb dLW_law_1215 ?_
        refine xt_i (y := nI (12 * t9 + 2)) (nI_add _ _) ?_
        refine xs_ld hx hb hXs hbl hbA (Nat.lt_of_le_of_lt hL (by decide)) hS (12 * t9 + 2) (by omega) dLW_law_1216 ?_
        refine lv_i2l (v := (sc (12 * t9 + 2)).toInt64) hx hb dLW_law_1217 rfl ?_
        refine lv_bipush (v := nI 32) hx hb dLW_law_1218 (by decide) ?_
        refine lv_lshl (v := j_lshl ((sc (12 * t9 + 2)).toInt64) (nI 32)) hx hb dLW_law_1220 rfl ?_
        refine lv_aload_n hx hb dLW_law_1221 rfl (lv_at hl 1 rfl) ?_
        refine lv_iload hx hb dLW_law_1222 (lv_at hl 5 rfl) ?_
        refine lv_iconst (v := nI 3) hx hb dLW_law_1224 (by decide) ?_
        refine lv_iadd hx hb dLW_law_1225 ?_
        refine xt_i (y := nI (12 * t9 + 3)) (nI_add _ _) ?_
        refine xs_ld hx hb hXs hbl hbA (Nat.lt_of_le_of_lt hL (by decide)) hS (12 * t9 + 3) (by omega) dLW_law_1226 ?_
        refine lv_i2l (v := (sc (12 * t9 + 3)).toInt64) hx hb dLW_law_1227 rfl ?_
        refine lv_ldc2 (v := 4294967295) hx hb hown (hts _ w_j_LW_68) dLW_law_1228 ?_
        refine lv_land hx hb dLW_law_1231 ?_
        refine lv_lor hx hb dLW_law_1232 ?_
        refine xt_l (y := lc_lg sc (12 * t9 + 2)) (rfl) ?_
        refine lv_aload_n hx hb dLW_law_1233 rfl (lv_at hl 1 rfl) ?_
        refine lv_iload hx hb dLW_law_1234 (lv_at hl 5 rfl) ?_
        refine lv_iconst (v := nI 4) hx hb dLW_law_1236 (by decide) ?_
        refine lv_iadd hx hb dLW_law_1237 ?_
        refine xt_i (y := nI (12 * t9 + 4)) (nI_add _ _) ?_
        refine xs_ld hx hb hXs hbl hbA (Nat.lt_of_le_of_lt hL (by decide)) hS (12 * t9 + 4) (by omega) dLW_law_1238 ?_
        refine lv_i2l (v := (sc (12 * t9 + 4)).toInt64) hx hb dLW_law_1239 rfl ?_
        refine lv_bipush (v := nI 32) hx hb dLW_law_1240 (by decide) ?_
        refine lv_lshl (v := j_lshl ((sc (12 * t9 + 4)).toInt64) (nI 32)) hx hb dLW_law_1242 rfl ?_
        refine lv_aload_n hx hb dLW_law_1243 rfl (lv_at hl 1 rfl) ?_
        refine lv_iload hx hb dLW_law_1244 (lv_at hl 5 rfl) ?_
        refine lv_iconst (v := nI 5) hx hb dLW_law_1246 (by decide) ?_
        refine lv_iadd hx hb dLW_law_1247 ?_
        refine xt_i (y := nI (12 * t9 + 5)) (nI_add _ _) ?_
        refine xs_ld hx hb hXs hbl hbA (Nat.lt_of_le_of_lt hL (by decide)) hS (12 * t9 + 5) (by omega) dLW_law_1248 ?_
        refine lv_i2l (v := (sc (12 * t9 + 5)).toInt64) hx hb dLW_law_1249 rfl ?_
        refine lv_ldc2 (v := 4294967295) hx hb hown (hts _ w_j_LW_68) dLW_law_1250 ?_
        refine lv_land hx hb dLW_law_1253 ?_
        refine lv_lor hx hb dLW_law_1254 ?_
        refine xt_l (y := lc_lg sc (12 * t9 + 4)) (rfl) ?_
        refine lv_aload_n hx hb dLW_law_1255 rfl (lv_at hl 1 rfl) ?_
        refine lv_iload hx hb dLW_law_1256 (lv_at hl 5 rfl) ?_
        refine lv_bipush (v := nI 6) hx hb dLW_law_1258 (by decide) ?_
        refine lv_iadd hx hb dLW_law_1260 ?_
        refine xt_i (y := nI (12 * t9 + 6)) (nI_add _ _) ?_
        refine xs_ld hx hb hXs hbl hbA (Nat.lt_of_le_of_lt hL (by decide)) hS (12 * t9 + 6) (by omega) dLW_law_1261 ?_
        refine lv_if_eq (tgt := 1269) hx hb dLW_law_1262 (by decide) (fun h => absurd h (h6)) (fun _ => ?_)
        refine lv_iconst (v := nI 1) hx hb dLW_law_1265 (by decide) ?_
        refine lv_goto (tgt := 1270) hx hb dLW_law_1266 (by decide) ?_
        refine xt_i (y := bs_z true) (rfl) ?_
        have hPc := hP.sub (ws' := [(o, .inr (6, [.int th, .ref xv, .ref xo, .ref xn, .ref xc, .ref xb, .ref xd, .ref xq, .ref xa, .ref xk, .ref xt, .ref xh, .ref xs, .ref xS, .ref xw, .ref xW, .ref xB, .ref xM, .long jf, .long js, .int jb, .long nf, .long ns, .int nb, .ref xf, .ref xg, .ref xi])), (xB, .inl (cI, 16, .inl bl)), (xM, .inl (cI, 16, .inl mv)), (xS, .inl (cI, 256, .inl (bs_fn bs_SB))), (xw, .inl (cI, 256, .inl (bs_fn bs_tX))), (xW, .inl (cI, 352, .inl (bs_fn bs_KK)))]) [1, 2, 3, 4, 5, 6] rfl
        have hDc := hD.sub (ws' := [(o, .inr (6, [.int th, .ref xv, .ref xo, .ref xn, .ref xc, .ref xb, .ref xd, .ref xq, .ref xa, .ref xk, .ref xt, .ref xh, .ref xs, .ref xS, .ref xw, .ref xW, .ref xB, .ref xM, .long jf, .long js, .int jb, .long nf, .long ns, .int nb, .ref xf, .ref xg, .ref xi])), (xB, .inl (cI, 16, .inl bl)), (xM, .inl (cI, 16, .inl mv)), (xS, .inl (cI, 256, .inl (bs_fn bs_SB))), (xw, .inl (cI, 256, .inl (bs_fn bs_tX))), (xW, .inl (cI, 352, .inl (bs_fn bs_KK)))]) [1, 2, 3, 4, 5, 6] (by decide) rfl
        have hKc := hK.sub (tys' := [(cI, .int)]) [0] rfl
        have hFc := va_free (wc := [(o, .inr (6, [.int th, .ref xv, .ref xo, .ref xn, .ref xc, .ref xb, .ref xd, .ref xq, .ref xa, .ref xk, .ref xt, .ref xh, .ref xs, .ref xS, .ref xw, .ref xW, .ref xB, .ref xM, .long jf, .long js, .int jb, .long nf, .long ns, .int nb, .ref xf, .ref xg, .ref xi])), (xB, .inl (cI, 16, .inl bl)), (xM, .inl (cI, 16, .inl mv)), (xS, .inl (cI, 256, .inl (bs_fn bs_SB))), (xw, .inl (cI, 256, .inl (bs_fn bs_tX))), (xW, .inl (cI, 352, .inl (bs_fn bs_KK)))]) hD hS hA [1, 2, 3, 4, 5, 6] rfl
        refine va_calll (va_runV (C := RMO) (As := [.int (nI 1), .long (lc_lg sc (12 * t9 + 2)), .long (lc_lg sc (12 * t9 + 4)), .int (bs_z true)]) (rest := []) ⟨hx, hb, hml, hown, hts⟩ (c_MO_cipher_y l dC dI H.size o xv xo xn xc xb xd xq xa xk xt xh xs xS xw xW xB xM xf xg xi th jf js jb nf ns nb cI bs_KK 1 (lc_lg sc (12 * t9 + 2)) (lc_lg sc (12 * t9 + 4)) bl mv true (by decide) bs_KK_lt) (cwV (C := RMO) 4 hts (wT_4 w_m_LW_127 w_i_MO_cipher w_s_MO_cipher w_n_MO w_c_MO_cipher) rfl rfl rfl (by decide +kernel) ⟨Nat.le_of_ble_eq_true rfl, Nat.le_of_ble_eq_true rfl⟩) ⟨fun a U g mk q => by obtain ⟨q0, q1, qP, qK, qD⟩ := q; exact ⟨q0, q1, qP, va_K.moved (u := U) (U := U.calling g mk a) (Vm.Alike.refl U.vm) qK, qD⟩, va_recv hK hP (q0 := 1) (ci := 6) (q := (RMO, TMO, 27)) rfl rfl, fun U hU hW => ⟨rfl, by rw [hU], by rw [hU]; exact hPc, va_K.moved hW.alike hKc, hDc.weaken (fun _ _ _ _ => trivial)⟩⟩ rfl rfl hl.1 rfl (lv_room (Nat.le_of_ble_eq_true rfl)) dLW_law_1270 ⟨show k9 + 1 + 0 ≤ 601024 from by omega, show n9 + 6 + 0 ≤ 7293034 from by omega⟩) hS (fun q _ h => hFc q h) hFc (fun r u t H1 locs ht hvm hw hB hz1 hk1 hS => ?_)
        obtain ⟨mv2, rfl⟩ : ∃ z, z = u := ⟨_, rfl⟩
        obtain ⟨hP1, hK1, hD1⟩ := hB
        rw [ht] at hP1
        have hK1 := va_K.moved hvm.symm hK1
        obtain ⟨hw, hw8⟩ : r = (if true then bs_rd (bs_fn (bs_E (fun j9 => bs_KK (176 * 1 + j9)) (lc_lg sc (12 * t9 + 2)) (lc_lg sc (12 * t9 + 4)))) 0 8 else bs_rd (bs_fn (bs_E (fun j9 => bs_KK (176 * 1 + j9)) (lc_lg sc (12 * t9 + 2)) (lc_lg sc (12 * t9 + 4)))) 8 8) ∧ True := hw
        rw [hw]
        obtain ⟨hP, hD⟩ := xj_join (wt := wt) (wr := [(rk0, .inl (cI, 44, .inl bs_V0)), (bo, .inr (5, [.ref q, .ref km, .ref ka, .ref cs])), (q, .inr (0, [.ref sb, .ref co, .ref rk, .long (bs_e1 bs_CTf bs_SBf bs_V1 (lc_lg sc (12 * t9 + 2)) (lc_lg sc (12 * t9 + 4))), .long (bs_e2 bs_CTf bs_SBf bs_V1 (lc_lg sc (12 * t9 + 2)) (lc_lg sc (12 * t9 + 4))), .int bt])), (sb, .inl (cI, 256, .inl bs_SBf)), (co, .inl (cI, 256, .inl bs_CTf)), (rk, .inl (cR, 2, .inr (.inr (.inr (.inr (bs_gl [rk0, rk1])))))), (rk1, .inl (cI, 44, .inl bs_V1)), (ou, .inl (cL, 1, .inr (.inl (vp_updL fz 0 (if true then bs_e1 bs_CTf bs_SBf bs_V1 (lc_lg sc (12 * t9 + 2)) (lc_lg sc (12 * t9 + 4)) else bs_e2 bs_CTf bs_SBf bs_V1 (lc_lg sc (12 * t9 + 2)) (lc_lg sc (12 * t9 + 4)))))))]) (w1 := [(o, .inr (6, [.int (nI 0), .ref xv, .ref xo, .ref xn, .ref xc, .ref xb, .ref xd, .ref xq, .ref xa, .ref xk, .ref xt, .ref xh, .ref xs, .ref xS, .ref xw, .ref xW, .ref xB, .ref xM, .long jf, .long js, .int jb, .long nf, .long ns, .int nb, .ref xf, .ref xg, .ref xi])), (xB, .inl (cI, 16, .inl (bs_fn (bs_E (fun j9 => bs_KK (176 * 1 + j9)) (lc_lg sc (12 * t9 + 2)) (lc_lg sc (12 * t9 + 4)))))), (xM, .inl (cI, 16, .inl mv2)), (xS, .inl (cI, 256, .inl (bs_fn bs_SB))), (xw, .inl (cI, 256, .inl (bs_fn bs_tX))), (xW, .inl (cI, 352, .inl (bs_fn bs_KK)))]) hP hD [1, 2, 3, 4, 5, 6] [0, 7, 8, 9, 10, 11, 12, 13] rfl rfl (by decide) (by decide) hk1 hFc hP1 hD1
        generalize H1 = H at hP hS ⊢
        have hP : va_P (dC, dI) vwCl (xj_ap [(rk0, .inl (cI, 44, .inl bs_V0)), (bo, .inr (5, [.ref q, .ref km, .ref ka, .ref cs])), (q, .inr (0, [.ref sb, .ref co, .ref rk, .long (bs_e1 bs_CTf bs_SBf bs_V1 (lc_lg sc (12 * t9 + 2)) (lc_lg sc (12 * t9 + 4))), .long (bs_e2 bs_CTf bs_SBf bs_V1 (lc_lg sc (12 * t9 + 2)) (lc_lg sc (12 * t9 + 4))), .int bt])), (sb, .inl (cI, 256, .inl bs_SBf)), (co, .inl (cI, 256, .inl bs_CTf)), (rk, .inl (cR, 2, .inr (.inr (.inr (.inr (bs_gl [rk0, rk1])))))), (rk1, .inl (cI, 44, .inl bs_V1)), (ou, .inl (cL, 1, .inr (.inl (vp_updL fz 0 (if true then bs_e1 bs_CTf bs_SBf bs_V1 (lc_lg sc (12 * t9 + 2)) (lc_lg sc (12 * t9 + 4)) else bs_e2 bs_CTf bs_SBf bs_V1 (lc_lg sc (12 * t9 + 2)) (lc_lg sc (12 * t9 + 4))))))), (o, .inr (6, [.int (nI 0), .ref xv, .ref xo, .ref xn, .ref xc, .ref xb, .ref xd, .ref xq, .ref xa, .ref xk, .ref xt, .ref xh, .ref xs, .ref xS, .ref xw, .ref xW, .ref xB, .ref xM, .long jf, .long js, .int jb, .long nf, .long ns, .int nb, .ref xf, .ref xg, .ref xi])), (xB, .inl (cI, 16, .inl (bs_fn (bs_E (fun j9 => bs_KK (176 * 1 + j9)) (lc_lg sc (12 * t9 + 2)) (lc_lg sc (12 * t9 + 4)))))), (xM, .inl (cI, 16, .inl mv2)), (xS, .inl (cI, 256, .inl (bs_fn bs_SB))), (xw, .inl (cI, 256, .inl (bs_fn bs_tX))), (xW, .inl (cI, 352, .inl (bs_fn bs_KK)))] wt) H := hP
        have hD : va_D A (xj_ap [(rk0, .inl (cI, 44, .inl bs_V0)), (bo, .inr (5, [.ref q, .ref km, .ref ka, .ref cs])), (q, .inr (0, [.ref sb, .ref co, .ref rk, .long (bs_e1 bs_CTf bs_SBf bs_V1 (lc_lg sc (12 * t9 + 2)) (lc_lg sc (12 * t9 + 4))), .long (bs_e2 bs_CTf bs_SBf bs_V1 (lc_lg sc (12 * t9 + 2)) (lc_lg sc (12 * t9 + 4))), .int bt])), (sb, .inl (cI, 256, .inl bs_SBf)), (co, .inl (cI, 256, .inl bs_CTf)), (rk, .inl (cR, 2, .inr (.inr (.inr (.inr (bs_gl [rk0, rk1])))))), (rk1, .inl (cI, 44, .inl bs_V1)), (ou, .inl (cL, 1, .inr (.inl (vp_updL fz 0 (if true then bs_e1 bs_CTf bs_SBf bs_V1 (lc_lg sc (12 * t9 + 2)) (lc_lg sc (12 * t9 + 4)) else bs_e2 bs_CTf bs_SBf bs_V1 (lc_lg sc (12 * t9 + 2)) (lc_lg sc (12 * t9 + 4))))))), (o, .inr (6, [.int (nI 0), .ref xv, .ref xo, .ref xn, .ref xc, .ref xb, .ref xd, .ref xq, .ref xa, .ref xk, .ref xt, .ref xh, .ref xs, .ref xS, .ref xw, .ref xW, .ref xB, .ref xM, .long jf, .long js, .int jb, .long nf, .long ns, .int nb, .ref xf, .ref xg, .ref xi])), (xB, .inl (cI, 16, .inl (bs_fn (bs_E (fun j9 => bs_KK (176 * 1 + j9)) (lc_lg sc (12 * t9 + 2)) (lc_lg sc (12 * t9 + 4)))))), (xM, .inl (cI, 16, .inl mv2)), (xS, .inl (cI, 256, .inl (bs_fn bs_SB))), (xw, .inl (cI, 256, .inl (bs_fn bs_tX))), (xW, .inl (cI, 352, .inl (bs_fn bs_KK)))] wt) := hD
        refine lv_lstore (lv' := [(6, .long (if true then bs_rd (bs_fn (bs_E (fun j9 => bs_KK (176 * 1 + j9)) (lc_lg sc (12 * t9 + 2)) (lc_lg sc (12 * t9 + 4)))) 0 8 else bs_rd (bs_fn (bs_E (fun j9 => bs_KK (176 * 1 + j9)) (lc_lg sc (12 * t9 + 2)) (lc_lg sc (12 * t9 + 4)))) 8 8)), (5, .int (nI 0)), (0, .ref b), (1, .ref bo), (2, .ref o), (3, .ref ou), (4, .int (nI (12 * t9)))]) hx hb dLW_law_1273 hl (by decide) rfl (fun ls hl => ?_)
        refine lv_aload_n hx hb dLW_law_1275 rfl (lv_at hl 4 rfl) ?_
        have hPc := hP.sub (ws' := [(o, .inr (6, [.int (nI 0), .ref xv, .ref xo, .ref xn, .ref xc, .ref xb, .ref xd, .ref xq, .ref xa, .ref xk, .ref xt, .ref xh, .ref xs, .ref xS, .ref xw, .ref xW, .ref xB, .ref xM, .long jf, .long js, .int jb, .long nf, .long ns, .int nb, .ref xf, .ref xg, .ref xi]))]) [8] rfl
        have hDc := hD.sub (ws' := [(o, .inr (6, [.int (nI 0), .ref xv, .ref xo, .ref xn, .ref xc, .ref xb, .ref xd, .ref xq, .ref xa, .ref xk, .ref xt, .ref xh, .ref xs, .ref xS, .ref xw, .ref xW, .ref xB, .ref xM, .long jf, .long js, .int jb, .long nf, .long ns, .int nb, .ref xf, .ref xg, .ref xi]))]) [8] (by decide) rfl
        have hKc := hK.sub (tys' := []) [] rfl
        have hFc := va_free (wc := [(o, .inr (6, [.int (nI 0), .ref xv, .ref xo, .ref xn, .ref xc, .ref xb, .ref xd, .ref xq, .ref xa, .ref xk, .ref xt, .ref xh, .ref xs, .ref xS, .ref xw, .ref xW, .ref xB, .ref xM, .long jf, .long js, .int jb, .long nf, .long ns, .int nb, .ref xf, .ref xg, .ref xi]))]) hD hS hA [8] rfl
        refine va_calli (va_runV (C := RMO) (As := []) (rest := []) ⟨hx, hb, hml, hown, hts⟩ (c_MO_thrown l dC dI H.size o xv xo xn xc xb xd xq xa xk xt xh xs xS xw xW xB xM xf xg xi (nI 0) jf js jb nf ns nb) (cwV (C := RMO) 0 hts (wT_4 w_m_LW_76 w_i_MO_thrown w_s_MO_thrown w_n_MO w_c_MO_thrown) rfl rfl rfl (by decide +kernel) ⟨Nat.le_of_ble_eq_true rfl, Nat.le_of_ble_eq_true rfl⟩) ⟨fun a U g mk q => by obtain ⟨q0, q1, qP, qK, qD⟩ := q; exact ⟨q0, q1, qP, va_K.moved (u := U) (U := U.calling g mk a) (Vm.Alike.refl U.vm) qK, qD⟩, va_recv hK hP (q0 := 8) (ci := 6) (q := (RMO, TMO, 27)) rfl rfl, fun U hU hW => ⟨rfl, by rw [hU], by rw [hU]; exact hPc, va_K.moved hW.alike hKc, hDc.weaken (fun _ _ _ _ => trivial)⟩⟩ rfl rfl hl.1 rfl (lv_room (Nat.le_of_ble_eq_true rfl)) dLW_law_1276 ⟨show k9 + 1 + 0 ≤ 601024 from by omega, show n9 + 6 + 0 ≤ 7293034 from by omega⟩) hS (fun q _ h => hFc q h) hFc (fun r u t H1 locs ht hvm hw hB hz1 hk1 hS => ?_)
        obtain ⟨hP1, hK1, hD1⟩ := hB
        rw [ht] at hP1
        have hK1 := va_K.moved hvm.symm hK1
        have hw : r = nI 0 := hw
        rw [hw]
        obtain ⟨hP, hD⟩ := xj_join (wt := wt) (wr := [(rk0, .inl (cI, 44, .inl bs_V0)), (bo, .inr (5, [.ref q, .ref km, .ref ka, .ref cs])), (q, .inr (0, [.ref sb, .ref co, .ref rk, .long (bs_e1 bs_CTf bs_SBf bs_V1 (lc_lg sc (12 * t9 + 2)) (lc_lg sc (12 * t9 + 4))), .long (bs_e2 bs_CTf bs_SBf bs_V1 (lc_lg sc (12 * t9 + 2)) (lc_lg sc (12 * t9 + 4))), .int bt])), (sb, .inl (cI, 256, .inl bs_SBf)), (co, .inl (cI, 256, .inl bs_CTf)), (rk, .inl (cR, 2, .inr (.inr (.inr (.inr (bs_gl [rk0, rk1])))))), (rk1, .inl (cI, 44, .inl bs_V1)), (ou, .inl (cL, 1, .inr (.inl (vp_updL fz 0 (if true then bs_e1 bs_CTf bs_SBf bs_V1 (lc_lg sc (12 * t9 + 2)) (lc_lg sc (12 * t9 + 4)) else bs_e2 bs_CTf bs_SBf bs_V1 (lc_lg sc (12 * t9 + 2)) (lc_lg sc (12 * t9 + 4))))))), (xB, .inl (cI, 16, .inl (bs_fn (bs_E (fun j9 => bs_KK (176 * 1 + j9)) (lc_lg sc (12 * t9 + 2)) (lc_lg sc (12 * t9 + 4)))))), (xM, .inl (cI, 16, .inl mv2)), (xS, .inl (cI, 256, .inl (bs_fn bs_SB))), (xw, .inl (cI, 256, .inl (bs_fn bs_tX))), (xW, .inl (cI, 352, .inl (bs_fn bs_KK)))]) (w1 := [(o, .inr (6, [.int (nI 0), .ref xv, .ref xo, .ref xn, .ref xc, .ref xb, .ref xd, .ref xq, .ref xa, .ref xk, .ref xt, .ref xh, .ref xs, .ref xS, .ref xw, .ref xW, .ref xB, .ref xM, .long jf, .long js, .int jb, .long nf, .long ns, .int nb, .ref xf, .ref xg, .ref xi]))]) hP hD [8] [0, 1, 2, 3, 4, 5, 6, 7, 9, 10, 11, 12, 13] rfl rfl (by decide) (by decide) hk1 hFc hP1 hD1
        generalize H1 = H at hP hS ⊢
        have hP : va_P (dC, dI) vwCl (xj_ap [(rk0, .inl (cI, 44, .inl bs_V0)), (bo, .inr (5, [.ref q, .ref km, .ref ka, .ref cs])), (q, .inr (0, [.ref sb, .ref co, .ref rk, .long (bs_e1 bs_CTf bs_SBf bs_V1 (lc_lg sc (12 * t9 + 2)) (lc_lg sc (12 * t9 + 4))), .long (bs_e2 bs_CTf bs_SBf bs_V1 (lc_lg sc (12 * t9 + 2)) (lc_lg sc (12 * t9 + 4))), .int bt])), (sb, .inl (cI, 256, .inl bs_SBf)), (co, .inl (cI, 256, .inl bs_CTf)), (rk, .inl (cR, 2, .inr (.inr (.inr (.inr (bs_gl [rk0, rk1])))))), (rk1, .inl (cI, 44, .inl bs_V1)), (ou, .inl (cL, 1, .inr (.inl (vp_updL fz 0 (if true then bs_e1 bs_CTf bs_SBf bs_V1 (lc_lg sc (12 * t9 + 2)) (lc_lg sc (12 * t9 + 4)) else bs_e2 bs_CTf bs_SBf bs_V1 (lc_lg sc (12 * t9 + 2)) (lc_lg sc (12 * t9 + 4))))))), (xB, .inl (cI, 16, .inl (bs_fn (bs_E (fun j9 => bs_KK (176 * 1 + j9)) (lc_lg sc (12 * t9 + 2)) (lc_lg sc (12 * t9 + 4)))))), (xM, .inl (cI, 16, .inl mv2)), (xS, .inl (cI, 256, .inl (bs_fn bs_SB))), (xw, .inl (cI, 256, .inl (bs_fn bs_tX))), (xW, .inl (cI, 352, .inl (bs_fn bs_KK))), (o, .inr (6, [.int (nI 0), .ref xv, .ref xo, .ref xn, .ref xc, .ref xb, .ref xd, .ref xq, .ref xa, .ref xk, .ref xt, .ref xh, .ref xs, .ref xS, .ref xw, .ref xW, .ref xB, .ref xM, .long jf, .long js, .int jb, .long nf, .long ns, .int nb, .ref xf, .ref xg, .ref xi]))] wt) H := hP
        have hD : va_D A (xj_ap [(rk0, .inl (cI, 44, .inl bs_V0)), (bo, .inr (5, [.ref q, .ref km, .ref ka, .ref cs])), (q, .inr (0, [.ref sb, .ref co, .ref rk, .long (bs_e1 bs_CTf bs_SBf bs_V1 (lc_lg sc (12 * t9 + 2)) (lc_lg sc (12 * t9 + 4))), .long (bs_e2 bs_CTf bs_SBf bs_V1 (lc_lg sc (12 * t9 + 2)) (lc_lg sc (12 * t9 + 4))), .int bt])), (sb, .inl (cI, 256, .inl bs_SBf)), (co, .inl (cI, 256, .inl bs_CTf)), (rk, .inl (cR, 2, .inr (.inr (.inr (.inr (bs_gl [rk0, rk1])))))), (rk1, .inl (cI, 44, .inl bs_V1)), (ou, .inl (cL, 1, .inr (.inl (vp_updL fz 0 (if true then bs_e1 bs_CTf bs_SBf bs_V1 (lc_lg sc (12 * t9 + 2)) (lc_lg sc (12 * t9 + 4)) else bs_e2 bs_CTf bs_SBf bs_V1 (lc_lg sc (12 * t9 + 2)) (lc_lg sc (12 * t9 + 4))))))), (xB, .inl (cI, 16, .inl (bs_fn (bs_E (fun j9 => bs_KK (176 * 1 + j9)) (lc_lg sc (12 * t9 + 2)) (lc_lg sc (12 * t9 + 4)))))), (xM, .inl (cI, 16, .inl mv2)), (xS, .inl (cI, 256, .inl (bs_fn bs_SB))), (xw, .inl (cI, 256, .inl (bs_fn bs_tX))), (xW, .inl (cI, 352, .inl (bs_fn bs_KK))), (o, .inr (6, [.int (nI 0), .ref xv, .ref xo, .ref xn, .ref xc, .ref xb, .ref xd, .ref xq, .ref xa, .ref xk, .ref xt, .ref xh, .ref xs, .ref xS, .ref xw, .ref xW, .ref xB, .ref xM, .long jf, .long js, .int jb, .long nf, .long ns, .int nb, .ref xf, .ref xg, .ref xi]))] wt) := hD
        refine lv_iload hx hb dLW_law_1279 (lv_at hl 1 rfl) ?_
        refine lv_icmp_eq (tgt := 1286) hx hb dLW_law_1281 (by decide) (fun _ => ?_) (fun h => absurd (rfl) h)
        refine lv_iload hx hb dLW_law_1286 (lv_at hl 1 rfl) ?_
        refine lv_if_ne (tgt := 1302) hx hb dLW_law_1288 (by decide) (fun h => absurd (by decide +kernel) h) (fun _ => ?_)
        refine lv_aload_n hx hb dLW_law_1291 rfl (lv_at hl 5 rfl) ?_
        refine lv_iconst (v := nI 0) hx hb dLW_law_1292 (by decide) ?_
        refine xa_lald hx hb hK hP 7 1 rfl rfl 0 (by omega) (by decide) dLW_law_1293 ?_
        refine xt_l (y := (if true then bs_e1 bs_CTf bs_SBf bs_V1 (lc_lg sc (12 * t9 + 2)) (lc_lg sc (12 * t9 + 4)) else bs_e2 bs_CTf bs_SBf bs_V1 (lc_lg sc (12 * t9 + 2)) (lc_lg sc (12 * t9 + 4)))) (pk_uLs) ?_
        refine lv_lload hx hb dLW_law_1294 (lv_at hl 0 rfl) ?_
        refine W.lcmp hx hb dLW_law_1296 ?_
        refine lv_if_eq (tgt := 1302) hx hb dLW_law_1297 (by decide) (fun _ => ?_) (fun h => absurd ((lg_cmp_eq _ _).mpr (by rw [if_pos rfl, if_pos rfl]; exact (bs_enc_eq (K := bs_Kx bs_KK 1) (fun j => bs_KK_lt _) (lc_lg sc (12 * t9 + 2)) (lc_lg sc (12 * t9 + 4))).1)) h)
        refine lv_goto (tgt := 1342) hx hb dLW_law_1302 (by decide) ?_
        have hP := xj_subP (ws' := [(bo, .inr (5, [.ref q, .ref km, .ref ka, .ref cs])), (q, .inr (0, [.ref sb, .ref co, .ref rk, .long (bs_e1 bs_CTf bs_SBf bs_V1 (lc_lg sc (12 * t9 + 2)) (lc_lg sc (12 * t9 + 4))), .long (bs_e2 bs_CTf bs_SBf bs_V1 (lc_lg sc (12 * t9 + 2)) (lc_lg sc (12 * t9 + 4))), .int bt])), (sb, .inl (cI, 256, .inl bs_SBf)), (co, .inl (cI, 256, .inl bs_CTf)), (rk, .inl (cR, 2, .inr (.inr (.inr (.inr (bs_gl [rk0, rk1])))))), (rk0, .inl (cI, 44, .inl bs_V0)), (rk1, .inl (cI, 44, .inl bs_V1)), (o, .inr (6, [.int (nI 0), .ref xv, .ref xo, .ref xn, .ref xc, .ref xb, .ref xd, .ref xq, .ref xa, .ref xk, .ref xt, .ref xh, .ref xs, .ref xS, .ref xw, .ref xW, .ref xB, .ref xM, .long jf, .long js, .int jb, .long nf, .long ns, .int nb, .ref xf, .ref xg, .ref xi])), (xB, .inl (cI, 16, .inl (bs_fn (bs_E (fun j9 => bs_KK (176 * 1 + j9)) (lc_lg sc (12 * t9 + 2)) (lc_lg sc (12 * t9 + 4)))))), (xM, .inl (cI, 16, .inl mv2)), (xS, .inl (cI, 256, .inl (bs_fn bs_SB))), (xw, .inl (cI, 256, .inl (bs_fn bs_tX))), (xW, .inl (cI, 352, .inl (bs_fn bs_KK))), (ou, .inl (cL, 1, .inr (.inl (vp_updL fz 0 (if true then bs_e1 bs_CTf bs_SBf bs_V1 (lc_lg sc (12 * t9 + 2)) (lc_lg sc (12 * t9 + 4)) else bs_e2 bs_CTf bs_SBf bs_V1 (lc_lg sc (12 * t9 + 2)) (lc_lg sc (12 * t9 + 4)))))))]) hP [1, 2, 3, 4, 5, 0, 6, 13, 8, 9, 10, 11, 12, 7] rfl
        have hD := xj_subD (ws' := [(bo, .inr (5, [.ref q, .ref km, .ref ka, .ref cs])), (q, .inr (0, [.ref sb, .ref co, .ref rk, .long (bs_e1 bs_CTf bs_SBf bs_V1 (lc_lg sc (12 * t9 + 2)) (lc_lg sc (12 * t9 + 4))), .long (bs_e2 bs_CTf bs_SBf bs_V1 (lc_lg sc (12 * t9 + 2)) (lc_lg sc (12 * t9 + 4))), .int bt])), (sb, .inl (cI, 256, .inl bs_SBf)), (co, .inl (cI, 256, .inl bs_CTf)), (rk, .inl (cR, 2, .inr (.inr (.inr (.inr (bs_gl [rk0, rk1])))))), (rk0, .inl (cI, 44, .inl bs_V0)), (rk1, .inl (cI, 44, .inl bs_V1)), (o, .inr (6, [.int (nI 0), .ref xv, .ref xo, .ref xn, .ref xc, .ref xb, .ref xd, .ref xq, .ref xa, .ref xk, .ref xt, .ref xh, .ref xs, .ref xS, .ref xw, .ref xW, .ref xB, .ref xM, .long jf, .long js, .int jb, .long nf, .long ns, .int nb, .ref xf, .ref xg, .ref xi])), (xB, .inl (cI, 16, .inl (bs_fn (bs_E (fun j9 => bs_KK (176 * 1 + j9)) (lc_lg sc (12 * t9 + 2)) (lc_lg sc (12 * t9 + 4)))))), (xM, .inl (cI, 16, .inl mv2)), (xS, .inl (cI, 256, .inl (bs_fn bs_SB))), (xw, .inl (cI, 256, .inl (bs_fn bs_tX))), (xW, .inl (cI, 352, .inl (bs_fn bs_KK))), (ou, .inl (cL, 1, .inr (.inl (vp_updL fz 0 (if true then bs_e1 bs_CTf bs_SBf bs_V1 (lc_lg sc (12 * t9 + 2)) (lc_lg sc (12 * t9 + 4)) else bs_e2 bs_CTf bs_SBf bs_V1 (lc_lg sc (12 * t9 + 2)) (lc_lg sc (12 * t9 + 4)))))))]) hD [1, 2, 3, 4, 5, 0, 6, 13, 8, 9, 10, 11, 12, 7] (by decide) rfl
        have hP : va_P (dC, dI) vwCl (xj_ap [(bo, .inr (5, [.ref q, .ref km, .ref ka, .ref cs])), (q, .inr (0, [.ref sb, .ref co, .ref rk, .long (bs_e1 bs_CTf bs_SBf bs_V1 (lc_lg sc (12 * t9 + 2)) (lc_lg sc (12 * t9 + 4))), .long (bs_e2 bs_CTf bs_SBf bs_V1 (lc_lg sc (12 * t9 + 2)) (lc_lg sc (12 * t9 + 4))), .int bt])), (sb, .inl (cI, 256, .inl bs_SBf)), (co, .inl (cI, 256, .inl bs_CTf)), (rk, .inl (cR, 2, .inr (.inr (.inr (.inr (bs_gl [rk0, rk1])))))), (rk0, .inl (cI, 44, .inl bs_V0)), (rk1, .inl (cI, 44, .inl bs_V1)), (o, .inr (6, [.int (nI 0), .ref xv, .ref xo, .ref xn, .ref xc, .ref xb, .ref xd, .ref xq, .ref xa, .ref xk, .ref xt, .ref xh, .ref xs, .ref xS, .ref xw, .ref xW, .ref xB, .ref xM, .long jf, .long js, .int jb, .long nf, .long ns, .int nb, .ref xf, .ref xg, .ref xi])), (xB, .inl (cI, 16, .inl (bs_fn (bs_E (fun j9 => bs_KK (176 * 1 + j9)) (lc_lg sc (12 * t9 + 2)) (lc_lg sc (12 * t9 + 4)))))), (xM, .inl (cI, 16, .inl mv2)), (xS, .inl (cI, 256, .inl (bs_fn bs_SB))), (xw, .inl (cI, 256, .inl (bs_fn bs_tX))), (xW, .inl (cI, 352, .inl (bs_fn bs_KK))), (ou, .inl (cL, 1, .inr (.inl (vp_updL fz 0 (if true then bs_e1 bs_CTf bs_SBf bs_V1 (lc_lg sc (12 * t9 + 2)) (lc_lg sc (12 * t9 + 4)) else bs_e2 bs_CTf bs_SBf bs_V1 (lc_lg sc (12 * t9 + 2)) (lc_lg sc (12 * t9 + 4)))))))] wt) H := hP
        have hD : va_D A (xj_ap [(bo, .inr (5, [.ref q, .ref km, .ref ka, .ref cs])), (q, .inr (0, [.ref sb, .ref co, .ref rk, .long (bs_e1 bs_CTf bs_SBf bs_V1 (lc_lg sc (12 * t9 + 2)) (lc_lg sc (12 * t9 + 4))), .long (bs_e2 bs_CTf bs_SBf bs_V1 (lc_lg sc (12 * t9 + 2)) (lc_lg sc (12 * t9 + 4))), .int bt])), (sb, .inl (cI, 256, .inl bs_SBf)), (co, .inl (cI, 256, .inl bs_CTf)), (rk, .inl (cR, 2, .inr (.inr (.inr (.inr (bs_gl [rk0, rk1])))))), (rk0, .inl (cI, 44, .inl bs_V0)), (rk1, .inl (cI, 44, .inl bs_V1)), (o, .inr (6, [.int (nI 0), .ref xv, .ref xo, .ref xn, .ref xc, .ref xb, .ref xd, .ref xq, .ref xa, .ref xk, .ref xt, .ref xh, .ref xs, .ref xS, .ref xw, .ref xW, .ref xB, .ref xM, .long jf, .long js, .int jb, .long nf, .long ns, .int nb, .ref xf, .ref xg, .ref xi])), (xB, .inl (cI, 16, .inl (bs_fn (bs_E (fun j9 => bs_KK (176 * 1 + j9)) (lc_lg sc (12 * t9 + 2)) (lc_lg sc (12 * t9 + 4)))))), (xM, .inl (cI, 16, .inl mv2)), (xS, .inl (cI, 256, .inl (bs_fn bs_SB))), (xw, .inl (cI, 256, .inl (bs_fn bs_tX))), (xW, .inl (cI, 352, .inl (bs_fn bs_KK))), (ou, .inl (cL, 1, .inr (.inl (vp_updL fz 0 (if true then bs_e1 bs_CTf bs_SBf bs_V1 (lc_lg sc (12 * t9 + 2)) (lc_lg sc (12 * t9 + 4)) else bs_e2 bs_CTf bs_SBf bs_V1 (lc_lg sc (12 * t9 + 2)) (lc_lg sc (12 * t9 + 4)))))))] wt) := hD
        have hl := lv_sub hl (l' := [(0, .ref b), (1, .ref bo), (2, .ref o), (3, .ref ou), (4, .int (nI (12 * t9)))]) [2, 3, 4, 5, 6] rfl
        exact hk (bs_e1 bs_CTf bs_SBf bs_V1 (lc_lg sc (12 * t9 + 2)) (lc_lg sc (12 * t9 + 4))) (bs_e2 bs_CTf bs_SBf bs_V1 (lc_lg sc (12 * t9 + 2)) (lc_lg sc (12 * t9 + 4))) (bs_fn (bs_E (fun j9 => bs_KK (176 * 1 + j9)) (lc_lg sc (12 * t9 + 2)) (lc_lg sc (12 * t9 + 4)))) mv2 (nI 0) (vp_updL fz 0 (if true then bs_e1 bs_CTf bs_SBf bs_V1 (lc_lg sc (12 * t9 + 2)) (lc_lg sc (12 * t9 + 4)) else bs_e2 bs_CTf bs_SBf bs_V1 (lc_lg sc (12 * t9 + 2)) (lc_lg sc (12 * t9 + 4)))) H _ ls (hJ) hP hD hS hl
    · refine lv_aload_n hx hb dLW_law_1132 rfl (lv_at hl 1 rfl) ?_
      refine lv_aload_n hx hb dLW_law_1133 rfl (lv_at hl 0 rfl) ?_
      refine lv_iload hx hb dLW_law_1134 (lv_at hl 4 rfl) ?_
      refine lv_iconst (v := nI 1) hx hb dLW_law_1136 (by decide) ?_
      refine lv_iadd hx hb dLW_law_1137 ?_
      refine xt_i (y := nI (12 * t9 + 1)) (nI_add _ _) ?_
      refine xs_ld hx hb hXs hbl hbA (Nat.lt_of_le_of_lt hL (by decide)) hS (12 * t9 + 1) (by omega) dLW_law_1138 ?_
      refine lv_aload_n hx hb dLW_law_1139 rfl (lv_at hl 0 rfl) ?_
      refine lv_iload hx hb dLW_law_1140 (lv_at hl 4 rfl) ?_
      refine lv_iconst (v := nI 2) hx hb dLW_law_1142 (by decide) ?_
      refine lv_iadd hx hb dLW_law_1143 ?_
      refine xt_i (y := nI (12 * t9 + 2)) (nI_add _ _) ?_
      refine xs_ld hx hb hXs hbl hbA (Nat.lt_of_le_of_lt hL (by decide)) hS (12 * t9 + 2) (by omega) dLW_law_1144 ?_
      refine lv_i2l (v := (sc (12 * t9 + 2)).toInt64) hx hb dLW_law_1145 rfl ?_
      refine lv_bipush (v := nI 32) hx hb dLW_law_1146 (by decide) ?_
      refine lv_lshl (v := j_lshl ((sc (12 * t9 + 2)).toInt64) (nI 32)) hx hb dLW_law_1148 rfl ?_
      refine lv_aload_n hx hb dLW_law_1149 rfl (lv_at hl 0 rfl) ?_
      refine lv_iload hx hb dLW_law_1150 (lv_at hl 4 rfl) ?_
      refine lv_iconst (v := nI 3) hx hb dLW_law_1152 (by decide) ?_
      refine lv_iadd hx hb dLW_law_1153 ?_
      refine xt_i (y := nI (12 * t9 + 3)) (nI_add _ _) ?_
      refine xs_ld hx hb hXs hbl hbA (Nat.lt_of_le_of_lt hL (by decide)) hS (12 * t9 + 3) (by omega) dLW_law_1154 ?_
      refine lv_i2l (v := (sc (12 * t9 + 3)).toInt64) hx hb dLW_law_1155 rfl ?_
      refine lv_ldc2 (v := 4294967295) hx hb hown (hts _ w_j_LW_68) dLW_law_1156 ?_
      refine lv_land hx hb dLW_law_1159 ?_
      refine lv_lor hx hb dLW_law_1160 ?_
      refine xt_l (y := lc_lg sc (12 * t9 + 2)) (rfl) ?_
      refine lv_aload_n hx hb dLW_law_1161 rfl (lv_at hl 0 rfl) ?_
      refine lv_iload hx hb dLW_law_1162 (lv_at hl 4 rfl) ?_
      refine lv_iconst (v := nI 4) hx hb dLW_law_1164 (by decide) ?_
      refine lv_iadd hx hb dLW_law_1165 ?_
      refine xt_i (y := nI (12 * t9 + 4)) (nI_add _ _) ?_
      refine xs_ld hx hb hXs hbl hbA (Nat.lt_of_le_of_lt hL (by decide)) hS (12 * t9 + 4) (by omega) dLW_law_1166 ?_
      refine lv_i2l (v := (sc (12 * t9 + 4)).toInt64) hx hb dLW_law_1167 rfl ?_
      refine lv_bipush (v := nI 32) hx hb dLW_law_1168 (by decide) ?_
      refine lv_lshl (v := j_lshl ((sc (12 * t9 + 4)).toInt64) (nI 32)) hx hb dLW_law_1170 rfl ?_
      refine lv_aload_n hx hb dLW_law_1171 rfl (lv_at hl 0 rfl) ?_
      refine lv_iload hx hb dLW_law_1172 (lv_at hl 4 rfl) ?_
      refine lv_iconst (v := nI 5) hx hb dLW_law_1174 (by decide) ?_
      refine lv_iadd hx hb dLW_law_1175 ?_
      refine xt_i (y := nI (12 * t9 + 5)) (nI_add _ _) ?_
      refine xs_ld hx hb hXs hbl hbA (Nat.lt_of_le_of_lt hL (by decide)) hS (12 * t9 + 5) (by omega) dLW_law_1176 ?_
      refine lv_i2l (v := (sc (12 * t9 + 5)).toInt64) hx hb dLW_law_1177 rfl ?_
      refine lv_ldc2 (v := 4294967295) hx hb hown (hts _ w_j_LW_68) dLW_law_1178 ?_
      refine lv_land hx hb dLW_law_1181 ?_
      refine lv_lor hx hb dLW_law_1182 ?_
      refine xt_l (y := lc_lg sc (12 * t9 + 4)) (rfl) ?_
      refine lv_aload_n hx hb dLW_law_1183 rfl (lv_at hl 0 rfl) ?_
      refine lv_iload hx hb dLW_law_1184 (lv_at hl 4 rfl) ?_
      refine lv_bipush (v := nI 6) hx hb dLW_law_1186 (by decide) ?_
      refine lv_iadd hx hb dLW_law_1188 ?_
      refine xt_i (y := nI (12 * t9 + 6)) (nI_add _ _) ?_
      refine xs_ld hx hb hXs hbl hbA (Nat.lt_of_le_of_lt hL (by decide)) hS (12 * t9 + 6) (by omega) dLW_law_1189 ?_
      refine lv_if_eq (tgt := 1197) hx hb dLW_law_1190 (by decide) (fun h => absurd h (h6)) (fun _ => ?_)
      refine lv_iconst (v := nI 1) hx hb dLW_law_1193 (by decide) ?_
      refine lv_goto (tgt := 1198) hx hb dLW_law_1194 (by decide) ?_
      refine xt_i (y := bs_z true) (rfl) ?_
      refine lv_aload_n hx hb dLW_law_1198 rfl (lv_at hl 3 rfl) ?_
      have hPc := hP.sub (ws' := [(bo, .inr (5, [.ref q, .ref km, .ref ka, .ref cs]))]) [0] rfl
      have hDc := hD.sub (ws' := [(bo, .inr (5, [.ref q, .ref km, .ref ka, .ref cs]))]) [0] (by decide) rfl
      have hKc := hK.sub (tys' := []) [] rfl
      have hFc := va_free (wc := [(bo, .inr (5, [.ref q, .ref km, .ref ka, .ref cs]))]) hD hS hA [0] rfl
      have hXc := (hX.kept hS.2.1).narrow hFc
      refine va_calli (xs_runW (n := 6) (hh := [(0, 14, 17, 13)]) (As := [.ref bo, .int (sc (12 * t9 + 1)), .long (lc_lg sc (12 * t9 + 2)), .long (lc_lg sc (12 * t9 + 4)), .int (bs_z true), .ref ou]) (rest := []) ⟨hx, hb, hml, hown, hts⟩ (c_LW_cipher_n l dC dI H.size bo q km ka cs (sc (12 * t9 + 1)) (lc_lg sc (12 * t9 + 2)) (lc_lg sc (12 * t9 + 4)) (bs_z true) ou hl9 hs9) (wT_3 w_m_LW_124 w_t_LW_cipher w_n_LW w_c_LW_cipher) rfl rfl rfl (by decide +kernel) ⟨Nat.le_of_ble_eq_true rfl, Nat.le_of_ble_eq_true rfl⟩ ⟨fun a U g mk q => by obtain ⟨q0, q1, qP, qK, qD, qX⟩ := q; exact ⟨q0, q1, qP, va_K.moved (u := U) (U := U.calling g mk a) (Vm.Alike.refl U.vm) qK, qD, qX.same rfl⟩, fun U hU hW => ⟨rfl, by rw [hU], by rw [hU]; exact hPc, va_K.moved hW.alike hKc, hDc.weaken (fun _ _ _ _ => trivial), by rw [hU]; exact hXc.warm hW⟩⟩ rfl rfl hl.1 rfl (lv_room (Nat.le_of_ble_eq_true rfl)) dLW_law_1199 ⟨show k9 + 1 ≤ 601024 from by omega, show n9 + 6 ≤ 7293034 from by omega⟩) hS (fun q _ h => hFc q h) hFc (fun r u t H1 locs ht hvm hw hB hz1 hk1 hS => ?_)
      obtain ⟨hP1, hK1, hD1⟩ := hB
      rw [ht] at hP1
      have hK1 := va_K.moved hvm.symm hK1
      have hw : r = nI 1 := hw
      rw [hw]
      obtain ⟨hP, hD⟩ := xj_join (wt := wt) (wr := [(q, .inr (0, [.ref sb, .ref co, .ref rk, .long f1, .long f2, .int bt])), (sb, .inl (cI, 256, .inl bs_SBf)), (co, .inl (cI, 256, .inl bs_CTf)), (rk, .inl (cR, 2, .inr (.inr (.inr (.inr (bs_gl [rk0, rk1])))))), (rk0, .inl (cI, 44, .inl bs_V0)), (rk1, .inl (cI, 44, .inl bs_V1)), (o, .inr (6, [.int th, .ref xv, .ref xo, .ref xn, .ref xc, .ref xb, .ref xd, .ref xq, .ref xa, .ref xk, .ref xt, .ref xh, .ref xs, .ref xS, .ref xw, .ref xW, .ref xB, .ref xM, .long jf, .long js, .int jb, .long nf, .long ns, .int nb, .ref xf, .ref xg, .ref xi])), (xB, .inl (cI, 16, .inl bl)), (xM, .inl (cI, 16, .inl mv)), (xS, .inl (cI, 256, .inl (bs_fn bs_SB))), (xw, .inl (cI, 256, .inl (bs_fn bs_tX))), (xW, .inl (cI, 352, .inl (bs_fn bs_KK))), (ou, .inl (cL, 1, .inr (.inl fz)))]) (w1 := [(bo, .inr (5, [.ref q, .ref km, .ref ka, .ref cs]))]) hP hD [0] [1, 2, 3, 4, 5, 6, 7, 8, 9, 10, 11, 12, 13] rfl rfl (by decide) (by decide) hk1 hFc hP1 hD1
      generalize H1 = H at hP hS ⊢
      have hP : va_P (dC, dI) vwCl (xj_ap [(q, .inr (0, [.ref sb, .ref co, .ref rk, .long f1, .long f2, .int bt])), (sb, .inl (cI, 256, .inl bs_SBf)), (co, .inl (cI, 256, .inl bs_CTf)), (rk, .inl (cR, 2, .inr (.inr (.inr (.inr (bs_gl [rk0, rk1])))))), (rk0, .inl (cI, 44, .inl bs_V0)), (rk1, .inl (cI, 44, .inl bs_V1)), (o, .inr (6, [.int th, .ref xv, .ref xo, .ref xn, .ref xc, .ref xb, .ref xd, .ref xq, .ref xa, .ref xk, .ref xt, .ref xh, .ref xs, .ref xS, .ref xw, .ref xW, .ref xB, .ref xM, .long jf, .long js, .int jb, .long nf, .long ns, .int nb, .ref xf, .ref xg, .ref xi])), (xB, .inl (cI, 16, .inl bl)), (xM, .inl (cI, 16, .inl mv)), (xS, .inl (cI, 256, .inl (bs_fn bs_SB))), (xw, .inl (cI, 256, .inl (bs_fn bs_tX))), (xW, .inl (cI, 352, .inl (bs_fn bs_KK))), (ou, .inl (cL, 1, .inr (.inl fz))), (bo, .inr (5, [.ref q, .ref km, .ref ka, .ref cs]))] wt) H := hP
      have hD : va_D A (xj_ap [(q, .inr (0, [.ref sb, .ref co, .ref rk, .long f1, .long f2, .int bt])), (sb, .inl (cI, 256, .inl bs_SBf)), (co, .inl (cI, 256, .inl bs_CTf)), (rk, .inl (cR, 2, .inr (.inr (.inr (.inr (bs_gl [rk0, rk1])))))), (rk0, .inl (cI, 44, .inl bs_V0)), (rk1, .inl (cI, 44, .inl bs_V1)), (o, .inr (6, [.int th, .ref xv, .ref xo, .ref xn, .ref xc, .ref xb, .ref xd, .ref xq, .ref xa, .ref xk, .ref xt, .ref xh, .ref xs, .ref xS, .ref xw, .ref xW, .ref xB, .ref xM, .long jf, .long js, .int jb, .long nf, .long ns, .int nb, .ref xf, .ref xg, .ref xi])), (xB, .inl (cI, 16, .inl bl)), (xM, .inl (cI, 16, .inl mv)), (xS, .inl (cI, 256, .inl (bs_fn bs_SB))), (xw, .inl (cI, 256, .inl (bs_fn bs_tX))), (xW, .inl (cI, 352, .inl (bs_fn bs_KK))), (ou, .inl (cL, 1, .inr (.inl fz))), (bo, .inr (5, [.ref q, .ref km, .ref ka, .ref cs]))] wt) := hD
      refine lv_istore (lv' := [(5, .int (nI 1)), (0, .ref b), (1, .ref bo), (2, .ref o), (3, .ref ou), (4, .int (nI (12 * t9)))]) hx hb dLW_law_1202 hl (by decide) rfl (fun ls hl => ?_)
      refine lv_aload_n hx hb dLW_law_1204 rfl (lv_at hl 3 rfl) ?_
      refine lv_aload_n hx hb dLW_law_1205 rfl (lv_at hl 1 rfl) ?_
      refine lv_iload hx hb dLW_law_1206 (lv_at hl 5 rfl) ?_
      refine lv_iconst (v := nI 1) hx hb dLW_law_1208 (by decide) ?_
      refine lv_iadd hx hb dLW_law_1209 ?_
      refine xt_i (y := nI (12 * t9 + 1)) (nI_add _ _) ?_
      refine xs_ld hx hb hXs hbl hbA (Nat.lt_of_le_of_lt hL (by decide)) hS (12 * t9 + 1) (by omega) dLW_law_1210 ?_
      refine lv_aload_n hx hb dLW_law_1211 rfl (lv_at hl 1 rfl) ?_
      refine lv_iload hx hb dLW_law_1212 (lv_at hl 5 rfl) ?_
      refine lv_iconst (v := nI 2) hx hb dLW_law_1214 (by decide) ?_
      refine lv_iadd hx hb dLW_law_1215 ?_
      refine xt_i (y := nI (12 * t9 + 2)) (nI_add _ _) ?_
      refine xs_ld hx hb hXs hbl hbA (Nat.lt_of_le_of_lt hL (by decide)) hS (12 * t9 + 2) (by omega) dLW_law_1216 ?_
      refine lv_i2l (v := (sc (12 * t9 + 2)).toInt64) hx hb dLW_law_1217 rfl ?_
      refine lv_bipush (v := nI 32) hx hb dLW_law_1218 (by decide) ?_
      refine lv_lshl (v := j_lshl ((sc (12 * t9 + 2)).toInt64) (nI 32)) hx hb dLW_law_1220 rfl ?_
      refine lv_aload_n hx hb dLW_law_1221 rfl (lv_at hl 1 rfl) ?_
      refine lv_iload hx hb dLW_law_1222 (lv_at hl 5 rfl) ?_
      refine lv_iconst (v := nI 3) hx hb dLW_law_1224 (by decide) ?_
      refine lv_iadd hx hb dLW_law_1225 ?_
      refine xt_i (y := nI (12 * t9 + 3)) (nI_add _ _) ?_
      refine xs_ld hx hb hXs hbl hbA (Nat.lt_of_le_of_lt hL (by decide)) hS (12 * t9 + 3) (by omega) dLW_law_1226 ?_
      refine lv_i2l (v := (sc (12 * t9 + 3)).toInt64) hx hb dLW_law_1227 rfl ?_
      refine lv_ldc2 (v := 4294967295) hx hb hown (hts _ w_j_LW_68) dLW_law_1228 ?_
      refine lv_land hx hb dLW_law_1231 ?_
      refine lv_lor hx hb dLW_law_1232 ?_
      refine xt_l (y := lc_lg sc (12 * t9 + 2)) (rfl) ?_
      refine lv_aload_n hx hb dLW_law_1233 rfl (lv_at hl 1 rfl) ?_
      refine lv_iload hx hb dLW_law_1234 (lv_at hl 5 rfl) ?_
      refine lv_iconst (v := nI 4) hx hb dLW_law_1236 (by decide) ?_
      refine lv_iadd hx hb dLW_law_1237 ?_
      refine xt_i (y := nI (12 * t9 + 4)) (nI_add _ _) ?_
      refine xs_ld hx hb hXs hbl hbA (Nat.lt_of_le_of_lt hL (by decide)) hS (12 * t9 + 4) (by omega) dLW_law_1238 ?_
      refine lv_i2l (v := (sc (12 * t9 + 4)).toInt64) hx hb dLW_law_1239 rfl ?_
      refine lv_bipush (v := nI 32) hx hb dLW_law_1240 (by decide) ?_
      refine lv_lshl (v := j_lshl ((sc (12 * t9 + 4)).toInt64) (nI 32)) hx hb dLW_law_1242 rfl ?_
      refine lv_aload_n hx hb dLW_law_1243 rfl (lv_at hl 1 rfl) ?_
      refine lv_iload hx hb dLW_law_1244 (lv_at hl 5 rfl) ?_
      refine lv_iconst (v := nI 5) hx hb dLW_law_1246 (by decide) ?_
      refine lv_iadd hx hb dLW_law_1247 ?_
      refine xt_i (y := nI (12 * t9 + 5)) (nI_add _ _) ?_
      refine xs_ld hx hb hXs hbl hbA (Nat.lt_of_le_of_lt hL (by decide)) hS (12 * t9 + 5) (by omega) dLW_law_1248 ?_
      refine lv_i2l (v := (sc (12 * t9 + 5)).toInt64) hx hb dLW_law_1249 rfl ?_
      refine lv_ldc2 (v := 4294967295) hx hb hown (hts _ w_j_LW_68) dLW_law_1250 ?_
      refine lv_land hx hb dLW_law_1253 ?_
      refine lv_lor hx hb dLW_law_1254 ?_
      refine xt_l (y := lc_lg sc (12 * t9 + 4)) (rfl) ?_
      refine lv_aload_n hx hb dLW_law_1255 rfl (lv_at hl 1 rfl) ?_
      refine lv_iload hx hb dLW_law_1256 (lv_at hl 5 rfl) ?_
      refine lv_bipush (v := nI 6) hx hb dLW_law_1258 (by decide) ?_
      refine lv_iadd hx hb dLW_law_1260 ?_
      refine xt_i (y := nI (12 * t9 + 6)) (nI_add _ _) ?_
      refine xs_ld hx hb hXs hbl hbA (Nat.lt_of_le_of_lt hL (by decide)) hS (12 * t9 + 6) (by omega) dLW_law_1261 ?_
      refine lv_if_eq (tgt := 1269) hx hb dLW_law_1262 (by decide) (fun h => absurd h (h6)) (fun _ => ?_)
      refine lv_iconst (v := nI 1) hx hb dLW_law_1265 (by decide) ?_
      refine lv_goto (tgt := 1270) hx hb dLW_law_1266 (by decide) ?_
      refine xt_i (y := bs_z true) (rfl) ?_
      have hPc := hP.sub (ws' := [(o, .inr (6, [.int th, .ref xv, .ref xo, .ref xn, .ref xc, .ref xb, .ref xd, .ref xq, .ref xa, .ref xk, .ref xt, .ref xh, .ref xs, .ref xS, .ref xw, .ref xW, .ref xB, .ref xM, .long jf, .long js, .int jb, .long nf, .long ns, .int nb, .ref xf, .ref xg, .ref xi]))]) [6] rfl
      have hDc := hD.sub (ws' := [(o, .inr (6, [.int th, .ref xv, .ref xo, .ref xn, .ref xc, .ref xb, .ref xd, .ref xq, .ref xa, .ref xk, .ref xt, .ref xh, .ref xs, .ref xS, .ref xw, .ref xW, .ref xB, .ref xM, .long jf, .long js, .int jb, .long nf, .long ns, .int nb, .ref xf, .ref xg, .ref xi]))]) [6] (by decide) rfl
      have hKc := hK.sub (tys' := []) [] rfl
      have hFc := va_free (wc := [(o, .inr (6, [.int th, .ref xv, .ref xo, .ref xn, .ref xc, .ref xb, .ref xd, .ref xq, .ref xa, .ref xk, .ref xt, .ref xh, .ref xs, .ref xS, .ref xw, .ref xW, .ref xB, .ref xM, .long jf, .long js, .int jb, .long nf, .long ns, .int nb, .ref xf, .ref xg, .ref xi]))]) hD hS hA [6] rfl
      refine va_calll (va_runV (C := RMO) (As := [.int (sc (12 * t9 + 1)), .long (lc_lg sc (12 * t9 + 2)), .long (lc_lg sc (12 * t9 + 4)), .int (bs_z true)]) (rest := []) ⟨hx, hb, hml, hown, hts⟩ (c_MO_cipher_n l dC dI H.size o xv xo xn xc xb xd xq xa xk xt xh xs xS xw xW xB xM xf xg xi th jf js jb nf ns nb (sc (12 * t9 + 1)) (bs_z true) (lc_lg sc (12 * t9 + 2)) (lc_lg sc (12 * t9 + 4)) hs9) (cwV (C := RMO) 4 hts (wT_4 w_m_LW_127 w_i_MO_cipher w_s_MO_cipher w_n_MO w_c_MO_cipher) rfl rfl rfl (by decide +kernel) ⟨Nat.le_of_ble_eq_true rfl, Nat.le_of_ble_eq_true rfl⟩) ⟨fun a U g mk q => by obtain ⟨q0, q1, qP, qK, qD⟩ := q; exact ⟨q0, q1, qP, va_K.moved (u := U) (U := U.calling g mk a) (Vm.Alike.refl U.vm) qK, qD⟩, va_recv hK hP (q0 := 6) (ci := 6) (q := (RMO, TMO, 27)) rfl rfl, fun U hU hW => ⟨rfl, by rw [hU], by rw [hU]; exact hPc, va_K.moved hW.alike hKc, hDc.weaken (fun _ _ _ _ => trivial)⟩⟩ rfl rfl hl.1 rfl (lv_room (Nat.le_of_ble_eq_true rfl)) dLW_law_1270 ⟨show k9 + 1 + 0 ≤ 601024 from by omega, show n9 + 6 + 0 ≤ 7293034 from by omega⟩) hS (fun q _ h => hFc q h) hFc (fun r u t H1 locs ht hvm hw hB hz1 hk1 hS => ?_)
      obtain ⟨hP1, hK1, hD1⟩ := hB
      rw [ht] at hP1
      have hK1 := va_K.moved hvm.symm hK1
      have hw : r = 0 := hw
      rw [hw]
      obtain ⟨hP, hD⟩ := xj_join (wt := wt) (wr := [(q, .inr (0, [.ref sb, .ref co, .ref rk, .long f1, .long f2, .int bt])), (sb, .inl (cI, 256, .inl bs_SBf)), (co, .inl (cI, 256, .inl bs_CTf)), (rk, .inl (cR, 2, .inr (.inr (.inr (.inr (bs_gl [rk0, rk1])))))), (rk0, .inl (cI, 44, .inl bs_V0)), (rk1, .inl (cI, 44, .inl bs_V1)), (xB, .inl (cI, 16, .inl bl)), (xM, .inl (cI, 16, .inl mv)), (xS, .inl (cI, 256, .inl (bs_fn bs_SB))), (xw, .inl (cI, 256, .inl (bs_fn bs_tX))), (xW, .inl (cI, 352, .inl (bs_fn bs_KK))), (ou, .inl (cL, 1, .inr (.inl fz))), (bo, .inr (5, [.ref q, .ref km, .ref ka, .ref cs]))]) (w1 := [(o, .inr (6, [.int (nI 1), .ref xv, .ref xo, .ref xn, .ref xc, .ref xb, .ref xd, .ref xq, .ref xa, .ref xk, .ref xt, .ref xh, .ref xs, .ref xS, .ref xw, .ref xW, .ref xB, .ref xM, .long jf, .long js, .int jb, .long nf, .long ns, .int nb, .ref xf, .ref xg, .ref xi]))]) hP hD [6] [0, 1, 2, 3, 4, 5, 7, 8, 9, 10, 11, 12, 13] rfl rfl (by decide) (by decide) hk1 hFc hP1 hD1
      generalize H1 = H at hP hS ⊢
      have hP : va_P (dC, dI) vwCl (xj_ap [(q, .inr (0, [.ref sb, .ref co, .ref rk, .long f1, .long f2, .int bt])), (sb, .inl (cI, 256, .inl bs_SBf)), (co, .inl (cI, 256, .inl bs_CTf)), (rk, .inl (cR, 2, .inr (.inr (.inr (.inr (bs_gl [rk0, rk1])))))), (rk0, .inl (cI, 44, .inl bs_V0)), (rk1, .inl (cI, 44, .inl bs_V1)), (xB, .inl (cI, 16, .inl bl)), (xM, .inl (cI, 16, .inl mv)), (xS, .inl (cI, 256, .inl (bs_fn bs_SB))), (xw, .inl (cI, 256, .inl (bs_fn bs_tX))), (xW, .inl (cI, 352, .inl (bs_fn bs_KK))), (ou, .inl (cL, 1, .inr (.inl fz))), (bo, .inr (5, [.ref q, .ref km, .ref ka, .ref cs])), (o, .inr (6, [.int (nI 1), .ref xv, .ref xo, .ref xn, .ref xc, .ref xb, .ref xd, .ref xq, .ref xa, .ref xk, .ref xt, .ref xh, .ref xs, .ref xS, .ref xw, .ref xW, .ref xB, .ref xM, .long jf, .long js, .int jb, .long nf, .long ns, .int nb, .ref xf, .ref xg, .ref xi]))] wt) H := hP
      have hD : va_D A (xj_ap [(q, .inr (0, [.ref sb, .ref co, .ref rk, .long f1, .long f2, .int bt])), (sb, .inl (cI, 256, .inl bs_SBf)), (co, .inl (cI, 256, .inl bs_CTf)), (rk, .inl (cR, 2, .inr (.inr (.inr (.inr (bs_gl [rk0, rk1])))))), (rk0, .inl (cI, 44, .inl bs_V0)), (rk1, .inl (cI, 44, .inl bs_V1)), (xB, .inl (cI, 16, .inl bl)), (xM, .inl (cI, 16, .inl mv)), (xS, .inl (cI, 256, .inl (bs_fn bs_SB))), (xw, .inl (cI, 256, .inl (bs_fn bs_tX))), (xW, .inl (cI, 352, .inl (bs_fn bs_KK))), (ou, .inl (cL, 1, .inr (.inl fz))), (bo, .inr (5, [.ref q, .ref km, .ref ka, .ref cs])), (o, .inr (6, [.int (nI 1), .ref xv, .ref xo, .ref xn, .ref xc, .ref xb, .ref xd, .ref xq, .ref xa, .ref xk, .ref xt, .ref xh, .ref xs, .ref xS, .ref xw, .ref xW, .ref xB, .ref xM, .long jf, .long js, .int jb, .long nf, .long ns, .int nb, .ref xf, .ref xg, .ref xi]))] wt) := hD
      refine lv_lstore (lv' := [(6, .long 0), (5, .int (nI 1)), (0, .ref b), (1, .ref bo), (2, .ref o), (3, .ref ou), (4, .int (nI (12 * t9)))]) hx hb dLW_law_1273 hl (by decide) rfl (fun ls hl => ?_)
      refine lv_aload_n hx hb dLW_law_1275 rfl (lv_at hl 4 rfl) ?_
      have hPc := hP.sub (ws' := [(o, .inr (6, [.int (nI 1), .ref xv, .ref xo, .ref xn, .ref xc, .ref xb, .ref xd, .ref xq, .ref xa, .ref xk, .ref xt, .ref xh, .ref xs, .ref xS, .ref xw, .ref xW, .ref xB, .ref xM, .long jf, .long js, .int jb, .long nf, .long ns, .int nb, .ref xf, .ref xg, .ref xi]))]) [13] rfl
      have hDc := hD.sub (ws' := [(o, .inr (6, [.int (nI 1), .ref xv, .ref xo, .ref xn, .ref xc, .ref xb, .ref xd, .ref xq, .ref xa, .ref xk, .ref xt, .ref xh, .ref xs, .ref xS, .ref xw, .ref xW, .ref xB, .ref xM, .long jf, .long js, .int jb, .long nf, .long ns, .int nb, .ref xf, .ref xg, .ref xi]))]) [13] (by decide) rfl
      have hKc := hK.sub (tys' := []) [] rfl
      have hFc := va_free (wc := [(o, .inr (6, [.int (nI 1), .ref xv, .ref xo, .ref xn, .ref xc, .ref xb, .ref xd, .ref xq, .ref xa, .ref xk, .ref xt, .ref xh, .ref xs, .ref xS, .ref xw, .ref xW, .ref xB, .ref xM, .long jf, .long js, .int jb, .long nf, .long ns, .int nb, .ref xf, .ref xg, .ref xi]))]) hD hS hA [13] rfl
      refine va_calli (va_runV (C := RMO) (As := []) (rest := []) ⟨hx, hb, hml, hown, hts⟩ (c_MO_thrown l dC dI H.size o xv xo xn xc xb xd xq xa xk xt xh xs xS xw xW xB xM xf xg xi (nI 1) jf js jb nf ns nb) (cwV (C := RMO) 0 hts (wT_4 w_m_LW_76 w_i_MO_thrown w_s_MO_thrown w_n_MO w_c_MO_thrown) rfl rfl rfl (by decide +kernel) ⟨Nat.le_of_ble_eq_true rfl, Nat.le_of_ble_eq_true rfl⟩) ⟨fun a U g mk q => by obtain ⟨q0, q1, qP, qK, qD⟩ := q; exact ⟨q0, q1, qP, va_K.moved (u := U) (U := U.calling g mk a) (Vm.Alike.refl U.vm) qK, qD⟩, va_recv hK hP (q0 := 13) (ci := 6) (q := (RMO, TMO, 27)) rfl rfl, fun U hU hW => ⟨rfl, by rw [hU], by rw [hU]; exact hPc, va_K.moved hW.alike hKc, hDc.weaken (fun _ _ _ _ => trivial)⟩⟩ rfl rfl hl.1 rfl (lv_room (Nat.le_of_ble_eq_true rfl)) dLW_law_1276 ⟨show k9 + 1 + 0 ≤ 601024 from by omega, show n9 + 6 + 0 ≤ 7293034 from by omega⟩) hS (fun q _ h => hFc q h) hFc (fun r u t H1 locs ht hvm hw hB hz1 hk1 hS => ?_)
      obtain ⟨hP1, hK1, hD1⟩ := hB
      rw [ht] at hP1
      have hK1 := va_K.moved hvm.symm hK1
      have hw : r = nI 1 := hw
      rw [hw]
      obtain ⟨hP, hD⟩ := xj_join (wt := wt) (wr := [(q, .inr (0, [.ref sb, .ref co, .ref rk, .long f1, .long f2, .int bt])), (sb, .inl (cI, 256, .inl bs_SBf)), (co, .inl (cI, 256, .inl bs_CTf)), (rk, .inl (cR, 2, .inr (.inr (.inr (.inr (bs_gl [rk0, rk1])))))), (rk0, .inl (cI, 44, .inl bs_V0)), (rk1, .inl (cI, 44, .inl bs_V1)), (xB, .inl (cI, 16, .inl bl)), (xM, .inl (cI, 16, .inl mv)), (xS, .inl (cI, 256, .inl (bs_fn bs_SB))), (xw, .inl (cI, 256, .inl (bs_fn bs_tX))), (xW, .inl (cI, 352, .inl (bs_fn bs_KK))), (ou, .inl (cL, 1, .inr (.inl fz))), (bo, .inr (5, [.ref q, .ref km, .ref ka, .ref cs]))]) (w1 := [(o, .inr (6, [.int (nI 1), .ref xv, .ref xo, .ref xn, .ref xc, .ref xb, .ref xd, .ref xq, .ref xa, .ref xk, .ref xt, .ref xh, .ref xs, .ref xS, .ref xw, .ref xW, .ref xB, .ref xM, .long jf, .long js, .int jb, .long nf, .long ns, .int nb, .ref xf, .ref xg, .ref xi]))]) hP hD [13] [0, 1, 2, 3, 4, 5, 6, 7, 8, 9, 10, 11, 12] rfl rfl (by decide) (by decide) hk1 hFc hP1 hD1
      generalize H1 = H at hP hS ⊢
      have hP : va_P (dC, dI) vwCl (xj_ap [(q, .inr (0, [.ref sb, .ref co, .ref rk, .long f1, .long f2, .int bt])), (sb, .inl (cI, 256, .inl bs_SBf)), (co, .inl (cI, 256, .inl bs_CTf)), (rk, .inl (cR, 2, .inr (.inr (.inr (.inr (bs_gl [rk0, rk1])))))), (rk0, .inl (cI, 44, .inl bs_V0)), (rk1, .inl (cI, 44, .inl bs_V1)), (xB, .inl (cI, 16, .inl bl)), (xM, .inl (cI, 16, .inl mv)), (xS, .inl (cI, 256, .inl (bs_fn bs_SB))), (xw, .inl (cI, 256, .inl (bs_fn bs_tX))), (xW, .inl (cI, 352, .inl (bs_fn bs_KK))), (ou, .inl (cL, 1, .inr (.inl fz))), (bo, .inr (5, [.ref q, .ref km, .ref ka, .ref cs])), (o, .inr (6, [.int (nI 1), .ref xv, .ref xo, .ref xn, .ref xc, .ref xb, .ref xd, .ref xq, .ref xa, .ref xk, .ref xt, .ref xh, .ref xs, .ref xS, .ref xw, .ref xW, .ref xB, .ref xM, .long jf, .long js, .int jb, .long nf, .long ns, .int nb, .ref xf, .ref xg, .ref xi]))] wt) H := hP
      have hD : va_D A (xj_ap [(q, .inr (0, [.ref sb, .ref co, .ref rk, .long f1, .long f2, .int bt])), (sb, .inl (cI, 256, .inl bs_SBf)), (co, .inl (cI, 256, .inl bs_CTf)), (rk, .inl (cR, 2, .inr (.inr (.inr (.inr (bs_gl [rk0, rk1])))))), (rk0, .inl (cI, 44, .inl bs_V0)), (rk1, .inl (cI, 44, .inl bs_V1)), (xB, .inl (cI, 16, .inl bl)), (xM, .inl (cI, 16, .inl mv)), (xS, .inl (cI, 256, .inl (bs_fn bs_SB))), (xw, .inl (cI, 256, .inl (bs_fn bs_tX))), (xW, .inl (cI, 352, .inl (bs_fn bs_KK))), (ou, .inl (cL, 1, .inr (.inl fz))), (bo, .inr (5, [.ref q, .ref km, .ref ka, .ref cs])), (o, .inr (6, [.int (nI 1), .ref xv, .ref xo, .ref xn, .ref xc, .ref xb, .ref xd, .ref xq, .ref xa, .ref xk, .ref xt, .ref xh, .ref xs, .ref xS, .ref xw, .ref xW, .ref xB, .ref xM, .long jf, .long js, .int jb, .long nf, .long ns, .int nb, .ref xf, .ref xg, .ref xi]))] wt) := hD
      refine lv_iload hx hb dLW_law_1279 (lv_at hl 1 rfl) ?_
      refine lv_icmp_eq (tgt := 1286) hx hb dLW_law_1281 (by decide) (fun _ => ?_) (fun h => absurd (rfl) h)
      refine lv_iload hx hb dLW_law_1286 (lv_at hl 1 rfl) ?_
      refine lv_if_ne (tgt := 1302) hx hb dLW_law_1288 (by decide) (fun _ => ?_) (fun h => absurd h (by decide +kernel))
      refine lv_goto (tgt := 1342) hx hb dLW_law_1302 (by decide) ?_
      have hP := xj_subP (ws' := [(bo, .inr (5, [.ref q, .ref km, .ref ka, .ref cs])), (q, .inr (0, [.ref sb, .ref co, .ref rk, .long f1, .long f2, .int bt])), (sb, .inl (cI, 256, .inl bs_SBf)), (co, .inl (cI, 256, .inl bs_CTf)), (rk, .inl (cR, 2, .inr (.inr (.inr (.inr (bs_gl [rk0, rk1])))))), (rk0, .inl (cI, 44, .inl bs_V0)), (rk1, .inl (cI, 44, .inl bs_V1)), (o, .inr (6, [.int (nI 1), .ref xv, .ref xo, .ref xn, .ref xc, .ref xb, .ref xd, .ref xq, .ref xa, .ref xk, .ref xt, .ref xh, .ref xs, .ref xS, .ref xw, .ref xW, .ref xB, .ref xM, .long jf, .long js, .int jb, .long nf, .long ns, .int nb, .ref xf, .ref xg, .ref xi])), (xB, .inl (cI, 16, .inl bl)), (xM, .inl (cI, 16, .inl mv)), (xS, .inl (cI, 256, .inl (bs_fn bs_SB))), (xw, .inl (cI, 256, .inl (bs_fn bs_tX))), (xW, .inl (cI, 352, .inl (bs_fn bs_KK))), (ou, .inl (cL, 1, .inr (.inl fz)))]) hP [12, 0, 1, 2, 3, 4, 5, 13, 6, 7, 8, 9, 10, 11] rfl
      have hD := xj_subD (ws' := [(bo, .inr (5, [.ref q, .ref km, .ref ka, .ref cs])), (q, .inr (0, [.ref sb, .ref co, .ref rk, .long f1, .long f2, .int bt])), (sb, .inl (cI, 256, .inl bs_SBf)), (co, .inl (cI, 256, .inl bs_CTf)), (rk, .inl (cR, 2, .inr (.inr (.inr (.inr (bs_gl [rk0, rk1])))))), (rk0, .inl (cI, 44, .inl bs_V0)), (rk1, .inl (cI, 44, .inl bs_V1)), (o, .inr (6, [.int (nI 1), .ref xv, .ref xo, .ref xn, .ref xc, .ref xb, .ref xd, .ref xq, .ref xa, .ref xk, .ref xt, .ref xh, .ref xs, .ref xS, .ref xw, .ref xW, .ref xB, .ref xM, .long jf, .long js, .int jb, .long nf, .long ns, .int nb, .ref xf, .ref xg, .ref xi])), (xB, .inl (cI, 16, .inl bl)), (xM, .inl (cI, 16, .inl mv)), (xS, .inl (cI, 256, .inl (bs_fn bs_SB))), (xw, .inl (cI, 256, .inl (bs_fn bs_tX))), (xW, .inl (cI, 352, .inl (bs_fn bs_KK))), (ou, .inl (cL, 1, .inr (.inl fz)))]) hD [12, 0, 1, 2, 3, 4, 5, 13, 6, 7, 8, 9, 10, 11] (by decide) rfl
      have hP : va_P (dC, dI) vwCl (xj_ap [(bo, .inr (5, [.ref q, .ref km, .ref ka, .ref cs])), (q, .inr (0, [.ref sb, .ref co, .ref rk, .long f1, .long f2, .int bt])), (sb, .inl (cI, 256, .inl bs_SBf)), (co, .inl (cI, 256, .inl bs_CTf)), (rk, .inl (cR, 2, .inr (.inr (.inr (.inr (bs_gl [rk0, rk1])))))), (rk0, .inl (cI, 44, .inl bs_V0)), (rk1, .inl (cI, 44, .inl bs_V1)), (o, .inr (6, [.int (nI 1), .ref xv, .ref xo, .ref xn, .ref xc, .ref xb, .ref xd, .ref xq, .ref xa, .ref xk, .ref xt, .ref xh, .ref xs, .ref xS, .ref xw, .ref xW, .ref xB, .ref xM, .long jf, .long js, .int jb, .long nf, .long ns, .int nb, .ref xf, .ref xg, .ref xi])), (xB, .inl (cI, 16, .inl bl)), (xM, .inl (cI, 16, .inl mv)), (xS, .inl (cI, 256, .inl (bs_fn bs_SB))), (xw, .inl (cI, 256, .inl (bs_fn bs_tX))), (xW, .inl (cI, 352, .inl (bs_fn bs_KK))), (ou, .inl (cL, 1, .inr (.inl fz)))] wt) H := hP
      have hD : va_D A (xj_ap [(bo, .inr (5, [.ref q, .ref km, .ref ka, .ref cs])), (q, .inr (0, [.ref sb, .ref co, .ref rk, .long f1, .long f2, .int bt])), (sb, .inl (cI, 256, .inl bs_SBf)), (co, .inl (cI, 256, .inl bs_CTf)), (rk, .inl (cR, 2, .inr (.inr (.inr (.inr (bs_gl [rk0, rk1])))))), (rk0, .inl (cI, 44, .inl bs_V0)), (rk1, .inl (cI, 44, .inl bs_V1)), (o, .inr (6, [.int (nI 1), .ref xv, .ref xo, .ref xn, .ref xc, .ref xb, .ref xd, .ref xq, .ref xa, .ref xk, .ref xt, .ref xh, .ref xs, .ref xS, .ref xw, .ref xW, .ref xB, .ref xM, .long jf, .long js, .int jb, .long nf, .long ns, .int nb, .ref xf, .ref xg, .ref xi])), (xB, .inl (cI, 16, .inl bl)), (xM, .inl (cI, 16, .inl mv)), (xS, .inl (cI, 256, .inl (bs_fn bs_SB))), (xw, .inl (cI, 256, .inl (bs_fn bs_tX))), (xW, .inl (cI, 352, .inl (bs_fn bs_KK))), (ou, .inl (cL, 1, .inr (.inl fz)))] wt) := hD
      have hl := lv_sub hl (l' := [(0, .ref b), (1, .ref bo), (2, .ref o), (3, .ref ou), (4, .int (nI (12 * t9)))]) [2, 3, 4, 5, 6] rfl
      exact hk f1 f2 bl mv (nI 1) fz H _ ls (hJ) hP hD hS hl
