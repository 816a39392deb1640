/-! BlindShelfModel: addWords, substitute, columns -/
set_option maxHeartbeats 4000000 in
set_option maxRecDepth 100000 in
theorem c_MO_addWords (l : Launch) (dC : Nat → ClassId) (dI : Nat → Nat → Nat) (sz : Nat) (o xv xo xn xc xb xd xq xa xk xt xh xs xS xw xW xB xM xf xg xi : Nat) (th : Int32) (jf js : Int64) (jb : Int32) (nf ns : Int64) (nb : Int32) (cI : ClassId) (B K : Nat → Nat) (a : Nat) (ha : a + 16 ≤ 352) : Met l yMO_addWords wsMO_addWords { frames := 0, cells := 0, slots := 0, locals := 0 } (va_Pc [.ref o, .int (nI a)] (fun U => U.heap.size = sz ∧ va_P (dC, dI) vwCl [(o, .inr (6, [.int th, .ref xv, .ref xo, .ref xn, .ref xc, .ref xb, .ref xd, .ref xq, .ref xa, .ref xk, .ref xt, .ref xh, .ref xs, .ref xS, .ref xw, .ref xW, .ref xB, .ref xM, .long jf, .long js, .int jb, .long nf, .long ns, .int nb, .ref xf, .ref xg, .ref xi])), (xB, .inl (cI, 16, .inl (bs_fn B))), (xW, .inl (cI, 352, .inl (bs_fn K)))] U.heap ∧ va_K (dC, dI) vwCl [(cI, .int)] U ∧ va_D (fun _ => True) [(o, .inr (6, [.int th, .ref xv, .ref xo, .ref xn, .ref xc, .ref xb, .ref xd, .ref xq, .ref xa, .ref xk, .ref xt, .ref xh, .ref xs, .ref xS, .ref xw, .ref xW, .ref xB, .ref xM, .long jf, .long js, .int jb, .long nf, .long ns, .int nb, .ref xf, .ref xg, .ref xi])), (xB, .inl (cI, 16, .inl (bs_fn B))), (xW, .inl (cI, 352, .inl (bs_fn K)))])) (va_Qv (fun (_ : Unit) => True) (fun (_ : Unit) t => va_P (dC, dI) vwCl [(o, .inr (6, [.int th, .ref xv, .ref xo, .ref xn, .ref xc, .ref xb, .ref xd, .ref xq, .ref xa, .ref xk, .ref xt, .ref xh, .ref xs, .ref xS, .ref xw, .ref xW, .ref xB, .ref xM, .long jf, .long js, .int jb, .long nf, .long ns, .int nb, .ref xf, .ref xg, .ref xi])), (xB, .inl (cI, 16, .inl (bs_fn (bs_ra B (fun k => K (a + k)))))), (xW, .inl (cI, 352, .inl (bs_fn K)))] t.heap ∧ va_K (dC, dI) vwCl [(cI, .int)] t ∧ va_D (va_A [(o, .inr (6, [.int th, .ref xv, .ref xo, .ref xn, .ref xc, .ref xb, .ref xd, .ref xq, .ref xa, .ref xk, .ref xt, .ref xh, .ref xs, .ref xS, .ref xw, .ref xW, .ref xB, .ref xM, .long jf, .long js, .int jb, .long nf, .long ns, .int nb, .ref xf, .ref xg, .ref xi])), (xB, .inl (cI, 16, .inl (bs_fn B))), (xW, .inl (cI, 352, .inl (bs_fn K)))] sz) [(o, .inr (6, [.int th, .ref xv, .ref xo, .ref xn, .ref xc, .ref xb, .ref xd, .ref xq, .ref xa, .ref xk, .ref xt, .ref xh, .ref xs, .ref xS, .ref xw, .ref xW, .ref xB, .ref xM, .long jf, .long js, .int jb, .long nf, .long ns, .int nb, .ref xf, .ref xg, .ref xi])), (xB, .inl (cI, 16, .inl (bs_fn (bs_ra B (fun k => K (a + k)))))), (xW, .inl (cI, 352, .inl (bs_fn K)))]) (va_A [(o, .inr (6, [.int th, .ref xv, .ref xo, .ref xn, .ref xc, .ref xb, .ref xd, .ref xq, .ref xa, .ref xk, .ref xt, .ref xh, .ref xs, .ref xS, .ref xw, .ref xW, .ref xB, .ref xM, .long jf, .long js, .int jb, .long nf, .long ns, .int nb, .ref xf, .ref xg, .ref xi])), (xB, .inl (cI, 16, .inl (bs_fn B))), (xW, .inl (cI, 352, .inl (bs_fn K)))] sz)) 0 0 (va_A [(o, .inr (6, [.int th, .ref xv, .ref xo, .ref xn, .ref xc, .ref xb, .ref xd, .ref xq, .ref xa, .ref xk, .ref xt, .ref xh, .ref xs, .ref xS, .ref xw, .ref xW, .ref xB, .ref xM, .long jf, .long js, .int jb, .long nf, .long ns, .int nb, .ref xf, .ref xg, .ref xi])), (xB, .inl (cI, 16, .inl (bs_fn B))), (xW, .inl (cI, 352, .inl (bs_fn K)))] sz) := by
  refine Met.ofW (cc := cMO_addWords) (maxL := 3) (ret := none) (by decide) rfl ?_
  intro p e s m args below meth c s₁ Bo9 hml hv
  obtain ⟨rfl, hsz, hP, hK, hD0⟩ := hv
  have hx := Bo9.exec
  have hb := Bo9.bytes
  have hr := Bo9.returns
  have hts := fun w (h : w ∈ wT) => atoms_spec (ws := wsMO_addWords) Bo9.pre w (List.mem_cons_of_mem _ h)
  have hown : s.vm.findClass RMO = some m.cls := findClass_of_methodNamed Bo9.named
  have hlocks := Bo9.notSynchronized
  subst hsz
  have hD := hD0.self (sz := s.heap.size)
  generalize hAe : va_A [(o, .inr (6, [.int th, .ref xv, .ref xo, .ref xn, .ref xc, .ref xb, .ref xd, .ref xq, .ref xa, .ref xk, .ref xt, .ref xh, .ref xs, .ref xS, .ref xw, .ref xW, .ref xB, .ref xM, .long jf, .long js, .int jb, .long nf, .long ns, .int nb, .ref xf, .ref xg, .ref xi])), (xB, .inl (cI, 16, .inl (bs_fn B))), (xW, .inl (cI, 352, .inl (bs_fn K)))] s.heap.size = A at hD ⊢
  have hA : ∀ q : Nat, s.heap.size ≤ q → A q := fun q h => by rw [← hAe]; exact Or.inr h
  have hl := lv_entry ([.ref o, .int (nI a)]) (n := 3) (Nat.le_of_ble_eq_true rfl)
  rw [lg_entry_eq]
  generalize (lg_sl ([.ref o, .int (nI a)]) ++ List.replicate (3 - (lg_sl ([.ref o, .int (nI a)])).length) Slot.unset).toArray = ls at hl ⊢
  have hl : lv_has ls 3 [(0, .ref o), (1, .int (nI a))] := hl
  refine xs_q (fun H Q hH hQ => ?_)
  have hS : va_S A s.heap H [] := by rw [hH]; exact va_S.rf
  have hP : va_P (dC, dI) vwCl [(o, .inr (6, [.int th, .ref xv, .ref xo, .ref xn, .ref xc, .ref xb, .ref xd, .ref xq, .ref xa, .ref xk, .ref xt, .ref xh, .ref xs, .ref xS, .ref xw, .ref xW, .ref xB, .ref xM, .long jf, .long js, .int jb, .long nf, .long ns, .int nb, .ref xf, .ref xg, .ref xi])), (xB, .inl (cI, 16, .inl (bs_fn B))), (xW, .inl (cI, 352, .inl (bs_fn K)))] H := by rw [hH]; exact hP
  refine lv_iconst (v := nI 0) hx hb dMO_addWords_0 (by decide) ?_
  refine lv_istore_n (lv' := [(2, .int (nI 0)), (0, .ref o), (1, .int (nI a))]) hx hb dMO_addWords_1 rfl hl (by decide) rfl (fun ls hl => ?_)
  have loop : ∀ (n i : Nat), i + n = 16 → ∀ (H : Heap) (locs : List Loc) (ls : Array Slot), va_P (dC, dI) vwCl [(o, .inr (6, [.int th, .ref xv, .ref xo, .ref xn, .ref xc, .ref xb, .ref xd, .ref xq, .ref xa, .ref xk, .ref xt, .ref xh, .ref xs, .ref xS, .ref xw, .ref xW, .ref xB, .ref xM, .long jf, .long js, .int jb, .long nf, .long ns, .int nb, .ref xf, .ref xg, .ref xi])), (xB, .inl (cI, 16, .inl (bs_pt (bs_fn (bs_ra B (fun k => K (a + k)))) (bs_fn B) i))), (xW, .inl (cI, 352, .inl (bs_fn K)))] H → va_D A [(o, .inr (6, [.int th, .ref xv, .ref xo, .ref xn, .ref xc, .ref xb, .ref xd, .ref xq, .ref xa, .ref xk, .ref xt, .ref xh, .ref xs, .ref xS, .ref xw, .ref xW, .ref xB, .ref xM, .long jf, .long js, .int jb, .long nf, .long ns, .int nb, .ref xf, .ref xg, .ref xi])), (xB, .inl (cI, 16, .inl (bs_pt (bs_fn (bs_ra B (fun k => K (a + k)))) (bs_fn B) i))), (xW, .inl (cI, 352, .inl (bs_fn K)))] → va_S A s.heap H locs → lv_has ls 3 [(0, .ref o), (1, .int (nI a)), (2, .int (nI i))] → W p l e (headSpec wsMO_addWords { frames := 0, cells := 0, slots := 0, locals := 0 }).room s m ([.ref o, .int (nI a)] : List Value).toArray below meth c H locs 0 0 Q (F0 m 2 ls []) := by
    intro n
    induction n with
    | zero =>
      intro i hi H locs ls hP hD hS hl
      obtain rfl : i = 16 := by omega
      refine lv_iload_n hx hb dMO_addWords_2 rfl (lv_at hl 2 rfl) ?_
      refine lv_bipush (v := nI 16) hx hb dMO_addWords_3 (by decide) ?_
      refine lv_icmp_ge (tgt := 31) hx hb dMO_addWords_5 (by decide) (fun _ => ?_) (fun h => absurd (nI_le (by omega) (by omega)) h)
      have hP := xp_i (bs_fn (bs_ra B (fun k => K (a + k)))) hP 1 rfl (fun j hj => bs_pt_lt hj)
      have hD := xd_at hD 1 (.inl (cI, 16, .inl (bs_fn (bs_ra B (fun k => K (a + k)))))) rfl
      have hP : va_P (dC, dI) vwCl [(o, .inr (6, [.int th, .ref xv, .ref xo, .ref xn, .ref xc, .ref xb, .ref xd, .ref xq, .ref xa, .ref xk, .ref xt, .ref xh, .ref xs, .ref xS, .ref xw, .ref xW, .ref xB, .ref xM, .long jf, .long js, .int jb, .long nf, .long ns, .int nb, .ref xf, .ref xg, .ref xi])), (xB, .inl (cI, 16, .inl (bs_fn (bs_ra B (fun k => K (a + k)))))), (xW, .inl (cI, 352, .inl (bs_fn K)))] H := hP
      have hD : va_D A [(o, .inr (6, [.int th, .ref xv, .ref xo, .ref xn, .ref xc, .ref xb, .ref xd, .ref xq, .ref xa, .ref xk, .ref xt, .ref xh, .ref xs, .ref xS, .ref xw, .ref xW, .ref xB, .ref xM, .long jf, .long js, .int jb, .long nf, .long ns, .int nb, .ref xf, .ref xg, .ref xi])), (xB, .inl (cI, 16, .inl (bs_fn (bs_ra B (fun k => K (a + k)))))), (xW, .inl (cI, 352, .inl (bs_fn K)))] := hD
      have hP : va_P (dC, dI) vwCl [(o, .inr (6, [.int th, .ref xv, .ref xo, .ref xn, .ref xc, .ref xb, .ref xd, .ref xq, .ref xa, .ref xk, .ref xt, .ref xh, .ref xs, .ref xS, .ref xw, .ref xW, .ref xB, .ref xM, .long jf, .long js, .int jb, .long nf, .long ns, .int nb, .ref xf, .ref xg, .ref xi])), (xB, .inl (cI, 16, .inl (bs_fn (bs_ra B (fun k => K (a + k)))))), (xW, .inl (cI, 352, .inl (bs_fn K)))] H := hP
      have hD : va_D A [(o, .inr (6, [.int th, .ref xv, .ref xo, .ref xn, .ref xc, .ref xb, .ref xd, .ref xq, .ref xa, .ref xk, .ref xt, .ref xh, .ref xs, .ref xS, .ref xw, .ref xW, .ref xB, .ref xM, .long jf, .long js, .int jb, .long nf, .long ns, .int nb, .ref xf, .ref xg, .ref xi])), (xB, .inl (cI, 16, .inl (bs_fn (bs_ra B (fun k => K (a + k)))))), (xW, .inl (cI, 352, .inl (bs_fn K)))] := hD
      subst hQ
      exact W.vret hx hb hr (fun t ht hW => ⟨⟨(), rfl, trivial, by rw [ht]; exact hP, va_K.moved hW.alike hK, hD⟩, hS.F ht⟩) hS.2.2 dMO_addWords_31
    | succ n ih =>
      intro i hi H locs ls hP hD hS hl
      refine lv_iload_n hx hb dMO_addWords_2 rfl (lv_at hl 2 rfl) ?_
      refine lv_bipush (v := nI 16) hx hb dMO_addWords_3 (by decide) ?_
      refine lv_icmp_ge (tgt := 31) hx hb dMO_addWords_5 (by decide) (fun h => absurd h (nI_ge (by omega) (by omega))) (fun _ => ?_)
      refine lv_aload_n hx hb dMO_addWords_8 rfl (lv_at hl 0 rfl) ?_
      refine va_get (D := (dC, dI)) (ci := 6) (v := .ref xB) (C := RMO) (T := TMO) (N := 27) hx hb hts in_MO hown hK hP 0 rfl rfl 16 (by decide) (hts _ w_f_MO_57) (fun _ h9 => h9) rfl dMO_addWords_9 ?_
      refine lv_iload_n hx hb dMO_addWords_12 rfl (lv_at hl 2 rfl) ?_
      refine lv_dup2_11 hx hb dMO_addWords_13 rfl rfl ?_
      refine xa_iald hx hb hK hP 1 0 rfl rfl i (by omega) (by decide) dMO_addWords_14 ?_
      refine xt_i (y := nI (B i)) (bs_pt_ge (Nat.le_refl i)) ?_
      refine lv_aload_n hx hb dMO_addWords_15 rfl (lv_at hl 0 rfl) ?_
      refine va_get (D := (dC, dI)) (ci := 6) (v := .ref xW) (C := RMO) (T := TMO) (N := 27) hx hb hts in_MO hown hK hP 0 rfl rfl 15 (by decide) (hts _ w_f_MO_54) (fun _ h9 => h9) rfl dMO_addWords_16 ?_
      refine lv_iload_n hx hb dMO_addWords_19 rfl (lv_at hl 1 rfl) ?_
      refine lv_iload_n hx hb dMO_addWords_20 rfl (lv_at hl 2 rfl) ?_
      refine lv_iadd hx hb dMO_addWords_21 ?_
      refine xt_i (y := nI (a + i)) (nI_add _ _) ?_
      refine xa_iald hx hb hK hP 2 0 rfl rfl (a + i) (by omega) (by decide) dMO_addWords_22 ?_
      refine xt_i (y := nI (K (a + i))) (rfl) ?_
      refine lv_ixor hx hb dMO_addWords_23 ?_
      refine xt_i (y := nI ((B i) ^^^ (K (a + i)))) (bs_nI_xor _ _) ?_
      refine xt_i (y := bs_fn (bs_ra B (fun k => K (a + k))) i) (rfl) ?_
      refine xa_iast hx hb hK hP hD hS 1 0 rfl rfl i (by omega) (by decide) dMO_addWords_24 (fun H locs hP hD hS => ?_)
      have hP : va_P (dC, dI) vwCl [(o, .inr (6, [.int th, .ref xv, .ref xo, .ref xn, .ref xc, .ref xb, .ref xd, .ref xq, .ref xa, .ref xk, .ref xt, .ref xh, .ref xs, .ref xS, .ref xw, .ref xW, .ref xB, .ref xM, .long jf, .long js, .int jb, .long nf, .long ns, .int nb, .ref xf, .ref xg, .ref xi])), (xB, .inl (cI, 16, .inl (upd (bs_pt (bs_fn (bs_ra B (fun k => K (a + k)))) (bs_fn B) i) i (bs_fn (bs_ra B (fun k => K (a + k))) i)))), (xW, .inl (cI, 352, .inl (bs_fn K)))] H := hP
      have hD : va_D A [(o, .inr (6, [.int th, .ref xv, .ref xo, .ref xn, .ref xc, .ref xb, .ref xd, .ref xq, .ref xa, .ref xk, .ref xt, .ref xh, .ref xs, .ref xS, .ref xw, .ref xW, .ref xB, .ref xM, .long jf, .long js, .int jb, .long nf, .long ns, .int nb, .ref xf, .ref xg, .ref xi])), (xB, .inl (cI, 16, .inl (upd (bs_pt (bs_fn (bs_ra B (fun k => K (a + k)))) (bs_fn B) i) i (bs_fn (bs_ra B (fun k => K (a + k))) i)))), (xW, .inl (cI, 352, .inl (bs_fn K)))] := hD
      rw [bs_pt_s] at hP hD
      refine lv_iinc (k := 2) (v := nI (i + 1)) (lv' := [(2, .int (nI (i + 1))), (0, .ref o), (1, .int (nI a))]) hx hb dMO_addWords_25 hl rfl (xi_1 _) (by decide) rfl (fun ls hl => ?_)
      refine lv_goto (tgt := 2) hx hb dMO_addWords_28 (by decide) ?_
      have hP : va_P (dC, dI) vwCl [(o, .inr (6, [.int th, .ref xv, .ref xo, .ref xn, .ref xc, .ref xb, .ref xd, .ref xq, .ref xa, .ref xk, .ref xt, .ref xh, .ref xs, .ref xS, .ref xw, .ref xW, .ref xB, .ref xM, .long jf, .long js, .int jb, .long nf, .long ns, .int nb, .ref xf, .ref xg, .ref xi])), (xB, .inl (cI, 16, .inl (bs_pt (bs_fn (bs_ra B (fun k => K (a + k)))) (bs_fn B) (i + 1)))), (xW, .inl (cI, 352, .inl (bs_fn K)))] H := hP
      have hD : va_D A [(o, .inr (6, [.int th, .ref xv, .ref xo, .ref xn, .ref xc, .ref xb, .ref xd, .ref xq, .ref xa, .ref xk, .ref xt, .ref xh, .ref xs, .ref xS, .ref xw, .ref xW, .ref xB, .ref xM, .long jf, .long js, .int jb, .long nf, .long ns, .int nb, .ref xf, .ref xg, .ref xi])), (xB, .inl (cI, 16, .inl (bs_pt (bs_fn (bs_ra B (fun k => K (a + k)))) (bs_fn B) (i + 1)))), (xW, .inl (cI, 352, .inl (bs_fn K)))] := hD
      have hl := lv_sub hl (l' := [(0, .ref o), (1, .int (nI a)), (2, .int (nI (i + 1)))]) [1, 2, 0] rfl
      have hl : lv_has ls 3 [(0, .ref o), (1, .int (nI a)), (2, .int (nI (i + 1)))] := hl
      exact ih (i + 1) (by omega) H _ ls hP hD hS hl
  rw [← bs_pt_0 (bs_fn (bs_ra B (fun k => K (a + k)))) (bs_fn B)] at hP hD
  have hP : va_P (dC, dI) vwCl [(o, .inr (6, [.int th, .ref xv, .ref xo, .ref xn, .ref xc, .ref xb, .ref xd, .ref xq, .ref xa, .ref xk, .ref xt, .ref xh, .ref xs, .ref xS, .ref xw, .ref xW, .ref xB, .ref xM, .long jf, .long js, .int jb, .long nf, .long ns, .int nb, .ref xf, .ref xg, .ref xi])), (xB, .inl (cI, 16, .inl (bs_pt (bs_fn (bs_ra B (fun k => K (a + k)))) (bs_fn B) 0))), (xW, .inl (cI, 352, .inl (bs_fn K)))] H := hP
  have hD : va_D A [(o, .inr (6, [.int th, .ref xv, .ref xo, .ref xn, .ref xc, .ref xb, .ref xd, .ref xq, .ref xa, .ref xk, .ref xt, .ref xh, .ref xs, .ref xS, .ref xw, .ref xW, .ref xB, .ref xM, .long jf, .long js, .int jb, .long nf, .long ns, .int nb, .ref xf, .ref xg, .ref xi])), (xB, .inl (cI, 16, .inl (bs_pt (bs_fn (bs_ra B (fun k => K (a + k)))) (bs_fn B) 0))), (xW, .inl (cI, 352, .inl (bs_fn K)))] := hD
  have hl := lv_sub hl (l' := [(0, .ref o), (1, .int (nI a)), (2, .int (nI 0))]) [1, 2, 0] rfl
  have hl : lv_has ls 3 [(0, .ref o), (1, .int (nI a)), (2, .int (nI 0))] := hl
  exact loop (16 - 0) 0 (by omega) H _ ls hP hD hS hl
set_option maxHeartbeats 4000000 in
set_option maxRecDepth 100000 in
theorem c_MO_substitute (l : Launch) (dC : Nat → ClassId) (dI : Nat → Nat → Nat) (sz : Nat) (o xv xo xn xc xb xd xq xa xk xt xh xs xS xw xW xB xM xf xg xi : Nat) (th : Int32) (jf js : Int64) (jb : Int32) (nf ns : Int64) (nb : Int32) (cI : ClassId) (B : Nat → Nat) (mv : Nat → Int32) (hB : ∀ j, B j < 256) : Met l yMO_substitute wsMO_substitute { frames := 0, cells := 0, slots := 0, locals := 0 } (va_Pc [.ref o] (fun U => U.heap.size = sz ∧ va_P (dC, dI) vwCl [(o, .inr (6, [.int th, .ref xv, .ref xo, .ref xn, .ref xc, .ref xb, .ref xd, .ref xq, .ref xa, .ref xk, .ref xt, .ref xh, .ref xs, .ref xS, .ref xw, .ref xW, .ref xB, .ref xM, .long jf, .long js, .int jb, .long nf, .long ns, .int nb, .ref xf, .ref xg, .ref xi])), (xB, .inl (cI, 16, .inl (bs_fn B))), (xM, .inl (cI, 16, .inl mv)), (xS, .inl (cI, 256, .inl (bs_fn bs_SB)))] U.heap ∧ va_K (dC, dI) vwCl [(cI, .int)] U ∧ va_D (fun _ => True) [(o, .inr (6, [.int th, .ref xv, .ref xo, .ref xn, .ref xc, .ref xb, .ref xd, .ref xq, .ref xa, .ref xk, .ref xt, .ref xh, .ref xs, .ref xS, .ref xw, .ref xW, .ref xB, .ref xM, .long jf, .long js, .int jb, .long nf, .long ns, .int nb, .ref xf, .ref xg, .ref xi])), (xB, .inl (cI, 16, .inl (bs_fn B))), (xM, .inl (cI, 16, .inl mv)), (xS, .inl (cI, 256, .inl (bs_fn bs_SB)))])) (va_Qv (fun (_ : Unit) => True) (fun (_ : Unit) t => va_P (dC, dI) vwCl [(o, .inr (6, [.int th, .ref xv, .ref xo, .ref xn, .ref xc, .ref xb, .ref xd, .ref xq, .ref xa, .ref xk, .ref xt, .ref xh, .ref xs, .ref xS, .ref xw, .ref xW, .ref xB, .ref xM, .long jf, .long js, .int jb, .long nf, .long ns, .int nb, .ref xf, .ref xg, .ref xi])), (xB, .inl (cI, 16, .inl (bs_fn (bs_rs B)))), (xM, .inl (cI, 16, .inl (bs_fn (bs_rs B)))), (xS, .inl (cI, 256, .inl (bs_fn bs_SB)))] t.heap ∧ va_K (dC, dI) vwCl [(cI, .int)] t ∧ va_D (va_A [(o, .inr (6, [.int th, .ref xv, .ref xo, .ref xn, .ref xc, .ref xb, .ref xd, .ref xq, .ref xa, .ref xk, .ref xt, .ref xh, .ref xs, .ref xS, .ref xw, .ref xW, .ref xB, .ref xM, .long jf, .long js, .int jb, .long nf, .long ns, .int nb, .ref xf, .ref xg, .ref xi])), (xB, .inl (cI, 16, .inl (bs_fn B))), (xM, .inl (cI, 16, .inl mv)), (xS, .inl (cI, 256, .inl (bs_fn bs_SB)))] sz) [(o, .inr (6, [.int th, .ref xv, .ref xo, .ref xn, .ref xc, .ref xb, .ref xd, .ref xq, .ref xa, .ref xk, .ref xt, .ref xh, .ref xs, .ref xS, .ref xw, .ref xW, .ref xB, .ref xM, .long jf, .long js, .int jb, .long nf, .long ns, .int nb, .ref xf, .ref xg, .ref xi])), (xB, .inl (cI, 16, .inl (bs_fn (bs_rs B)))), (xM, .inl (cI, 16, .inl (bs_fn (bs_rs B)))), (xS, .inl (cI, 256, .inl (bs_fn bs_SB)))]) (va_A [(o, .inr (6, [.int th, .ref xv, .ref xo, .ref xn, .ref xc, .ref xb, .ref xd, .ref xq, .ref xa, .ref xk, .ref xt, .ref xh, .ref xs, .ref xS, .ref xw, .ref xW, .ref xB, .ref xM, .long jf, .long js, .int jb, .long nf, .long ns, .int nb, .ref xf, .ref xg, .ref xi])), (xB, .inl (cI, 16, .inl (bs_fn B))), (xM, .inl (cI, 16, .inl mv)), (xS, .inl (cI, 256, .inl (bs_fn bs_SB)))] sz)) 0 0 (va_A [(o, .inr (6, [.int th, .ref xv, .ref xo, .ref xn, .ref xc, .ref xb, .ref xd, .ref xq, .ref xa, .ref xk, .ref xt, .ref xh, .ref xs, .ref xS, .ref xw, .ref xW, .ref xB, .ref xM, .long jf, .long js, .int jb, .long nf, .long ns, .int nb, .ref xf, .ref xg, .ref xi])), (xB, .inl (cI, 16, .inl (bs_fn B))), (xM, .inl (cI, 16, .inl mv)), (xS, .inl (cI, 256, .inl (bs_fn bs_SB)))] sz) := by
  refine Met.ofW (cc := cMO_substitute) (maxL := 3) (ret := none) (by decide) rfl ?_
  intro p e s m args below meth c s₁ Bo9 hml hv
  obtain ⟨rfl, hsz, hP, hK, hD0⟩ := hv
  have hx := Bo9.exec
  have hb := Bo9.bytes
  have hr := Bo9.returns
  have hts := fun w (h : w ∈ wT) => atoms_spec (ws := wsMO_substitute) Bo9.pre w (List.mem_cons_of_mem _ h)
  have hown : s.vm.findClass RMO = some m.cls := findClass_of_methodNamed Bo9.named
  have hlocks := Bo9.notSynchronized
  subst hsz
  have hD := hD0.self (sz := s.heap.size)
  generalize hAe : va_A [(o, .inr (6, [.int th, .ref xv, .ref xo, .ref xn, .ref xc, .ref xb, .ref xd, .ref xq, .ref xa, .ref xk, .ref xt, .ref xh, .ref xs, .ref xS, .ref xw, .ref xW, .ref xB, .ref xM, .long jf, .long js, .int jb, .long nf, .long ns, .int nb, .ref xf, .ref xg, .ref xi])), (xB, .inl (cI, 16, .inl (bs_fn B))), (xM, .inl (cI, 16, .inl mv)), (xS, .inl (cI, 256, .inl (bs_fn bs_SB)))] s.heap.size = A at hD ⊢
  have hA : ∀ q : Nat, s.heap.size ≤ q → A q := fun q h => by rw [← hAe]; exact Or.inr h
  have hl := lv_entry ([.ref o]) (n := 3) (Nat.le_of_ble_eq_true rfl)
  rw [lg_entry_eq]
  generalize (lg_sl ([.ref o]) ++ List.replicate (3 - (lg_sl ([.ref o])).length) Slot.unset).toArray = ls at hl ⊢
  have hl : lv_has ls 3 [(0, .ref o)] := hl
  refine xs_q (fun H Q hH hQ => ?_)
  have hS : va_S A s.heap H [] := by rw [hH]; exact va_S.rf
  have hP : va_P (dC, dI) vwCl [(o, .inr (6, [.int th, .ref xv, .ref xo, .ref xn, .ref xc, .ref xb, .ref xd, .ref xq, .ref xa, .ref xk, .ref xt, .ref xh, .ref xs, .ref xS, .ref xw, .ref xW, .ref xB, .ref xM, .long jf, .long js, .int jb, .long nf, .long ns, .int nb, .ref xf, .ref xg, .ref xi])), (xB, .inl (cI, 16, .inl (bs_fn B))), (xM, .inl (cI, 16, .inl mv)), (xS, .inl (cI, 256, .inl (bs_fn bs_SB)))] H := by rw [hH]; exact hP
  refine lv_iconst (v := nI 0) hx hb dMO_substitute_0 (by decide) ?_
  refine lv_istore_n (lv' := [(1, .int (nI 0)), (0, .ref o)]) hx hb dMO_substitute_1 rfl hl (by decide) rfl (fun ls hl => ?_)
  have loop : ∀ (n_c9 c9 : Nat), c9 + n_c9 = 4 → ∀ (H : Heap) (locs : List Loc) (ls : Array Slot), va_P (dC, dI) vwCl [(o, .inr (6, [.int th, .ref xv, .ref xo, .ref xn, .ref xc, .ref xb, .ref xd, .ref xq, .ref xa, .ref xk, .ref xt, .ref xh, .ref xs, .ref xS, .ref xw, .ref xW, .ref xB, .ref xM, .long jf, .long js, .int jb, .long nf, .long ns, .int nb, .ref xf, .ref xg, .ref xi])), (xB, .inl (cI, 16, .inl (bs_fn B))), (xM, .inl (cI, 16, .inl (bs_pt (bs_fn (bs_rs B)) mv (4 * c9)))), (xS, .inl (cI, 256, .inl (bs_fn bs_SB)))] H → va_D A [(o, .inr (6, [.int th, .ref xv, .ref xo, .ref xn, .ref xc, .ref xb, .ref xd, .ref xq, .ref xa, .ref xk, .ref xt, .ref xh, .ref xs, .ref xS, .ref xw, .ref xW, .ref xB, .ref xM, .long jf, .long js, .int jb, .long nf, .long ns, .int nb, .ref xf, .ref xg, .ref xi])), (xB, .inl (cI, 16, .inl (bs_fn B))), (xM, .inl (cI, 16, .inl (bs_pt (bs_fn (bs_rs B)) mv (4 * c9)))), (xS, .inl (cI, 256, .inl (bs_fn bs_SB)))] → va_S A s.heap H locs → lv_has ls 3 [(0, .ref o), (1, .int (nI c9))] → W p l e (headSpec wsMO_substitute { frames := 0, cells := 0, slots := 0, locals := 0 }).room s m ([.ref o] : List Value).toArray below meth c H locs 0 0 Q (F0 m 2 ls []) := by
    intro n_c9
    induction n_c9 with
    | zero =>
      intro c9 hi_c9 H locs ls hP hD hS hl
      obtain rfl : c9 = 4 := by omega
      refine lv_iload_n hx hb dMO_substitute_2 rfl (lv_at hl 1 rfl) ?_
      refine lv_iconst (v := nI 4) hx hb dMO_substitute_3 (by decide) ?_
      refine lv_icmp_ge (tgt := 55) hx hb dMO_substitute_4 (by decide) (fun _ => ?_) (fun h => absurd (nI_le (by omega) (by omega)) h)
      have hP := xp_i (bs_fn (bs_rs B)) hP 2 rfl (fun j hj => bs_pt_lt (show j < 4 * 4 by omega))
      have hD := xd_at hD 2 (.inl (cI, 16, .inl (bs_fn (bs_rs B)))) rfl
      have hP : va_P (dC, dI) vwCl [(o, .inr (6, [.int th, .ref xv, .ref xo, .ref xn, .ref xc, .ref xb, .ref xd, .ref xq, .ref xa, .ref xk, .ref xt, .ref xh, .ref xs, .ref xS, .ref xw, .ref xW, .ref xB, .ref xM, .long jf, .long js, .int jb, .long nf, .long ns, .int nb, .ref xf, .ref xg, .ref xi])), (xB, .inl (cI, 16, .inl (bs_fn B))), (xM, .inl (cI, 16, .inl (bs_fn (bs_rs B)))), (xS, .inl (cI, 256, .inl (bs_fn bs_SB)))] H := hP
      have hD : va_D A [(o, .inr (6, [.int th, .ref xv, .ref xo, .ref xn, .ref xc, .ref xb, .ref xd, .ref xq, .ref xa, .ref xk, .ref xt, .ref xh, .ref xs, .ref xS, .ref xw, .ref xW, .ref xB, .ref xM, .long jf, .long js, .int jb, .long nf, .long ns, .int nb, .ref xf, .ref xg, .ref xi])), (xB, .inl (cI, 16, .inl (bs_fn B))), (xM, .inl (cI, 16, .inl (bs_fn (bs_rs B)))), (xS, .inl (cI, 256, .inl (bs_fn bs_SB)))] := hD
      refine lv_iconst (v := nI 0) hx hb dMO_substitute_55 (by decide) ?_
      refine lv_istore_n (lv' := [(1, .int (nI 0)), (0, .ref o)]) hx hb dMO_substitute_56 rfl hl (by decide) rfl (fun ls hl => ?_)
      have loop3 : ∀ (n i : Nat), i + n = 16 → ∀ (H : Heap) (locs : List Loc) (ls : Array Slot), va_P (dC, dI) vwCl [(o, .inr (6, [.int th, .ref xv, .ref xo, .ref xn, .ref xc, .ref xb, .ref xd, .ref xq, .ref xa, .ref xk, .ref xt, .ref xh, .ref xs, .ref xS, .ref xw, .ref xW, .ref xB, .ref xM, .long jf, .long js, .int jb, .long nf, .long ns, .int nb, .ref xf, .ref xg, .ref xi])), (xB, .inl (cI, 16, .inl (bs_pt (bs_fn (bs_rs B)) (bs_fn B) i))), (xM, .inl (cI, 16, .inl (bs_fn (bs_rs B)))), (xS, .inl (cI, 256, .inl (bs_fn bs_SB)))] H → va_D A [(o, .inr (6, [.int th, .ref xv, .ref xo, .ref xn, .ref xc, .ref xb, .ref xd, .ref xq, .ref xa, .ref xk, .ref xt, .ref xh, .ref xs, .ref xS, .ref xw, .ref xW, .ref xB, .ref xM, .long jf, .long js, .int jb, .long nf, .long ns, .int nb, .ref xf, .ref xg, .ref xi])), (xB, .inl (cI, 16, .inl (bs_pt (bs_fn (bs_rs B)) (bs_fn B) i))), (xM, .inl (cI, 16, .inl (bs_fn (bs_rs B)))), (xS, .inl (cI, 256, .inl (bs_fn bs_SB)))] → va_S A s.heap H locs → lv_has ls 3 [(0, .ref o), (1, .int (nI i))] → W p l e (headSpec wsMO_substitute { frames := 0, cells := 0, slots := 0, locals := 0 }).room s m ([.ref o] : List Value).toArray below meth c H locs 0 0 Q (F0 m 57 ls []) := by
        intro n
        induction n with
        | zero =>
          intro i hi H locs ls hP hD hS hl
          obtain rfl : i = 16 := by omega
          refine lv_iload_n hx hb dMO_substitute_57 rfl (lv_at hl 1 rfl) ?_
          refine lv_bipush (v := nI 16) hx hb dMO_substitute_58 (by decide) ?_
          refine lv_icmp_ge (tgt := 81) hx hb dMO_substitute_60 (by decide) (fun _ => ?_) (fun h => absurd (nI_le (by omega) (by omega)) h)
          have hP := xp_i (bs_fn (bs_rs B)) hP 1 rfl (fun j hj => bs_pt_lt hj)
          have hD := xd_at hD 1 (.inl (cI, 16, .inl (bs_fn (bs_rs B)))) rfl
          have hP : va_P (dC, dI) vwCl [(o, .inr (6, [.int th, .ref xv, .ref xo, .ref xn, .ref xc, .ref xb, .ref xd, .ref xq, .ref xa, .ref xk, .ref xt, .ref xh, .ref xs, .ref xS, .ref xw, .ref xW, .ref xB, .ref xM, .long jf, .long js, .int jb, .long nf, .long ns, .int nb, .ref xf, .ref xg, .ref xi])), (xB, .inl (cI, 16, .inl (bs_fn (bs_rs B)))), (xM, .inl (cI, 16, .inl (bs_fn (bs_rs B)))), (xS, .inl (cI, 256, .inl (bs_fn bs_SB)))] H := hP
          have hD : va_D A [(o, .inr (6, [.int th, .ref xv, .ref xo, .ref xn, .ref xc, .ref xb, .ref xd, .ref xq, .ref xa, .ref xk, .ref xt, .ref xh, .ref xs, .ref xS, .ref xw, .ref xW, .ref xB, .ref xM, .long jf, .long js, .int jb, .long nf, .long ns, .int nb, .ref xf, .ref xg, .ref xi])), (xB, .inl (cI, 16, .inl (bs_fn (bs_rs B)))), (xM, .inl (cI, 16, .inl (bs_fn (bs_rs B)))), (xS, .inl (cI, 256, .inl (bs_fn bs_SB)))] := hD
          have hP : va_P (dC, dI) vwCl [(o, .inr (6, [.int th, .ref xv, .ref xo, .ref xn, .ref xc, .ref xb, .ref xd, .ref xq, .ref xa, .ref xk, .ref xt, .ref xh, .ref xs, .ref xS, .ref xw, .ref xW, .ref xB, .ref xM, .long jf, .long js, .int jb, .long nf, .long ns, .int nb, .ref xf, .ref xg, .ref xi])), (xB, .inl (cI, 16, .inl (bs_fn (bs_rs B)))), (xM, .inl (cI, 16, .inl (bs_fn (bs_rs B)))), (xS, .inl (cI, 256, .inl (bs_fn bs_SB)))] H := hP
          have hD : va_D A [(o, .inr (6, [.int th, .ref xv, .ref xo, .ref xn, .ref xc, .ref xb, .ref xd, .ref xq, .ref xa, .ref xk, .ref xt, .ref xh, .ref xs, .ref xS, .ref xw, .ref xW, .ref xB, .ref xM, .long jf, .long js, .int jb, .long nf, .long ns, .int nb, .ref xf, .ref xg, .ref xi])), (xB, .inl (cI, 16, .inl (bs_fn (bs_rs B)))), (xM, .inl (cI, 16, .inl (bs_fn (bs_rs B)))), (xS, .inl (cI, 256, .inl (bs_fn bs_SB)))] := hD
          subst hQ
          exact W.vret hx hb hr (fun t ht hW => ⟨⟨(), rfl, trivial, by rw [ht]; exact hP, va_K.moved hW.alike hK, hD⟩, hS.F ht⟩) hS.2.2 dMO_substitute_81
        | succ n ih =>
          intro i hi H locs ls hP hD hS hl
          refine lv_iload_n hx hb dMO_substitute_57 rfl (lv_at hl 1 rfl) ?_
          refine lv_bipush (v := nI 16) hx hb dMO_substitute_58 (by decide) ?_
          refine lv_icmp_ge (tgt := 81) hx hb dMO_substitute_60 (by decide) (fun h => absurd h (nI_ge (by omega) (by omega))) (fun _ => ?_)
          refine lv_aload_n hx hb dMO_substitute_63 rfl (lv_at hl 0 rfl) ?_
          refine va_get (D := (dC, dI)) (ci := 6) (v := .ref xB) (C := RMO) (T := TMO) (N := 27) hx hb hts in_MO hown hK hP 0 rfl rfl 16 (by decide) (hts _ w_f_MO_57) (fun _ h9 => h9) rfl dMO_substitute_64 ?_
          refine lv_iload_n hx hb dMO_substitute_67 rfl (lv_at hl 1 rfl) ?_
          refine lv_aload_n hx hb dMO_substitute_68 rfl (lv_at hl 0 rfl) ?_
          refine va_get (D := (dC, dI)) (ci := 6) (v := .ref xM) (C := RMO) (T := TMO) (N := 27) hx hb hts in_MO hown hK hP 0 rfl rfl 17 (by decide) (hts _ w_f_MO_60) (fun _ h9 => h9) rfl dMO_substitute_69 ?_
          refine lv_iload_n hx hb dMO_substitute_72 rfl (lv_at hl 1 rfl) ?_
          refine xa_iald hx hb hK hP 2 0 rfl rfl i (by omega) (by decide) dMO_substitute_73 ?_
          refine xt_i (y := nI ((bs_rs B) i)) (rfl) ?_
          refine xt_i (y := bs_fn (bs_rs B) i) (rfl) ?_
          refine xa_iast hx hb hK hP hD hS 1 0 rfl rfl i (by omega) (by decide) dMO_substitute_74 (fun H locs hP hD hS => ?_)
          have hP : va_P (dC, dI) vwCl [(o, .inr (6, [.int th, .ref xv, .ref xo, .ref xn, .ref xc, .ref xb, .ref xd, .ref xq, .ref xa, .ref xk, .ref xt, .ref xh, .ref xs, .ref xS, .ref xw, .ref xW, .ref xB, .ref xM, .long jf, .long js, .int jb, .long nf, .long ns, .int nb, .ref xf, .ref xg, .ref xi])), (xB, .inl (cI, 16, .inl (upd (bs_pt (bs_fn (bs_rs B)) (bs_fn B) i) i (bs_fn (bs_rs B) i)))), (xM, .inl (cI, 16, .inl (bs_fn (bs_rs B)))), (xS, .inl (cI, 256, .inl (bs_fn bs_SB)))] H := hP
          have hD : va_D A [(o, .inr (6, [.int th, .ref xv, .ref xo, .ref xn, .ref xc, .ref xb, .ref xd, .ref xq, .ref xa, .ref xk, .ref xt, .ref xh, .ref xs, .ref xS, .ref xw, .ref xW, .ref xB, .ref xM, .long jf, .long js, .int jb, .long nf, .long ns, .int nb, .ref xf, .ref xg, .ref xi])), (xB, .inl (cI, 16, .inl (upd (bs_pt (bs_fn (bs_rs B)) (bs_fn B) i) i (bs_fn (bs_rs B) i)))), (xM, .inl (cI, 16, .inl (bs_fn (bs_rs B)))), (xS, .inl (cI, 256, .inl (bs_fn bs_SB)))] := hD
          rw [bs_pt_s] at hP hD
          refine lv_iinc (k := 1) (v := nI (i + 1)) (lv' := [(1, .int (nI (i + 1))), (0, .ref o)]) hx hb dMO_substitute_75 hl rfl (xi_1 _) (by decide) rfl (fun ls hl => ?_)
          refine lv_goto (tgt := 57) hx hb dMO_substitute_78 (by decide) ?_
          have hP : va_P (dC, dI) vwCl [(o, .inr (6, [.int th, .ref xv, .ref xo, .ref xn, .ref xc, .ref xb, .ref xd, .ref xq, .ref xa, .ref xk, .ref xt, .ref xh, .ref xs, .ref xS, .ref xw, .ref xW, .ref xB, .ref xM, .long jf, .long js, .int jb, .long nf, .long ns, .int nb, .ref xf, .ref xg, .ref xi])), (xB, .inl (cI, 16, .inl (bs_pt (bs_fn (bs_rs B)) (bs_fn B) (i + 1)))), (xM, .inl (cI, 16, .inl (bs_fn (bs_rs B)))), (xS, .inl (cI, 256, .inl (bs_fn bs_SB)))] H := hP
          have hD : va_D A [(o, .inr (6, [.int th, .ref xv, .ref xo, .ref xn, .ref xc, .ref xb, .ref xd, .ref xq, .ref xa, .ref xk, .ref xt, .ref xh, .ref xs, .ref xS, .ref xw, .ref xW, .ref xB, .ref xM, .long jf, .long js, .int jb, .long nf, .long ns, .int nb, .ref xf, .ref xg, .ref xi])), (xB, .inl (cI, 16, .inl (bs_pt (bs_fn (bs_rs B)) (bs_fn B) (i + 1)))), (xM, .inl (cI, 16, .inl (bs_fn (bs_rs B)))), (xS, .inl (cI, 256, .inl (bs_fn bs_SB)))] := hD
          have hl := lv_sub hl (l' := [(0, .ref o), (1, .int (nI (i + 1)))]) [1, 0] rfl
          have hl : lv_has ls 3 [(0, .ref o), (1, .int (nI (i + 1)))] := hl
          exact ih (i + 1) (by omega) H _ ls hP hD hS hl
      have hP : va_P (dC, dI) vwCl [(o, .inr (6, [.int th, .ref xv, .ref xo, .ref xn, .ref xc, .ref xb, .ref xd, .ref xq, .ref xa, .ref xk, .ref xt, .ref xh, .ref xs, .ref xS, .ref xw, .ref xW, .ref xB, .ref xM, .long jf, .long js, .int jb, .long nf, .long ns, .int nb, .ref xf, .ref xg, .ref xi])), (xB, .inl (cI, 16, .inl (bs_pt (bs_fn (bs_rs B)) (bs_fn B) 0))), (xM, .inl (cI, 16, .inl (bs_fn (bs_rs B)))), (xS, .inl (cI, 256, .inl (bs_fn bs_SB)))] H := by rw [bs_pt_0]; exact hP
      have hD : va_D A [(o, .inr (6, [.int th, .ref xv, .ref xo, .ref xn, .ref xc, .ref xb, .ref xd, .ref xq, .ref xa, .ref xk, .ref xt, .ref xh, .ref xs, .ref xS, .ref xw, .ref xW, .ref xB, .ref xM, .long jf, .long js, .int jb, .long nf, .long ns, .int nb, .ref xf, .ref xg, .ref xi])), (xB, .inl (cI, 16, .inl (bs_pt (bs_fn (bs_rs B)) (bs_fn B) 0))), (xM, .inl (cI, 16, .inl (bs_fn (bs_rs B)))), (xS, .inl (cI, 256, .inl (bs_fn bs_SB)))] := by rw [bs_pt_0]; exact hD
      have hP : va_P (dC, dI) vwCl [(o, .inr (6, [.int th, .ref xv, .ref xo, .ref xn, .ref xc, .ref xb, .ref xd, .ref xq, .ref xa, .ref xk, .ref xt, .ref xh, .ref xs, .ref xS, .ref xw, .ref xW, .ref xB, .ref xM, .long jf, .long js, .int jb, .long nf, .long ns, .int nb, .ref xf, .ref xg, .ref xi])), (xB, .inl (cI, 16, .inl (bs_pt (bs_fn (bs_rs B)) (bs_fn B) 0))), (xM, .inl (cI, 16, .inl (bs_fn (bs_rs B)))), (xS, .inl (cI, 256, .inl (bs_fn bs_SB)))] H := hP
      have hD : va_D A [(o, .inr (6, [.int th, .ref xv, .ref xo, .ref xn, .ref xc, .ref xb, .ref xd, .ref xq, .ref xa, .ref xk, .ref xt, .ref xh, .ref xs, .ref xS, .ref xw, .ref xW, .ref xB, .ref xM, .long jf, .long js, .int jb, .long nf, .long ns, .int nb, .ref xf, .ref xg, .ref xi])), (xB, .inl (cI, 16, .inl (bs_pt (bs_fn (bs_rs B)) (bs_fn B) 0))), (xM, .inl (cI, 16, .inl (bs_fn (bs_rs B)))), (xS, .inl (cI, 256, .inl (bs_fn bs_SB)))] := hD
      have hl := lv_sub hl (l' := [(0, .ref o), (1, .int (nI 0))]) [1, 0] rfl
      have hl : lv_has ls 3 [(0, .ref o), (1, .int (nI 0))] := hl
      exact loop3 (16 - 0) 0 (by omega) H _ ls hP hD hS hl
    | succ n_c9 ih_c9 =>
      intro c9 hi_c9 H locs ls hP hD hS hl
      refine lv_iload_n hx hb dMO_substitute_2 rfl (lv_at hl 1 rfl) ?_
      refine lv_iconst (v := nI 4) hx hb dMO_substitute_3 (by decide) ?_
      refine lv_icmp_ge (tgt := 55) hx hb dMO_substitute_4 (by decide) (fun h => absurd h (nI_ge (by omega) (by omega))) (fun _ => ?_)
      refine lv_iconst (v := nI 0) hx hb dMO_substitute_7 (by decide) ?_
      refine lv_istore_n (lv' := [(2, .int (nI 0)), (0, .ref o), (1, .int (nI c9))]) hx hb dMO_substitute_8 rfl hl (by decide) rfl (fun ls hl => ?_)
      have loop2 : ∀ (n_k9 k9 : Nat), k9 + n_k9 = 4 → ∀ (H : Heap) (locs : List Loc) (ls : Array Slot), va_P (dC, dI) vwCl [(o, .inr (6, [.int th, .ref xv, .ref xo, .ref xn, .ref xc, .ref xb, .ref xd, .ref xq, .ref xa, .ref xk, .ref xt, .ref xh, .ref xs, .ref xS, .ref xw, .ref xW, .ref xB, .ref xM, .long jf, .long js, .int jb, .long nf, .long ns, .int nb, .ref xf, .ref xg, .ref xi])), (xB, .inl (cI, 16, .inl (bs_fn B))), (xM, .inl (cI, 16, .inl (bs_pt (bs_fn (bs_rs B)) mv (4 * c9 + k9)))), (xS, .inl (cI, 256, .inl (bs_fn bs_SB)))] H → va_D A [(o, .inr (6, [.int th, .ref xv, .ref xo, .ref xn, .ref xc, .ref xb, .ref xd, .ref xq, .ref xa, .ref xk, .ref xt, .ref xh, .ref xs, .ref xS, .ref xw, .ref xW, .ref xB, .ref xM, .long jf, .long js, .int jb, .long nf, .long ns, .int nb, .ref xf, .ref xg, .ref xi])), (xB, .inl (cI, 16, .inl (bs_fn B))), (xM, .inl (cI, 16, .inl (bs_pt (bs_fn (bs_rs B)) mv (4 * c9 + k9)))), (xS, .inl (cI, 256, .inl (bs_fn bs_SB)))] → va_S A s.heap H locs → lv_has ls 3 [(0, .ref o), (1, .int (nI c9)), (2, .int (nI k9))] → W p l e (headSpec wsMO_substitute { frames := 0, cells := 0, slots := 0, locals := 0 }).room s m ([.ref o] : List Value).toArray below meth c H locs 0 0 Q (F0 m 9 ls []) := by
        intro n_k9
        induction n_k9 with
        | zero =>
          intro k9 hi_k9 H locs ls hP hD hS hl
          obtain rfl : k9 = 4 := by omega
          refine lv_iload_n hx hb dMO_substitute_9 rfl (lv_at hl 2 rfl) ?_
          refine lv_iconst (v := nI 4) hx hb dMO_substitute_10 (by decide) ?_
          refine lv_icmp_ge (tgt := 49) hx hb dMO_substitute_11 (by decide) (fun _ => ?_) (fun h => absurd (nI_le (by omega) (by omega)) h)
          refine lv_iinc (k := 1) (v := nI (c9 + 1)) (lv' := [(1, .int (nI (c9 + 1))), (0, .ref o), (2, .int (nI 4))]) hx hb dMO_substitute_49 hl rfl (xi_1 _) (by decide) rfl (fun ls hl => ?_)
          refine lv_goto (tgt := 2) hx hb dMO_substitute_52 (by decide) ?_
          have hP : va_P (dC, dI) vwCl [(o, .inr (6, [.int th, .ref xv, .ref xo, .ref xn, .ref xc, .ref xb, .ref xd, .ref xq, .ref xa, .ref xk, .ref xt, .ref xh, .ref xs, .ref xS, .ref xw, .ref xW, .ref xB, .ref xM, .long jf, .long js, .int jb, .long nf, .long ns, .int nb, .ref xf, .ref xg, .ref xi])), (xB, .inl (cI, 16, .inl (bs_fn B))), (xM, .inl (cI, 16, .inl (bs_pt (bs_fn (bs_rs B)) mv (4 * (c9 + 1))))), (xS, .inl (cI, 256, .inl (bs_fn bs_SB)))] H := hP
          have hD : va_D A [(o, .inr (6, [.int th, .ref xv, .ref xo, .ref xn, .ref xc, .ref xb, .ref xd, .ref xq, .ref xa, .ref xk, .ref xt, .ref xh, .ref xs, .ref xS, .ref xw, .ref xW, .ref xB, .ref xM, .long jf, .long js, .int jb, .long nf, .long ns, .int nb, .ref xf, .ref xg, .ref xi])), (xB, .inl (cI, 16, .inl (bs_fn B))), (xM, .inl (cI, 16, .inl (bs_pt (bs_fn (bs_rs B)) mv (4 * (c9 + 1))))), (xS, .inl (cI, 256, .inl (bs_fn bs_SB)))] := hD
          have hl := lv_sub hl (l' := [(0, .ref o), (1, .int (nI (c9 + 1)))]) [1, 0] rfl
          have hl : lv_has ls 3 [(0, .ref o), (1, .int (nI (c9 + 1)))] := hl
          exact ih_c9 (c9 + 1) (by omega) H _ ls hP hD hS hl
        | succ n_k9 ih_k9 =>
          intro k9 hi_k9 H locs ls hP hD hS hl
          refine lv_iload_n hx hb dMO_substitute_9 rfl (lv_at hl 2 rfl) ?_
          refine lv_iconst (v := nI 4) hx hb dMO_substitute_10 (by decide) ?_
          refine lv_icmp_ge (tgt := 49) hx hb dMO_substitute_11 (by decide) (fun h => absurd h (nI_ge (by omega) (by omega))) (fun _ => ?_)
          refine lv_aload_n hx hb dMO_substitute_14 rfl (lv_at hl 0 rfl) ?_
          refine va_get (D := (dC, dI)) (ci := 6) (v := .ref xM) (C := RMO) (T := TMO) (N := 27) hx hb hts in_MO hown hK hP 0 rfl rfl 17 (by decide) (hts _ w_f_MO_60) (fun _ h9 => h9) rfl dMO_substitute_15 ?_
          refine lv_iconst (v := nI 4) hx hb dMO_substitute_18 (by decide) ?_
          refine lv_iload_n hx hb dMO_substitute_19 rfl (lv_at hl 1 rfl) ?_
          refine lv_imul hx hb dMO_substitute_20 ?_
          refine xt_i (y := nI (4 * c9)) (pk_mul _ _) ?_
          refine lv_iload_n hx hb dMO_substitute_21 rfl (lv_at hl 2 rfl) ?_
          refine lv_iadd hx hb dMO_substitute_22 ?_
          refine xt_i (y := nI (4 * c9 + k9)) (nI_add _ _) ?_
          refine lv_aload_n hx hb dMO_substitute_23 rfl (lv_at hl 0 rfl) ?_
          refine va_get (D := (dC, dI)) (ci := 6) (v := .ref xS) (C := RMO) (T := TMO) (N := 27) hx hb hts in_MO hown hK hP 0 rfl rfl 13 (by decide) (hts _ w_f_MO_48) (fun _ h9 => h9) rfl dMO_substitute_24 ?_
          refine lv_aload_n hx hb dMO_substitute_27 rfl (lv_at hl 0 rfl) ?_
          refine va_get (D := (dC, dI)) (ci := 6) (v := .ref xB) (C := RMO) (T := TMO) (N := 27) hx hb hts in_MO hown hK hP 0 rfl rfl 16 (by decide) (hts _ w_f_MO_57) (fun _ h9 => h9) rfl dMO_substitute_28 ?_
          refine lv_iconst (v := nI 4) hx hb dMO_substitute_31 (by decide) ?_
          refine lv_iload_n hx hb dMO_substitute_32 rfl (lv_at hl 1 rfl) ?_
          refine lv_iload_n hx hb dMO_substitute_33 rfl (lv_at hl 2 rfl) ?_
          refine lv_iadd hx hb dMO_substitute_34 ?_
          refine xt_i (y := nI (c9 + k9)) (nI_add _ _) ?_
          refine lv_iconst (v := nI 4) hx hb dMO_substitute_35 (by decide) ?_
          refine lv_irem hx hb dMO_substitute_36 (by decide) ?_
          refine xt_i (y := nI ((c9 + k9) % 4)) (pk_rem (by omega) (by omega) (by decide)) ?_
          refine lv_imul hx hb dMO_substitute_37 ?_
          refine xt_i (y := nI (4 * ((c9 + k9) % 4))) (pk_mul _ _) ?_
          refine lv_iload_n hx hb dMO_substitute_38 rfl (lv_at hl 2 rfl) ?_
          refine lv_iadd hx hb dMO_substitute_39 ?_
          refine xt_i (y := nI (4 * ((c9 + k9) % 4) + k9)) (nI_add _ _) ?_
          refine xa_iald hx hb hK hP 1 0 rfl rfl (4 * ((c9 + k9) % 4) + k9) (by omega) (by decide) dMO_substitute_40 ?_
          refine xt_i (y := nI (B (4 * ((c9 + k9) % 4) + k9))) (rfl) ?_
          refine xa_iald hx hb hK hP 3 0 rfl rfl (B (4 * ((c9 + k9) % 4) + k9)) (hB _) (by decide) dMO_substitute_41 ?_
          refine xt_i (y := nI (bs_SB (B (4 * ((c9 + k9) % 4) + k9)))) (rfl) ?_
          refine xt_i (y := bs_fn (bs_rs B) (4 * c9 + k9)) (congrArg nI (bs_rs_at B c9 k9 (by omega)).symm) ?_
          refine xa_iast hx hb hK hP hD hS 2 0 rfl rfl (4 * c9 + k9) (by omega) (by decide) dMO_substitute_42 (fun H locs hP hD hS => ?_)
          have hP : va_P (dC, dI) vwCl [(o, .inr (6, [.int th, .ref xv, .ref xo, .ref xn, .ref xc, .ref xb, .ref xd, .ref xq, .ref xa, .ref xk, .ref xt, .ref xh, .ref xs, .ref xS, .ref xw, .ref xW, .ref xB, .ref xM, .long jf, .long js, .int jb, .long nf, .long ns, .int nb, .ref xf, .ref xg, .ref xi])), (xB, .inl (cI, 16, .inl (bs_fn B))), (xM, .inl (cI, 16, .inl (upd (bs_pt (bs_fn (bs_rs B)) mv (4 * c9 + k9)) (4 * c9 + k9) (bs_fn (bs_rs B) (4 * c9 + k9))))), (xS, .inl (cI, 256, .inl (bs_fn bs_SB)))] H := hP
          have hD : va_D A [(o, .inr (6, [.int th, .ref xv, .ref xo, .ref xn, .ref xc, .ref xb, .ref xd, .ref xq, .ref xa, .ref xk, .ref xt, .ref xh, .ref xs, .ref xS, .ref xw, .ref xW, .ref xB, .ref xM, .long jf, .long js, .int jb, .long nf, .long ns, .int nb, .ref xf, .ref xg, .ref xi])), (xB, .inl (cI, 16, .inl (bs_fn B))), (xM, .inl (cI, 16, .inl (upd (bs_pt (bs_fn (bs_rs B)) mv (4 * c9 + k9)) (4 * c9 + k9) (bs_fn (bs_rs B) (4 * c9 + k9))))), (xS, .inl (cI, 256, .inl (bs_fn bs_SB)))] := hD
          rw [bs_pt_s] at hP hD
          refine lv_iinc (k := 2) (v := nI (k9 + 1)) (lv' := [(2, .int (nI (k9 + 1))), (0, .ref o), (1, .int (nI c9))]) hx hb dMO_substitute_43 hl rfl (xi_1 _) (by decide) rfl (fun ls hl => ?_)
          refine lv_goto (tgt := 9) hx hb dMO_substitute_46 (by decide) ?_
          have hP : va_P (dC, dI) vwCl [(o, .inr (6, [.int th, .ref xv, .ref xo, .ref xn, .ref xc, .ref xb, .ref xd, .ref xq, .ref xa, .ref xk, .ref xt, .ref xh, .ref xs, .ref xS, .ref xw, .ref xW, .ref xB, .ref xM, .long jf, .long js, .int jb, .long nf, .long ns, .int nb, .ref xf, .ref xg, .ref xi])), (xB, .inl (cI, 16, .inl (bs_fn B))), (xM, .inl (cI, 16, .inl (bs_pt (bs_fn (bs_rs B)) mv (4 * c9 + (k9 + 1))))), (xS, .inl (cI, 256, .inl (bs_fn bs_SB)))] H := hP
          have hD : va_D A [(o, .inr (6, [.int th, .ref xv, .ref xo, .ref xn, .ref xc, .ref xb, .ref xd, .ref xq, .ref xa, .ref xk, .ref xt, .ref xh, .ref xs, .ref xS, .ref xw, .ref xW, .ref xB, .ref xM, .long jf, .long js, .int jb, .long nf, .long ns, .int nb, .ref xf, .ref xg, .ref xi])), (xB, .inl (cI, 16, .inl (bs_fn B))), (xM, .inl (cI, 16, .inl (bs_pt (bs_fn (bs_rs B)) mv (4 * c9 + (k9 + 1))))), (xS, .inl (cI, 256, .inl (bs_fn bs_SB)))] := hD
          have hl := lv_sub hl (l' := [(0, .ref o), (1, .int (nI c9)), (2, .int (nI (k9 + 1)))]) [1, 2, 0] rfl
          have hl : lv_has ls 3 [(0, .ref o), (1, .int (nI c9)), (2, .int (nI (k9 + 1)))] := hl
          exact ih_k9 (k9 + 1) (by omega) H _ ls hP hD hS hl
      have hP : va_P (dC, dI) vwCl [(o, .inr (6, [.int th, .ref xv, .ref xo, .ref xn, .ref xc, .ref xb, .ref xd, .ref xq, .ref xa, .ref xk, .ref xt, .ref xh, .ref xs, .ref xS, .ref xw, .ref xW, .ref xB, .ref xM, .long jf, .long js, .int jb, .long nf, .long ns, .int nb, .ref xf, .ref xg, .ref xi])), (xB, .inl (cI, 16, .inl (bs_fn B))), (xM, .inl (cI, 16, .inl (bs_pt (bs_fn (bs_rs B)) mv (4 * c9 + 0)))), (xS, .inl (cI, 256, .inl (bs_fn bs_SB)))] H := hP
      have hD : va_D A [(o, .inr (6, [.int th, .ref xv, .ref xo, .ref xn, .ref xc, .ref xb, .ref xd, .ref xq, .ref xa, .ref xk, .ref xt, .ref xh, .ref xs, .ref xS, .ref xw, .ref xW, .ref xB, .ref xM, .long jf, .long js, .int jb, .long nf, .long ns, .int nb, .ref xf, .ref xg, .ref xi])), (xB, .inl (cI, 16, .inl (bs_fn B))), (xM, .inl (cI, 16, .inl (bs_pt (bs_fn (bs_rs B)) mv (4 * c9 + 0)))), (xS, .inl (cI, 256, .inl (bs_fn bs_SB)))] := hD
      have hl := lv_sub hl (l' := [(0, .ref o), (1, .int (nI c9)), (2, .int (nI 0))]) [1, 2, 0] rfl
      have hl : lv_has ls 3 [(0, .ref o), (1, .int (nI c9)), (2, .int (nI 0))] := hl
      exact loop2 (4 - 0) 0 (by omega) H _ ls hP hD hS hl
  have hP : va_P (dC, dI) vwCl [(o, .inr (6, [.int th, .ref xv, .ref xo, .ref xn, .ref xc, .ref xb, .ref xd, .ref xq, .ref xa, .ref xk, .ref xt, .ref xh, .ref xs, .ref xS, .ref xw, .ref xW, .ref xB, .ref xM, .long jf, .long js, .int jb, .long nf, .long ns, .int nb, .ref xf, .ref xg, .ref xi])), (xB, .inl (cI, 16, .inl (bs_fn B))), (xM, .inl (cI, 16, .inl (bs_pt (bs_fn (bs_rs B)) mv (4 * 0)))), (xS, .inl (cI, 256, .inl (bs_fn bs_SB)))] H := by rw [show 4 * 0 = 0 from rfl, bs_pt_0]; exact hP
  have hD : va_D A [(o, .inr (6, [.int th, .ref xv, .ref xo, .ref xn, .ref xc, .ref xb, .ref xd, .ref xq, .ref xa, .ref xk, .ref xt, .ref xh, .ref xs, .ref xS, .ref xw, .ref xW, .ref xB, .ref xM, .long jf, .long js, .int jb, .long nf, .long ns, .int nb, .ref xf, .ref xg, .ref xi])), (xB, .inl (cI, 16, .inl (bs_fn B))), (xM, .inl (cI, 16, .inl (bs_pt (bs_fn (bs_rs B)) mv (4 * 0)))), (xS, .inl (cI, 256, .inl (bs_fn bs_SB)))] := by rw [show 4 * 0 = 0 from rfl, bs_pt_0]; exact hD
  have hP : va_P (dC, dI) vwCl [(o, .inr (6, [.int th, .ref xv, .ref xo, .ref xn, .ref xc, .ref xb, .ref xd, .ref xq, .ref xa, .ref xk, .ref xt, .ref xh, .ref xs, .ref xS, .ref xw, .ref xW, .ref xB, .ref xM, .long jf, .long js, .int jb, .long nf, .long ns, .int nb, .ref xf, .ref xg, .ref xi])), (xB, .inl (cI, 16, .inl (bs_fn B))), (xM, .inl (cI, 16, .inl (bs_pt (bs_fn (bs_rs B)) mv (4 * 0)))), (xS, .inl (cI, 256, .inl (bs_fn bs_SB)))] H := hP
  have hD : va_D A [(o, .inr (6, [.int th, .ref xv, .ref xo, .ref xn, .ref xc, .ref xb, .ref xd, .ref xq, .ref xa, .ref xk, .ref xt, .ref xh, .ref xs, .ref xS, .ref xw, .ref xW, .ref xB, .ref xM, .long jf, .long js, .int jb, .long nf, .long ns, .int nb, .ref xf, .ref xg, .ref xi])), (xB, .inl (cI, 16, .inl (bs_fn B))), (xM, .inl (cI, 16, .inl (bs_pt (bs_fn (bs_rs B)) mv (4 * 0)))), (xS, .inl (cI, 256, .inl (bs_fn bs_SB)))] := hD
  have hl := lv_sub hl (l' := [(0, .ref o), (1, .int (nI 0))]) [1, 0] rfl
  have hl : lv_has ls 3 [(0, .ref o), (1, .int (nI 0))] := hl
  exact loop (4 - 0) 0 (by omega) H _ ls hP hD hS hl
set_option maxHeartbeats 4000000 in
set_option maxRecDepth 100000 in
theorem c_MO_columns (l : Launch) (dC : Nat → ClassId) (dI : Nat → Nat → Nat) (sz : Nat) (o xv xo xn xc xb xd xq xa xk xt xh xs xS xw xW xB xM xf xg xi : Nat) (th : Int32) (jf js : Int64) (jb : Int32) (nf ns : Int64) (nb : Int32) (cI : ClassId) (B : Nat → Nat) (mv : Nat → Int32) (hB : ∀ j, B j < 256) : Met l yMO_columns wsMO_columns { frames := 0, cells := 0, slots := 0, locals := 0 } (va_Pc [.ref o] (fun U => U.heap.size = sz ∧ va_P (dC, dI) vwCl [(o, .inr (6, [.int th, .ref xv, .ref xo, .ref xn, .ref xc, .ref xb, .ref xd, .ref xq, .ref xa, .ref xk, .ref xt, .ref xh, .ref xs, .ref xS, .ref xw, .ref xW, .ref xB, .ref xM, .long jf, .long js, .int jb, .long nf, .long ns, .int nb, .ref xf, .ref xg, .ref xi])), (xB, .inl (cI, 16, .inl (bs_fn B))), (xM, .inl (cI, 16, .inl mv)), (xw, .inl (cI, 256, .inl (bs_fn bs_tX)))] U.heap ∧ va_K (dC, dI) vwCl [(cI, .int)] U ∧ va_D (fun _ => True) [(o, .inr (6, [.int th, .ref xv, .ref xo, .ref xn, .ref xc, .ref xb, .ref xd, .ref xq, .ref xa, .ref xk, .ref xt, .ref xh, .ref xs, .ref xS, .ref xw, .ref xW, .ref xB, .ref xM, .long jf, .long js, .int jb, .long nf, .long ns, .int nb, .ref xf, .ref xg, .ref xi])), (xB, .inl (cI, 16, .inl (bs_fn B))), (xM, .inl (cI, 16, .inl mv)), (xw, .inl (cI, 256, .inl (bs_fn bs_tX)))])) (va_Qv (fun (_ : Unit) => True) (fun (_ : Unit) t => va_P (dC, dI) vwCl [(o, .inr (6, [.int th, .ref xv, .ref xo, .ref xn, .ref xc, .ref xb, .ref xd, .ref xq, .ref xa, .ref xk, .ref xt, .ref xh, .ref xs, .ref xS, .ref xw, .ref xW, .ref xB, .ref xM, .long jf, .long js, .int jb, .long nf, .long ns, .int nb, .ref xf, .ref xg, .ref xi])), (xB, .inl (cI, 16, .inl (bs_fn (bs_rc B)))), (xM, .inl (cI, 16, .inl (bs_fn (bs_rc B)))), (xw, .inl (cI, 256, .inl (bs_fn bs_tX)))] t.heap ∧ va_K (dC, dI) vwCl [(cI, .int)] t ∧ va_D (va_A [(o, .inr (6, [.int th, .ref xv, .ref xo, .ref xn, .ref xc, .ref xb, .ref xd, .ref xq, .ref xa, .ref xk, .ref xt, .ref xh, .ref xs, .ref xS, .ref xw, .ref xW, .ref xB, .ref xM, .long jf, .long js, .int jb, .long nf, .long ns, .int nb, .ref xf, .ref xg, .ref xi])), (xB, .inl (cI, 16, .inl (bs_fn B))), (xM, .inl (cI, 16, .inl mv)), (xw, .inl (cI, 256, .inl (bs_fn bs_tX)))] sz) [(o, .inr (6, [.int th, .ref xv, .ref xo, .ref xn, .ref xc, .ref xb, .ref xd, .ref xq, .ref xa, .ref xk, .ref xt, .ref xh, .ref xs, .ref xS, .ref xw, .ref xW, .ref xB, .ref xM, .long jf, .long js, .int jb, .long nf, .long ns, .int nb, .ref xf, .ref xg, .ref xi])), (xB, .inl (cI, 16, .inl (bs_fn (bs_rc B)))), (xM, .inl (cI, 16, .inl (bs_fn (bs_rc B)))), (xw, .inl (cI, 256, .inl (bs_fn bs_tX)))]) (va_A [(o, .inr (6, [.int th, .ref xv, .ref xo, .ref xn, .ref xc, .ref xb, .ref xd, .ref xq, .ref xa, .ref xk, .ref xt, .ref xh, .ref xs, .ref xS, .ref xw, .ref xW, .ref xB, .ref xM, .long jf, .long js, .int jb, .long nf, .long ns, .int nb, .ref xf, .ref xg, .ref xi])), (xB, .inl (cI, 16, .inl (bs_fn B))), (xM, .inl (cI, 16, .inl mv)), (xw, .inl (cI, 256, .inl (bs_fn bs_tX)))] sz)) 0 0 (va_A [(o, .inr (6, [.int th, .ref xv, .ref xo, .ref xn, .ref xc, .ref xb, .ref xd, .ref xq, .ref xa, .ref xk, .ref xt, .ref xh, .ref xs, .ref xS, .ref xw, .ref xW, .ref xB, .ref xM, .long jf, .long js, .int jb, .long nf, .long ns, .int nb, .ref xf, .ref xg, .ref xi])), (xB, .inl (cI, 16, .inl (bs_fn B))), (xM, .inl (cI, 16, .inl mv)), (xw, .inl (cI, 256, .inl (bs_fn bs_tX)))] sz) := by
  refine Met.ofW (cc := cMO_columns) (maxL := 4) (ret := none) (by decide) rfl ?_
  intro p e s m args below meth c s₁ Bo9 hml hv
  obtain ⟨rfl, hsz, hP, hK, hD0⟩ := hv
  have hx := Bo9.exec
  have hb := Bo9.bytes
  have hr := Bo9.returns
  have hts := fun w (h : w ∈ wT) => atoms_spec (ws := wsMO_columns) Bo9.pre w (List.mem_cons_of_mem _ h)
  have hown : s.vm.findClass RMO = some m.cls := findClass_of_methodNamed Bo9.named
  have hlocks := Bo9.notSynchronized
  subst hsz
  have hD := hD0.self (sz := s.heap.size)
  generalize hAe : va_A [(o, .inr (6, [.int th, .ref xv, .ref xo, .ref xn, .ref xc, .ref xb, .ref xd, .ref xq, .ref xa, .ref xk, .ref xt, .ref xh, .ref xs, .ref xS, .ref xw, .ref xW, .ref xB, .ref xM, .long jf, .long js, .int jb, .long nf, .long ns, .int nb, .ref xf, .ref xg, .ref xi])), (xB, .inl (cI, 16, .inl (bs_fn B))), (xM, .inl (cI, 16, .inl mv)), (xw, .inl (cI, 256, .inl (bs_fn bs_tX)))] s.heap.size = A at hD ⊢
  have hA : ∀ q : Nat, s.heap.size ≤ q → A q := fun q h => by rw [← hAe]; exact Or.inr h
  have hl := lv_entry ([.ref o]) (n := 4) (Nat.le_of_ble_eq_true rfl)
  rw [lg_entry_eq]
  generalize (lg_sl ([.ref o]) ++ List.replicate (4 - (lg_sl ([.ref o])).length) Slot.unset).toArray = ls at hl ⊢
  have hl : lv_has ls 4 [(0, .ref o)] := hl
  refine xs_q (fun H Q hH hQ => ?_)
  have hS : va_S A s.heap H [] := by rw [hH]; exact va_S.rf
  have hP : va_P (dC, dI) vwCl [(o, .inr (6, [.int th, .ref xv, .ref xo, .ref xn, .ref xc, .ref xb, .ref xd, .ref xq, .ref xa, .ref xk, .ref xt, .ref xh, .ref xs, .ref xS, .ref xw, .ref xW, .ref xB, .ref xM, .long jf, .long js, .int jb, .long nf, .long ns, .int nb, .ref xf, .ref xg, .ref xi])), (xB, .inl (cI, 16, .inl (bs_fn B))), (xM, .inl (cI, 16, .inl mv)), (xw, .inl (cI, 256, .inl (bs_fn bs_tX)))] H := by rw [hH]; exact hP
  refine lv_iconst (v := nI 0) hx hb dMO_columns_0 (by decide) ?_
  refine lv_istore_n (lv' := [(1, .int (nI 0)), (0, .ref o)]) hx hb dMO_columns_1 rfl hl (by decide) rfl (fun ls hl => ?_)
  have loop : ∀ (n i : Nat), i + n = 16 → ∀ (H : Heap) (locs : List Loc) (ls : Array Slot), va_P (dC, dI) vwCl [(o, .inr (6, [.int th, .ref xv, .ref xo, .ref xn, .ref xc, .ref xb, .ref xd, .ref xq, .ref xa, .ref xk, .ref xt, .ref xh, .ref xs, .ref xS, .ref xw, .ref xW, .ref xB, .ref xM, .long jf, .long js, .int jb, .long nf, .long ns, .int nb, .ref xf, .ref xg, .ref xi])), (xB, .inl (cI, 16, .inl (bs_fn B))), (xM, .inl (cI, 16, .inl (bs_pt (bs_fn (bs_rc B)) mv i))), (xw, .inl (cI, 256, .inl (bs_fn bs_tX)))] H → va_D A [(o, .inr (6, [.int th, .ref xv, .ref xo, .ref xn, .ref xc, .ref xb, .ref xd, .ref xq, .ref xa, .ref xk, .ref xt, .ref xh, .ref xs, .ref xS, .ref xw, .ref xW, .ref xB, .ref xM, .long jf, .long js, .int jb, .long nf, .long ns, .int nb, .ref xf, .ref xg, .ref xi])), (xB, .inl (cI, 16, .inl (bs_fn B))), (xM, .inl (cI, 16, .inl (bs_pt (bs_fn (bs_rc B)) mv i))), (xw, .inl (cI, 256, .inl (bs_fn bs_tX)))] → va_S A s.heap H locs → lv_has ls 4 [(0, .ref o), (1, .int (nI i))] → W p l e (headSpec wsMO_columns { frames := 0, cells := 0, slots := 0, locals := 0 }).room s m ([.ref o] : List Value).toArray below meth c H locs 0 0 Q (F0 m 2 ls []) := by
    intro n
    induction n with
    | zero =>
      intro i hi H locs ls hP hD hS hl
      obtain rfl : i = 16 := by omega
      refine lv_iload_n hx hb dMO_columns_2 rfl (lv_at hl 1 rfl) ?_
      refine lv_bipush (v := nI 16) hx hb dMO_columns_3 (by decide) ?_
      refine lv_icmp_ge (tgt := 85) hx hb dMO_columns_5 (by decide) (fun _ => ?_) (fun h => absurd (nI_le (by omega) (by omega)) h)
      have hP := xp_i (bs_fn (bs_rc B)) hP 2 rfl (fun j hj => bs_pt_lt hj)
      have hD := xd_at hD 2 (.inl (cI, 16, .inl (bs_fn (bs_rc B)))) rfl
      have hP : va_P (dC, dI) vwCl [(o, .inr (6, [.int th, .ref xv, .ref xo, .ref xn, .ref xc, .ref xb, .ref xd, .ref xq, .ref xa, .ref xk, .ref xt, .ref xh, .ref xs, .ref xS, .ref xw, .ref xW, .ref xB, .ref xM, .long jf, .long js, .int jb, .long nf, .long ns, .int nb, .ref xf, .ref xg, .ref xi])), (xB, .inl (cI, 16, .inl (bs_fn B))), (xM, .inl (cI, 16, .inl (bs_fn (bs_rc B)))), (xw, .inl (cI, 256, .inl (bs_fn bs_tX)))] H := hP
      have hD : va_D A [(o, .inr (6, [.int th, .ref xv, .ref xo, .ref xn, .ref xc, .ref xb, .ref xd, .ref xq, .ref xa, .ref xk, .ref xt, .ref xh, .ref xs, .ref xS, .ref xw, .ref xW, .ref xB, .ref xM, .long jf, .long js, .int jb, .long nf, .long ns, .int nb, .ref xf, .ref xg, .ref xi])), (xB, .inl (cI, 16, .inl (bs_fn B))), (xM, .inl (cI, 16, .inl (bs_fn (bs_rc B)))), (xw, .inl (cI, 256, .inl (bs_fn bs_tX)))] := hD
      refine lv_iconst (v := nI 0) hx hb dMO_columns_85 (by decide) ?_
      refine lv_istore_n (lv' := [(1, .int (nI 0)), (0, .ref o)]) hx hb dMO_columns_86 rfl hl (by decide) rfl (fun ls hl => ?_)
      have loop3 : ∀ (n i : Nat), i + n = 16 → ∀ (H : Heap) (locs : List Loc) (ls : Array Slot), va_P (dC, dI) vwCl [(o, .inr (6, [.int th, .ref xv, .ref xo, .ref xn, .ref xc, .ref xb, .ref xd, .ref xq, .ref xa, .ref xk, .ref xt, .ref xh, .ref xs, .ref xS, .ref xw, .ref xW, .ref xB, .ref xM, .long jf, .long js, .int jb, .long nf, .long ns, .int nb, .ref xf, .ref xg, .ref xi])), (xB, .inl (cI, 16, .inl (bs_pt (bs_fn (bs_rc B)) (bs_fn B) i))), (xM, .inl (cI, 16, .inl (bs_fn (bs_rc B)))), (xw, .inl (cI, 256, .inl (bs_fn bs_tX)))] H → va_D A [(o, .inr (6, [.int th, .ref xv, .ref xo, .ref xn, .ref xc, .ref xb, .ref xd, .ref xq, .ref xa, .ref xk, .ref xt, .ref xh, .ref xs, .ref xS, .ref xw, .ref xW, .ref xB, .ref xM, .long jf, .long js, .int jb, .long nf, .long ns, .int nb, .ref xf, .ref xg, .ref xi])), (xB, .inl (cI, 16, .inl (bs_pt (bs_fn (bs_rc B)) (bs_fn B) i))), (xM, .inl (cI, 16, .inl (bs_fn (bs_rc B)))), (xw, .inl (cI, 256, .inl (bs_fn bs_tX)))] → va_S A s.heap H locs → lv_has ls 4 [(0, .ref o), (1, .int (nI i))] → W p l e (headSpec wsMO_columns { frames := 0, cells := 0, slots := 0, locals := 0 }).room s m ([.ref o] : List Value).toArray below meth c H locs 0 0 Q (F0 m 87 ls []) := by
        intro n
        induction n with
        | zero =>
          intro i hi H locs ls hP hD hS hl
          obtain rfl : i = 16 := by omega
          refine lv_iload_n hx hb dMO_columns_87 rfl (lv_at hl 1 rfl) ?_
          refine lv_bipush (v := nI 16) hx hb dMO_columns_88 (by decide) ?_
          refine lv_icmp_ge (tgt := 111) hx hb dMO_columns_90 (by decide) (fun _ => ?_) (fun h => absurd (nI_le (by omega) (by omega)) h)
          have hP := xp_i (bs_fn (bs_rc B)) hP 1 rfl (fun j hj => bs_pt_lt hj)
          have hD := xd_at hD 1 (.inl (cI, 16, .inl (bs_fn (bs_rc B)))) rfl
          have hP : va_P (dC, dI) vwCl [(o, .inr (6, [.int th, .ref xv, .ref xo, .ref xn, .ref xc, .ref xb, .ref xd, .ref xq, .ref xa, .ref xk, .ref xt, .ref xh, .ref xs, .ref xS, .ref xw, .ref xW, .ref xB, .ref xM, .long jf, .long js, .int jb, .long nf, .long ns, .int nb, .ref xf, .ref xg, .ref xi])), (xB, .inl (cI, 16, .inl (bs_fn (bs_rc B)))), (xM, .inl (cI, 16, .inl (bs_fn (bs_rc B)))), (xw, .inl (cI, 256, .inl (bs_fn bs_tX)))] H := hP
          have hD : va_D A [(o, .inr (6, [.int th, .ref xv, .ref xo, .ref xn, .ref xc, .ref xb, .ref xd, .ref xq, .ref xa, .ref xk, .ref xt, .ref xh, .ref xs, .ref xS, .ref xw, .ref xW, .ref xB, .ref xM, .long jf, .long js, .int jb, .long nf, .long ns, .int nb, .ref xf, .ref xg, .ref xi])), (xB, .inl (cI, 16, .inl (bs_fn (bs_rc B)))), (xM, .inl (cI, 16, .inl (bs_fn (bs_rc B)))), (xw, .inl (cI, 256, .inl (bs_fn bs_tX)))] := hD
          have hP : va_P (dC, dI) vwCl [(o, .inr (6, [.int th, .ref xv, .ref xo, .ref xn, .ref xc, .ref xb, .ref xd, .ref xq, .ref xa, .ref xk, .ref xt, .ref xh, .ref xs, .ref xS, .ref xw, .ref xW, .ref xB, .ref xM, .long jf, .long js, .int jb, .long nf, .long ns, .int nb, .ref xf, .ref xg, .ref xi])), (xB, .inl (cI, 16, .inl (bs_fn (bs_rc B)))), (xM, .inl (cI, 16, .inl (bs_fn (bs_rc B)))), (xw, .inl (cI, 256, .inl (bs_fn bs_tX)))] H := hP
          have hD : va_D A [(o, .inr (6, [.int th, .ref xv, .ref xo, .ref xn, .ref xc, .ref xb, .ref xd, .ref xq, .ref xa, .ref xk, .ref xt, .ref xh, .ref xs, .ref xS, .ref xw, .ref xW, .ref xB, .ref xM, .long jf, .long js, .int jb, .long nf, .long ns, .int nb, .ref xf, .ref xg, .ref xi])), (xB, .inl (cI, 16, .inl (bs_fn (bs_rc B)))), (xM, .inl (cI, 16, .inl (bs_fn (bs_rc B)))), (xw, .inl (cI, 256, .inl (bs_fn bs_tX)))] := hD
          subst hQ
          exact W.vret hx hb hr (fun t ht hW => ⟨⟨(), rfl, trivial, by rw [ht]; exact hP, va_K.moved hW.alike hK, hD⟩, hS.F ht⟩) hS.2.2 dMO_columns_111
        | succ n ih =>
          intro i hi H locs ls hP hD hS hl
          refine lv_iload_n hx hb dMO_columns_87 rfl (lv_at hl 1 rfl) ?_
          refine lv_bipush (v := nI 16) hx hb dMO_columns_88 (by decide) ?_
          refine lv_icmp_ge (tgt := 111) hx hb dMO_columns_90 (by decide) (fun h => absurd h (nI_ge (by omega) (by omega))) (fun _ => ?_)
          refine lv_aload_n hx hb dMO_columns_93 rfl (lv_at hl 0 rfl) ?_
          refine va_get (D := (dC, dI)) (ci := 6) (v := .ref xB) (C := RMO) (T := TMO) (N := 27) hx hb hts in_MO hown hK hP 0 rfl rfl 16 (by decide) (hts _ w_f_MO_57) (fun _ h9 => h9) rfl dMO_columns_94 ?_
          refine lv_iload_n hx hb dMO_columns_97 rfl (lv_at hl 1 rfl) ?_
          refine lv_aload_n hx hb dMO_columns_98 rfl (lv_at hl 0 rfl) ?_
          refine va_get (D := (dC, dI)) (ci := 6) (v := .ref xM) (C := RMO) (T := TMO) (N := 27) hx hb hts in_MO hown hK hP 0 rfl rfl 17 (by decide) (hts _ w_f_MO_60) (fun _ h9 => h9) rfl dMO_columns_99 ?_
          refine lv_iload_n hx hb dMO_columns_102 rfl (lv_at hl 1 rfl) ?_
          refine xa_iald hx hb hK hP 2 0 rfl rfl i (by omega) (by decide) dMO_columns_103 ?_
          refine xt_i (y := nI ((bs_rc B) i)) (rfl) ?_
          refine xt_i (y := bs_fn (bs_rc B) i) (rfl) ?_
          refine xa_iast hx hb hK hP hD hS 1 0 rfl rfl i (by omega) (by decide) dMO_columns_104 (fun H locs hP hD hS => ?_)
          have hP : va_P (dC, dI) vwCl [(o, .inr (6, [.int th, .ref xv, .ref xo, .ref xn, .ref xc, .ref xb, .ref xd, .ref xq, .ref xa, .ref xk, .ref xt, .ref xh, .ref xs, .ref xS, .ref xw, .ref xW, .ref xB, .ref xM, .long jf, .long js, .int jb, .long nf, .long ns, .int nb, .ref xf, .ref xg, .ref xi])), (xB, .inl (cI, 16, .inl (upd (bs_pt (bs_fn (bs_rc B)) (bs_fn B) i) i (bs_fn (bs_rc B) i)))), (xM, .inl (cI, 16, .inl (bs_fn (bs_rc B)))), (xw, .inl (cI, 256, .inl (bs_fn bs_tX)))] H := hP
          have hD : va_D A [(o, .inr (6, [.int th, .ref xv, .ref xo, .ref xn, .ref xc, .ref xb, .ref xd, .ref xq, .ref xa, .ref xk, .ref xt, .ref xh, .ref xs, .ref xS, .ref xw, .ref xW, .ref xB, .ref xM, .long jf, .long js, .int jb, .long nf, .long ns, .int nb, .ref xf, .ref xg, .ref xi])), (xB, .inl (cI, 16, .inl (upd (bs_pt (bs_fn (bs_rc B)) (bs_fn B) i) i (bs_fn (bs_rc B) i)))), (xM, .inl (cI, 16, .inl (bs_fn (bs_rc B)))), (xw, .inl (cI, 256, .inl (bs_fn bs_tX)))] := hD
          rw [bs_pt_s] at hP hD
          refine lv_iinc (k := 1) (v := nI (i + 1)) (lv' := [(1, .int (nI (i + 1))), (0, .ref o)]) hx hb dMO_columns_105 hl rfl (xi_1 _) (by decide) rfl (fun ls hl => ?_)
          refine lv_goto (tgt := 87) hx hb dMO_columns_108 (by decide) ?_
          have hP : va_P (dC, dI) vwCl [(o, .inr (6, [.int th, .ref xv, .ref xo, .ref xn, .ref xc, .ref xb, .ref xd, .ref xq, .ref xa, .ref xk, .ref xt, .ref xh, .ref xs, .ref xS, .ref xw, .ref xW, .ref xB, .ref xM, .long jf, .long js, .int jb, .long nf, .long ns, .int nb, .ref xf, .ref xg, .ref xi])), (xB, .inl (cI, 16, .inl (bs_pt (bs_fn (bs_rc B)) (bs_fn B) (i + 1)))), (xM, .inl (cI, 16, .inl (bs_fn (bs_rc B)))), (xw, .inl (cI, 256, .inl (bs_fn bs_tX)))] H := hP
          have hD : va_D A [(o, .inr (6, [.int th, .ref xv, .ref xo, .ref xn, .ref xc, .ref xb, .ref xd, .ref xq, .ref xa, .ref xk, .ref xt, .ref xh, .ref xs, .ref xS, .ref xw, .ref xW, .ref xB, .ref xM, .long jf, .long js, .int jb, .long nf, .long ns, .int nb, .ref xf, .ref xg, .ref xi])), (xB, .inl (cI, 16, .inl (bs_pt (bs_fn (bs_rc B)) (bs_fn B) (i + 1)))), (xM, .inl (cI, 16, .inl (bs_fn (bs_rc B)))), (xw, .inl (cI, 256, .inl (bs_fn bs_tX)))] := hD
          have hl := lv_sub hl (l' := [(0, .ref o), (1, .int (nI (i + 1)))]) [1, 0] rfl
          have hl : lv_has ls 4 [(0, .ref o), (1, .int (nI (i + 1)))] := hl
          exact ih (i + 1) (by omega) H _ ls hP hD hS hl
      have hP : va_P (dC, dI) vwCl [(o, .inr (6, [.int th, .ref xv, .ref xo, .ref xn, .ref xc, .ref xb, .ref xd, .ref xq, .ref xa, .ref xk, .ref xt, .ref xh, .ref xs, .ref xS, .ref xw, .ref xW, .ref xB, .ref xM, .long jf, .long js, .int jb, .long nf, .long ns, .int nb, .ref xf, .ref xg, .ref xi])), (xB, .inl (cI, 16, .inl (bs_pt (bs_fn (bs_rc B)) (bs_fn B) 0))), (xM, .inl (cI, 16, .inl (bs_fn (bs_rc B)))), (xw, .inl (cI, 256, .inl (bs_fn bs_tX)))] H := by rw [bs_pt_0]; exact hP
      have hD : va_D A [(o, .inr (6, [.int th, .ref xv, .ref xo, .ref xn, .ref xc, .ref xb, .ref xd, .ref xq, .ref xa, .ref xk, .ref xt, .ref xh, .ref xs, .ref xS, .ref xw, .ref xW, .ref xB, .ref xM, .long jf, .long js, .int jb, .long nf, .long ns, .int nb, .ref xf, .ref xg, .ref xi])), (xB, .inl (cI, 16, .inl (bs_pt (bs_fn (bs_rc B)) (bs_fn B) 0))), (xM, .inl (cI, 16, .inl (bs_fn (bs_rc B)))), (xw, .inl (cI, 256, .inl (bs_fn bs_tX)))] := by rw [bs_pt_0]; exact hD
      have hP : va_P (dC, dI) vwCl [(o, .inr (6, [.int th, .ref xv, .ref xo, .ref xn, .ref xc, .ref xb, .ref xd, .ref xq, .ref xa, .ref xk, .ref xt, .ref xh, .ref xs, .ref xS, .ref xw, .ref xW, .ref xB, .ref xM, .long jf, .long js, .int jb, .long nf, .long ns, .int nb, .ref xf, .ref xg, .ref xi])), (xB, .inl (cI, 16, .inl (bs_pt (bs_fn (bs_rc B)) (bs_fn B) 0))), (xM, .inl (cI, 16, .inl (bs_fn (bs_rc B)))), (xw, .inl (cI, 256, .inl (bs_fn bs_tX)))] H := hP
      have hD : va_D A [(o, .inr (6, [.int th, .ref xv, .ref xo, .ref xn, .ref xc, .ref xb, .ref xd, .ref xq, .ref xa, .ref xk, .ref xt, .ref xh, .ref xs, .ref xS, .ref xw, .ref xW, .ref xB, .ref xM, .long jf, .long js, .int jb, .long nf, .long ns, .int nb, .ref xf, .ref xg, .ref xi])), (xB, .inl (cI, 16, .inl (bs_pt (bs_fn (bs_rc B)) (bs_fn B) 0))), (xM, .inl (cI, 16, .inl (bs_fn (bs_rc B)))), (xw, .inl (cI, 256, .inl (bs_fn bs_tX)))] := hD
      have hl := lv_sub hl (l' := [(0, .ref o), (1, .int (nI 0))]) [1, 0] rfl
      have hl : lv_has ls 4 [(0, .ref o), (1, .int (nI 0))] := hl
      exact loop3 (16 - 0) 0 (by omega) H _ ls hP hD hS hl
    | succ n ih =>
      intro i hi H locs ls hP hD hS hl
      refine lv_iload_n hx hb dMO_columns_2 rfl (lv_at hl 1 rfl) ?_
      refine lv_bipush (v := nI 16) hx hb dMO_columns_3 (by decide) ?_
      refine lv_icmp_ge (tgt := 85) hx hb dMO_columns_5 (by decide) (fun h => absurd h (nI_ge (by omega) (by omega))) (fun _ => ?_)
      refine lv_iload_n hx hb dMO_columns_8 rfl (lv_at hl 1 rfl) ?_
      refine lv_iconst (v := nI 4) hx hb dMO_columns_9 (by decide) ?_
      refine lv_idiv hx hb dMO_columns_10 (by decide) ?_
      refine xt_i (y := nI (i / 4)) (pk_div (by omega) (by omega) (by decide)) ?_
      refine lv_iconst (v := nI 4) hx hb dMO_columns_11 (by decide) ?_
      refine lv_imul hx hb dMO_columns_12 ?_
      refine xt_i (y := nI ((i / 4) * 4)) (pk_mul _ _) ?_
      refine lv_istore_n (lv' := [(2, .int (nI ((i / 4) * 4))), (0, .ref o), (1, .int (nI i))]) hx hb dMO_columns_13 rfl hl (by decide) rfl (fun ls hl => ?_)
      refine lv_aload_n hx hb dMO_columns_14 rfl (lv_at hl 1 rfl) ?_
      refine va_get (D := (dC, dI)) (ci := 6) (v := .ref xB) (C := RMO) (T := TMO) (N := 27) hx hb hts in_MO hown hK hP 0 rfl rfl 16 (by decide) (hts _ w_f_MO_57) (fun _ h9 => h9) rfl dMO_columns_15 ?_
      refine lv_iload_n hx hb dMO_columns_18 rfl (lv_at hl 0 rfl) ?_
      refine lv_iload_n hx hb dMO_columns_19 rfl (lv_at hl 2 rfl) ?_
      refine lv_iconst (v := nI 1) hx hb dMO_columns_20 (by decide) ?_
      refine lv_iadd hx hb dMO_columns_21 ?_
      refine xt_i (y := nI (i + 1)) (nI_add _ _) ?_
      refine lv_iconst (v := nI 4) hx hb dMO_columns_22 (by decide) ?_
      refine lv_irem hx hb dMO_columns_23 (by decide) ?_
      refine xt_i (y := nI ((i + 1) % 4)) (pk_rem (by omega) (by omega) (by decide)) ?_
      refine lv_iadd hx hb dMO_columns_24 ?_
      refine xt_i (y := nI ((i / 4) * 4 + (i + 1) % 4)) (nI_add _ _) ?_
      refine xa_iald hx hb hK hP 1 0 rfl rfl ((i / 4) * 4 + (i + 1) % 4) (by omega) (by decide) dMO_columns_25 ?_
      refine xt_i (y := nI (B ((i / 4) * 4 + (i + 1) % 4))) (rfl) ?_
      refine lv_istore_n (lv' := [(3, .int (nI (B ((i / 4) * 4 + (i + 1) % 4)))), (2, .int (nI ((i / 4) * 4))), (0, .ref o), (1, .int (nI i))]) hx hb dMO_columns_26 rfl hl (by decide) rfl (fun ls hl => ?_)
      refine lv_aload_n hx hb dMO_columns_27 rfl (lv_at hl 2 rfl) ?_
      refine va_get (D := (dC, dI)) (ci := 6) (v := .ref xM) (C := RMO) (T := TMO) (N := 27) hx hb hts in_MO hown hK hP 0 rfl rfl 17 (by decide) (hts _ w_f_MO_60) (fun _ h9 => h9) rfl dMO_columns_28 ?_
      refine lv_iload_n hx hb dMO_columns_31 rfl (lv_at hl 3 rfl) ?_
      refine lv_aload_n hx hb dMO_columns_32 rfl (lv_at hl 2 rfl) ?_
      refine va_get (D := (dC, dI)) (ci := 6) (v := .ref xw) (C := RMO) (T := TMO) (N := 27) hx hb hts in_MO hown hK hP 0 rfl rfl 14 (by decide) (hts _ w_f_MO_51) (fun _ h9 => h9) rfl dMO_columns_33 ?_
      refine lv_aload_n hx hb dMO_columns_36 rfl (lv_at hl 2 rfl) ?_
      refine va_get (D := (dC, dI)) (ci := 6) (v := .ref xB) (C := RMO) (T := TMO) (N := 27) hx hb hts in_MO hown hK hP 0 rfl rfl 16 (by decide) (hts _ w_f_MO_57) (fun _ h9 => h9) rfl dMO_columns_37 ?_
      refine lv_iload_n hx hb dMO_columns_40 rfl (lv_at hl 3 rfl) ?_
      refine xa_iald hx hb hK hP 1 0 rfl rfl i (by omega) (by decide) dMO_columns_41 ?_
      refine xt_i (y := nI (B i)) (rfl) ?_
      refine xa_iald hx hb hK hP 3 0 rfl rfl (B i) (hB _) (by decide) dMO_columns_42 ?_
      refine xt_i (y := nI (bs_tX (B i))) (rfl) ?_
      refine lv_aload_n hx hb dMO_columns_43 rfl (lv_at hl 2 rfl) ?_
      refine va_get (D := (dC, dI)) (ci := 6) (v := .ref xw) (C := RMO) (T := TMO) (N := 27) hx hb hts in_MO hown hK hP 0 rfl rfl 14 (by decide) (hts _ w_f_MO_51) (fun _ h9 => h9) rfl dMO_columns_44 ?_
      refine lv_iload_n hx hb dMO_columns_47 rfl (lv_at hl 0 rfl) ?_
      refine xa_iald hx hb hK hP 3 0 rfl rfl (B ((i / 4) * 4 + (i + 1) % 4)) (hB _) (by decide) dMO_columns_48 ?_
      refine xt_i (y := nI (bs_tX (B ((i / 4) * 4 + (i + 1) % 4)))) (rfl) ?_
      refine lv_ixor hx hb dMO_columns_49 ?_
      refine xt_i (y := nI ((bs_tX (B i)) ^^^ (bs_tX (B ((i / 4) * 4 + (i + 1) % 4))))) (bs_nI_xor _ _) ?_
      refine lv_iload_n hx hb dMO_columns_50 rfl (lv_at hl 0 rfl) ?_
      refine lv_ixor hx hb dMO_columns_51 ?_
      refine xt_i (y := nI (((bs_tX (B i)) ^^^ (bs_tX (B ((i / 4) * 4 + (i + 1) % 4)))) ^^^ (B ((i / 4) * 4 + (i + 1) % 4)))) (bs_nI_xor _ _) ?_
      refine lv_aload_n hx hb dMO_columns_52 rfl (lv_at hl 2 rfl) ?_
      refine va_get (D := (dC, dI)) (ci := 6) (v := .ref xB) (C := RMO) (T := TMO) (N := 27) hx hb hts in_MO hown hK hP 0 rfl rfl 16 (by decide) (hts _ w_f_MO_57) (fun _ h9 => h9) rfl dMO_columns_53 ?_
      refine lv_iload_n hx hb dMO_columns_56 rfl (lv_at hl 1 rfl) ?_
      refine lv_iload_n hx hb dMO_columns_57 rfl (lv_at hl 3 rfl) ?_
      refine lv_iconst (v := nI 2) hx hb dMO_columns_58 (by decide) ?_
      refine lv_iadd hx hb dMO_columns_59 ?_
      refine xt_i (y := nI (i + 2)) (nI_add _ _) ?_
      refine lv_iconst (v := nI 4) hx hb dMO_columns_60 (by decide) ?_
      refine lv_irem hx hb dMO_columns_61 (by decide) ?_
      refine xt_i (y := nI ((i + 2) % 4)) (pk_rem (by omega) (by omega) (by decide)) ?_
      refine lv_iadd hx hb dMO_columns_62 ?_
      refine xt_i (y := nI ((i / 4) * 4 + (i + 2) % 4)) (nI_add _ _) ?_
      refine xa_iald hx hb hK hP 1 0 rfl rfl ((i / 4) * 4 + (i + 2) % 4) (by omega) (by decide) dMO_columns_63 ?_
      refine xt_i (y := nI (B ((i / 4) * 4 + (i + 2) % 4))) (rfl) ?_
      refine lv_ixor hx hb dMO_columns_64 ?_
      refine xt_i (y := nI ((((bs_tX (B i)) ^^^ (bs_tX (B ((i / 4) * 4 + (i + 1) % 4)))) ^^^ (B ((i / 4) * 4 + (i + 1) % 4))) ^^^ (B ((i / 4) * 4 + (i + 2) % 4)))) (bs_nI_xor _ _) ?_
      refine lv_aload_n hx hb dMO_columns_65 rfl (lv_at hl 2 rfl) ?_
      refine va_get (D := (dC, dI)) (ci := 6) (v := .ref xB) (C := RMO) (T := TMO) (N := 27) hx hb hts in_MO hown hK hP 0 rfl rfl 16 (by decide) (hts _ w_f_MO_57) (fun _ h9 => h9) rfl dMO_columns_66 ?_
      refine lv_iload_n hx hb dMO_columns_69 rfl (lv_at hl 1 rfl) ?_
      refine lv_iload_n hx hb dMO_columns_70 rfl (lv_at hl 3 rfl) ?_
      refine lv_iconst (v := nI 3) hx hb dMO_columns_71 (by decide) ?_
      refine lv_iadd hx hb dMO_columns_72 ?_
      refine xt_i (y := nI (i + 3)) (nI_add _ _) ?_
      refine lv_iconst (v := nI 4) hx hb dMO_columns_73 (by decide) ?_
      refine lv_irem hx hb dMO_columns_74 (by decide) ?_
      refine xt_i (y := nI ((i + 3) % 4)) (pk_rem (by omega) (by omega) (by decide)) ?_
      refine lv_iadd hx hb dMO_columns_75 ?_
      refine xt_i (y := nI ((i / 4) * 4 + (i + 3) % 4)) (nI_add _ _) ?_
      refine xa_iald hx hb hK hP 1 0 rfl rfl ((i / 4) * 4 + (i + 3) % 4) (by omega) (by decide) dMO_columns_76 ?_
      refine xt_i (y := nI (B ((i / 4) * 4 + (i + 3) % 4))) (rfl) ?_
      refine lv_ixor hx hb dMO_columns_77 ?_
      refine xt_i (y := nI (((((bs_tX (B i)) ^^^ (bs_tX (B ((i / 4) * 4 + (i + 1) % 4)))) ^^^ (B ((i / 4) * 4 + (i + 1) % 4))) ^^^ (B ((i / 4) * 4 + (i + 2) % 4))) ^^^ (B ((i / 4) * 4 + (i + 3) % 4)))) (bs_nI_xor _ _) ?_
      refine xt_i (y := bs_fn (bs_rc B) i) (rfl) ?_
      refine xa_iast hx hb hK hP hD hS 2 0 rfl rfl i (by omega) (by decide) dMO_columns_78 (fun H locs hP hD hS => ?_)
      have hP : va_P (dC, dI) vwCl [(o, .inr (6, [.int th, .ref xv, .ref xo, .ref xn, .ref xc, .ref xb, .ref xd, .ref xq, .ref xa, .ref xk, .ref xt, .ref xh, .ref xs, .ref xS, .ref xw, .ref xW, .ref xB, .ref xM, .long jf, .long js, .int jb, .long nf, .long ns, .int nb, .ref xf, .ref xg, .ref xi])), (xB, .inl (cI, 16, .inl (bs_fn B))), (xM, .inl (cI, 16, .inl (upd (bs_pt (bs_fn (bs_rc B)) mv i) i (bs_fn (bs_rc B) i)))), (xw, .inl (cI, 256, .inl (bs_fn bs_tX)))] H := hP
      have hD : va_D A [(o, .inr (6, [.int th, .ref xv, .ref xo, .ref xn, .ref xc, .ref xb, .ref xd, .ref xq, .ref xa, .ref xk, .ref xt, .ref xh, .ref xs, .ref xS, .ref xw, .ref xW, .ref xB, .ref xM, .long jf, .long js, .int jb, .long nf, .long ns, .int nb, .ref xf, .ref xg, .ref xi])), (xB, .inl (cI, 16, .inl (bs_fn B))), (xM, .inl (cI, 16, .inl (upd (bs_pt (bs_fn (bs_rc B)) mv i) i (bs_fn (bs_rc B) i)))), (xw, .inl (cI, 256, .inl (bs_fn bs_tX)))] := hD
      rw [bs_pt_s] at hP hD
      refine lv_iinc (k := 3) (v := nI (i + 1)) (lv' := [(1, .int (nI (i + 1))), (3, .int (nI (B ((i / 4) * 4 + (i + 1) % 4)))), (2, .int (nI ((i / 4) * 4))), (0, .ref o)]) hx hb dMO_columns_79 hl rfl (xi_1 _) (by decide) rfl (fun ls hl => ?_)
      refine lv_goto (tgt := 2) hx hb dMO_columns_82 (by decide) ?_
      have hP : va_P (dC, dI) vwCl [(o, .inr (6, [.int th, .ref xv, .ref xo, .ref xn, .ref xc, .ref xb, .ref xd, .ref xq, .ref xa, .ref xk, .ref xt, .ref xh, .ref xs, .ref xS, .ref xw, .ref xW, .ref xB, .ref xM, .long jf, .long js, .int jb, .long nf, .long ns, .int nb, .ref xf, .ref xg, .ref xi])), (xB, .inl (cI, 16, .inl (bs_fn B))), (xM, .inl (cI, 16, .inl (bs_pt (bs_fn (bs_rc B)) mv (i + 1)))), (xw, .inl (cI, 256, .inl (bs_fn bs_tX)))] H := hP
      have hD : va_D A [(o, .inr (6, [.int th, .ref xv, .ref xo, .ref xn, .ref xc, .ref xb, .ref xd, .ref xq, .ref xa, .ref xk, .ref xt, .ref xh, .ref xs, .ref xS, .ref xw, .ref xW, .ref xB, .ref xM, .long jf, .long js, .int jb, .long nf, .long ns, .int nb, .ref xf, .ref xg, .ref xi])), (xB, .inl (cI, 16, .inl (bs_fn B))), (xM, .inl (cI, 16, .inl (bs_pt (bs_fn (bs_rc B)) mv (i + 1)))), (xw, .inl (cI, 256, .inl (bs_fn bs_tX)))] := hD
      have hl := lv_sub hl (l' := [(0, .ref o), (1, .int (nI (i + 1)))]) [3, 0] rfl
      have hl : lv_has ls 4 [(0, .ref o), (1, .int (nI (i + 1)))] := hl
      exact ih (i + 1) (by omega) H _ ls hP hD hS hl
  have hP : va_P (dC, dI) vwCl [(o, .inr (6, [.int th, .ref xv, .ref xo, .ref xn, .ref xc, .ref xb, .ref xd, .ref xq, .ref xa, .ref xk, .ref xt, .ref xh, .ref xs, .ref xS, .ref xw, .ref xW, .ref xB, .ref xM, .long jf, .long js, .int jb, .long nf, .long ns, .int nb, .ref xf, .ref xg, .ref xi])), (xB, .inl (cI, 16, .inl (bs_fn B))), (xM, .inl (cI, 16, .inl (bs_pt (bs_fn (bs_rc B)) mv 0))), (xw, .inl (cI, 256, .inl (bs_fn bs_tX)))] H := by rw [bs_pt_0]; exact hP
  have hD : va_D A [(o, .inr (6, [.int th, .ref xv, .ref xo, .ref xn, .ref xc, .ref xb, .ref xd, .ref xq, .ref xa, .ref xk, .ref xt, .ref xh, .ref xs, .ref xS, .ref xw, .ref xW, .ref xB, .ref xM, .long jf, .long js, .int jb, .long nf, .long ns, .int nb, .ref xf, .ref xg, .ref xi])), (xB, .inl (cI, 16, .inl (bs_fn B))), (xM, .inl (cI, 16, .inl (bs_pt (bs_fn (bs_rc B)) mv 0))), (xw, .inl (cI, 256, .inl (bs_fn bs_tX)))] := by rw [bs_pt_0]; exact hD
  have hP : va_P (dC, dI) vwCl [(o, .inr (6, [.int th, .ref xv, .ref xo, .ref xn, .ref xc, .ref xb, .ref xd, .ref xq, .ref xa, .ref xk, .ref xt, .ref xh, .ref xs, .ref xS, .ref xw, .ref xW, .ref xB, .ref xM, .long jf, .long js, .int jb, .long nf, .long ns, .int nb, .ref xf, .ref xg, .ref xi])), (xB, .inl (cI, 16, .inl (bs_fn B))), (xM, .inl (cI, 16, .inl (bs_pt (bs_fn (bs_rc B)) mv 0))), (xw, .inl (cI, 256, .inl (bs_fn bs_tX)))] H := hP
  have hD : va_D A [(o, .inr (6, [.int th, .ref xv, .ref xo, .ref xn, .ref xc, .ref xb, .ref xd, .ref xq, .ref xa, .ref xk, .ref xt, .ref xh, .ref xs, .ref xS, .ref xw, .ref xW, .ref xB, .ref xM, .long jf, .long js, .int jb, .long nf, .long ns, .int nb, .ref xf, .ref xg, .ref xi])), (xB, .inl (cI, 16, .inl (bs_fn B))), (xM, .inl (cI, 16, .inl (bs_pt (bs_fn (bs_rc B)) mv 0))), (xw, .inl (cI, 256, .inl (bs_fn bs_tX)))] := hD
  have hl := lv_sub hl (l' := [(0, .ref o), (1, .int (nI 0))]) [1, 0] rfl
  have hl : lv_has ls 4 [(0, .ref o), (1, .int (nI 0))] := hl
  exact loop (16 - 0) 0 (by omega) H _ ls hP hD hS hl
