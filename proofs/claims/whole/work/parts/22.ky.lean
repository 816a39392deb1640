/-! Arrays.fill, Key: bytes -/
set_option maxHeartbeats 4000000 in
set_option maxRecDepth 100000 in
theorem c_JA_fill (l : Launch) (dC : Nat → ClassId) (dI : Nat → Nat → Nat) (sz : Nat) (a : Nat) (cI : ClassId) (N0 : Nat) (f : Nat → Int32) (v : Int32) (hlen : N0 < 2 ^ 31) : Met l yJA_fill wsJA_fill { frames := 0, cells := 0, slots := 0, locals := 0 } (va_Pc [.ref a, .int v] (fun U => U.heap.size = sz ∧ va_P (dC, dI) vwCl [(a, .inl (cI, N0, .inl f))] U.heap ∧ va_K (dC, dI) vwCl [(cI, .int)] U ∧ va_D (fun _ => True) [(a, .inl (cI, N0, .inl f))])) (va_Qv (fun (_ : Unit) => True) (fun (_ : Unit) t => va_P (dC, dI) vwCl [(a, .inl (cI, N0, .inl (bs_fill f v N0)))] t.heap ∧ va_K (dC, dI) vwCl [(cI, .int)] t ∧ va_D (va_A [(a, .inl (cI, N0, .inl f))] sz) [(a, .inl (cI, N0, .inl (bs_fill f v N0)))]) (va_A [(a, .inl (cI, N0, .inl f))] sz)) 0 0 (va_A [(a, .inl (cI, N0, .inl f))] sz) := by
  refine Met.ofW (cc := cJA_fill) (maxL := 4) (ret := none) (by decide) rfl ?_
  intro p e s m args below meth c s₁ B hml hv
  obtain ⟨rfl, hsz, hP, hK, hD0⟩ := hv
  have hx := B.exec
  have hb := B.bytes
  have hr := B.returns
  have hts := fun w (h : w ∈ wT) => atoms_spec (ws := wsJA_fill) B.pre w (List.mem_cons_of_mem _ h)
  have hown : s.vm.findClass RJA = some m.cls := findClass_of_methodNamed B.named
  have hlocks := B.notSynchronized
  subst hsz
  have hD := hD0.self (sz := s.heap.size)
  generalize hAe : va_A [(a, .inl (cI, N0, .inl f))] s.heap.size = A at hD ⊢
  have hA : ∀ q : Nat, s.heap.size ≤ q → A q := fun q h => by rw [← hAe]; exact Or.inr h
  have hl := lv_entry ([.ref a, .int v]) (n := 4) (Nat.le_of_ble_eq_true rfl)
  rw [lg_entry_eq]
  generalize (lg_sl ([.ref a, .int v]) ++ List.replicate (4 - (lg_sl ([.ref a, .int v])).length) Slot.unset).toArray = ls at hl ⊢
  have hl : lv_has ls 4 [(0, .ref a), (1, .int v)] := hl
  refine xs_q (fun H Q hH hQ => ?_)
  have hS : va_S A s.heap H [] := by rw [hH]; exact va_S.rf
  have hP : va_P (dC, dI) vwCl [(a, .inl (cI, N0, .inl f))] H := by rw [hH]; exact hP
  refine lv_iconst (v := nI 0) hx hb dJA_fill_0 (by decide) ?_
  refine lv_istore_n (lv' := [(2, .int (nI 0)), (0, .ref a), (1, .int v)]) hx hb dJA_fill_1 rfl hl (by decide) rfl (fun ls hl => ?_)
  refine lv_aload_n hx hb dJA_fill_2 rfl (lv_at hl 1 rfl) ?_
  refine va_alen (v := nI N0) hx hb hK hP 0 0 rfl rfl rfl dJA_fill_3 ?_
  refine lv_istore_n (lv' := [(3, .int (nI N0)), (2, .int (nI 0)), (0, .ref a), (1, .int v)]) hx hb dJA_fill_4 rfl hl (by decide) rfl (fun ls hl => ?_)
  have loop : ∀ (n i : Nat), i + n = N0 → ∀ (H : Heap) (locs : List Loc) (ls : Array Slot), va_P (dC, dI) vwCl [(a, .inl (cI, N0, .inl (bs_fill f v i)))] H → va_D A [(a, .inl (cI, N0, .inl (bs_fill f v i)))] → va_S A s.heap H locs → lv_has ls 4 [(0, .ref a), (1, .int v), (2, .int (nI i)), (3, .int (nI N0))] → W p l e (headSpec wsJA_fill { frames := 0, cells := 0, slots := 0, locals := 0 }).room s m ([.ref a, .int v] : List Value).toArray below meth c H locs 0 0 Q (F0 m 5 ls []) := by
    intro n
    induction n with
    | zero =>
      intro i hi H locs ls hP hD hS hl
      have hi9 : i = N0 := by omega
      refine lv_iload_n hx hb dJA_fill_5 rfl (lv_at hl 2 rfl) ?_
      refine lv_iload_n hx hb dJA_fill_6 rfl (lv_at hl 3 rfl) ?_
      refine lv_icmp_ge (tgt := 20) hx hb dJA_fill_7 (by decide) (fun _ => ?_) (fun h => absurd (nI_le (by omega) (by omega)) h)
      rw [hi9] at hP hD
      have hP : va_P (dC, dI) vwCl [(a, .inl (cI, N0, .inl (bs_fill f v N0)))] H := hP
      have hD : va_D A [(a, .inl (cI, N0, .inl (bs_fill f v N0)))] := hD
      subst hQ
      exact W.vret hx hb hr (fun t ht hW => ⟨⟨(), rfl, trivial, by rw [ht]; exact hP, va_K.moved hW.alike hK, hD⟩, hS.F ht⟩) hS.2.2 dJA_fill_20
    | succ n ih =>
      intro i hi H locs ls hP hD hS hl
      refine lv_iload_n hx hb dJA_fill_5 rfl (lv_at hl 2 rfl) ?_
      refine lv_iload_n hx hb dJA_fill_6 rfl (lv_at hl 3 rfl) ?_
      refine lv_icmp_ge (tgt := 20) hx hb dJA_fill_7 (by decide) (fun h => absurd h (nI_ge (by omega) (by omega))) (fun _ => ?_)
      refine lv_aload_n hx hb dJA_fill_10 rfl (lv_at hl 0 rfl) ?_
      refine lv_iload_n hx hb dJA_fill_11 rfl (lv_at hl 2 rfl) ?_
      refine lv_iload_n hx hb dJA_fill_12 rfl (lv_at hl 1 rfl) ?_
      refine xa_iast hx hb hK hP hD hS 0 0 rfl rfl i (by omega) (hlen) dJA_fill_13 (fun H locs hP hD hS => ?_)
      have hP : va_P (dC, dI) vwCl [(a, .inl (cI, N0, .inl (upd (bs_fill f v i) i v)))] H := hP
      have hD : va_D A [(a, .inl (cI, N0, .inl (upd (bs_fill f v i) i v)))] := hD
      refine lv_iinc (k := 2) (v := nI (i + 1)) (lv' := [(2, .int (nI (i + 1))), (0, .ref a), (1, .int v), (3, .int (nI N0))]) hx hb dJA_fill_14 hl rfl (xi_1 _) (by decide) rfl (fun ls hl => ?_)
      refine lv_goto (tgt := 5) hx hb dJA_fill_17 (by decide) ?_
      rw [bs_fill_s] at hP hD
      have hP : va_P (dC, dI) vwCl [(a, .inl (cI, N0, .inl (bs_fill f v (i + 1))))] H := hP
      have hD : va_D A [(a, .inl (cI, N0, .inl (bs_fill f v (i + 1))))] := hD
      have hl := lv_sub hl (l' := [(0, .ref a), (1, .int v), (2, .int (nI (i + 1))), (3, .int (nI N0))]) [1, 2, 0, 3] rfl
      have hl : lv_has ls 4 [(0, .ref a), (1, .int v), (2, .int (nI (i + 1))), (3, .int (nI N0))] := hl
      exact ih (i + 1) (by omega) H _ ls hP hD hS hl
  rw [← bs_fill_0 f v] at hP hD
  have hP : va_P (dC, dI) vwCl [(a, .inl (cI, N0, .inl (bs_fill f v 0)))] H := hP
  have hD : va_D A [(a, .inl (cI, N0, .inl (bs_fill f v 0)))] := hD
  have hl := lv_sub hl (l' := [(0, .ref a), (1, .int v), (2, .int (nI 0)), (3, .int (nI N0))]) [2, 3, 1, 0] rfl
  have hl : lv_has ls 4 [(0, .ref a), (1, .int v), (2, .int (nI 0)), (3, .int (nI N0))] := hl
  exact loop (N0 - 0) 0 (by omega) H _ ls hP hD hS hl
set_option maxHeartbeats 4000000 in
set_option maxRecDepth 100000 in
theorem c_KY_readHalf (l : Launch) (dC : Nat → ClassId) (dI : Nat → Nat → Nat) (sz : Nat) (k kb kf ks kt : Nat) (num : Int32) (cI : ClassId) (fb : Nat → Int32) (a : Nat) (ha : a + 8 ≤ 160) : Met l yKY_readHalf wsKY_readHalf { frames := 0, cells := 0, slots := 0, locals := 0 } (va_Pc [.ref k, .int (nI a)] (fun U => U.heap.size = sz ∧ va_P (dC, dI) vwCl [(k, .inr (1, [.ref kb, .int num, .ref kf, .ref ks, .ref kt])), (kb, .inl (cI, 160, .inl fb))] U.heap ∧ va_K (dC, dI) vwCl [(cI, .int)] U ∧ va_D (fun _ => True) [(k, .inr (1, [.ref kb, .int num, .ref kf, .ref ks, .ref kt])), (kb, .inl (cI, 160, .inl fb))])) (va_Ql (fun (r : Int64) (_ : Unit) => r = bs_rd fb a 8) (fun (_ : Unit) t => va_P (dC, dI) vwCl [(k, .inr (1, [.ref kb, .int num, .ref kf, .ref ks, .ref kt])), (kb, .inl (cI, 160, .inl fb))] t.heap ∧ va_K (dC, dI) vwCl [(cI, .int)] t ∧ va_D (va_A [(k, .inr (1, [.ref kb, .int num, .ref kf, .ref ks, .ref kt])), (kb, .inl (cI, 160, .inl fb))] sz) [(k, .inr (1, [.ref kb, .int num, .ref kf, .ref ks, .ref kt])), (kb, .inl (cI, 160, .inl fb))]) (va_A [(k, .inr (1, [.ref kb, .int num, .ref kf, .ref ks, .ref kt])), (kb, .inl (cI, 160, .inl fb))] sz)) 0 0 (va_A [(k, .inr (1, [.ref kb, .int num, .ref kf, .ref ks, .ref kt])), (kb, .inl (cI, 160, .inl fb))] sz) := by
  refine Met.ofW (cc := cKY_readHalf) (maxL := 5) (ret := (some .long)) (by decide) rfl ?_
  intro p e s m args below meth c s₁ B hml hv
  obtain ⟨rfl, hsz, hP, hK, hD0⟩ := hv
  have hx := B.exec
  have hb := B.bytes
  have hr := B.returns
  have hts := fun w (h : w ∈ wT) => atoms_spec (ws := wsKY_readHalf) B.pre w (List.mem_cons_of_mem _ h)
  have hown : s.vm.findClass RKY = some m.cls := findClass_of_methodNamed B.named
  have hlocks := B.notSynchronized
  subst hsz
  have hD := hD0.self (sz := s.heap.size)
  generalize hAe : va_A [(k, .inr (1, [.ref kb, .int num, .ref kf, .ref ks, .ref kt])), (kb, .inl (cI, 160, .inl fb))] s.heap.size = A at hD ⊢
  have hA : ∀ q : Nat, s.heap.size ≤ q → A q := fun q h => by rw [← hAe]; exact Or.inr h
  have hl := lv_entry ([.ref k, .int (nI a)]) (n := 5) (Nat.le_of_ble_eq_true rfl)
  rw [lg_entry_eq]
  generalize (lg_sl ([.ref k, .int (nI a)]) ++ List.replicate (5 - (lg_sl ([.ref k, .int (nI a)])).length) Slot.unset).toArray = ls at hl ⊢
  have hl : lv_has ls 5 [(0, .ref k), (1, .int (nI a))] := hl
  refine xs_q (fun H Q hH hQ => ?_)
  have hS : va_S A s.heap H [] := by rw [hH]; exact va_S.rf
  have hP : va_P (dC, dI) vwCl [(k, .inr (1, [.ref kb, .int num, .ref kf, .ref ks, .ref kt])), (kb, .inl (cI, 160, .inl fb))] H := by rw [hH]; exact hP
  refine lv_lconst (v := 0) hx hb dKY_readHalf_0 (by decide) ?_
  refine lv_lstore_n (lv' := [(2, .long 0), (0, .ref k), (1, .int (nI a))]) hx hb dKY_readHalf_1 rfl hl (by decide) rfl (fun ls hl => ?_)
  refine lv_iconst (v := nI 0) hx hb dKY_readHalf_2 (by decide) ?_
  refine lv_istore (lv' := [(4, .int (nI 0)), (2, .long 0), (0, .ref k), (1, .int (nI a))]) hx hb dKY_readHalf_3 hl (by decide) rfl (fun ls hl => ?_)
  have loop : ∀ (n i : Nat), i + n = 8 → ∀ (H : Heap) (locs : List Loc) (ls : Array Slot), va_P (dC, dI) vwCl [(k, .inr (1, [.ref kb, .int num, .ref kf, .ref ks, .ref kt])), (kb, .inl (cI, 160, .inl fb))] H → va_D A [(k, .inr (1, [.ref kb, .int num, .ref kf, .ref ks, .ref kt])), (kb, .inl (cI, 160, .inl fb))] → va_S A s.heap H locs → lv_has ls 5 [(0, .ref k), (1, .int (nI a)), (2, .long (bs_rd fb a i)), (4, .int (nI i))] → W p l e (headSpec wsKY_readHalf { frames := 0, cells := 0, slots := 0, locals := 0 }).room s m ([.ref k, .int (nI a)] : List Value).toArray below meth c H locs 0 0 Q (F0 m 5 ls []) := by
    intro n
    induction n with
    | zero =>
      intro i hi H locs ls hP hD hS hl
      obtain rfl : i = 8 := by omega
      refine lv_iload hx hb dKY_readHalf_5 (lv_at hl 3 rfl) ?_
      refine lv_bipush (v := nI 8) hx hb dKY_readHalf_7 (by decide) ?_
      refine lv_icmp_ge (tgt := 34) hx hb dKY_readHalf_9 (by decide) (fun _ => ?_) (fun h => absurd (nI_le (by omega) (by omega)) h)
      refine lv_lload_n hx hb dKY_readHalf_34 rfl (lv_at hl 2 rfl) ?_
      have hP : va_P (dC, dI) vwCl [(k, .inr (1, [.ref kb, .int num, .ref kf, .ref ks, .ref kt])), (kb, .inl (cI, 160, .inl fb))] H := hP
      have hD : va_D A [(k, .inr (1, [.ref kb, .int num, .ref kf, .ref ks, .ref kt])), (kb, .inl (cI, 160, .inl fb))] := hD
      subst hQ
      exact W.lret (v := bs_rd fb a 8) hx hb hr (fun t ht hW => ⟨⟨bs_rd fb a 8, (), rfl, rfl, by rw [ht]; exact hP, va_K.moved hW.alike hK, hD⟩, hS.F ht⟩) hS.2.2 dKY_readHalf_35
    | succ n ih =>
      intro i hi H locs ls hP hD hS hl
      refine lv_iload hx hb dKY_readHalf_5 (lv_at hl 3 rfl) ?_
      refine lv_bipush (v := nI 8) hx hb dKY_readHalf_7 (by decide) ?_
      refine lv_icmp_ge (tgt := 34) hx hb dKY_readHalf_9 (by decide) (fun h => absurd h (nI_ge (by omega) (by omega))) (fun _ => ?_)
      refine lv_lload_n hx hb dKY_readHalf_12 rfl (lv_at hl 2 rfl) ?_
      refine lv_bipush (v := nI 8) hx hb dKY_readHalf_13 (by decide) ?_
      refine lv_lshl (v := j_lshl (bs_rd fb a i) (nI 8)) hx hb dKY_readHalf_15 rfl ?_
      refine lv_aload_n hx hb dKY_readHalf_16 rfl (lv_at hl 0 rfl) ?_
      refine va_get (D := (dC, dI)) (ci := 1) (v := .ref kb) (C := RKY) (T := TKY) (N := 5) hx hb hts in_KY hown hK hP 0 rfl rfl 0 (by decide) (hts _ w_f_KY_11) (fun _ h9 => h9) rfl dKY_readHalf_17 ?_
      refine lv_iload_n hx hb dKY_readHalf_20 rfl (lv_at hl 1 rfl) ?_
      refine lv_iload hx hb dKY_readHalf_21 (lv_at hl 3 rfl) ?_
      refine lv_iadd hx hb dKY_readHalf_23 ?_
      refine xt_i (y := nI (a + i)) (nI_add _ _) ?_
      refine xa_iald hx hb hK hP 1 0 rfl rfl (a + i) (by omega) (by decide) dKY_readHalf_24 ?_
      refine lv_i2l (v := (fb (a + i)).toInt64) hx hb dKY_readHalf_25 rfl ?_
      refine lv_lor hx hb dKY_readHalf_26 ?_
      refine lv_lstore_n (lv' := [(2, .long ((j_lshl (bs_rd fb a i) (nI 8)) ||| ((fb (a + i)).toInt64))), (0, .ref k), (1, .int (nI a)), (4, .int (nI i))]) hx hb dKY_readHalf_27 rfl hl (by decide) rfl (fun ls hl => ?_)
      refine lv_iinc (k := 3) (v := nI (i + 1)) (lv' := [(4, .int (nI (i + 1))), (2, .long ((j_lshl (bs_rd fb a i) (nI 8)) ||| ((fb (a + i)).toInt64))), (0, .ref k), (1, .int (nI a))]) hx hb dKY_readHalf_28 hl rfl (xi_1 _) (by decide) rfl (fun ls hl => ?_)
      refine lv_goto (tgt := 5) hx hb dKY_readHalf_31 (by decide) ?_
      have hP : va_P (dC, dI) vwCl [(k, .inr (1, [.ref kb, .int num, .ref kf, .ref ks, .ref kt])), (kb, .inl (cI, 160, .inl fb))] H := hP
      have hD : va_D A [(k, .inr (1, [.ref kb, .int num, .ref kf, .ref ks, .ref kt])), (kb, .inl (cI, 160, .inl fb))] := hD
      have hl := lv_sub hl (l' := [(0, .ref k), (1, .int (nI a)), (2, .long ((j_lshl (bs_rd fb a i) (nI 8)) ||| ((fb (a + i)).toInt64))), (4, .int (nI (i + 1)))]) [2, 3, 1, 0] rfl
      have hl : lv_has ls 5 [(0, .ref k), (1, .int (nI a)), (2, .long (bs_rd fb a (i + 1))), (4, .int (nI (i + 1)))] := hl
      exact ih (i + 1) (by omega) H _ ls hP hD hS hl
  have hP : va_P (dC, dI) vwCl [(k, .inr (1, [.ref kb, .int num, .ref kf, .ref ks, .ref kt])), (kb, .inl (cI, 160, .inl fb))] H := hP
  have hD : va_D A [(k, .inr (1, [.ref kb, .int num, .ref kf, .ref ks, .ref kt])), (kb, .inl (cI, 160, .inl fb))] := hD
  have hl := lv_sub hl (l' := [(0, .ref k), (1, .int (nI a)), (2, .long 0), (4, .int (nI 0))]) [2, 3, 1, 0] rfl
  have hl : lv_has ls 5 [(0, .ref k), (1, .int (nI a)), (2, .long (bs_rd fb a 0)), (4, .int (nI 0))] := hl
  exact loop (8 - 0) 0 (by omega) H _ ls hP hD hS hl
set_option maxHeartbeats 4000000 in
set_option maxRecDepth 100000 in
theorem c_KY_writeHalf (l : Launch) (dC : Nat → ClassId) (dI : Nat → Nat → Nat) (sz : Nat) (k kb kf ks kt : Nat) (num : Int32) (cI : ClassId) (fb : Nat → Int32) (a : Nat) (v : Int64) (ha : a + 8 ≤ 160) : Met l yKY_writeHalf wsKY_writeHalf { frames := 0, cells := 0, slots := 0, locals := 0 } (va_Pc [.ref k, .int (nI a), .long v] (fun U => U.heap.size = sz ∧ va_P (dC, dI) vwCl [(k, .inr (1, [.ref kb, .int num, .ref kf, .ref ks, .ref kt])), (kb, .inl (cI, 160, .inl fb))] U.heap ∧ va_K (dC, dI) vwCl [(cI, .int)] U ∧ va_D (fun _ => True) [(k, .inr (1, [.ref kb, .int num, .ref kf, .ref ks, .ref kt])), (kb, .inl (cI, 160, .inl fb))])) (va_Qv (fun (_ : Unit) => True) (fun (_ : Unit) t => va_P (dC, dI) vwCl [(k, .inr (1, [.ref kb, .int num, .ref kf, .ref ks, .ref kt])), (kb, .inl (cI, 160, .inl (bs_wr fb a v 8)))] t.heap ∧ va_K (dC, dI) vwCl [(cI, .int)] t ∧ va_D (va_A [(k, .inr (1, [.ref kb, .int num, .ref kf, .ref ks, .ref kt])), (kb, .inl (cI, 160, .inl fb))] sz) [(k, .inr (1, [.ref kb, .int num, .ref kf, .ref ks, .ref kt])), (kb, .inl (cI, 160, .inl (bs_wr fb a v 8)))]) (va_A [(k, .inr (1, [.ref kb, .int num, .ref kf, .ref ks, .ref kt])), (kb, .inl (cI, 160, .inl fb))] sz)) 0 0 (va_A [(k, .inr (1, [.ref kb, .int num, .ref kf, .ref ks, .ref kt])), (kb, .inl (cI, 160, .inl fb))] sz) := by
  refine Met.ofW (cc := cKY_writeHalf) (maxL := 5) (ret := none) (by decide) rfl ?_
  intro p e s m args below meth c s₁ B hml hv
  obtain ⟨rfl, hsz, hP, hK, hD0⟩ := hv
  have hx := B.exec
  have hb := B.bytes
  have hr := B.returns
  have hts := fun w (h : w ∈ wT) => atoms_spec (ws := wsKY_writeHalf) B.pre w (List.mem_cons_of_mem _ h)
  have hown : s.vm.findClass RKY = some m.cls := findClass_of_methodNamed B.named
  have hlocks := B.notSynchronized
  subst hsz
  have hD := hD0.self (sz := s.heap.size)
  generalize hAe : va_A [(k, .inr (1, [.ref kb, .int num, .ref kf, .ref ks, .ref kt])), (kb, .inl (cI, 160, .inl fb))] s.heap.size = A at hD ⊢
  have hA : ∀ q : Nat, s.heap.size ≤ q → A q := fun q h => by rw [← hAe]; exact Or.inr h
  have hl := lv_entry ([.ref k, .int (nI a), .long v]) (n := 5) (Nat.le_of_ble_eq_true rfl)
  rw [lg_entry_eq]
  generalize (lg_sl ([.ref k, .int (nI a), .long v]) ++ List.replicate (5 - (lg_sl ([.ref k, .int (nI a), .long v])).length) Slot.unset).toArray = ls at hl ⊢
  have hl : lv_has ls 5 [(0, .ref k), (1, .int (nI a)), (2, .long v)] := hl
  refine xs_q (fun H Q hH hQ => ?_)
  have hS : va_S A s.heap H [] := by rw [hH]; exact va_S.rf
  have hP : va_P (dC, dI) vwCl [(k, .inr (1, [.ref kb, .int num, .ref kf, .ref ks, .ref kt])), (kb, .inl (cI, 160, .inl fb))] H := by rw [hH]; exact hP
  refine lv_iconst (v := nI 0) hx hb dKY_writeHalf_0 (by decide) ?_
  refine lv_istore (lv' := [(4, .int (nI 0)), (0, .ref k), (1, .int (nI a)), (2, .long v)]) hx hb dKY_writeHalf_1 hl (by decide) rfl (fun ls hl => ?_)
  have loop : ∀ (n i : Nat), i + n = 8 → ∀ (H : Heap) (locs : List Loc) (ls : Array Slot), va_P (dC, dI) vwCl [(k, .inr (1, [.ref kb, .int num, .ref kf, .ref ks, .ref kt])), (kb, .inl (cI, 160, .inl (bs_wr fb a v i)))] H → va_D A [(k, .inr (1, [.ref kb, .int num, .ref kf, .ref ks, .ref kt])), (kb, .inl (cI, 160, .inl (bs_wr fb a v i)))] → va_S A s.heap H locs → lv_has ls 5 [(0, .ref k), (1, .int (nI a)), (2, .long v), (4, .int (nI i))] → W p l e (headSpec wsKY_writeHalf { frames := 0, cells := 0, slots := 0, locals := 0 }).room s m ([.ref k, .int (nI a), .long v] : List Value).toArray below meth c H locs 0 0 Q (F0 m 3 ls []) := by
    intro n
    induction n with
    | zero =>
      intro i hi H locs ls hP hD hS hl
      obtain rfl : i = 8 := by omega
      refine lv_iload hx hb dKY_writeHalf_3 (lv_at hl 3 rfl) ?_
      refine lv_bipush (v := nI 8) hx hb dKY_writeHalf_5 (by decide) ?_
      refine lv_icmp_ge (tgt := 40) hx hb dKY_writeHalf_7 (by decide) (fun _ => ?_) (fun h => absurd (nI_le (by omega) (by omega)) h)
      have hP : va_P (dC, dI) vwCl [(k, .inr (1, [.ref kb, .int num, .ref kf, .ref ks, .ref kt])), (kb, .inl (cI, 160, .inl (bs_wr fb a v 8)))] H := hP
      have hD : va_D A [(k, .inr (1, [.ref kb, .int num, .ref kf, .ref ks, .ref kt])), (kb, .inl (cI, 160, .inl (bs_wr fb a v 8)))] := hD
      subst hQ
      exact W.vret hx hb hr (fun t ht hW => ⟨⟨(), rfl, trivial, by rw [ht]; exact hP, va_K.moved hW.alike hK, hD⟩, hS.F ht⟩) hS.2.2 dKY_writeHalf_40
    | succ n ih =>
      intro i hi H locs ls hP hD hS hl
      refine lv_iload hx hb dKY_writeHalf_3 (lv_at hl 3 rfl) ?_
      refine lv_bipush (v := nI 8) hx hb dKY_writeHalf_5 (by decide) ?_
      refine lv_icmp_ge (tgt := 40) hx hb dKY_writeHalf_7 (by decide) (fun h => absurd h (nI_ge (by omega) (by omega))) (fun _ => ?_)
      refine lv_aload_n hx hb dKY_writeHalf_10 rfl (lv_at hl 0 rfl) ?_
      refine va_get (D := (dC, dI)) (ci := 1) (v := .ref kb) (C := RKY) (T := TKY) (N := 5) hx hb hts in_KY hown hK hP 0 rfl rfl 0 (by decide) (hts _ w_f_KY_11) (fun _ h9 => h9) rfl dKY_writeHalf_11 ?_
      refine lv_iload_n hx hb dKY_writeHalf_14 rfl (lv_at hl 1 rfl) ?_
      refine lv_iload hx hb dKY_writeHalf_15 (lv_at hl 3 rfl) ?_
      refine lv_iadd hx hb dKY_writeHalf_17 ?_
      refine xt_i (y := nI (a + i)) (nI_add _ _) ?_
      refine lv_lload_n hx hb dKY_writeHalf_18 rfl (lv_at hl 2 rfl) ?_
      refine lv_bipush (v := nI 56) hx hb dKY_writeHalf_19 (by decide) ?_
      refine lv_bipush (v := nI 8) hx hb dKY_writeHalf_21 (by decide) ?_
      refine lv_iload hx hb dKY_writeHalf_23 (lv_at hl 3 rfl) ?_
      refine lv_imul hx hb dKY_writeHalf_25 ?_
      refine xt_i (y := nI (8 * i)) (pk_mul _ _) ?_
      refine lv_isub hx hb dKY_writeHalf_26 ?_
      refine xt_i (y := nI (56 - (8 * i))) (pk_sub (by omega)) ?_
      refine lv_lushr (v := j_lushr v (nI (56 - (8 * i)))) hx hb dKY_writeHalf_27 rfl ?_
      refine lv_l2i (v := (j_lushr v (nI (56 - (8 * i)))).toInt32) hx hb dKY_writeHalf_28 rfl ?_
      refine lv_sipush (v := nI 255) hx hb dKY_writeHalf_29 (by decide) ?_
      refine lv_iand hx hb dKY_writeHalf_32 ?_
      refine xt_i (y := nI (bs_lb v i)) (bs_lb_c v (by omega)) ?_
      refine xa_iast hx hb hK hP hD hS 1 0 rfl rfl (a + i) (by omega) (by decide) dKY_writeHalf_33 (fun H locs hP hD hS => ?_)
      have hP : va_P (dC, dI) vwCl [(k, .inr (1, [.ref kb, .int num, .ref kf, .ref ks, .ref kt])), (kb, .inl (cI, 160, .inl (upd (bs_wr fb a v i) (a + i) (nI (bs_lb v i)))))] H := hP
      have hD : va_D A [(k, .inr (1, [.ref kb, .int num, .ref kf, .ref ks, .ref kt])), (kb, .inl (cI, 160, .inl (upd (bs_wr fb a v i) (a + i) (nI (bs_lb v i)))))] := hD
      refine lv_iinc (k := 3) (v := nI (i + 1)) (lv' := [(4, .int (nI (i + 1))), (0, .ref k), (1, .int (nI a)), (2, .long v)]) hx hb dKY_writeHalf_34 hl rfl (xi_1 _) (by decide) rfl (fun ls hl => ?_)
      refine lv_goto (tgt := 3) hx hb dKY_writeHalf_37 (by decide) ?_
      rw [bs_wr_s] at hP hD
      have hP : va_P (dC, dI) vwCl [(k, .inr (1, [.ref kb, .int num, .ref kf, .ref ks, .ref kt])), (kb, .inl (cI, 160, .inl (bs_wr fb a v (i + 1))))] H := hP
      have hD : va_D A [(k, .inr (1, [.ref kb, .int num, .ref kf, .ref ks, .ref kt])), (kb, .inl (cI, 160, .inl (bs_wr fb a v (i + 1))))] := hD
      have hl := lv_sub hl (l' := [(0, .ref k), (1, .int (nI a)), (2, .long v), (4, .int (nI (i + 1)))]) [1, 2, 3, 0] rfl
      have hl : lv_has ls 5 [(0, .ref k), (1, .int (nI a)), (2, .long v), (4, .int (nI (i + 1)))] := hl
      exact ih (i + 1) (by omega) H _ ls hP hD hS hl
  rw [← bs_wr_0 fb a v] at hP hD
  have hP : va_P (dC, dI) vwCl [(k, .inr (1, [.ref kb, .int num, .ref kf, .ref ks, .ref kt])), (kb, .inl (cI, 160, .inl (bs_wr fb a v 0)))] H := hP
  have hD : va_D A [(k, .inr (1, [.ref kb, .int num, .ref kf, .ref ks, .ref kt])), (kb, .inl (cI, 160, .inl (bs_wr fb a v 0)))] := hD
  have hl := lv_sub hl (l' := [(0, .ref k), (1, .int (nI a)), (2, .long v), (4, .int (nI 0))]) [1, 2, 3, 0] rfl
  have hl : lv_has ls 5 [(0, .ref k), (1, .int (nI a)), (2, .long v), (4, .int (nI 0))] := hl
  exact loop (8 - 0) 0 (by omega) H _ ls hP hD hS hl
set_option maxHeartbeats 4000000 in
set_option maxRecDepth 100000 in
theorem c_KY_setRoot (l : Launch) (dC : Nat → ClassId) (dI : Nat → Nat → Nat) (sz : Nat) (k kb kf ks kt : Nat) (num : Int32) (cI : ClassId) (fb : Nat → Int32) (f h : Int64)  : Met l yKY_setRoot wsKY_setRoot { frames := 1, cells := 0, slots := 0, locals := 24 } (va_Pc [.ref k, .long f, .long h] (fun U => U.heap.size = sz ∧ va_P (dC, dI) vwCl [(k, .inr (1, [.ref kb, .int num, .ref kf, .ref ks, .ref kt])), (kb, .inl (cI, 160, .inl fb))] U.heap ∧ va_K (dC, dI) vwCl [(cI, .int)] U ∧ va_D (fun _ => True) [(k, .inr (1, [.ref kb, .int num, .ref kf, .ref ks, .ref kt])), (kb, .inl (cI, 160, .inl fb))])) (va_Qv (fun (_ : Unit) => True) (fun (_ : Unit) t => va_P (dC, dI) vwCl [(k, .inr (1, [.ref kb, .int num, .ref kf, .ref ks, .ref kt])), (kb, .inl (cI, 160, .inl (bs_wr (bs_wr fb 0 f 8) 8 h 8)))] t.heap ∧ va_K (dC, dI) vwCl [(cI, .int)] t ∧ va_D (va_A [(k, .inr (1, [.ref kb, .int num, .ref kf, .ref ks, .ref kt])), (kb, .inl (cI, 160, .inl fb))] sz) [(k, .inr (1, [.ref kb, .int num, .ref kf, .ref ks, .ref kt])), (kb, .inl (cI, 160, .inl (bs_wr (bs_wr fb 0 f 8) 8 h 8)))]) (va_A [(k, .inr (1, [.ref kb, .int num, .ref kf, .ref ks, .ref kt])), (kb, .inl (cI, 160, .inl fb))] sz)) 0 0 (va_A [(k, .inr (1, [.ref kb, .int num, .ref kf, .ref ks, .ref kt])), (kb, .inl (cI, 160, .inl fb))] sz) := by
  refine Met.ofW (cc := cKY_setRoot) (maxL := 5) (ret := none) (by decide) rfl ?_
  intro p e s m args below meth c s₁ B hml hv
  obtain ⟨rfl, hsz, hP, hK, hD0⟩ := hv
  have hx := B.exec
  have hb := B.bytes
  have hr := B.returns
  have hts := fun w (h : w ∈ wT) => atoms_spec (ws := wsKY_setRoot) B.pre w (List.mem_cons_of_mem _ h)
  have hown : s.vm.findClass RKY = some m.cls := findClass_of_methodNamed B.named
  have hlocks := B.notSynchronized
  subst hsz
  have hD := hD0.self (sz := s.heap.size)
  generalize hAe : va_A [(k, .inr (1, [.ref kb, .int num, .ref kf, .ref ks, .ref kt])), (kb, .inl (cI, 160, .inl fb))] s.heap.size = A at hD ⊢
  have hA : ∀ q : Nat, s.heap.size ≤ q → A q := fun q h => by rw [← hAe]; exact Or.inr h
  have hl := lv_entry ([.ref k, .long f, .long h]) (n := 5) (Nat.le_of_ble_eq_true rfl)
  rw [lg_entry_eq]
  generalize (lg_sl ([.ref k, .long f, .long h]) ++ List.replicate (5 - (lg_sl ([.ref k, .long f, .long h])).length) Slot.unset).toArray = ls at hl ⊢
  have hl : lv_has ls 5 [(0, .ref k), (1, .long f), (3, .long h)] := hl
  refine xs_q (fun H Q hH hQ => ?_)
  have hS : va_S A s.heap H [] := by rw [hH]; exact va_S.rf
  have hP : va_P (dC, dI) vwCl [(k, .inr (1, [.ref kb, .int num, .ref kf, .ref ks, .ref kt])), (kb, .inl (cI, 160, .inl fb))] H := by rw [hH]; exact hP
  refine lv_aload_n hx hb dKY_setRoot_0 rfl (lv_at hl 0 rfl) ?_
  refine lv_iconst (v := nI 0) hx hb dKY_setRoot_1 (by decide) ?_
  refine lv_lload_n hx hb dKY_setRoot_2 rfl (lv_at hl 1 rfl) ?_
  have hPc := hP.sub (ws' := [(k, .inr (1, [.ref kb, .int num, .ref kf, .ref ks, .ref kt])), (kb, .inl (cI, 160, .inl fb))]) [0, 1] rfl
  have hDc := hD.sub (ws' := [(k, .inr (1, [.ref kb, .int num, .ref kf, .ref ks, .ref kt])), (kb, .inl (cI, 160, .inl fb))]) [0, 1] (by decide) rfl
  have hKc := hK.sub (tys' := [(cI, .int)]) [0] rfl
  have hFc := va_free (wc := [(k, .inr (1, [.ref kb, .int num, .ref kf, .ref ks, .ref kt])), (kb, .inl (cI, 160, .inl fb))]) hD hS hA [0, 1] rfl
  refine va_callv (va_runV (C := RKY) (As := [.int (nI 0), .long f]) (rest := []) ⟨hx, hb, hml, hown, hts⟩ (c_KY_writeHalf l dC dI H.size k kb kf ks kt num cI fb 0 f (by decide)) (cwV (C := RKY) 2 hts (wT_4 w_m_KY_32 w_i_KY_writeHalf w_s_KY_writeHalf w_n_KY w_c_KY_writeHalf) rfl rfl rfl (by decide +kernel) ⟨Nat.le_of_ble_eq_true rfl, Nat.le_of_ble_eq_true rfl⟩) ⟨fun a U g mk q => by obtain ⟨q0, q1, qP, qK, qD⟩ := q; exact ⟨q0, q1, qP, va_K.moved (u := U) (U := U.calling g mk a) (Vm.Alike.refl U.vm) qK, qD⟩, va_recv hK hP (q0 := 0) (ci := 1) (q := (RKY, TKY, 5)) rfl rfl, fun U hU hW => ⟨rfl, by rw [hU], by rw [hU]; exact hPc, va_K.moved hW.alike hKc, hDc.weaken (fun _ _ _ _ => trivial)⟩⟩ rfl rfl hl.1 rfl (lv_room (Nat.le_of_ble_eq_true rfl)) dKY_setRoot_3 ⟨Nat.zero_le _, Nat.zero_le _⟩) hS (fun q _ h => hFc q h) hFc (fun u t H1 locs ht hvm hw hB hz1 hk1 hS => ?_)
  obtain ⟨hP1, hK1, hD1⟩ := hB
  rw [ht] at hP1
  have hK1 := va_K.moved hvm.symm hK1
  obtain ⟨hP, hD⟩ := va_join (wr := []) (w1 := [(k, .inr (1, [.ref kb, .int num, .ref kf, .ref ks, .ref kt])), (kb, .inl (cI, 160, .inl (bs_wr fb 0 f 8)))]) hP hD [0, 1] [] rfl rfl (by decide) (by decide) hk1 hFc hP1 hD1
  generalize H1 = H at hP hS ⊢
  have hP : va_P (dC, dI) vwCl [(k, .inr (1, [.ref kb, .int num, .ref kf, .ref ks, .ref kt])), (kb, .inl (cI, 160, .inl (bs_wr fb 0 f 8)))] H := hP
  have hD : va_D A [(k, .inr (1, [.ref kb, .int num, .ref kf, .ref ks, .ref kt])), (kb, .inl (cI, 160, .inl (bs_wr fb 0 f 8)))] := hD
  refine lv_aload_n hx hb dKY_setRoot_6 rfl (lv_at hl 0 rfl) ?_
  refine lv_bipush (v := nI 8) hx hb dKY_setRoot_7 (by decide) ?_
  refine lv_lload_n hx hb dKY_setRoot_9 rfl (lv_at hl 2 rfl) ?_
  have hPc := hP.sub (ws' := [(k, .inr (1, [.ref kb, .int num, .ref kf, .ref ks, .ref kt])), (kb, .inl (cI, 160, .inl (bs_wr fb 0 f 8)))]) [0, 1] rfl
  have hDc := hD.sub (ws' := [(k, .inr (1, [.ref kb, .int num, .ref kf, .ref ks, .ref kt])), (kb, .inl (cI, 160, .inl (bs_wr fb 0 f 8)))]) [0, 1] (by decide) rfl
  have hKc := hK.sub (tys' := [(cI, .int)]) [0] rfl
  have hFc := va_free (wc := [(k, .inr (1, [.ref kb, .int num, .ref kf, .ref ks, .ref kt])), (kb, .inl (cI, 160, .inl (bs_wr fb 0 f 8)))]) hD hS hA [0, 1] rfl
  refine va_callv (va_runV (C := RKY) (As := [.int (nI 8), .long h]) (rest := []) ⟨hx, hb, hml, hown, hts⟩ (c_KY_writeHalf l dC dI H.size k kb kf ks kt num cI (bs_wr fb 0 f 8) 8 h (by decide)) (cwV (C := RKY) 2 hts (wT_4 w_m_KY_32 w_i_KY_writeHalf w_s_KY_writeHalf w_n_KY w_c_KY_writeHalf) rfl rfl rfl (by decide +kernel) ⟨Nat.le_of_ble_eq_true rfl, Nat.le_of_ble_eq_true rfl⟩) ⟨fun a U g mk q => by obtain ⟨q0, q1, qP, qK, qD⟩ := q; exact ⟨q0, q1, qP, va_K.moved (u := U) (U := U.calling g mk a) (Vm.Alike.refl U.vm) qK, qD⟩, va_recv hK hP (q0 := 0) (ci := 1) (q := (RKY, TKY, 5)) rfl rfl, fun U hU hW => ⟨rfl, by rw [hU], by rw [hU]; exact hPc, va_K.moved hW.alike hKc, hDc.weaken (fun _ _ _ _ => trivial)⟩⟩ rfl rfl hl.1 rfl (lv_room (Nat.le_of_ble_eq_true rfl)) dKY_setRoot_10 ⟨Nat.zero_le _, Nat.zero_le _⟩) hS (fun q _ h => hFc q h) hFc (fun u t H1 locs ht hvm hw hB hz1 hk1 hS => ?_)
  obtain ⟨hP1, hK1, hD1⟩ := hB
  rw [ht] at hP1
  have hK1 := va_K.moved hvm.symm hK1
  obtain ⟨hP, hD⟩ := va_join (wr := []) (w1 := [(k, .inr (1, [.ref kb, .int num, .ref kf, .ref ks, .ref kt])), (kb, .inl (cI, 160, .inl (bs_wr (bs_wr fb 0 f 8) 8 h 8)))]) hP hD [0, 1] [] rfl rfl (by decide) (by decide) hk1 hFc hP1 hD1
  generalize H1 = H at hP hS ⊢
  have hP : va_P (dC, dI) vwCl [(k, .inr (1, [.ref kb, .int num, .ref kf, .ref ks, .ref kt])), (kb, .inl (cI, 160, .inl (bs_wr (bs_wr fb 0 f 8) 8 h 8)))] H := hP
  have hD : va_D A [(k, .inr (1, [.ref kb, .int num, .ref kf, .ref ks, .ref kt])), (kb, .inl (cI, 160, .inl (bs_wr (bs_wr fb 0 f 8) 8 h 8)))] := hD
  have hP : va_P (dC, dI) vwCl [(k, .inr (1, [.ref kb, .int num, .ref kf, .ref ks, .ref kt])), (kb, .inl (cI, 160, .inl (bs_wr (bs_wr fb 0 f 8) 8 h 8)))] H := hP
  have hD : va_D A [(k, .inr (1, [.ref kb, .int num, .ref kf, .ref ks, .ref kt])), (kb, .inl (cI, 160, .inl (bs_wr (bs_wr fb 0 f 8) 8 h 8)))] := hD
  subst hQ
  exact W.vret hx hb hr (fun t ht hW => ⟨⟨(), rfl, trivial, by rw [ht]; exact hP, va_K.moved hW.alike hK, hD⟩, hS.F ht⟩) hS.2.2 dKY_setRoot_13
set_option maxHeartbeats 4000000 in
set_option maxRecDepth 100000 in
theorem c_KY_setLevel (l : Launch) (dC : Nat → ClassId) (dI : Nat → Nat → Nat) (sz : Nat) (k kb kf ks kt : Nat) (num : Int32) (cI : ClassId) (fb : Nat → Int32) (d : Nat) (f h : Int64) (fl : Int32) (hd : d < 8) : Met l yKY_setLevel wsKY_setLevel { frames := 1, cells := 0, slots := 0, locals := 24 } (va_Pc [.ref k, .int (nI d), .long f, .long h, .int fl] (fun U => U.heap.size = sz ∧ va_P (dC, dI) vwCl [(k, .inr (1, [.ref kb, .int num, .ref kf, .ref ks, .ref kt])), (kb, .inl (cI, 160, .inl fb))] U.heap ∧ va_K (dC, dI) vwCl [(cI, .int)] U ∧ va_D (fun _ => True) [(k, .inr (1, [.ref kb, .int num, .ref kf, .ref ks, .ref kt])), (kb, .inl (cI, 160, .inl fb))])) (va_Qv (fun (_ : Unit) => True) (fun (_ : Unit) t => va_P (dC, dI) vwCl [(k, .inr (1, [.ref kb, .int num, .ref kf, .ref ks, .ref kt])), (kb, .inl (cI, 160, .inl (upd (bs_wr (bs_wr fb (16 + 17 * d) f 8) (16 + 17 * d + 8) h 8) (16 + 17 * d + 16) fl)))] t.heap ∧ va_K (dC, dI) vwCl [(cI, .int)] t ∧ va_D (va_A [(k, .inr (1, [.ref kb, .int num, .ref kf, .ref ks, .ref kt])), (kb, .inl (cI, 160, .inl fb))] sz) [(k, .inr (1, [.ref kb, .int num, .ref kf, .ref ks, .ref kt])), (kb, .inl (cI, 160, .inl (upd (bs_wr (bs_wr fb (16 + 17 * d) f 8) (16 + 17 * d + 8) h 8) (16 + 17 * d + 16) fl)))]) (va_A [(k, .inr (1, [.ref kb, .int num, .ref kf, .ref ks, .ref kt])), (kb, .inl (cI, 160, .inl fb))] sz)) 0 0 (va_A [(k, .inr (1, [.ref kb, .int num, .ref kf, .ref ks, .ref kt])), (kb, .inl (cI, 160, .inl fb))] sz) := by
  refine Met.ofW (cc := cKY_setLevel) (maxL := 8) (ret := none) (by decide) rfl ?_
  intro p e s m args below meth c s₁ B hml hv
  obtain ⟨rfl, hsz, hP, hK, hD0⟩ := hv
  have hx := B.exec
  have hb := B.bytes
  have hr := B.returns
  have hts := fun w (h : w ∈ wT) => atoms_spec (ws := wsKY_setLevel) B.pre w (List.mem_cons_of_mem _ h)
  have hown : s.vm.findClass RKY = some m.cls := findClass_of_methodNamed B.named
  have hlocks := B.notSynchronized
  subst hsz
  have hD := hD0.self (sz := s.heap.size)
  generalize hAe : va_A [(k, .inr (1, [.ref kb, .int num, .ref kf, .ref ks, .ref kt])), (kb, .inl (cI, 160, .inl fb))] s.heap.size = A at hD ⊢
  have hA : ∀ q : Nat, s.heap.size ≤ q → A q := fun q h => by rw [← hAe]; exact Or.inr h
  have hl := lv_entry ([.ref k, .int (nI d), .long f, .long h, .int fl]) (n := 8) (Nat.le_of_ble_eq_true rfl)
  rw [lg_entry_eq]
  generalize (lg_sl ([.ref k, .int (nI d), .long f, .long h, .int fl]) ++ List.replicate (8 - (lg_sl ([.ref k, .int (nI d), .long f, .long h, .int fl])).length) Slot.unset).toArray = ls at hl ⊢
  have hl : lv_has ls 8 [(0, .ref k), (1, .int (nI d)), (2, .long f), (4, .long h), (6, .int fl)] := hl
  refine xs_q (fun H Q hH hQ => ?_)
  have hS : va_S A s.heap H [] := by rw [hH]; exact va_S.rf
  have hP : va_P (dC, dI) vwCl [(k, .inr (1, [.ref kb, .int num, .ref kf, .ref ks, .ref kt])), (kb, .inl (cI, 160, .inl fb))] H := by rw [hH]; exact hP
  refine lv_bipush (v := nI 16) hx hb dKY_setLevel_0 (by decide) ?_
  refine lv_bipush (v := nI 17) hx hb dKY_setLevel_2 (by decide) ?_
  refine lv_iload_n hx hb dKY_setLevel_4 rfl (lv_at hl 1 rfl) ?_
  refine lv_imul hx hb dKY_setLevel_5 ?_
  refine xt_i (y := nI (17 * d)) (pk_mul _ _) ?_
  refine lv_iadd hx hb dKY_setLevel_6 ?_
  refine xt_i (y := nI (16 + 17 * d)) (nI_add _ _) ?_
  refine lv_istore (lv' := [(7, .int (nI (16 + 17 * d))), (0, .ref k), (1, .int (nI d)), (2, .long f), (4, .long h), (6, .int fl)]) hx hb dKY_setLevel_7 hl (by decide) rfl (fun ls hl => ?_)
  refine lv_aload_n hx hb dKY_setLevel_9 rfl (lv_at hl 1 rfl) ?_
  refine lv_iload hx hb dKY_setLevel_10 (lv_at hl 0 rfl) ?_
  refine lv_lload_n hx hb dKY_setLevel_12 rfl (lv_at hl 3 rfl) ?_
  have hPc := hP.sub (ws' := [(k, .inr (1, [.ref kb, .int num, .ref kf, .ref ks, .ref kt])), (kb, .inl (cI, 160, .inl fb))]) [0, 1] rfl
  have hDc := hD.sub (ws' := [(k, .inr (1, [.ref kb, .int num, .ref kf, .ref ks, .ref kt])), (kb, .inl (cI, 160, .inl fb))]) [0, 1] (by decide) rfl
  have hKc := hK.sub (tys' := [(cI, .int)]) [0] rfl
  have hFc := va_free (wc := [(k, .inr (1, [.ref kb, .int num, .ref kf, .ref ks, .ref kt])), (kb, .inl (cI, 160, .inl fb))]) hD hS hA [0, 1] rfl
  refine va_callv (va_runV (C := RKY) (As := [.int (nI (16 + 17 * d)), .long f]) (rest := []) ⟨hx, hb, hml, hown, hts⟩ (c_KY_writeHalf l dC dI H.size k kb kf ks kt num cI fb (16 + 17 * d) f (by omega)) (cwV (C := RKY) 2 hts (wT_4 w_m_KY_32 w_i_KY_writeHalf w_s_KY_writeHalf w_n_KY w_c_KY_writeHalf) rfl rfl rfl (by decide +kernel) ⟨Nat.le_of_ble_eq_true rfl, Nat.le_of_ble_eq_true rfl⟩) ⟨fun a U g mk q => by obtain ⟨q0, q1, qP, qK, qD⟩ := q; exact ⟨q0, q1, qP, va_K.moved (u := U) (U := U.calling g mk a) (Vm.Alike.refl U.vm) qK, qD⟩, va_recv hK hP (q0 := 0) (ci := 1) (q := (RKY, TKY, 5)) rfl rfl, fun U hU hW => ⟨rfl, by rw [hU], by rw [hU]; exact hPc, va_K.moved hW.alike hKc, hDc.weaken (fun _ _ _ _ => trivial)⟩⟩ rfl rfl hl.1 rfl (lv_room (Nat.le_of_ble_eq_true rfl)) dKY_setLevel_13 ⟨Nat.zero_le _, Nat.zero_le _⟩) hS (fun q _ h => hFc q h) hFc (fun u t H1 locs ht hvm hw hB hz1 hk1 hS => ?_)
  obtain ⟨hP1, hK1, hD1⟩ := hB
  rw [ht] at hP1
  have hK1 := va_K.moved hvm.symm hK1
  obtain ⟨hP, hD⟩ := va_join (wr := []) (w1 := [(k, .inr (1, [.ref kb, .int num, .ref kf, .ref ks, .ref kt])), (kb, .inl (cI, 160, .inl (bs_wr fb (16 + 17 * d) f 8)))]) hP hD [0, 1] [] rfl rfl (by decide) (by decide) hk1 hFc hP1 hD1
  generalize H1 = H at hP hS ⊢
  have hP : va_P (dC, dI) vwCl [(k, .inr (1, [.ref kb, .int num, .ref kf, .ref ks, .ref kt])), (kb, .inl (cI, 160, .inl (bs_wr fb (16 + 17 * d) f 8)))] H := hP
  have hD : va_D A [(k, .inr (1, [.ref kb, .int num, .ref kf, .ref ks, .ref kt])), (kb, .inl (cI, 160, .inl (bs_wr fb (16 + 17 * d) f 8)))] := hD
  refine lv_aload_n hx hb dKY_setLevel_16 rfl (lv_at hl 1 rfl) ?_
  refine lv_iload hx hb dKY_setLevel_17 (lv_at hl 0 rfl) ?_
  refine lv_bipush (v := nI 8) hx hb dKY_setLevel_19 (by decide) ?_
  refine lv_iadd hx hb dKY_setLevel_21 ?_
  refine xt_i (y := nI (16 + 17 * d + 8)) (nI_add _ _) ?_
  refine lv_lload hx hb dKY_setLevel_22 (lv_at hl 4 rfl) ?_
  have hPc := hP.sub (ws' := [(k, .inr (1, [.ref kb, .int num, .ref kf, .ref ks, .ref kt])), (kb, .inl (cI, 160, .inl (bs_wr fb (16 + 17 * d) f 8)))]) [0, 1] rfl
  have hDc := hD.sub (ws' := [(k, .inr (1, [.ref kb, .int num, .ref kf, .ref ks, .ref kt])), (kb, .inl (cI, 160, .inl (bs_wr fb (16 + 17 * d) f 8)))]) [0, 1] (by decide) rfl
  have hKc := hK.sub (tys' := [(cI, .int)]) [0] rfl
  have hFc := va_free (wc := [(k, .inr (1, [.ref kb, .int num, .ref kf, .ref ks, .ref kt])), (kb, .inl (cI, 160, .inl (bs_wr fb (16 + 17 * d) f 8)))]) hD hS hA [0, 1] rfl
  refine va_callv (va_runV (C := RKY) (As := [.int (nI (16 + 17 * d + 8)), .long h]) (rest := []) ⟨hx, hb, hml, hown, hts⟩ (c_KY_writeHalf l dC dI H.size k kb kf ks kt num cI (bs_wr fb (16 + 17 * d) f 8) (16 + 17 * d + 8) h (by omega)) (cwV (C := RKY) 2 hts (wT_4 w_m_KY_32 w_i_KY_writeHalf w_s_KY_writeHalf w_n_KY w_c_KY_writeHalf) rfl rfl rfl (by decide +kernel) ⟨Nat.le_of_ble_eq_true rfl, Nat.le_of_ble_eq_true rfl⟩) ⟨fun a U g mk q => by obtain ⟨q0, q1, qP, qK, qD⟩ := q; exact ⟨q0, q1, qP, va_K.moved (u := U) (U := U.calling g mk a) (Vm.Alike.refl U.vm) qK, qD⟩, va_recv hK hP (q0 := 0) (ci := 1) (q := (RKY, TKY, 5)) rfl rfl, fun U hU hW => ⟨rfl, by rw [hU], by rw [hU]; exact hPc, va_K.moved hW.alike hKc, hDc.weaken (fun _ _ _ _ => trivial)⟩⟩ rfl rfl hl.1 rfl (lv_room (Nat.le_of_ble_eq_true rfl)) dKY_setLevel_24 ⟨Nat.zero_le _, Nat.zero_le _⟩) hS (fun q _ h => hFc q h) hFc (fun u t H1 locs ht hvm hw hB hz1 hk1 hS => ?_)
  obtain ⟨hP1, hK1, hD1⟩ := hB
  rw [ht] at hP1
  have hK1 := va_K.moved hvm.symm hK1
  obtain ⟨hP, hD⟩ := va_join (wr := []) (w1 := [(k, .inr (1, [.ref kb, .int num, .ref kf, .ref ks, .ref kt])), (kb, .inl (cI, 160, .inl (bs_wr (bs_wr fb (16 + 17 * d) f 8) (16 + 17 * d + 8) h 8)))]) hP hD [0, 1] [] rfl rfl (by decide) (by decide) hk1 hFc hP1 hD1
  generalize H1 = H at hP hS ⊢
  have hP : va_P (dC, dI) vwCl [(k, .inr (1, [.ref kb, .int num, .ref kf, .ref ks, .ref kt])), (kb, .inl (cI, 160, .inl (bs_wr (bs_wr fb (16 + 17 * d) f 8) (16 + 17 * d + 8) h 8)))] H := hP
  have hD : va_D A [(k, .inr (1, [.ref kb, .int num, .ref kf, .ref ks, .ref kt])), (kb, .inl (cI, 160, .inl (bs_wr (bs_wr fb (16 + 17 * d) f 8) (16 + 17 * d + 8) h 8)))] := hD
  refine lv_aload_n hx hb dKY_setLevel_27 rfl (lv_at hl 1 rfl) ?_
  refine va_get (D := (dC, dI)) (ci := 1) (v := .ref kb) (C := RKY) (T := TKY) (N := 5) hx hb hts in_KY hown hK hP 0 rfl rfl 0 (by decide) (hts _ w_f_KY_11) (fun _ h9 => h9) rfl dKY_setLevel_28 ?_
  refine lv_iload hx hb dKY_setLevel_31 (lv_at hl 0 rfl) ?_
  refine lv_bipush (v := nI 16) hx hb dKY_setLevel_33 (by decide) ?_
  refine lv_iadd hx hb dKY_setLevel_35 ?_
  refine xt_i (y := nI (16 + 17 * d + 16)) (nI_add _ _) ?_
  refine lv_iload hx hb dKY_setLevel_36 (lv_at hl 5 rfl) ?_
  refine xa_iast hx hb hK hP hD hS 1 0 rfl rfl (16 + 17 * d + 16) (by omega) (by decide) dKY_setLevel_38 (fun H locs hP hD hS => ?_)
  have hP : va_P (dC, dI) vwCl [(k, .inr (1, [.ref kb, .int num, .ref kf, .ref ks, .ref kt])), (kb, .inl (cI, 160, .inl (upd (bs_wr (bs_wr fb (16 + 17 * d) f 8) (16 + 17 * d + 8) h 8) (16 + 17 * d + 16) fl)))] H := hP
  have hD : va_D A [(k, .inr (1, [.ref kb, .int num, .ref kf, .ref ks, .ref kt])), (kb, .inl (cI, 160, .inl (upd (bs_wr (bs_wr fb (16 + 17 * d) f 8) (16 + 17 * d + 8) h 8) (16 + 17 * d + 16) fl)))] := hD
  have hP : va_P (dC, dI) vwCl [(k, .inr (1, [.ref kb, .int num, .ref kf, .ref ks, .ref kt])), (kb, .inl (cI, 160, .inl (upd (bs_wr (bs_wr fb (16 + 17 * d) f 8) (16 + 17 * d + 8) h 8) (16 + 17 * d + 16) fl)))] H := hP
  have hD : va_D A [(k, .inr (1, [.ref kb, .int num, .ref kf, .ref ks, .ref kt])), (kb, .inl (cI, 160, .inl (upd (bs_wr (bs_wr fb (16 + 17 * d) f 8) (16 + 17 * d + 8) h 8) (16 + 17 * d + 16) fl)))] := hD
  subst hQ
  exact W.vret hx hb hr (fun t ht hW => ⟨⟨(), rfl, trivial, by rw [ht]; exact hP, va_K.moved hW.alike hK, hD⟩, hS.F ht⟩) hS.2.2 dKY_setLevel_39
set_option maxHeartbeats 4000000 in
set_option maxRecDepth 100000 in
theorem c_KY_setLast (l : Launch) (dC : Nat → ClassId) (dI : Nat → Nat → Nat) (sz : Nat) (k kb kf ks kt : Nat) (num : Int32) (cI : ClassId) (fb : Nat → Int32) (v : Int64)  : Met l yKY_setLast wsKY_setLast { frames := 1, cells := 0, slots := 0, locals := 24 } (va_Pc [.ref k, .long v] (fun U => U.heap.size = sz ∧ va_P (dC, dI) vwCl [(k, .inr (1, [.ref kb, .int num, .ref kf, .ref ks, .ref kt])), (kb, .inl (cI, 160, .inl fb))] U.heap ∧ va_K (dC, dI) vwCl [(cI, .int)] U ∧ va_D (fun _ => True) [(k, .inr (1, [.ref kb, .int num, .ref kf, .ref ks, .ref kt])), (kb, .inl (cI, 160, .inl fb))])) (va_Qv (fun (_ : Unit) => True) (fun (_ : Unit) t => va_P (dC, dI) vwCl [(k, .inr (1, [.ref kb, .int num, .ref kf, .ref ks, .ref kt])), (kb, .inl (cI, 160, .inl (bs_wr fb 152 v 8)))] t.heap ∧ va_K (dC, dI) vwCl [(cI, .int)] t ∧ va_D (va_A [(k, .inr (1, [.ref kb, .int num, .ref kf, .ref ks, .ref kt])), (kb, .inl (cI, 160, .inl fb))] sz) [(k, .inr (1, [.ref kb, .int num, .ref kf, .ref ks, .ref kt])), (kb, .inl (cI, 160, .inl (bs_wr fb 152 v 8)))]) (va_A [(k, .inr (1, [.ref kb, .int num, .ref kf, .ref ks, .ref kt])), (kb, .inl (cI, 160, .inl fb))] sz)) 0 0 (va_A [(k, .inr (1, [.ref kb, .int num, .ref kf, .ref ks, .ref kt])), (kb, .inl (cI, 160, .inl fb))] sz) := by
  refine Met.ofW (cc := cKY_setLast) (maxL := 3) (ret := none) (by decide) rfl ?_
  intro p e s m args below meth c s₁ B hml hv
  obtain ⟨rfl, hsz, hP, hK, hD0⟩ := hv
  have hx := B.exec
  have hb := B.bytes
  have hr := B.returns
  have hts := fun w (h : w ∈ wT) => atoms_spec (ws := wsKY_setLast) B.pre w (List.mem_cons_of_mem _ h)
  have hown : s.vm.findClass RKY = some m.cls := findClass_of_methodNamed B.named
  have hlocks := B.notSynchronized
  subst hsz
  have hD := hD0.self (sz := s.heap.size)
  generalize hAe : va_A [(k, .inr (1, [.ref kb, .int num, .ref kf, .ref ks, .ref kt])), (kb, .inl (cI, 160, .inl fb))] s.heap.size = A at hD ⊢
  have hA : ∀ q : Nat, s.heap.size ≤ q → A q := fun q h => by rw [← hAe]; exact Or.inr h
  have hl := lv_entry ([.ref k, .long v]) (n := 3) (Nat.le_of_ble_eq_true rfl)
  rw [lg_entry_eq]
  generalize (lg_sl ([.ref k, .long v]) ++ List.replicate (3 - (lg_sl ([.ref k, .long v])).length) Slot.unset).toArray = ls at hl ⊢
  have hl : lv_has ls 3 [(0, .ref k), (1, .long v)] := hl
  refine xs_q (fun H Q hH hQ => ?_)
  have hS : va_S A s.heap H [] := by rw [hH]; exact va_S.rf
  have hP : va_P (dC, dI) vwCl [(k, .inr (1, [.ref kb, .int num, .ref kf, .ref ks, .ref kt])), (kb, .inl (cI, 160, .inl fb))] H := by rw [hH]; exact hP
  refine lv_aload_n hx hb dKY_setLast_0 rfl (lv_at hl 0 rfl) ?_
  refine lv_sipush (v := nI 152) hx hb dKY_setLast_1 (by decide) ?_
  refine lv_lload_n hx hb dKY_setLast_4 rfl (lv_at hl 1 rfl) ?_
  have hPc := hP.sub (ws' := [(k, .inr (1, [.ref kb, .int num, .ref kf, .ref ks, .ref kt])), (kb, .inl (cI, 160, .inl fb))]) [0, 1] rfl
  have hDc := hD.sub (ws' := [(k, .inr (1, [.ref kb, .int num, .ref kf, .ref ks, .ref kt])), (kb, .inl (cI, 160, .inl fb))]) [0, 1] (by decide) rfl
  have hKc := hK.sub (tys' := [(cI, .int)]) [0] rfl
  have hFc := va_free (wc := [(k, .inr (1, [.ref kb, .int num, .ref kf, .ref ks, .ref kt])), (kb, .inl (cI, 160, .inl fb))]) hD hS hA [0, 1] rfl
  refine va_callv (va_runV (C := RKY) (As := [.int (nI 152), .long v]) (rest := []) ⟨hx, hb, hml, hown, hts⟩ (c_KY_writeHalf l dC dI H.size k kb kf ks kt num cI fb 152 v (by decide)) (cwV (C := RKY) 2 hts (wT_4 w_m_KY_32 w_i_KY_writeHalf w_s_KY_writeHalf w_n_KY w_c_KY_writeHalf) rfl rfl rfl (by decide +kernel) ⟨Nat.le_of_ble_eq_true rfl, Nat.le_of_ble_eq_true rfl⟩) ⟨fun a U g mk q => by obtain ⟨q0, q1, qP, qK, qD⟩ := q; exact ⟨q0, q1, qP, va_K.moved (u := U) (U := U.calling g mk a) (Vm.Alike.refl U.vm) qK, qD⟩, va_recv hK hP (q0 := 0) (ci := 1) (q := (RKY, TKY, 5)) rfl rfl, fun U hU hW => ⟨rfl, by rw [hU], by rw [hU]; exact hPc, va_K.moved hW.alike hKc, hDc.weaken (fun _ _ _ _ => trivial)⟩⟩ rfl rfl hl.1 rfl (lv_room (Nat.le_of_ble_eq_true rfl)) dKY_setLast_5 ⟨Nat.zero_le _, Nat.zero_le _⟩) hS (fun q _ h => hFc q h) hFc (fun u t H1 locs ht hvm hw hB hz1 hk1 hS => ?_)
  obtain ⟨hP1, hK1, hD1⟩ := hB
  rw [ht] at hP1
  have hK1 := va_K.moved hvm.symm hK1
  obtain ⟨hP, hD⟩ := va_join (wr := []) (w1 := [(k, .inr (1, [.ref kb, .int num, .ref kf, .ref ks, .ref kt])), (kb, .inl (cI, 160, .inl (bs_wr fb 152 v 8)))]) hP hD [0, 1] [] rfl rfl (by decide) (by decide) hk1 hFc hP1 hD1
  generalize H1 = H at hP hS ⊢
  have hP : va_P (dC, dI) vwCl [(k, .inr (1, [.ref kb, .int num, .ref kf, .ref ks, .ref kt])), (kb, .inl (cI, 160, .inl (bs_wr fb 152 v 8)))] H := hP
  have hD : va_D A [(k, .inr (1, [.ref kb, .int num, .ref kf, .ref ks, .ref kt])), (kb, .inl (cI, 160, .inl (bs_wr fb 152 v 8)))] := hD
  have hP : va_P (dC, dI) vwCl [(k, .inr (1, [.ref kb, .int num, .ref kf, .ref ks, .ref kt])), (kb, .inl (cI, 160, .inl (bs_wr fb 152 v 8)))] H := hP
  have hD : va_D A [(k, .inr (1, [.ref kb, .int num, .ref kf, .ref ks, .ref kt])), (kb, .inl (cI, 160, .inl (bs_wr fb 152 v 8)))] := hD
  subst hQ
  exact W.vret hx hb hr (fun t ht hW => ⟨⟨(), rfl, trivial, by rw [ht]; exact hP, va_K.moved hW.alike hK, hD⟩, hS.F ht⟩) hS.2.2 dKY_setLast_8
set_option maxHeartbeats 4000000 in
set_option maxRecDepth 100000 in
theorem c_KY_forgetWalks (l : Launch) (dC : Nat → ClassId) (dI : Nat → Nat → Nat) (sz : Nat) (k kb kf ks kt : Nat) (num : Int32) (cI : ClassId) (cL : ClassId) (fb : Nat → Int32) (ff fs : Nat → Int64) (ft : Nat → Int32)  : Met l yKY_forgetWalks wsKY_forgetWalks { frames := 1, cells := 0, slots := 0, locals := 24 } (va_Pc [.ref k] (fun U => U.heap.size = sz ∧ va_P (dC, dI) vwCl [(k, .inr (1, [.ref kb, .int num, .ref kf, .ref ks, .ref kt])), (kb, .inl (cI, 160, .inl fb)), (kf, .inl (cL, 512, .inr (.inl ff))), (ks, .inl (cL, 512, .inr (.inl fs))), (kt, .inl (cI, 512, .inl ft))] U.heap ∧ va_K (dC, dI) vwCl [(cI, .int), (cL, .long)] U ∧ va_D (fun _ => True) [(k, .inr (1, [.ref kb, .int num, .ref kf, .ref ks, .ref kt])), (kb, .inl (cI, 160, .inl fb)), (kf, .inl (cL, 512, .inr (.inl ff))), (ks, .inl (cL, 512, .inr (.inl fs))), (kt, .inl (cI, 512, .inl ft))])) (va_Qv (fun (_ : Unit) => True) (fun (_ : Unit) t => va_P (dC, dI) vwCl [(k, .inr (1, [.ref kb, .int num, .ref kf, .ref ks, .ref kt])), (kb, .inl (cI, 160, .inl fb)), (kf, .inl (cL, 512, .inr (.inl (vp_updL ff 1 (bs_rd fb 0 8))))), (ks, .inl (cL, 512, .inr (.inl (vp_updL fs 1 (bs_rd fb 8 8))))), (kt, .inl (cI, 512, .inl (upd (bs_fill ft (-1) 512) 1 num)))] t.heap ∧ va_K (dC, dI) vwCl [(cI, .int), (cL, .long)] t ∧ va_D (va_A [(k, .inr (1, [.ref kb, .int num, .ref kf, .ref ks, .ref kt])), (kb, .inl (cI, 160, .inl fb)), (kf, .inl (cL, 512, .inr (.inl ff))), (ks, .inl (cL, 512, .inr (.inl fs))), (kt, .inl (cI, 512, .inl ft))] sz) [(k, .inr (1, [.ref kb, .int num, .ref kf, .ref ks, .ref kt])), (kb, .inl (cI, 160, .inl fb)), (kf, .inl (cL, 512, .inr (.inl (vp_updL ff 1 (bs_rd fb 0 8))))), (ks, .inl (cL, 512, .inr (.inl (vp_updL fs 1 (bs_rd fb 8 8))))), (kt, .inl (cI, 512, .inl (upd (bs_fill ft (-1) 512) 1 num)))]) (va_A [(k, .inr (1, [.ref kb, .int num, .ref kf, .ref ks, .ref kt])), (kb, .inl (cI, 160, .inl fb)), (kf, .inl (cL, 512, .inr (.inl ff))), (ks, .inl (cL, 512, .inr (.inl fs))), (kt, .inl (cI, 512, .inl ft))] sz)) 0 0 (va_A [(k, .inr (1, [.ref kb, .int num, .ref kf, .ref ks, .ref kt])), (kb, .inl (cI, 160, .inl fb)), (kf, .inl (cL, 512, .inr (.inl ff))), (ks, .inl (cL, 512, .inr (.inl fs))), (kt, .inl (cI, 512, .inl ft))] sz) := by
  refine Met.ofW (cc := cKY_forgetWalks) (maxL := 1) (ret := none) (by decide) rfl ?_
  intro p e s m args below meth c s₁ B hml hv
  obtain ⟨rfl, hsz, hP, hK, hD0⟩ := hv
  have hx := B.exec
  have hb := B.bytes
  have hr := B.returns
  have hts := fun w (h : w ∈ wT) => atoms_spec (ws := wsKY_forgetWalks) B.pre w (List.mem_cons_of_mem _ h)
  have hown : s.vm.findClass RKY = some m.cls := findClass_of_methodNamed B.named
  have hlocks := B.notSynchronized
  subst hsz
  have hD := hD0.self (sz := s.heap.size)
  generalize hAe : va_A [(k, .inr (1, [.ref kb, .int num, .ref kf, .ref ks, .ref kt])), (kb, .inl (cI, 160, .inl fb)), (kf, .inl (cL, 512, .inr (.inl ff))), (ks, .inl (cL, 512, .inr (.inl fs))), (kt, .inl (cI, 512, .inl ft))] s.heap.size = A at hD ⊢
  have hA : ∀ q : Nat, s.heap.size ≤ q → A q := fun q h => by rw [← hAe]; exact Or.inr h
  have hl := lv_entry ([.ref k]) (n := 1) (Nat.le_of_ble_eq_true rfl)
  rw [lg_entry_eq]
  generalize (lg_sl ([.ref k]) ++ List.replicate (1 - (lg_sl ([.ref k])).length) Slot.unset).toArray = ls at hl ⊢
  have hl : lv_has ls 1 [(0, .ref k)] := hl
  refine xs_q (fun H Q hH hQ => ?_)
  have hS : va_S A s.heap H [] := by rw [hH]; exact va_S.rf
  have hP : va_P (dC, dI) vwCl [(k, .inr (1, [.ref kb, .int num, .ref kf, .ref ks, .ref kt])), (kb, .inl (cI, 160, .inl fb)), (kf, .inl (cL, 512, .inr (.inl ff))), (ks, .inl (cL, 512, .inr (.inl fs))), (kt, .inl (cI, 512, .inl ft))] H := by rw [hH]; exact hP
  refine lv_aload_n hx hb dKY_forgetWalks_0 rfl (lv_at hl 0 rfl) ?_
  refine va_get (D := (dC, dI)) (ci := 1) (v := .ref kt) (C := RKY) (T := TKY) (N := 5) hx hb hts in_KY hown hK hP 0 rfl rfl 4 (by decide) (hts _ w_f_KY_22) (fun _ h9 => h9) rfl dKY_forgetWalks_1 ?_
  refine lv_iconst (v := (-1)) hx hb dKY_forgetWalks_4 (by decide) ?_
  have hPc := hP.sub (ws' := [(kt, .inl (cI, 512, .inl ft))]) [4] rfl
  have hDc := hD.sub (ws' := [(kt, .inl (cI, 512, .inl ft))]) [4] (by decide) rfl
  have hKc := hK.sub (tys' := [(cI, .int)]) [0] rfl
  have hFc := va_free (wc := [(kt, .inl (cI, 512, .inl ft))]) hD hS hA [4] rfl
  refine va_callv (va_runS (As := [.ref kt, .int (-1)]) (rest := []) ⟨hx, hb, hml, hown, hts⟩ (c_JA_fill l dC dI H.size kt cI 512 ft (-1) (by decide)) (va_cwS 2 hts (wT_3 w_m_KY_64 w_t_JA_fill w_n_JA w_c_JA_fill) rfl rfl rfl (by decide +kernel) ⟨Nat.le_of_ble_eq_true rfl, Nat.le_of_ble_eq_true rfl⟩) ⟨fun a U g mk q => by obtain ⟨q0, q1, qP, qK, qD⟩ := q; exact ⟨q0, q1, qP, va_K.moved (u := U) (U := U.calling g mk a) (Vm.Alike.refl U.vm) qK, qD⟩, fun U hU hW => ⟨rfl, by rw [hU], by rw [hU]; exact hPc, va_K.moved hW.alike hKc, hDc.weaken (fun _ _ _ _ => trivial)⟩⟩ rfl rfl hl.1 rfl (lv_room (Nat.le_of_ble_eq_true rfl)) dKY_forgetWalks_5 ⟨Nat.zero_le _, Nat.zero_le _⟩) hS (fun q _ h => hFc q h) hFc (fun u t H1 locs ht hvm hw hB hz1 hk1 hS => ?_)
  obtain ⟨hP1, hK1, hD1⟩ := hB
  rw [ht] at hP1
  have hK1 := va_K.moved hvm.symm hK1
  obtain ⟨hP, hD⟩ := va_join (wr := [(k, .inr (1, [.ref kb, .int num, .ref kf, .ref ks, .ref kt])), (kb, .inl (cI, 160, .inl fb)), (kf, .inl (cL, 512, .inr (.inl ff))), (ks, .inl (cL, 512, .inr (.inl fs)))]) (w1 := [(kt, .inl (cI, 512, .inl (bs_fill ft (-1) 512)))]) hP hD [4] [0, 1, 2, 3] rfl rfl (by decide) (by decide) hk1 hFc hP1 hD1
  generalize H1 = H at hP hS ⊢
  have hP : va_P (dC, dI) vwCl [(k, .inr (1, [.ref kb, .int num, .ref kf, .ref ks, .ref kt])), (kb, .inl (cI, 160, .inl fb)), (kf, .inl (cL, 512, .inr (.inl ff))), (ks, .inl (cL, 512, .inr (.inl fs))), (kt, .inl (cI, 512, .inl (bs_fill ft (-1) 512)))] H := hP
  have hD : va_D A [(k, .inr (1, [.ref kb, .int num, .ref kf, .ref ks, .ref kt])), (kb, .inl (cI, 160, .inl fb)), (kf, .inl (cL, 512, .inr (.inl ff))), (ks, .inl (cL, 512, .inr (.inl fs))), (kt, .inl (cI, 512, .inl (bs_fill ft (-1) 512)))] := hD
  refine lv_aload_n hx hb dKY_forgetWalks_8 rfl (lv_at hl 0 rfl) ?_
  refine va_get (D := (dC, dI)) (ci := 1) (v := .ref kf) (C := RKY) (T := TKY) (N := 5) hx hb hts in_KY hown hK hP 0 rfl rfl 2 (by decide) (hts _ w_f_KY_15) (fun _ h9 => h9) rfl dKY_forgetWalks_9 ?_
  refine lv_iconst (v := nI 1) hx hb dKY_forgetWalks_12 (by decide) ?_
  refine lv_aload_n hx hb dKY_forgetWalks_13 rfl (lv_at hl 0 rfl) ?_
  refine lv_iconst (v := nI 0) hx hb dKY_forgetWalks_14 (by decide) ?_
  have hPc := hP.sub (ws' := [(k, .inr (1, [.ref kb, .int num, .ref kf, .ref ks, .ref kt])), (kb, .inl (cI, 160, .inl fb))]) [0, 1] rfl
  have hDc := hD.sub (ws' := [(k, .inr (1, [.ref kb, .int num, .ref kf, .ref ks, .ref kt])), (kb, .inl (cI, 160, .inl fb))]) [0, 1] (by decide) rfl
  have hKc := hK.sub (tys' := [(cI, .int)]) [0] rfl
  have hFc := va_free (wc := [(k, .inr (1, [.ref kb, .int num, .ref kf, .ref ks, .ref kt])), (kb, .inl (cI, 160, .inl fb))]) hD hS hA [0, 1] rfl
  refine va_calll (va_runV (C := RKY) (As := [.int (nI 0)]) (rest := [.int (nI 1), .ref kf]) ⟨hx, hb, hml, hown, hts⟩ (c_KY_readHalf l dC dI H.size k kb kf ks kt num cI fb 0 (by decide)) (cwV (C := RKY) 1 hts (wT_4 w_m_KY_40 w_i_KY_readHalf w_s_KY_readHalf w_n_KY w_c_KY_readHalf) rfl rfl rfl (by decide +kernel) ⟨Nat.le_of_ble_eq_true rfl, Nat.le_of_ble_eq_true rfl⟩) ⟨fun a U g mk q => by obtain ⟨q0, q1, qP, qK, qD⟩ := q; exact ⟨q0, q1, qP, va_K.moved (u := U) (U := U.calling g mk a) (Vm.Alike.refl U.vm) qK, qD⟩, va_recv hK hP (q0 := 0) (ci := 1) (q := (RKY, TKY, 5)) rfl rfl, fun U hU hW => ⟨rfl, by rw [hU], by rw [hU]; exact hPc, va_K.moved hW.alike hKc, hDc.weaken (fun _ _ _ _ => trivial)⟩⟩ rfl rfl hl.1 rfl (lv_room (Nat.le_of_ble_eq_true rfl)) dKY_forgetWalks_15 ⟨Nat.zero_le _, Nat.zero_le _⟩) hS (fun q _ h => hFc q h) hFc (fun r u t H1 locs ht hvm hw hB hz1 hk1 hS => ?_)
  obtain ⟨hP1, hK1, hD1⟩ := hB
  rw [ht] at hP1
  have hK1 := va_K.moved hvm.symm hK1
  have hw : r = bs_rd fb 0 8 := hw
  subst hw
  obtain ⟨hP, hD⟩ := va_join (wr := [(kf, .inl (cL, 512, .inr (.inl ff))), (ks, .inl (cL, 512, .inr (.inl fs))), (kt, .inl (cI, 512, .inl (bs_fill ft (-1) 512)))]) (w1 := [(k, .inr (1, [.ref kb, .int num, .ref kf, .ref ks, .ref kt])), (kb, .inl (cI, 160, .inl fb))]) hP hD [0, 1] [2, 3, 4] rfl rfl (by decide) (by decide) hk1 hFc hP1 hD1
  generalize H1 = H at hP hS ⊢
  have hP : va_P (dC, dI) vwCl [(kf, .inl (cL, 512, .inr (.inl ff))), (ks, .inl (cL, 512, .inr (.inl fs))), (kt, .inl (cI, 512, .inl (bs_fill ft (-1) 512))), (k, .inr (1, [.ref kb, .int num, .ref kf, .ref ks, .ref kt])), (kb, .inl (cI, 160, .inl fb))] H := hP
  have hD : va_D A [(kf, .inl (cL, 512, .inr (.inl ff))), (ks, .inl (cL, 512, .inr (.inl fs))), (kt, .inl (cI, 512, .inl (bs_fill ft (-1) 512))), (k, .inr (1, [.ref kb, .int num, .ref kf, .ref ks, .ref kt])), (kb, .inl (cI, 160, .inl fb))] := hD
  refine xa_last hx hb hK hP hD hS 0 1 rfl rfl 1 (by omega) (by decide) dKY_forgetWalks_18 (fun H locs hP hD hS => ?_)
  have hP : va_P (dC, dI) vwCl [(kf, .inl (cL, 512, .inr (.inl (vp_updL ff 1 (bs_rd fb 0 8))))), (ks, .inl (cL, 512, .inr (.inl fs))), (kt, .inl (cI, 512, .inl (bs_fill ft (-1) 512))), (k, .inr (1, [.ref kb, .int num, .ref kf, .ref ks, .ref kt])), (kb, .inl (cI, 160, .inl fb))] H := hP
  have hD : va_D A [(kf, .inl (cL, 512, .inr (.inl (vp_updL ff 1 (bs_rd fb 0 8))))), (ks, .inl (cL, 512, .inr (.inl fs))), (kt, .inl (cI, 512, .inl (bs_fill ft (-1) 512))), (k, .inr (1, [.ref kb, .int num, .ref kf, .ref ks, .ref kt])), (kb, .inl (cI, 160, .inl fb))] := hD
  refine lv_aload_n hx hb dKY_forgetWalks_19 rfl (lv_at hl 0 rfl) ?_
  refine va_get (D := (dC, dI)) (ci := 1) (v := .ref ks) (C := RKY) (T := TKY) (N := 5) hx hb hts in_KY hown hK hP 3 rfl rfl 3 (by decide) (hts _ w_f_KY_19) (fun _ h9 => h9) rfl dKY_forgetWalks_20 ?_
  refine lv_iconst (v := nI 1) hx hb dKY_forgetWalks_23 (by decide) ?_
  refine lv_aload_n hx hb dKY_forgetWalks_24 rfl (lv_at hl 0 rfl) ?_
  refine lv_bipush (v := nI 8) hx hb dKY_forgetWalks_25 (by decide) ?_
  have hPc := hP.sub (ws' := [(k, .inr (1, [.ref kb, .int num, .ref kf, .ref ks, .ref kt])), (kb, .inl (cI, 160, .inl fb))]) [3, 4] rfl
  have hDc := hD.sub (ws' := [(k, .inr (1, [.ref kb, .int num, .ref kf, .ref ks, .ref kt])), (kb, .inl (cI, 160, .inl fb))]) [3, 4] (by decide) rfl
  have hKc := hK.sub (tys' := [(cI, .int)]) [0] rfl
  have hFc := va_free (wc := [(k, .inr (1, [.ref kb, .int num, .ref kf, .ref ks, .ref kt])), (kb, .inl (cI, 160, .inl fb))]) hD hS hA [3, 4] rfl
  refine va_calll (va_runV (C := RKY) (As := [.int (nI 8)]) (rest := [.int (nI 1), .ref ks]) ⟨hx, hb, hml, hown, hts⟩ (c_KY_readHalf l dC dI H.size k kb kf ks kt num cI fb 8 (by decide)) (cwV (C := RKY) 1 hts (wT_4 w_m_KY_40 w_i_KY_readHalf w_s_KY_readHalf w_n_KY w_c_KY_readHalf) rfl rfl rfl (by decide +kernel) ⟨Nat.le_of_ble_eq_true rfl, Nat.le_of_ble_eq_true rfl⟩) ⟨fun a U g mk q => by obtain ⟨q0, q1, qP, qK, qD⟩ := q; exact ⟨q0, q1, qP, va_K.moved (u := U) (U := U.calling g mk a) (Vm.Alike.refl U.vm) qK, qD⟩, va_recv hK hP (q0 := 3) (ci := 1) (q := (RKY, TKY, 5)) rfl rfl, fun U hU hW => ⟨rfl, by rw [hU], by rw [hU]; exact hPc, va_K.moved hW.alike hKc, hDc.weaken (fun _ _ _ _ => trivial)⟩⟩ rfl rfl hl.1 rfl (lv_room (Nat.le_of_ble_eq_true rfl)) dKY_forgetWalks_27 ⟨Nat.zero_le _, Nat.zero_le _⟩) hS (fun q _ h => hFc q h) hFc (fun r u t H1 locs ht hvm hw hB hz1 hk1 hS => ?_)
  obtain ⟨hP1, hK1, hD1⟩ := hB
  rw [ht] at hP1
  have hK1 := va_K.moved hvm.symm hK1
  have hw : r = bs_rd fb 8 8 := hw
  subst hw
  obtain ⟨hP, hD⟩ := va_join (wr := [(kf, .inl (cL, 512, .inr (.inl (vp_updL ff 1 (bs_rd fb 0 8))))), (ks, .inl (cL, 512, .inr (.inl fs))), (kt, .inl (cI, 512, .inl (bs_fill ft (-1) 512)))]) (w1 := [(k, .inr (1, [.ref kb, .int num, .ref kf, .ref ks, .ref kt])), (kb, .inl (cI, 160, .inl fb))]) hP hD [3, 4] [0, 1, 2] rfl rfl (by decide) (by decide) hk1 hFc hP1 hD1
  generalize H1 = H at hP hS ⊢
  have hP : va_P (dC, dI) vwCl [(kf, .inl (cL, 512, .inr (.inl (vp_updL ff 1 (bs_rd fb 0 8))))), (ks, .inl (cL, 512, .inr (.inl fs))), (kt, .inl (cI, 512, .inl (bs_fill ft (-1) 512))), (k, .inr (1, [.ref kb, .int num, .ref kf, .ref ks, .ref kt])), (kb, .inl (cI, 160, .inl fb))] H := hP
  have hD : va_D A [(kf, .inl (cL, 512, .inr (.inl (vp_updL ff 1 (bs_rd fb 0 8))))), (ks, .inl (cL, 512, .inr (.inl fs))), (kt, .inl (cI, 512, .inl (bs_fill ft (-1) 512))), (k, .inr (1, [.ref kb, .int num, .ref kf, .ref ks, .ref kt])), (kb, .inl (cI, 160, .inl fb))] := hD
  refine xa_last hx hb hK hP hD hS 1 1 rfl rfl 1 (by omega) (by decide) dKY_forgetWalks_30 (fun H locs hP hD hS => ?_)
  have hP : va_P (dC, dI) vwCl [(kf, .inl (cL, 512, .inr (.inl (vp_updL ff 1 (bs_rd fb 0 8))))), (ks, .inl (cL, 512, .inr (.inl (vp_updL fs 1 (bs_rd fb 8 8))))), (kt, .inl (cI, 512, .inl (bs_fill ft (-1) 512))), (k, .inr (1, [.ref kb, .int num, .ref kf, .ref ks, .ref kt])), (kb, .inl (cI, 160, .inl fb))] H := hP
  have hD : va_D A [(kf, .inl (cL, 512, .inr (.inl (vp_updL ff 1 (bs_rd fb 0 8))))), (ks, .inl (cL, 512, .inr (.inl (vp_updL fs 1 (bs_rd fb 8 8))))), (kt, .inl (cI, 512, .inl (bs_fill ft (-1) 512))), (k, .inr (1, [.ref kb, .int num, .ref kf, .ref ks, .ref kt])), (kb, .inl (cI, 160, .inl fb))] := hD
  refine lv_aload_n hx hb dKY_forgetWalks_31 rfl (lv_at hl 0 rfl) ?_
  refine va_get (D := (dC, dI)) (ci := 1) (v := .ref kt) (C := RKY) (T := TKY) (N := 5) hx hb hts in_KY hown hK hP 3 rfl rfl 4 (by decide) (hts _ w_f_KY_22) (fun _ h9 => h9) rfl dKY_forgetWalks_32 ?_
  refine lv_iconst (v := nI 1) hx hb dKY_forgetWalks_35 (by decide) ?_
  refine lv_aload_n hx hb dKY_forgetWalks_36 rfl (lv_at hl 0 rfl) ?_
  refine va_get (D := (dC, dI)) (ci := 1) (v := .int num) (C := RKY) (T := TKY) (N := 5) hx hb hts in_KY hown hK hP 3 rfl rfl 1 (by decide) (hts _ w_f_KY_25) (fun _ h9 => h9) rfl dKY_forgetWalks_37 ?_
  refine xa_iast hx hb hK hP hD hS 2 0 rfl rfl 1 (by omega) (by decide) dKY_forgetWalks_40 (fun H locs hP hD hS => ?_)
  have hP : va_P (dC, dI) vwCl [(kf, .inl (cL, 512, .inr (.inl (vp_updL ff 1 (bs_rd fb 0 8))))), (ks, .inl (cL, 512, .inr (.inl (vp_updL fs 1 (bs_rd fb 8 8))))), (kt, .inl (cI, 512, .inl (upd (bs_fill ft (-1) 512) 1 num))), (k, .inr (1, [.ref kb, .int num, .ref kf, .ref ks, .ref kt])), (kb, .inl (cI, 160, .inl fb))] H := hP
  have hD : va_D A [(kf, .inl (cL, 512, .inr (.inl (vp_updL ff 1 (bs_rd fb 0 8))))), (ks, .inl (cL, 512, .inr (.inl (vp_updL fs 1 (bs_rd fb 8 8))))), (kt, .inl (cI, 512, .inl (upd (bs_fill ft (-1) 512) 1 num))), (k, .inr (1, [.ref kb, .int num, .ref kf, .ref ks, .ref kt])), (kb, .inl (cI, 160, .inl fb))] := hD
  have hP := hP.sub (ws' := [(k, .inr (1, [.ref kb, .int num, .ref kf, .ref ks, .ref kt])), (kb, .inl (cI, 160, .inl fb)), (kf, .inl (cL, 512, .inr (.inl (vp_updL ff 1 (bs_rd fb 0 8))))), (ks, .inl (cL, 512, .inr (.inl (vp_updL fs 1 (bs_rd fb 8 8))))), (kt, .inl (cI, 512, .inl (upd (bs_fill ft (-1) 512) 1 num)))]) [3, 4, 0, 1, 2] rfl
  have hD := hD.sub (ws' := [(k, .inr (1, [.ref kb, .int num, .ref kf, .ref ks, .ref kt])), (kb, .inl (cI, 160, .inl fb)), (kf, .inl (cL, 512, .inr (.inl (vp_updL ff 1 (bs_rd fb 0 8))))), (ks, .inl (cL, 512, .inr (.inl (vp_updL fs 1 (bs_rd fb 8 8))))), (kt, .inl (cI, 512, .inl (upd (bs_fill ft (-1) 512) 1 num)))]) [3, 4, 0, 1, 2] (by decide) rfl
  have hP : va_P (dC, dI) vwCl [(k, .inr (1, [.ref kb, .int num, .ref kf, .ref ks, .ref kt])), (kb, .inl (cI, 160, .inl fb)), (kf, .inl (cL, 512, .inr (.inl (vp_updL ff 1 (bs_rd fb 0 8))))), (ks, .inl (cL, 512, .inr (.inl (vp_updL fs 1 (bs_rd fb 8 8))))), (kt, .inl (cI, 512, .inl (upd (bs_fill ft (-1) 512) 1 num)))] H := hP
  have hD : va_D A [(k, .inr (1, [.ref kb, .int num, .ref kf, .ref ks, .ref kt])), (kb, .inl (cI, 160, .inl fb)), (kf, .inl (cL, 512, .inr (.inl (vp_updL ff 1 (bs_rd fb 0 8))))), (ks, .inl (cL, 512, .inr (.inl (vp_updL fs 1 (bs_rd fb 8 8))))), (kt, .inl (cI, 512, .inl (upd (bs_fill ft (-1) 512) 1 num)))] := hD
  subst hQ
  exact W.vret hx hb hr (fun t ht hW => ⟨⟨(), rfl, trivial, by rw [ht]; exact hP, va_K.moved hW.alike hK, hD⟩, hS.F ht⟩) hS.2.2 dKY_forgetWalks_41
set_option maxHeartbeats 4000000 in
set_option maxRecDepth 100000 in
theorem c_KY_setByte (l : Launch) (dC : Nat → ClassId) (dI : Nat → Nat → Nat) (sz : Nat) (k kb kf ks kt : Nat) (num : Int32) (cI : ClassId) (cL : ClassId) (fb : Nat → Int32) (ff fs : Nat → Int64) (ft : Nat → Int32) (i : Nat) (v : Int32) (hi : i < 160) : Met l yKY_setByte wsKY_setByte { frames := 2, cells := 0, slots := 0, locals := 44 } (va_Pc [.ref k, .int (nI i), .int v] (fun U => U.heap.size = sz ∧ va_P (dC, dI) vwCl [(k, .inr (1, [.ref kb, .int num, .ref kf, .ref ks, .ref kt])), (kb, .inl (cI, 160, .inl fb)), (kf, .inl (cL, 512, .inr (.inl ff))), (ks, .inl (cL, 512, .inr (.inl fs))), (kt, .inl (cI, 512, .inl ft))] U.heap ∧ va_K (dC, dI) vwCl [(cI, .int), (cL, .long)] U ∧ va_D (fun _ => True) [(k, .inr (1, [.ref kb, .int num, .ref kf, .ref ks, .ref kt])), (kb, .inl (cI, 160, .inl fb)), (kf, .inl (cL, 512, .inr (.inl ff))), (ks, .inl (cL, 512, .inr (.inl fs))), (kt, .inl (cI, 512, .inl ft))])) (va_Qv (fun (_ : Unit) => True) (fun (_ : Unit) t => va_P (dC, dI) vwCl [(k, .inr (1, [.ref kb, .int num, .ref kf, .ref ks, .ref kt])), (kb, .inl (cI, 160, .inl (upd fb i (v &&& nI 255)))), (kf, .inl (cL, 512, .inr (.inl (vp_updL ff 1 (bs_rd (upd fb i (v &&& nI 255)) 0 8))))), (ks, .inl (cL, 512, .inr (.inl (vp_updL fs 1 (bs_rd (upd fb i (v &&& nI 255)) 8 8))))), (kt, .inl (cI, 512, .inl (upd (bs_fill ft (-1) 512) 1 num)))] t.heap ∧ va_K (dC, dI) vwCl [(cI, .int), (cL, .long)] t ∧ va_D (va_A [(k, .inr (1, [.ref kb, .int num, .ref kf, .ref ks, .ref kt])), (kb, .inl (cI, 160, .inl fb)), (kf, .inl (cL, 512, .inr (.inl ff))), (ks, .inl (cL, 512, .inr (.inl fs))), (kt, .inl (cI, 512, .inl ft))] sz) [(k, .inr (1, [.ref kb, .int num, .ref kf, .ref ks, .ref kt])), (kb, .inl (cI, 160, .inl (upd fb i (v &&& nI 255)))), (kf, .inl (cL, 512, .inr (.inl (vp_updL ff 1 (bs_rd (upd fb i (v &&& nI 255)) 0 8))))), (ks, .inl (cL, 512, .inr (.inl (vp_updL fs 1 (bs_rd (upd fb i (v &&& nI 255)) 8 8))))), (kt, .inl (cI, 512, .inl (upd (bs_fill ft (-1) 512) 1 num)))]) (va_A [(k, .inr (1, [.ref kb, .int num, .ref kf, .ref ks, .ref kt])), (kb, .inl (cI, 160, .inl fb)), (kf, .inl (cL, 512, .inr (.inl ff))), (ks, .inl (cL, 512, .inr (.inl fs))), (kt, .inl (cI, 512, .inl ft))] sz)) 0 0 (va_A [(k, .inr (1, [.ref kb, .int num, .ref kf, .ref ks, .ref kt])), (kb, .inl (cI, 160, .inl fb)), (kf, .inl (cL, 512, .inr (.inl ff))), (ks, .inl (cL, 512, .inr (.inl fs))), (kt, .inl (cI, 512, .inl ft))] sz) := by
  refine Met.ofW (cc := cKY_setByte) (maxL := 3) (ret := none) (by decide) rfl ?_
  intro p e s m args below meth c s₁ B hml hv
  obtain ⟨rfl, hsz, hP, hK, hD0⟩ := hv
  have hx := B.exec
  have hb := B.bytes
  have hr := B.returns
  have hts := fun w (h : w ∈ wT) => atoms_spec (ws := wsKY_setByte) B.pre w (List.mem_cons_of_mem _ h)
  have hown : s.vm.findClass RKY = some m.cls := findClass_of_methodNamed B.named
  have hlocks := B.notSynchronized
  subst hsz
  have hD := hD0.self (sz := s.heap.size)
  generalize hAe : va_A [(k, .inr (1, [.ref kb, .int num, .ref kf, .ref ks, .ref kt])), (kb, .inl (cI, 160, .inl fb)), (kf, .inl (cL, 512, .inr (.inl ff))), (ks, .inl (cL, 512, .inr (.inl fs))), (kt, .inl (cI, 512, .inl ft))] s.heap.size = A at hD ⊢
  have hA : ∀ q : Nat, s.heap.size ≤ q → A q := fun q h => by rw [← hAe]; exact Or.inr h
  have hl := lv_entry ([.ref k, .int (nI i), .int v]) (n := 3) (Nat.le_of_ble_eq_true rfl)
  rw [lg_entry_eq]
  generalize (lg_sl ([.ref k, .int (nI i), .int v]) ++ List.replicate (3 - (lg_sl ([.ref k, .int (nI i), .int v])).length) Slot.unset).toArray = ls at hl ⊢
  have hl : lv_has ls 3 [(0, .ref k), (1, .int (nI i)), (2, .int v)] := hl
  refine xs_q (fun H Q hH hQ => ?_)
  have hS : va_S A s.heap H [] := by rw [hH]; exact va_S.rf
  have hP : va_P (dC, dI) vwCl [(k, .inr (1, [.ref kb, .int num, .ref kf, .ref ks, .ref kt])), (kb, .inl (cI, 160, .inl fb)), (kf, .inl (cL, 512, .inr (.inl ff))), (ks, .inl (cL, 512, .inr (.inl fs))), (kt, .inl (cI, 512, .inl ft))] H := by rw [hH]; exact hP
  refine lv_aload_n hx hb dKY_setByte_0 rfl (lv_at hl 0 rfl) ?_
  refine va_get (D := (dC, dI)) (ci := 1) (v := .ref kb) (C := RKY) (T := TKY) (N := 5) hx hb hts in_KY hown hK hP 0 rfl rfl 0 (by decide) (hts _ w_f_KY_11) (fun _ h9 => h9) rfl dKY_setByte_1 ?_
  refine lv_iload_n hx hb dKY_setByte_4 rfl (lv_at hl 1 rfl) ?_
  refine lv_iload_n hx hb dKY_setByte_5 rfl (lv_at hl 2 rfl) ?_
  refine lv_sipush (v := nI 255) hx hb dKY_setByte_6 (by decide) ?_
  refine lv_iand hx hb dKY_setByte_9 ?_
  refine xa_iast hx hb hK hP hD hS 1 0 rfl rfl i (by omega) (by decide) dKY_setByte_10 (fun H locs hP hD hS => ?_)
  have hP : va_P (dC, dI) vwCl [(k, .inr (1, [.ref kb, .int num, .ref kf, .ref ks, .ref kt])), (kb, .inl (cI, 160, .inl (upd fb i (v &&& (nI 255))))), (kf, .inl (cL, 512, .inr (.inl ff))), (ks, .inl (cL, 512, .inr (.inl fs))), (kt, .inl (cI, 512, .inl ft))] H := hP
  have hD : va_D A [(k, .inr (1, [.ref kb, .int num, .ref kf, .ref ks, .ref kt])), (kb, .inl (cI, 160, .inl (upd fb i (v &&& (nI 255))))), (kf, .inl (cL, 512, .inr (.inl ff))), (ks, .inl (cL, 512, .inr (.inl fs))), (kt, .inl (cI, 512, .inl ft))] := hD
  refine lv_aload_n hx hb dKY_setByte_11 rfl (lv_at hl 0 rfl) ?_
  have hP : va_P (dC, dI) vwCl [(k, .inr (1, [.ref kb, .int num, .ref kf, .ref ks, .ref kt])), (kb, .inl (cI, 160, .inl (upd fb i (v &&& nI 255)))), (kf, .inl (cL, 512, .inr (.inl ff))), (ks, .inl (cL, 512, .inr (.inl fs))), (kt, .inl (cI, 512, .inl ft))] H := hP
  have hD : va_D A [(k, .inr (1, [.ref kb, .int num, .ref kf, .ref ks, .ref kt])), (kb, .inl (cI, 160, .inl (upd fb i (v &&& nI 255)))), (kf, .inl (cL, 512, .inr (.inl ff))), (ks, .inl (cL, 512, .inr (.inl fs))), (kt, .inl (cI, 512, .inl ft))] := hD
  have hPc := hP.sub (ws' := [(k, .inr (1, [.ref kb, .int num, .ref kf, .ref ks, .ref kt])), (kb, .inl (cI, 160, .inl (upd fb i (v &&& nI 255)))), (kf, .inl (cL, 512, .inr (.inl ff))), (ks, .inl (cL, 512, .inr (.inl fs))), (kt, .inl (cI, 512, .inl ft))]) [0, 1, 2, 3, 4] rfl
  have hDc := hD.sub (ws' := [(k, .inr (1, [.ref kb, .int num, .ref kf, .ref ks, .ref kt])), (kb, .inl (cI, 160, .inl (upd fb i (v &&& nI 255)))), (kf, .inl (cL, 512, .inr (.inl ff))), (ks, .inl (cL, 512, .inr (.inl fs))), (kt, .inl (cI, 512, .inl ft))]) [0, 1, 2, 3, 4] (by decide) rfl
  have hKc := hK.sub (tys' := [(cI, .int), (cL, .long)]) [0, 1] rfl
  have hFc := va_free (wc := [(k, .inr (1, [.ref kb, .int num, .ref kf, .ref ks, .ref kt])), (kb, .inl (cI, 160, .inl (upd fb i (v &&& nI 255)))), (kf, .inl (cL, 512, .inr (.inl ff))), (ks, .inl (cL, 512, .inr (.inl fs))), (kt, .inl (cI, 512, .inl ft))]) hD hS hA [0, 1, 2, 3, 4] rfl
  refine va_callv (va_runV (C := RKY) (As := []) (rest := []) ⟨hx, hb, hml, hown, hts⟩ (c_KY_forgetWalks l dC dI H.size k kb kf ks kt num cI cL (upd fb i (v &&& nI 255)) ff fs ft) (cwV (C := RKY) 0 hts (wT_4 w_m_KY_29 w_i_KY_forgetWalks w_s_KY_forgetWalks w_n_KY w_c_KY_forgetWalks) rfl rfl rfl (by decide +kernel) ⟨Nat.le_of_ble_eq_true rfl, Nat.le_of_ble_eq_true rfl⟩) ⟨fun a U g mk q => by obtain ⟨q0, q1, qP, qK, qD⟩ := q; exact ⟨q0, q1, qP, va_K.moved (u := U) (U := U.calling g mk a) (Vm.Alike.refl U.vm) qK, qD⟩, va_recv hK hP (q0 := 0) (ci := 1) (q := (RKY, TKY, 5)) rfl rfl, fun U hU hW => ⟨rfl, by rw [hU], by rw [hU]; exact hPc, va_K.moved hW.alike hKc, hDc.weaken (fun _ _ _ _ => trivial)⟩⟩ rfl rfl hl.1 rfl (lv_room (Nat.le_of_ble_eq_true rfl)) dKY_setByte_12 ⟨Nat.zero_le _, Nat.zero_le _⟩) hS (fun q _ h => hFc q h) hFc (fun u t H1 locs ht hvm hw hB hz1 hk1 hS => ?_)
  obtain ⟨hP1, hK1, hD1⟩ := hB
  rw [ht] at hP1
  have hK1 := va_K.moved hvm.symm hK1
  obtain ⟨hP, hD⟩ := va_join (wr := []) (w1 := [(k, .inr (1, [.ref kb, .int num, .ref kf, .ref ks, .ref kt])), (kb, .inl (cI, 160, .inl (upd fb i (v &&& nI 255)))), (kf, .inl (cL, 512, .inr (.inl (vp_updL ff 1 (bs_rd (upd fb i (v &&& nI 255)) 0 8))))), (ks, .inl (cL, 512, .inr (.inl (vp_updL fs 1 (bs_rd (upd fb i (v &&& nI 255)) 8 8))))), (kt, .inl (cI, 512, .inl (upd (bs_fill ft (-1) 512) 1 num)))]) hP hD [0, 1, 2, 3, 4] [] rfl rfl (by decide) (by decide) hk1 hFc hP1 hD1
  generalize H1 = H at hP hS ⊢
  have hP : va_P (dC, dI) vwCl [(k, .inr (1, [.ref kb, .int num, .ref kf, .ref ks, .ref kt])), (kb, .inl (cI, 160, .inl (upd fb i (v &&& nI 255)))), (kf, .inl (cL, 512, .inr (.inl (vp_updL ff 1 (bs_rd (upd fb i (v &&& nI 255)) 0 8))))), (ks, .inl (cL, 512, .inr (.inl (vp_updL fs 1 (bs_rd (upd fb i (v &&& nI 255)) 8 8))))), (kt, .inl (cI, 512, .inl (upd (bs_fill ft (-1) 512) 1 num)))] H := hP
  have hD : va_D A [(k, .inr (1, [.ref kb, .int num, .ref kf, .ref ks, .ref kt])), (kb, .inl (cI, 160, .inl (upd fb i (v &&& nI 255)))), (kf, .inl (cL, 512, .inr (.inl (vp_updL ff 1 (bs_rd (upd fb i (v &&& nI 255)) 0 8))))), (ks, .inl (cL, 512, .inr (.inl (vp_updL fs 1 (bs_rd (upd fb i (v &&& nI 255)) 8 8))))), (kt, .inl (cI, 512, .inl (upd (bs_fill ft (-1) 512) 1 num)))] := hD
  have hP : va_P (dC, dI) vwCl [(k, .inr (1, [.ref kb, .int num, .ref kf, .ref ks, .ref kt])), (kb, .inl (cI, 160, .inl (upd fb i (v &&& nI 255)))), (kf, .inl (cL, 512, .inr (.inl (vp_updL ff 1 (bs_rd (upd fb i (v &&& nI 255)) 0 8))))), (ks, .inl (cL, 512, .inr (.inl (vp_updL fs 1 (bs_rd (upd fb i (v &&& nI 255)) 8 8))))), (kt, .inl (cI, 512, .inl (upd (bs_fill ft (-1) 512) 1 num)))] H := hP
  have hD : va_D A [(k, .inr (1, [.ref kb, .int num, .ref kf, .ref ks, .ref kt])), (kb, .inl (cI, 160, .inl (upd fb i (v &&& nI 255)))), (kf, .inl (cL, 512, .inr (.inl (vp_updL ff 1 (bs_rd (upd fb i (v &&& nI 255)) 0 8))))), (ks, .inl (cL, 512, .inr (.inl (vp_updL fs 1 (bs_rd (upd fb i (v &&& nI 255)) 8 8))))), (kt, .inl (cI, 512, .inl (upd (bs_fill ft (-1) 512) 1 num)))] := hD
  subst hQ
  exact W.vret hx hb hr (fun t ht hW => ⟨⟨(), rfl, trivial, by rw [ht]; exact hP, va_K.moved hW.alike hK, hD⟩, hS.F ht⟩) hS.2.2 dKY_setByte_15
set_option maxHeartbeats 4000000 in
set_option maxRecDepth 100000 in
theorem c_KY_isGood (l : Launch) (dC : Nat → ClassId) (dI : Nat → Nat → Nat) (sz : Nat) (k kb kf ks kt : Nat) (num : Int32) (cI : ClassId) (fb : Nat → Int32)  : Met l yKY_isGood wsKY_isGood { frames := 0, cells := 0, slots := 0, locals := 0 } (va_Pc [.ref k] (fun U => U.heap.size = sz ∧ va_P (dC, dI) vwCl [(k, .inr (1, [.ref kb, .int num, .ref kf, .ref ks, .ref kt])), (kb, .inl (cI, 160, .inl fb))] U.heap ∧ va_K (dC, dI) vwCl [(cI, .int)] U ∧ va_D (fun _ => True) [(k, .inr (1, [.ref kb, .int num, .ref kf, .ref ks, .ref kt])), (kb, .inl (cI, 160, .inl fb))])) (va_Qi (fun (r : Int32) (_ : Unit) => r = bs_z (bs_gd fb 8)) (fun (_ : Unit) t => va_P (dC, dI) vwCl [(k, .inr (1, [.ref kb, .int num, .ref kf, .ref ks, .ref kt])), (kb, .inl (cI, 160, .inl fb))] t.heap ∧ va_K (dC, dI) vwCl [(cI, .int)] t ∧ va_D (va_A [(k, .inr (1, [.ref kb, .int num, .ref kf, .ref ks, .ref kt])), (kb, .inl (cI, 160, .inl fb))] sz) [(k, .inr (1, [.ref kb, .int num, .ref kf, .ref ks, .ref kt])), (kb, .inl (cI, 160, .inl fb))]) (va_A [(k, .inr (1, [.ref kb, .int num, .ref kf, .ref ks, .ref kt])), (kb, .inl (cI, 160, .inl fb))] sz)) 0 0 (va_A [(k, .inr (1, [.ref kb, .int num, .ref kf, .ref ks, .ref kt])), (kb, .inl (cI, 160, .inl fb))] sz) := by
  refine Met.ofW (cc := cKY_isGood) (maxL := 3) (ret := (some .boolean)) (by decide) rfl ?_
  intro p e s m args below meth c s₁ B hml hv
  obtain ⟨rfl, hsz, hP, hK, hD0⟩ := hv
  have hx := B.exec
  have hb := B.bytes
  have hr := B.returns
  have hts := fun w (h : w ∈ wT) => atoms_spec (ws := wsKY_isGood) B.pre w (List.mem_cons_of_mem _ h)
  have hown : s.vm.findClass RKY = some m.cls := findClass_of_methodNamed B.named
  have hlocks := B.notSynchronized
  subst hsz
  have hD := hD0.self (sz := s.heap.size)
  generalize hAe : va_A [(k, .inr (1, [.ref kb, .int num, .ref kf, .ref ks, .ref kt])), (kb, .inl (cI, 160, .inl fb))] s.heap.size = A at hD ⊢
  have hA : ∀ q : Nat, s.heap.size ≤ q → A q := fun q h => by rw [← hAe]; exact Or.inr h
  have hl := lv_entry ([.ref k]) (n := 3) (Nat.le_of_ble_eq_true rfl)
  rw [lg_entry_eq]
  generalize (lg_sl ([.ref k]) ++ List.replicate (3 - (lg_sl ([.ref k])).length) Slot.unset).toArray = ls at hl ⊢
  have hl : lv_has ls 3 [(0, .ref k)] := hl
  refine xs_q (fun H Q hH hQ => ?_)
  have hS : va_S A s.heap H [] := by rw [hH]; exact va_S.rf
  have hP : va_P (dC, dI) vwCl [(k, .inr (1, [.ref kb, .int num, .ref kf, .ref ks, .ref kt])), (kb, .inl (cI, 160, .inl fb))] H := by rw [hH]; exact hP
  refine lv_iconst (v := nI 0) hx hb dKY_isGood_0 (by decide) ?_
  refine lv_istore_n (lv' := [(1, .int (nI 0)), (0, .ref k)]) hx hb dKY_isGood_1 rfl hl (by decide) rfl (fun ls hl => ?_)
  have loop : ∀ (n i : Nat), i + n = 8 → ∀ (H : Heap) (locs : List Loc) (ls : Array Slot), (bs_gd fb i = true) → va_P (dC, dI) vwCl [(k, .inr (1, [.ref kb, .int num, .ref kf, .ref ks, .ref kt])), (kb, .inl (cI, 160, .inl fb))] H → va_D A [(k, .inr (1, [.ref kb, .int num, .ref kf, .ref ks, .ref kt])), (kb, .inl (cI, 160, .inl fb))] → va_S A s.heap H locs → lv_has ls 3 [(0, .ref k), (1, .int (nI i))] → W p l e (headSpec wsKY_isGood { frames := 0, cells := 0, slots := 0, locals := 0 }).room s m ([.ref k] : List Value).toArray below meth c H locs 0 0 Q (F0 m 2 ls []) := by
    intro n
    induction n with
    | zero =>
      intro i hi H locs ls hq hP hD hS hl
      obtain rfl : i = 8 := by omega
      refine lv_iload_n hx hb dKY_isGood_2 rfl (lv_at hl 1 rfl) ?_
      refine lv_bipush (v := nI 8) hx hb dKY_isGood_3 (by decide) ?_
      refine lv_icmp_ge (tgt := 54) hx hb dKY_isGood_5 (by decide) (fun _ => ?_) (fun h => absurd (nI_le (by omega) (by omega)) h)
      refine lv_iconst (v := nI 1) hx hb dKY_isGood_54 (by decide) ?_
      have hP : va_P (dC, dI) vwCl [(k, .inr (1, [.ref kb, .int num, .ref kf, .ref ks, .ref kt])), (kb, .inl (cI, 160, .inl fb))] H := hP
      have hD : va_D A [(k, .inr (1, [.ref kb, .int num, .ref kf, .ref ks, .ref kt])), (kb, .inl (cI, 160, .inl fb))] := hD
      subst hQ
      exact W.zret (v := nI 1) hx hb hr (by first | rfl | decide | exact xz_n (by assumption)) (fun t ht hW => ⟨⟨nI 1, (), rfl, by rw [hq]; rfl, by rw [ht]; exact hP, va_K.moved hW.alike hK, hD⟩, hS.F ht⟩) hS.2.2 dKY_isGood_55
    | succ n ih =>
      intro i hi H locs ls hq hP hD hS hl
      refine lv_iload_n hx hb dKY_isGood_2 rfl (lv_at hl 1 rfl) ?_
      refine lv_bipush (v := nI 8) hx hb dKY_isGood_3 (by decide) ?_
      refine lv_icmp_ge (tgt := 54) hx hb dKY_isGood_5 (by decide) (fun h => absurd h (nI_ge (by omega) (by omega))) (fun _ => ?_)
      refine lv_bipush (v := nI 16) hx hb dKY_isGood_8 (by decide) ?_
      refine lv_bipush (v := nI 17) hx hb dKY_isGood_10 (by decide) ?_
      refine lv_iload_n hx hb dKY_isGood_12 rfl (lv_at hl 1 rfl) ?_
      refine lv_imul hx hb dKY_isGood_13 ?_
      refine xt_i (y := nI (17 * i)) (pk_mul _ _) ?_
      refine lv_iadd hx hb dKY_isGood_14 ?_
      refine xt_i (y := nI (16 + 17 * i)) (nI_add _ _) ?_
      refine lv_istore_n (lv' := [(2, .int (nI (16 + 17 * i))), (0, .ref k), (1, .int (nI i))]) hx hb dKY_isGood_15 rfl hl (by decide) rfl (fun ls hl => ?_)
      refine lv_aload_n hx hb dKY_isGood_16 rfl (lv_at hl 1 rfl) ?_
      refine va_get (D := (dC, dI)) (ci := 1) (v := .ref kb) (C := RKY) (T := TKY) (N := 5) hx hb hts in_KY hown hK hP 0 rfl rfl 0 (by decide) (hts _ w_f_KY_11) (fun _ h9 => h9) rfl dKY_isGood_17 ?_
      refine lv_iload_n hx hb dKY_isGood_20 rfl (lv_at hl 0 rfl) ?_
      refine lv_bipush (v := nI 15) hx hb dKY_isGood_21 (by decide) ?_
      refine lv_iadd hx hb dKY_isGood_23 ?_
      refine xt_i (y := nI (16 + 17 * i + 15)) (nI_add _ _) ?_
      refine xa_iald hx hb hK hP 1 0 rfl rfl (16 + 17 * i + 15) (by omega) (by decide) dKY_isGood_24 ?_
      refine lv_iconst (v := nI 1) hx hb dKY_isGood_25 (by decide) ?_
      refine lv_iand hx hb dKY_isGood_26 ?_
      refine lv_if_ne (tgt := 46) hx hb dKY_isGood_27 (by decide) (fun hc => ?_) (fun hc => ?_)
      · have e9 : bs_ok fb i = false := by unfold bs_ok; rw [decide_eq_false hc, Bool.false_and]
        refine lv_iconst (v := nI 0) hx hb dKY_isGood_46 (by decide) ?_
        have hP : va_P (dC, dI) vwCl [(k, .inr (1, [.ref kb, .int num, .ref kf, .ref ks, .ref kt])), (kb, .inl (cI, 160, .inl fb))] H := hP
        have hD : va_D A [(k, .inr (1, [.ref kb, .int num, .ref kf, .ref ks, .ref kt])), (kb, .inl (cI, 160, .inl fb))] := hD
        subst hQ
        exact W.zret (v := nI 0) hx hb hr (by first | rfl | decide | exact xz_n (by assumption)) (fun t ht hW => ⟨⟨nI 0, (), rfl, by rw [bs_gd_f e9 8 (by omega)]; rfl, by rw [ht]; exact hP, va_K.moved hW.alike hK, hD⟩, hS.F ht⟩) hS.2.2 dKY_isGood_47
      · refine lv_aload_n hx hb dKY_isGood_30 rfl (lv_at hl 1 rfl) ?_
        refine va_get (D := (dC, dI)) (ci := 1) (v := .ref kb) (C := RKY) (T := TKY) (N := 5) hx hb hts in_KY hown hK hP 0 rfl rfl 0 (by decide) (hts _ w_f_KY_11) (fun _ h9 => h9) rfl dKY_isGood_31 ?_
        refine lv_iload_n hx hb dKY_isGood_34 rfl (lv_at hl 0 rfl) ?_
        refine lv_bipush (v := nI 16) hx hb dKY_isGood_35 (by decide) ?_
        refine lv_iadd hx hb dKY_isGood_37 ?_
        refine xt_i (y := nI (16 + 17 * i + 16)) (nI_add _ _) ?_
        refine xa_iald hx hb hK hP 1 0 rfl rfl (16 + 17 * i + 16) (by omega) (by decide) dKY_isGood_38 ?_
        refine lv_sipush (v := nI 252) hx hb dKY_isGood_39 (by decide) ?_
        refine lv_iand hx hb dKY_isGood_42 ?_
        refine lv_if_eq (tgt := 48) hx hb dKY_isGood_43 (by decide) (fun hc2 => ?_) (fun hc2 => ?_)
        · refine lv_iinc (k := 2) (v := nI (i + 1)) (lv' := [(1, .int (nI (i + 1))), (2, .int (nI (16 + 17 * i))), (0, .ref k)]) hx hb dKY_isGood_48 hl rfl (xi_1 _) (by decide) rfl (fun ls hl => ?_)
          refine lv_goto (tgt := 2) hx hb dKY_isGood_51 (by decide) ?_
          have e9 : bs_ok fb i = true := by unfold bs_ok; rw [decide_eq_true hc, decide_eq_true hc2]; rfl
          have hP : va_P (dC, dI) vwCl [(k, .inr (1, [.ref kb, .int num, .ref kf, .ref ks, .ref kt])), (kb, .inl (cI, 160, .inl fb))] H := hP
          have hD : va_D A [(k, .inr (1, [.ref kb, .int num, .ref kf, .ref ks, .ref kt])), (kb, .inl (cI, 160, .inl fb))] := hD
          have hl := lv_sub hl (l' := [(0, .ref k), (1, .int (nI (i + 1)))]) [2, 0] rfl
          have hl : lv_has ls 3 [(0, .ref k), (1, .int (nI (i + 1)))] := hl
          exact ih (i + 1) (by omega) H _ ls (by unfold bs_gd; rw [hq, e9]; rfl) hP hD hS hl
        · have e9 : bs_ok fb i = false := by unfold bs_ok; rw [decide_eq_false hc2, Bool.and_false]
          refine lv_iconst (v := nI 0) hx hb dKY_isGood_46 (by decide) ?_
          have hP : va_P (dC, dI) vwCl [(k, .inr (1, [.ref kb, .int num, .ref kf, .ref ks, .ref kt])), (kb, .inl (cI, 160, .inl fb))] H := hP
          have hD : va_D A [(k, .inr (1, [.ref kb, .int num, .ref kf, .ref ks, .ref kt])), (kb, .inl (cI, 160, .inl fb))] := hD
          subst hQ
          exact W.zret (v := nI 0) hx hb hr (by first | rfl | decide | exact xz_n (by assumption)) (fun t ht hW => ⟨⟨nI 0, (), rfl, by rw [bs_gd_f e9 8 (by omega)]; rfl, by rw [ht]; exact hP, va_K.moved hW.alike hK, hD⟩, hS.F ht⟩) hS.2.2 dKY_isGood_47
  have hP : va_P (dC, dI) vwCl [(k, .inr (1, [.ref kb, .int num, .ref kf, .ref ks, .ref kt])), (kb, .inl (cI, 160, .inl fb))] H := hP
  have hD : va_D A [(k, .inr (1, [.ref kb, .int num, .ref kf, .ref ks, .ref kt])), (kb, .inl (cI, 160, .inl fb))] := hD
  have hl := lv_sub hl (l' := [(0, .ref k), (1, .int (nI 0))]) [1, 0] rfl
  have hl : lv_has ls 3 [(0, .ref k), (1, .int (nI 0))] := hl
  exact loop (8 - 0) 0 (by omega) H _ ls (rfl) hP hD hS hl
