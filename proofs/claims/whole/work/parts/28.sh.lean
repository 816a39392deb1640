/-! Shelf -/
set_option maxHeartbeats 4000000 in
set_option maxRecDepth 100000 in
theorem c_SH_recordsOf (l : Launch) (dC : Nat → ClassId) (dI : Nat → Nat → Nat) (sz : Nat) (h ra op : Nat) (v : Nat) (lc : Int32) (cJ : ClassId) (gr : Nat → Option Nat) (x ad : Nat) (hx9 : x < 2 ^ 31) (hgr : gr (x % 9) = some ad) : Met l ySH_recordsOf wsSH_recordsOf { frames := 1, cells := 0, slots := 0, locals := 40 } (va_Pc [.ref h, .int (nI x)] (fun U => U.heap.size = sz ∧ va_P (dC, dI) vwCl [(h, .inr (4, [.ref ra, .ref op, .int (nI v), .int lc])), (ra, .inl (cJ, 9, .inr (.inr (.inr (.inr gr)))))] U.heap ∧ va_K (dC, dI) vwCl [(cJ, .array .long)] U ∧ va_D (fun _ => True) [(h, .inr (4, [.ref ra, .ref op, .int (nI v), .int lc])), (ra, .inl (cJ, 9, .inr (.inr (.inr (.inr gr)))))])) (va_Qr (fun (_ : Unit) => True) (fun (_ : Unit) (rq9 : Nat) t => rq9 = ad ∧ va_P (dC, dI) vwCl [(h, .inr (4, [.ref ra, .ref op, .int (nI v), .int lc])), (ra, .inl (cJ, 9, .inr (.inr (.inr (.inr gr)))))] t.heap ∧ va_K (dC, dI) vwCl [(cJ, .array .long)] t ∧ va_D (va_A [(h, .inr (4, [.ref ra, .ref op, .int (nI v), .int lc])), (ra, .inl (cJ, 9, .inr (.inr (.inr (.inr gr)))))] sz) [(h, .inr (4, [.ref ra, .ref op, .int (nI v), .int lc])), (ra, .inl (cJ, 9, .inr (.inr (.inr (.inr gr)))))]) (va_A [(h, .inr (4, [.ref ra, .ref op, .int (nI v), .int lc])), (ra, .inl (cJ, 9, .inr (.inr (.inr (.inr gr)))))] sz)) 0 0 (va_A [(h, .inr (4, [.ref ra, .ref op, .int (nI v), .int lc])), (ra, .inl (cJ, 9, .inr (.inr (.inr (.inr gr)))))] sz) := by
  refine Met.ofW (cc := cSH_recordsOf) (maxL := 2) (ret := (some (.array .long))) (by decide) rfl ?_
  intro p e s m args below meth c s₁ B hml hv
  obtain ⟨rfl, hsz, hP, hK, hD0⟩ := hv
  have hx := B.exec
  have hb := B.bytes
  have hr := B.returns
  have hts := fun w (h : w ∈ wT) => atoms_spec (ws := wsSH_recordsOf) B.pre w (List.mem_cons_of_mem _ h)
  have hown : s.vm.findClass RSH = some m.cls := findClass_of_methodNamed B.named
  have hlocks := B.notSynchronized
  subst hsz
  have hD := hD0.self (sz := s.heap.size)
  generalize hAe : va_A [(h, .inr (4, [.ref ra, .ref op, .int (nI v), .int lc])), (ra, .inl (cJ, 9, .inr (.inr (.inr (.inr gr)))))] s.heap.size = A at hD ⊢
  have hA : ∀ q : Nat, s.heap.size ≤ q → A q := fun q h => by rw [← hAe]; exact Or.inr h
  have hl := lv_entry ([.ref h, .int (nI x)]) (n := 2) (Nat.le_of_ble_eq_true rfl)
  rw [lg_entry_eq]
  generalize (lg_sl ([.ref h, .int (nI x)]) ++ List.replicate (2 - (lg_sl ([.ref h, .int (nI x)])).length) Slot.unset).toArray = ls at hl ⊢
  have hl : lv_has ls 2 [(0, .ref h), (1, .int (nI x))] := hl
  refine xs_q (fun H Q hH hQ => ?_)
  have hS : va_S A s.heap H [] := by rw [hH]; exact va_S.rf
  have hP : va_P (dC, dI) vwCl [(h, .inr (4, [.ref ra, .ref op, .int (nI v), .int lc])), (ra, .inl (cJ, 9, .inr (.inr (.inr (.inr gr)))))] H := by rw [hH]; exact hP
  refine lv_aload_n hx hb dSH_recordsOf_0 rfl (lv_at hl 0 rfl) ?_
  refine va_get (D := (dC, dI)) (ci := 4) (v := .ref ra) (C := RSH) (T := TSH) (N := 4) hx hb hts in_SH hown hK hP 0 rfl rfl 0 (by decide) (hts _ w_f_SH_13) (fun _ h9 => h9) rfl dSH_recordsOf_1 ?_
  refine lv_iload_n hx hb dSH_recordsOf_4 rfl (lv_at hl 1 rfl) ?_
  refine lv_bipush (v := nI 9) hx hb dSH_recordsOf_5 (by decide) ?_
  have hPc := hP.sub (ws' := []) [] rfl
  have hDc := hD.sub (ws' := []) [] (by decide) rfl
  have hKc := hK.sub (tys' := []) [] rfl
  have hFc := va_free (wc := []) hD hS hA [] rfl
  refine va_calli (va_runS (As := [.int (nI x), .int (nI 9)]) (rest := [.ref ra]) ⟨hx, hb, hml, hown, hts⟩ (c_JM_floorMod l dC dI H.size x hx9) (va_cwS 2 hts (wT_3 w_m_SH_50 w_t_JM_floorMod w_n_JM w_c_JM_floorMod) rfl rfl rfl (by decide +kernel) ⟨Nat.le_of_ble_eq_true rfl, Nat.le_of_ble_eq_true rfl⟩) ⟨fun a U g mk q => by obtain ⟨q0, q1, qP, qK, qD⟩ := q; exact ⟨q0, q1, qP, va_K.moved (u := U) (U := U.calling g mk a) (Vm.Alike.refl U.vm) qK, qD⟩, fun U hU hW => ⟨rfl, by rw [hU], by rw [hU]; exact hPc, va_K.moved hW.alike hKc, hDc.weaken (fun _ _ _ _ => trivial)⟩⟩ rfl rfl hl.1 rfl (lv_room (Nat.le_of_ble_eq_true rfl)) dSH_recordsOf_7 ⟨Nat.zero_le _, Nat.zero_le _⟩) hS (fun q _ h => hFc q h) hFc (fun r u t H1 locs ht hvm hw hB hz1 hk1 hS => ?_)
  obtain ⟨hP1, hK1, hD1⟩ := hB
  rw [ht] at hP1
  have hK1 := va_K.moved hvm.symm hK1
  have hw : r = nI (x % 9) := hw
  subst hw
  obtain ⟨hP, hD⟩ := va_join (wr := [(h, .inr (4, [.ref ra, .ref op, .int (nI v), .int lc])), (ra, .inl (cJ, 9, .inr (.inr (.inr (.inr gr)))))]) (w1 := []) hP hD [] [0, 1] rfl rfl (by decide) (by decide) hk1 hFc hP1 hD1
  generalize H1 = H at hP hS ⊢
  have hP : va_P (dC, dI) vwCl [(h, .inr (4, [.ref ra, .ref op, .int (nI v), .int lc])), (ra, .inl (cJ, 9, .inr (.inr (.inr (.inr gr)))))] H := hP
  have hD : va_D A [(h, .inr (4, [.ref ra, .ref op, .int (nI v), .int lc])), (ra, .inl (cJ, 9, .inr (.inr (.inr (.inr gr)))))] := hD
  refine xa_aald hx hb hK hP 1 0 rfl rfl rfl (x % 9) (by omega) (by decide) dSH_recordsOf_10 ?_
  refine xt_v (y := .ref ad) (by rw [hgr]; rfl) ?_
  have hP : va_P (dC, dI) vwCl [(h, .inr (4, [.ref ra, .ref op, .int (nI v), .int lc])), (ra, .inl (cJ, 9, .inr (.inr (.inr (.inr gr)))))] H := hP
  have hD : va_D A [(h, .inr (4, [.ref ra, .ref op, .int (nI v), .int lc])), (ra, .inl (cJ, 9, .inr (.inr (.inr (.inr gr)))))] := hD
  subst hQ
  exact W.aret (v := .ref ad) hx hb hr (Or.inr ⟨_, rfl⟩) (Or.inr ⟨_, rfl⟩) (fun t ht hW => ⟨⟨(), ad, rfl, trivial, rfl, by rw [ht]; exact hP, va_K.moved hW.alike hK, hD⟩, hS.F ht⟩) hS.2.2 dSH_recordsOf_11
set_option maxHeartbeats 4000000 in
set_option maxRecDepth 100000 in
theorem c_SH_openChanges (l : Launch) (dC : Nat → ClassId) (dI : Nat → Nat → Nat) (sz : Nat) (h ra op : Nat) (v : Nat) (lc : Int32) (cJ cL : ClassId) (gr : Nat → Option Nat) (ad : Nat) (fo fr : Nat → Int64) (hv : v < 2 ^ 30) (hgr : gr (v % 9) = some ad) : Met l ySH_openChanges wsSH_openChanges { frames := 2, cells := 0, slots := 0, locals := 61 } (va_Pc [.ref h] (fun U => U.heap.size = sz ∧ va_P (dC, dI) vwCl [(h, .inr (4, [.ref ra, .ref op, .int (nI v), .int lc])), (ra, .inl (cJ, 9, .inr (.inr (.inr (.inr gr))))), (op, .inl (cL, 256, .inr (.inl fo))), (ad, .inl (cL, 256, .inr (.inl fr)))] U.heap ∧ va_K (dC, dI) vwCl [(cJ, .array .long), (cL, .long)] U ∧ va_D (fun _ => True) [(h, .inr (4, [.ref ra, .ref op, .int (nI v), .int lc])), (ra, .inl (cJ, 9, .inr (.inr (.inr (.inr gr))))), (op, .inl (cL, 256, .inr (.inl fo))), (ad, .inl (cL, 256, .inr (.inl fr)))])) (va_Qi (fun (r : Int32) (_ : Unit) => r = nI (bs_chg fo fr 256)) (fun (_ : Unit) t => va_P (dC, dI) vwCl [(h, .inr (4, [.ref ra, .ref op, .int (nI v), .int lc])), (ra, .inl (cJ, 9, .inr (.inr (.inr (.inr gr))))), (op, .inl (cL, 256, .inr (.inl fo))), (ad, .inl (cL, 256, .inr (.inl fr)))] t.heap ∧ va_K (dC, dI) vwCl [(cJ, .array .long), (cL, .long)] t ∧ va_D (va_A [(h, .inr (4, [.ref ra, .ref op, .int (nI v), .int lc])), (ra, .inl (cJ, 9, .inr (.inr (.inr (.inr gr))))), (op, .inl (cL, 256, .inr (.inl fo))), (ad, .inl (cL, 256, .inr (.inl fr)))] sz) [(h, .inr (4, [.ref ra, .ref op, .int (nI v), .int lc])), (ra, .inl (cJ, 9, .inr (.inr (.inr (.inr gr))))), (op, .inl (cL, 256, .inr (.inl fo))), (ad, .inl (cL, 256, .inr (.inl fr)))]) (va_A [(h, .inr (4, [.ref ra, .ref op, .int (nI v), .int lc])), (ra, .inl (cJ, 9, .inr (.inr (.inr (.inr gr))))), (op, .inl (cL, 256, .inr (.inl fo))), (ad, .inl (cL, 256, .inr (.inl fr)))] sz)) 0 0 (va_A [(h, .inr (4, [.ref ra, .ref op, .int (nI v), .int lc])), (ra, .inl (cJ, 9, .inr (.inr (.inr (.inr gr))))), (op, .inl (cL, 256, .inr (.inl fo))), (ad, .inl (cL, 256, .inr (.inl fr)))] sz) := by
  refine Met.ofW (cc := cSH_openChanges) (maxL := 4) (ret := (some .int)) (by decide) rfl ?_
  intro p e s m args below meth c s₁ B hml hv
  obtain ⟨rfl, hsz, hP, hK, hD0⟩ := hv
  have hx := B.exec
  have hb := B.bytes
  have hr := B.returns
  have hts := fun w (h : w ∈ wT) => atoms_spec (ws := wsSH_openChanges) B.pre w (List.mem_cons_of_mem _ h)
  have hown : s.vm.findClass RSH = some m.cls := findClass_of_methodNamed B.named
  have hlocks := B.notSynchronized
  subst hsz
  have hD := hD0.self (sz := s.heap.size)
  generalize hAe : va_A [(h, .inr (4, [.ref ra, .ref op, .int (nI v), .int lc])), (ra, .inl (cJ, 9, .inr (.inr (.inr (.inr gr))))), (op, .inl (cL, 256, .inr (.inl fo))), (ad, .inl (cL, 256, .inr (.inl fr)))] s.heap.size = A at hD ⊢
  have hA : ∀ q : Nat, s.heap.size ≤ q → A q := fun q h => by rw [← hAe]; exact Or.inr h
  have hl := lv_entry ([.ref h]) (n := 4) (Nat.le_of_ble_eq_true rfl)
  rw [lg_entry_eq]
  generalize (lg_sl ([.ref h]) ++ List.replicate (4 - (lg_sl ([.ref h])).length) Slot.unset).toArray = ls at hl ⊢
  have hl : lv_has ls 4 [(0, .ref h)] := hl
  refine xs_q (fun H Q hH hQ => ?_)
  have hS : va_S A s.heap H [] := by rw [hH]; exact va_S.rf
  have hP : va_P (dC, dI) vwCl [(h, .inr (4, [.ref ra, .ref op, .int (nI v), .int lc])), (ra, .inl (cJ, 9, .inr (.inr (.inr (.inr gr))))), (op, .inl (cL, 256, .inr (.inl fo))), (ad, .inl (cL, 256, .inr (.inl fr)))] H := by rw [hH]; exact hP
  refine lv_aload_n hx hb dSH_openChanges_0 rfl (lv_at hl 0 rfl) ?_
  refine lv_aload_n hx hb dSH_openChanges_1 rfl (lv_at hl 0 rfl) ?_
  refine va_get (D := (dC, dI)) (ci := 4) (v := .int (nI v)) (C := RSH) (T := TSH) (N := 4) hx hb hts in_SH hown hK hP 0 rfl rfl 2 (by decide) (hts _ w_f_SH_28) (fun _ h9 => h9) rfl dSH_openChanges_2 ?_
  have hPc := hP.sub (ws' := [(h, .inr (4, [.ref ra, .ref op, .int (nI v), .int lc])), (ra, .inl (cJ, 9, .inr (.inr (.inr (.inr gr)))))]) [0, 1] rfl
  have hDc := hD.sub (ws' := [(h, .inr (4, [.ref ra, .ref op, .int (nI v), .int lc])), (ra, .inl (cJ, 9, .inr (.inr (.inr (.inr gr)))))]) [0, 1] (by decide) rfl
  have hKc := hK.sub (tys' := [(cJ, .array .long)]) [0] rfl
  have hFc := va_free (wc := [(h, .inr (4, [.ref ra, .ref op, .int (nI v), .int lc])), (ra, .inl (cJ, 9, .inr (.inr (.inr (.inr gr)))))]) hD hS hA [0, 1] rfl
  refine va_callr (va_runV (C := RSH) (As := [.int (nI v)]) (rest := []) ⟨hx, hb, hml, hown, hts⟩ (c_SH_recordsOf l dC dI H.size h ra op v lc cJ gr v ad (by omega) hgr) (cwV (C := RSH) 1 hts (wT_4 w_m_SH_31 w_i_SH_recordsOf w_s_SH_recordsOf w_n_SH w_c_SH_recordsOf) rfl rfl rfl (by decide +kernel) ⟨Nat.le_of_ble_eq_true rfl, Nat.le_of_ble_eq_true rfl⟩) ⟨fun a U g mk q => by obtain ⟨q0, q1, qP, qK, qD⟩ := q; exact ⟨q0, q1, qP, va_K.moved (u := U) (U := U.calling g mk a) (Vm.Alike.refl U.vm) qK, qD⟩, va_recv hK hP (q0 := 0) (ci := 4) (q := (RSH, TSH, 4)) rfl rfl, fun U hU hW => ⟨rfl, by rw [hU], by rw [hU]; exact hPc, va_K.moved hW.alike hKc, hDc.weaken (fun _ _ _ _ => trivial)⟩⟩ rfl rfl hl.1 rfl (lv_room (Nat.le_of_ble_eq_true rfl)) dSH_openChanges_5 ⟨Nat.zero_le _, Nat.zero_le _⟩) hS (fun q _ h => hFc q h) hFc (fun u rq9 t H1 locs ht hvm hw hB hz1 hk1 hS => ?_)
  obtain ⟨hra, hP1, hK1, hD1⟩ := hB
  rw [hra]
  rw [ht] at hP1
  have hK1 := va_K.moved hvm.symm hK1
  obtain ⟨hP, hD⟩ := va_join (wr := [(op, .inl (cL, 256, .inr (.inl fo))), (ad, .inl (cL, 256, .inr (.inl fr)))]) (w1 := [(h, .inr (4, [.ref ra, .ref op, .int (nI v), .int lc])), (ra, .inl (cJ, 9, .inr (.inr (.inr (.inr gr)))))]) hP hD [0, 1] [2, 3] rfl rfl (by decide) (by decide) hk1 hFc hP1 hD1
  generalize H1 = H at hP hS ⊢
  have hP : va_P (dC, dI) vwCl [(op, .inl (cL, 256, .inr (.inl fo))), (ad, .inl (cL, 256, .inr (.inl fr))), (h, .inr (4, [.ref ra, .ref op, .int (nI v), .int lc])), (ra, .inl (cJ, 9, .inr (.inr (.inr (.inr gr)))))] H := hP
  have hD : va_D A [(op, .inl (cL, 256, .inr (.inl fo))), (ad, .inl (cL, 256, .inr (.inl fr))), (h, .inr (4, [.ref ra, .ref op, .int (nI v), .int lc])), (ra, .inl (cJ, 9, .inr (.inr (.inr (.inr gr)))))] := hD
  refine lv_astore_n (lv' := [(1, .ref ad), (0, .ref h)]) hx hb dSH_openChanges_8 rfl hl (by decide) rfl (fun ls hl => ?_)
  refine lv_iconst (v := nI 0) hx hb dSH_openChanges_9 (by decide) ?_
  refine lv_istore_n (lv' := [(2, .int (nI 0)), (1, .ref ad), (0, .ref h)]) hx hb dSH_openChanges_10 rfl hl (by decide) rfl (fun ls hl => ?_)
  refine lv_iconst (v := nI 0) hx hb dSH_openChanges_11 (by decide) ?_
  refine lv_istore_n (lv' := [(3, .int (nI 0)), (2, .int (nI 0)), (1, .ref ad), (0, .ref h)]) hx hb dSH_openChanges_12 rfl hl (by decide) rfl (fun ls hl => ?_)
  have loop : ∀ (n i : Nat), i + n = 256 → ∀ (H : Heap) (locs : List Loc) (ls : Array Slot), va_P (dC, dI) vwCl [(h, .inr (4, [.ref ra, .ref op, .int (nI v), .int lc])), (ra, .inl (cJ, 9, .inr (.inr (.inr (.inr gr))))), (op, .inl (cL, 256, .inr (.inl fo))), (ad, .inl (cL, 256, .inr (.inl fr)))] H → va_D A [(h, .inr (4, [.ref ra, .ref op, .int (nI v), .int lc])), (ra, .inl (cJ, 9, .inr (.inr (.inr (.inr gr))))), (op, .inl (cL, 256, .inr (.inl fo))), (ad, .inl (cL, 256, .inr (.inl fr)))] → va_S A s.heap H locs → lv_has ls 4 [(0, .ref h), (1, .ref ad), (2, .int (nI (bs_chg fo fr i))), (3, .int (nI i))] → W p l e (headSpec wsSH_openChanges { frames := 2, cells := 0, slots := 0, locals := 61 }).room s m ([.ref h] : List Value).toArray below meth c H locs 0 0 Q (F0 m 13 ls []) := by
    intro n
    induction n with
    | zero =>
      intro i hi H locs ls hP hD hS hl
      obtain rfl : i = 256 := by omega
      refine lv_iload_n hx hb dSH_openChanges_13 rfl (lv_at hl 3 rfl) ?_
      refine lv_sipush (v := nI 256) hx hb dSH_openChanges_14 (by decide) ?_
      refine lv_icmp_ge (tgt := 42) hx hb dSH_openChanges_17 (by decide) (fun _ => ?_) (fun h => absurd (nI_le (by omega) (by omega)) h)
      refine lv_iload_n hx hb dSH_openChanges_42 rfl (lv_at hl 2 rfl) ?_
      have hP : va_P (dC, dI) vwCl [(h, .inr (4, [.ref ra, .ref op, .int (nI v), .int lc])), (ra, .inl (cJ, 9, .inr (.inr (.inr (.inr gr))))), (op, .inl (cL, 256, .inr (.inl fo))), (ad, .inl (cL, 256, .inr (.inl fr)))] H := hP
      have hD : va_D A [(h, .inr (4, [.ref ra, .ref op, .int (nI v), .int lc])), (ra, .inl (cJ, 9, .inr (.inr (.inr (.inr gr))))), (op, .inl (cL, 256, .inr (.inl fo))), (ad, .inl (cL, 256, .inr (.inl fr)))] := hD
      subst hQ
      exact W.iret (v := nI (bs_chg fo fr 256)) hx hb hr (fun t ht hW => ⟨⟨nI (bs_chg fo fr 256), (), rfl, rfl, by rw [ht]; exact hP, va_K.moved hW.alike hK, hD⟩, hS.F ht⟩) hS.2.2 dSH_openChanges_43
    | succ n ih =>
      intro i hi H locs ls hP hD hS hl
      refine lv_iload_n hx hb dSH_openChanges_13 rfl (lv_at hl 3 rfl) ?_
      refine lv_sipush (v := nI 256) hx hb dSH_openChanges_14 (by decide) ?_
      refine lv_icmp_ge (tgt := 42) hx hb dSH_openChanges_17 (by decide) (fun h => absurd h (nI_ge (by omega) (by omega))) (fun _ => ?_)
      refine lv_aload_n hx hb dSH_openChanges_20 rfl (lv_at hl 0 rfl) ?_
      refine va_get (D := (dC, dI)) (ci := 4) (v := .ref op) (C := RSH) (T := TSH) (N := 4) hx hb hts in_SH hown hK hP 0 rfl rfl 1 (by decide) (hts _ w_f_SH_16) (fun _ h9 => h9) rfl dSH_openChanges_21 ?_
      refine lv_iload_n hx hb dSH_openChanges_24 rfl (lv_at hl 3 rfl) ?_
      refine xa_lald hx hb hK hP 2 1 rfl rfl i (by omega) (by decide) dSH_openChanges_25 ?_
      refine lv_aload_n hx hb dSH_openChanges_26 rfl (lv_at hl 1 rfl) ?_
      refine lv_iload_n hx hb dSH_openChanges_27 rfl (lv_at hl 3 rfl) ?_
      refine xa_lald hx hb hK hP 3 1 rfl rfl i (by omega) (by decide) dSH_openChanges_28 ?_
      refine W.lcmp hx hb dSH_openChanges_29 ?_
      refine lv_if_eq (tgt := 36) hx hb dSH_openChanges_30 (by decide) (fun hc => ?_) (fun hc => ?_)
      · have e5 : bs_chg fo fr (i + 1) = bs_chg fo fr i := if_pos ((lg_cmp_eq _ _).mp hc)
        refine lv_iinc (k := 3) (v := nI (i + 1)) (lv' := [(3, .int (nI (i + 1))), (0, .ref h), (1, .ref ad), (2, .int (nI (bs_chg fo fr i)))]) hx hb dSH_openChanges_36 hl rfl (xi_1 _) (by decide) rfl (fun ls hl => ?_)
        refine lv_goto (tgt := 13) hx hb dSH_openChanges_39 (by decide) ?_
        rw [← e5] at hl
        have hP : va_P (dC, dI) vwCl [(h, .inr (4, [.ref ra, .ref op, .int (nI v), .int lc])), (ra, .inl (cJ, 9, .inr (.inr (.inr (.inr gr))))), (op, .inl (cL, 256, .inr (.inl fo))), (ad, .inl (cL, 256, .inr (.inl fr)))] H := hP
        have hD : va_D A [(h, .inr (4, [.ref ra, .ref op, .int (nI v), .int lc])), (ra, .inl (cJ, 9, .inr (.inr (.inr (.inr gr))))), (op, .inl (cL, 256, .inr (.inl fo))), (ad, .inl (cL, 256, .inr (.inl fr)))] := hD
        have hl := lv_sub hl (l' := [(0, .ref h), (1, .ref ad), (2, .int (nI (bs_chg fo fr (i + 1)))), (3, .int (nI (i + 1)))]) [1, 2, 3, 0] rfl
        have hl : lv_has ls 4 [(0, .ref h), (1, .ref ad), (2, .int (nI (bs_chg fo fr (i + 1)))), (3, .int (nI (i + 1)))] := hl
        exact ih (i + 1) (by omega) H _ ls hP hD hS hl
      · have e5 : bs_chg fo fr (i + 1) = bs_chg fo fr i + 1 := if_neg (fun q => hc ((lg_cmp_eq _ _).mpr q))
        refine lv_iinc (k := 2) (v := nI (bs_chg fo fr i + 1)) (lv' := [(2, .int (nI (bs_chg fo fr i + 1))), (0, .ref h), (1, .ref ad), (3, .int (nI i))]) hx hb dSH_openChanges_33 hl rfl (xi_1 _) (by decide) rfl (fun ls hl => ?_)
        refine lv_iinc (k := 3) (v := nI (i + 1)) (lv' := [(3, .int (nI (i + 1))), (2, .int (nI (bs_chg fo fr i + 1))), (0, .ref h), (1, .ref ad)]) hx hb dSH_openChanges_36 hl rfl (xi_1 _) (by decide) rfl (fun ls hl => ?_)
        refine lv_goto (tgt := 13) hx hb dSH_openChanges_39 (by decide) ?_
        rw [← e5] at hl
        have hP : va_P (dC, dI) vwCl [(h, .inr (4, [.ref ra, .ref op, .int (nI v), .int lc])), (ra, .inl (cJ, 9, .inr (.inr (.inr (.inr gr))))), (op, .inl (cL, 256, .inr (.inl fo))), (ad, .inl (cL, 256, .inr (.inl fr)))] H := hP
        have hD : va_D A [(h, .inr (4, [.ref ra, .ref op, .int (nI v), .int lc])), (ra, .inl (cJ, 9, .inr (.inr (.inr (.inr gr))))), (op, .inl (cL, 256, .inr (.inl fo))), (ad, .inl (cL, 256, .inr (.inl fr)))] := hD
        have hl := lv_sub hl (l' := [(0, .ref h), (1, .ref ad), (2, .int (nI (bs_chg fo fr (i + 1)))), (3, .int (nI (i + 1)))]) [2, 3, 1, 0] rfl
        have hl : lv_has ls 4 [(0, .ref h), (1, .ref ad), (2, .int (nI (bs_chg fo fr (i + 1)))), (3, .int (nI (i + 1)))] := hl
        exact ih (i + 1) (by omega) H _ ls hP hD hS hl
  have hP := hP.sub (ws' := [(h, .inr (4, [.ref ra, .ref op, .int (nI v), .int lc])), (ra, .inl (cJ, 9, .inr (.inr (.inr (.inr gr))))), (op, .inl (cL, 256, .inr (.inl fo))), (ad, .inl (cL, 256, .inr (.inl fr)))]) [2, 3, 0, 1] rfl
  have hD := hD.sub (ws' := [(h, .inr (4, [.ref ra, .ref op, .int (nI v), .int lc])), (ra, .inl (cJ, 9, .inr (.inr (.inr (.inr gr))))), (op, .inl (cL, 256, .inr (.inl fo))), (ad, .inl (cL, 256, .inr (.inl fr)))]) [2, 3, 0, 1] (by decide) rfl
  have hP : va_P (dC, dI) vwCl [(h, .inr (4, [.ref ra, .ref op, .int (nI v), .int lc])), (ra, .inl (cJ, 9, .inr (.inr (.inr (.inr gr))))), (op, .inl (cL, 256, .inr (.inl fo))), (ad, .inl (cL, 256, .inr (.inl fr)))] H := hP
  have hD : va_D A [(h, .inr (4, [.ref ra, .ref op, .int (nI v), .int lc])), (ra, .inl (cJ, 9, .inr (.inr (.inr (.inr gr))))), (op, .inl (cL, 256, .inr (.inl fo))), (ad, .inl (cL, 256, .inr (.inl fr)))] := hD
  have hl := lv_sub hl (l' := [(0, .ref h), (1, .ref ad), (2, .int (nI 0)), (3, .int (nI 0))]) [3, 2, 1, 0] rfl
  have hl : lv_has ls 4 [(0, .ref h), (1, .ref ad), (2, .int (nI (bs_chg fo fr 0))), (3, .int (nI 0))] := hl
  exact loop (256 - 0) 0 (by omega) H _ ls hP hD hS hl
set_option maxHeartbeats 4000000 in
set_option maxRecDepth 100000 in
theorem c_SH_change (l : Launch) (dC : Nat → ClassId) (dI : Nat → Nat → Nat) (sz : Nat) (h ra op : Nat) (v : Nat) (lc : Int32) (cL : ClassId) (fo : Nat → Int64) (i : Nat) (x : Int64) (hi : i < 256) : Met l ySH_change wsSH_change { frames := 0, cells := 0, slots := 0, locals := 0 } (va_Pc [.ref h, .int (nI i), .long x] (fun U => U.heap.size = sz ∧ va_P (dC, dI) vwCl [(h, .inr (4, [.ref ra, .ref op, .int (nI v), .int lc])), (op, .inl (cL, 256, .inr (.inl fo)))] U.heap ∧ va_K (dC, dI) vwCl [(cL, .long)] U ∧ va_D (fun _ => True) [(h, .inr (4, [.ref ra, .ref op, .int (nI v), .int lc])), (op, .inl (cL, 256, .inr (.inl fo)))])) (va_Qv (fun (_ : Unit) => True) (fun (_ : Unit) t => va_P (dC, dI) vwCl [(h, .inr (4, [.ref ra, .ref op, .int (nI v), .int lc])), (op, .inl (cL, 256, .inr (.inl (vp_updL fo i x))))] t.heap ∧ va_K (dC, dI) vwCl [(cL, .long)] t ∧ va_D (va_A [(h, .inr (4, [.ref ra, .ref op, .int (nI v), .int lc])), (op, .inl (cL, 256, .inr (.inl fo)))] sz) [(h, .inr (4, [.ref ra, .ref op, .int (nI v), .int lc])), (op, .inl (cL, 256, .inr (.inl (vp_updL fo i x))))]) (va_A [(h, .inr (4, [.ref ra, .ref op, .int (nI v), .int lc])), (op, .inl (cL, 256, .inr (.inl fo)))] sz)) 0 0 (va_A [(h, .inr (4, [.ref ra, .ref op, .int (nI v), .int lc])), (op, .inl (cL, 256, .inr (.inl fo)))] sz) := by
  refine Met.ofW (cc := cSH_change) (maxL := 4) (ret := none) (by decide) rfl ?_
  intro p e s m args below meth c s₁ B hml hv
  obtain ⟨rfl, hsz, hP, hK, hD0⟩ := hv
  have hx := B.exec
  have hb := B.bytes
  have hr := B.returns
  have hts := fun w (h : w ∈ wT) => atoms_spec (ws := wsSH_change) B.pre w (List.mem_cons_of_mem _ h)
  have hown : s.vm.findClass RSH = some m.cls := findClass_of_methodNamed B.named
  have hlocks := B.notSynchronized
  subst hsz
  have hD := hD0.self (sz := s.heap.size)
  generalize hAe : va_A [(h, .inr (4, [.ref ra, .ref op, .int (nI v), .int lc])), (op, .inl (cL, 256, .inr (.inl fo)))] s.heap.size = A at hD ⊢
  have hA : ∀ q : Nat, s.heap.size ≤ q → A q := fun q h => by rw [← hAe]; exact Or.inr h
  have hl := lv_entry ([.ref h, .int (nI i), .long x]) (n := 4) (Nat.le_of_ble_eq_true rfl)
  rw [lg_entry_eq]
  generalize (lg_sl ([.ref h, .int (nI i), .long x]) ++ List.replicate (4 - (lg_sl ([.ref h, .int (nI i), .long x])).length) Slot.unset).toArray = ls at hl ⊢
  have hl : lv_has ls 4 [(0, .ref h), (1, .int (nI i)), (2, .long x)] := hl
  refine xs_q (fun H Q hH hQ => ?_)
  have hS : va_S A s.heap H [] := by rw [hH]; exact va_S.rf
  have hP : va_P (dC, dI) vwCl [(h, .inr (4, [.ref ra, .ref op, .int (nI v), .int lc])), (op, .inl (cL, 256, .inr (.inl fo)))] H := by rw [hH]; exact hP
  refine lv_aload_n hx hb dSH_change_0 rfl (lv_at hl 0 rfl) ?_
  refine va_get (D := (dC, dI)) (ci := 4) (v := .ref op) (C := RSH) (T := TSH) (N := 4) hx hb hts in_SH hown hK hP 0 rfl rfl 1 (by decide) (hts _ w_f_SH_16) (fun _ h9 => h9) rfl dSH_change_1 ?_
  refine lv_iload_n hx hb dSH_change_4 rfl (lv_at hl 1 rfl) ?_
  refine lv_lload_n hx hb dSH_change_5 rfl (lv_at hl 2 rfl) ?_
  refine xa_last hx hb hK hP hD hS 1 0 rfl rfl i (by omega) (by decide) dSH_change_6 (fun H locs hP hD hS => ?_)
  have hP : va_P (dC, dI) vwCl [(h, .inr (4, [.ref ra, .ref op, .int (nI v), .int lc])), (op, .inl (cL, 256, .inr (.inl (vp_updL fo i x))))] H := hP
  have hD : va_D A [(h, .inr (4, [.ref ra, .ref op, .int (nI v), .int lc])), (op, .inl (cL, 256, .inr (.inl (vp_updL fo i x))))] := hD
  have hP : va_P (dC, dI) vwCl [(h, .inr (4, [.ref ra, .ref op, .int (nI v), .int lc])), (op, .inl (cL, 256, .inr (.inl (vp_updL fo i x))))] H := hP
  have hD : va_D A [(h, .inr (4, [.ref ra, .ref op, .int (nI v), .int lc])), (op, .inl (cL, 256, .inr (.inl (vp_updL fo i x))))] := hD
  subst hQ
  exact W.vret hx hb hr (fun t ht hW => ⟨⟨(), rfl, trivial, by rw [ht]; exact hP, va_K.moved hW.alike hK, hD⟩, hS.F ht⟩) hS.2.2 dSH_change_7
set_option maxHeartbeats 4000000 in
set_option maxRecDepth 100000 in
theorem c_SH_oldestHeld (l : Launch) (dC : Nat → ClassId) (dI : Nat → Nat → Nat) (sz : Nat) (h ra op : Nat) (v : Nat) (lc : Int32) (hv : v < 2 ^ 30) : Met l ySH_oldestHeld wsSH_oldestHeld { frames := 1, cells := 0, slots := 0, locals := 40 } (va_Pc [.ref h] (fun U => U.heap.size = sz ∧ va_P (dC, dI) vwCl [(h, .inr (4, [.ref ra, .ref op, .int (nI v), .int lc]))] U.heap ∧ va_K (dC, dI) vwCl [] U ∧ va_D (fun _ => True) [(h, .inr (4, [.ref ra, .ref op, .int (nI v), .int lc]))])) (va_Qi (fun (r : Int32) (_ : Unit) => r = nI (v - 8)) (fun (_ : Unit) t => va_P (dC, dI) vwCl [(h, .inr (4, [.ref ra, .ref op, .int (nI v), .int lc]))] t.heap ∧ va_K (dC, dI) vwCl [] t ∧ va_D (va_A [(h, .inr (4, [.ref ra, .ref op, .int (nI v), .int lc]))] sz) [(h, .inr (4, [.ref ra, .ref op, .int (nI v), .int lc]))]) (va_A [(h, .inr (4, [.ref ra, .ref op, .int (nI v), .int lc]))] sz)) 0 0 (va_A [(h, .inr (4, [.ref ra, .ref op, .int (nI v), .int lc]))] sz) := by
  refine Met.ofW (cc := cSH_oldestHeld) (maxL := 1) (ret := (some .int)) (by decide) rfl ?_
  intro p e s m args below meth c s₁ B hml hv
  obtain ⟨rfl, hsz, hP, hK, hD0⟩ := hv
  have hx := B.exec
  have hb := B.bytes
  have hr := B.returns
  have hts := fun w (h : w ∈ wT) => atoms_spec (ws := wsSH_oldestHeld) B.pre w (List.mem_cons_of_mem _ h)
  have hown : s.vm.findClass RSH = some m.cls := findClass_of_methodNamed B.named
  have hlocks := B.notSynchronized
  subst hsz
  have hD := hD0.self (sz := s.heap.size)
  generalize hAe : va_A [(h, .inr (4, [.ref ra, .ref op, .int (nI v), .int lc]))] s.heap.size = A at hD ⊢
  have hA : ∀ q : Nat, s.heap.size ≤ q → A q := fun q h => by rw [← hAe]; exact Or.inr h
  have hl := lv_entry ([.ref h]) (n := 1) (Nat.le_of_ble_eq_true rfl)
  rw [lg_entry_eq]
  generalize (lg_sl ([.ref h]) ++ List.replicate (1 - (lg_sl ([.ref h])).length) Slot.unset).toArray = ls at hl ⊢
  have hl : lv_has ls 1 [(0, .ref h)] := hl
  refine xs_q (fun H Q hH hQ => ?_)
  have hS : va_S A s.heap H [] := by rw [hH]; exact va_S.rf
  have hP : va_P (dC, dI) vwCl [(h, .inr (4, [.ref ra, .ref op, .int (nI v), .int lc]))] H := by rw [hH]; exact hP
  refine lv_iconst (v := nI 0) hx hb dSH_oldestHeld_0 (by decide) ?_
  refine lv_aload_n hx hb dSH_oldestHeld_1 rfl (lv_at hl 0 rfl) ?_
  refine va_get (D := (dC, dI)) (ci := 4) (v := .int (nI v)) (C := RSH) (T := TSH) (N := 4) hx hb hts in_SH hown hK hP 0 rfl rfl 2 (by decide) (hts _ w_f_SH_28) (fun _ h9 => h9) rfl dSH_oldestHeld_2 ?_
  refine lv_bipush (v := nI 9) hx hb dSH_oldestHeld_5 (by decide) ?_
  refine lv_isub hx hb dSH_oldestHeld_7 ?_
  refine lv_iconst (v := nI 1) hx hb dSH_oldestHeld_8 (by decide) ?_
  refine lv_iadd hx hb dSH_oldestHeld_9 ?_
  refine va_mmax hx hb (hml.trans hl.1.symm) hown (hts _ w_m_SH_41) (hts _ w_t_JM_max) (hts _ w_n_JM) (hts _ w_c_JM_max) (Nat.le_of_ble_eq_true rfl) (Nat.le_of_ble_eq_true rfl) (Nat.zero_le _) (Nat.zero_le _) dSH_oldestHeld_10 ?_
  refine xt_i (y := nI (v - 8)) (bs_old hv) ?_
  have hP : va_P (dC, dI) vwCl [(h, .inr (4, [.ref ra, .ref op, .int (nI v), .int lc]))] H := hP
  have hD : va_D A [(h, .inr (4, [.ref ra, .ref op, .int (nI v), .int lc]))] := hD
  subst hQ
  exact W.iret (v := nI (v - 8)) hx hb hr (fun t ht hW => ⟨⟨nI (v - 8), (), rfl, rfl, by rw [ht]; exact hP, va_K.moved hW.alike hK, hD⟩, hS.F ht⟩) hS.2.2 dSH_oldestHeld_13
set_option maxHeartbeats 4000000 in
set_option maxRecDepth 100000 in
theorem c_SH_isHeld (l : Launch) (dC : Nat → ClassId) (dI : Nat → Nat → Nat) (sz : Nat) (h ra op : Nat) (v : Nat) (lc : Int32) (x : Int32) (hv : v < 2 ^ 30) : Met l ySH_isHeld wsSH_isHeld { frames := 2, cells := 0, slots := 0, locals := 60 } (va_Pc [.ref h, .int x] (fun U => U.heap.size = sz ∧ va_P (dC, dI) vwCl [(h, .inr (4, [.ref ra, .ref op, .int (nI v), .int lc]))] U.heap ∧ va_K (dC, dI) vwCl [] U ∧ va_D (fun _ => True) [(h, .inr (4, [.ref ra, .ref op, .int (nI v), .int lc]))])) (va_Qi (fun (r : Int32) (_ : Unit) => r = bs_z (decide (nI (v - 8) ≤ x ∧ x ≤ nI v))) (fun (_ : Unit) t => va_P (dC, dI) vwCl [(h, .inr (4, [.ref ra, .ref op, .int (nI v), .int lc]))] t.heap ∧ va_K (dC, dI) vwCl [] t ∧ va_D (va_A [(h, .inr (4, [.ref ra, .ref op, .int (nI v), .int lc]))] sz) [(h, .inr (4, [.ref ra, .ref op, .int (nI v), .int lc]))]) (va_A [(h, .inr (4, [.ref ra, .ref op, .int (nI v), .int lc]))] sz)) 0 0 (va_A [(h, .inr (4, [.ref ra, .ref op, .int (nI v), .int lc]))] sz) := by
  refine Met.ofW (cc := cSH_isHeld) (maxL := 2) (ret := (some .boolean)) (by decide) rfl ?_
  intro p e s m args below meth c s₁ B hml hv
  obtain ⟨rfl, hsz, hP, hK, hD0⟩ := hv
  have hx := B.exec
  have hb := B.bytes
  have hr := B.returns
  have hts := fun w (h : w ∈ wT) => atoms_spec (ws := wsSH_isHeld) B.pre w (List.mem_cons_of_mem _ h)
  have hown : s.vm.findClass RSH = some m.cls := findClass_of_methodNamed B.named
  have hlocks := B.notSynchronized
  subst hsz
  have hD := hD0.self (sz := s.heap.size)
  generalize hAe : va_A [(h, .inr (4, [.ref ra, .ref op, .int (nI v), .int lc]))] s.heap.size = A at hD ⊢
  have hA : ∀ q : Nat, s.heap.size ≤ q → A q := fun q h => by rw [← hAe]; exact Or.inr h
  have hl := lv_entry ([.ref h, .int x]) (n := 2) (Nat.le_of_ble_eq_true rfl)
  rw [lg_entry_eq]
  generalize (lg_sl ([.ref h, .int x]) ++ List.replicate (2 - (lg_sl ([.ref h, .int x])).length) Slot.unset).toArray = ls at hl ⊢
  have hl : lv_has ls 2 [(0, .ref h), (1, .int x)] := hl
  refine xs_q (fun H Q hH hQ => ?_)
  have hS : va_S A s.heap H [] := by rw [hH]; exact va_S.rf
  have hP : va_P (dC, dI) vwCl [(h, .inr (4, [.ref ra, .ref op, .int (nI v), .int lc]))] H := by rw [hH]; exact hP
  refine lv_iload_n hx hb dSH_isHeld_0 rfl (lv_at hl 1 rfl) ?_
  refine lv_aload_n hx hb dSH_isHeld_1 rfl (lv_at hl 0 rfl) ?_
  have hPc := hP.sub (ws' := [(h, .inr (4, [.ref ra, .ref op, .int (nI v), .int lc]))]) [0] rfl
  have hDc := hD.sub (ws' := [(h, .inr (4, [.ref ra, .ref op, .int (nI v), .int lc]))]) [0] (by decide) rfl
  have hKc := hK.sub (tys' := []) [] rfl
  have hFc := va_free (wc := [(h, .inr (4, [.ref ra, .ref op, .int (nI v), .int lc]))]) hD hS hA [0] rfl
  refine va_calli (va_runV (C := RSH) (As := []) (rest := [.int x]) ⟨hx, hb, hml, hown, hts⟩ (c_SH_oldestHeld l dC dI H.size h ra op v lc hv) (cwV (C := RSH) 0 hts (wT_4 w_m_SH_47 w_i_SH_oldestHeld w_s_SH_oldestHeld w_n_SH w_c_SH_oldestHeld) rfl rfl rfl (by decide +kernel) ⟨Nat.le_of_ble_eq_true rfl, Nat.le_of_ble_eq_true rfl⟩) ⟨fun a U g mk q => by obtain ⟨q0, q1, qP, qK, qD⟩ := q; exact ⟨q0, q1, qP, va_K.moved (u := U) (U := U.calling g mk a) (Vm.Alike.refl U.vm) qK, qD⟩, va_recv hK hP (q0 := 0) (ci := 4) (q := (RSH, TSH, 4)) rfl rfl, fun U hU hW => ⟨rfl, by rw [hU], by rw [hU]; exact hPc, va_K.moved hW.alike hKc, hDc.weaken (fun _ _ _ _ => trivial)⟩⟩ rfl rfl hl.1 rfl (lv_room (Nat.le_of_ble_eq_true rfl)) dSH_isHeld_2 ⟨Nat.zero_le _, Nat.zero_le _⟩) hS (fun q _ h => hFc q h) hFc (fun r u t H1 locs ht hvm hw hB hz1 hk1 hS => ?_)
  obtain ⟨hP1, hK1, hD1⟩ := hB
  rw [ht] at hP1
  have hK1 := va_K.moved hvm.symm hK1
  have hw : r = nI (v - 8) := hw
  subst hw
  obtain ⟨hP, hD⟩ := va_join (wr := []) (w1 := [(h, .inr (4, [.ref ra, .ref op, .int (nI v), .int lc]))]) hP hD [0] [] rfl rfl (by decide) (by decide) hk1 hFc hP1 hD1
  generalize H1 = H at hP hS ⊢
  have hP : va_P (dC, dI) vwCl [(h, .inr (4, [.ref ra, .ref op, .int (nI v), .int lc]))] H := hP
  have hD : va_D A [(h, .inr (4, [.ref ra, .ref op, .int (nI v), .int lc]))] := hD
  refine lv_icmp_lt (tgt := 20) hx hb dSH_isHeld_5 (by decide) (fun hc => ?_) (fun hc => ?_)
  · refine lv_iconst (v := nI 0) hx hb dSH_isHeld_20 (by decide) ?_
    have hP : va_P (dC, dI) vwCl [(h, .inr (4, [.ref ra, .ref op, .int (nI v), .int lc]))] H := hP
    have hD : va_D A [(h, .inr (4, [.ref ra, .ref op, .int (nI v), .int lc]))] := hD
    subst hQ
    exact W.zret (v := nI 0) hx hb hr (by first | rfl | decide | exact xz_n (by assumption)) (fun t ht hW => ⟨⟨nI 0, (), rfl, by rw [decide_eq_false (fun q => absurd hc (Int32.not_lt.mpr q.1))]; rfl, by rw [ht]; exact hP, va_K.moved hW.alike hK, hD⟩, hS.F ht⟩) hS.2.2 dSH_isHeld_21
  · refine lv_iload_n hx hb dSH_isHeld_8 rfl (lv_at hl 1 rfl) ?_
    refine lv_aload_n hx hb dSH_isHeld_9 rfl (lv_at hl 0 rfl) ?_
    refine va_get (D := (dC, dI)) (ci := 4) (v := .int (nI v)) (C := RSH) (T := TSH) (N := 4) hx hb hts in_SH hown hK hP 0 rfl rfl 2 (by decide) (hts _ w_f_SH_28) (fun _ h9 => h9) rfl dSH_isHeld_10 ?_
    refine lv_icmp_gt (tgt := 20) hx hb dSH_isHeld_13 (by decide) (fun hc2 => ?_) (fun hc2 => ?_)
    · refine lv_iconst (v := nI 0) hx hb dSH_isHeld_20 (by decide) ?_
      have hP : va_P (dC, dI) vwCl [(h, .inr (4, [.ref ra, .ref op, .int (nI v), .int lc]))] H := hP
      have hD : va_D A [(h, .inr (4, [.ref ra, .ref op, .int (nI v), .int lc]))] := hD
      subst hQ
      exact W.zret (v := nI 0) hx hb hr (by first | rfl | decide | exact xz_n (by assumption)) (fun t ht hW => ⟨⟨nI 0, (), rfl, by rw [decide_eq_false (fun q => absurd hc2 (Int32.not_lt.mpr q.2))]; rfl, by rw [ht]; exact hP, va_K.moved hW.alike hK, hD⟩, hS.F ht⟩) hS.2.2 dSH_isHeld_21
    · refine lv_iconst (v := nI 1) hx hb dSH_isHeld_16 (by decide) ?_
      refine lv_goto (tgt := 21) hx hb dSH_isHeld_17 (by decide) ?_
      have hP : va_P (dC, dI) vwCl [(h, .inr (4, [.ref ra, .ref op, .int (nI v), .int lc]))] H := hP
      have hD : va_D A [(h, .inr (4, [.ref ra, .ref op, .int (nI v), .int lc]))] := hD
      subst hQ
      exact W.zret (v := nI 1) hx hb hr (by first | rfl | decide | exact xz_n (by assumption)) (fun t ht hW => ⟨⟨nI 1, (), rfl, by rw [decide_eq_true ⟨Int32.not_lt.mp hc, Int32.not_lt.mp hc2⟩]; rfl, by rw [ht]; exact hP, va_K.moved hW.alike hK, hD⟩, hS.F ht⟩) hS.2.2 dSH_isHeld_21
set_option maxHeartbeats 4000000 in
set_option maxRecDepth 100000 in
theorem c_SH_closeBatch (l : Launch) (dC : Nat → ClassId) (dI : Nat → Nat → Nat) (sz : Nat) (h ra op : Nat) (v : Nat) (lc : Int32) (cJ cL : ClassId) (gr : Nat → Option Nat) (ad ad2 : Nat) (fo fr fr2 : Nat → Int64) (hv : v < 2 ^ 29) (hgr : gr (v % 9) = some ad) (hgr2 : gr ((v + 1) % 9) = some ad2) : Met l ySH_closeBatch wsSH_closeBatch { frames := 3, cells := 0, slots := 0, locals := 84 } (va_Pc [.ref h] (fun U => U.heap.size = sz ∧ va_P (dC, dI) vwCl [(h, .inr (4, [.ref ra, .ref op, .int (nI v), .int lc])), (ra, .inl (cJ, 9, .inr (.inr (.inr (.inr gr))))), (op, .inl (cL, 256, .inr (.inl fo))), (ad, .inl (cL, 256, .inr (.inl fr))), (ad2, .inl (cL, 256, .inr (.inl fr2)))] U.heap ∧ va_K (dC, dI) vwCl [(cJ, .array .long), (cL, .long)] U ∧ va_D (fun _ => True) [(h, .inr (4, [.ref ra, .ref op, .int (nI v), .int lc])), (ra, .inl (cJ, 9, .inr (.inr (.inr (.inr gr))))), (op, .inl (cL, 256, .inr (.inl fo))), (ad, .inl (cL, 256, .inr (.inl fr))), (ad2, .inl (cL, 256, .inr (.inl fr2)))])) (va_Qi (fun (r : Int32) (_ : Unit) => r = nI (v + 1)) (fun (_ : Unit) t => va_P (dC, dI) vwCl [(h, .inr (4, [.ref ra, .ref op, .int (nI (v + 1)), .int (nI (bs_chg fo fr 256))])), (ra, .inl (cJ, 9, .inr (.inr (.inr (.inr gr))))), (op, .inl (cL, 256, .inr (.inl fo))), (ad, .inl (cL, 256, .inr (.inl fr))), (ad2, .inl (cL, 256, .inr (.inl fo)))] t.heap ∧ va_K (dC, dI) vwCl [(cJ, .array .long), (cL, .long)] t ∧ va_D (va_A [(h, .inr (4, [.ref ra, .ref op, .int (nI v), .int lc])), (ra, .inl (cJ, 9, .inr (.inr (.inr (.inr gr))))), (op, .inl (cL, 256, .inr (.inl fo))), (ad, .inl (cL, 256, .inr (.inl fr))), (ad2, .inl (cL, 256, .inr (.inl fr2)))] sz) [(h, .inr (4, [.ref ra, .ref op, .int (nI (v + 1)), .int (nI (bs_chg fo fr 256))])), (ra, .inl (cJ, 9, .inr (.inr (.inr (.inr gr))))), (op, .inl (cL, 256, .inr (.inl fo))), (ad, .inl (cL, 256, .inr (.inl fr))), (ad2, .inl (cL, 256, .inr (.inl fo)))]) (va_A [(h, .inr (4, [.ref ra, .ref op, .int (nI v), .int lc])), (ra, .inl (cJ, 9, .inr (.inr (.inr (.inr gr))))), (op, .inl (cL, 256, .inr (.inl fo))), (ad, .inl (cL, 256, .inr (.inl fr))), (ad2, .inl (cL, 256, .inr (.inl fr2)))] sz)) 0 0 (va_A [(h, .inr (4, [.ref ra, .ref op, .int (nI v), .int lc])), (ra, .inl (cJ, 9, .inr (.inr (.inr (.inr gr))))), (op, .inl (cL, 256, .inr (.inl fo))), (ad, .inl (cL, 256, .inr (.inl fr))), (ad2, .inl (cL, 256, .inr (.inl fr2)))] sz) := by
  refine Met.ofW (cc := cSH_closeBatch) (maxL := 1) (ret := (some .int)) (by decide) rfl ?_
  intro p e s m args below meth c s₁ B hml hv
  obtain ⟨rfl, hsz, hP, hK, hD0⟩ := hv
  have hx := B.exec
  have hb := B.bytes
  have hr := B.returns
  have hts := fun w (h : w ∈ wT) => atoms_spec (ws := wsSH_closeBatch) B.pre w (List.mem_cons_of_mem _ h)
  have hown : s.vm.findClass RSH = some m.cls := findClass_of_methodNamed B.named
  have hlocks := B.notSynchronized
  subst hsz
  have hD := hD0.self (sz := s.heap.size)
  generalize hAe : va_A [(h, .inr (4, [.ref ra, .ref op, .int (nI v), .int lc])), (ra, .inl (cJ, 9, .inr (.inr (.inr (.inr gr))))), (op, .inl (cL, 256, .inr (.inl fo))), (ad, .inl (cL, 256, .inr (.inl fr))), (ad2, .inl (cL, 256, .inr (.inl fr2)))] s.heap.size = A at hD ⊢
  have hA : ∀ q : Nat, s.heap.size ≤ q → A q := fun q h => by rw [← hAe]; exact Or.inr h
  have hl := lv_entry ([.ref h]) (n := 1) (Nat.le_of_ble_eq_true rfl)
  rw [lg_entry_eq]
  generalize (lg_sl ([.ref h]) ++ List.replicate (1 - (lg_sl ([.ref h])).length) Slot.unset).toArray = ls at hl ⊢
  have hl : lv_has ls 1 [(0, .ref h)] := hl
  refine xs_q (fun H Q hH hQ => ?_)
  have hS : va_S A s.heap H [] := by rw [hH]; exact va_S.rf
  have hP : va_P (dC, dI) vwCl [(h, .inr (4, [.ref ra, .ref op, .int (nI v), .int lc])), (ra, .inl (cJ, 9, .inr (.inr (.inr (.inr gr))))), (op, .inl (cL, 256, .inr (.inl fo))), (ad, .inl (cL, 256, .inr (.inl fr))), (ad2, .inl (cL, 256, .inr (.inl fr2)))] H := by rw [hH]; exact hP
  refine lv_aload_n hx hb dSH_closeBatch_0 rfl (lv_at hl 0 rfl) ?_
  refine lv_aload_n hx hb dSH_closeBatch_1 rfl (lv_at hl 0 rfl) ?_
  have hPc := hP.sub (ws' := [(h, .inr (4, [.ref ra, .ref op, .int (nI v), .int lc])), (ra, .inl (cJ, 9, .inr (.inr (.inr (.inr gr))))), (op, .inl (cL, 256, .inr (.inl fo))), (ad, .inl (cL, 256, .inr (.inl fr)))]) [0, 1, 2, 3] rfl
  have hDc := hD.sub (ws' := [(h, .inr (4, [.ref ra, .ref op, .int (nI v), .int lc])), (ra, .inl (cJ, 9, .inr (.inr (.inr (.inr gr))))), (op, .inl (cL, 256, .inr (.inl fo))), (ad, .inl (cL, 256, .inr (.inl fr)))]) [0, 1, 2, 3] (by decide) rfl
  have hKc := hK.sub (tys' := [(cJ, .array .long), (cL, .long)]) [0, 1] rfl
  have hFc := va_free (wc := [(h, .inr (4, [.ref ra, .ref op, .int (nI v), .int lc])), (ra, .inl (cJ, 9, .inr (.inr (.inr (.inr gr))))), (op, .inl (cL, 256, .inr (.inl fo))), (ad, .inl (cL, 256, .inr (.inl fr)))]) hD hS hA [0, 1, 2, 3] rfl
  refine va_calli (va_runV (C := RSH) (As := []) (rest := [.ref h]) ⟨hx, hb, hml, hown, hts⟩ (c_SH_openChanges l dC dI H.size h ra op v lc cJ cL gr ad fo fr (by omega) hgr) (cwV (C := RSH) 0 hts (wT_4 w_m_SH_20 w_i_SH_openChanges w_s_SH_openChanges w_n_SH w_c_SH_openChanges) rfl rfl rfl (by decide +kernel) ⟨Nat.le_of_ble_eq_true rfl, Nat.le_of_ble_eq_true rfl⟩) ⟨fun a U g mk q => by obtain ⟨q0, q1, qP, qK, qD⟩ := q; exact ⟨q0, q1, qP, va_K.moved (u := U) (U := U.calling g mk a) (Vm.Alike.refl U.vm) qK, qD⟩, va_recv hK hP (q0 := 0) (ci := 4) (q := (RSH, TSH, 4)) rfl rfl, fun U hU hW => ⟨rfl, by rw [hU], by rw [hU]; exact hPc, va_K.moved hW.alike hKc, hDc.weaken (fun _ _ _ _ => trivial)⟩⟩ rfl rfl hl.1 rfl (lv_room (Nat.le_of_ble_eq_true rfl)) dSH_closeBatch_2 ⟨Nat.zero_le _, Nat.zero_le _⟩) hS (fun q _ h => hFc q h) hFc (fun r u t H1 locs ht hvm hw hB hz1 hk1 hS => ?_)
  obtain ⟨hP1, hK1, hD1⟩ := hB
  rw [ht] at hP1
  have hK1 := va_K.moved hvm.symm hK1
  have hw : r = nI (bs_chg fo fr 256) := hw
  subst hw
  obtain ⟨hP, hD⟩ := va_join (wr := [(ad2, .inl (cL, 256, .inr (.inl fr2)))]) (w1 := [(h, .inr (4, [.ref ra, .ref op, .int (nI v), .int lc])), (ra, .inl (cJ, 9, .inr (.inr (.inr (.inr gr))))), (op, .inl (cL, 256, .inr (.inl fo))), (ad, .inl (cL, 256, .inr (.inl fr)))]) hP hD [0, 1, 2, 3] [4] rfl rfl (by decide) (by decide) hk1 hFc hP1 hD1
  generalize H1 = H at hP hS ⊢
  have hP : va_P (dC, dI) vwCl [(ad2, .inl (cL, 256, .inr (.inl fr2))), (h, .inr (4, [.ref ra, .ref op, .int (nI v), .int lc])), (ra, .inl (cJ, 9, .inr (.inr (.inr (.inr gr))))), (op, .inl (cL, 256, .inr (.inl fo))), (ad, .inl (cL, 256, .inr (.inl fr)))] H := hP
  have hD : va_D A [(ad2, .inl (cL, 256, .inr (.inl fr2))), (h, .inr (4, [.ref ra, .ref op, .int (nI v), .int lc])), (ra, .inl (cJ, 9, .inr (.inr (.inr (.inr gr))))), (op, .inl (cL, 256, .inr (.inl fo))), (ad, .inl (cL, 256, .inr (.inl fr)))] := hD
  refine va_put (D := (dC, dI)) (ci := 4) (v := .int (nI (bs_chg fo fr 256))) (ty := .int) (C := RSH) (T := TSH) (N := 4) hx hb hts in_SH tySH tySH_ok nmSH hown hK hP hD hS 1 rfl rfl 3 (by decide) (hts _ w_f_SH_24) (fun _ h9 => h9) rfl (by decide +kernel) (rfl) (rfl) (Nat.le_of_ble_eq_true rfl) dSH_closeBatch_5 (fun H locs hP hD hS => ?_)
  have hP : va_P (dC, dI) vwCl [(ad2, .inl (cL, 256, .inr (.inl fr2))), (h, .inr (4, [.ref ra, .ref op, .int (nI v), .int (nI (bs_chg fo fr 256))])), (ra, .inl (cJ, 9, .inr (.inr (.inr (.inr gr))))), (op, .inl (cL, 256, .inr (.inl fo))), (ad, .inl (cL, 256, .inr (.inl fr)))] H := hP
  have hD : va_D A [(ad2, .inl (cL, 256, .inr (.inl fr2))), (h, .inr (4, [.ref ra, .ref op, .int (nI v), .int (nI (bs_chg fo fr 256))])), (ra, .inl (cJ, 9, .inr (.inr (.inr (.inr gr))))), (op, .inl (cL, 256, .inr (.inl fo))), (ad, .inl (cL, 256, .inr (.inl fr)))] := hD
  refine lv_aload_n hx hb dSH_closeBatch_8 rfl (lv_at hl 0 rfl) ?_
  refine lv_dup hx hb dSH_closeBatch_9 rfl ?_
  refine va_get (D := (dC, dI)) (ci := 4) (v := .int (nI v)) (C := RSH) (T := TSH) (N := 4) hx hb hts in_SH hown hK hP 1 rfl rfl 2 (by decide) (hts _ w_f_SH_28) (fun _ h9 => h9) rfl dSH_closeBatch_10 ?_
  refine lv_iconst (v := nI 1) hx hb dSH_closeBatch_13 (by decide) ?_
  refine lv_iadd hx hb dSH_closeBatch_14 ?_
  refine xt_i (y := nI (v + 1)) (nI_add _ _) ?_
  refine va_put (D := (dC, dI)) (ci := 4) (v := .int (nI (v + 1))) (ty := .int) (C := RSH) (T := TSH) (N := 4) hx hb hts in_SH tySH tySH_ok nmSH hown hK hP hD hS 1 rfl rfl 2 (by decide) (hts _ w_f_SH_28) (fun _ h9 => h9) rfl (by decide +kernel) (rfl) (rfl) (Nat.le_of_ble_eq_true rfl) dSH_closeBatch_15 (fun H locs hP hD hS => ?_)
  have hP : va_P (dC, dI) vwCl [(ad2, .inl (cL, 256, .inr (.inl fr2))), (h, .inr (4, [.ref ra, .ref op, .int (nI (v + 1)), .int (nI (bs_chg fo fr 256))])), (ra, .inl (cJ, 9, .inr (.inr (.inr (.inr gr))))), (op, .inl (cL, 256, .inr (.inl fo))), (ad, .inl (cL, 256, .inr (.inl fr)))] H := hP
  have hD : va_D A [(ad2, .inl (cL, 256, .inr (.inl fr2))), (h, .inr (4, [.ref ra, .ref op, .int (nI (v + 1)), .int (nI (bs_chg fo fr 256))])), (ra, .inl (cJ, 9, .inr (.inr (.inr (.inr gr))))), (op, .inl (cL, 256, .inr (.inl fo))), (ad, .inl (cL, 256, .inr (.inl fr)))] := hD
  refine lv_aload_n hx hb dSH_closeBatch_18 rfl (lv_at hl 0 rfl) ?_
  refine va_get (D := (dC, dI)) (ci := 4) (v := .ref op) (C := RSH) (T := TSH) (N := 4) hx hb hts in_SH hown hK hP 1 rfl rfl 1 (by decide) (hts _ w_f_SH_16) (fun _ h9 => h9) rfl dSH_closeBatch_19 ?_
  refine lv_iconst (v := nI 0) hx hb dSH_closeBatch_22 (by decide) ?_
  refine lv_aload_n hx hb dSH_closeBatch_23 rfl (lv_at hl 0 rfl) ?_
  refine lv_aload_n hx hb dSH_closeBatch_24 rfl (lv_at hl 0 rfl) ?_
  refine va_get (D := (dC, dI)) (ci := 4) (v := .int (nI (v + 1))) (C := RSH) (T := TSH) (N := 4) hx hb hts in_SH hown hK hP 1 rfl rfl 2 (by decide) (hts _ w_f_SH_28) (fun _ h9 => h9) rfl dSH_closeBatch_25 ?_
  have hPc := hP.sub (ws' := [(h, .inr (4, [.ref ra, .ref op, .int (nI (v + 1)), .int (nI (bs_chg fo fr 256))])), (ra, .inl (cJ, 9, .inr (.inr (.inr (.inr gr)))))]) [1, 2] rfl
  have hDc := hD.sub (ws' := [(h, .inr (4, [.ref ra, .ref op, .int (nI (v + 1)), .int (nI (bs_chg fo fr 256))])), (ra, .inl (cJ, 9, .inr (.inr (.inr (.inr gr)))))]) [1, 2] (by decide) rfl
  have hKc := hK.sub (tys' := [(cJ, .array .long)]) [0] rfl
  have hFc := va_free (wc := [(h, .inr (4, [.ref ra, .ref op, .int (nI (v + 1)), .int (nI (bs_chg fo fr 256))])), (ra, .inl (cJ, 9, .inr (.inr (.inr (.inr gr)))))]) hD hS hA [1, 2] rfl
  refine va_callr (va_runV (C := RSH) (As := [.int (nI (v + 1))]) (rest := [.int (nI 0), .ref op]) ⟨hx, hb, hml, hown, hts⟩ (c_SH_recordsOf l dC dI H.size h ra op (v + 1) (nI (bs_chg fo fr 256)) cJ gr (v + 1) ad2 (by omega) hgr2) (cwV (C := RSH) 1 hts (wT_4 w_m_SH_31 w_i_SH_recordsOf w_s_SH_recordsOf w_n_SH w_c_SH_recordsOf) rfl rfl rfl (by decide +kernel) ⟨Nat.le_of_ble_eq_true rfl, Nat.le_of_ble_eq_true rfl⟩) ⟨fun a U g mk q => by obtain ⟨q0, q1, qP, qK, qD⟩ := q; exact ⟨q0, q1, qP, va_K.moved (u := U) (U := U.calling g mk a) (Vm.Alike.refl U.vm) qK, qD⟩, va_recv hK hP (q0 := 1) (ci := 4) (q := (RSH, TSH, 4)) rfl rfl, fun U hU hW => ⟨rfl, by rw [hU], by rw [hU]; exact hPc, va_K.moved hW.alike hKc, hDc.weaken (fun _ _ _ _ => trivial)⟩⟩ rfl rfl hl.1 rfl (lv_room (Nat.le_of_ble_eq_true rfl)) dSH_closeBatch_28 ⟨Nat.zero_le _, Nat.zero_le _⟩) hS (fun q _ h => hFc q h) hFc (fun u rq9 t H1 locs ht hvm hw hB hz1 hk1 hS => ?_)
  obtain ⟨hra, hP1, hK1, hD1⟩ := hB
  rw [hra]
  rw [ht] at hP1
  have hK1 := va_K.moved hvm.symm hK1
  obtain ⟨hP, hD⟩ := va_join (wr := [(ad2, .inl (cL, 256, .inr (.inl fr2))), (op, .inl (cL, 256, .inr (.inl fo))), (ad, .inl (cL, 256, .inr (.inl fr)))]) (w1 := [(h, .inr (4, [.ref ra, .ref op, .int (nI (v + 1)), .int (nI (bs_chg fo fr 256))])), (ra, .inl (cJ, 9, .inr (.inr (.inr (.inr gr)))))]) hP hD [1, 2] [0, 3, 4] rfl rfl (by decide) (by decide) hk1 hFc hP1 hD1
  generalize H1 = H at hP hS ⊢
  have hP : va_P (dC, dI) vwCl [(ad2, .inl (cL, 256, .inr (.inl fr2))), (op, .inl (cL, 256, .inr (.inl fo))), (ad, .inl (cL, 256, .inr (.inl fr))), (h, .inr (4, [.ref ra, .ref op, .int (nI (v + 1)), .int (nI (bs_chg fo fr 256))])), (ra, .inl (cJ, 9, .inr (.inr (.inr (.inr gr)))))] H := hP
  have hD : va_D A [(ad2, .inl (cL, 256, .inr (.inl fr2))), (op, .inl (cL, 256, .inr (.inl fo))), (ad, .inl (cL, 256, .inr (.inl fr))), (h, .inr (4, [.ref ra, .ref op, .int (nI (v + 1)), .int (nI (bs_chg fo fr 256))])), (ra, .inl (cJ, 9, .inr (.inr (.inr (.inr gr)))))] := hD
  refine lv_iconst (v := nI 0) hx hb dSH_closeBatch_31 (by decide) ?_
  refine lv_sipush (v := nI 256) hx hb dSH_closeBatch_32 (by decide) ?_
  refine va_copyl hx hb (hml.trans hl.1.symm) hown (hts _ w_m_SH_35) (hts _ w_v_sys_arraycopy) (hts _ w_t_sys_arraycopy) (hts _ w_n_System) hK hP hD hS 1 0 1 1 rfl rfl rfl rfl rfl (by decide) (by decide) (by decide) (by decide) (by decide) (fun _ _ => rfl) (Nat.le_of_ble_eq_true rfl) (Nat.le_of_ble_eq_true rfl) dSH_closeBatch_35 (fun H locs hP hD hS => ?_)
  have hP : va_P (dC, dI) vwCl [(ad2, .inl (cL, 256, .inr (.inl (va_cpy fo fr2 0 0 256)))), (op, .inl (cL, 256, .inr (.inl fo))), (ad, .inl (cL, 256, .inr (.inl fr))), (h, .inr (4, [.ref ra, .ref op, .int (nI (v + 1)), .int (nI (bs_chg fo fr 256))])), (ra, .inl (cJ, 9, .inr (.inr (.inr (.inr gr)))))] H := hP
  have hD : va_D A [(ad2, .inl (cL, 256, .inr (.inl (va_cpy fo fr2 0 0 256)))), (op, .inl (cL, 256, .inr (.inl fo))), (ad, .inl (cL, 256, .inr (.inl fr))), (h, .inr (4, [.ref ra, .ref op, .int (nI (v + 1)), .int (nI (bs_chg fo fr 256))])), (ra, .inl (cJ, 9, .inr (.inr (.inr (.inr gr)))))] := hD
  have hP := xp_l fo hP 0 rfl (fun j hj => by rw [pk_cpy_in (Nat.zero_le _) (by omega)]; exact congrArg fo (by omega))
  have hD := xd_at hD 0 (.inl (cL, 256, .inr (.inl fo))) rfl
  have hP : va_P (dC, dI) vwCl [(ad2, .inl (cL, 256, .inr (.inl fo))), (op, .inl (cL, 256, .inr (.inl fo))), (ad, .inl (cL, 256, .inr (.inl fr))), (h, .inr (4, [.ref ra, .ref op, .int (nI (v + 1)), .int (nI (bs_chg fo fr 256))])), (ra, .inl (cJ, 9, .inr (.inr (.inr (.inr gr)))))] H := hP
  have hD : va_D A [(ad2, .inl (cL, 256, .inr (.inl fo))), (op, .inl (cL, 256, .inr (.inl fo))), (ad, .inl (cL, 256, .inr (.inl fr))), (h, .inr (4, [.ref ra, .ref op, .int (nI (v + 1)), .int (nI (bs_chg fo fr 256))])), (ra, .inl (cJ, 9, .inr (.inr (.inr (.inr gr)))))] := hD
  refine lv_aload_n hx hb dSH_closeBatch_38 rfl (lv_at hl 0 rfl) ?_
  refine va_get (D := (dC, dI)) (ci := 4) (v := .int (nI (v + 1))) (C := RSH) (T := TSH) (N := 4) hx hb hts in_SH hown hK hP 3 rfl rfl 2 (by decide) (hts _ w_f_SH_28) (fun _ h9 => h9) rfl dSH_closeBatch_39 ?_
  have hP := hP.sub (ws' := [(h, .inr (4, [.ref ra, .ref op, .int (nI (v + 1)), .int (nI (bs_chg fo fr 256))])), (ra, .inl (cJ, 9, .inr (.inr (.inr (.inr gr))))), (op, .inl (cL, 256, .inr (.inl fo))), (ad, .inl (cL, 256, .inr (.inl fr))), (ad2, .inl (cL, 256, .inr (.inl fo)))]) [3, 4, 1, 2, 0] rfl
  have hD := hD.sub (ws' := [(h, .inr (4, [.ref ra, .ref op, .int (nI (v + 1)), .int (nI (bs_chg fo fr 256))])), (ra, .inl (cJ, 9, .inr (.inr (.inr (.inr gr))))), (op, .inl (cL, 256, .inr (.inl fo))), (ad, .inl (cL, 256, .inr (.inl fr))), (ad2, .inl (cL, 256, .inr (.inl fo)))]) [3, 4, 1, 2, 0] (by decide) rfl
  have hP : va_P (dC, dI) vwCl [(h, .inr (4, [.ref ra, .ref op, .int (nI (v + 1)), .int (nI (bs_chg fo fr 256))])), (ra, .inl (cJ, 9, .inr (.inr (.inr (.inr gr))))), (op, .inl (cL, 256, .inr (.inl fo))), (ad, .inl (cL, 256, .inr (.inl fr))), (ad2, .inl (cL, 256, .inr (.inl fo)))] H := hP
  have hD : va_D A [(h, .inr (4, [.ref ra, .ref op, .int (nI (v + 1)), .int (nI (bs_chg fo fr 256))])), (ra, .inl (cJ, 9, .inr (.inr (.inr (.inr gr))))), (op, .inl (cL, 256, .inr (.inl fo))), (ad, .inl (cL, 256, .inr (.inl fr))), (ad2, .inl (cL, 256, .inr (.inl fo)))] := hD
  subst hQ
  exact W.iret (v := nI (v + 1)) hx hb hr (fun t ht hW => ⟨⟨nI (v + 1), (), rfl, rfl, by rw [ht]; exact hP, va_K.moved hW.alike hK, hD⟩, hS.F ht⟩) hS.2.2 dSH_closeBatch_42
