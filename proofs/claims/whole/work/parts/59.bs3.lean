/-! BlindShelf: where its methods return -/
set_option maxHeartbeats 4000000 in
set_option maxRecDepth 100000 in
theorem c_BS_requireHeld_y (l : Launch) (dC : Nat → ClassId) (dI : Nat → Nat → Nat) (sz : Nat) (bo q mk ka cs : Nat) (sv h lt : Nat) (an : Int64) (dp qn : Int32) (cV : ClassId) (gs : Nat → Option Nat) (x9 : Nat) (ra op : Nat) (v : Nat) (lc : Int32) (x : Int32) (hx9 : x9 < 2) (hgs : gs x9 = some sv) (hv : v < 2 ^ 29) (hu : decide (nI (v - 8) ≤ x ∧ x ≤ nI v) = true) : Met l yBS_requireHeld wsBS_requireHeld { frames := 6, cells := 0, slots := 0, locals := 130 } (va_Pc [.ref bo, .int (nI x9), .int x] (fun U => U.heap.size = sz ∧ va_P (dC, dI) vwCl [(bo, .inr (5, [.ref q, .ref mk, .ref ka, .ref cs])), (cs, .inl (cV, 2, .inr (.inr (.inr (.inr gs))))), (sv, .inr (3, [.ref h, .ref lt, .long an, .int dp, .int qn])), (h, .inr (4, [.ref ra, .ref op, .int (nI v), .int lc]))] U.heap ∧ va_K (dC, dI) vwCl [(cV, .object "BlindShelf$Server")] U ∧ va_D (fun _ => True) [(bo, .inr (5, [.ref q, .ref mk, .ref ka, .ref cs])), (cs, .inl (cV, 2, .inr (.inr (.inr (.inr gs))))), (sv, .inr (3, [.ref h, .ref lt, .long an, .int dp, .int qn])), (h, .inr (4, [.ref ra, .ref op, .int (nI v), .int lc]))])) (va_Qv (fun (_ : Unit) => True) (fun (_ : Unit) t => va_P (dC, dI) vwCl [(bo, .inr (5, [.ref q, .ref mk, .ref ka, .ref cs])), (cs, .inl (cV, 2, .inr (.inr (.inr (.inr gs))))), (sv, .inr (3, [.ref h, .ref lt, .long an, .int dp, .int qn])), (h, .inr (4, [.ref ra, .ref op, .int (nI v), .int lc]))] t.heap ∧ va_K (dC, dI) vwCl [(cV, .object "BlindShelf$Server")] t ∧ va_D (va_A [(bo, .inr (5, [.ref q, .ref mk, .ref ka, .ref cs])), (cs, .inl (cV, 2, .inr (.inr (.inr (.inr gs))))), (sv, .inr (3, [.ref h, .ref lt, .long an, .int dp, .int qn])), (h, .inr (4, [.ref ra, .ref op, .int (nI v), .int lc]))] sz) [(bo, .inr (5, [.ref q, .ref mk, .ref ka, .ref cs])), (cs, .inl (cV, 2, .inr (.inr (.inr (.inr gs))))), (sv, .inr (3, [.ref h, .ref lt, .long an, .int dp, .int qn])), (h, .inr (4, [.ref ra, .ref op, .int (nI v), .int lc]))]) (va_A [(bo, .inr (5, [.ref q, .ref mk, .ref ka, .ref cs])), (cs, .inl (cV, 2, .inr (.inr (.inr (.inr gs))))), (sv, .inr (3, [.ref h, .ref lt, .long an, .int dp, .int qn])), (h, .inr (4, [.ref ra, .ref op, .int (nI v), .int lc]))] sz)) 0 0 (va_A [(bo, .inr (5, [.ref q, .ref mk, .ref ka, .ref cs])), (cs, .inl (cV, 2, .inr (.inr (.inr (.inr gs))))), (sv, .inr (3, [.ref h, .ref lt, .long an, .int dp, .int qn])), (h, .inr (4, [.ref ra, .ref op, .int (nI v), .int lc]))] sz) := by
  refine Met.ofW (cc := cBS_requireHeld) (maxL := 3) (ret := none) (by decide) rfl ?_
  intro p e s m args below meth c s₁ Bo9 hml hv
  obtain ⟨rfl, hsz, hP, hK, hD0⟩ := hv
  have hx := Bo9.exec
  have hb := Bo9.bytes
  have hr := Bo9.returns
  have hts := fun w (h : w ∈ wT) => atoms_spec (ws := wsBS_requireHeld) Bo9.pre w (List.mem_cons_of_mem _ h)
  have hown : s.vm.findClass RBS = some m.cls := findClass_of_methodNamed Bo9.named
  have hlocks := Bo9.notSynchronized
  subst hsz
  have hD := hD0.self (sz := s.heap.size)
  generalize hAe : va_A [(bo, .inr (5, [.ref q, .ref mk, .ref ka, .ref cs])), (cs, .inl (cV, 2, .inr (.inr (.inr (.inr gs))))), (sv, .inr (3, [.ref h, .ref lt, .long an, .int dp, .int qn])), (h, .inr (4, [.ref ra, .ref op, .int (nI v), .int lc]))] s.heap.size = A at hD ⊢
  have hA : ∀ q : Nat, s.heap.size ≤ q → A q := fun q h => by rw [← hAe]; exact Or.inr h
  have hl := lv_entry ([.ref bo, .int (nI x9), .int x]) (n := 3) (Nat.le_of_ble_eq_true rfl)
  rw [lg_entry_eq]
  generalize (lg_sl ([.ref bo, .int (nI x9), .int x]) ++ List.replicate (3 - (lg_sl ([.ref bo, .int (nI x9), .int x])).length) Slot.unset).toArray = ls at hl ⊢
  have hl : lv_has ls 3 [(0, .ref bo), (1, .int (nI x9)), (2, .int x)] := hl
  refine xs_q (fun H Q hH hQ => ?_)
  have hS : va_S A s.heap H [] := by rw [hH]; exact va_S.rf
  have hP : va_P (dC, dI) vwCl [(bo, .inr (5, [.ref q, .ref mk, .ref ka, .ref cs])), (cs, .inl (cV, 2, .inr (.inr (.inr (.inr gs))))), (sv, .inr (3, [.ref h, .ref lt, .long an, .int dp, .int qn])), (h, .inr (4, [.ref ra, .ref op, .int (nI v), .int lc]))] H := by rw [hH]; exact hP
  refine lv_aload_n hx hb dBS_requireHeld_0 rfl (lv_at hl 0 rfl) ?_
  refine va_get (D := (dC, dI)) (ci := 5) (v := .ref cs) (C := RBS) (T := TBS) (N := 4) hx hb hts in_BS hown hK hP 0 rfl rfl 3 (by decide) (hts _ w_f_BS_35) (fun _ h9 => h9) rfl dBS_requireHeld_1 ?_
  refine lv_iload_n hx hb dBS_requireHeld_4 rfl (lv_at hl 1 rfl) ?_
  refine xa_aald hx hb hK hP 1 0 rfl rfl rfl x9 (by omega) (by decide) dBS_requireHeld_5 ?_
  refine xt_v (y := .ref sv) (by rw [hgs]; rfl) ?_
  refine va_get (D := (dC, dI)) (ci := 3) (v := .ref h) (C := RSV) (T := TSV) (N := 5) hx hb hts in_SV hown hK hP 2 rfl rfl 0 (by decide) (hts _ w_f_BS_45) (fun _ h9 => h9) rfl dBS_requireHeld_6 ?_
  refine lv_iload_n hx hb dBS_requireHeld_9 rfl (lv_at hl 2 rfl) ?_
  have hPc := hP.sub (ws' := [(h, .inr (4, [.ref ra, .ref op, .int (nI v), .int lc]))]) [3] rfl
  have hDc := hD.sub (ws' := [(h, .inr (4, [.ref ra, .ref op, .int (nI v), .int lc]))]) [3] (by decide) rfl
  have hKc := hK.sub (tys' := []) [] rfl
  have hFc := va_free (wc := [(h, .inr (4, [.ref ra, .ref op, .int (nI v), .int lc]))]) hD hS hA [3] rfl
  refine va_calli (va_runV (C := RSH) (As := [.int x]) (rest := []) ⟨hx, hb, hml, hown, hts⟩ (c_SH_isHeld l dC dI H.size h ra op v lc x (by omega)) (cwV (C := RSH) 1 hts (wT_4 w_m_BS_178 w_i_SH_isHeld w_s_SH_isHeld w_n_SH w_c_SH_isHeld) rfl rfl rfl (by decide +kernel) ⟨Nat.le_of_ble_eq_true rfl, Nat.le_of_ble_eq_true rfl⟩) ⟨fun a U g mk q => by obtain ⟨q0, q1, qP, qK, qD⟩ := q; exact ⟨q0, q1, qP, va_K.moved (u := U) (U := U.calling g mk a) (Vm.Alike.refl U.vm) qK, qD⟩, va_recv hK hP (q0 := 3) (ci := 4) (q := (RSH, TSH, 4)) rfl rfl, fun U hU hW => ⟨rfl, by rw [hU], by rw [hU]; exact hPc, va_K.moved hW.alike hKc, hDc.weaken (fun _ _ _ _ => trivial)⟩⟩ rfl rfl hl.1 rfl (lv_room (Nat.le_of_ble_eq_true rfl)) dBS_requireHeld_10 ⟨Nat.zero_le _, Nat.zero_le _⟩) hS (fun q _ h => hFc q h) hFc (fun r u t H1 locs ht hvm hw hB hz1 hk1 hS => ?_)
  obtain ⟨hP1, hK1, hD1⟩ := hB
  rw [ht] at hP1
  have hK1 := va_K.moved hvm.symm hK1
  have hw : r = bs_z (decide (nI (v - 8) ≤ x ∧ x ≤ nI v)) := hw
  rw [hw]
  obtain ⟨hP, hD⟩ := va_join (wr := [(bo, .inr (5, [.ref q, .ref mk, .ref ka, .ref cs])), (cs, .inl (cV, 2, .inr (.inr (.inr (.inr gs))))), (sv, .inr (3, [.ref h, .ref lt, .long an, .int dp, .int qn]))]) (w1 := [(h, .inr (4, [.ref ra, .ref op, .int (nI v), .int lc]))]) hP hD [3] [0, 1, 2] rfl rfl (by decide) (by decide) hk1 hFc hP1 hD1
  generalize H1 = H at hP hS ⊢
  have hP : va_P (dC, dI) vwCl [(bo, .inr (5, [.ref q, .ref mk, .ref ka, .ref cs])), (cs, .inl (cV, 2, .inr (.inr (.inr (.inr gs))))), (sv, .inr (3, [.ref h, .ref lt, .long an, .int dp, .int qn])), (h, .inr (4, [.ref ra, .ref op, .int (nI v), .int lc]))] H := hP
  have hD : va_D A [(bo, .inr (5, [.ref q, .ref mk, .ref ka, .ref cs])), (cs, .inl (cV, 2, .inr (.inr (.inr (.inr gs))))), (sv, .inr (3, [.ref h, .ref lt, .long an, .int dp, .int qn])), (h, .inr (4, [.ref ra, .ref op, .int (nI v), .int lc]))] := hD
  refine xt_i (y := nI 1) (by rw [hu]; rfl) ?_
  refine lv_if_ne (tgt := 26) hx hb dBS_requireHeld_13 (by decide) (fun _ => ?_) (fun h => absurd h (by decide +kernel))
  have hP : va_P (dC, dI) vwCl [(bo, .inr (5, [.ref q, .ref mk, .ref ka, .ref cs])), (cs, .inl (cV, 2, .inr (.inr (.inr (.inr gs))))), (sv, .inr (3, [.ref h, .ref lt, .long an, .int dp, .int qn])), (h, .inr (4, [.ref ra, .ref op, .int (nI v), .int lc]))] H := hP
  have hD : va_D A [(bo, .inr (5, [.ref q, .ref mk, .ref ka, .ref cs])), (cs, .inl (cV, 2, .inr (.inr (.inr (.inr gs))))), (sv, .inr (3, [.ref h, .ref lt, .long an, .int dp, .int qn])), (h, .inr (4, [.ref ra, .ref op, .int (nI v), .int lc]))] := hD
  subst hQ
  exact W.vret hx hb hr (fun t ht hW => ⟨⟨(), rfl, trivial, by rw [ht]; exact hP, va_K.moved hW.alike hK, hD⟩, hS.F ht⟩) hS.2.2 dBS_requireHeld_26
set_option maxHeartbeats 4000000 in
set_option maxRecDepth 100000 in
theorem c_BS_requireGood_y (l : Launch) (dC : Nat → ClassId) (dI : Nat → Nat → Nat) (sz : Nat) (bo q mk ka cs : Nat) (k kb kf ks kt : Nat) (num : Int32) (cI : ClassId) (cK : ClassId) (gk : Nat → Option Nat) (fb : Nat → Int32) (x9 : Nat) (hx9 : x9 < 2) (hgk : gk x9 = some k) (hg : bs_gd fb 8 = true) : Met l yBS_requireGood wsBS_requireGood { frames := 6, cells := 0, slots := 0, locals := 130 } (va_Pc [.ref bo, .int (nI x9)] (fun U => U.heap.size = sz ∧ va_P (dC, dI) vwCl [(bo, .inr (5, [.ref q, .ref mk, .ref ka, .ref cs])), (ka, .inl (cK, 2, .inr (.inr (.inr (.inr gk))))), (k, .inr (1, [.ref kb, .int num, .ref kf, .ref ks, .ref kt])), (kb, .inl (cI, 160, .inl fb))] U.heap ∧ va_K (dC, dI) vwCl [(cI, .int), (cK, .object "BlindShelf$Key")] U ∧ va_D (fun _ => True) [(bo, .inr (5, [.ref q, .ref mk, .ref ka, .ref cs])), (ka, .inl (cK, 2, .inr (.inr (.inr (.inr gk))))), (k, .inr (1, [.ref kb, .int num, .ref kf, .ref ks, .ref kt])), (kb, .inl (cI, 160, .inl fb))])) (va_Qv (fun (_ : Unit) => True) (fun (_ : Unit) t => va_P (dC, dI) vwCl [(bo, .inr (5, [.ref q, .ref mk, .ref ka, .ref cs])), (ka, .inl (cK, 2, .inr (.inr (.inr (.inr gk))))), (k, .inr (1, [.ref kb, .int num, .ref kf, .ref ks, .ref kt])), (kb, .inl (cI, 160, .inl fb))] t.heap ∧ va_K (dC, dI) vwCl [(cI, .int), (cK, .object "BlindShelf$Key")] t ∧ va_D (va_A [(bo, .inr (5, [.ref q, .ref mk, .ref ka, .ref cs])), (ka, .inl (cK, 2, .inr (.inr (.inr (.inr gk))))), (k, .inr (1, [.ref kb, .int num, .ref kf, .ref ks, .ref kt])), (kb, .inl (cI, 160, .inl fb))] sz) [(bo, .inr (5, [.ref q, .ref mk, .ref ka, .ref cs])), (ka, .inl (cK, 2, .inr (.inr (.inr (.inr gk))))), (k, .inr (1, [.ref kb, .int num, .ref kf, .ref ks, .ref kt])), (kb, .inl (cI, 160, .inl fb))]) (va_A [(bo, .inr (5, [.ref q, .ref mk, .ref ka, .ref cs])), (ka, .inl (cK, 2, .inr (.inr (.inr (.inr gk))))), (k, .inr (1, [.ref kb, .int num, .ref kf, .ref ks, .ref kt])), (kb, .inl (cI, 160, .inl fb))] sz)) 0 0 (va_A [(bo, .inr (5, [.ref q, .ref mk, .ref ka, .ref cs])), (ka, .inl (cK, 2, .inr (.inr (.inr (.inr gk))))), (k, .inr (1, [.ref kb, .int num, .ref kf, .ref ks, .ref kt])), (kb, .inl (cI, 160, .inl fb))] sz) := by
  refine Met.ofW (cc := cBS_requireGood) (maxL := 2) (ret := none) (by decide) rfl ?_
  intro p e s m args below meth c s₁ Bo9 hml hv
  obtain ⟨rfl, hsz, hP, hK, hD0⟩ := hv
  have hx := Bo9.exec
  have hb := Bo9.bytes
  have hr := Bo9.returns
  have hts := fun w (h : w ∈ wT) => atoms_spec (ws := wsBS_requireGood) Bo9.pre w (List.mem_cons_of_mem _ h)
  have hown : s.vm.findClass RBS = some m.cls := findClass_of_methodNamed Bo9.named
  have hlocks := Bo9.notSynchronized
  subst hsz
  have hD := hD0.self (sz := s.heap.size)
  generalize hAe : va_A [(bo, .inr (5, [.ref q, .ref mk, .ref ka, .ref cs])), (ka, .inl (cK, 2, .inr (.inr (.inr (.inr gk))))), (k, .inr (1, [.ref kb, .int num, .ref kf, .ref ks, .ref kt])), (kb, .inl (cI, 160, .inl fb))] s.heap.size = A at hD ⊢
  have hA : ∀ q : Nat, s.heap.size ≤ q → A q := fun q h => by rw [← hAe]; exact Or.inr h
  have hl := lv_entry ([.ref bo, .int (nI x9)]) (n := 2) (Nat.le_of_ble_eq_true rfl)
  rw [lg_entry_eq]
  generalize (lg_sl ([.ref bo, .int (nI x9)]) ++ List.replicate (2 - (lg_sl ([.ref bo, .int (nI x9)])).length) Slot.unset).toArray = ls at hl ⊢
  have hl : lv_has ls 2 [(0, .ref bo), (1, .int (nI x9))] := hl
  refine xs_q (fun H Q hH hQ => ?_)
  have hS : va_S A s.heap H [] := by rw [hH]; exact va_S.rf
  have hP : va_P (dC, dI) vwCl [(bo, .inr (5, [.ref q, .ref mk, .ref ka, .ref cs])), (ka, .inl (cK, 2, .inr (.inr (.inr (.inr gk))))), (k, .inr (1, [.ref kb, .int num, .ref kf, .ref ks, .ref kt])), (kb, .inl (cI, 160, .inl fb))] H := by rw [hH]; exact hP
  refine lv_aload_n hx hb dBS_requireGood_0 rfl (lv_at hl 0 rfl) ?_
  refine va_get (D := (dC, dI)) (ci := 5) (v := .ref ka) (C := RBS) (T := TBS) (N := 4) hx hb hts in_BS hown hK hP 0 rfl rfl 2 (by decide) (hts _ w_f_BS_28) (fun _ h9 => h9) rfl dBS_requireGood_1 ?_
  refine lv_iload_n hx hb dBS_requireGood_4 rfl (lv_at hl 1 rfl) ?_
  refine xa_aald hx hb hK hP 1 1 rfl rfl rfl x9 (by omega) (by decide) dBS_requireGood_5 ?_
  refine xt_v (y := .ref k) (by rw [hgk]; rfl) ?_
  have hPc := hP.sub (ws' := [(k, .inr (1, [.ref kb, .int num, .ref kf, .ref ks, .ref kt])), (kb, .inl (cI, 160, .inl fb))]) [2, 3] rfl
  have hDc := hD.sub (ws' := [(k, .inr (1, [.ref kb, .int num, .ref kf, .ref ks, .ref kt])), (kb, .inl (cI, 160, .inl fb))]) [2, 3] (by decide) rfl
  have hKc := hK.sub (tys' := [(cI, .int)]) [0] rfl
  have hFc := va_free (wc := [(k, .inr (1, [.ref kb, .int num, .ref kf, .ref ks, .ref kt])), (kb, .inl (cI, 160, .inl fb))]) hD hS hA [2, 3] rfl
  refine va_calli (va_runV (C := RKY) (As := []) (rest := []) ⟨hx, hb, hml, hown, hts⟩ (c_KY_isGood l dC dI H.size k kb kf ks kt num cI fb) (cwV (C := RKY) 0 hts (wT_4 w_m_BS_153 w_i_KY_isGood w_s_KY_isGood w_n_KY w_c_KY_isGood) rfl rfl rfl (by decide +kernel) ⟨Nat.le_of_ble_eq_true rfl, Nat.le_of_ble_eq_true rfl⟩) ⟨fun a U g mk q => by obtain ⟨q0, q1, qP, qK, qD⟩ := q; exact ⟨q0, q1, qP, va_K.moved (u := U) (U := U.calling g mk a) (Vm.Alike.refl U.vm) qK, qD⟩, va_recv hK hP (q0 := 2) (ci := 1) (q := (RKY, TKY, 5)) rfl rfl, fun U hU hW => ⟨rfl, by rw [hU], by rw [hU]; exact hPc, va_K.moved hW.alike hKc, hDc.weaken (fun _ _ _ _ => trivial)⟩⟩ rfl rfl hl.1 rfl (lv_room (Nat.le_of_ble_eq_true rfl)) dBS_requireGood_6 ⟨Nat.zero_le _, Nat.zero_le _⟩) hS (fun q _ h => hFc q h) hFc (fun r u t H1 locs ht hvm hw hB hz1 hk1 hS => ?_)
  obtain ⟨hP1, hK1, hD1⟩ := hB
  rw [ht] at hP1
  have hK1 := va_K.moved hvm.symm hK1
  have hw : r = bs_z (bs_gd fb 8) := hw
  rw [hw]
  obtain ⟨hP, hD⟩ := va_join (wr := [(bo, .inr (5, [.ref q, .ref mk, .ref ka, .ref cs])), (ka, .inl (cK, 2, .inr (.inr (.inr (.inr gk)))))]) (w1 := [(k, .inr (1, [.ref kb, .int num, .ref kf, .ref ks, .ref kt])), (kb, .inl (cI, 160, .inl fb))]) hP hD [2, 3] [0, 1] rfl rfl (by decide) (by decide) hk1 hFc hP1 hD1
  generalize H1 = H at hP hS ⊢
  have hP : va_P (dC, dI) vwCl [(bo, .inr (5, [.ref q, .ref mk, .ref ka, .ref cs])), (ka, .inl (cK, 2, .inr (.inr (.inr (.inr gk))))), (k, .inr (1, [.ref kb, .int num, .ref kf, .ref ks, .ref kt])), (kb, .inl (cI, 160, .inl fb))] H := hP
  have hD : va_D A [(bo, .inr (5, [.ref q, .ref mk, .ref ka, .ref cs])), (ka, .inl (cK, 2, .inr (.inr (.inr (.inr gk))))), (k, .inr (1, [.ref kb, .int num, .ref kf, .ref ks, .ref kt])), (kb, .inl (cI, 160, .inl fb))] := hD
  refine xt_i (y := nI 1) (by rw [hg]; rfl) ?_
  refine lv_if_ne (tgt := 22) hx hb dBS_requireGood_9 (by decide) (fun _ => ?_) (fun h => absurd h (by decide +kernel))
  have hP : va_P (dC, dI) vwCl [(bo, .inr (5, [.ref q, .ref mk, .ref ka, .ref cs])), (ka, .inl (cK, 2, .inr (.inr (.inr (.inr gk))))), (k, .inr (1, [.ref kb, .int num, .ref kf, .ref ks, .ref kt])), (kb, .inl (cI, 160, .inl fb))] H := hP
  have hD : va_D A [(bo, .inr (5, [.ref q, .ref mk, .ref ka, .ref cs])), (ka, .inl (cK, 2, .inr (.inr (.inr (.inr gk))))), (k, .inr (1, [.ref kb, .int num, .ref kf, .ref ks, .ref kt])), (kb, .inl (cI, 160, .inl fb))] := hD
  subst hQ
  exact W.vret hx hb hr (fun t ht hW => ⟨⟨(), rfl, trivial, by rw [ht]; exact hP, va_K.moved hW.alike hK, hD⟩, hS.F ht⟩) hS.2.2 dBS_requireGood_22
set_option maxHeartbeats 4000000 in
set_option maxRecDepth 100000 in
theorem c_BS_put_y (l : Launch) (dC : Nat → ClassId) (dI : Nat → Nat → Nat) (sz : Nat) (bo q mk ka cs : Nat) (sv h lt : Nat) (an : Int64) (dp qn : Int32) (cV : ClassId) (gs : Nat → Option Nat) (x9 : Nat) (ra op : Nat) (v : Nat) (lc : Int32) (cL : ClassId) (fo : Nat → Int64) (i9 : Nat) (x : Int64) (hx9 : x9 < 2) (hgs : gs x9 = some sv) (hi9 : i9 < 256) : Met l yBS_put wsBS_put { frames := 7, cells := 0, slots := 0, locals := 150 } (va_Pc [.ref bo, .int (nI x9), .int (nI i9), .long x] (fun U => U.heap.size = sz ∧ va_P (dC, dI) vwCl [(bo, .inr (5, [.ref q, .ref mk, .ref ka, .ref cs])), (cs, .inl (cV, 2, .inr (.inr (.inr (.inr gs))))), (sv, .inr (3, [.ref h, .ref lt, .long an, .int dp, .int qn])), (h, .inr (4, [.ref ra, .ref op, .int (nI v), .int lc])), (op, .inl (cL, 256, .inr (.inl fo)))] U.heap ∧ va_K (dC, dI) vwCl [(cV, .object "BlindShelf$Server"), (cL, .long)] U ∧ va_D (fun _ => True) [(bo, .inr (5, [.ref q, .ref mk, .ref ka, .ref cs])), (cs, .inl (cV, 2, .inr (.inr (.inr (.inr gs))))), (sv, .inr (3, [.ref h, .ref lt, .long an, .int dp, .int qn])), (h, .inr (4, [.ref ra, .ref op, .int (nI v), .int lc])), (op, .inl (cL, 256, .inr (.inl fo)))])) (va_Qv (fun (_ : Unit) => True) (fun (_ : Unit) t => va_P (dC, dI) vwCl [(bo, .inr (5, [.ref q, .ref mk, .ref ka, .ref cs])), (cs, .inl (cV, 2, .inr (.inr (.inr (.inr gs))))), (sv, .inr (3, [.ref h, .ref lt, .long an, .int dp, .int qn])), (h, .inr (4, [.ref ra, .ref op, .int (nI v), .int lc])), (op, .inl (cL, 256, .inr (.inl (vp_updL fo i9 x))))] t.heap ∧ va_K (dC, dI) vwCl [(cV, .object "BlindShelf$Server"), (cL, .long)] t ∧ va_D (va_A [(bo, .inr (5, [.ref q, .ref mk, .ref ka, .ref cs])), (cs, .inl (cV, 2, .inr (.inr (.inr (.inr gs))))), (sv, .inr (3, [.ref h, .ref lt, .long an, .int dp, .int qn])), (h, .inr (4, [.ref ra, .ref op, .int (nI v), .int lc])), (op, .inl (cL, 256, .inr (.inl fo)))] sz) [(bo, .inr (5, [.ref q, .ref mk, .ref ka, .ref cs])), (cs, .inl (cV, 2, .inr (.inr (.inr (.inr gs))))), (sv, .inr (3, [.ref h, .ref lt, .long an, .int dp, .int qn])), (h, .inr (4, [.ref ra, .ref op, .int (nI v), .int lc])), (op, .inl (cL, 256, .inr (.inl (vp_updL fo i9 x))))]) (va_A [(bo, .inr (5, [.ref q, .ref mk, .ref ka, .ref cs])), (cs, .inl (cV, 2, .inr (.inr (.inr (.inr gs))))), (sv, .inr (3, [.ref h, .ref lt, .long an, .int dp, .int qn])), (h, .inr (4, [.ref ra, .ref op, .int (nI v), .int lc])), (op, .inl (cL, 256, .inr (.inl fo)))] sz)) 0 0 (va_A [(bo, .inr (5, [.ref q, .ref mk, .ref ka, .ref cs])), (cs, .inl (cV, 2, .inr (.inr (.inr (.inr gs))))), (sv, .inr (3, [.ref h, .ref lt, .long an, .int dp, .int qn])), (h, .inr (4, [.ref ra, .ref op, .int (nI v), .int lc])), (op, .inl (cL, 256, .inr (.inl fo)))] sz) := by
  refine Met.ofW (cc := cBS_put) (maxL := 5) (ret := none) (by decide) rfl ?_
  intro p e s m args below meth c s₁ Bo9 hml hv
  obtain ⟨rfl, hsz, hP, hK, hD0⟩ := hv
  have hx := Bo9.exec
  have hb := Bo9.bytes
  have hr := Bo9.returns
  have hts := fun w (h : w ∈ wT) => atoms_spec (ws := wsBS_put) Bo9.pre w (List.mem_cons_of_mem _ h)
  have hown : s.vm.findClass RBS = some m.cls := findClass_of_methodNamed Bo9.named
  have hlocks := Bo9.notSynchronized
  subst hsz
  have hD := hD0.self (sz := s.heap.size)
  generalize hAe : va_A [(bo, .inr (5, [.ref q, .ref mk, .ref ka, .ref cs])), (cs, .inl (cV, 2, .inr (.inr (.inr (.inr gs))))), (sv, .inr (3, [.ref h, .ref lt, .long an, .int dp, .int qn])), (h, .inr (4, [.ref ra, .ref op, .int (nI v), .int lc])), (op, .inl (cL, 256, .inr (.inl fo)))] s.heap.size = A at hD ⊢
  have hA : ∀ q : Nat, s.heap.size ≤ q → A q := fun q h => by rw [← hAe]; exact Or.inr h
  have hl := lv_entry ([.ref bo, .int (nI x9), .int (nI i9), .long x]) (n := 5) (Nat.le_of_ble_eq_true rfl)
  rw [lg_entry_eq]
  generalize (lg_sl ([.ref bo, .int (nI x9), .int (nI i9), .long x]) ++ List.replicate (5 - (lg_sl ([.ref bo, .int (nI x9), .int (nI i9), .long x])).length) Slot.unset).toArray = ls at hl ⊢
  have hl : lv_has ls 5 [(0, .ref bo), (1, .int (nI x9)), (2, .int (nI i9)), (3, .long x)] := hl
  refine xs_q (fun H Q hH hQ => ?_)
  have hS : va_S A s.heap H [] := by rw [hH]; exact va_S.rf
  have hP : va_P (dC, dI) vwCl [(bo, .inr (5, [.ref q, .ref mk, .ref ka, .ref cs])), (cs, .inl (cV, 2, .inr (.inr (.inr (.inr gs))))), (sv, .inr (3, [.ref h, .ref lt, .long an, .int dp, .int qn])), (h, .inr (4, [.ref ra, .ref op, .int (nI v), .int lc])), (op, .inl (cL, 256, .inr (.inl fo)))] H := by rw [hH]; exact hP
  refine lv_iload_n hx hb dBS_put_0 rfl (lv_at hl 1 rfl) ?_
  have hPc := hP.sub (ws' := []) [] rfl
  have hDc := hD.sub (ws' := []) [] (by decide) rfl
  have hKc := hK.sub (tys' := []) [] rfl
  have hFc := va_free (wc := []) hD hS hA [] rfl
  refine va_callv (va_runS (As := [.int (nI x9)]) (rest := []) ⟨hx, hb, hml, hown, hts⟩ (c_BS_requireServer_y l dC dI H.size x9 hx9) (va_cwS 1 hts (wT_3 w_m_BS_39 w_t_BS_requireServer w_n_BS w_c_BS_requireServer) rfl rfl rfl (by decide +kernel) ⟨Nat.le_of_ble_eq_true rfl, Nat.le_of_ble_eq_true rfl⟩) ⟨fun a U g mk q => by obtain ⟨q0, q1, qP, qK, qD⟩ := q; exact ⟨q0, q1, qP, va_K.moved (u := U) (U := U.calling g mk a) (Vm.Alike.refl U.vm) qK, qD⟩, fun U hU hW => ⟨rfl, by rw [hU], by rw [hU]; exact hPc, va_K.moved hW.alike hKc, hDc.weaken (fun _ _ _ _ => trivial)⟩⟩ rfl rfl hl.1 rfl (lv_room (Nat.le_of_ble_eq_true rfl)) dBS_put_1 ⟨Nat.zero_le _, Nat.zero_le _⟩) hS (fun q _ h => hFc q h) hFc (fun u t H1 locs ht hvm hw hB hz1 hk1 hS => ?_)
  obtain ⟨hP1, hK1, hD1⟩ := hB
  rw [ht] at hP1
  have hK1 := va_K.moved hvm.symm hK1
  obtain ⟨hP, hD⟩ := va_join (wr := [(bo, .inr (5, [.ref q, .ref mk, .ref ka, .ref cs])), (cs, .inl (cV, 2, .inr (.inr (.inr (.inr gs))))), (sv, .inr (3, [.ref h, .ref lt, .long an, .int dp, .int qn])), (h, .inr (4, [.ref ra, .ref op, .int (nI v), .int lc])), (op, .inl (cL, 256, .inr (.inl fo)))]) (w1 := []) hP hD [] [0, 1, 2, 3, 4] rfl rfl (by decide) (by decide) hk1 hFc hP1 hD1
  generalize H1 = H at hP hS ⊢
  have hP : va_P (dC, dI) vwCl [(bo, .inr (5, [.ref q, .ref mk, .ref ka, .ref cs])), (cs, .inl (cV, 2, .inr (.inr (.inr (.inr gs))))), (sv, .inr (3, [.ref h, .ref lt, .long an, .int dp, .int qn])), (h, .inr (4, [.ref ra, .ref op, .int (nI v), .int lc])), (op, .inl (cL, 256, .inr (.inl fo)))] H := hP
  have hD : va_D A [(bo, .inr (5, [.ref q, .ref mk, .ref ka, .ref cs])), (cs, .inl (cV, 2, .inr (.inr (.inr (.inr gs))))), (sv, .inr (3, [.ref h, .ref lt, .long an, .int dp, .int qn])), (h, .inr (4, [.ref ra, .ref op, .int (nI v), .int lc])), (op, .inl (cL, 256, .inr (.inl fo)))] := hD
  refine lv_iload_n hx hb dBS_put_4 rfl (lv_at hl 2 rfl) ?_
  have hPc := hP.sub (ws' := []) [] rfl
  have hDc := hD.sub (ws' := []) [] (by decide) rfl
  have hKc := hK.sub (tys' := []) [] rfl
  have hFc := va_free (wc := []) hD hS hA [] rfl
  refine va_callv (va_runS (As := [.int (nI i9)]) (rest := []) ⟨hx, hb, hml, hown, hts⟩ (c_BS_requirePlace_y l dC dI H.size i9 hi9) (va_cwS 1 hts (wT_3 w_m_BS_42 w_t_BS_requirePlace w_n_BS w_c_BS_requirePlace) rfl rfl rfl (by decide +kernel) ⟨Nat.le_of_ble_eq_true rfl, Nat.le_of_ble_eq_true rfl⟩) ⟨fun a U g mk q => by obtain ⟨q0, q1, qP, qK, qD⟩ := q; exact ⟨q0, q1, qP, va_K.moved (u := U) (U := U.calling g mk a) (Vm.Alike.refl U.vm) qK, qD⟩, fun U hU hW => ⟨rfl, by rw [hU], by rw [hU]; exact hPc, va_K.moved hW.alike hKc, hDc.weaken (fun _ _ _ _ => trivial)⟩⟩ rfl rfl hl.1 rfl (lv_room (Nat.le_of_ble_eq_true rfl)) dBS_put_5 ⟨Nat.zero_le _, Nat.zero_le _⟩) hS (fun q _ h => hFc q h) hFc (fun u t H1 locs ht hvm hw hB hz1 hk1 hS => ?_)
  obtain ⟨hP1, hK1, hD1⟩ := hB
  rw [ht] at hP1
  have hK1 := va_K.moved hvm.symm hK1
  obtain ⟨hP, hD⟩ := va_join (wr := [(bo, .inr (5, [.ref q, .ref mk, .ref ka, .ref cs])), (cs, .inl (cV, 2, .inr (.inr (.inr (.inr gs))))), (sv, .inr (3, [.ref h, .ref lt, .long an, .int dp, .int qn])), (h, .inr (4, [.ref ra, .ref op, .int (nI v), .int lc])), (op, .inl (cL, 256, .inr (.inl fo)))]) (w1 := []) hP hD [] [0, 1, 2, 3, 4] rfl rfl (by decide) (by decide) hk1 hFc hP1 hD1
  generalize H1 = H at hP hS ⊢
  have hP : va_P (dC, dI) vwCl [(bo, .inr (5, [.ref q, .ref mk, .ref ka, .ref cs])), (cs, .inl (cV, 2, .inr (.inr (.inr (.inr gs))))), (sv, .inr (3, [.ref h, .ref lt, .long an, .int dp, .int qn])), (h, .inr (4, [.ref ra, .ref op, .int (nI v), .int lc])), (op, .inl (cL, 256, .inr (.inl fo)))] H := hP
  have hD : va_D A [(bo, .inr (5, [.ref q, .ref mk, .ref ka, .ref cs])), (cs, .inl (cV, 2, .inr (.inr (.inr (.inr gs))))), (sv, .inr (3, [.ref h, .ref lt, .long an, .int dp, .int qn])), (h, .inr (4, [.ref ra, .ref op, .int (nI v), .int lc])), (op, .inl (cL, 256, .inr (.inl fo)))] := hD
  refine lv_aload_n hx hb dBS_put_8 rfl (lv_at hl 0 rfl) ?_
  refine va_get (D := (dC, dI)) (ci := 5) (v := .ref cs) (C := RBS) (T := TBS) (N := 4) hx hb hts in_BS hown hK hP 0 rfl rfl 3 (by decide) (hts _ w_f_BS_35) (fun _ h9 => h9) rfl dBS_put_9 ?_
  refine lv_iload_n hx hb dBS_put_12 rfl (lv_at hl 1 rfl) ?_
  refine xa_aald hx hb hK hP 1 0 rfl rfl rfl x9 (by omega) (by decide) dBS_put_13 ?_
  refine xt_v (y := .ref sv) (by rw [hgs]; rfl) ?_
  refine va_get (D := (dC, dI)) (ci := 3) (v := .ref h) (C := RSV) (T := TSV) (N := 5) hx hb hts in_SV hown hK hP 2 rfl rfl 0 (by decide) (hts _ w_f_BS_45) (fun _ h9 => h9) rfl dBS_put_14 ?_
  refine lv_iload_n hx hb dBS_put_17 rfl (lv_at hl 2 rfl) ?_
  refine lv_lload_n hx hb dBS_put_18 rfl (lv_at hl 3 rfl) ?_
  have hPc := hP.sub (ws' := [(h, .inr (4, [.ref ra, .ref op, .int (nI v), .int lc])), (op, .inl (cL, 256, .inr (.inl fo)))]) [3, 4] rfl
  have hDc := hD.sub (ws' := [(h, .inr (4, [.ref ra, .ref op, .int (nI v), .int lc])), (op, .inl (cL, 256, .inr (.inl fo)))]) [3, 4] (by decide) rfl
  have hKc := hK.sub (tys' := [(cL, .long)]) [1] rfl
  have hFc := va_free (wc := [(h, .inr (4, [.ref ra, .ref op, .int (nI v), .int lc])), (op, .inl (cL, 256, .inr (.inl fo)))]) hD hS hA [3, 4] rfl
  refine va_callv (va_runV (C := RSH) (As := [.int (nI i9), .long x]) (rest := []) ⟨hx, hb, hml, hown, hts⟩ (c_SH_change l dC dI H.size h ra op v lc cL fo i9 x hi9) (cwV (C := RSH) 2 hts (wT_4 w_m_BS_49 w_i_SH_change w_s_SH_change w_n_SH w_c_SH_change) rfl rfl rfl (by decide +kernel) ⟨Nat.le_of_ble_eq_true rfl, Nat.le_of_ble_eq_true rfl⟩) ⟨fun a U g mk q => by obtain ⟨q0, q1, qP, qK, qD⟩ := q; exact ⟨q0, q1, qP, va_K.moved (u := U) (U := U.calling g mk a) (Vm.Alike.refl U.vm) qK, qD⟩, va_recv hK hP (q0 := 3) (ci := 4) (q := (RSH, TSH, 4)) rfl rfl, fun U hU hW => ⟨rfl, by rw [hU], by rw [hU]; exact hPc, va_K.moved hW.alike hKc, hDc.weaken (fun _ _ _ _ => trivial)⟩⟩ rfl rfl hl.1 rfl (lv_room (Nat.le_of_ble_eq_true rfl)) dBS_put_19 ⟨Nat.zero_le _, Nat.zero_le _⟩) hS (fun q _ h => hFc q h) hFc (fun u t H1 locs ht hvm hw hB hz1 hk1 hS => ?_)
  obtain ⟨hP1, hK1, hD1⟩ := hB
  rw [ht] at hP1
  have hK1 := va_K.moved hvm.symm hK1
  obtain ⟨hP, hD⟩ := va_join (wr := [(bo, .inr (5, [.ref q, .ref mk, .ref ka, .ref cs])), (cs, .inl (cV, 2, .inr (.inr (.inr (.inr gs))))), (sv, .inr (3, [.ref h, .ref lt, .long an, .int dp, .int qn]))]) (w1 := [(h, .inr (4, [.ref ra, .ref op, .int (nI v), .int lc])), (op, .inl (cL, 256, .inr (.inl (vp_updL fo i9 x))))]) hP hD [3, 4] [0, 1, 2] rfl rfl (by decide) (by decide) hk1 hFc hP1 hD1
  generalize H1 = H at hP hS ⊢
  have hP : va_P (dC, dI) vwCl [(bo, .inr (5, [.ref q, .ref mk, .ref ka, .ref cs])), (cs, .inl (cV, 2, .inr (.inr (.inr (.inr gs))))), (sv, .inr (3, [.ref h, .ref lt, .long an, .int dp, .int qn])), (h, .inr (4, [.ref ra, .ref op, .int (nI v), .int lc])), (op, .inl (cL, 256, .inr (.inl (vp_updL fo i9 x))))] H := hP
  have hD : va_D A [(bo, .inr (5, [.ref q, .ref mk, .ref ka, .ref cs])), (cs, .inl (cV, 2, .inr (.inr (.inr (.inr gs))))), (sv, .inr (3, [.ref h, .ref lt, .long an, .int dp, .int qn])), (h, .inr (4, [.ref ra, .ref op, .int (nI v), .int lc])), (op, .inl (cL, 256, .inr (.inl (vp_updL fo i9 x))))] := hD
  have hP : va_P (dC, dI) vwCl [(bo, .inr (5, [.ref q, .ref mk, .ref ka, .ref cs])), (cs, .inl (cV, 2, .inr (.inr (.inr (.inr gs))))), (sv, .inr (3, [.ref h, .ref lt, .long an, .int dp, .int qn])), (h, .inr (4, [.ref ra, .ref op, .int (nI v), .int lc])), (op, .inl (cL, 256, .inr (.inl (vp_updL fo i9 x))))] H := hP
  have hD : va_D A [(bo, .inr (5, [.ref q, .ref mk, .ref ka, .ref cs])), (cs, .inl (cV, 2, .inr (.inr (.inr (.inr gs))))), (sv, .inr (3, [.ref h, .ref lt, .long an, .int dp, .int qn])), (h, .inr (4, [.ref ra, .ref op, .int (nI v), .int lc])), (op, .inl (cL, 256, .inr (.inl (vp_updL fo i9 x))))] := hD
  subst hQ
  exact W.vret hx hb hr (fun t ht hW => ⟨⟨(), rfl, trivial, by rw [ht]; exact hP, va_K.moved hW.alike hK, hD⟩, hS.F ht⟩) hS.2.2 dBS_put_22
set_option maxHeartbeats 4000000 in
set_option maxRecDepth 100000 in
theorem c_BS_close_y (l : Launch) (dC : Nat → ClassId) (dI : Nat → Nat → Nat) (sz : Nat) (bo q mk ka cs : Nat) (sv h lt : Nat) (an : Int64) (dp qn : Int32) (cV : ClassId) (gs : Nat → Option Nat) (x9 : Nat) (ra op : Nat) (v : Nat) (lc : Int32) (cJ cL : ClassId) (gr : Nat → Option Nat) (ad ad2 : Nat) (fo fr fr2 : Nat → Int64) (hx9 : x9 < 2) (hgs : gs x9 = some sv) (hv : v < 2 ^ 29) (hgr : gr (v % 9) = some ad) (hgr2 : gr ((v + 1) % 9) = some ad2) : Met l yBS_close wsBS_close { frames := 7, cells := 0, slots := 0, locals := 150 } (va_Pc [.ref bo, .int (nI x9)] (fun U => U.heap.size = sz ∧ va_P (dC, dI) vwCl [(bo, .inr (5, [.ref q, .ref mk, .ref ka, .ref cs])), (cs, .inl (cV, 2, .inr (.inr (.inr (.inr gs))))), (sv, .inr (3, [.ref h, .ref lt, .long an, .int dp, .int qn])), (h, .inr (4, [.ref ra, .ref op, .int (nI v), .int lc])), (ra, .inl (cJ, 9, .inr (.inr (.inr (.inr gr))))), (op, .inl (cL, 256, .inr (.inl fo))), (ad, .inl (cL, 256, .inr (.inl fr))), (ad2, .inl (cL, 256, .inr (.inl fr2)))] U.heap ∧ va_K (dC, dI) vwCl [(cV, .object "BlindShelf$Server"), (cJ, .array .long), (cL, .long)] U ∧ va_D (fun _ => True) [(bo, .inr (5, [.ref q, .ref mk, .ref ka, .ref cs])), (cs, .inl (cV, 2, .inr (.inr (.inr (.inr gs))))), (sv, .inr (3, [.ref h, .ref lt, .long an, .int dp, .int qn])), (h, .inr (4, [.ref ra, .ref op, .int (nI v), .int lc])), (ra, .inl (cJ, 9, .inr (.inr (.inr (.inr gr))))), (op, .inl (cL, 256, .inr (.inl fo))), (ad, .inl (cL, 256, .inr (.inl fr))), (ad2, .inl (cL, 256, .inr (.inl fr2)))])) (va_Qi (fun (r : Int32) (_ : Unit) => r = nI (v + 1)) (fun (_ : Unit) t => va_P (dC, dI) vwCl [(bo, .inr (5, [.ref q, .ref mk, .ref ka, .ref cs])), (cs, .inl (cV, 2, .inr (.inr (.inr (.inr gs))))), (sv, .inr (3, [.ref h, .ref lt, .long an, .int dp, .int qn])), (h, .inr (4, [.ref ra, .ref op, .int (nI (v + 1)), .int (nI (bs_chg fo fr 256))])), (ra, .inl (cJ, 9, .inr (.inr (.inr (.inr gr))))), (op, .inl (cL, 256, .inr (.inl fo))), (ad, .inl (cL, 256, .inr (.inl fr))), (ad2, .inl (cL, 256, .inr (.inl fo)))] t.heap ∧ va_K (dC, dI) vwCl [(cV, .object "BlindShelf$Server"), (cJ, .array .long), (cL, .long)] t ∧ va_D (va_A [(bo, .inr (5, [.ref q, .ref mk, .ref ka, .ref cs])), (cs, .inl (cV, 2, .inr (.inr (.inr (.inr gs))))), (sv, .inr (3, [.ref h, .ref lt, .long an, .int dp, .int qn])), (h, .inr (4, [.ref ra, .ref op, .int (nI v), .int lc])), (ra, .inl (cJ, 9, .inr (.inr (.inr (.inr gr))))), (op, .inl (cL, 256, .inr (.inl fo))), (ad, .inl (cL, 256, .inr (.inl fr))), (ad2, .inl (cL, 256, .inr (.inl fr2)))] sz) [(bo, .inr (5, [.ref q, .ref mk, .ref ka, .ref cs])), (cs, .inl (cV, 2, .inr (.inr (.inr (.inr gs))))), (sv, .inr (3, [.ref h, .ref lt, .long an, .int dp, .int qn])), (h, .inr (4, [.ref ra, .ref op, .int (nI (v + 1)), .int (nI (bs_chg fo fr 256))])), (ra, .inl (cJ, 9, .inr (.inr (.inr (.inr gr))))), (op, .inl (cL, 256, .inr (.inl fo))), (ad, .inl (cL, 256, .inr (.inl fr))), (ad2, .inl (cL, 256, .inr (.inl fo)))]) (va_A [(bo, .inr (5, [.ref q, .ref mk, .ref ka, .ref cs])), (cs, .inl (cV, 2, .inr (.inr (.inr (.inr gs))))), (sv, .inr (3, [.ref h, .ref lt, .long an, .int dp, .int qn])), (h, .inr (4, [.ref ra, .ref op, .int (nI v), .int lc])), (ra, .inl (cJ, 9, .inr (.inr (.inr (.inr gr))))), (op, .inl (cL, 256, .inr (.inl fo))), (ad, .inl (cL, 256, .inr (.inl fr))), (ad2, .inl (cL, 256, .inr (.inl fr2)))] sz)) 0 0 (va_A [(bo, .inr (5, [.ref q, .ref mk, .ref ka, .ref cs])), (cs, .inl (cV, 2, .inr (.inr (.inr (.inr gs))))), (sv, .inr (3, [.ref h, .ref lt, .long an, .int dp, .int qn])), (h, .inr (4, [.ref ra, .ref op, .int (nI v), .int lc])), (ra, .inl (cJ, 9, .inr (.inr (.inr (.inr gr))))), (op, .inl (cL, 256, .inr (.inl fo))), (ad, .inl (cL, 256, .inr (.inl fr))), (ad2, .inl (cL, 256, .inr (.inl fr2)))] sz) := by
  refine Met.ofW (cc := cBS_close) (maxL := 2) (ret := (some .int)) (by decide) rfl ?_
  intro p e s m args below meth c s₁ Bo9 hml hv
  obtain ⟨rfl, hsz, hP, hK, hD0⟩ := hv
  have hx := Bo9.exec
  have hb := Bo9.bytes
  have hr := Bo9.returns
  have hts := fun w (h : w ∈ wT) => atoms_spec (ws := wsBS_close) Bo9.pre w (List.mem_cons_of_mem _ h)
  have hown : s.vm.findClass RBS = some m.cls := findClass_of_methodNamed Bo9.named
  have hlocks := Bo9.notSynchronized
  subst hsz
  have hD := hD0.self (sz := s.heap.size)
  generalize hAe : va_A [(bo, .inr (5, [.ref q, .ref mk, .ref ka, .ref cs])), (cs, .inl (cV, 2, .inr (.inr (.inr (.inr gs))))), (sv, .inr (3, [.ref h, .ref lt, .long an, .int dp, .int qn])), (h, .inr (4, [.ref ra, .ref op, .int (nI v), .int lc])), (ra, .inl (cJ, 9, .inr (.inr (.inr (.inr gr))))), (op, .inl (cL, 256, .inr (.inl fo))), (ad, .inl (cL, 256, .inr (.inl fr))), (ad2, .inl (cL, 256, .inr (.inl fr2)))] s.heap.size = A at hD ⊢
  have hA : ∀ q : Nat, s.heap.size ≤ q → A q := fun q h => by rw [← hAe]; exact Or.inr h
  have hl := lv_entry ([.ref bo, .int (nI x9)]) (n := 2) (Nat.le_of_ble_eq_true rfl)
  rw [lg_entry_eq]
  generalize (lg_sl ([.ref bo, .int (nI x9)]) ++ List.replicate (2 - (lg_sl ([.ref bo, .int (nI x9)])).length) Slot.unset).toArray = ls at hl ⊢
  have hl : lv_has ls 2 [(0, .ref bo), (1, .int (nI x9))] := hl
  refine xs_q (fun H Q hH hQ => ?_)
  have hS : va_S A s.heap H [] := by rw [hH]; exact va_S.rf
  have hP : va_P (dC, dI) vwCl [(bo, .inr (5, [.ref q, .ref mk, .ref ka, .ref cs])), (cs, .inl (cV, 2, .inr (.inr (.inr (.inr gs))))), (sv, .inr (3, [.ref h, .ref lt, .long an, .int dp, .int qn])), (h, .inr (4, [.ref ra, .ref op, .int (nI v), .int lc])), (ra, .inl (cJ, 9, .inr (.inr (.inr (.inr gr))))), (op, .inl (cL, 256, .inr (.inl fo))), (ad, .inl (cL, 256, .inr (.inl fr))), (ad2, .inl (cL, 256, .inr (.inl fr2)))] H := by rw [hH]; exact hP
  refine lv_iload_n hx hb dBS_close_0 rfl (lv_at hl 1 rfl) ?_
  have hPc := hP.sub (ws' := []) [] rfl
  have hDc := hD.sub (ws' := []) [] (by decide) rfl
  have hKc := hK.sub (tys' := []) [] rfl
  have hFc := va_free (wc := []) hD hS hA [] rfl
  refine va_callv (va_runS (As := [.int (nI x9)]) (rest := []) ⟨hx, hb, hml, hown, hts⟩ (c_BS_requireServer_y l dC dI H.size x9 hx9) (va_cwS 1 hts (wT_3 w_m_BS_39 w_t_BS_requireServer w_n_BS w_c_BS_requireServer) rfl rfl rfl (by decide +kernel) ⟨Nat.le_of_ble_eq_true rfl, Nat.le_of_ble_eq_true rfl⟩) ⟨fun a U g mk q => by obtain ⟨q0, q1, qP, qK, qD⟩ := q; exact ⟨q0, q1, qP, va_K.moved (u := U) (U := U.calling g mk a) (Vm.Alike.refl U.vm) qK, qD⟩, fun U hU hW => ⟨rfl, by rw [hU], by rw [hU]; exact hPc, va_K.moved hW.alike hKc, hDc.weaken (fun _ _ _ _ => trivial)⟩⟩ rfl rfl hl.1 rfl (lv_room (Nat.le_of_ble_eq_true rfl)) dBS_close_1 ⟨Nat.zero_le _, Nat.zero_le _⟩) hS (fun q _ h => hFc q h) hFc (fun u t H1 locs ht hvm hw hB hz1 hk1 hS => ?_)
  obtain ⟨hP1, hK1, hD1⟩ := hB
  rw [ht] at hP1
  have hK1 := va_K.moved hvm.symm hK1
  obtain ⟨hP, hD⟩ := va_join (wr := [(bo, .inr (5, [.ref q, .ref mk, .ref ka, .ref cs])), (cs, .inl (cV, 2, .inr (.inr (.inr (.inr gs))))), (sv, .inr (3, [.ref h, .ref lt, .long an, .int dp, .int qn])), (h, .inr (4, [.ref ra, .ref op, .int (nI v), .int lc])), (ra, .inl (cJ, 9, .inr (.inr (.inr (.inr gr))))), (op, .inl (cL, 256, .inr (.inl fo))), (ad, .inl (cL, 256, .inr (.inl fr))), (ad2, .inl (cL, 256, .inr (.inl fr2)))]) (w1 := []) hP hD [] [0, 1, 2, 3, 4, 5, 6, 7] rfl rfl (by decide) (by decide) hk1 hFc hP1 hD1
  generalize H1 = H at hP hS ⊢
  have hP : va_P (dC, dI) vwCl [(bo, .inr (5, [.ref q, .ref mk, .ref ka, .ref cs])), (cs, .inl (cV, 2, .inr (.inr (.inr (.inr gs))))), (sv, .inr (3, [.ref h, .ref lt, .long an, .int dp, .int qn])), (h, .inr (4, [.ref ra, .ref op, .int (nI v), .int lc])), (ra, .inl (cJ, 9, .inr (.inr (.inr (.inr gr))))), (op, .inl (cL, 256, .inr (.inl fo))), (ad, .inl (cL, 256, .inr (.inl fr))), (ad2, .inl (cL, 256, .inr (.inl fr2)))] H := hP
  have hD : va_D A [(bo, .inr (5, [.ref q, .ref mk, .ref ka, .ref cs])), (cs, .inl (cV, 2, .inr (.inr (.inr (.inr gs))))), (sv, .inr (3, [.ref h, .ref lt, .long an, .int dp, .int qn])), (h, .inr (4, [.ref ra, .ref op, .int (nI v), .int lc])), (ra, .inl (cJ, 9, .inr (.inr (.inr (.inr gr))))), (op, .inl (cL, 256, .inr (.inl fo))), (ad, .inl (cL, 256, .inr (.inl fr))), (ad2, .inl (cL, 256, .inr (.inl fr2)))] := hD
  refine lv_aload_n hx hb dBS_close_4 rfl (lv_at hl 0 rfl) ?_
  refine va_get (D := (dC, dI)) (ci := 5) (v := .ref cs) (C := RBS) (T := TBS) (N := 4) hx hb hts in_BS hown hK hP 0 rfl rfl 3 (by decide) (hts _ w_f_BS_35) (fun _ h9 => h9) rfl dBS_close_5 ?_
  refine lv_iload_n hx hb dBS_close_8 rfl (lv_at hl 1 rfl) ?_
  refine xa_aald hx hb hK hP 1 0 rfl rfl rfl x9 (by omega) (by decide) dBS_close_9 ?_
  refine xt_v (y := .ref sv) (by rw [hgs]; rfl) ?_
  refine va_get (D := (dC, dI)) (ci := 3) (v := .ref h) (C := RSV) (T := TSV) (N := 5) hx hb hts in_SV hown hK hP 2 rfl rfl 0 (by decide) (hts _ w_f_BS_45) (fun _ h9 => h9) rfl dBS_close_10 ?_
  have hPc := hP.sub (ws' := [(h, .inr (4, [.ref ra, .ref op, .int (nI v), .int lc])), (ra, .inl (cJ, 9, .inr (.inr (.inr (.inr gr))))), (op, .inl (cL, 256, .inr (.inl fo))), (ad, .inl (cL, 256, .inr (.inl fr))), (ad2, .inl (cL, 256, .inr (.inl fr2)))]) [3, 4, 5, 6, 7] rfl
  have hDc := hD.sub (ws' := [(h, .inr (4, [.ref ra, .ref op, .int (nI v), .int lc])), (ra, .inl (cJ, 9, .inr (.inr (.inr (.inr gr))))), (op, .inl (cL, 256, .inr (.inl fo))), (ad, .inl (cL, 256, .inr (.inl fr))), (ad2, .inl (cL, 256, .inr (.inl fr2)))]) [3, 4, 5, 6, 7] (by decide) rfl
  have hKc := hK.sub (tys' := [(cJ, .array .long), (cL, .long)]) [1, 2] rfl
  have hFc := va_free (wc := [(h, .inr (4, [.ref ra, .ref op, .int (nI v), .int lc])), (ra, .inl (cJ, 9, .inr (.inr (.inr (.inr gr))))), (op, .inl (cL, 256, .inr (.inl fo))), (ad, .inl (cL, 256, .inr (.inl fr))), (ad2, .inl (cL, 256, .inr (.inl fr2)))]) hD hS hA [3, 4, 5, 6, 7] rfl
  refine va_calli (va_runV (C := RSH) (As := []) (rest := []) ⟨hx, hb, hml, hown, hts⟩ (c_SH_closeBatch l dC dI H.size h ra op v lc cJ cL gr ad ad2 fo fr fr2 hv hgr hgr2) (cwV (C := RSH) 0 hts (wT_4 w_m_BS_55 w_i_SH_closeBatch w_s_SH_closeBatch w_n_SH w_c_SH_closeBatch) rfl rfl rfl (by decide +kernel) ⟨Nat.le_of_ble_eq_true rfl, Nat.le_of_ble_eq_true rfl⟩) ⟨fun a U g mk q => by obtain ⟨q0, q1, qP, qK, qD⟩ := q; exact ⟨q0, q1, qP, va_K.moved (u := U) (U := U.calling g mk a) (Vm.Alike.refl U.vm) qK, qD⟩, va_recv hK hP (q0 := 3) (ci := 4) (q := (RSH, TSH, 4)) rfl rfl, fun U hU hW => ⟨rfl, by rw [hU], by rw [hU]; exact hPc, va_K.moved hW.alike hKc, hDc.weaken (fun _ _ _ _ => trivial)⟩⟩ rfl rfl hl.1 rfl (lv_room (Nat.le_of_ble_eq_true rfl)) dBS_close_13 ⟨Nat.zero_le _, Nat.zero_le _⟩) hS (fun q _ h => hFc q h) hFc (fun r u t H1 locs ht hvm hw hB hz1 hk1 hS => ?_)
  obtain ⟨hP1, hK1, hD1⟩ := hB
  rw [ht] at hP1
  have hK1 := va_K.moved hvm.symm hK1
  have hw : r = nI (v + 1) := hw
  rw [hw]
  obtain ⟨hP, hD⟩ := va_join (wr := [(bo, .inr (5, [.ref q, .ref mk, .ref ka, .ref cs])), (cs, .inl (cV, 2, .inr (.inr (.inr (.inr gs))))), (sv, .inr (3, [.ref h, .ref lt, .long an, .int dp, .int qn]))]) (w1 := [(h, .inr (4, [.ref ra, .ref op, .int (nI (v + 1)), .int (nI (bs_chg fo fr 256))])), (ra, .inl (cJ, 9, .inr (.inr (.inr (.inr gr))))), (op, .inl (cL, 256, .inr (.inl fo))), (ad, .inl (cL, 256, .inr (.inl fr))), (ad2, .inl (cL, 256, .inr (.inl fo)))]) hP hD [3, 4, 5, 6, 7] [0, 1, 2] rfl rfl (by decide) (by decide) hk1 hFc hP1 hD1
  generalize H1 = H at hP hS ⊢
  have hP : va_P (dC, dI) vwCl [(bo, .inr (5, [.ref q, .ref mk, .ref ka, .ref cs])), (cs, .inl (cV, 2, .inr (.inr (.inr (.inr gs))))), (sv, .inr (3, [.ref h, .ref lt, .long an, .int dp, .int qn])), (h, .inr (4, [.ref ra, .ref op, .int (nI (v + 1)), .int (nI (bs_chg fo fr 256))])), (ra, .inl (cJ, 9, .inr (.inr (.inr (.inr gr))))), (op, .inl (cL, 256, .inr (.inl fo))), (ad, .inl (cL, 256, .inr (.inl fr))), (ad2, .inl (cL, 256, .inr (.inl fo)))] H := hP
  have hD : va_D A [(bo, .inr (5, [.ref q, .ref mk, .ref ka, .ref cs])), (cs, .inl (cV, 2, .inr (.inr (.inr (.inr gs))))), (sv, .inr (3, [.ref h, .ref lt, .long an, .int dp, .int qn])), (h, .inr (4, [.ref ra, .ref op, .int (nI (v + 1)), .int (nI (bs_chg fo fr 256))])), (ra, .inl (cJ, 9, .inr (.inr (.inr (.inr gr))))), (op, .inl (cL, 256, .inr (.inl fo))), (ad, .inl (cL, 256, .inr (.inl fr))), (ad2, .inl (cL, 256, .inr (.inl fo)))] := hD
  have hP : va_P (dC, dI) vwCl [(bo, .inr (5, [.ref q, .ref mk, .ref ka, .ref cs])), (cs, .inl (cV, 2, .inr (.inr (.inr (.inr gs))))), (sv, .inr (3, [.ref h, .ref lt, .long an, .int dp, .int qn])), (h, .inr (4, [.ref ra, .ref op, .int (nI (v + 1)), .int (nI (bs_chg fo fr 256))])), (ra, .inl (cJ, 9, .inr (.inr (.inr (.inr gr))))), (op, .inl (cL, 256, .inr (.inl fo))), (ad, .inl (cL, 256, .inr (.inl fr))), (ad2, .inl (cL, 256, .inr (.inl fo)))] H := hP
  have hD : va_D A [(bo, .inr (5, [.ref q, .ref mk, .ref ka, .ref cs])), (cs, .inl (cV, 2, .inr (.inr (.inr (.inr gs))))), (sv, .inr (3, [.ref h, .ref lt, .long an, .int dp, .int qn])), (h, .inr (4, [.ref ra, .ref op, .int (nI (v + 1)), .int (nI (bs_chg fo fr 256))])), (ra, .inl (cJ, 9, .inr (.inr (.inr (.inr gr))))), (op, .inl (cL, 256, .inr (.inl fo))), (ad, .inl (cL, 256, .inr (.inl fr))), (ad2, .inl (cL, 256, .inr (.inl fo)))] := hD
  subst hQ
  exact W.iret (v := nI (v + 1)) hx hb hr (fun t ht hW => ⟨⟨nI (v + 1), (), rfl, rfl, by rw [ht]; exact hP, va_K.moved hW.alike hK, hD⟩, hS.F ht⟩) hS.2.2 dBS_close_16
set_option maxHeartbeats 4000000 in
set_option maxRecDepth 100000 in
theorem c_BS_combine (l : Launch) (dC : Nat → ClassId) (dI : Nat → Nat → Nat) (sz : Nat) (bo q mk ka cs : Nat) (s0 h0 l0 s1 h1 l1 : Nat) (an0 an1 : Int64) (dp0 qn0 dp1 qn1 : Int32) (cV : ClassId) (gs : Nat → Option Nat) (hg0 : gs 0 = some s0) (hg1 : gs 1 = some s1) : Met l yBS_combine wsBS_combine { frames := 0, cells := 0, slots := 0, locals := 0 } (va_Pc [.ref bo] (fun U => U.heap.size = sz ∧ va_P (dC, dI) vwCl [(bo, .inr (5, [.ref q, .ref mk, .ref ka, .ref cs])), (cs, .inl (cV, 2, .inr (.inr (.inr (.inr gs))))), (s0, .inr (3, [.ref h0, .ref l0, .long an0, .int dp0, .int qn0])), (s1, .inr (3, [.ref h1, .ref l1, .long an1, .int dp1, .int qn1]))] U.heap ∧ va_K (dC, dI) vwCl [(cV, .object "BlindShelf$Server")] U ∧ va_D (fun _ => True) [(bo, .inr (5, [.ref q, .ref mk, .ref ka, .ref cs])), (cs, .inl (cV, 2, .inr (.inr (.inr (.inr gs))))), (s0, .inr (3, [.ref h0, .ref l0, .long an0, .int dp0, .int qn0])), (s1, .inr (3, [.ref h1, .ref l1, .long an1, .int dp1, .int qn1]))])) (va_Ql (fun (r : Int64) (_ : Unit) => r = an0 ^^^ an1) (fun (_ : Unit) t => va_P (dC, dI) vwCl [(bo, .inr (5, [.ref q, .ref mk, .ref ka, .ref cs])), (cs, .inl (cV, 2, .inr (.inr (.inr (.inr gs))))), (s0, .inr (3, [.ref h0, .ref l0, .long an0, .int dp0, .int qn0])), (s1, .inr (3, [.ref h1, .ref l1, .long an1, .int dp1, .int qn1]))] t.heap ∧ va_K (dC, dI) vwCl [(cV, .object "BlindShelf$Server")] t ∧ va_D (va_A [(bo, .inr (5, [.ref q, .ref mk, .ref ka, .ref cs])), (cs, .inl (cV, 2, .inr (.inr (.inr (.inr gs))))), (s0, .inr (3, [.ref h0, .ref l0, .long an0, .int dp0, .int qn0])), (s1, .inr (3, [.ref h1, .ref l1, .long an1, .int dp1, .int qn1]))] sz) [(bo, .inr (5, [.ref q, .ref mk, .ref ka, .ref cs])), (cs, .inl (cV, 2, .inr (.inr (.inr (.inr gs))))), (s0, .inr (3, [.ref h0, .ref l0, .long an0, .int dp0, .int qn0])), (s1, .inr (3, [.ref h1, .ref l1, .long an1, .int dp1, .int qn1]))]) (va_A [(bo, .inr (5, [.ref q, .ref mk, .ref ka, .ref cs])), (cs, .inl (cV, 2, .inr (.inr (.inr (.inr gs))))), (s0, .inr (3, [.ref h0, .ref l0, .long an0, .int dp0, .int qn0])), (s1, .inr (3, [.ref h1, .ref l1, .long an1, .int dp1, .int qn1]))] sz)) 0 0 (va_A [(bo, .inr (5, [.ref q, .ref mk, .ref ka, .ref cs])), (cs, .inl (cV, 2, .inr (.inr (.inr (.inr gs))))), (s0, .inr (3, [.ref h0, .ref l0, .long an0, .int dp0, .int qn0])), (s1, .inr (3, [.ref h1, .ref l1, .long an1, .int dp1, .int qn1]))] sz) := by
  refine Met.ofW (cc := cBS_combine) (maxL := 1) (ret := (some .long)) (by decide) rfl ?_
  intro p e s m args below meth c s₁ Bo9 hml hv
  obtain ⟨rfl, hsz, hP, hK, hD0⟩ := hv
  have hx := Bo9.exec
  have hb := Bo9.bytes
  have hr := Bo9.returns
  have hts := fun w (h : w ∈ wT) => atoms_spec (ws := wsBS_combine) Bo9.pre w (List.mem_cons_of_mem _ h)
  have hown : s.vm.findClass RBS = some m.cls := findClass_of_methodNamed Bo9.named
  have hlocks := Bo9.notSynchronized
  subst hsz
  have hD := hD0.self (sz := s.heap.size)
  generalize hAe : va_A [(bo, .inr (5, [.ref q, .ref mk, .ref ka, .ref cs])), (cs, .inl (cV, 2, .inr (.inr (.inr (.inr gs))))), (s0, .inr (3, [.ref h0, .ref l0, .long an0, .int dp0, .int qn0])), (s1, .inr (3, [.ref h1, .ref l1, .long an1, .int dp1, .int qn1]))] s.heap.size = A at hD ⊢
  have hA : ∀ q : Nat, s.heap.size ≤ q → A q := fun q h => by rw [← hAe]; exact Or.inr h
  have hl := lv_entry ([.ref bo]) (n := 1) (Nat.le_of_ble_eq_true rfl)
  rw [lg_entry_eq]
  generalize (lg_sl ([.ref bo]) ++ List.replicate (1 - (lg_sl ([.ref bo])).length) Slot.unset).toArray = ls at hl ⊢
  have hl : lv_has ls 1 [(0, .ref bo)] := hl
  refine xs_q (fun H Q hH hQ => ?_)
  have hS : va_S A s.heap H [] := by rw [hH]; exact va_S.rf
  have hP : va_P (dC, dI) vwCl [(bo, .inr (5, [.ref q, .ref mk, .ref ka, .ref cs])), (cs, .inl (cV, 2, .inr (.inr (.inr (.inr gs))))), (s0, .inr (3, [.ref h0, .ref l0, .long an0, .int dp0, .int qn0])), (s1, .inr (3, [.ref h1, .ref l1, .long an1, .int dp1, .int qn1]))] H := by rw [hH]; exact hP
  refine lv_aload_n hx hb dBS_combine_0 rfl (lv_at hl 0 rfl) ?_
  refine va_get (D := (dC, dI)) (ci := 5) (v := .ref cs) (C := RBS) (T := TBS) (N := 4) hx hb hts in_BS hown hK hP 0 rfl rfl 3 (by decide) (hts _ w_f_BS_35) (fun _ h9 => h9) rfl dBS_combine_1 ?_
  refine lv_iconst (v := nI 0) hx hb dBS_combine_4 (by decide) ?_
  refine xa_aald hx hb hK hP 1 0 rfl rfl rfl 0 (by omega) (by decide) dBS_combine_5 ?_
  refine xt_v (y := .ref s0) (by rw [hg0]; rfl) ?_
  refine va_get (D := (dC, dI)) (ci := 3) (v := .long an0) (C := RSV) (T := TSV) (N := 5) hx hb hts in_SV hown hK hP 2 rfl rfl 2 (by decide) (hts _ w_f_BS_99) (fun _ h9 => h9) rfl dBS_combine_6 ?_
  refine lv_aload_n hx hb dBS_combine_9 rfl (lv_at hl 0 rfl) ?_
  refine va_get (D := (dC, dI)) (ci := 5) (v := .ref cs) (C := RBS) (T := TBS) (N := 4) hx hb hts in_BS hown hK hP 0 rfl rfl 3 (by decide) (hts _ w_f_BS_35) (fun _ h9 => h9) rfl dBS_combine_10 ?_
  refine lv_iconst (v := nI 1) hx hb dBS_combine_13 (by decide) ?_
  refine xa_aald hx hb hK hP 1 0 rfl rfl rfl 1 (by omega) (by decide) dBS_combine_14 ?_
  refine xt_v (y := .ref s1) (by rw [hg1]; rfl) ?_
  refine va_get (D := (dC, dI)) (ci := 3) (v := .long an1) (C := RSV) (T := TSV) (N := 5) hx hb hts in_SV hown hK hP 3 rfl rfl 2 (by decide) (hts _ w_f_BS_99) (fun _ h9 => h9) rfl dBS_combine_15 ?_
  refine lv_lxor hx hb dBS_combine_18 ?_
  have hP : va_P (dC, dI) vwCl [(bo, .inr (5, [.ref q, .ref mk, .ref ka, .ref cs])), (cs, .inl (cV, 2, .inr (.inr (.inr (.inr gs))))), (s0, .inr (3, [.ref h0, .ref l0, .long an0, .int dp0, .int qn0])), (s1, .inr (3, [.ref h1, .ref l1, .long an1, .int dp1, .int qn1]))] H := hP
  have hD : va_D A [(bo, .inr (5, [.ref q, .ref mk, .ref ka, .ref cs])), (cs, .inl (cV, 2, .inr (.inr (.inr (.inr gs))))), (s0, .inr (3, [.ref h0, .ref l0, .long an0, .int dp0, .int qn0])), (s1, .inr (3, [.ref h1, .ref l1, .long an1, .int dp1, .int qn1]))] := hD
  subst hQ
  exact W.lret (v := an0 ^^^ an1) hx hb hr (fun t ht hW => ⟨⟨an0 ^^^ an1, (), rfl, rfl, by rw [ht]; exact hP, va_K.moved hW.alike hK, hD⟩, hS.F ht⟩) hS.2.2 dBS_combine_19
set_option maxHeartbeats 4000000 in
set_option maxRecDepth 100000 in
theorem c_BS_mailbox_2 (l : Launch) (dC : Nat → ClassId) (dI : Nat → Nat → Nat) (sz : Nat) (bo q mk ka cs : Nat) (s0 h0 l0 s1 h1 l1 : Nat) (an0 an1 : Int64) (dp0 qn0 dp1 qn1 : Int32) (cV : ClassId) (gs : Nat → Option Nat) (cL : ClassId) (fl0 fl1 : Nat → Int64) (i9 : Nat) (hg0 : gs 0 = some s0) (hg1 : gs 1 = some s1) (hi9 : i9 < 256) : Met l yBS_mailbox wsBS_mailbox { frames := 7, cells := 0, slots := 0, locals := 150 } (va_Pc [.ref bo, .int (nI 2), .int (nI i9)] (fun U => U.heap.size = sz ∧ va_P (dC, dI) vwCl [(bo, .inr (5, [.ref q, .ref mk, .ref ka, .ref cs])), (cs, .inl (cV, 2, .inr (.inr (.inr (.inr gs))))), (s0, .inr (3, [.ref h0, .ref l0, .long an0, .int dp0, .int qn0])), (s1, .inr (3, [.ref h1, .ref l1, .long an1, .int dp1, .int qn1])), (l0, .inl (cL, 256, .inr (.inl fl0))), (l1, .inl (cL, 256, .inr (.inl fl1)))] U.heap ∧ va_K (dC, dI) vwCl [(cV, .object "BlindShelf$Server"), (cL, .long)] U ∧ va_D (fun _ => True) [(bo, .inr (5, [.ref q, .ref mk, .ref ka, .ref cs])), (cs, .inl (cV, 2, .inr (.inr (.inr (.inr gs))))), (s0, .inr (3, [.ref h0, .ref l0, .long an0, .int dp0, .int qn0])), (s1, .inr (3, [.ref h1, .ref l1, .long an1, .int dp1, .int qn1])), (l0, .inl (cL, 256, .inr (.inl fl0))), (l1, .inl (cL, 256, .inr (.inl fl1)))])) (va_Ql (fun (r : Int64) (_ : Unit) => r = fl0 i9 ^^^ fl1 i9) (fun (_ : Unit) t => va_P (dC, dI) vwCl [(bo, .inr (5, [.ref q, .ref mk, .ref ka, .ref cs])), (cs, .inl (cV, 2, .inr (.inr (.inr (.inr gs))))), (s0, .inr (3, [.ref h0, .ref l0, .long an0, .int dp0, .int qn0])), (s1, .inr (3, [.ref h1, .ref l1, .long an1, .int dp1, .int qn1])), (l0, .inl (cL, 256, .inr (.inl fl0))), (l1, .inl (cL, 256, .inr (.inl fl1)))] t.heap ∧ va_K (dC, dI) vwCl [(cV, .object "BlindShelf$Server"), (cL, .long)] t ∧ va_D (va_A [(bo, .inr (5, [.ref q, .ref mk, .ref ka, .ref cs])), (cs, .inl (cV, 2, .inr (.inr (.inr (.inr gs))))), (s0, .inr (3, [.ref h0, .ref l0, .long an0, .int dp0, .int qn0])), (s1, .inr (3, [.ref h1, .ref l1, .long an1, .int dp1, .int qn1])), (l0, .inl (cL, 256, .inr (.inl fl0))), (l1, .inl (cL, 256, .inr (.inl fl1)))] sz) [(bo, .inr (5, [.ref q, .ref mk, .ref ka, .ref cs])), (cs, .inl (cV, 2, .inr (.inr (.inr (.inr gs))))), (s0, .inr (3, [.ref h0, .ref l0, .long an0, .int dp0, .int qn0])), (s1, .inr (3, [.ref h1, .ref l1, .long an1, .int dp1, .int qn1])), (l0, .inl (cL, 256, .inr (.inl fl0))), (l1, .inl (cL, 256, .inr (.inl fl1)))]) (va_A [(bo, .inr (5, [.ref q, .ref mk, .ref ka, .ref cs])), (cs, .inl (cV, 2, .inr (.inr (.inr (.inr gs))))), (s0, .inr (3, [.ref h0, .ref l0, .long an0, .int dp0, .int qn0])), (s1, .inr (3, [.ref h1, .ref l1, .long an1, .int dp1, .int qn1])), (l0, .inl (cL, 256, .inr (.inl fl0))), (l1, .inl (cL, 256, .inr (.inl fl1)))] sz)) 0 0 (va_A [(bo, .inr (5, [.ref q, .ref mk, .ref ka, .ref cs])), (cs, .inl (cV, 2, .inr (.inr (.inr (.inr gs))))), (s0, .inr (3, [.ref h0, .ref l0, .long an0, .int dp0, .int qn0])), (s1, .inr (3, [.ref h1, .ref l1, .long an1, .int dp1, .int qn1])), (l0, .inl (cL, 256, .inr (.inl fl0))), (l1, .inl (cL, 256, .inr (.inl fl1)))] sz) := by
  refine Met.ofW (cc := cBS_mailbox) (maxL := 3) (ret := (some .long)) (by decide) rfl ?_
  intro p e s m args below meth c s₁ Bo9 hml hv
  obtain ⟨rfl, hsz, hP, hK, hD0⟩ := hv
  have hx := Bo9.exec
  have hb := Bo9.bytes
  have hr := Bo9.returns
  have hts := fun w (h : w ∈ wT) => atoms_spec (ws := wsBS_mailbox) Bo9.pre w (List.mem_cons_of_mem _ h)
  have hown : s.vm.findClass RBS = some m.cls := findClass_of_methodNamed Bo9.named
  have hlocks := Bo9.notSynchronized
  subst hsz
  have hD := hD0.self (sz := s.heap.size)
  generalize hAe : va_A [(bo, .inr (5, [.ref q, .ref mk, .ref ka, .ref cs])), (cs, .inl (cV, 2, .inr (.inr (.inr (.inr gs))))), (s0, .inr (3, [.ref h0, .ref l0, .long an0, .int dp0, .int qn0])), (s1, .inr (3, [.ref h1, .ref l1, .long an1, .int dp1, .int qn1])), (l0, .inl (cL, 256, .inr (.inl fl0))), (l1, .inl (cL, 256, .inr (.inl fl1)))] s.heap.size = A at hD ⊢
  have hA : ∀ q : Nat, s.heap.size ≤ q → A q := fun q h => by rw [← hAe]; exact Or.inr h
  have hl := lv_entry ([.ref bo, .int (nI 2), .int (nI i9)]) (n := 3) (Nat.le_of_ble_eq_true rfl)
  rw [lg_entry_eq]
  generalize (lg_sl ([.ref bo, .int (nI 2), .int (nI i9)]) ++ List.replicate (3 - (lg_sl ([.ref bo, .int (nI 2), .int (nI i9)])).length) Slot.unset).toArray = ls at hl ⊢
  have hl : lv_has ls 3 [(0, .ref bo), (1, .int (nI 2)), (2, .int (nI i9))] := hl
  refine xs_q (fun H Q hH hQ => ?_)
  have hS : va_S A s.heap H [] := by rw [hH]; exact va_S.rf
  have hP : va_P (dC, dI) vwCl [(bo, .inr (5, [.ref q, .ref mk, .ref ka, .ref cs])), (cs, .inl (cV, 2, .inr (.inr (.inr (.inr gs))))), (s0, .inr (3, [.ref h0, .ref l0, .long an0, .int dp0, .int qn0])), (s1, .inr (3, [.ref h1, .ref l1, .long an1, .int dp1, .int qn1])), (l0, .inl (cL, 256, .inr (.inl fl0))), (l1, .inl (cL, 256, .inr (.inl fl1)))] H := by rw [hH]; exact hP
  refine lv_iload_n hx hb dBS_mailbox_0 rfl (lv_at hl 2 rfl) ?_
  have hPc := hP.sub (ws' := []) [] rfl
  have hDc := hD.sub (ws' := []) [] (by decide) rfl
  have hKc := hK.sub (tys' := []) [] rfl
  have hFc := va_free (wc := []) hD hS hA [] rfl
  refine va_callv (va_runS (As := [.int (nI i9)]) (rest := []) ⟨hx, hb, hml, hown, hts⟩ (c_BS_requirePlace_y l dC dI H.size i9 hi9) (va_cwS 1 hts (wT_3 w_m_BS_42 w_t_BS_requirePlace w_n_BS w_c_BS_requirePlace) rfl rfl rfl (by decide +kernel) ⟨Nat.le_of_ble_eq_true rfl, Nat.le_of_ble_eq_true rfl⟩) ⟨fun a U g mk q => by obtain ⟨q0, q1, qP, qK, qD⟩ := q; exact ⟨q0, q1, qP, va_K.moved (u := U) (U := U.calling g mk a) (Vm.Alike.refl U.vm) qK, qD⟩, fun U hU hW => ⟨rfl, by rw [hU], by rw [hU]; exact hPc, va_K.moved hW.alike hKc, hDc.weaken (fun _ _ _ _ => trivial)⟩⟩ rfl rfl hl.1 rfl (lv_room (Nat.le_of_ble_eq_true rfl)) dBS_mailbox_1 ⟨Nat.zero_le _, Nat.zero_le _⟩) hS (fun q _ h => hFc q h) hFc (fun u t H1 locs ht hvm hw hB hz1 hk1 hS => ?_)
  obtain ⟨hP1, hK1, hD1⟩ := hB
  rw [ht] at hP1
  have hK1 := va_K.moved hvm.symm hK1
  obtain ⟨hP, hD⟩ := va_join (wr := [(bo, .inr (5, [.ref q, .ref mk, .ref ka, .ref cs])), (cs, .inl (cV, 2, .inr (.inr (.inr (.inr gs))))), (s0, .inr (3, [.ref h0, .ref l0, .long an0, .int dp0, .int qn0])), (s1, .inr (3, [.ref h1, .ref l1, .long an1, .int dp1, .int qn1])), (l0, .inl (cL, 256, .inr (.inl fl0))), (l1, .inl (cL, 256, .inr (.inl fl1)))]) (w1 := []) hP hD [] [0, 1, 2, 3, 4, 5] rfl rfl (by decide) (by decide) hk1 hFc hP1 hD1
  generalize H1 = H at hP hS ⊢
  have hP : va_P (dC, dI) vwCl [(bo, .inr (5, [.ref q, .ref mk, .ref ka, .ref cs])), (cs, .inl (cV, 2, .inr (.inr (.inr (.inr gs))))), (s0, .inr (3, [.ref h0, .ref l0, .long an0, .int dp0, .int qn0])), (s1, .inr (3, [.ref h1, .ref l1, .long an1, .int dp1, .int qn1])), (l0, .inl (cL, 256, .inr (.inl fl0))), (l1, .inl (cL, 256, .inr (.inl fl1)))] H := hP
  have hD : va_D A [(bo, .inr (5, [.ref q, .ref mk, .ref ka, .ref cs])), (cs, .inl (cV, 2, .inr (.inr (.inr (.inr gs))))), (s0, .inr (3, [.ref h0, .ref l0, .long an0, .int dp0, .int qn0])), (s1, .inr (3, [.ref h1, .ref l1, .long an1, .int dp1, .int qn1])), (l0, .inl (cL, 256, .inr (.inl fl0))), (l1, .inl (cL, 256, .inr (.inl fl1)))] := hD
  refine lv_iload_n hx hb dBS_mailbox_4 rfl (lv_at hl 1 rfl) ?_
  refine lv_iconst (v := nI 2) hx hb dBS_mailbox_5 (by decide) ?_
  refine lv_icmp_ne (tgt := 33) hx hb dBS_mailbox_6 (by decide) (fun h => absurd (rfl) h) (fun _ => ?_)
  refine lv_aload_n hx hb dBS_mailbox_9 rfl (lv_at hl 0 rfl) ?_
  refine va_get (D := (dC, dI)) (ci := 5) (v := .ref cs) (C := RBS) (T := TBS) (N := 4) hx hb hts in_BS hown hK hP 0 rfl rfl 3 (by decide) (hts _ w_f_BS_35) (fun _ h9 => h9) rfl dBS_mailbox_10 ?_
  refine lv_iconst (v := nI 0) hx hb dBS_mailbox_13 (by decide) ?_
  refine xa_aald hx hb hK hP 1 0 rfl rfl rfl 0 (by omega) (by decide) dBS_mailbox_14 ?_
  refine xt_v (y := .ref s0) (by rw [hg0]; rfl) ?_
  refine va_get (D := (dC, dI)) (ci := 3) (v := .ref l0) (C := RSV) (T := TSV) (N := 5) hx hb hts in_SV hown hK hP 2 rfl rfl 1 (by decide) (hts _ w_f_BS_107) (fun _ h9 => h9) rfl dBS_mailbox_15 ?_
  refine lv_iload_n hx hb dBS_mailbox_18 rfl (lv_at hl 2 rfl) ?_
  refine xa_lald hx hb hK hP 4 1 rfl rfl i9 (by omega) (by decide) dBS_mailbox_19 ?_
  refine lv_aload_n hx hb dBS_mailbox_20 rfl (lv_at hl 0 rfl) ?_
  refine va_get (D := (dC, dI)) (ci := 5) (v := .ref cs) (C := RBS) (T := TBS) (N := 4) hx hb hts in_BS hown hK hP 0 rfl rfl 3 (by decide) (hts _ w_f_BS_35) (fun _ h9 => h9) rfl dBS_mailbox_21 ?_
  refine lv_iconst (v := nI 1) hx hb dBS_mailbox_24 (by decide) ?_
  refine xa_aald hx hb hK hP 1 0 rfl rfl rfl 1 (by omega) (by decide) dBS_mailbox_25 ?_
  refine xt_v (y := .ref s1) (by rw [hg1]; rfl) ?_
  refine va_get (D := (dC, dI)) (ci := 3) (v := .ref l1) (C := RSV) (T := TSV) (N := 5) hx hb hts in_SV hown hK hP 3 rfl rfl 1 (by decide) (hts _ w_f_BS_107) (fun _ h9 => h9) rfl dBS_mailbox_26 ?_
  refine lv_iload_n hx hb dBS_mailbox_29 rfl (lv_at hl 2 rfl) ?_
  refine xa_lald hx hb hK hP 5 1 rfl rfl i9 (by omega) (by decide) dBS_mailbox_30 ?_
  refine lv_lxor hx hb dBS_mailbox_31 ?_
  have hP : va_P (dC, dI) vwCl [(bo, .inr (5, [.ref q, .ref mk, .ref ka, .ref cs])), (cs, .inl (cV, 2, .inr (.inr (.inr (.inr gs))))), (s0, .inr (3, [.ref h0, .ref l0, .long an0, .int dp0, .int qn0])), (s1, .inr (3, [.ref h1, .ref l1, .long an1, .int dp1, .int qn1])), (l0, .inl (cL, 256, .inr (.inl fl0))), (l1, .inl (cL, 256, .inr (.inl fl1)))] H := hP
  have hD : va_D A [(bo, .inr (5, [.ref q, .ref mk, .ref ka, .ref cs])), (cs, .inl (cV, 2, .inr (.inr (.inr (.inr gs))))), (s0, .inr (3, [.ref h0, .ref l0, .long an0, .int dp0, .int qn0])), (s1, .inr (3, [.ref h1, .ref l1, .long an1, .int dp1, .int qn1])), (l0, .inl (cL, 256, .inr (.inl fl0))), (l1, .inl (cL, 256, .inr (.inl fl1)))] := hD
  subst hQ
  exact W.lret (v := (fl0 i9) ^^^ (fl1 i9)) hx hb hr (fun t ht hW => ⟨⟨(fl0 i9) ^^^ (fl1 i9), (), rfl, rfl, by rw [ht]; exact hP, va_K.moved hW.alike hK, hD⟩, hS.F ht⟩) hS.2.2 dBS_mailbox_32
set_option maxHeartbeats 4000000 in
set_option maxRecDepth 100000 in
theorem c_BS_mailbox_y (l : Launch) (dC : Nat → ClassId) (dI : Nat → Nat → Nat) (sz : Nat) (bo q mk ka cs : Nat) (sv h lt : Nat) (an : Int64) (dp qn : Int32) (cV : ClassId) (gs : Nat → Option Nat) (x9 : Nat) (cL : ClassId) (fl : Nat → Int64) (i9 : Nat) (hx9 : x9 < 2) (hgs : gs x9 = some sv) (hi9 : i9 < 256) : Met l yBS_mailbox wsBS_mailbox { frames := 7, cells := 0, slots := 0, locals := 150 } (va_Pc [.ref bo, .int (nI x9), .int (nI i9)] (fun U => U.heap.size = sz ∧ va_P (dC, dI) vwCl [(bo, .inr (5, [.ref q, .ref mk, .ref ka, .ref cs])), (cs, .inl (cV, 2, .inr (.inr (.inr (.inr gs))))), (sv, .inr (3, [.ref h, .ref lt, .long an, .int dp, .int qn])), (lt, .inl (cL, 256, .inr (.inl fl)))] U.heap ∧ va_K (dC, dI) vwCl [(cV, .object "BlindShelf$Server"), (cL, .long)] U ∧ va_D (fun _ => True) [(bo, .inr (5, [.ref q, .ref mk, .ref ka, .ref cs])), (cs, .inl (cV, 2, .inr (.inr (.inr (.inr gs))))), (sv, .inr (3, [.ref h, .ref lt, .long an, .int dp, .int qn])), (lt, .inl (cL, 256, .inr (.inl fl)))])) (va_Ql (fun (r : Int64) (_ : Unit) => r = fl i9) (fun (_ : Unit) t => va_P (dC, dI) vwCl [(bo, .inr (5, [.ref q, .ref mk, .ref ka, .ref cs])), (cs, .inl (cV, 2, .inr (.inr (.inr (.inr gs))))), (sv, .inr (3, [.ref h, .ref lt, .long an, .int dp, .int qn])), (lt, .inl (cL, 256, .inr (.inl fl)))] t.heap ∧ va_K (dC, dI) vwCl [(cV, .object "BlindShelf$Server"), (cL, .long)] t ∧ va_D (va_A [(bo, .inr (5, [.ref q, .ref mk, .ref ka, .ref cs])), (cs, .inl (cV, 2, .inr (.inr (.inr (.inr gs))))), (sv, .inr (3, [.ref h, .ref lt, .long an, .int dp, .int qn])), (lt, .inl (cL, 256, .inr (.inl fl)))] sz) [(bo, .inr (5, [.ref q, .ref mk, .ref ka, .ref cs])), (cs, .inl (cV, 2, .inr (.inr (.inr (.inr gs))))), (sv, .inr (3, [.ref h, .ref lt, .long an, .int dp, .int qn])), (lt, .inl (cL, 256, .inr (.inl fl)))]) (va_A [(bo, .inr (5, [.ref q, .ref mk, .ref ka, .ref cs])), (cs, .inl (cV, 2, .inr (.inr (.inr (.inr gs))))), (sv, .inr (3, [.ref h, .ref lt, .long an, .int dp, .int qn])), (lt, .inl (cL, 256, .inr (.inl fl)))] sz)) 0 0 (va_A [(bo, .inr (5, [.ref q, .ref mk, .ref ka, .ref cs])), (cs, .inl (cV, 2, .inr (.inr (.inr (.inr gs))))), (sv, .inr (3, [.ref h, .ref lt, .long an, .int dp, .int qn])), (lt, .inl (cL, 256, .inr (.inl fl)))] sz) := by
  refine Met.ofW (cc := cBS_mailbox) (maxL := 3) (ret := (some .long)) (by decide) rfl ?_
  intro p e s m args below meth c s₁ Bo9 hml hv
  obtain ⟨rfl, hsz, hP, hK, hD0⟩ := hv
  have hx := Bo9.exec
  have hb := Bo9.bytes
  have hr := Bo9.returns
  have hts := fun w (h : w ∈ wT) => atoms_spec (ws := wsBS_mailbox) Bo9.pre w (List.mem_cons_of_mem _ h)
  have hown : s.vm.findClass RBS = some m.cls := findClass_of_methodNamed Bo9.named
  have hlocks := Bo9.notSynchronized
  subst hsz
  have hD := hD0.self (sz := s.heap.size)
  generalize hAe : va_A [(bo, .inr (5, [.ref q, .ref mk, .ref ka, .ref cs])), (cs, .inl (cV, 2, .inr (.inr (.inr (.inr gs))))), (sv, .inr (3, [.ref h, .ref lt, .long an, .int dp, .int qn])), (lt, .inl (cL, 256, .inr (.inl fl)))] s.heap.size = A at hD ⊢
  have hA : ∀ q : Nat, s.heap.size ≤ q → A q := fun q h => by rw [← hAe]; exact Or.inr h
  have hl := lv_entry ([.ref bo, .int (nI x9), .int (nI i9)]) (n := 3) (Nat.le_of_ble_eq_true rfl)
  rw [lg_entry_eq]
  generalize (lg_sl ([.ref bo, .int (nI x9), .int (nI i9)]) ++ List.replicate (3 - (lg_sl ([.ref bo, .int (nI x9), .int (nI i9)])).length) Slot.unset).toArray = ls at hl ⊢
  have hl : lv_has ls 3 [(0, .ref bo), (1, .int (nI x9)), (2, .int (nI i9))] := hl
  refine xs_q (fun H Q hH hQ => ?_)
  have hS : va_S A s.heap H [] := by rw [hH]; exact va_S.rf
  have hP : va_P (dC, dI) vwCl [(bo, .inr (5, [.ref q, .ref mk, .ref ka, .ref cs])), (cs, .inl (cV, 2, .inr (.inr (.inr (.inr gs))))), (sv, .inr (3, [.ref h, .ref lt, .long an, .int dp, .int qn])), (lt, .inl (cL, 256, .inr (.inl fl)))] H := by rw [hH]; exact hP
  refine lv_iload_n hx hb dBS_mailbox_0 rfl (lv_at hl 2 rfl) ?_
  have hPc := hP.sub (ws' := []) [] rfl
  have hDc := hD.sub (ws' := []) [] (by decide) rfl
  have hKc := hK.sub (tys' := []) [] rfl
  have hFc := va_free (wc := []) hD hS hA [] rfl
  refine va_callv (va_runS (As := [.int (nI i9)]) (rest := []) ⟨hx, hb, hml, hown, hts⟩ (c_BS_requirePlace_y l dC dI H.size i9 hi9) (va_cwS 1 hts (wT_3 w_m_BS_42 w_t_BS_requirePlace w_n_BS w_c_BS_requirePlace) rfl rfl rfl (by decide +kernel) ⟨Nat.le_of_ble_eq_true rfl, Nat.le_of_ble_eq_true rfl⟩) ⟨fun a U g mk q => by obtain ⟨q0, q1, qP, qK, qD⟩ := q; exact ⟨q0, q1, qP, va_K.moved (u := U) (U := U.calling g mk a) (Vm.Alike.refl U.vm) qK, qD⟩, fun U hU hW => ⟨rfl, by rw [hU], by rw [hU]; exact hPc, va_K.moved hW.alike hKc, hDc.weaken (fun _ _ _ _ => trivial)⟩⟩ rfl rfl hl.1 rfl (lv_room (Nat.le_of_ble_eq_true rfl)) dBS_mailbox_1 ⟨Nat.zero_le _, Nat.zero_le _⟩) hS (fun q _ h => hFc q h) hFc (fun u t H1 locs ht hvm hw hB hz1 hk1 hS => ?_)
  obtain ⟨hP1, hK1, hD1⟩ := hB
  rw [ht] at hP1
  have hK1 := va_K.moved hvm.symm hK1
  obtain ⟨hP, hD⟩ := va_join (wr := [(bo, .inr (5, [.ref q, .ref mk, .ref ka, .ref cs])), (cs, .inl (cV, 2, .inr (.inr (.inr (.inr gs))))), (sv, .inr (3, [.ref h, .ref lt, .long an, .int dp, .int qn])), (lt, .inl (cL, 256, .inr (.inl fl)))]) (w1 := []) hP hD [] [0, 1, 2, 3] rfl rfl (by decide) (by decide) hk1 hFc hP1 hD1
  generalize H1 = H at hP hS ⊢
  have hP : va_P (dC, dI) vwCl [(bo, .inr (5, [.ref q, .ref mk, .ref ka, .ref cs])), (cs, .inl (cV, 2, .inr (.inr (.inr (.inr gs))))), (sv, .inr (3, [.ref h, .ref lt, .long an, .int dp, .int qn])), (lt, .inl (cL, 256, .inr (.inl fl)))] H := hP
  have hD : va_D A [(bo, .inr (5, [.ref q, .ref mk, .ref ka, .ref cs])), (cs, .inl (cV, 2, .inr (.inr (.inr (.inr gs))))), (sv, .inr (3, [.ref h, .ref lt, .long an, .int dp, .int qn])), (lt, .inl (cL, 256, .inr (.inl fl)))] := hD
  refine lv_iload_n hx hb dBS_mailbox_4 rfl (lv_at hl 1 rfl) ?_
  refine lv_iconst (v := nI 2) hx hb dBS_mailbox_5 (by decide) ?_
  refine lv_icmp_ne (tgt := 33) hx hb dBS_mailbox_6 (by decide) (fun _ => ?_) (fun h => absurd h (fun q => absurd ((nI_eq (by omega) (by decide)).mp q) (by omega)))
  refine lv_iload_n hx hb dBS_mailbox_33 rfl (lv_at hl 1 rfl) ?_
  have hPc := hP.sub (ws' := []) [] rfl
  have hDc := hD.sub (ws' := []) [] (by decide) rfl
  have hKc := hK.sub (tys' := []) [] rfl
  have hFc := va_free (wc := []) hD hS hA [] rfl
  refine va_callv (va_runS (As := [.int (nI x9)]) (rest := []) ⟨hx, hb, hml, hown, hts⟩ (c_BS_requireServer_y l dC dI H.size x9 hx9) (va_cwS 1 hts (wT_3 w_m_BS_39 w_t_BS_requireServer w_n_BS w_c_BS_requireServer) rfl rfl rfl (by decide +kernel) ⟨Nat.le_of_ble_eq_true rfl, Nat.le_of_ble_eq_true rfl⟩) ⟨fun a U g mk q => by obtain ⟨q0, q1, qP, qK, qD⟩ := q; exact ⟨q0, q1, qP, va_K.moved (u := U) (U := U.calling g mk a) (Vm.Alike.refl U.vm) qK, qD⟩, fun U hU hW => ⟨rfl, by rw [hU], by rw [hU]; exact hPc, va_K.moved hW.alike hKc, hDc.weaken (fun _ _ _ _ => trivial)⟩⟩ rfl rfl hl.1 rfl (lv_room (Nat.le_of_ble_eq_true rfl)) dBS_mailbox_34 ⟨Nat.zero_le _, Nat.zero_le _⟩) hS (fun q _ h => hFc q h) hFc (fun u t H1 locs ht hvm hw hB hz1 hk1 hS => ?_)
  obtain ⟨hP1, hK1, hD1⟩ := hB
  rw [ht] at hP1
  have hK1 := va_K.moved hvm.symm hK1
  obtain ⟨hP, hD⟩ := va_join (wr := [(bo, .inr (5, [.ref q, .ref mk, .ref ka, .ref cs])), (cs, .inl (cV, 2, .inr (.inr (.inr (.inr gs))))), (sv, .inr (3, [.ref h, .ref lt, .long an, .int dp, .int qn])), (lt, .inl (cL, 256, .inr (.inl fl)))]) (w1 := []) hP hD [] [0, 1, 2, 3] rfl rfl (by decide) (by decide) hk1 hFc hP1 hD1
  generalize H1 = H at hP hS ⊢
  have hP : va_P (dC, dI) vwCl [(bo, .inr (5, [.ref q, .ref mk, .ref ka, .ref cs])), (cs, .inl (cV, 2, .inr (.inr (.inr (.inr gs))))), (sv, .inr (3, [.ref h, .ref lt, .long an, .int dp, .int qn])), (lt, .inl (cL, 256, .inr (.inl fl)))] H := hP
  have hD : va_D A [(bo, .inr (5, [.ref q, .ref mk, .ref ka, .ref cs])), (cs, .inl (cV, 2, .inr (.inr (.inr (.inr gs))))), (sv, .inr (3, [.ref h, .ref lt, .long an, .int dp, .int qn])), (lt, .inl (cL, 256, .inr (.inl fl)))] := hD
  refine lv_aload_n hx hb dBS_mailbox_37 rfl (lv_at hl 0 rfl) ?_
  refine va_get (D := (dC, dI)) (ci := 5) (v := .ref cs) (C := RBS) (T := TBS) (N := 4) hx hb hts in_BS hown hK hP 0 rfl rfl 3 (by decide) (hts _ w_f_BS_35) (fun _ h9 => h9) rfl dBS_mailbox_38 ?_
  refine lv_iload_n hx hb dBS_mailbox_41 rfl (lv_at hl 1 rfl) ?_
  refine xa_aald hx hb hK hP 1 0 rfl rfl rfl x9 (by omega) (by decide) dBS_mailbox_42 ?_
  refine xt_v (y := .ref sv) (by rw [hgs]; rfl) ?_
  refine va_get (D := (dC, dI)) (ci := 3) (v := .ref lt) (C := RSV) (T := TSV) (N := 5) hx hb hts in_SV hown hK hP 2 rfl rfl 1 (by decide) (hts _ w_f_BS_107) (fun _ h9 => h9) rfl dBS_mailbox_43 ?_
  refine lv_iload_n hx hb dBS_mailbox_46 rfl (lv_at hl 2 rfl) ?_
  refine xa_lald hx hb hK hP 3 1 rfl rfl i9 (by omega) (by decide) dBS_mailbox_47 ?_
  have hP : va_P (dC, dI) vwCl [(bo, .inr (5, [.ref q, .ref mk, .ref ka, .ref cs])), (cs, .inl (cV, 2, .inr (.inr (.inr (.inr gs))))), (sv, .inr (3, [.ref h, .ref lt, .long an, .int dp, .int qn])), (lt, .inl (cL, 256, .inr (.inl fl)))] H := hP
  have hD : va_D A [(bo, .inr (5, [.ref q, .ref mk, .ref ka, .ref cs])), (cs, .inl (cV, 2, .inr (.inr (.inr (.inr gs))))), (sv, .inr (3, [.ref h, .ref lt, .long an, .int dp, .int qn])), (lt, .inl (cL, 256, .inr (.inl fl)))] := hD
  subst hQ
  exact W.lret (v := fl i9) hx hb hr (fun t ht hW => ⟨⟨fl i9, (), rfl, rfl, by rw [ht]; exact hP, va_K.moved hW.alike hK, hD⟩, hS.F ht⟩) hS.2.2 dBS_mailbox_48
set_option maxHeartbeats 4000000 in
set_option maxRecDepth 100000 in
theorem c_BS_record_y (l : Launch) (dC : Nat → ClassId) (dI : Nat → Nat → Nat) (sz : Nat) (bo q mk ka cs : Nat) (sv h lt : Nat) (an : Int64) (dp qn : Int32) (cV : ClassId) (gs : Nat → Option Nat) (x9 : Nat) (ra op : Nat) (v : Nat) (lc : Int32) (cJ cL : ClassId) (gr : Nat → Option Nat) (ad : Nat) (fr : Nat → Int64) (vj : Nat) (i9 : Nat) (hx9 : x9 < 2) (hgs : gs x9 = some sv) (hv : v < 2 ^ 29) (hu : decide (nI (v - 8) ≤ nI vj ∧ nI vj ≤ nI v) = true) (hvj : vj < 2 ^ 30) (hgr : gr (vj % 9) = some ad) (hi9 : i9 < 256) : Met l yBS_record wsBS_record { frames := 7, cells := 0, slots := 0, locals := 152 } (va_Pc [.ref bo, .int (nI x9), .int (nI vj), .int (nI i9)] (fun U => U.heap.size = sz ∧ va_P (dC, dI) vwCl [(bo, .inr (5, [.ref q, .ref mk, .ref ka, .ref cs])), (cs, .inl (cV, 2, .inr (.inr (.inr (.inr gs))))), (sv, .inr (3, [.ref h, .ref lt, .long an, .int dp, .int qn])), (h, .inr (4, [.ref ra, .ref op, .int (nI v), .int lc])), (ra, .inl (cJ, 9, .inr (.inr (.inr (.inr gr))))), (ad, .inl (cL, 256, .inr (.inl fr)))] U.heap ∧ va_K (dC, dI) vwCl [(cV, .object "BlindShelf$Server"), (cJ, .array .long), (cL, .long)] U ∧ va_D (fun _ => True) [(bo, .inr (5, [.ref q, .ref mk, .ref ka, .ref cs])), (cs, .inl (cV, 2, .inr (.inr (.inr (.inr gs))))), (sv, .inr (3, [.ref h, .ref lt, .long an, .int dp, .int qn])), (h, .inr (4, [.ref ra, .ref op, .int (nI v), .int lc])), (ra, .inl (cJ, 9, .inr (.inr (.inr (.inr gr))))), (ad, .inl (cL, 256, .inr (.inl fr)))])) (va_Ql (fun (r : Int64) (_ : Unit) => r = fr i9) (fun (_ : Unit) t => va_P (dC, dI) vwCl [(bo, .inr (5, [.ref q, .ref mk, .ref ka, .ref cs])), (cs, .inl (cV, 2, .inr (.inr (.inr (.inr gs))))), (sv, .inr (3, [.ref h, .ref lt, .long an, .int dp, .int qn])), (h, .inr (4, [.ref ra, .ref op, .int (nI v), .int lc])), (ra, .inl (cJ, 9, .inr (.inr (.inr (.inr gr))))), (ad, .inl (cL, 256, .inr (.inl fr)))] t.heap ∧ va_K (dC, dI) vwCl [(cV, .object "BlindShelf$Server"), (cJ, .array .long), (cL, .long)] t ∧ va_D (va_A [(bo, .inr (5, [.ref q, .ref mk, .ref ka, .ref cs])), (cs, .inl (cV, 2, .inr (.inr (.inr (.inr gs))))), (sv, .inr (3, [.ref h, .ref lt, .long an, .int dp, .int qn])), (h, .inr (4, [.ref ra, .ref op, .int (nI v), .int lc])), (ra, .inl (cJ, 9, .inr (.inr (.inr (.inr gr))))), (ad, .inl (cL, 256, .inr (.inl fr)))] sz) [(bo, .inr (5, [.ref q, .ref mk, .ref ka, .ref cs])), (cs, .inl (cV, 2, .inr (.inr (.inr (.inr gs))))), (sv, .inr (3, [.ref h, .ref lt, .long an, .int dp, .int qn])), (h, .inr (4, [.ref ra, .ref op, .int (nI v), .int lc])), (ra, .inl (cJ, 9, .inr (.inr (.inr (.inr gr))))), (ad, .inl (cL, 256, .inr (.inl fr)))]) (va_A [(bo, .inr (5, [.ref q, .ref mk, .ref ka, .ref cs])), (cs, .inl (cV, 2, .inr (.inr (.inr (.inr gs))))), (sv, .inr (3, [.ref h, .ref lt, .long an, .int dp, .int qn])), (h, .inr (4, [.ref ra, .ref op, .int (nI v), .int lc])), (ra, .inl (cJ, 9, .inr (.inr (.inr (.inr gr))))), (ad, .inl (cL, 256, .inr (.inl fr)))] sz)) 0 0 (va_A [(bo, .inr (5, [.ref q, .ref mk, .ref ka, .ref cs])), (cs, .inl (cV, 2, .inr (.inr (.inr (.inr gs))))), (sv, .inr (3, [.ref h, .ref lt, .long an, .int dp, .int qn])), (h, .inr (4, [.ref ra, .ref op, .int (nI v), .int lc])), (ra, .inl (cJ, 9, .inr (.inr (.inr (.inr gr))))), (ad, .inl (cL, 256, .inr (.inl fr)))] sz) := by
  refine Met.ofW (cc := cBS_record) (maxL := 4) (ret := (some .long)) (by decide) rfl ?_
  intro p e s m args below meth c s₁ Bo9 hml hv
  obtain ⟨rfl, hsz, hP, hK, hD0⟩ := hv
  have hx := Bo9.exec
  have hb := Bo9.bytes
  have hr := Bo9.returns
  have hts := fun w (h : w ∈ wT) => atoms_spec (ws := wsBS_record) Bo9.pre w (List.mem_cons_of_mem _ h)
  have hown : s.vm.findClass RBS = some m.cls := findClass_of_methodNamed Bo9.named
  have hlocks := Bo9.notSynchronized
  subst hsz
  have hD := hD0.self (sz := s.heap.size)
  generalize hAe : va_A [(bo, .inr (5, [.ref q, .ref mk, .ref ka, .ref cs])), (cs, .inl (cV, 2, .inr (.inr (.inr (.inr gs))))), (sv, .inr (3, [.ref h, .ref lt, .long an, .int dp, .int qn])), (h, .inr (4, [.ref ra, .ref op, .int (nI v), .int lc])), (ra, .inl (cJ, 9, .inr (.inr (.inr (.inr gr))))), (ad, .inl (cL, 256, .inr (.inl fr)))] s.heap.size = A at hD ⊢
  have hA : ∀ q : Nat, s.heap.size ≤ q → A q := fun q h => by rw [← hAe]; exact Or.inr h
  have hl := lv_entry ([.ref bo, .int (nI x9), .int (nI vj), .int (nI i9)]) (n := 4) (Nat.le_of_ble_eq_true rfl)
  rw [lg_entry_eq]
  generalize (lg_sl ([.ref bo, .int (nI x9), .int (nI vj), .int (nI i9)]) ++ List.replicate (4 - (lg_sl ([.ref bo, .int (nI x9), .int (nI vj), .int (nI i9)])).length) Slot.unset).toArray = ls at hl ⊢
  have hl : lv_has ls 4 [(0, .ref bo), (1, .int (nI x9)), (2, .int (nI vj)), (3, .int (nI i9))] := hl
  refine xs_q (fun H Q hH hQ => ?_)
  have hS : va_S A s.heap H [] := by rw [hH]; exact va_S.rf
  have hP : va_P (dC, dI) vwCl [(bo, .inr (5, [.ref q, .ref mk, .ref ka, .ref cs])), (cs, .inl (cV, 2, .inr (.inr (.inr (.inr gs))))), (sv, .inr (3, [.ref h, .ref lt, .long an, .int dp, .int qn])), (h, .inr (4, [.ref ra, .ref op, .int (nI v), .int lc])), (ra, .inl (cJ, 9, .inr (.inr (.inr (.inr gr))))), (ad, .inl (cL, 256, .inr (.inl fr)))] H := by rw [hH]; exact hP
  refine lv_iload_n hx hb dBS_record_0 rfl (lv_at hl 1 rfl) ?_
  have hPc := hP.sub (ws' := []) [] rfl
  have hDc := hD.sub (ws' := []) [] (by decide) rfl
  have hKc := hK.sub (tys' := []) [] rfl
  have hFc := va_free (wc := []) hD hS hA [] rfl
  refine va_callv (va_runS (As := [.int (nI x9)]) (rest := []) ⟨hx, hb, hml, hown, hts⟩ (c_BS_requireServer_y l dC dI H.size x9 hx9) (va_cwS 1 hts (wT_3 w_m_BS_39 w_t_BS_requireServer w_n_BS w_c_BS_requireServer) rfl rfl rfl (by decide +kernel) ⟨Nat.le_of_ble_eq_true rfl, Nat.le_of_ble_eq_true rfl⟩) ⟨fun a U g mk q => by obtain ⟨q0, q1, qP, qK, qD⟩ := q; exact ⟨q0, q1, qP, va_K.moved (u := U) (U := U.calling g mk a) (Vm.Alike.refl U.vm) qK, qD⟩, fun U hU hW => ⟨rfl, by rw [hU], by rw [hU]; exact hPc, va_K.moved hW.alike hKc, hDc.weaken (fun _ _ _ _ => trivial)⟩⟩ rfl rfl hl.1 rfl (lv_room (Nat.le_of_ble_eq_true rfl)) dBS_record_1 ⟨Nat.zero_le _, Nat.zero_le _⟩) hS (fun q _ h => hFc q h) hFc (fun u t H1 locs ht hvm hw hB hz1 hk1 hS => ?_)
  obtain ⟨hP1, hK1, hD1⟩ := hB
  rw [ht] at hP1
  have hK1 := va_K.moved hvm.symm hK1
  obtain ⟨hP, hD⟩ := va_join (wr := [(bo, .inr (5, [.ref q, .ref mk, .ref ka, .ref cs])), (cs, .inl (cV, 2, .inr (.inr (.inr (.inr gs))))), (sv, .inr (3, [.ref h, .ref lt, .long an, .int dp, .int qn])), (h, .inr (4, [.ref ra, .ref op, .int (nI v), .int lc])), (ra, .inl (cJ, 9, .inr (.inr (.inr (.inr gr))))), (ad, .inl (cL, 256, .inr (.inl fr)))]) (w1 := []) hP hD [] [0, 1, 2, 3, 4, 5] rfl rfl (by decide) (by decide) hk1 hFc hP1 hD1
  generalize H1 = H at hP hS ⊢
  have hP : va_P (dC, dI) vwCl [(bo, .inr (5, [.ref q, .ref mk, .ref ka, .ref cs])), (cs, .inl (cV, 2, .inr (.inr (.inr (.inr gs))))), (sv, .inr (3, [.ref h, .ref lt, .long an, .int dp, .int qn])), (h, .inr (4, [.ref ra, .ref op, .int (nI v), .int lc])), (ra, .inl (cJ, 9, .inr (.inr (.inr (.inr gr))))), (ad, .inl (cL, 256, .inr (.inl fr)))] H := hP
  have hD : va_D A [(bo, .inr (5, [.ref q, .ref mk, .ref ka, .ref cs])), (cs, .inl (cV, 2, .inr (.inr (.inr (.inr gs))))), (sv, .inr (3, [.ref h, .ref lt, .long an, .int dp, .int qn])), (h, .inr (4, [.ref ra, .ref op, .int (nI v), .int lc])), (ra, .inl (cJ, 9, .inr (.inr (.inr (.inr gr))))), (ad, .inl (cL, 256, .inr (.inl fr)))] := hD
  refine lv_iload_n hx hb dBS_record_4 rfl (lv_at hl 3 rfl) ?_
  have hPc := hP.sub (ws' := []) [] rfl
  have hDc := hD.sub (ws' := []) [] (by decide) rfl
  have hKc := hK.sub (tys' := []) [] rfl
  have hFc := va_free (wc := []) hD hS hA [] rfl
  refine va_callv (va_runS (As := [.int (nI i9)]) (rest := []) ⟨hx, hb, hml, hown, hts⟩ (c_BS_requirePlace_y l dC dI H.size i9 hi9) (va_cwS 1 hts (wT_3 w_m_BS_42 w_t_BS_requirePlace w_n_BS w_c_BS_requirePlace) rfl rfl rfl (by decide +kernel) ⟨Nat.le_of_ble_eq_true rfl, Nat.le_of_ble_eq_true rfl⟩) ⟨fun a U g mk q => by obtain ⟨q0, q1, qP, qK, qD⟩ := q; exact ⟨q0, q1, qP, va_K.moved (u := U) (U := U.calling g mk a) (Vm.Alike.refl U.vm) qK, qD⟩, fun U hU hW => ⟨rfl, by rw [hU], by rw [hU]; exact hPc, va_K.moved hW.alike hKc, hDc.weaken (fun _ _ _ _ => trivial)⟩⟩ rfl rfl hl.1 rfl (lv_room (Nat.le_of_ble_eq_true rfl)) dBS_record_5 ⟨Nat.zero_le _, Nat.zero_le _⟩) hS (fun q _ h => hFc q h) hFc (fun u t H1 locs ht hvm hw hB hz1 hk1 hS => ?_)
  obtain ⟨hP1, hK1, hD1⟩ := hB
  rw [ht] at hP1
  have hK1 := va_K.moved hvm.symm hK1
  obtain ⟨hP, hD⟩ := va_join (wr := [(bo, .inr (5, [.ref q, .ref mk, .ref ka, .ref cs])), (cs, .inl (cV, 2, .inr (.inr (.inr (.inr gs))))), (sv, .inr (3, [.ref h, .ref lt, .long an, .int dp, .int qn])), (h, .inr (4, [.ref ra, .ref op, .int (nI v), .int lc])), (ra, .inl (cJ, 9, .inr (.inr (.inr (.inr gr))))), (ad, .inl (cL, 256, .inr (.inl fr)))]) (w1 := []) hP hD [] [0, 1, 2, 3, 4, 5] rfl rfl (by decide) (by decide) hk1 hFc hP1 hD1
  generalize H1 = H at hP hS ⊢
  have hP : va_P (dC, dI) vwCl [(bo, .inr (5, [.ref q, .ref mk, .ref ka, .ref cs])), (cs, .inl (cV, 2, .inr (.inr (.inr (.inr gs))))), (sv, .inr (3, [.ref h, .ref lt, .long an, .int dp, .int qn])), (h, .inr (4, [.ref ra, .ref op, .int (nI v), .int lc])), (ra, .inl (cJ, 9, .inr (.inr (.inr (.inr gr))))), (ad, .inl (cL, 256, .inr (.inl fr)))] H := hP
  have hD : va_D A [(bo, .inr (5, [.ref q, .ref mk, .ref ka, .ref cs])), (cs, .inl (cV, 2, .inr (.inr (.inr (.inr gs))))), (sv, .inr (3, [.ref h, .ref lt, .long an, .int dp, .int qn])), (h, .inr (4, [.ref ra, .ref op, .int (nI v), .int lc])), (ra, .inl (cJ, 9, .inr (.inr (.inr (.inr gr))))), (ad, .inl (cL, 256, .inr (.inl fr)))] := hD
  refine lv_aload_n hx hb dBS_record_8 rfl (lv_at hl 0 rfl) ?_
  refine lv_iload_n hx hb dBS_record_9 rfl (lv_at hl 1 rfl) ?_
  refine lv_iload_n hx hb dBS_record_10 rfl (lv_at hl 2 rfl) ?_
  have hPc := hP.sub (ws' := [(bo, .inr (5, [.ref q, .ref mk, .ref ka, .ref cs])), (cs, .inl (cV, 2, .inr (.inr (.inr (.inr gs))))), (sv, .inr (3, [.ref h, .ref lt, .long an, .int dp, .int qn])), (h, .inr (4, [.ref ra, .ref op, .int (nI v), .int lc]))]) [0, 1, 2, 3] rfl
  have hDc := hD.sub (ws' := [(bo, .inr (5, [.ref q, .ref mk, .ref ka, .ref cs])), (cs, .inl (cV, 2, .inr (.inr (.inr (.inr gs))))), (sv, .inr (3, [.ref h, .ref lt, .long an, .int dp, .int qn])), (h, .inr (4, [.ref ra, .ref op, .int (nI v), .int lc]))]) [0, 1, 2, 3] (by decide) rfl
  have hKc := hK.sub (tys' := [(cV, .object "BlindShelf$Server")]) [0] rfl
  have hFc := va_free (wc := [(bo, .inr (5, [.ref q, .ref mk, .ref ka, .ref cs])), (cs, .inl (cV, 2, .inr (.inr (.inr (.inr gs))))), (sv, .inr (3, [.ref h, .ref lt, .long an, .int dp, .int qn])), (h, .inr (4, [.ref ra, .ref op, .int (nI v), .int lc]))]) hD hS hA [0, 1, 2, 3] rfl
  refine va_callv (va_runV (C := RBS) (As := [.int (nI x9), .int (nI vj)]) (rest := []) ⟨hx, hb, hml, hown, hts⟩ (c_BS_requireHeld_y l dC dI H.size bo q mk ka cs sv h lt an dp qn cV gs x9 ra op v lc (nI vj) hx9 hgs hv hu) (cwV (C := RBS) 2 hts (wT_4 w_m_BS_92 w_i_BS_requireHeld w_s_BS_requireHeld w_n_BS w_c_BS_requireHeld) rfl rfl rfl (by decide +kernel) ⟨Nat.le_of_ble_eq_true rfl, Nat.le_of_ble_eq_true rfl⟩) ⟨fun a U g mk q => by obtain ⟨q0, q1, qP, qK, qD⟩ := q; exact ⟨q0, q1, qP, va_K.moved (u := U) (U := U.calling g mk a) (Vm.Alike.refl U.vm) qK, qD⟩, va_recv hK hP (q0 := 0) (ci := 5) (q := (RBS, TBS, 4)) rfl rfl, fun U hU hW => ⟨rfl, by rw [hU], by rw [hU]; exact hPc, va_K.moved hW.alike hKc, hDc.weaken (fun _ _ _ _ => trivial)⟩⟩ rfl rfl hl.1 rfl (lv_room (Nat.le_of_ble_eq_true rfl)) dBS_record_11 ⟨Nat.zero_le _, Nat.zero_le _⟩) hS (fun q _ h => hFc q h) hFc (fun u t H1 locs ht hvm hw hB hz1 hk1 hS => ?_)
  obtain ⟨hP1, hK1, hD1⟩ := hB
  rw [ht] at hP1
  have hK1 := va_K.moved hvm.symm hK1
  obtain ⟨hP, hD⟩ := va_join (wr := [(ra, .inl (cJ, 9, .inr (.inr (.inr (.inr gr))))), (ad, .inl (cL, 256, .inr (.inl fr)))]) (w1 := [(bo, .inr (5, [.ref q, .ref mk, .ref ka, .ref cs])), (cs, .inl (cV, 2, .inr (.inr (.inr (.inr gs))))), (sv, .inr (3, [.ref h, .ref lt, .long an, .int dp, .int qn])), (h, .inr (4, [.ref ra, .ref op, .int (nI v), .int lc]))]) hP hD [0, 1, 2, 3] [4, 5] rfl rfl (by decide) (by decide) hk1 hFc hP1 hD1
  generalize H1 = H at hP hS ⊢
  have hP : va_P (dC, dI) vwCl [(ra, .inl (cJ, 9, .inr (.inr (.inr (.inr gr))))), (ad, .inl (cL, 256, .inr (.inl fr))), (bo, .inr (5, [.ref q, .ref mk, .ref ka, .ref cs])), (cs, .inl (cV, 2, .inr (.inr (.inr (.inr gs))))), (sv, .inr (3, [.ref h, .ref lt, .long an, .int dp, .int qn])), (h, .inr (4, [.ref ra, .ref op, .int (nI v), .int lc]))] H := hP
  have hD : va_D A [(ra, .inl (cJ, 9, .inr (.inr (.inr (.inr gr))))), (ad, .inl (cL, 256, .inr (.inl fr))), (bo, .inr (5, [.ref q, .ref mk, .ref ka, .ref cs])), (cs, .inl (cV, 2, .inr (.inr (.inr (.inr gs))))), (sv, .inr (3, [.ref h, .ref lt, .long an, .int dp, .int qn])), (h, .inr (4, [.ref ra, .ref op, .int (nI v), .int lc]))] := hD
  refine lv_aload_n hx hb dBS_record_14 rfl (lv_at hl 0 rfl) ?_
  refine va_get (D := (dC, dI)) (ci := 5) (v := .ref cs) (C := RBS) (T := TBS) (N := 4) hx hb hts in_BS hown hK hP 2 rfl rfl 3 (by decide) (hts _ w_f_BS_35) (fun _ h9 => h9) rfl dBS_record_15 ?_
  refine lv_iload_n hx hb dBS_record_18 rfl (lv_at hl 1 rfl) ?_
  refine xa_aald hx hb hK hP 3 0 rfl rfl rfl x9 (by omega) (by decide) dBS_record_19 ?_
  refine xt_v (y := .ref sv) (by rw [hgs]; rfl) ?_
  refine va_get (D := (dC, dI)) (ci := 3) (v := .ref h) (C := RSV) (T := TSV) (N := 5) hx hb hts in_SV hown hK hP 4 rfl rfl 0 (by decide) (hts _ w_f_BS_45) (fun _ h9 => h9) rfl dBS_record_20 ?_
  refine lv_iload_n hx hb dBS_record_23 rfl (lv_at hl 2 rfl) ?_
  have hPc := hP.sub (ws' := [(h, .inr (4, [.ref ra, .ref op, .int (nI v), .int lc])), (ra, .inl (cJ, 9, .inr (.inr (.inr (.inr gr)))))]) [5, 0] rfl
  have hDc := hD.sub (ws' := [(h, .inr (4, [.ref ra, .ref op, .int (nI v), .int lc])), (ra, .inl (cJ, 9, .inr (.inr (.inr (.inr gr)))))]) [5, 0] (by decide) rfl
  have hKc := hK.sub (tys' := [(cJ, .array .long)]) [1] rfl
  have hFc := va_free (wc := [(h, .inr (4, [.ref ra, .ref op, .int (nI v), .int lc])), (ra, .inl (cJ, 9, .inr (.inr (.inr (.inr gr)))))]) hD hS hA [5, 0] rfl
  refine va_callr (va_runV (C := RSH) (As := [.int (nI vj)]) (rest := []) ⟨hx, hb, hml, hown, hts⟩ (c_SH_recordsOf l dC dI H.size h ra op v lc cJ gr vj ad (by omega) hgr) (cwV (C := RSH) 1 hts (wT_4 w_m_BS_95 w_i_SH_recordsOf w_s_SH_recordsOf w_n_SH w_c_SH_recordsOf) rfl rfl rfl (by decide +kernel) ⟨Nat.le_of_ble_eq_true rfl, Nat.le_of_ble_eq_true rfl⟩) ⟨fun a U g mk q => by obtain ⟨q0, q1, qP, qK, qD⟩ := q; exact ⟨q0, q1, qP, va_K.moved (u := U) (U := U.calling g mk a) (Vm.Alike.refl U.vm) qK, qD⟩, va_recv hK hP (q0 := 5) (ci := 4) (q := (RSH, TSH, 4)) rfl rfl, fun U hU hW => ⟨rfl, by rw [hU], by rw [hU]; exact hPc, va_K.moved hW.alike hKc, hDc.weaken (fun _ _ _ _ => trivial)⟩⟩ rfl rfl hl.1 rfl (lv_room (Nat.le_of_ble_eq_true rfl)) dBS_record_24 ⟨Nat.zero_le _, Nat.zero_le _⟩) hS (fun q _ h => hFc q h) hFc (fun u rq9 t H1 locs ht hvm hw hB hz1 hk1 hS => ?_)
  obtain ⟨hra, hP1, hK1, hD1⟩ := hB
  rw [hra]
  rw [ht] at hP1
  have hK1 := va_K.moved hvm.symm hK1
  obtain ⟨hP, hD⟩ := va_join (wr := [(ad, .inl (cL, 256, .inr (.inl fr))), (bo, .inr (5, [.ref q, .ref mk, .ref ka, .ref cs])), (cs, .inl (cV, 2, .inr (.inr (.inr (.inr gs))))), (sv, .inr (3, [.ref h, .ref lt, .long an, .int dp, .int qn]))]) (w1 := [(h, .inr (4, [.ref ra, .ref op, .int (nI v), .int lc])), (ra, .inl (cJ, 9, .inr (.inr (.inr (.inr gr)))))]) hP hD [5, 0] [1, 2, 3, 4] rfl rfl (by decide) (by decide) hk1 hFc hP1 hD1
  generalize H1 = H at hP hS ⊢
  have hP : va_P (dC, dI) vwCl [(ad, .inl (cL, 256, .inr (.inl fr))), (bo, .inr (5, [.ref q, .ref mk, .ref ka, .ref cs])), (cs, .inl (cV, 2, .inr (.inr (.inr (.inr gs))))), (sv, .inr (3, [.ref h, .ref lt, .long an, .int dp, .int qn])), (h, .inr (4, [.ref ra, .ref op, .int (nI v), .int lc])), (ra, .inl (cJ, 9, .inr (.inr (.inr (.inr gr)))))] H := hP
  have hD : va_D A [(ad, .inl (cL, 256, .inr (.inl fr))), (bo, .inr (5, [.ref q, .ref mk, .ref ka, .ref cs])), (cs, .inl (cV, 2, .inr (.inr (.inr (.inr gs))))), (sv, .inr (3, [.ref h, .ref lt, .long an, .int dp, .int qn])), (h, .inr (4, [.ref ra, .ref op, .int (nI v), .int lc])), (ra, .inl (cJ, 9, .inr (.inr (.inr (.inr gr)))))] := hD
  refine lv_iload_n hx hb dBS_record_27 rfl (lv_at hl 3 rfl) ?_
  refine xa_lald hx hb hK hP 0 2 rfl rfl i9 (by omega) (by decide) dBS_record_28 ?_
  have hP := hP.sub (ws' := [(bo, .inr (5, [.ref q, .ref mk, .ref ka, .ref cs])), (cs, .inl (cV, 2, .inr (.inr (.inr (.inr gs))))), (sv, .inr (3, [.ref h, .ref lt, .long an, .int dp, .int qn])), (h, .inr (4, [.ref ra, .ref op, .int (nI v), .int lc])), (ra, .inl (cJ, 9, .inr (.inr (.inr (.inr gr))))), (ad, .inl (cL, 256, .inr (.inl fr)))]) [1, 2, 3, 4, 5, 0] rfl
  have hD := hD.sub (ws' := [(bo, .inr (5, [.ref q, .ref mk, .ref ka, .ref cs])), (cs, .inl (cV, 2, .inr (.inr (.inr (.inr gs))))), (sv, .inr (3, [.ref h, .ref lt, .long an, .int dp, .int qn])), (h, .inr (4, [.ref ra, .ref op, .int (nI v), .int lc])), (ra, .inl (cJ, 9, .inr (.inr (.inr (.inr gr))))), (ad, .inl (cL, 256, .inr (.inl fr)))]) [1, 2, 3, 4, 5, 0] (by decide) rfl
  have hP : va_P (dC, dI) vwCl [(bo, .inr (5, [.ref q, .ref mk, .ref ka, .ref cs])), (cs, .inl (cV, 2, .inr (.inr (.inr (.inr gs))))), (sv, .inr (3, [.ref h, .ref lt, .long an, .int dp, .int qn])), (h, .inr (4, [.ref ra, .ref op, .int (nI v), .int lc])), (ra, .inl (cJ, 9, .inr (.inr (.inr (.inr gr))))), (ad, .inl (cL, 256, .inr (.inl fr)))] H := hP
  have hD : va_D A [(bo, .inr (5, [.ref q, .ref mk, .ref ka, .ref cs])), (cs, .inl (cV, 2, .inr (.inr (.inr (.inr gs))))), (sv, .inr (3, [.ref h, .ref lt, .long an, .int dp, .int qn])), (h, .inr (4, [.ref ra, .ref op, .int (nI v), .int lc])), (ra, .inl (cJ, 9, .inr (.inr (.inr (.inr gr))))), (ad, .inl (cL, 256, .inr (.inl fr)))] := hD
  subst hQ
  exact W.lret (v := fr i9) hx hb hr (fun t ht hW => ⟨⟨fr i9, (), rfl, rfl, by rw [ht]; exact hP, va_K.moved hW.alike hK, hD⟩, hS.F ht⟩) hS.2.2 dBS_record_29
set_option maxHeartbeats 4000000 in
set_option maxRecDepth 100000 in
theorem c_BS_digest_y (l : Launch) (dC : Nat → ClassId) (dI : Nat → Nat → Nat) (sz : Nat) (bo q mk ka cs : Nat) (sv h lt : Nat) (an : Int64) (dp qn : Int32) (cV : ClassId) (gs : Nat → Option Nat) (x9 : Nat) (ra op : Nat) (v : Nat) (lc : Int32) (cJ cL : ClassId) (gr : Nat → Option Nat) (ad : Nat) (fr : Nat → Int64) (vj : Nat) (hx9 : x9 < 2) (hgs : gs x9 = some sv) (hv : v < 2 ^ 29) (hu : decide (nI (v - 8) ≤ nI vj ∧ nI vj ≤ nI v) = true) (hvj : vj < 2 ^ 30) (hgr : gr (vj % 9) = some ad) : Met l yBS_digest wsBS_digest { frames := 7, cells := 0, slots := 0, locals := 152 } (va_Pc [.ref bo, .int (nI x9), .int (nI vj)] (fun U => U.heap.size = sz ∧ va_P (dC, dI) vwCl [(bo, .inr (5, [.ref q, .ref mk, .ref ka, .ref cs])), (cs, .inl (cV, 2, .inr (.inr (.inr (.inr gs))))), (sv, .inr (3, [.ref h, .ref lt, .long an, .int dp, .int qn])), (h, .inr (4, [.ref ra, .ref op, .int (nI v), .int lc])), (ra, .inl (cJ, 9, .inr (.inr (.inr (.inr gr))))), (ad, .inl (cL, 256, .inr (.inl fr)))] U.heap ∧ va_K (dC, dI) vwCl [(cV, .object "BlindShelf$Server"), (cJ, .array .long), (cL, .long)] U ∧ va_D (fun _ => True) [(bo, .inr (5, [.ref q, .ref mk, .ref ka, .ref cs])), (cs, .inl (cV, 2, .inr (.inr (.inr (.inr gs))))), (sv, .inr (3, [.ref h, .ref lt, .long an, .int dp, .int qn])), (h, .inr (4, [.ref ra, .ref op, .int (nI v), .int lc])), (ra, .inl (cJ, 9, .inr (.inr (.inr (.inr gr))))), (ad, .inl (cL, 256, .inr (.inl fr)))])) (va_Ql (fun (r : Int64) (_ : Unit) => r = lN (bs_dg fr 256)) (fun (_ : Unit) t => va_P (dC, dI) vwCl [(bo, .inr (5, [.ref q, .ref mk, .ref ka, .ref cs])), (cs, .inl (cV, 2, .inr (.inr (.inr (.inr gs))))), (sv, .inr (3, [.ref h, .ref lt, .long an, .int dp, .int qn])), (h, .inr (4, [.ref ra, .ref op, .int (nI v), .int lc])), (ra, .inl (cJ, 9, .inr (.inr (.inr (.inr gr))))), (ad, .inl (cL, 256, .inr (.inl fr)))] t.heap ∧ va_K (dC, dI) vwCl [(cV, .object "BlindShelf$Server"), (cJ, .array .long), (cL, .long)] t ∧ va_D (va_A [(bo, .inr (5, [.ref q, .ref mk, .ref ka, .ref cs])), (cs, .inl (cV, 2, .inr (.inr (.inr (.inr gs))))), (sv, .inr (3, [.ref h, .ref lt, .long an, .int dp, .int qn])), (h, .inr (4, [.ref ra, .ref op, .int (nI v), .int lc])), (ra, .inl (cJ, 9, .inr (.inr (.inr (.inr gr))))), (ad, .inl (cL, 256, .inr (.inl fr)))] sz) [(bo, .inr (5, [.ref q, .ref mk, .ref ka, .ref cs])), (cs, .inl (cV, 2, .inr (.inr (.inr (.inr gs))))), (sv, .inr (3, [.ref h, .ref lt, .long an, .int dp, .int qn])), (h, .inr (4, [.ref ra, .ref op, .int (nI v), .int lc])), (ra, .inl (cJ, 9, .inr (.inr (.inr (.inr gr))))), (ad, .inl (cL, 256, .inr (.inl fr)))]) (va_A [(bo, .inr (5, [.ref q, .ref mk, .ref ka, .ref cs])), (cs, .inl (cV, 2, .inr (.inr (.inr (.inr gs))))), (sv, .inr (3, [.ref h, .ref lt, .long an, .int dp, .int qn])), (h, .inr (4, [.ref ra, .ref op, .int (nI v), .int lc])), (ra, .inl (cJ, 9, .inr (.inr (.inr (.inr gr))))), (ad, .inl (cL, 256, .inr (.inl fr)))] sz)) 0 0 (va_A [(bo, .inr (5, [.ref q, .ref mk, .ref ka, .ref cs])), (cs, .inl (cV, 2, .inr (.inr (.inr (.inr gs))))), (sv, .inr (3, [.ref h, .ref lt, .long an, .int dp, .int qn])), (h, .inr (4, [.ref ra, .ref op, .int (nI v), .int lc])), (ra, .inl (cJ, 9, .inr (.inr (.inr (.inr gr))))), (ad, .inl (cL, 256, .inr (.inl fr)))] sz) := by
  refine Met.ofW (cc := cBS_digest) (maxL := 3) (ret := (some .long)) (by decide) rfl ?_
  intro p e s m args below meth c s₁ Bo9 hml hv
  obtain ⟨rfl, hsz, hP, hK, hD0⟩ := hv
  have hx := Bo9.exec
  have hb := Bo9.bytes
  have hr := Bo9.returns
  have hts := fun w (h : w ∈ wT) => atoms_spec (ws := wsBS_digest) Bo9.pre w (List.mem_cons_of_mem _ h)
  have hown : s.vm.findClass RBS = some m.cls := findClass_of_methodNamed Bo9.named
  have hlocks := Bo9.notSynchronized
  subst hsz
  have hD := hD0.self (sz := s.heap.size)
  generalize hAe : va_A [(bo, .inr (5, [.ref q, .ref mk, .ref ka, .ref cs])), (cs, .inl (cV, 2, .inr (.inr (.inr (.inr gs))))), (sv, .inr (3, [.ref h, .ref lt, .long an, .int dp, .int qn])), (h, .inr (4, [.ref ra, .ref op, .int (nI v), .int lc])), (ra, .inl (cJ, 9, .inr (.inr (.inr (.inr gr))))), (ad, .inl (cL, 256, .inr (.inl fr)))] s.heap.size = A at hD ⊢
  have hA : ∀ q : Nat, s.heap.size ≤ q → A q := fun q h => by rw [← hAe]; exact Or.inr h
  have hl := lv_entry ([.ref bo, .int (nI x9), .int (nI vj)]) (n := 3) (Nat.le_of_ble_eq_true rfl)
  rw [lg_entry_eq]
  generalize (lg_sl ([.ref bo, .int (nI x9), .int (nI vj)]) ++ List.replicate (3 - (lg_sl ([.ref bo, .int (nI x9), .int (nI vj)])).length) Slot.unset).toArray = ls at hl ⊢
  have hl : lv_has ls 3 [(0, .ref bo), (1, .int (nI x9)), (2, .int (nI vj))] := hl
  refine xs_q (fun H Q hH hQ => ?_)
  have hS : va_S A s.heap H [] := by rw [hH]; exact va_S.rf
  have hP : va_P (dC, dI) vwCl [(bo, .inr (5, [.ref q, .ref mk, .ref ka, .ref cs])), (cs, .inl (cV, 2, .inr (.inr (.inr (.inr gs))))), (sv, .inr (3, [.ref h, .ref lt, .long an, .int dp, .int qn])), (h, .inr (4, [.ref ra, .ref op, .int (nI v), .int lc])), (ra, .inl (cJ, 9, .inr (.inr (.inr (.inr gr))))), (ad, .inl (cL, 256, .inr (.inl fr)))] H := by rw [hH]; exact hP
  refine lv_iload_n hx hb dBS_digest_0 rfl (lv_at hl 1 rfl) ?_
  have hPc := hP.sub (ws' := []) [] rfl
  have hDc := hD.sub (ws' := []) [] (by decide) rfl
  have hKc := hK.sub (tys' := []) [] rfl
  have hFc := va_free (wc := []) hD hS hA [] rfl
  refine va_callv (va_runS (As := [.int (nI x9)]) (rest := []) ⟨hx, hb, hml, hown, hts⟩ (c_BS_requireServer_y l dC dI H.size x9 hx9) (va_cwS 1 hts (wT_3 w_m_BS_39 w_t_BS_requireServer w_n_BS w_c_BS_requireServer) rfl rfl rfl (by decide +kernel) ⟨Nat.le_of_ble_eq_true rfl, Nat.le_of_ble_eq_true rfl⟩) ⟨fun a U g mk q => by obtain ⟨q0, q1, qP, qK, qD⟩ := q; exact ⟨q0, q1, qP, va_K.moved (u := U) (U := U.calling g mk a) (Vm.Alike.refl U.vm) qK, qD⟩, fun U hU hW => ⟨rfl, by rw [hU], by rw [hU]; exact hPc, va_K.moved hW.alike hKc, hDc.weaken (fun _ _ _ _ => trivial)⟩⟩ rfl rfl hl.1 rfl (lv_room (Nat.le_of_ble_eq_true rfl)) dBS_digest_1 ⟨Nat.zero_le _, Nat.zero_le _⟩) hS (fun q _ h => hFc q h) hFc (fun u t H1 locs ht hvm hw hB hz1 hk1 hS => ?_)
  obtain ⟨hP1, hK1, hD1⟩ := hB
  rw [ht] at hP1
  have hK1 := va_K.moved hvm.symm hK1
  obtain ⟨hP, hD⟩ := va_join (wr := [(bo, .inr (5, [.ref q, .ref mk, .ref ka, .ref cs])), (cs, .inl (cV, 2, .inr (.inr (.inr (.inr gs))))), (sv, .inr (3, [.ref h, .ref lt, .long an, .int dp, .int qn])), (h, .inr (4, [.ref ra, .ref op, .int (nI v), .int lc])), (ra, .inl (cJ, 9, .inr (.inr (.inr (.inr gr))))), (ad, .inl (cL, 256, .inr (.inl fr)))]) (w1 := []) hP hD [] [0, 1, 2, 3, 4, 5] rfl rfl (by decide) (by decide) hk1 hFc hP1 hD1
  generalize H1 = H at hP hS ⊢
  have hP : va_P (dC, dI) vwCl [(bo, .inr (5, [.ref q, .ref mk, .ref ka, .ref cs])), (cs, .inl (cV, 2, .inr (.inr (.inr (.inr gs))))), (sv, .inr (3, [.ref h, .ref lt, .long an, .int dp, .int qn])), (h, .inr (4, [.ref ra, .ref op, .int (nI v), .int lc])), (ra, .inl (cJ, 9, .inr (.inr (.inr (.inr gr))))), (ad, .inl (cL, 256, .inr (.inl fr)))] H := hP
  have hD : va_D A [(bo, .inr (5, [.ref q, .ref mk, .ref ka, .ref cs])), (cs, .inl (cV, 2, .inr (.inr (.inr (.inr gs))))), (sv, .inr (3, [.ref h, .ref lt, .long an, .int dp, .int qn])), (h, .inr (4, [.ref ra, .ref op, .int (nI v), .int lc])), (ra, .inl (cJ, 9, .inr (.inr (.inr (.inr gr))))), (ad, .inl (cL, 256, .inr (.inl fr)))] := hD
  refine lv_aload_n hx hb dBS_digest_4 rfl (lv_at hl 0 rfl) ?_
  refine lv_iload_n hx hb dBS_digest_5 rfl (lv_at hl 1 rfl) ?_
  refine lv_iload_n hx hb dBS_digest_6 rfl (lv_at hl 2 rfl) ?_
  have hPc := hP.sub (ws' := [(bo, .inr (5, [.ref q, .ref mk, .ref ka, .ref cs])), (cs, .inl (cV, 2, .inr (.inr (.inr (.inr gs))))), (sv, .inr (3, [.ref h, .ref lt, .long an, .int dp, .int qn])), (h, .inr (4, [.ref ra, .ref op, .int (nI v), .int lc]))]) [0, 1, 2, 3] rfl
  have hDc := hD.sub (ws' := [(bo, .inr (5, [.ref q, .ref mk, .ref ka, .ref cs])), (cs, .inl (cV, 2, .inr (.inr (.inr (.inr gs))))), (sv, .inr (3, [.ref h, .ref lt, .long an, .int dp, .int qn])), (h, .inr (4, [.ref ra, .ref op, .int (nI v), .int lc]))]) [0, 1, 2, 3] (by decide) rfl
  have hKc := hK.sub (tys' := [(cV, .object "BlindShelf$Server")]) [0] rfl
  have hFc := va_free (wc := [(bo, .inr (5, [.ref q, .ref mk, .ref ka, .ref cs])), (cs, .inl (cV, 2, .inr (.inr (.inr (.inr gs))))), (sv, .inr (3, [.ref h, .ref lt, .long an, .int dp, .int qn])), (h, .inr (4, [.ref ra, .ref op, .int (nI v), .int lc]))]) hD hS hA [0, 1, 2, 3] rfl
  refine va_callv (va_runV (C := RBS) (As := [.int (nI x9), .int (nI vj)]) (rest := []) ⟨hx, hb, hml, hown, hts⟩ (c_BS_requireHeld_y l dC dI H.size bo q mk ka cs sv h lt an dp qn cV gs x9 ra op v lc (nI vj) hx9 hgs hv hu) (cwV (C := RBS) 2 hts (wT_4 w_m_BS_92 w_i_BS_requireHeld w_s_BS_requireHeld w_n_BS w_c_BS_requireHeld) rfl rfl rfl (by decide +kernel) ⟨Nat.le_of_ble_eq_true rfl, Nat.le_of_ble_eq_true rfl⟩) ⟨fun a U g mk q => by obtain ⟨q0, q1, qP, qK, qD⟩ := q; exact ⟨q0, q1, qP, va_K.moved (u := U) (U := U.calling g mk a) (Vm.Alike.refl U.vm) qK, qD⟩, va_recv hK hP (q0 := 0) (ci := 5) (q := (RBS, TBS, 4)) rfl rfl, fun U hU hW => ⟨rfl, by rw [hU], by rw [hU]; exact hPc, va_K.moved hW.alike hKc, hDc.weaken (fun _ _ _ _ => trivial)⟩⟩ rfl rfl hl.1 rfl (lv_room (Nat.le_of_ble_eq_true rfl)) dBS_digest_7 ⟨Nat.zero_le _, Nat.zero_le _⟩) hS (fun q _ h => hFc q h) hFc (fun u t H1 locs ht hvm hw hB hz1 hk1 hS => ?_)
  obtain ⟨hP1, hK1, hD1⟩ := hB
  rw [ht] at hP1
  have hK1 := va_K.moved hvm.symm hK1
  obtain ⟨hP, hD⟩ := va_join (wr := [(ra, .inl (cJ, 9, .inr (.inr (.inr (.inr gr))))), (ad, .inl (cL, 256, .inr (.inl fr)))]) (w1 := [(bo, .inr (5, [.ref q, .ref mk, .ref ka, .ref cs])), (cs, .inl (cV, 2, .inr (.inr (.inr (.inr gs))))), (sv, .inr (3, [.ref h, .ref lt, .long an, .int dp, .int qn])), (h, .inr (4, [.ref ra, .ref op, .int (nI v), .int lc]))]) hP hD [0, 1, 2, 3] [4, 5] rfl rfl (by decide) (by decide) hk1 hFc hP1 hD1
  generalize H1 = H at hP hS ⊢
  have hP : va_P (dC, dI) vwCl [(ra, .inl (cJ, 9, .inr (.inr (.inr (.inr gr))))), (ad, .inl (cL, 256, .inr (.inl fr))), (bo, .inr (5, [.ref q, .ref mk, .ref ka, .ref cs])), (cs, .inl (cV, 2, .inr (.inr (.inr (.inr gs))))), (sv, .inr (3, [.ref h, .ref lt, .long an, .int dp, .int qn])), (h, .inr (4, [.ref ra, .ref op, .int (nI v), .int lc]))] H := hP
  have hD : va_D A [(ra, .inl (cJ, 9, .inr (.inr (.inr (.inr gr))))), (ad, .inl (cL, 256, .inr (.inl fr))), (bo, .inr (5, [.ref q, .ref mk, .ref ka, .ref cs])), (cs, .inl (cV, 2, .inr (.inr (.inr (.inr gs))))), (sv, .inr (3, [.ref h, .ref lt, .long an, .int dp, .int qn])), (h, .inr (4, [.ref ra, .ref op, .int (nI v), .int lc]))] := hD
  refine lv_aload_n hx hb dBS_digest_10 rfl (lv_at hl 0 rfl) ?_
  refine va_get (D := (dC, dI)) (ci := 5) (v := .ref cs) (C := RBS) (T := TBS) (N := 4) hx hb hts in_BS hown hK hP 2 rfl rfl 3 (by decide) (hts _ w_f_BS_35) (fun _ h9 => h9) rfl dBS_digest_11 ?_
  refine lv_iload_n hx hb dBS_digest_14 rfl (lv_at hl 1 rfl) ?_
  refine xa_aald hx hb hK hP 3 0 rfl rfl rfl x9 (by omega) (by decide) dBS_digest_15 ?_
  refine xt_v (y := .ref sv) (by rw [hgs]; rfl) ?_
  refine va_get (D := (dC, dI)) (ci := 3) (v := .ref h) (C := RSV) (T := TSV) (N := 5) hx hb hts in_SV hown hK hP 4 rfl rfl 0 (by decide) (hts _ w_f_BS_45) (fun _ h9 => h9) rfl dBS_digest_16 ?_
  refine lv_iload_n hx hb dBS_digest_19 rfl (lv_at hl 2 rfl) ?_
  have hPc := hP.sub (ws' := [(h, .inr (4, [.ref ra, .ref op, .int (nI v), .int lc])), (ra, .inl (cJ, 9, .inr (.inr (.inr (.inr gr)))))]) [5, 0] rfl
  have hDc := hD.sub (ws' := [(h, .inr (4, [.ref ra, .ref op, .int (nI v), .int lc])), (ra, .inl (cJ, 9, .inr (.inr (.inr (.inr gr)))))]) [5, 0] (by decide) rfl
  have hKc := hK.sub (tys' := [(cJ, .array .long)]) [1] rfl
  have hFc := va_free (wc := [(h, .inr (4, [.ref ra, .ref op, .int (nI v), .int lc])), (ra, .inl (cJ, 9, .inr (.inr (.inr (.inr gr)))))]) hD hS hA [5, 0] rfl
  refine va_callr (va_runV (C := RSH) (As := [.int (nI vj)]) (rest := []) ⟨hx, hb, hml, hown, hts⟩ (c_SH_recordsOf l dC dI H.size h ra op v lc cJ gr vj ad (by omega) hgr) (cwV (C := RSH) 1 hts (wT_4 w_m_BS_95 w_i_SH_recordsOf w_s_SH_recordsOf w_n_SH w_c_SH_recordsOf) rfl rfl rfl (by decide +kernel) ⟨Nat.le_of_ble_eq_true rfl, Nat.le_of_ble_eq_true rfl⟩) ⟨fun a U g mk q => by obtain ⟨q0, q1, qP, qK, qD⟩ := q; exact ⟨q0, q1, qP, va_K.moved (u := U) (U := U.calling g mk a) (Vm.Alike.refl U.vm) qK, qD⟩, va_recv hK hP (q0 := 5) (ci := 4) (q := (RSH, TSH, 4)) rfl rfl, fun U hU hW => ⟨rfl, by rw [hU], by rw [hU]; exact hPc, va_K.moved hW.alike hKc, hDc.weaken (fun _ _ _ _ => trivial)⟩⟩ rfl rfl hl.1 rfl (lv_room (Nat.le_of_ble_eq_true rfl)) dBS_digest_20 ⟨Nat.zero_le _, Nat.zero_le _⟩) hS (fun q _ h => hFc q h) hFc (fun u rq9 t H1 locs ht hvm hw hB hz1 hk1 hS => ?_)
  obtain ⟨hra, hP1, hK1, hD1⟩ := hB
  rw [hra]
  rw [ht] at hP1
  have hK1 := va_K.moved hvm.symm hK1
  obtain ⟨hP, hD⟩ := va_join (wr := [(ad, .inl (cL, 256, .inr (.inl fr))), (bo, .inr (5, [.ref q, .ref mk, .ref ka, .ref cs])), (cs, .inl (cV, 2, .inr (.inr (.inr (.inr gs))))), (sv, .inr (3, [.ref h, .ref lt, .long an, .int dp, .int qn]))]) (w1 := [(h, .inr (4, [.ref ra, .ref op, .int (nI v), .int lc])), (ra, .inl (cJ, 9, .inr (.inr (.inr (.inr gr)))))]) hP hD [5, 0] [1, 2, 3, 4] rfl rfl (by decide) (by decide) hk1 hFc hP1 hD1
  generalize H1 = H at hP hS ⊢
  have hP : va_P (dC, dI) vwCl [(ad, .inl (cL, 256, .inr (.inl fr))), (bo, .inr (5, [.ref q, .ref mk, .ref ka, .ref cs])), (cs, .inl (cV, 2, .inr (.inr (.inr (.inr gs))))), (sv, .inr (3, [.ref h, .ref lt, .long an, .int dp, .int qn])), (h, .inr (4, [.ref ra, .ref op, .int (nI v), .int lc])), (ra, .inl (cJ, 9, .inr (.inr (.inr (.inr gr)))))] H := hP
  have hD : va_D A [(ad, .inl (cL, 256, .inr (.inl fr))), (bo, .inr (5, [.ref q, .ref mk, .ref ka, .ref cs])), (cs, .inl (cV, 2, .inr (.inr (.inr (.inr gs))))), (sv, .inr (3, [.ref h, .ref lt, .long an, .int dp, .int qn])), (h, .inr (4, [.ref ra, .ref op, .int (nI v), .int lc])), (ra, .inl (cJ, 9, .inr (.inr (.inr (.inr gr)))))] := hD
  have hPc := hP.sub (ws' := [(ad, .inl (cL, 256, .inr (.inl fr)))]) [0] rfl
  have hDc := hD.sub (ws' := [(ad, .inl (cL, 256, .inr (.inl fr)))]) [0] (by decide) rfl
  have hKc := hK.sub (tys' := [(cL, .long)]) [2] rfl
  have hFc := va_free (wc := [(ad, .inl (cL, 256, .inr (.inl fr)))]) hD hS hA [0] rfl
  refine va_calll (va_runS (As := [.ref ad]) (rest := []) ⟨hx, hb, hml, hown, hts⟩ (c_DG_of l dC dI H.size ad cL fr) (va_cwS 1 hts (wT_3 w_m_BS_114 w_t_DG_of w_n_DG w_c_DG_of) rfl rfl rfl (by decide +kernel) ⟨Nat.le_of_ble_eq_true rfl, Nat.le_of_ble_eq_true rfl⟩) ⟨fun a U g mk q => by obtain ⟨q0, q1, qP, qK, qD⟩ := q; exact ⟨q0, q1, qP, va_K.moved (u := U) (U := U.calling g mk a) (Vm.Alike.refl U.vm) qK, qD⟩, fun U hU hW => ⟨rfl, by rw [hU], by rw [hU]; exact hPc, va_K.moved hW.alike hKc, hDc.weaken (fun _ _ _ _ => trivial)⟩⟩ rfl rfl hl.1 rfl (lv_room (Nat.le_of_ble_eq_true rfl)) dBS_digest_23 ⟨Nat.zero_le _, Nat.zero_le _⟩) hS (fun q _ h => hFc q h) hFc (fun r u t H1 locs ht hvm hw hB hz1 hk1 hS => ?_)
  obtain ⟨hP1, hK1, hD1⟩ := hB
  rw [ht] at hP1
  have hK1 := va_K.moved hvm.symm hK1
  have hw : r = lN (bs_dg fr 256) := hw
  rw [hw]
  obtain ⟨hP, hD⟩ := va_join (wr := [(bo, .inr (5, [.ref q, .ref mk, .ref ka, .ref cs])), (cs, .inl (cV, 2, .inr (.inr (.inr (.inr gs))))), (sv, .inr (3, [.ref h, .ref lt, .long an, .int dp, .int qn])), (h, .inr (4, [.ref ra, .ref op, .int (nI v), .int lc])), (ra, .inl (cJ, 9, .inr (.inr (.inr (.inr gr)))))]) (w1 := [(ad, .inl (cL, 256, .inr (.inl fr)))]) hP hD [0] [1, 2, 3, 4, 5] rfl rfl (by decide) (by decide) hk1 hFc hP1 hD1
  generalize H1 = H at hP hS ⊢
  have hP : va_P (dC, dI) vwCl [(bo, .inr (5, [.ref q, .ref mk, .ref ka, .ref cs])), (cs, .inl (cV, 2, .inr (.inr (.inr (.inr gs))))), (sv, .inr (3, [.ref h, .ref lt, .long an, .int dp, .int qn])), (h, .inr (4, [.ref ra, .ref op, .int (nI v), .int lc])), (ra, .inl (cJ, 9, .inr (.inr (.inr (.inr gr))))), (ad, .inl (cL, 256, .inr (.inl fr)))] H := hP
  have hD : va_D A [(bo, .inr (5, [.ref q, .ref mk, .ref ka, .ref cs])), (cs, .inl (cV, 2, .inr (.inr (.inr (.inr gs))))), (sv, .inr (3, [.ref h, .ref lt, .long an, .int dp, .int qn])), (h, .inr (4, [.ref ra, .ref op, .int (nI v), .int lc])), (ra, .inl (cJ, 9, .inr (.inr (.inr (.inr gr))))), (ad, .inl (cL, 256, .inr (.inl fr)))] := hD
  have hP : va_P (dC, dI) vwCl [(bo, .inr (5, [.ref q, .ref mk, .ref ka, .ref cs])), (cs, .inl (cV, 2, .inr (.inr (.inr (.inr gs))))), (sv, .inr (3, [.ref h, .ref lt, .long an, .int dp, .int qn])), (h, .inr (4, [.ref ra, .ref op, .int (nI v), .int lc])), (ra, .inl (cJ, 9, .inr (.inr (.inr (.inr gr))))), (ad, .inl (cL, 256, .inr (.inl fr)))] H := hP
  have hD : va_D A [(bo, .inr (5, [.ref q, .ref mk, .ref ka, .ref cs])), (cs, .inl (cV, 2, .inr (.inr (.inr (.inr gs))))), (sv, .inr (3, [.ref h, .ref lt, .long an, .int dp, .int qn])), (h, .inr (4, [.ref ra, .ref op, .int (nI v), .int lc])), (ra, .inl (cJ, 9, .inr (.inr (.inr (.inr gr))))), (ad, .inl (cL, 256, .inr (.inl fr)))] := hD
  subst hQ
  exact W.lret (v := lN (bs_dg fr 256)) hx hb hr (fun t ht hW => ⟨⟨lN (bs_dg fr 256), (), rfl, rfl, by rw [ht]; exact hP, va_K.moved hW.alike hK, hD⟩, hS.F ht⟩) hS.2.2 dBS_digest_26
set_option maxHeartbeats 4000000 in
set_option maxRecDepth 100000 in
theorem c_BS_keyByte_y (l : Launch) (dC : Nat → ClassId) (dI : Nat → Nat → Nat) (sz : Nat) (bo q mk ka cs : Nat) (k kb kf ks kt : Nat) (num : Int32) (cI : ClassId) (cK : ClassId) (gk : Nat → Option Nat) (fb : Nat → Int32) (x9 i9 : Nat) (hx9 : x9 < 2) (hi9 : i9 < 160) (hgk : gk x9 = some k) : Met l yBS_keyByte wsBS_keyByte { frames := 7, cells := 0, slots := 0, locals := 151 } (va_Pc [.ref bo, .int (nI x9), .int (nI i9)] (fun U => U.heap.size = sz ∧ va_P (dC, dI) vwCl [(bo, .inr (5, [.ref q, .ref mk, .ref ka, .ref cs])), (ka, .inl (cK, 2, .inr (.inr (.inr (.inr gk))))), (k, .inr (1, [.ref kb, .int num, .ref kf, .ref ks, .ref kt])), (kb, .inl (cI, 160, .inl fb))] U.heap ∧ va_K (dC, dI) vwCl [(cI, .int), (cK, .object "BlindShelf$Key")] U ∧ va_D (fun _ => True) [(bo, .inr (5, [.ref q, .ref mk, .ref ka, .ref cs])), (ka, .inl (cK, 2, .inr (.inr (.inr (.inr gk))))), (k, .inr (1, [.ref kb, .int num, .ref kf, .ref ks, .ref kt])), (kb, .inl (cI, 160, .inl fb))])) (va_Qi (fun (r : Int32) (_ : Unit) => r = fb i9) (fun (_ : Unit) t => va_P (dC, dI) vwCl [(bo, .inr (5, [.ref q, .ref mk, .ref ka, .ref cs])), (ka, .inl (cK, 2, .inr (.inr (.inr (.inr gk))))), (k, .inr (1, [.ref kb, .int num, .ref kf, .ref ks, .ref kt])), (kb, .inl (cI, 160, .inl fb))] t.heap ∧ va_K (dC, dI) vwCl [(cI, .int), (cK, .object "BlindShelf$Key")] t ∧ va_D (va_A [(bo, .inr (5, [.ref q, .ref mk, .ref ka, .ref cs])), (ka, .inl (cK, 2, .inr (.inr (.inr (.inr gk))))), (k, .inr (1, [.ref kb, .int num, .ref kf, .ref ks, .ref kt])), (kb, .inl (cI, 160, .inl fb))] sz) [(bo, .inr (5, [.ref q, .ref mk, .ref ka, .ref cs])), (ka, .inl (cK, 2, .inr (.inr (.inr (.inr gk))))), (k, .inr (1, [.ref kb, .int num, .ref kf, .ref ks, .ref kt])), (kb, .inl (cI, 160, .inl fb))]) (va_A [(bo, .inr (5, [.ref q, .ref mk, .ref ka, .ref cs])), (ka, .inl (cK, 2, .inr (.inr (.inr (.inr gk))))), (k, .inr (1, [.ref kb, .int num, .ref kf, .ref ks, .ref kt])), (kb, .inl (cI, 160, .inl fb))] sz)) 0 0 (va_A [(bo, .inr (5, [.ref q, .ref mk, .ref ka, .ref cs])), (ka, .inl (cK, 2, .inr (.inr (.inr (.inr gk))))), (k, .inr (1, [.ref kb, .int num, .ref kf, .ref ks, .ref kt])), (kb, .inl (cI, 160, .inl fb))] sz) := by
  refine Met.ofW (cc := cBS_keyByte) (maxL := 3) (ret := (some .int)) (by decide) rfl ?_
  intro p e s m args below meth c s₁ Bo9 hml hv
  obtain ⟨rfl, hsz, hP, hK, hD0⟩ := hv
  have hx := Bo9.exec
  have hb := Bo9.bytes
  have hr := Bo9.returns
  have hts := fun w (h : w ∈ wT) => atoms_spec (ws := wsBS_keyByte) Bo9.pre w (List.mem_cons_of_mem _ h)
  have hown : s.vm.findClass RBS = some m.cls := findClass_of_methodNamed Bo9.named
  have hlocks := Bo9.notSynchronized
  subst hsz
  have hD := hD0.self (sz := s.heap.size)
  generalize hAe : va_A [(bo, .inr (5, [.ref q, .ref mk, .ref ka, .ref cs])), (ka, .inl (cK, 2, .inr (.inr (.inr (.inr gk))))), (k, .inr (1, [.ref kb, .int num, .ref kf, .ref ks, .ref kt])), (kb, .inl (cI, 160, .inl fb))] s.heap.size = A at hD ⊢
  have hA : ∀ q : Nat, s.heap.size ≤ q → A q := fun q h => by rw [← hAe]; exact Or.inr h
  have hl := lv_entry ([.ref bo, .int (nI x9), .int (nI i9)]) (n := 3) (Nat.le_of_ble_eq_true rfl)
  rw [lg_entry_eq]
  generalize (lg_sl ([.ref bo, .int (nI x9), .int (nI i9)]) ++ List.replicate (3 - (lg_sl ([.ref bo, .int (nI x9), .int (nI i9)])).length) Slot.unset).toArray = ls at hl ⊢
  have hl : lv_has ls 3 [(0, .ref bo), (1, .int (nI x9)), (2, .int (nI i9))] := hl
  refine xs_q (fun H Q hH hQ => ?_)
  have hS : va_S A s.heap H [] := by rw [hH]; exact va_S.rf
  have hP : va_P (dC, dI) vwCl [(bo, .inr (5, [.ref q, .ref mk, .ref ka, .ref cs])), (ka, .inl (cK, 2, .inr (.inr (.inr (.inr gk))))), (k, .inr (1, [.ref kb, .int num, .ref kf, .ref ks, .ref kt])), (kb, .inl (cI, 160, .inl fb))] H := by rw [hH]; exact hP
  refine lv_iload_n hx hb dBS_keyByte_0 rfl (lv_at hl 1 rfl) ?_
  refine lv_iload_n hx hb dBS_keyByte_1 rfl (lv_at hl 2 rfl) ?_
  have hPc := hP.sub (ws' := []) [] rfl
  have hDc := hD.sub (ws' := []) [] (by decide) rfl
  have hKc := hK.sub (tys' := []) [] rfl
  have hFc := va_free (wc := []) hD hS hA [] rfl
  refine va_callv (va_runS (As := [.int (nI x9), .int (nI i9)]) (rest := []) ⟨hx, hb, hml, hown, hts⟩ (c_BS_requireKeyByte_y l dC dI H.size x9 i9 hx9 hi9) (va_cwS 2 hts (wT_3 w_m_BS_67 w_t_BS_requireKeyByte w_n_BS w_c_BS_requireKeyByte) rfl rfl rfl (by decide +kernel) ⟨Nat.le_of_ble_eq_true rfl, Nat.le_of_ble_eq_true rfl⟩) ⟨fun a U g mk q => by obtain ⟨q0, q1, qP, qK, qD⟩ := q; exact ⟨q0, q1, qP, va_K.moved (u := U) (U := U.calling g mk a) (Vm.Alike.refl U.vm) qK, qD⟩, fun U hU hW => ⟨rfl, by rw [hU], by rw [hU]; exact hPc, va_K.moved hW.alike hKc, hDc.weaken (fun _ _ _ _ => trivial)⟩⟩ rfl rfl hl.1 rfl (lv_room (Nat.le_of_ble_eq_true rfl)) dBS_keyByte_2 ⟨Nat.zero_le _, Nat.zero_le _⟩) hS (fun q _ h => hFc q h) hFc (fun u t H1 locs ht hvm hw hB hz1 hk1 hS => ?_)
  obtain ⟨hP1, hK1, hD1⟩ := hB
  rw [ht] at hP1
  have hK1 := va_K.moved hvm.symm hK1
  obtain ⟨hP, hD⟩ := va_join (wr := [(bo, .inr (5, [.ref q, .ref mk, .ref ka, .ref cs])), (ka, .inl (cK, 2, .inr (.inr (.inr (.inr gk))))), (k, .inr (1, [.ref kb, .int num, .ref kf, .ref ks, .ref kt])), (kb, .inl (cI, 160, .inl fb))]) (w1 := []) hP hD [] [0, 1, 2, 3] rfl rfl (by decide) (by decide) hk1 hFc hP1 hD1
  generalize H1 = H at hP hS ⊢
  have hP : va_P (dC, dI) vwCl [(bo, .inr (5, [.ref q, .ref mk, .ref ka, .ref cs])), (ka, .inl (cK, 2, .inr (.inr (.inr (.inr gk))))), (k, .inr (1, [.ref kb, .int num, .ref kf, .ref ks, .ref kt])), (kb, .inl (cI, 160, .inl fb))] H := hP
  have hD : va_D A [(bo, .inr (5, [.ref q, .ref mk, .ref ka, .ref cs])), (ka, .inl (cK, 2, .inr (.inr (.inr (.inr gk))))), (k, .inr (1, [.ref kb, .int num, .ref kf, .ref ks, .ref kt])), (kb, .inl (cI, 160, .inl fb))] := hD
  refine lv_aload_n hx hb dBS_keyByte_5 rfl (lv_at hl 0 rfl) ?_
  refine va_get (D := (dC, dI)) (ci := 5) (v := .ref ka) (C := RBS) (T := TBS) (N := 4) hx hb hts in_BS hown hK hP 0 rfl rfl 2 (by decide) (hts _ w_f_BS_28) (fun _ h9 => h9) rfl dBS_keyByte_6 ?_
  refine lv_iload_n hx hb dBS_keyByte_9 rfl (lv_at hl 1 rfl) ?_
  refine xa_aald hx hb hK hP 1 1 rfl rfl rfl x9 (by omega) (by decide) dBS_keyByte_10 ?_
  refine xt_v (y := .ref k) (by rw [hgk]; rfl) ?_
  refine va_get (D := (dC, dI)) (ci := 1) (v := .ref kb) (C := RKY) (T := TKY) (N := 5) hx hb hts in_KY hown hK hP 2 rfl rfl 0 (by decide) (hts _ w_f_BS_71) (fun _ h9 => h9) rfl dBS_keyByte_11 ?_
  refine lv_iload_n hx hb dBS_keyByte_14 rfl (lv_at hl 2 rfl) ?_
  refine xa_iald hx hb hK hP 3 0 rfl rfl i9 (by omega) (by decide) dBS_keyByte_15 ?_
  have hP : va_P (dC, dI) vwCl [(bo, .inr (5, [.ref q, .ref mk, .ref ka, .ref cs])), (ka, .inl (cK, 2, .inr (.inr (.inr (.inr gk))))), (k, .inr (1, [.ref kb, .int num, .ref kf, .ref ks, .ref kt])), (kb, .inl (cI, 160, .inl fb))] H := hP
  have hD : va_D A [(bo, .inr (5, [.ref q, .ref mk, .ref ka, .ref cs])), (ka, .inl (cK, 2, .inr (.inr (.inr (.inr gk))))), (k, .inr (1, [.ref kb, .int num, .ref kf, .ref ks, .ref kt])), (kb, .inl (cI, 160, .inl fb))] := hD
  subst hQ
  exact W.iret (v := fb i9) hx hb hr (fun t ht hW => ⟨⟨fb i9, (), rfl, rfl, by rw [ht]; exact hP, va_K.moved hW.alike hK, hD⟩, hS.F ht⟩) hS.2.2 dBS_keyByte_16
set_option maxHeartbeats 4000000 in
set_option maxRecDepth 100000 in
theorem c_BS_setKeyByte_y (l : Launch) (dC : Nat → ClassId) (dI : Nat → Nat → Nat) (sz : Nat) (bo q mk ka cs : Nat) (k kb kf ks kt : Nat) (num : Int32) (cI : ClassId) (cK : ClassId) (gk : Nat → Option Nat) (cL : ClassId) (fb : Nat → Int32) (ff fs : Nat → Int64) (ft : Nat → Int32) (x9 i9 : Nat) (x : Int32) (hx9 : x9 < 2) (hi9 : i9 < 160) (hgk : gk x9 = some k) : Met l yBS_setKeyByte wsBS_setKeyByte { frames := 7, cells := 0, slots := 0, locals := 151 } (va_Pc [.ref bo, .int (nI x9), .int (nI i9), .int x] (fun U => U.heap.size = sz ∧ va_P (dC, dI) vwCl [(bo, .inr (5, [.ref q, .ref mk, .ref ka, .ref cs])), (ka, .inl (cK, 2, .inr (.inr (.inr (.inr gk))))), (k, .inr (1, [.ref kb, .int num, .ref kf, .ref ks, .ref kt])), (kb, .inl (cI, 160, .inl fb)), (kf, .inl (cL, 512, .inr (.inl ff))), (ks, .inl (cL, 512, .inr (.inl fs))), (kt, .inl (cI, 512, .inl ft))] U.heap ∧ va_K (dC, dI) vwCl [(cI, .int), (cL, .long), (cK, .object "BlindShelf$Key")] U ∧ va_D (fun _ => True) [(bo, .inr (5, [.ref q, .ref mk, .ref ka, .ref cs])), (ka, .inl (cK, 2, .inr (.inr (.inr (.inr gk))))), (k, .inr (1, [.ref kb, .int num, .ref kf, .ref ks, .ref kt])), (kb, .inl (cI, 160, .inl fb)), (kf, .inl (cL, 512, .inr (.inl ff))), (ks, .inl (cL, 512, .inr (.inl fs))), (kt, .inl (cI, 512, .inl ft))])) (va_Qv (fun (_ : Unit) => True) (fun (_ : Unit) t => va_P (dC, dI) vwCl [(bo, .inr (5, [.ref q, .ref mk, .ref ka, .ref cs])), (ka, .inl (cK, 2, .inr (.inr (.inr (.inr gk))))), (k, .inr (1, [.ref kb, .int num, .ref kf, .ref ks, .ref kt])), (kb, .inl (cI, 160, .inl (upd fb i9 (x &&& nI 255)))), (kf, .inl (cL, 512, .inr (.inl (vp_updL ff 1 (bs_rd (upd fb i9 (x &&& nI 255)) 0 8))))), (ks, .inl (cL, 512, .inr (.inl (vp_updL fs 1 (bs_rd (upd fb i9 (x &&& nI 255)) 8 8))))), (kt, .inl (cI, 512, .inl (upd (bs_fill ft (-1) 512) 1 num)))] t.heap ∧ va_K (dC, dI) vwCl [(cI, .int), (cL, .long), (cK, .object "BlindShelf$Key")] t ∧ va_D (va_A [(bo, .inr (5, [.ref q, .ref mk, .ref ka, .ref cs])), (ka, .inl (cK, 2, .inr (.inr (.inr (.inr gk))))), (k, .inr (1, [.ref kb, .int num, .ref kf, .ref ks, .ref kt])), (kb, .inl (cI, 160, .inl fb)), (kf, .inl (cL, 512, .inr (.inl ff))), (ks, .inl (cL, 512, .inr (.inl fs))), (kt, .inl (cI, 512, .inl ft))] sz) [(bo, .inr (5, [.ref q, .ref mk, .ref ka, .ref cs])), (ka, .inl (cK, 2, .inr (.inr (.inr (.inr gk))))), (k, .inr (1, [.ref kb, .int num, .ref kf, .ref ks, .ref kt])), (kb, .inl (cI, 160, .inl (upd fb i9 (x &&& nI 255)))), (kf, .inl (cL, 512, .inr (.inl (vp_updL ff 1 (bs_rd (upd fb i9 (x &&& nI 255)) 0 8))))), (ks, .inl (cL, 512, .inr (.inl (vp_updL fs 1 (bs_rd (upd fb i9 (x &&& nI 255)) 8 8))))), (kt, .inl (cI, 512, .inl (upd (bs_fill ft (-1) 512) 1 num)))]) (va_A [(bo, .inr (5, [.ref q, .ref mk, .ref ka, .ref cs])), (ka, .inl (cK, 2, .inr (.inr (.inr (.inr gk))))), (k, .inr (1, [.ref kb, .int num, .ref kf, .ref ks, .ref kt])), (kb, .inl (cI, 160, .inl fb)), (kf, .inl (cL, 512, .inr (.inl ff))), (ks, .inl (cL, 512, .inr (.inl fs))), (kt, .inl (cI, 512, .inl ft))] sz)) 0 0 (va_A [(bo, .inr (5, [.ref q, .ref mk, .ref ka, .ref cs])), (ka, .inl (cK, 2, .inr (.inr (.inr (.inr gk))))), (k, .inr (1, [.ref kb, .int num, .ref kf, .ref ks, .ref kt])), (kb, .inl (cI, 160, .inl fb)), (kf, .inl (cL, 512, .inr (.inl ff))), (ks, .inl (cL, 512, .inr (.inl fs))), (kt, .inl (cI, 512, .inl ft))] sz) := by
  refine Met.ofW (cc := cBS_setKeyByte) (maxL := 4) (ret := none) (by decide) rfl ?_
  intro p e s m args below meth c s₁ Bo9 hml hv
  obtain ⟨rfl, hsz, hP, hK, hD0⟩ := hv
  have hx := Bo9.exec
  have hb := Bo9.bytes
  have hr := Bo9.returns
  have hts := fun w (h : w ∈ wT) => atoms_spec (ws := wsBS_setKeyByte) Bo9.pre w (List.mem_cons_of_mem _ h)
  have hown : s.vm.findClass RBS = some m.cls := findClass_of_methodNamed Bo9.named
  have hlocks := Bo9.notSynchronized
  subst hsz
  have hD := hD0.self (sz := s.heap.size)
  generalize hAe : va_A [(bo, .inr (5, [.ref q, .ref mk, .ref ka, .ref cs])), (ka, .inl (cK, 2, .inr (.inr (.inr (.inr gk))))), (k, .inr (1, [.ref kb, .int num, .ref kf, .ref ks, .ref kt])), (kb, .inl (cI, 160, .inl fb)), (kf, .inl (cL, 512, .inr (.inl ff))), (ks, .inl (cL, 512, .inr (.inl fs))), (kt, .inl (cI, 512, .inl ft))] s.heap.size = A at hD ⊢
  have hA : ∀ q : Nat, s.heap.size ≤ q → A q := fun q h => by rw [← hAe]; exact Or.inr h
  have hl := lv_entry ([.ref bo, .int (nI x9), .int (nI i9), .int x]) (n := 4) (Nat.le_of_ble_eq_true rfl)
  rw [lg_entry_eq]
  generalize (lg_sl ([.ref bo, .int (nI x9), .int (nI i9), .int x]) ++ List.replicate (4 - (lg_sl ([.ref bo, .int (nI x9), .int (nI i9), .int x])).length) Slot.unset).toArray = ls at hl ⊢
  have hl : lv_has ls 4 [(0, .ref bo), (1, .int (nI x9)), (2, .int (nI i9)), (3, .int x)] := hl
  refine xs_q (fun H Q hH hQ => ?_)
  have hS : va_S A s.heap H [] := by rw [hH]; exact va_S.rf
  have hP : va_P (dC, dI) vwCl [(bo, .inr (5, [.ref q, .ref mk, .ref ka, .ref cs])), (ka, .inl (cK, 2, .inr (.inr (.inr (.inr gk))))), (k, .inr (1, [.ref kb, .int num, .ref kf, .ref ks, .ref kt])), (kb, .inl (cI, 160, .inl fb)), (kf, .inl (cL, 512, .inr (.inl ff))), (ks, .inl (cL, 512, .inr (.inl fs))), (kt, .inl (cI, 512, .inl ft))] H := by rw [hH]; exact hP
  refine lv_iload_n hx hb dBS_setKeyByte_0 rfl (lv_at hl 1 rfl) ?_
  refine lv_iload_n hx hb dBS_setKeyByte_1 rfl (lv_at hl 2 rfl) ?_
  have hPc := hP.sub (ws' := []) [] rfl
  have hDc := hD.sub (ws' := []) [] (by decide) rfl
  have hKc := hK.sub (tys' := []) [] rfl
  have hFc := va_free (wc := []) hD hS hA [] rfl
  refine va_callv (va_runS (As := [.int (nI x9), .int (nI i9)]) (rest := []) ⟨hx, hb, hml, hown, hts⟩ (c_BS_requireKeyByte_y l dC dI H.size x9 i9 hx9 hi9) (va_cwS 2 hts (wT_3 w_m_BS_67 w_t_BS_requireKeyByte w_n_BS w_c_BS_requireKeyByte) rfl rfl rfl (by decide +kernel) ⟨Nat.le_of_ble_eq_true rfl, Nat.le_of_ble_eq_true rfl⟩) ⟨fun a U g mk q => by obtain ⟨q0, q1, qP, qK, qD⟩ := q; exact ⟨q0, q1, qP, va_K.moved (u := U) (U := U.calling g mk a) (Vm.Alike.refl U.vm) qK, qD⟩, fun U hU hW => ⟨rfl, by rw [hU], by rw [hU]; exact hPc, va_K.moved hW.alike hKc, hDc.weaken (fun _ _ _ _ => trivial)⟩⟩ rfl rfl hl.1 rfl (lv_room (Nat.le_of_ble_eq_true rfl)) dBS_setKeyByte_2 ⟨Nat.zero_le _, Nat.zero_le _⟩) hS (fun q _ h => hFc q h) hFc (fun u t H1 locs ht hvm hw hB hz1 hk1 hS => ?_)
  obtain ⟨hP1, hK1, hD1⟩ := hB
  rw [ht] at hP1
  have hK1 := va_K.moved hvm.symm hK1
  obtain ⟨hP, hD⟩ := va_join (wr := [(bo, .inr (5, [.ref q, .ref mk, .ref ka, .ref cs])), (ka, .inl (cK, 2, .inr (.inr (.inr (.inr gk))))), (k, .inr (1, [.ref kb, .int num, .ref kf, .ref ks, .ref kt])), (kb, .inl (cI, 160, .inl fb)), (kf, .inl (cL, 512, .inr (.inl ff))), (ks, .inl (cL, 512, .inr (.inl fs))), (kt, .inl (cI, 512, .inl ft))]) (w1 := []) hP hD [] [0, 1, 2, 3, 4, 5, 6] rfl rfl (by decide) (by decide) hk1 hFc hP1 hD1
  generalize H1 = H at hP hS ⊢
  have hP : va_P (dC, dI) vwCl [(bo, .inr (5, [.ref q, .ref mk, .ref ka, .ref cs])), (ka, .inl (cK, 2, .inr (.inr (.inr (.inr gk))))), (k, .inr (1, [.ref kb, .int num, .ref kf, .ref ks, .ref kt])), (kb, .inl (cI, 160, .inl fb)), (kf, .inl (cL, 512, .inr (.inl ff))), (ks, .inl (cL, 512, .inr (.inl fs))), (kt, .inl (cI, 512, .inl ft))] H := hP
  have hD : va_D A [(bo, .inr (5, [.ref q, .ref mk, .ref ka, .ref cs])), (ka, .inl (cK, 2, .inr (.inr (.inr (.inr gk))))), (k, .inr (1, [.ref kb, .int num, .ref kf, .ref ks, .ref kt])), (kb, .inl (cI, 160, .inl fb)), (kf, .inl (cL, 512, .inr (.inl ff))), (ks, .inl (cL, 512, .inr (.inl fs))), (kt, .inl (cI, 512, .inl ft))] := hD
  refine lv_aload_n hx hb dBS_setKeyByte_5 rfl (lv_at hl 0 rfl) ?_
  refine va_get (D := (dC, dI)) (ci := 5) (v := .ref ka) (C := RBS) (T := TBS) (N := 4) hx hb hts in_BS hown hK hP 0 rfl rfl 2 (by decide) (hts _ w_f_BS_28) (fun _ h9 => h9) rfl dBS_setKeyByte_6 ?_
  refine lv_iload_n hx hb dBS_setKeyByte_9 rfl (lv_at hl 1 rfl) ?_
  refine xa_aald hx hb hK hP 1 2 rfl rfl rfl x9 (by omega) (by decide) dBS_setKeyByte_10 ?_
  refine xt_v (y := .ref k) (by rw [hgk]; rfl) ?_
  refine lv_iload_n hx hb dBS_setKeyByte_11 rfl (lv_at hl 2 rfl) ?_
  refine lv_iload_n hx hb dBS_setKeyByte_12 rfl (lv_at hl 3 rfl) ?_
  have hPc := hP.sub (ws' := [(k, .inr (1, [.ref kb, .int num, .ref kf, .ref ks, .ref kt])), (kb, .inl (cI, 160, .inl fb)), (kf, .inl (cL, 512, .inr (.inl ff))), (ks, .inl (cL, 512, .inr (.inl fs))), (kt, .inl (cI, 512, .inl ft))]) [2, 3, 4, 5, 6] rfl
  have hDc := hD.sub (ws' := [(k, .inr (1, [.ref kb, .int num, .ref kf, .ref ks, .ref kt])), (kb, .inl (cI, 160, .inl fb)), (kf, .inl (cL, 512, .inr (.inl ff))), (ks, .inl (cL, 512, .inr (.inl fs))), (kt, .inl (cI, 512, .inl ft))]) [2, 3, 4, 5, 6] (by decide) rfl
  have hKc := hK.sub (tys' := [(cI, .int), (cL, .long)]) [0, 1] rfl
  have hFc := va_free (wc := [(k, .inr (1, [.ref kb, .int num, .ref kf, .ref ks, .ref kt])), (kb, .inl (cI, 160, .inl fb)), (kf, .inl (cL, 512, .inr (.inl ff))), (ks, .inl (cL, 512, .inr (.inl fs))), (kt, .inl (cI, 512, .inl ft))]) hD hS hA [2, 3, 4, 5, 6] rfl
  refine va_callv (va_runV (C := RKY) (As := [.int (nI i9), .int x]) (rest := []) ⟨hx, hb, hml, hown, hts⟩ (c_KY_setByte l dC dI H.size k kb kf ks kt num cI cL fb ff fs ft i9 x hi9) (cwV (C := RKY) 2 hts (wT_4 w_m_BS_75 w_i_KY_setByte w_s_KY_setByte w_n_KY w_c_KY_setByte) rfl rfl rfl (by decide +kernel) ⟨Nat.le_of_ble_eq_true rfl, Nat.le_of_ble_eq_true rfl⟩) ⟨fun a U g mk q => by obtain ⟨q0, q1, qP, qK, qD⟩ := q; exact ⟨q0, q1, qP, va_K.moved (u := U) (U := U.calling g mk a) (Vm.Alike.refl U.vm) qK, qD⟩, va_recv hK hP (q0 := 2) (ci := 1) (q := (RKY, TKY, 5)) rfl rfl, fun U hU hW => ⟨rfl, by rw [hU], by rw [hU]; exact hPc, va_K.moved hW.alike hKc, hDc.weaken (fun _ _ _ _ => trivial)⟩⟩ rfl rfl hl.1 rfl (lv_room (Nat.le_of_ble_eq_true rfl)) dBS_setKeyByte_13 ⟨Nat.zero_le _, Nat.zero_le _⟩) hS (fun q _ h => hFc q h) hFc (fun u t H1 locs ht hvm hw hB hz1 hk1 hS => ?_)
  obtain ⟨hP1, hK1, hD1⟩ := hB
  rw [ht] at hP1
  have hK1 := va_K.moved hvm.symm hK1
  obtain ⟨hP, hD⟩ := va_join (wr := [(bo, .inr (5, [.ref q, .ref mk, .ref ka, .ref cs])), (ka, .inl (cK, 2, .inr (.inr (.inr (.inr gk)))))]) (w1 := [(k, .inr (1, [.ref kb, .int num, .ref kf, .ref ks, .ref kt])), (kb, .inl (cI, 160, .inl (upd fb i9 (x &&& nI 255)))), (kf, .inl (cL, 512, .inr (.inl (vp_updL ff 1 (bs_rd (upd fb i9 (x &&& nI 255)) 0 8))))), (ks, .inl (cL, 512, .inr (.inl (vp_updL fs 1 (bs_rd (upd fb i9 (x &&& nI 255)) 8 8))))), (kt, .inl (cI, 512, .inl (upd (bs_fill ft (-1) 512) 1 num)))]) hP hD [2, 3, 4, 5, 6] [0, 1] rfl rfl (by decide) (by decide) hk1 hFc hP1 hD1
  generalize H1 = H at hP hS ⊢
  have hP : va_P (dC, dI) vwCl [(bo, .inr (5, [.ref q, .ref mk, .ref ka, .ref cs])), (ka, .inl (cK, 2, .inr (.inr (.inr (.inr gk))))), (k, .inr (1, [.ref kb, .int num, .ref kf, .ref ks, .ref kt])), (kb, .inl (cI, 160, .inl (upd fb i9 (x &&& nI 255)))), (kf, .inl (cL, 512, .inr (.inl (vp_updL ff 1 (bs_rd (upd fb i9 (x &&& nI 255)) 0 8))))), (ks, .inl (cL, 512, .inr (.inl (vp_updL fs 1 (bs_rd (upd fb i9 (x &&& nI 255)) 8 8))))), (kt, .inl (cI, 512, .inl (upd (bs_fill ft (-1) 512) 1 num)))] H := hP
  have hD : va_D A [(bo, .inr (5, [.ref q, .ref mk, .ref ka, .ref cs])), (ka, .inl (cK, 2, .inr (.inr (.inr (.inr gk))))), (k, .inr (1, [.ref kb, .int num, .ref kf, .ref ks, .ref kt])), (kb, .inl (cI, 160, .inl (upd fb i9 (x &&& nI 255)))), (kf, .inl (cL, 512, .inr (.inl (vp_updL ff 1 (bs_rd (upd fb i9 (x &&& nI 255)) 0 8))))), (ks, .inl (cL, 512, .inr (.inl (vp_updL fs 1 (bs_rd (upd fb i9 (x &&& nI 255)) 8 8))))), (kt, .inl (cI, 512, .inl (upd (bs_fill ft (-1) 512) 1 num)))] := hD
  have hP : va_P (dC, dI) vwCl [(bo, .inr (5, [.ref q, .ref mk, .ref ka, .ref cs])), (ka, .inl (cK, 2, .inr (.inr (.inr (.inr gk))))), (k, .inr (1, [.ref kb, .int num, .ref kf, .ref ks, .ref kt])), (kb, .inl (cI, 160, .inl (upd fb i9 (x &&& nI 255)))), (kf, .inl (cL, 512, .inr (.inl (vp_updL ff 1 (bs_rd (upd fb i9 (x &&& nI 255)) 0 8))))), (ks, .inl (cL, 512, .inr (.inl (vp_updL fs 1 (bs_rd (upd fb i9 (x &&& nI 255)) 8 8))))), (kt, .inl (cI, 512, .inl (upd (bs_fill ft (-1) 512) 1 num)))] H := hP
  have hD : va_D A [(bo, .inr (5, [.ref q, .ref mk, .ref ka, .ref cs])), (ka, .inl (cK, 2, .inr (.inr (.inr (.inr gk))))), (k, .inr (1, [.ref kb, .int num, .ref kf, .ref ks, .ref kt])), (kb, .inl (cI, 160, .inl (upd fb i9 (x &&& nI 255)))), (kf, .inl (cL, 512, .inr (.inl (vp_updL ff 1 (bs_rd (upd fb i9 (x &&& nI 255)) 0 8))))), (ks, .inl (cL, 512, .inr (.inl (vp_updL fs 1 (bs_rd (upd fb i9 (x &&& nI 255)) 8 8))))), (kt, .inl (cI, 512, .inl (upd (bs_fill ft (-1) 512) 1 num)))] := hD
  subst hQ
  exact W.vret hx hb hr (fun t ht hW => ⟨⟨(), rfl, trivial, by rw [ht]; exact hP, va_K.moved hW.alike hK, hD⟩, hS.F ht⟩) hS.2.2 dBS_setKeyByte_16
