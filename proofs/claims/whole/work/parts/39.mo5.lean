/-! BlindShelfModel: the tests, keyByte, setKeyByte, keyFault, choice, share, put, combine -/
set_option maxHeartbeats 4000000 in
set_option maxRecDepth 100000 in
theorem c_MO_isByte (l : Launch) (dC : Nat → ClassId) (dI : Nat → Nat → Nat) (sz : Nat) (x y : Int32)  : Met l yMO_isByte wsMO_isByte { frames := 0, cells := 0, slots := 0, locals := 0 } (va_Pc [.int x, .int y] (fun U => U.heap.size = sz ∧ va_P (dC, dI) vwCl [] U.heap ∧ va_K (dC, dI) vwCl [] U ∧ va_D (fun _ => True) [])) (va_Qi (fun (r : Int32) (_ : Unit) => r = bs_z (bs_ii x 2 && bs_ii y 160)) (fun (_ : Unit) t => va_P (dC, dI) vwCl [] t.heap ∧ va_K (dC, dI) vwCl [] t ∧ va_D (va_A [] sz) []) (va_A [] sz)) 0 0 (va_A [] sz) := by
  refine Met.ofW (cc := cMO_isByte) (maxL := 2) (ret := (some .boolean)) (by decide) rfl ?_
  intro p e s m args below meth c s₁ Bo9 hml hv
  obtain ⟨rfl, hsz, hP, hK, hD0⟩ := hv
  have hx := Bo9.exec
  have hb := Bo9.bytes
  have hr := Bo9.returns
  have hts := fun w (h : w ∈ wT) => atoms_spec (ws := wsMO_isByte) Bo9.pre w (List.mem_cons_of_mem _ h)
  have hown : s.vm.findClass RMO = some m.cls := findClass_of_methodNamed Bo9.named
  have hlocks := Bo9.notSynchronized
  subst hsz
  have hD := hD0.self (sz := s.heap.size)
  generalize hAe : va_A [] s.heap.size = A at hD ⊢
  have hA : ∀ q : Nat, s.heap.size ≤ q → A q := fun q h => by rw [← hAe]; exact Or.inr h
  have hl := lv_entry ([.int x, .int y]) (n := 2) (Nat.le_of_ble_eq_true rfl)
  rw [lg_entry_eq]
  generalize (lg_sl ([.int x, .int y]) ++ List.replicate (2 - (lg_sl ([.int x, .int y])).length) Slot.unset).toArray = ls at hl ⊢
  have hl : lv_has ls 2 [(0, .int x), (1, .int y)] := hl
  refine xs_q (fun H Q hH hQ => ?_)
  have hS : va_S A s.heap H [] := by rw [hH]; exact va_S.rf
  have hP : va_P (dC, dI) vwCl [] H := by rw [hH]; exact hP
  refine lv_iload_n hx hb dMO_isByte_0 rfl (lv_at hl 0 rfl) ?_
  refine lv_if_lt (tgt := 24) hx hb dMO_isByte_1 (by decide) (fun h1 => ?_) (fun h1 => ?_)
  · refine lv_iconst (v := nI 0) hx hb dMO_isByte_24 (by decide) ?_
    refine xt_i (y := bs_z (bs_ii x 2 && bs_ii y 160)) (by rw [bs_ii_lt h1]; rfl) ?_
    have hP : va_P (dC, dI) vwCl [] H := hP
    have hD : va_D A [] := hD
    subst hQ
    exact W.zret (v := bs_z (bs_ii x 2 && bs_ii y 160)) hx hb hr (bs_z_n _) (fun t ht hW => ⟨⟨bs_z (bs_ii x 2 && bs_ii y 160), (), rfl, rfl, by rw [ht]; exact hP, va_K.moved hW.alike hK, hD⟩, hS.F ht⟩) hS.2.2 dMO_isByte_25
  · refine lv_iload_n hx hb dMO_isByte_4 rfl (lv_at hl 0 rfl) ?_
    refine lv_iconst (v := nI 2) hx hb dMO_isByte_5 (by decide) ?_
    refine lv_icmp_ge (tgt := 24) hx hb dMO_isByte_6 (by decide) (fun h2 => ?_) (fun h2 => ?_)
    · refine lv_iconst (v := nI 0) hx hb dMO_isByte_24 (by decide) ?_
      refine xt_i (y := bs_z (bs_ii x 2 && bs_ii y 160)) (by rw [bs_ii_ge (by decide) h2]; rfl) ?_
      have hP : va_P (dC, dI) vwCl [] H := hP
      have hD : va_D A [] := hD
      subst hQ
      exact W.zret (v := bs_z (bs_ii x 2 && bs_ii y 160)) hx hb hr (bs_z_n _) (fun t ht hW => ⟨⟨bs_z (bs_ii x 2 && bs_ii y 160), (), rfl, rfl, by rw [ht]; exact hP, va_K.moved hW.alike hK, hD⟩, hS.F ht⟩) hS.2.2 dMO_isByte_25
    · refine lv_iload_n hx hb dMO_isByte_9 rfl (lv_at hl 1 rfl) ?_
      refine lv_if_lt (tgt := 24) hx hb dMO_isByte_10 (by decide) (fun h3 => ?_) (fun h3 => ?_)
      · refine lv_iconst (v := nI 0) hx hb dMO_isByte_24 (by decide) ?_
        refine xt_i (y := bs_z (bs_ii x 2 && bs_ii y 160)) (by rw [bs_ii_lt (x := y) h3, Bool.and_false]; rfl) ?_
        have hP : va_P (dC, dI) vwCl [] H := hP
        have hD : va_D A [] := hD
        subst hQ
        exact W.zret (v := bs_z (bs_ii x 2 && bs_ii y 160)) hx hb hr (bs_z_n _) (fun t ht hW => ⟨⟨bs_z (bs_ii x 2 && bs_ii y 160), (), rfl, rfl, by rw [ht]; exact hP, va_K.moved hW.alike hK, hD⟩, hS.F ht⟩) hS.2.2 dMO_isByte_25
      · refine lv_iload_n hx hb dMO_isByte_13 rfl (lv_at hl 1 rfl) ?_
        refine lv_sipush (v := nI 160) hx hb dMO_isByte_14 (by decide) ?_
        refine lv_icmp_ge (tgt := 24) hx hb dMO_isByte_17 (by decide) (fun h4 => ?_) (fun h4 => ?_)
        · refine lv_iconst (v := nI 0) hx hb dMO_isByte_24 (by decide) ?_
          refine xt_i (y := bs_z (bs_ii x 2 && bs_ii y 160)) (by rw [bs_ii_ge (x := y) (by decide) h4, Bool.and_false]; rfl) ?_
          have hP : va_P (dC, dI) vwCl [] H := hP
          have hD : va_D A [] := hD
          subst hQ
          exact W.zret (v := bs_z (bs_ii x 2 && bs_ii y 160)) hx hb hr (bs_z_n _) (fun t ht hW => ⟨⟨bs_z (bs_ii x 2 && bs_ii y 160), (), rfl, rfl, by rw [ht]; exact hP, va_K.moved hW.alike hK, hD⟩, hS.F ht⟩) hS.2.2 dMO_isByte_25
        · refine lv_iconst (v := nI 1) hx hb dMO_isByte_20 (by decide) ?_
          refine lv_goto (tgt := 25) hx hb dMO_isByte_21 (by decide) ?_
          refine xt_i (y := bs_z (bs_ii x 2 && bs_ii y 160)) (by rw [bs_ii_y (by decide) h1 h2, bs_ii_y (by decide) h3 h4]; rfl) ?_
          have hP : va_P (dC, dI) vwCl [] H := hP
          have hD : va_D A [] := hD
          subst hQ
          exact W.zret (v := bs_z (bs_ii x 2 && bs_ii y 160)) hx hb hr (bs_z_n _) (fun t ht hW => ⟨⟨bs_z (bs_ii x 2 && bs_ii y 160), (), rfl, rfl, by rw [ht]; exact hP, va_K.moved hW.alike hK, hD⟩, hS.F ht⟩) hS.2.2 dMO_isByte_25
set_option maxHeartbeats 4000000 in
set_option maxRecDepth 100000 in
theorem c_MO_isServer (l : Launch) (dC : Nat → ClassId) (dI : Nat → Nat → Nat) (sz : Nat) (x : Int32)  : Met l yMO_isServer wsMO_isServer { frames := 0, cells := 0, slots := 0, locals := 0 } (va_Pc [.int x] (fun U => U.heap.size = sz ∧ va_P (dC, dI) vwCl [] U.heap ∧ va_K (dC, dI) vwCl [] U ∧ va_D (fun _ => True) [])) (va_Qi (fun (r : Int32) (_ : Unit) => r = bs_z (bs_ii x 2)) (fun (_ : Unit) t => va_P (dC, dI) vwCl [] t.heap ∧ va_K (dC, dI) vwCl [] t ∧ va_D (va_A [] sz) []) (va_A [] sz)) 0 0 (va_A [] sz) := by
  refine Met.ofW (cc := cMO_isServer) (maxL := 1) (ret := (some .boolean)) (by decide) rfl ?_
  intro p e s m args below meth c s₁ Bo9 hml hv
  obtain ⟨rfl, hsz, hP, hK, hD0⟩ := hv
  have hx := Bo9.exec
  have hb := Bo9.bytes
  have hr := Bo9.returns
  have hts := fun w (h : w ∈ wT) => atoms_spec (ws := wsMO_isServer) Bo9.pre w (List.mem_cons_of_mem _ h)
  have hown : s.vm.findClass RMO = some m.cls := findClass_of_methodNamed Bo9.named
  have hlocks := Bo9.notSynchronized
  subst hsz
  have hD := hD0.self (sz := s.heap.size)
  generalize hAe : va_A [] s.heap.size = A at hD ⊢
  have hA : ∀ q : Nat, s.heap.size ≤ q → A q := fun q h => by rw [← hAe]; exact Or.inr h
  have hl := lv_entry ([.int x]) (n := 1) (Nat.le_of_ble_eq_true rfl)
  rw [lg_entry_eq]
  generalize (lg_sl ([.int x]) ++ List.replicate (1 - (lg_sl ([.int x])).length) Slot.unset).toArray = ls at hl ⊢
  have hl : lv_has ls 1 [(0, .int x)] := hl
  refine xs_q (fun H Q hH hQ => ?_)
  have hS : va_S A s.heap H [] := by rw [hH]; exact va_S.rf
  have hP : va_P (dC, dI) vwCl [] H := by rw [hH]; exact hP
  refine lv_iload_n hx hb dMO_isServer_0 rfl (lv_at hl 0 rfl) ?_
  refine lv_if_eq (tgt := 9) hx hb dMO_isServer_1 (by decide) (fun h1 => ?_) (fun h1 => ?_)
  · refine lv_iconst (v := nI 1) hx hb dMO_isServer_9 (by decide) ?_
    refine lv_goto (tgt := 14) hx hb dMO_isServer_10 (by decide) ?_
    refine xt_i (y := bs_z (bs_ii x 2)) (by rw [h1]; decide) ?_
    have hP : va_P (dC, dI) vwCl [] H := hP
    have hD : va_D A [] := hD
    subst hQ
    exact W.zret (v := bs_z (bs_ii x 2)) hx hb hr (bs_z_n _) (fun t ht hW => ⟨⟨bs_z (bs_ii x 2), (), rfl, rfl, by rw [ht]; exact hP, va_K.moved hW.alike hK, hD⟩, hS.F ht⟩) hS.2.2 dMO_isServer_14
  · refine lv_iload_n hx hb dMO_isServer_4 rfl (lv_at hl 0 rfl) ?_
    refine lv_iconst (v := nI 1) hx hb dMO_isServer_5 (by decide) ?_
    refine lv_icmp_ne (tgt := 13) hx hb dMO_isServer_6 (by decide) (fun h2 => ?_) (fun h2 => ?_)
    · refine lv_iconst (v := nI 0) hx hb dMO_isServer_13 (by decide) ?_
      refine xt_i (y := bs_z (bs_ii x 2)) (by rw [bs_ii_01 h1 h2]; rfl) ?_
      have hP : va_P (dC, dI) vwCl [] H := hP
      have hD : va_D A [] := hD
      subst hQ
      exact W.zret (v := bs_z (bs_ii x 2)) hx hb hr (bs_z_n _) (fun t ht hW => ⟨⟨bs_z (bs_ii x 2), (), rfl, rfl, by rw [ht]; exact hP, va_K.moved hW.alike hK, hD⟩, hS.F ht⟩) hS.2.2 dMO_isServer_14
    · refine lv_iconst (v := nI 1) hx hb dMO_isServer_9 (by decide) ?_
      refine lv_goto (tgt := 14) hx hb dMO_isServer_10 (by decide) ?_
      refine xt_i (y := bs_z (bs_ii x 2)) (by rw [h2, bs_ii_n (by decide) (by decide)]; rfl) ?_
      have hP : va_P (dC, dI) vwCl [] H := hP
      have hD : va_D A [] := hD
      subst hQ
      exact W.zret (v := bs_z (bs_ii x 2)) hx hb hr (bs_z_n _) (fun t ht hW => ⟨⟨bs_z (bs_ii x 2), (), rfl, rfl, by rw [ht]; exact hP, va_K.moved hW.alike hK, hD⟩, hS.F ht⟩) hS.2.2 dMO_isServer_14
set_option maxHeartbeats 4000000 in
set_option maxRecDepth 100000 in
theorem c_MO_isPlace (l : Launch) (dC : Nat → ClassId) (dI : Nat → Nat → Nat) (sz : Nat) (x : Int32)  : Met l yMO_isPlace wsMO_isPlace { frames := 0, cells := 0, slots := 0, locals := 0 } (va_Pc [.int x] (fun U => U.heap.size = sz ∧ va_P (dC, dI) vwCl [] U.heap ∧ va_K (dC, dI) vwCl [] U ∧ va_D (fun _ => True) [])) (va_Qi (fun (r : Int32) (_ : Unit) => r = bs_z (bs_ii x 256)) (fun (_ : Unit) t => va_P (dC, dI) vwCl [] t.heap ∧ va_K (dC, dI) vwCl [] t ∧ va_D (va_A [] sz) []) (va_A [] sz)) 0 0 (va_A [] sz) := by
  refine Met.ofW (cc := cMO_isPlace) (maxL := 1) (ret := (some .boolean)) (by decide) rfl ?_
  intro p e s m args below meth c s₁ Bo9 hml hv
  obtain ⟨rfl, hsz, hP, hK, hD0⟩ := hv
  have hx := Bo9.exec
  have hb := Bo9.bytes
  have hr := Bo9.returns
  have hts := fun w (h : w ∈ wT) => atoms_spec (ws := wsMO_isPlace) Bo9.pre w (List.mem_cons_of_mem _ h)
  have hown : s.vm.findClass RMO = some m.cls := findClass_of_methodNamed Bo9.named
  have hlocks := Bo9.notSynchronized
  subst hsz
  have hD := hD0.self (sz := s.heap.size)
  generalize hAe : va_A [] s.heap.size = A at hD ⊢
  have hA : ∀ q : Nat, s.heap.size ≤ q → A q := fun q h => by rw [← hAe]; exact Or.inr h
  have hl := lv_entry ([.int x]) (n := 1) (Nat.le_of_ble_eq_true rfl)
  rw [lg_entry_eq]
  generalize (lg_sl ([.int x]) ++ List.replicate (1 - (lg_sl ([.int x])).length) Slot.unset).toArray = ls at hl ⊢
  have hl : lv_has ls 1 [(0, .int x)] := hl
  refine xs_q (fun H Q hH hQ => ?_)
  have hS : va_S A s.heap H [] := by rw [hH]; exact va_S.rf
  have hP : va_P (dC, dI) vwCl [] H := by rw [hH]; exact hP
  refine lv_iload_n hx hb dMO_isPlace_0 rfl (lv_at hl 0 rfl) ?_
  refine lv_if_lt (tgt := 15) hx hb dMO_isPlace_1 (by decide) (fun h1 => ?_) (fun h1 => ?_)
  · refine lv_iconst (v := nI 0) hx hb dMO_isPlace_15 (by decide) ?_
    refine xt_i (y := bs_z (bs_ii x 256)) (by rw [bs_ii_lt h1]; rfl) ?_
    have hP : va_P (dC, dI) vwCl [] H := hP
    have hD : va_D A [] := hD
    subst hQ
    exact W.zret (v := bs_z (bs_ii x 256)) hx hb hr (bs_z_n _) (fun t ht hW => ⟨⟨bs_z (bs_ii x 256), (), rfl, rfl, by rw [ht]; exact hP, va_K.moved hW.alike hK, hD⟩, hS.F ht⟩) hS.2.2 dMO_isPlace_16
  · refine lv_iload_n hx hb dMO_isPlace_4 rfl (lv_at hl 0 rfl) ?_
    refine lv_sipush (v := nI 256) hx hb dMO_isPlace_5 (by decide) ?_
    refine lv_icmp_ge (tgt := 15) hx hb dMO_isPlace_8 (by decide) (fun h2 => ?_) (fun h2 => ?_)
    · refine lv_iconst (v := nI 0) hx hb dMO_isPlace_15 (by decide) ?_
      refine xt_i (y := bs_z (bs_ii x 256)) (by rw [bs_ii_ge (by decide) h2]; rfl) ?_
      have hP : va_P (dC, dI) vwCl [] H := hP
      have hD : va_D A [] := hD
      subst hQ
      exact W.zret (v := bs_z (bs_ii x 256)) hx hb hr (bs_z_n _) (fun t ht hW => ⟨⟨bs_z (bs_ii x 256), (), rfl, rfl, by rw [ht]; exact hP, va_K.moved hW.alike hK, hD⟩, hS.F ht⟩) hS.2.2 dMO_isPlace_16
    · refine lv_iconst (v := nI 1) hx hb dMO_isPlace_11 (by decide) ?_
      refine lv_goto (tgt := 16) hx hb dMO_isPlace_12 (by decide) ?_
      refine xt_i (y := bs_z (bs_ii x 256)) (by rw [bs_ii_y (by decide) h1 h2]; rfl) ?_
      have hP : va_P (dC, dI) vwCl [] H := hP
      have hD : va_D A [] := hD
      subst hQ
      exact W.zret (v := bs_z (bs_ii x 256)) hx hb hr (bs_z_n _) (fun t ht hW => ⟨⟨bs_z (bs_ii x 256), (), rfl, rfl, by rw [ht]; exact hP, va_K.moved hW.alike hK, hD⟩, hS.F ht⟩) hS.2.2 dMO_isPlace_16
set_option maxHeartbeats 4000000 in
set_option maxRecDepth 100000 in
theorem c_MO_base (l : Launch) (dC : Nat → ClassId) (dI : Nat → Nat → Nat) (sz : Nat) (o xv xo xn xc xb xd xq xa xk xt xh xs xS xw xW xB xM xf xg xi : Nat) (th : Int32) (jf js : Int64) (jb : Int32) (nf ns : Int64) (nb : Int32) (k v : Nat) (hk : k < 2) (hv : v < 2 ^ 30) : Met l yMO_base wsMO_base { frames := 0, cells := 0, slots := 0, locals := 0 } (va_Pc [.ref o, .int (nI k), .int (nI v)] (fun U => U.heap.size = sz ∧ va_P (dC, dI) vwCl [(o, .inr (6, [.int th, .ref xv, .ref xo, .ref xn, .ref xc, .ref xb, .ref xd, .ref xq, .ref xa, .ref xk, .ref xt, .ref xh, .ref xs, .ref xS, .ref xw, .ref xW, .ref xB, .ref xM, .long jf, .long js, .int jb, .long nf, .long ns, .int nb, .ref xf, .ref xg, .ref xi]))] U.heap ∧ va_K (dC, dI) vwCl [] U ∧ va_D (fun _ => True) [(o, .inr (6, [.int th, .ref xv, .ref xo, .ref xn, .ref xc, .ref xb, .ref xd, .ref xq, .ref xa, .ref xk, .ref xt, .ref xh, .ref xs, .ref xS, .ref xw, .ref xW, .ref xB, .ref xM, .long jf, .long js, .int jb, .long nf, .long ns, .int nb, .ref xf, .ref xg, .ref xi]))])) (va_Qi (fun (r : Int32) (_ : Unit) => r = nI (256 * (9 * k + v % 9))) (fun (_ : Unit) t => va_P (dC, dI) vwCl [(o, .inr (6, [.int th, .ref xv, .ref xo, .ref xn, .ref xc, .ref xb, .ref xd, .ref xq, .ref xa, .ref xk, .ref xt, .ref xh, .ref xs, .ref xS, .ref xw, .ref xW, .ref xB, .ref xM, .long jf, .long js, .int jb, .long nf, .long ns, .int nb, .ref xf, .ref xg, .ref xi]))] t.heap ∧ va_K (dC, dI) vwCl [] t ∧ va_D (va_A [(o, .inr (6, [.int th, .ref xv, .ref xo, .ref xn, .ref xc, .ref xb, .ref xd, .ref xq, .ref xa, .ref xk, .ref xt, .ref xh, .ref xs, .ref xS, .ref xw, .ref xW, .ref xB, .ref xM, .long jf, .long js, .int jb, .long nf, .long ns, .int nb, .ref xf, .ref xg, .ref xi]))] sz) [(o, .inr (6, [.int th, .ref xv, .ref xo, .ref xn, .ref xc, .ref xb, .ref xd, .ref xq, .ref xa, .ref xk, .ref xt, .ref xh, .ref xs, .ref xS, .ref xw, .ref xW, .ref xB, .ref xM, .long jf, .long js, .int jb, .long nf, .long ns, .int nb, .ref xf, .ref xg, .ref xi]))]) (va_A [(o, .inr (6, [.int th, .ref xv, .ref xo, .ref xn, .ref xc, .ref xb, .ref xd, .ref xq, .ref xa, .ref xk, .ref xt, .ref xh, .ref xs, .ref xS, .ref xw, .ref xW, .ref xB, .ref xM, .long jf, .long js, .int jb, .long nf, .long ns, .int nb, .ref xf, .ref xg, .ref xi]))] sz)) 0 0 (va_A [(o, .inr (6, [.int th, .ref xv, .ref xo, .ref xn, .ref xc, .ref xb, .ref xd, .ref xq, .ref xa, .ref xk, .ref xt, .ref xh, .ref xs, .ref xS, .ref xw, .ref xW, .ref xB, .ref xM, .long jf, .long js, .int jb, .long nf, .long ns, .int nb, .ref xf, .ref xg, .ref xi]))] sz) := by
  refine Met.ofW (cc := cMO_base) (maxL := 3) (ret := (some .int)) (by decide) rfl ?_
  intro p e s m args below meth c s₁ Bo9 hml hv
  obtain ⟨rfl, hsz, hP, hK, hD0⟩ := hv
  have hx := Bo9.exec
  have hb := Bo9.bytes
  have hr := Bo9.returns
  have hts := fun w (h : w ∈ wT) => atoms_spec (ws := wsMO_base) Bo9.pre w (List.mem_cons_of_mem _ h)
  have hown : s.vm.findClass RMO = some m.cls := findClass_of_methodNamed Bo9.named
  have hlocks := Bo9.notSynchronized
  subst hsz
  have hD := hD0.self (sz := s.heap.size)
  generalize hAe : va_A [(o, .inr (6, [.int th, .ref xv, .ref xo, .ref xn, .ref xc, .ref xb, .ref xd, .ref xq, .ref xa, .ref xk, .ref xt, .ref xh, .ref xs, .ref xS, .ref xw, .ref xW, .ref xB, .ref xM, .long jf, .long js, .int jb, .long nf, .long ns, .int nb, .ref xf, .ref xg, .ref xi]))] s.heap.size = A at hD ⊢
  have hA : ∀ q : Nat, s.heap.size ≤ q → A q := fun q h => by rw [← hAe]; exact Or.inr h
  have hl := lv_entry ([.ref o, .int (nI k), .int (nI v)]) (n := 3) (Nat.le_of_ble_eq_true rfl)
  rw [lg_entry_eq]
  generalize (lg_sl ([.ref o, .int (nI k), .int (nI v)]) ++ List.replicate (3 - (lg_sl ([.ref o, .int (nI k), .int (nI v)])).length) Slot.unset).toArray = ls at hl ⊢
  have hl : lv_has ls 3 [(0, .ref o), (1, .int (nI k)), (2, .int (nI v))] := hl
  refine xs_q (fun H Q hH hQ => ?_)
  have hS : va_S A s.heap H [] := by rw [hH]; exact va_S.rf
  have hP : va_P (dC, dI) vwCl [(o, .inr (6, [.int th, .ref xv, .ref xo, .ref xn, .ref xc, .ref xb, .ref xd, .ref xq, .ref xa, .ref xk, .ref xt, .ref xh, .ref xs, .ref xS, .ref xw, .ref xW, .ref xB, .ref xM, .long jf, .long js, .int jb, .long nf, .long ns, .int nb, .ref xf, .ref xg, .ref xi]))] H := by rw [hH]; exact hP
  refine lv_sipush (v := nI 256) hx hb dMO_base_0 (by decide) ?_
  refine lv_bipush (v := nI 9) hx hb dMO_base_3 (by decide) ?_
  refine lv_iload_n hx hb dMO_base_5 rfl (lv_at hl 1 rfl) ?_
  refine lv_imul hx hb dMO_base_6 ?_
  refine xt_i (y := nI (9 * k)) (pk_mul _ _) ?_
  refine lv_iload_n hx hb dMO_base_7 rfl (lv_at hl 2 rfl) ?_
  refine lv_bipush (v := nI 9) hx hb dMO_base_8 (by decide) ?_
  refine lv_irem hx hb dMO_base_10 (by decide) ?_
  refine xt_i (y := nI (v % 9)) (pk_rem (by omega) (by omega) (by decide)) ?_
  refine lv_iadd hx hb dMO_base_11 ?_
  refine xt_i (y := nI (9 * k + v % 9)) (nI_add _ _) ?_
  refine lv_imul hx hb dMO_base_12 ?_
  refine xt_i (y := nI (256 * (9 * k + v % 9))) (pk_mul _ _) ?_
  have hP : va_P (dC, dI) vwCl [(o, .inr (6, [.int th, .ref xv, .ref xo, .ref xn, .ref xc, .ref xb, .ref xd, .ref xq, .ref xa, .ref xk, .ref xt, .ref xh, .ref xs, .ref xS, .ref xw, .ref xW, .ref xB, .ref xM, .long jf, .long js, .int jb, .long nf, .long ns, .int nb, .ref xf, .ref xg, .ref xi]))] H := hP
  have hD : va_D A [(o, .inr (6, [.int th, .ref xv, .ref xo, .ref xn, .ref xc, .ref xb, .ref xd, .ref xq, .ref xa, .ref xk, .ref xt, .ref xh, .ref xs, .ref xS, .ref xw, .ref xW, .ref xB, .ref xM, .long jf, .long js, .int jb, .long nf, .long ns, .int nb, .ref xf, .ref xg, .ref xi]))] := hD
  subst hQ
  exact W.iret (v := nI (256 * (9 * k + v % 9))) hx hb hr (fun t ht hW => ⟨⟨nI (256 * (9 * k + v % 9)), (), rfl, rfl, by rw [ht]; exact hP, va_K.moved hW.alike hK, hD⟩, hS.F ht⟩) hS.2.2 dMO_base_13
set_option maxHeartbeats 4000000 in
set_option maxRecDepth 100000 in
theorem c_MO_isHeld (l : Launch) (dC : Nat → ClassId) (dI : Nat → Nat → Nat) (sz : Nat) (o xv xo xn xc xb xd xq xa xk xt xh xs xS xw xW xB xM xf xg xi : Nat) (th : Int32) (jf js : Int64) (jb : Int32) (nf ns : Int64) (nb : Int32) (cI : ClassId) (nv : Nat → Int32) (k v : Nat) (x : Int32) (hk : k < 2) (hv : v < 2 ^ 30) (hn : nv k = nI v) : Met l yMO_isHeld wsMO_isHeld { frames := 0, cells := 0, slots := 0, locals := 0 } (va_Pc [.ref o, .int (nI k), .int x] (fun U => U.heap.size = sz ∧ va_P (dC, dI) vwCl [(o, .inr (6, [.int th, .ref xv, .ref xo, .ref xn, .ref xc, .ref xb, .ref xd, .ref xq, .ref xa, .ref xk, .ref xt, .ref xh, .ref xs, .ref xS, .ref xw, .ref xW, .ref xB, .ref xM, .long jf, .long js, .int jb, .long nf, .long ns, .int nb, .ref xf, .ref xg, .ref xi])), (xn, .inl (cI, 2, .inl nv))] U.heap ∧ va_K (dC, dI) vwCl [(cI, .int)] U ∧ va_D (fun _ => True) [(o, .inr (6, [.int th, .ref xv, .ref xo, .ref xn, .ref xc, .ref xb, .ref xd, .ref xq, .ref xa, .ref xk, .ref xt, .ref xh, .ref xs, .ref xS, .ref xw, .ref xW, .ref xB, .ref xM, .long jf, .long js, .int jb, .long nf, .long ns, .int nb, .ref xf, .ref xg, .ref xi])), (xn, .inl (cI, 2, .inl nv))])) (va_Qi (fun (r : Int32) (_ : Unit) => r = bs_z (decide (nI (v - 8) ≤ x ∧ x ≤ nI v))) (fun (_ : Unit) t => va_P (dC, dI) vwCl [(o, .inr (6, [.int th, .ref xv, .ref xo, .ref xn, .ref xc, .ref xb, .ref xd, .ref xq, .ref xa, .ref xk, .ref xt, .ref xh, .ref xs, .ref xS, .ref xw, .ref xW, .ref xB, .ref xM, .long jf, .long js, .int jb, .long nf, .long ns, .int nb, .ref xf, .ref xg, .ref xi])), (xn, .inl (cI, 2, .inl nv))] t.heap ∧ va_K (dC, dI) vwCl [(cI, .int)] t ∧ va_D (va_A [(o, .inr (6, [.int th, .ref xv, .ref xo, .ref xn, .ref xc, .ref xb, .ref xd, .ref xq, .ref xa, .ref xk, .ref xt, .ref xh, .ref xs, .ref xS, .ref xw, .ref xW, .ref xB, .ref xM, .long jf, .long js, .int jb, .long nf, .long ns, .int nb, .ref xf, .ref xg, .ref xi])), (xn, .inl (cI, 2, .inl nv))] sz) [(o, .inr (6, [.int th, .ref xv, .ref xo, .ref xn, .ref xc, .ref xb, .ref xd, .ref xq, .ref xa, .ref xk, .ref xt, .ref xh, .ref xs, .ref xS, .ref xw, .ref xW, .ref xB, .ref xM, .long jf, .long js, .int jb, .long nf, .long ns, .int nb, .ref xf, .ref xg, .ref xi])), (xn, .inl (cI, 2, .inl nv))]) (va_A [(o, .inr (6, [.int th, .ref xv, .ref xo, .ref xn, .ref xc, .ref xb, .ref xd, .ref xq, .ref xa, .ref xk, .ref xt, .ref xh, .ref xs, .ref xS, .ref xw, .ref xW, .ref xB, .ref xM, .long jf, .long js, .int jb, .long nf, .long ns, .int nb, .ref xf, .ref xg, .ref xi])), (xn, .inl (cI, 2, .inl nv))] sz)) 0 0 (va_A [(o, .inr (6, [.int th, .ref xv, .ref xo, .ref xn, .ref xc, .ref xb, .ref xd, .ref xq, .ref xa, .ref xk, .ref xt, .ref xh, .ref xs, .ref xS, .ref xw, .ref xW, .ref xB, .ref xM, .long jf, .long js, .int jb, .long nf, .long ns, .int nb, .ref xf, .ref xg, .ref xi])), (xn, .inl (cI, 2, .inl nv))] sz) := by
  refine Met.ofW (cc := cMO_isHeld) (maxL := 3) (ret := (some .boolean)) (by decide) rfl ?_
  intro p e s m args below meth c s₁ Bo9 hml hv
  obtain ⟨rfl, hsz, hP, hK, hD0⟩ := hv
  have hx := Bo9.exec
  have hb := Bo9.bytes
  have hr := Bo9.returns
  have hts := fun w (h : w ∈ wT) => atoms_spec (ws := wsMO_isHeld) Bo9.pre w (List.mem_cons_of_mem _ h)
  have hown : s.vm.findClass RMO = some m.cls := findClass_of_methodNamed Bo9.named
  have hlocks := Bo9.notSynchronized
  subst hsz
  have hD := hD0.self (sz := s.heap.size)
  generalize hAe : va_A [(o, .inr (6, [.int th, .ref xv, .ref xo, .ref xn, .ref xc, .ref xb, .ref xd, .ref xq, .ref xa, .ref xk, .ref xt, .ref xh, .ref xs, .ref xS, .ref xw, .ref xW, .ref xB, .ref xM, .long jf, .long js, .int jb, .long nf, .long ns, .int nb, .ref xf, .ref xg, .ref xi])), (xn, .inl (cI, 2, .inl nv))] s.heap.size = A at hD ⊢
  have hA : ∀ q : Nat, s.heap.size ≤ q → A q := fun q h => by rw [← hAe]; exact Or.inr h
  have hl := lv_entry ([.ref o, .int (nI k), .int x]) (n := 3) (Nat.le_of_ble_eq_true rfl)
  rw [lg_entry_eq]
  generalize (lg_sl ([.ref o, .int (nI k), .int x]) ++ List.replicate (3 - (lg_sl ([.ref o, .int (nI k), .int x])).length) Slot.unset).toArray = ls at hl ⊢
  have hl : lv_has ls 3 [(0, .ref o), (1, .int (nI k)), (2, .int x)] := hl
  refine xs_q (fun H Q hH hQ => ?_)
  have hS : va_S A s.heap H [] := by rw [hH]; exact va_S.rf
  have hP : va_P (dC, dI) vwCl [(o, .inr (6, [.int th, .ref xv, .ref xo, .ref xn, .ref xc, .ref xb, .ref xd, .ref xq, .ref xa, .ref xk, .ref xt, .ref xh, .ref xs, .ref xS, .ref xw, .ref xW, .ref xB, .ref xM, .long jf, .long js, .int jb, .long nf, .long ns, .int nb, .ref xf, .ref xg, .ref xi])), (xn, .inl (cI, 2, .inl nv))] H := by rw [hH]; exact hP
  refine lv_iload_n hx hb dMO_isHeld_0 rfl (lv_at hl 2 rfl) ?_
  refine lv_if_lt (tgt := 31) hx hb dMO_isHeld_1 (by decide) (fun h1 => ?_) (fun h1 => ?_)
  · refine lv_iconst (v := nI 0) hx hb dMO_isHeld_31 (by decide) ?_
    refine xt_i (y := bs_z (decide (nI (v - 8) ≤ x ∧ x ≤ nI v))) (by rw [bs_held_n hv h1]; rfl) ?_
    have hP : va_P (dC, dI) vwCl [(o, .inr (6, [.int th, .ref xv, .ref xo, .ref xn, .ref xc, .ref xb, .ref xd, .ref xq, .ref xa, .ref xk, .ref xt, .ref xh, .ref xs, .ref xS, .ref xw, .ref xW, .ref xB, .ref xM, .long jf, .long js, .int jb, .long nf, .long ns, .int nb, .ref xf, .ref xg, .ref xi])), (xn, .inl (cI, 2, .inl nv))] H := hP
    have hD : va_D A [(o, .inr (6, [.int th, .ref xv, .ref xo, .ref xn, .ref xc, .ref xb, .ref xd, .ref xq, .ref xa, .ref xk, .ref xt, .ref xh, .ref xs, .ref xS, .ref xw, .ref xW, .ref xB, .ref xM, .long jf, .long js, .int jb, .long nf, .long ns, .int nb, .ref xf, .ref xg, .ref xi])), (xn, .inl (cI, 2, .inl nv))] := hD
    subst hQ
    exact W.zret (v := bs_z (decide (nI (v - 8) ≤ x ∧ x ≤ nI v))) hx hb hr (bs_z_n _) (fun t ht hW => ⟨⟨bs_z (decide (nI (v - 8) ≤ x ∧ x ≤ nI v)), (), rfl, rfl, by rw [ht]; exact hP, va_K.moved hW.alike hK, hD⟩, hS.F ht⟩) hS.2.2 dMO_isHeld_32
  · obtain ⟨j, hj, rfl, ej⟩ := bs_held hv h1
    refine lv_iload_n hx hb dMO_isHeld_4 rfl (lv_at hl 2 rfl) ?_
    refine lv_aload_n hx hb dMO_isHeld_5 rfl (lv_at hl 0 rfl) ?_
    refine va_get (D := (dC, dI)) (ci := 6) (v := .ref xn) (C := RMO) (T := TMO) (N := 27) hx hb hts in_MO hown hK hP 0 rfl rfl 3 (by decide) (hts _ w_f_MO_16) (fun _ h9 => h9) rfl dMO_isHeld_6 ?_
    refine lv_iload_n hx hb dMO_isHeld_9 rfl (lv_at hl 1 rfl) ?_
    refine xa_iald hx hb hK hP 1 0 rfl rfl k (by omega) (by decide) dMO_isHeld_10 ?_
    refine xt_i (y := nI v) (hn) ?_
    refine lv_icmp_gt (tgt := 31) hx hb dMO_isHeld_11 (by decide) (fun h2 => ?_) (fun h2 => ?_)
    · refine lv_iconst (v := nI 0) hx hb dMO_isHeld_31 (by decide) ?_
      refine xt_i (y := bs_z (decide (nI (v - 8) ≤ nI j ∧ nI j ≤ nI v))) (by rw [ej, decide_eq_false (by rw [nI_ltI (by omega) hj] at h2; omega)]; rfl) ?_
      have hP : va_P (dC, dI) vwCl [(o, .inr (6, [.int th, .ref xv, .ref xo, .ref xn, .ref xc, .ref xb, .ref xd, .ref xq, .ref xa, .ref xk, .ref xt, .ref xh, .ref xs, .ref xS, .ref xw, .ref xW, .ref xB, .ref xM, .long jf, .long js, .int jb, .long nf, .long ns, .int nb, .ref xf, .ref xg, .ref xi])), (xn, .inl (cI, 2, .inl nv))] H := hP
      have hD : va_D A [(o, .inr (6, [.int th, .ref xv, .ref xo, .ref xn, .ref xc, .ref xb, .ref xd, .ref xq, .ref xa, .ref xk, .ref xt, .ref xh, .ref xs, .ref xS, .ref xw, .ref xW, .ref xB, .ref xM, .long jf, .long js, .int jb, .long nf, .long ns, .int nb, .ref xf, .ref xg, .ref xi])), (xn, .inl (cI, 2, .inl nv))] := hD
      subst hQ
      exact W.zret (v := bs_z (decide (nI (v - 8) ≤ nI j ∧ nI j ≤ nI v))) hx hb hr (bs_z_n _) (fun t ht hW => ⟨⟨bs_z (decide (nI (v - 8) ≤ nI j ∧ nI j ≤ nI v)), (), rfl, rfl, by rw [ht]; exact hP, va_K.moved hW.alike hK, hD⟩, hS.F ht⟩) hS.2.2 dMO_isHeld_32
    · have h4 : j ≤ v := by rw [nI_ltI (by omega) hj] at h2; omega
      refine lv_aload_n hx hb dMO_isHeld_14 rfl (lv_at hl 0 rfl) ?_
      refine va_get (D := (dC, dI)) (ci := 6) (v := .ref xn) (C := RMO) (T := TMO) (N := 27) hx hb hts in_MO hown hK hP 0 rfl rfl 3 (by decide) (hts _ w_f_MO_16) (fun _ h9 => h9) rfl dMO_isHeld_15 ?_
      refine lv_iload_n hx hb dMO_isHeld_18 rfl (lv_at hl 1 rfl) ?_
      refine xa_iald hx hb hK hP 1 0 rfl rfl k (by omega) (by decide) dMO_isHeld_19 ?_
      refine xt_i (y := nI v) (hn) ?_
      refine lv_iload_n hx hb dMO_isHeld_20 rfl (lv_at hl 2 rfl) ?_
      refine lv_isub hx hb dMO_isHeld_21 ?_
      refine xt_i (y := nI (v - j)) (pk_sub (by omega)) ?_
      refine lv_bipush (v := nI 9) hx hb dMO_isHeld_22 (by decide) ?_
      refine lv_icmp_ge (tgt := 31) hx hb dMO_isHeld_24 (by decide) (fun h3 => ?_) (fun h3 => ?_)
      · refine lv_iconst (v := nI 0) hx hb dMO_isHeld_31 (by decide) ?_
        refine xt_i (y := bs_z (decide (nI (v - 8) ≤ nI j ∧ nI j ≤ nI v))) (by rw [ej, decide_eq_false (by rw [nI_leI (by omega) (by omega)] at h3; omega)]; rfl) ?_
        have hP : va_P (dC, dI) vwCl [(o, .inr (6, [.int th, .ref xv, .ref xo, .ref xn, .ref xc, .ref xb, .ref xd, .ref xq, .ref xa, .ref xk, .ref xt, .ref xh, .ref xs, .ref xS, .ref xw, .ref xW, .ref xB, .ref xM, .long jf, .long js, .int jb, .long nf, .long ns, .int nb, .ref xf, .ref xg, .ref xi])), (xn, .inl (cI, 2, .inl nv))] H := hP
        have hD : va_D A [(o, .inr (6, [.int th, .ref xv, .ref xo, .ref xn, .ref xc, .ref xb, .ref xd, .ref xq, .ref xa, .ref xk, .ref xt, .ref xh, .ref xs, .ref xS, .ref xw, .ref xW, .ref xB, .ref xM, .long jf, .long js, .int jb, .long nf, .long ns, .int nb, .ref xf, .ref xg, .ref xi])), (xn, .inl (cI, 2, .inl nv))] := hD
        subst hQ
        exact W.zret (v := bs_z (decide (nI (v - 8) ≤ nI j ∧ nI j ≤ nI v))) hx hb hr (bs_z_n _) (fun t ht hW => ⟨⟨bs_z (decide (nI (v - 8) ≤ nI j ∧ nI j ≤ nI v)), (), rfl, rfl, by rw [ht]; exact hP, va_K.moved hW.alike hK, hD⟩, hS.F ht⟩) hS.2.2 dMO_isHeld_32
      · refine lv_iconst (v := nI 1) hx hb dMO_isHeld_27 (by decide) ?_
        refine lv_goto (tgt := 32) hx hb dMO_isHeld_28 (by decide) ?_
        refine xt_i (y := bs_z (decide (nI (v - 8) ≤ nI j ∧ nI j ≤ nI v))) (by rw [ej, decide_eq_true (by rw [nI_leI (by omega) (by omega)] at h3; omega)]; rfl) ?_
        have hP : va_P (dC, dI) vwCl [(o, .inr (6, [.int th, .ref xv, .ref xo, .ref xn, .ref xc, .ref xb, .ref xd, .ref xq, .ref xa, .ref xk, .ref xt, .ref xh, .ref xs, .ref xS, .ref xw, .ref xW, .ref xB, .ref xM, .long jf, .long js, .int jb, .long nf, .long ns, .int nb, .ref xf, .ref xg, .ref xi])), (xn, .inl (cI, 2, .inl nv))] H := hP
        have hD : va_D A [(o, .inr (6, [.int th, .ref xv, .ref xo, .ref xn, .ref xc, .ref xb, .ref xd, .ref xq, .ref xa, .ref xk, .ref xt, .ref xh, .ref xs, .ref xS, .ref xw, .ref xW, .ref xB, .ref xM, .long jf, .long js, .int jb, .long nf, .long ns, .int nb, .ref xf, .ref xg, .ref xi])), (xn, .inl (cI, 2, .inl nv))] := hD
        subst hQ
        exact W.zret (v := bs_z (decide (nI (v - 8) ≤ nI j ∧ nI j ≤ nI v))) hx hb hr (bs_z_n _) (fun t ht hW => ⟨⟨bs_z (decide (nI (v - 8) ≤ nI j ∧ nI j ≤ nI v)), (), rfl, rfl, by rw [ht]; exact hP, va_K.moved hW.alike hK, hD⟩, hS.F ht⟩) hS.2.2 dMO_isHeld_32
