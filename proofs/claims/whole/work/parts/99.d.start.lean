/-! what the Statement gives of the start: the classes, the arrays' classes, what a throw needs -/
theorem lc_KA {s : State} {args : Array Value} {ty : FieldType} (h : (Cond.arrayClass ty).before args s = true) (hp : ∀ C, ty ≠ .object C) : ∃ cA, ArrOfT s cA ty ∧ va_RA s cA ty := by
  obtain ⟨c, k, comp, h1, h2, h3⟩ := Cond.arrayClass_spec h
  refine ⟨c, fun n z => ⟨fun k h => (by cases h), k, h2, comp, h3⟩, ?_⟩
  cases ty with
  | object C => exact absurd rfl (hp C)
  | _ => exact h1
theorem lc_KR {s : State} {args : Array Value} {ty : FieldType} (h : (Cond.arrayOver (.array ty)).before args s = true) : ∃ cA, ArrOfT s cA (.array ty) ∧ va_RA s cA (.array ty) := by
  obtain ⟨comp, c, k, h1, h2, h3, h4⟩ := Cond.arrayOver_specA h
  exact ⟨c, fun n z => ⟨fun k h => (by cases h), k, h2, comp, h3⟩, h4⟩
theorem lc_KO {s : State} {args : Array Value} {C : String} (h : (Cond.arrayOver (.object C)).before args s = true) : ∃ cA, ArrOfT s cA (.object C) ∧ va_RA s cA (.object C) := by
  obtain ⟨comp, c, k, h1, -, h2, h3, h4⟩ := Cond.arrayOver_spec h
  exact ⟨c, fun n z => ⟨fun k h => (by cases h), k, h2, comp, h3⟩, k, comp, h2, h3, h1, h4⟩
theorem lc_cl {s : State} {args : Array Value} (hts : ∀ w ∈ wT, w.before args s = true) : ∃ (dC : Nat → ClassId) (dI : Nat → Nat → Nat), ∀ (c : Nat) (q : vw_C), vwCl[c]? = some q → u_Kn s q.1 q.2.1 q.2.2 (dC c) (dI c) := by
  obtain ⟨c0, i0, h0⟩ := u_known hts in_BC (hts _ w_b_BC)
  obtain ⟨c1, i1, h1⟩ := u_known hts in_KY (hts _ w_b_KY)
  obtain ⟨c2, i2, h2⟩ := u_known hts in_KM (hts _ w_b_KM)
  obtain ⟨c3, i3, h3⟩ := u_known hts in_SV (hts _ w_b_SV)
  obtain ⟨c4, i4, h4⟩ := u_known hts in_SH (hts _ w_b_SH)
  obtain ⟨c5, i5, h5⟩ := u_known hts in_BS (hts _ w_b_BS)
  obtain ⟨c6, i6, h6⟩ := u_known hts in_MO (hts _ w_b_MO)
  refine ⟨fun n => match n with | 0 => c0 | 1 => c1 | 2 => c2 | 3 => c3 | 4 => c4 | 5 => c5 | _ => c6, fun n => match n with | 0 => i0 | 1 => i1 | 2 => i2 | 3 => i3 | 4 => i4 | 5 => i5 | _ => i6, fun c q hq => ?_⟩
  match c, hq with
  | 0, hq => cases Option.some.inj hq; exact h0
  | 1, hq => cases Option.some.inj hq; exact h1
  | 2, hq => cases Option.some.inj hq; exact h2
  | 3, hq => cases Option.some.inj hq; exact h3
  | 4, hq => cases Option.some.inj hq; exact h4
  | 5, hq => cases Option.some.inj hq; exact h5
  | 6, hq => cases Option.some.inj hq; exact h6
  | n + 7, hq => exact absurd hq (by simp [vwCl])
theorem lc_ls {s V : State} {args a' : Array Value} {O f d : String} {c : ClassId} {k : Class} {a : Nat} {cell : Cell} (hW : s.WarmedH V.vm) (hc : s.vm.findClass O = some c) (hk : s.vm.classes[c]? = some k) (ha : k.statics = some a) (hcell : s.heap[a]? = some cell) (hV : V.heap[a]? = some cell) (h : (Cond.laysStatic O f d).before args s = true) :
    (Cond.laysStatic O f d).before a' V = true ∧ (Term.static O f d).eval a' V none [] V = (Term.static O f d).eval args s none [] s := by
  obtain ⟨c', k', i, fd, a2, cell2, h1, h2, h3, h4, h5, h6, h7, h8, h9⟩ := Cond.laysStatic_spec h
  cases Option.some.inj (h1.symm.trans hc)
  cases Option.some.inj ((State.fieldFound?_spec h2).1.symm.trans hk)
  cases Option.some.inj (h4.symm.trans ha)
  cases Option.some.inj (h5.symm.trans hcell)
  obtain ⟨k1, g1, g2⟩ := State.fieldFound?_setVm hW.alike h2
  have g1 : V.fieldFound? O f d = some (c, k1, i, fd) := g1
  have g3 : k1.statics = some a := by rw [g2]; exact h4
  have g4 : k1.staticTypes[fd.slot]? = some fd.type := by rw [g2]; exact h9
  have g5 : V.vm.findClass O = some c := by rw [hW.alike.findClass]; exact hc
  refine ⟨?_, ?_⟩
  · simp [Cond.before, Cond.holds, Cond.value, g5, g1, h3, g3, hV, h6, h7, h8, g4]
  · simp [Term.eval, State.fieldNamed?, g1, h2, h3, g3, h4, hV, hcell, h6]
theorem lc_isRef {s V : State} {args a' : Array Value} {t : Term} (he : t.eval a' V none [] V = t.eval args s none [] s) (h : (Cond.isRef t).before args s = true) : (Cond.isRef t).before a' V = true := by
  simp only [Cond.before, Cond.holds, Cond.value] at h ⊢
  rw [he]
  exact h
theorem lc_AR {s V : State} {args a' : Array Value} {ty : FieldType} (hW : s.WarmedH V.vm) (h : (Cond.arrayOver ty).before args s = true) : (Cond.arrayOver ty).before a' V = true := by
  have e : (Cond.arrayOver ty).before a' V = (Cond.arrayOver ty).before args (s.setVm V.vm) := rfl
  rw [e, Cond.arrayOver_setVmC hW.alike]
  exact h
theorem lc_st {s V : State} {args : Array Value} {k : Nat} {tx : String} (hW : s.WarmedH V.vm) (h1 : (Cond.stringRef RBS k tx).before args s = true) (h2 : (Cond.exactly (Term.string RBS k) "java/lang/String").before args s = true) : ∃ sa, vk_R RBS k tx sa V := by
  obtain ⟨a, -, -, -, h3, -⟩ := Cond.exactly_spec h2
  exact ⟨a, vk_R.warm hW (vk_R.of h1 h3)⟩
set_option maxRecDepth 100000 in
set_option maxHeartbeats 8000000 in
theorem lc_xe {s : State} {b : Nat} (hts : ∀ w ∈ lw_tbl, w.before #[Value.ref b] s = true) (hgv : (Jvm.Cond.and given_1 narrow_1).before #[Value.ref b] s = true) : xe_P (fun q => s.heap.size ≤ q) s s.heap := by
  have hs := flat_of_before _ hgv
  have l1 : (Cond.laysStatic "java/lang/Throwable" "UNASSIGNED_STACK" "[Ljava/lang/StackTraceElement;").before #[Value.ref b] s = true := hts _ (by decide +kernel)
  have l2 : (Cond.laysStatic "java/lang/Throwable" "SUPPRESSED_SENTINEL" "Ljava/util/List;").before #[Value.ref b] s = true := hts _ (by decide +kernel)
  have r1 : (Cond.isRef (.static "java/lang/Throwable" "UNASSIGNED_STACK" "[Ljava/lang/StackTraceElement;")).before #[Value.ref b] s = true := hs _ (by decide +kernel)
  have r2 : (Cond.isRef (.static "java/lang/Throwable" "SUPPRESSED_SENTINEL" "Ljava/util/List;")).before #[Value.ref b] s = true := hs _ (by decide +kernel)
  have d1 : (Cond.declares ⟨"java/lang/RuntimeException", "<init>", "(Ljava/lang/String;)V"⟩).before #[Value.ref b] s = true := hts _ (by decide +kernel)
  have d2 : (Cond.declares ⟨"java/lang/Exception", "<init>", "(Ljava/lang/String;)V"⟩).before #[Value.ref b] s = true := hts _ (by decide +kernel)
  have d3 : (Cond.declares ⟨"java/lang/Throwable", "<init>", "(Ljava/lang/String;)V"⟩).before #[Value.ref b] s = true := hts _ (by decide +kernel)
  have c1 : (Cond.castable "java/lang/IllegalArgumentException" "java/lang/IllegalArgumentException").before #[Value.ref b] s = true := hts _ (by decide +kernel)
  have c2 : (Cond.castable "java/lang/IndexOutOfBoundsException" "java/lang/IndexOutOfBoundsException").before #[Value.ref b] s = true := hts _ (by decide +kernel)
  have c3 : (Cond.castable "java/lang/IllegalStateException" "java/lang/IllegalStateException").before #[Value.ref b] s = true := hts _ (by decide +kernel)
  have m1 : (Cond.methodLinkNest RBS 18 yKM_init RBS).before #[Value.ref b] s = true := hts _ (by decide +kernel)
  have m2 : (Cond.methodLinkNest RBS 34 ySV_init RBS).before #[Value.ref b] s = true := hts _ (by decide +kernel)
  have m3 : (Cond.methodLinkNest RSV 11 ySH_init RBS).before #[Value.ref b] s = true := hts _ (by decide +kernel)
  have a1 : (Cond.arrayOver (.object "BlindShelf$Key")).before #[Value.ref b] s = true := hts _ (by decide +kernel)
  have a2 : (Cond.arrayOver (.object "BlindShelf$Server")).before #[Value.ref b] s = true := hts _ (by decide +kernel)
  have a3 : (Cond.arrayOver (.array .int)).before #[Value.ref b] s = true := hts _ (by decide +kernel)
  have a4 : (Cond.arrayOver (.array .long)).before #[Value.ref b] s = true := hts _ (by decide +kernel)
  have s1 : (Cond.stringRef RBS 122 "no such fixed key").before #[Value.ref b] s = true := hts _ (by decide +kernel)
  have s2 : (Cond.stringRef RBS 161 "no such server").before #[Value.ref b] s = true := hts _ (by decide +kernel)
  have s3 : (Cond.stringRef RBS 166 "no such place").before #[Value.ref b] s = true := hts _ (by decide +kernel)
  have s4 : (Cond.stringRef RBS 173 "no such key or byte").before #[Value.ref b] s = true := hts _ (by decide +kernel)
  have s5 : (Cond.stringRef RBS 176 "no such key or place").before #[Value.ref b] s = true := hts _ (by decide +kernel)
  have s6 : (Cond.stringRef RBS 183 "version not held").before #[Value.ref b] s = true := hts _ (by decide +kernel)
  have s7 : (Cond.stringRef RBS 186 "key not good").before #[Value.ref b] s = true := hts _ (by decide +kernel)
  have e1 : (Cond.exactly (Term.string RBS 122) "java/lang/String").before #[Value.ref b] s = true := hs _ (by decide +kernel)
  have e2 : (Cond.exactly (Term.string RBS 161) "java/lang/String").before #[Value.ref b] s = true := hs _ (by decide +kernel)
  have e3 : (Cond.exactly (Term.string RBS 166) "java/lang/String").before #[Value.ref b] s = true := hs _ (by decide +kernel)
  have e4 : (Cond.exactly (Term.string RBS 173) "java/lang/String").before #[Value.ref b] s = true := hs _ (by decide +kernel)
  have e5 : (Cond.exactly (Term.string RBS 176) "java/lang/String").before #[Value.ref b] s = true := hs _ (by decide +kernel)
  have e6 : (Cond.exactly (Term.string RBS 183) "java/lang/String").before #[Value.ref b] s = true := hs _ (by decide +kernel)
  have e7 : (Cond.exactly (Term.string RBS 186) "java/lang/String").before #[Value.ref b] s = true := hs _ (by decide +kernel)
  have n1 : (Cond.not (.castable "java/lang/IllegalStateException" "java/lang/IllegalArgumentException")).before #[Value.ref b] s = true := hs _ (by decide +kernel)
  have n2 : (Cond.not (.castable "java/lang/IllegalStateException" "java/lang/IndexOutOfBoundsException")).before #[Value.ref b] s = true := hs _ (by decide +kernel)
  obtain ⟨c, k, i, fd, a, cell, h1, h2, h3, h4, h5, h6, h7, h8, h9⟩ := Cond.laysStatic_spec l1
  have hk : s.vm.classes[c]? = some k := (State.fieldFound?_spec h2).1
  refine ⟨s, a, cell, State.WarmedH.refl s, h5, fun q => absurd (Array.getElem?_eq_some_iff.mp h5).1 (Nat.not_lt.mpr q), fun V hW hV => ⟨?_, ?_, ?_⟩⟩
  · intro w hw a'
    have x1 := lc_ls (a' := a') hW h1 hk h4 h5 hV l1
    have x2 := lc_ls (a' := a') hW h1 hk h4 h5 hV l2
    simp only [xe_ws, List.mem_cons, List.not_mem_nil, or_false] at hw
    rcases hw with rfl | rfl | rfl | rfl | rfl | rfl | rfl | rfl | rfl | rfl | rfl | rfl | rfl | rfl | rfl | rfl | rfl
    · exact x1.1
    · exact x2.1
    · exact lc_isRef x1.2 r1
    · exact lc_isRef x2.2 r2
    · exact va_Nw.use rfl (va_Nw.warmD hW (va_Nw.of rfl d1))
    · exact va_Nw.use rfl (va_Nw.warmD hW (va_Nw.of rfl d2))
    · exact va_Nw.use rfl (va_Nw.warmD hW (va_Nw.of rfl d3))
    · exact va_Nw.use rfl (va_Nw.warmC hW (va_Nw.of rfl c1))
    · exact va_Nw.use rfl (va_Nw.warmC hW (va_Nw.of rfl c2))
    · exact va_Nw.use rfl (va_Nw.warmC hW (va_Nw.of rfl c3))
    · exact va_Nw.use rfl (va_Nw.warmM hW (va_Nw.of rfl m1))
    · exact va_Nw.use rfl (va_Nw.warmM hW (va_Nw.of rfl m2))
    · exact va_Nw.use rfl (va_Nw.warmM hW (va_Nw.of rfl m3))
    · exact lc_AR hW a1
    · exact lc_AR hW a2
    · exact lc_AR hW a3
    · exact lc_AR hW a4
  · intro q hq
    simp only [xe_ss, List.mem_cons, List.not_mem_nil, or_false] at hq
    rcases hq with rfl | rfl | rfl | rfl | rfl | rfl | rfl
    · exact lc_st hW s1 e1
    · exact lc_st hW s2 e2
    · exact lc_st hW s3 e3
    · exact lc_st hW s4 e4
    · exact lc_st hW s5 e5
    · exact lc_st hW s6 e6
    · exact lc_st hW s7 e7
  · intro q hq
    simp only [xe_nn, List.mem_cons, List.not_mem_nil, or_false] at hq
    rcases hq with rfl | rfl
    · exact (va_Nc.of n1).moved hW.alike
    · exact (va_Nc.of n2).moved hW.alike
theorem lc_At.of {p : Program} {l : Launch} {s : State} {m : MethodId} {meth : Method} {c : Code} {b L : Nat} {xs : Nat → Int32} (hL : L ≤ 6144) (hl9 : l.stackTraces = false) (C0 : lw_At p s m meth c b L xs) : ∃ (dC : Nat → ClassId) (dI : Nat → Nat → Nat) (cI cL cZ cR cJ cK cV : ClassId), lc_At p l s m c b L xs dC dI (fun q => s.heap.size ≤ q) cI cL cZ cR cJ cK cV := by
  obtain ⟨hx, hb, hr, hml, hown, htl, hX, hbl, hlocks, hgv⟩ := C0
  have hts : ∀ w ∈ wT, w.before #[Value.ref b] s = true := fun w hw => htl w (List.mem_filter.mp hw).1
  have hxe := lc_xe htl hgv
  obtain ⟨dC, dI, hcl⟩ := lc_cl hts
  obtain ⟨cI, h0⟩ := lc_KA (hts _ w_a_int) (fun C h => by cases h)
  obtain ⟨cL, h1⟩ := lc_KA (hts _ w_a_long) (fun C h => by cases h)
  obtain ⟨cZ, h2⟩ := lc_KA (hts _ w_a_boolean) (fun C h => by cases h)
  obtain ⟨cR, h3⟩ := lc_KR (ty := .int) (xe_word (args := #[Value.ref b]) hxe (by decide +kernel))
  obtain ⟨cJ, h4⟩ := lc_KR (ty := .long) (xe_word (args := #[Value.ref b]) hxe (by decide +kernel))
  obtain ⟨cK, h5⟩ := lc_KO (C := "BlindShelf$Key") (xe_word (args := #[Value.ref b]) hxe (by decide +kernel))
  obtain ⟨cV, h6⟩ := lc_KO (C := "BlindShelf$Server") (xe_word (args := #[Value.ref b]) hxe (by decide +kernel))
  refine ⟨dC, dI, cI, cL, cZ, cR, cJ, cK, cV, hx, hb, hml, hown, hts, hl9, fun q h => h, ⟨hcl, fun k q hq => ?_⟩, hxe, hX, hbl, Nat.not_le.mpr hbl, hL⟩
  match k, hq with
  | 0, hq => cases Option.some.inj hq; exact h0
  | 1, hq => cases Option.some.inj hq; exact h1
  | 2, hq => cases Option.some.inj hq; exact h2
  | 3, hq => cases Option.some.inj hq; exact h3
  | 4, hq => cases Option.some.inj hq; exact h4
  | 5, hq => cases Option.some.inj hq; exact h5
  | 6, hq => cases Option.some.inj hq; exact h6
  | n + 7, hq => exact absurd hq (by simp)
