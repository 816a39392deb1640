/-! xe_P: what a throw and a constructor need of the start beside the good words -/
def xe_ws : List Cond := [.laysStatic "java/lang/Throwable" "UNASSIGNED_STACK" "[Ljava/lang/StackTraceElement;", .laysStatic "java/lang/Throwable" "SUPPRESSED_SENTINEL" "Ljava/util/List;",
  .isRef (.static "java/lang/Throwable" "UNASSIGNED_STACK" "[Ljava/lang/StackTraceElement;"), .isRef (.static "java/lang/Throwable" "SUPPRESSED_SENTINEL" "Ljava/util/List;"),
  .declares ⟨"java/lang/RuntimeException", "<init>", "(Ljava/lang/String;)V"⟩, .declares ⟨"java/lang/Exception", "<init>", "(Ljava/lang/String;)V"⟩, .declares ⟨"java/lang/Throwable", "<init>", "(Ljava/lang/String;)V"⟩,
  .castable "java/lang/IllegalArgumentException" "java/lang/IllegalArgumentException", .castable "java/lang/IndexOutOfBoundsException" "java/lang/IndexOutOfBoundsException", .castable "java/lang/IllegalStateException" "java/lang/IllegalStateException",
  .methodLinkNest RBS 18 yKM_init RBS, .methodLinkNest RBS 34 ySV_init RBS, .methodLinkNest RSV 11 ySH_init RBS,
  .arrayOver (.object "BlindShelf$Key"), .arrayOver (.object "BlindShelf$Server"), .arrayOver (.array .int), .arrayOver (.array .long)]
def xe_ss : List (Nat × String) := [(122, "no such fixed key"), (161, "no such server"), (166, "no such place"), (173, "no such key or byte"), (176, "no such key or place"), (183, "version not held"), (186, "key not good")]
def xe_nn : List (String × String) := [("java/lang/IllegalStateException", "java/lang/IllegalArgumentException"), ("java/lang/IllegalStateException", "java/lang/IndexOutOfBoundsException")]
def xe_G (V : State) : Prop := (∀ w ∈ xe_ws, ∀ a' : Array Value, w.before a' V = true) ∧ (∀ q ∈ xe_ss, ∃ sa, vk_R RBS q.1 q.2 sa V) ∧ ∀ q ∈ xe_nn, va_Nc q.1 q.2 V
/-- a cell that is none of A's, and while it stays, all that is so -/
def xe_P (A : Nat → Prop) (U : State) (H : Heap) : Prop := ∃ (s0 : State) (a : Nat) (cell : Cell), s0.WarmedH U.vm ∧ H[a]? = some cell ∧ ¬ A a ∧ ∀ V : State, s0.WarmedH V.vm → V.heap[a]? = some cell → xe_G V
theorem xe_P.same {A : Nat → Prop} {u U : State} {H : Heap} (h : xe_P A u H) (hv : U.vm = u.vm) : xe_P A U H := by
  obtain ⟨s0, a, cell, h1, h2⟩ := h
  exact ⟨s0, a, cell, by rw [hv]; exact h1, h2⟩
theorem xe_P.warm {A : Nat → Prop} {s U : State} {H : Heap} (h : xe_P A s H) (hW : s.WarmedH U.vm) : xe_P A U H := by
  obtain ⟨s0, a, cell, h1, h2⟩ := h
  exact ⟨s0, a, cell, State.WarmedH.trans h1 hW, h2⟩
theorem xe_P.kept {A : Nat → Prop} {U : State} {H H1 : Heap} (h : xe_P A U H) (hq : ∀ a : Nat, a < H.size → ¬ A a → H1[a]? = H[a]?) : xe_P A U H1 := by
  obtain ⟨s0, a, cell, h1, h2, h3, h4⟩ := h
  exact ⟨s0, a, cell, h1, by rw [hq a (Array.getElem?_eq_some_iff.mp h2).1 h3]; exact h2, h3, h4⟩
theorem xe_P.narrow {A B : Nat → Prop} {U : State} {H : Heap} (h : xe_P A U H) (hAB : ∀ q, B q → A q) : xe_P B U H := by
  obtain ⟨s0, a, cell, h1, h2, h3, h4⟩ := h
  exact ⟨s0, a, cell, h1, h2, fun z => h3 (hAB _ z), h4⟩
theorem xe_P.use {A : Nat → Prop} {s U : State} {H : Heap} (h : xe_P A s H) (hW : s.WarmedH U.vm) (hh : U.heap = H) : xe_G U := by
  obtain ⟨s0, a, cell, h1, h2, h3, h4⟩ := h
  exact h4 U (State.WarmedH.trans h1 hW) (by rw [hh]; exact h2)
theorem xe_G.of {A : Nat → Prop} {s : State} (h : xe_P A s s.heap) : xe_G s := h.use (State.WarmedH.refl s) rfl
theorem xe_word {A : Nat → Prop} {s : State} {w : Cond} {args : Array Value} (h : xe_P A s s.heap) (hw : w ∈ xe_ws) : w.before args s = true := (xe_G.of h).1 w hw args
theorem xe_str {A : Nat → Prop} {s : State} (h : xe_P A s s.heap) (i : Nat) {k : Nat} {tx : String} (hi : xe_ss[i]? = some (k, tx)) : ∃ sa, vk_R RBS k tx sa s := (xe_G.of h).2.1 _ (List.mem_of_getElem? hi)
theorem xe_no {A : Nat → Prop} {s : State} {E N : String} (h : xe_P A s s.heap) (hq : (E, N) ∈ xe_nn) : va_Nc E N s := (xe_G.of h).2.2 _ hq
theorem xe_pass {s : State} {args : Array Value} {own E nm : String} {ct : Nat} {ce : Cell} (hl : (Cond.classLink own ct nm).before args s = true) (hn : va_Nc E nm s) (hcl : s.vm.findClass E = some ce.cls) : ∃ (nm : String) (c6 : ClassId), (Cond.classLink own ct nm).before args s = true ∧ s.vm.findClass nm = some c6 ∧ s.vm.assignable ce.cls c6 = false := by
  obtain ⟨a, b, h1, h2, h3⟩ := hn
  cases Option.some.inj (h1.symm.trans hcl)
  exact ⟨nm, b, hl, h2, h3⟩
theorem xe_at {A : Nat → Prop} {s : State} {H : Heap} {locs : List Loc} {args : Array Value} {L : List Cond} (hts : ∀ w, w ∈ wT → w.before args s = true) (hX : xe_P A s s.heap) (hS : va_S A s.heap H locs) (hL : ∀ w ∈ L, w ∈ wT ∨ w ∈ xe_ws) : ∀ w ∈ L, ∀ U : State, U.vm = s.vm → U.heap = H → w.before args U = true := by
  intro w hw U hvm hh
  have hW : s.WarmedH U.vm := by rw [hvm]; exact State.WarmedH.refl s
  rcases hL w hw with h | h
  · exact word_at hW (wT_good h) (hts w h)
  · exact ((hX.kept hS.2.1).use hW hh).1 w h args
theorem xe_none {c : Code} (h : c.exceptionTable.isEmpty = true) (k : Nat) : ∀ x ∈ c.exceptionTable.toList, covers x k = false := by
  intro x hx
  have h1 : c.exceptionTable = #[] := Array.isEmpty_iff.mp h
  rw [h1] at hx
  cases hx
theorem xe_tab {p : Program} {l : Launch} {y : MethodName} {S : Spec} {cc bytes : ByteArray} {maxL maxL' : Nat} {ret ret' : Option FieldType} {e : Env} {s s₁ : State} {m : MethodId} {args : Array Value} {below : List Frame} {meth : Method} {c : Code} {hh : List (Nat × Nat × Nat × Nat)}
    (B : BodyLoose p l y S cc maxL ret e s m args below meth c s₁) (h : (Cond.codeWith y bytes maxL' ret' hh).before args s = true) : c.exceptionTable.toList = Jvm.tableOf hh := by
  obtain ⟨m9, meth9, c9, hn9, h1, h2, -, -, h6, -⟩ := Cond.codeWith_spec h
  cases Option.some.inj (hn9.symm.trans B.named)
  cases Option.some.inj (h1.symm.trans B.method)
  cases Option.some.inj (h2.symm.trans (Stand.of_body B).code)
  rw [← h6, Jvm.table_eq]
set_option maxRecDepth 100000 in
theorem xe_in_IAE : ∀ w ∈ Cond.classLink RBS 120 "java/lang/IllegalArgumentException" :: Cond.initialized "java/lang/IllegalArgumentException" :: Jvm.Bundle.ownAtoms RBS 124 "java/lang/IllegalArgumentException" ["java/lang/RuntimeException", "java/lang/Exception"], w ∈ wT ∨ w ∈ xe_ws := by decide +kernel
set_option maxRecDepth 100000 in
theorem xe_in_IOB : ∀ w ∈ Cond.classLink RBS 171 "java/lang/IndexOutOfBoundsException" :: Cond.initialized "java/lang/IndexOutOfBoundsException" :: Jvm.Bundle.ownAtoms RBS 175 "java/lang/IndexOutOfBoundsException" ["java/lang/RuntimeException", "java/lang/Exception"], w ∈ wT ∨ w ∈ xe_ws := by decide +kernel
set_option maxRecDepth 100000 in
theorem xe_in_ISE : ∀ w ∈ Cond.classLink RBS 181 "java/lang/IllegalStateException" :: Cond.initialized "java/lang/IllegalStateException" :: Jvm.Bundle.ownAtoms RBS 185 "java/lang/IllegalStateException" ["java/lang/RuntimeException", "java/lang/Exception"], w ∈ wT ∨ w ∈ xe_ws := by decide +kernel
