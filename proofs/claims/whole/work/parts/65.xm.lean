/-! xm_: new T[n][m]; arrays of references in other words; contracts in other words -/
def bs_gl (l : List Nat) : Nat → Option Nat := fun i => l[i]?
theorem xc_q {cA : ClassId} {n : Nat} {f g : Nat → Option Nat} (h : ∀ j, j < n → f j = g j) : vp_cell cA (n, .inr (.inr (.inr (.inr f)))) = vp_cell cA (n, .inr (.inr (.inr (.inr g)))) := by
  rw [vp_cell_q, vp_cell_q]
  unfold arrV
  congr 1
  apply Array.ext_getElem?
  intro i
  by_cases hi : i < n
  · simp [hi, h i hi]
  · simp [hi]
theorem xp_q {D : va_G} {cl : List vw_C} {ws : va_W} {H : Heap} {cA : ClassId} {n : Nat} {f : Nat → Option Nat} (g : Nat → Option Nat) (hP : va_P D cl ws H) (k : Nat) {a : Nat} (hk : ws[k]? = some (a, .inl (cA, n, .inr (.inr (.inr (.inr f)))))) (h : ∀ j, j < n → f j = g j) : va_P D cl (ws.set k (a, .inl (cA, n, .inr (.inr (.inr (.inr g)))))) H :=
  xp_at hP k hk (fun q => by
    show H[a]? = some (vp_cell cA (n, .inr (.inr (.inr (.inr g)))))
    rw [← xc_q h]
    exact q)
theorem xm_out (c : ClassId) (N h0 : Nat) : ∀ i : Nat, Jvm.Free.Multi.outerC c N h0 i = arrV c N (fun j => va_rf (if j < i then some (h0 + 1 + j) else none))
  | 0 => by
    show ({ cls := c, slots := Array.replicate N .null, vm := .none } : Cell) = _
    rw [arrV_new]
    exact congrArg (arrV c N) (funext fun j => by simp [va_rf])
  | i + 1 => by
    show (Jvm.Free.Multi.outerC c N h0 i).setSlot i (.ref (h0 + 1 + i)) = _
    rw [xm_out c N h0 i, arrV_store]
    refine congrArg (arrV c N) (funext fun j => ?_)
    by_cases e : j = i
    · subst e
      simp [updV, va_rf]
    · by_cases h : j < i
      · simp [updV, e, h, Nat.lt_succ_of_lt h]
      · simp [updV, e, h, show ¬ j < i + 1 by omega]
theorem xm_get {α : Type} {f : Nat → α} {N i : Nat} {x : α} (h : ((List.range N).map f)[i]? = some x) : i < N ∧ x = f i := by
  have h1 : i < ((List.range N).map f).length := (List.getElem?_eq_some_iff.mp h).1
  rw [List.length_map, List.length_range] at h1
  refine ⟨h1, ?_⟩
  rw [List.getElem?_map, List.getElem?_range h1] at h
  exact (Option.some.inj h).symm
section XM
variable {p : Program} {l : Launch} {e : Env} {R : Room} {s : State} {m : MethodId} {args : Array Value} {below : List Frame} {meth : Method} {c : Code} {H : Heap} {locs : List Loc} {cells slots : Nat} {Q : State → Prop}
variable {cc : ByteArray} {pc : Nat} {ls : Array Slot} {rest : List Value} {D : va_G} {cl : List vw_C} {A : Nat → Prop} {tys : List (ClassId × FieldType)} {ws : va_W} {H0 : Heap}
/-- the outer array, then its rows -/
def xm_w (q : Nat) (r : Nat → Nat) (cA cy : ClassId) (N : Nat) (z : vp_A) : va_W := (q, .inl (cA, N, .inr (.inr (.inr (.inr (fun i => if i < N then some (r i) else none)))))) :: (List.range N).map (fun i => (r i, .inl (cy, z)))
theorem xm_new (hexec : p.tables.exec = Jvm.exec) (hb : c.code = cc) {own : String} {index : Nat} {ty : FieldType} {cy : ClassId} (hown : s.vm.findClass own = some m.cls) (hclink : (Cond.classLink own index ("[" ++ (FieldType.array ty).toString)).before args s = true) (hover : (Cond.arrayOver (.array ty)).before args s = true) (harr : (Cond.arrayClass ty).before args s = true) (hcy : s.vm.findClass (FieldType.array ty).toString = some cy)
    (hK : va_K D cl tys s) (hP : va_P D cl ws H) (hD : va_D A ws) (hS : va_S A H0 H locs) (hA : ∀ q, H0.size ≤ q → A q) {n k : Int32} {N' K' : Nat} {z : vp_A} (hn : ¬ n < 0) (hk : ¬ k < 0) (hN : n.toNatClampNeg = N') (hM : k.toNatClampNeg = K')
    (hb1 : N' * 4 ≤ 536870912) (hb2 : K' * componentBytes ty ≤ 536870912) (hb3 : K' ≤ 536870912) (hdf : fits ty (defaultValue ty) = true) (hdd : (defaultValue ty).isDefault = true) (hcells : cells + (1 + N') ≤ R.cells) (hslots : slots + (N' + N' * K') ≤ R.slots) (hz : ∀ c : ClassId, Jvm.Free.Multi.innerC c K' (defaultValue ty) = vp_cell c z) (hdg : decode cc pc = .ok (.multianewarray index 2, 4))
    (kk : ∀ (q : Nat) (r : Nat → Nat) (cA : ClassId) (H1 : Heap), va_K D cl (tys ++ [(cA, .array ty)]) s → va_P D cl (ws ++ xm_w q r cA cy N' z) H1 → va_D A (ws ++ xm_w q r cA cy N' z) → va_S A H0 H1 locs →
      W p l e R s m args below meth c H1 locs (cells + 1 + N') (slots + N' + N' * K') Q (F0 m (pc + 4) ls (.ref q :: rest))) : W p l e R s m args below meth c H locs cells slots Q (F0 m pc ls (.int k :: .int n :: rest)) := by
  subst hN
  subst hM
  intro T hT Xs
  obtain ⟨vm₁, cA, comp, -, fA, fC, hO, -, X', step⟩ := Xs.multianewarray2F hexec hown hclink hover harr (g := F0 m pc ls (.int k :: .int n :: rest)) rfl (by rw [hb]; exact hdg) rfl hn hk hb1 hb2 hb3 hdf hdd hcells hslots
  cases Option.some.inj (hcy.symm.trans fC)
  generalize hF : Jvm.Free.Multi.fill (T.setVm vm₁) cA cy n.toNatClampNeg k.toNatClampNeg (defaultValue ty) n.toNatClampNeg = F at X' step
  have hTh : (T.setVm vm₁).heap = H := hT
  obtain ⟨f1, f2, -, -⟩ := Jvm.Free.Multi.fill_facts (T.setVm vm₁) cA cy n.toNatClampNeg k.toNatClampNeg (defaultValue ty) n.toNatClampNeg
  rw [hF, hTh] at f1 f2
  rw [xm_out] at f2
  have hold : ∀ x : Nat, x < H.size → F.heap[x]? = H[x]? := fun x hx => by
    have h := Jvm.Free.Multi.fill_old (T.setVm vm₁) cA cy n.toNatClampNeg k.toNatClampNeg (defaultValue ty) (a := x) (by rw [hTh]; exact hx) n.toNatClampNeg
    rw [hF, hTh] at h
    exact h
  have hrow : ∀ j : Nat, j < n.toNatClampNeg → F.heap[H.size + 1 + j]? = some (vp_cell cy z) := fun j hj => by
    have h := Jvm.Free.Multi.fill_inner (T.setVm vm₁) cA cy n.toNatClampNeg k.toNatClampNeg (defaultValue ty) n.toNatClampNeg j hj
    rw [hF, hTh, hz] at h
    exact h
  have hAr : ArrOfT s cA (.array ty) := fun N z9 => by
    have h := (hO N 0 0).1
    exact ⟨fun k9 h9 => (by cases h9), h.2⟩
  have hw : ∀ (j : Nat) (x : Nat × va_E), (xm_w H.size (fun i => H.size + 1 + i) cA cy n.toNatClampNeg z)[j]? = some x → x.1 = H.size + j ∧ va_at D cl x F.heap := by
    intro j x hx
    cases j with
    | zero =>
      cases Option.some.inj hx
      exact ⟨rfl, f2⟩
    | succ j =>
      obtain ⟨h1, rfl⟩ := xm_get (show ((List.range n.toNatClampNeg).map (fun i => (H.size + 1 + i, (Sum.inl (cy, z) : va_E))))[j]? = some x from hx)
      exact ⟨by show H.size + 1 + j = H.size + (j + 1); omega, hrow j h1⟩
  obtain ⟨t, a1, b1⟩ := kk H.size (fun i => H.size + 1 + i) cA F.heap
    ⟨hK.1, fun k9 x hx => by
      by_cases hl : k9 < tys.length
      · rw [List.getElem?_append_left hl] at hx
        exact hK.2 k9 x hx
      · rw [List.getElem?_append_right (by omega)] at hx
        have hz9 : k9 - tys.length < 1 := (List.getElem?_eq_some_iff.mp hx).1
        rw [show k9 - tys.length = 0 by omega] at hx
        cases hx
        exact ⟨hAr, fA⟩⟩
    ((hP.kept (fun k9 x hx => hold x.1 ((hP k9 x hx).lt))).app (fun j x hx => (hw j x hx).2))
    (hD.app ⟨fun i j x y hx hy he => by
        have h1 := (hw i x hx).1
        have h2 := (hw j y hy).1
        omega, fun j x hx => hA _ (by have h1 := (hw j x hx).1; have h2 := hS.1; omega)⟩
      (fun i j x y hx hy he => by
        have h1 := (hP i x hx).lt
        have h2 := (hw j y hy).1
        omega))
    ⟨Nat.le_trans hS.1 (by rw [f1]; omega), fun x h1 h2 => (hold x (Nat.lt_of_lt_of_le h1 hS.1)).trans (hS.2.1 x h1 h2), hS.2.2⟩ F rfl X'
  rw [hT] at step
  exact ⟨t, step t a1, b1⟩
end XM
/-- a contract in other words -/
theorem xm_conseq {l : Launch} {y : MethodName} {ws : List Cond} {rm : Room} {Pc Pc' : Array Value → State → Prop} {Qc Qc' : Array Value → State → Outcome → State → Prop} {mc ms : Nat} {free free' : Addr → Prop}
    (h : Met l y ws rm Pc Qc mc ms free) (hp : ∀ a U, Pc' a U → Pc a U) (hq : ∀ a st o t, Pc' a st → Qc a st o t → Qc' a st o t) (hf : ∀ q, free q → free' q) : Met l y ws rm Pc' Qc' mc ms free' := by
  intro p e h1 h2 h3 s m args below hfr happ hP hK
  obtain ⟨n, o, a1, a2, a3, hQ, L, hF, hL⟩ := h p e h1 h2 h3 s m args below hfr happ (hp _ _ hP) hK
  exact ⟨n, o, a1, a2, a3, hq _ _ _ _ hP hQ, L, hF, fun q hq => hf _ (hL q hq)⟩
theorem xm_A {wb wc : va_W} {sz : Nat} (ix : List Nat) (h : ix.map (fun i => wb[i]?) = wc.map some) : ∀ q, va_A wc sz q → va_A wb sz q := by
  rintro q (⟨k, e, hk⟩ | h9)
  · have h1 : (wc.map some)[k]? = some (some (q, e)) := by rw [List.getElem?_map, hk]; rfl
    rw [← h, List.getElem?_map] at h1
    cases hi : ix[k]? with
    | none => simp [hi] at h1
    | some i =>
      simp only [hi, Option.map_some, Option.some.injEq] at h1
      exact Or.inl ⟨i, e, h1⟩
  · exact Or.inr h9
