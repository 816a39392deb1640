/-! xj_: worlds with a tail that is not looked at; the script's cells -/
theorem xj_l {ws wt : va_W} {k : Nat} {q : Nat × va_E} (h : ws[k]? = some q) : (ws ++ wt)[k]? = some q := by
  rw [List.getElem?_append_left (List.getElem?_eq_some_iff.mp h).1]
  exact h
theorem xj_r {ws wt : va_W} {k : Nat} {q : Nat × va_E} (h : wt[k]? = some q) : (ws ++ wt)[ws.length + k]? = some q := by
  rw [List.getElem?_append_right (Nat.le_add_right _ _), Nat.add_sub_cancel_left]
  exact h
theorem xj_at {ws w : va_W} {is : List Nat} (hs : is.map (fun i => ws[i]?) = w.map some) {k : Nat} {q : Nat × va_E} (hq : w[k]? = some q) : ∃ i, i < ws.length ∧ ws[i]? = some q := by
  have h1 : (is.map (fun i => ws[i]?))[k]? = some (some q) := by rw [hs, List.getElem?_map, hq]; rfl
  rw [List.getElem?_map] at h1
  cases hi : is[k]? with
  | none => rw [hi] at h1; cases h1
  | some i =>
    rw [hi] at h1
    have h2 : ws[i]? = some q := Option.some.inj h1
    exact ⟨i, (List.getElem?_eq_some_iff.mp h2).1, h2⟩
/-- behind a call, in a world with a tail -/
theorem xj_join {A0 : Nat → Prop} {D : va_G} {cl : List vw_C} {ws wc wr w1 wt : va_W} {H H1 : Heap} (hP : va_P D cl (ws ++ wt) H) (hD : va_D A0 (ws ++ wt)) (isC isR : List Nat) (hC : isC.map (fun i => ws[i]?) = wc.map some) (hR : isR.map (fun i => ws[i]?) = wr.map some) (hn : va_nd isR = true) (hdis : ∀ i ∈ isR, i ∉ isC)
    (hk : ∀ q : Nat, q < H.size → ¬ va_A wc H.size q → H1[q]? = H[q]?) (hF : ∀ q, va_A wc H.size q → A0 q) (hP1 : va_P D cl w1 H1) (hD1 : va_D (va_A wc H.size) w1) : va_P D cl ((wr ++ w1) ++ wt) H1 ∧ va_D A0 ((wr ++ w1) ++ wt) := by
  have hPs : va_P D cl ws H := fun k q hq => hP k q (xj_l hq)
  have hPt : va_P D cl wt H := fun k q hq => hP _ q (xj_r hq)
  have hDs : va_D A0 ws := ⟨fun i j x y hx hy he => hD.1 i j x y (xj_l hx) (xj_l hy) he, fun k q hq => hD.2 k q (xj_l hq)⟩
  have hDt : va_D A0 wt := ⟨fun i j x y hx hy he => by
    have h := hD.1 _ _ x y (xj_r (ws := ws) hx) (xj_r (ws := ws) hy) he
    omega, fun k q hq => hD.2 _ q (xj_r (ws := ws) hq)⟩
  have far : ∀ (i k : Nat) (x y : Nat × va_E), ws[i]? = some x → wt[k]? = some y → x.1 ≠ y.1 := fun i k x y hx hy he => by
    have h := hD.1 _ _ x y (xj_l hx) (xj_r (ws := ws) hy) he
    have h2 := (List.getElem?_eq_some_iff.mp hx).1
    omega
  have apart : ∀ (k : Nat) (q : Nat × va_E), wt[k]? = some q → q.1 < H.size ∧ ¬ va_A wc H.size q.1 := by
    intro k q hq
    have hl := (hPt k q hq).lt
    refine ⟨hl, fun h => ?_⟩
    rcases h with ⟨k2, e, h⟩ | h
    · obtain ⟨i, -, h2⟩ := xj_at hC h
      exact far i k _ q h2 hq rfl
    · omega
  obtain ⟨h1, h2⟩ := va_join hPs hDs isC isR hC hR hn hdis hk hF hP1 hD1
  refine ⟨h1.app (fun k q hq => (hPt k q hq).kept (hk _ (apart k q hq).1 (apart k q hq).2)), h2.app hDt (fun i j x y hx hy he => ?_)⟩
  by_cases hi : i < wr.length
  · rw [List.getElem?_append_left hi] at hx
    obtain ⟨i2, -, h3⟩ := xj_at hR hx
    exact far i2 j x y h3 hy he
  · rw [List.getElem?_append_right (by omega)] at hx
    exact (apart j y hy).2 (by rw [← he]; exact hD1.2 _ x hx)
section XJ
variable {p : Program} {l : Launch} {e : Env} {R : Room} {s : State} {m : MethodId} {args : Array Value} {below : List Frame} {meth : Method} {c : Code} {H : Heap} {locs : List Loc} {cells slots : Nat} {Q : State → Prop}
variable {cc : ByteArray} {pc : Nat} {ls : Array Slot} {rest : List Value} {A : Nat → Prop} {H0 : Heap}
theorem xs_ld (hexec : p.tables.exec = Jvm.exec) (hb : c.code = cc) {b L : Nat} {xs : Nat → Int32} (hX : va_X b L xs s H0) (hbl : b < H0.size) (hbA : ¬ A b) (hL : L < 2 ^ 31) (hS : va_S A H0 H locs) (j : Nat) (hj : j < L) (hdg : decode cc pc = .ok (.iaload, 1))
    (kk : W p l e R s m args below meth c H locs cells slots Q (F0 m (pc + 1) ls (.int (xs j) :: rest))) : W p l e R s m args below meth c H locs cells slots Q (F0 m pc ls (.int (nI j) :: .ref b :: rest)) := by
  refine va_sld hexec hb hX hbl hbA hS (vp_in_nI hj hL) hdg ?_
  rw [nI_clamp (Nat.lt_trans hj hL)]
  exact kk
theorem xw_wid {k n : Nat} {g : JFrame} (h1 : cells ≤ k) (h2 : slots ≤ n) (kk : W p l e R s m args below meth c H locs k n Q g) : W p l e R s m args below meth c H locs cells slots Q g := fun T hT X => kk T hT (stand_widen X h1 h2)
end XJ
theorem xj_subP {D : va_G} {cl : List vw_C} {ws ws' wt : va_W} {H : Heap} (hP : va_P D cl (ws ++ wt) H) (is : List Nat) (hs : is.map (fun i => ws[i]?) = ws'.map some) : va_P D cl (ws' ++ wt) H :=
  va_P.app (fun k q hq => by
    obtain ⟨i, -, h⟩ := xj_at hs hq
    exact hP i q (xj_l h)) (fun k q hq => hP _ q (xj_r hq))
theorem xj_subD {A : Nat → Prop} {ws ws' wt : va_W} (hD : va_D A (ws ++ wt)) (is : List Nat) (hn : va_nd is = true) (hs : is.map (fun i => ws[i]?) = ws'.map some) : va_D A (ws' ++ wt) := by
  have hDs : va_D A ws := ⟨fun i j x y hx hy he => hD.1 i j x y (xj_l hx) (xj_l hy) he, fun k q hq => hD.2 k q (xj_l hq)⟩
  have hDt : va_D A wt := ⟨fun i j x y hx hy he => by
    have h := hD.1 _ _ x y (xj_r (ws := ws) hx) (xj_r (ws := ws) hy) he
    omega, fun k q hq => hD.2 _ q (xj_r (ws := ws) hq)⟩
  refine va_D.app (hDs.sub is hn hs) hDt (fun i j x y hx hy he => ?_)
  obtain ⟨i2, h2, h3⟩ := xj_at hs hx
  have h := hD.1 _ _ x y (xj_l h3) (xj_r (ws := ws) hy) he
  omega
section XSW
variable {p : Program} {l : Launch} {e : Env} {R : Room} {s : State} {m : MethodId} {args : Array Value} {below : List Frame} {meth : Method} {c : Code} {H : Heap} {locs : List Loc} {cells slots : Nat}
variable {y : MethodName} {bytes cc : ByteArray} {maxL nL mc ms n index : Nat} {ret : Option FieldType} {hh : List (Nat × Nat × Nat × Nat)} {ws ws' : List Cond} {rm : Room} {Pc : Array Value → State → Prop} {Qc : Array Value → State → Outcome → State → Prop} {free : Addr → Prop} {Ts : List Cond} {own : String} {As rest : List Value} {g : JFrame}
/-- a static call of a method with an exception table -/
theorem xs_runW (S : CallFix p m c cc nL s args Ts own) (hM : Met l y ws rm Pc Qc mc ms free) (hG : GoodIn Ts (va_wsS own index y ws)) (hw : ws = Cond.codeWith y bytes maxL ret hh :: ws') (hrc : rm.cells = mc) (hrs : rm.slots = ms)
    (hd : y.cls ≠ "java/lang/invoke/MethodHandle" ∧ y.cls ≠ "java/lang/invoke/VarHandle" ∧ (parseMethodDescriptor y.desc).map (fun d => d.parameters.length) = some n) (hR : rm.frames + 1 ≤ R.frames ∧ 8 + (maxL + 11) + rm.locals ≤ R.locals) (hp : PreS s H Pc As)
    (hg : g.method = m) (hn : As.length = n) (hsize : g.locals.size = nL) (hstack : g.stack = As.reverse ++ rest) (hW : 2 * g.monitorRoom + (rest.map fun v => v.category).sum ≤ 8) (hdg : decode cc g.pc = .ok (.invokestatic index, 3)) (hf : cells + mc ≤ R.cells ∧ slots + ms ≤ R.slots) :
    va_Run p l e R s m args below meth c H locs cells slots mc ms g rest (Qc As.toArray) free := by
  obtain ⟨hx, hb, hml, ho, ht⟩ := S
  have ok : ∀ w ∈ va_wsS own index y ws, w.before args s = true := fun w h => ht w (hG w h).1
  have hin : ∀ w ∈ ws, w ∈ va_wsS own index y ws := fun w h => by unfold va_wsS; exact List.mem_append_right _ h
  have hc : Cond.codeWith y bytes maxL ret hh ∈ ws := by rw [hw]; exact List.mem_cons_self
  have hcode : (Cond.codeWith y bytes maxL ret hh).before args s = true := ok _ (hin _ hc)
  have hini : (Cond.initialized y.cls).before args s = true := ok _ (by simp [va_wsS])
  have hl : (Cond.methodLink own index y).before args s = true := ok _ (by simp [va_wsS])
  have hstt : (Cond.static y).before args s = true := ok _ (by simp [va_wsS])
  have hK : Back l R p e below s args y 3 8 (PreOf R mc ms Pc) (PostOf Qc mc ms free) := va_backW (hh := hh) (bytes := bytes) (maxL := maxL) (ret := ret) hM hp.1 hrc hrs hR.1 hR.2 (pay_in ht (fun w h => hG w (hin w h))) hc (fun a' U hW => word_at hW (Or.inl (by first | rfl | simp [Cond.onTables, Cond.keeps, Cond.steady])) hini)
  obtain ⟨mk0, methM, cM, hnamed, hmethM, -, -, -, -, -, -, hsigM⟩ := Cond.codeWith_spec hcode
  have hstatic : methM.isStatic = true := Cond.static_spec hnamed hmethM hstt
  obtain ⟨kP, hkP, -⟩ := className_of_methodNamed hnamed
  have hinitP : kP.init = .initialized := Cond.initialized_spec (findClass_of_methodNamed hnamed) hkP hini
  have hlen : ∀ sig, parseMethodDescriptor y.desc = some sig → As.length = sig.parameters.length := fun sig h => by
    have h2 := hd.2.2
    rw [h] at h2
    exact hn.trans (Option.some.inj h2).symm
  intro T hT X
  obtain ⟨vm₁, X₁, hstep₁⟩ := X.invokestatic hx ho hl hnamed hmethM hstatic hkP hinitP ⟨hd.1, hd.2.1⟩ (g := g) hg (argsL := As) (rest := rest) (hlen _ hsigM) hstack (by rw [hb]; exact hdg)
  obtain ⟨v, ⟨U', l2, c2, s2⟩, X', ⟨g', mk, t, L, e1, e2, hq, h1, hL, h2, h3⟩, hsteps⟩ := hK m meth c ⟨T.setVm vm₁, locs, cells, slots⟩ { g with stack := rest } (.invokestatic index) mk0 As.toArray X₁ hg (hsize.trans hml.symm) (by rw [hb]; exact hdg) hW (X₁.named hnamed) ⟨hf.1, hf.2, hp.2 (T.setVm vm₁) hT X₁.warmed⟩
  dsimp only [Pt.U, Pt.locs, Pt.cells, Pt.slots] at X' e1 e2 h1 h2 h3 hsteps
  subst h1; subst h2; subst h3
  exact ⟨v, (T.setVm vm₁).calling g' mk As.toArray, t, U', L, hT, X', hL, e1, e2, hq, fun target h => hstep₁ _ fun acts => by rw [doInvoke_state]; exact hsteps.trans h⟩
end XSW
