/-! bs_: the reference's longs; a switch -/
theorem bs_jshr {n k : Nat} (hn : n < 2 ^ 63) (hk : k < 64) : j_lshr (lN n) (nI k) = lN (n / 2 ^ k) := by
  unfold j_lshr
  rw [wb_c k hk]
  apply wb_inj
  show ((lN n).toBitVec).sshiftRight' ((BitVec.ofNat 64 k).smod 64) = _
  rw [wb_sm k hk, BitVec.sshiftRight_eq', BitVec.toNat_ofNat, Nat.mod_eq_of_lt (Nat.lt_trans hk (by decide))]
  have hm : (lN n).toBitVec.msb = false := by
    rw [BitVec.msb_eq_decide, wb_tn (by omega)]
    exact decide_eq_false (by omega)
  rw [BitVec.sshiftRight_eq_of_msb_false hm, wb_tb]
  apply BitVec.eq_of_toNat_eq
  rw [BitVec.toNat_ushiftRight, ← wb_tb, wb_tn (by omega), Nat.shiftRight_eq_div_pow, wb_tn (Nat.lt_of_le_of_lt (Nat.div_le_self _ _) (by omega))]
theorem bs_L31 : (2147483647 : Int64) = lN (2 ^ 31 - 1) := by decide +kernel
theorem bs_L30 : (1073741823 : Int64) = lN (2 ^ 30 - 1) := by decide +kernel
theorem bs_mf1 {s : Nat} (h : s < 2 ^ 63) : j_lshr (lN s) (nI 31) * 1000003 = lN (s / 2147483648 * 1000003) := by
  rw [bs_jshr h (by decide), bs_LF, lN_mul]
theorem bs_mf2 {s : Nat} (h : s < 2 ^ 64) : (lN s &&& 2147483647) * 1000003 = lN (s % 2147483648 * 1000003) := by
  rw [bs_L31, wb_mask h (by decide), bs_LF, lN_mul]
theorem bs_mf3 {u a w : Nat} (h : u < 2 ^ 63) : ((j_lshr (lN u) (nI 30) + j_lshl (lN u &&& 1073741823) (nI 31)) + lN a) + lN w = lN (u / 1073741824 + u % 1073741824 * 2147483648 + a + w) := by
  rw [bs_jshr h (by decide), bs_L30, wb_mask (by omega) (by decide), bs_jshl _ (by decide), lN_add, lN_add, lN_add]
theorem bs_mf4 {n : Nat} (h : n < 2 ^ 63) : j_lshr (lN n) (nI 61) + (lN n &&& 2305843009213693951) = lN (n % 2305843009213693952 + n / 2305843009213693952) := by
  rw [bs_L61, wb_mask (by omega) (by decide), bs_jshr h (by decide), lN_add, Nat.add_comm]
section XSW
variable {p : Program} {l : Launch} {e : Env} {R : Room} {s : State} {m : MethodId} {args : Array Value} {below : List Frame} {meth : Method} {c : Code} {H : Heap} {locs : List Loc} {cells slots : Nat} {Q : State → Prop} {pc : Nat} {ls : Array Slot} {rest : List Value}
theorem xs_sw {cc : ByteArray} (hexec : p.tables.exec = Jvm.exec) (hb : c.code = cc) {x : Int32} {d lo hi off : Int} {os : Array Int} {len tgt : Nat} (hdg : decode cc pc = .ok (.tableswitch d lo hi os, len))
    (h : (¬ (x.toInt < lo ∨ x.toInt > hi) ∧ os[(x.toInt - lo).toNat]? = some off) ∨ ((x.toInt < lo ∨ x.toInt > hi) ∧ off = d)) (ht : (pc : Int) + off = (tgt : Int))
    (k : W p l e R s m args below meth c H locs cells slots Q (F0 m tgt ls rest)) : W p l e R s m args below meth c H locs cells slots Q (F0 m pc ls (.int x :: rest)) := by
  intro T hT X
  obtain ⟨t, a, b⟩ := k T hT X
  refine ⟨t, ?_, b⟩
  subst hb
  have h3 : 0 ≤ (pc : Int) + off := by omega
  have ht2 : ((pc : Int) + off).toNat = tgt := by omega
  rcases h with ⟨h1, h2⟩ | ⟨h1, rfl⟩
  · refine Stand.tableswitchIn (g := F0 m pc ls (.int x :: rest)) (k := x) (rest := rest) (default := d) (low := lo) (high := hi) (offsets := os) (len := len) (off := off) X hexec rfl rfl hdg h1 h2 h3 t ?_
    show Steps p.tables e below (T.setTop { F0 m pc ls (.int x :: rest) with pc := ((pc : Int) + off).toNat, stack := rest }) t
    rw [ht2]
    exact a
  · refine Stand.tableswitchOut (g := F0 m pc ls (.int x :: rest)) (k := x) (rest := rest) (default := off) (low := lo) (high := hi) (offsets := os) (len := len) X hexec rfl rfl hdg h1 h3 t ?_
    show Steps p.tables e below (T.setTop { F0 m pc ls (.int x :: rest) with pc := ((pc : Int) + off).toNat, stack := rest }) t
    rw [ht2]
    exact a
theorem bs_sw_o {x : Int32} (h : bs_ii x 8 = false) : x.toInt < 0 ∨ x.toInt > 7 := by
  have h := of_decide_eq_false h
  omega
end XSW
