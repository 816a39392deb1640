/-! BlindShelfModel: roundKeys -/
def bs_RC (q : Nat) : Nat := [1, 2, 4, 8, 16, 32, 64, 128, 27, 54, 108].getD q 0
theorem bs_RC_s : ∀ q, q < 10 → bs_tX (bs_RC q) = bs_RC (q + 1) ∧ bs_RC q < 256 := bs_dec (by decide +kernel)
def bs_rp (i : Nat) : Nat := if i % 4 = 0 then bs_RC (i / 4) else 0
theorem bs_rp_y {i x : Nat} (h : i % 4 = 0) : (x ^^^ bs_rp i) ^^^ bs_RC ((i + 3) / 4) = x := by
  unfold bs_rp
  rw [if_pos h, show (i + 3) / 4 = i / 4 by omega, Nat.xor_assoc, Nat.xor_self, Nat.xor_zero]
theorem bs_rp_n {i : Nat} (h : ¬ i % 4 = 0) : bs_rp i = 0 := by
  unfold bs_rp
  rw [if_neg h]
def bs_rv (K : Nat → Nat) (a i k : Nat) : Nat := if i % 4 = 0 then bs_SB (K (a + 4 * (i + 4) - 4 + (k + 1) % 4)) else K (a + 4 * (i + 4) - 4 + k)
theorem bs_rv_y {K : Nat → Nat} {a i k : Nat} (h : i % 4 = 0) : bs_SB (K (a + 4 * (i + 4) - 4 + (k + 1) % 4)) = bs_rv K a i k := by
  unfold bs_rv
  rw [if_pos h]
theorem bs_rv_n {K : Nat → Nat} {a i k : Nat} (h : ¬ i % 4 = 0) : K (a + 4 * (i + 4) - 4 + k) = bs_rv K a i k := by
  unfold bs_rv
  rw [if_neg h]
/-- the first n words behind a are K's -/
def bs_ov (K : Nat → Nat) (w : Nat → Int32) (a n : Nat) : Nat → Int32 := fun j => if a ≤ j ∧ j < a + n then nI (K j) else w j
def bs_oi (K : Nat → Nat) (w : Nat → Int32) (a n k p : Nat) : Nat → Int32 := fun j => if j = a + n ∧ 0 < k then nI (K j ^^^ p) else bs_ov K w a (n + k) j
theorem bs_oi_0 (K : Nat → Nat) (w : Nat → Int32) (a n p : Nat) : bs_oi K w a n 0 p = bs_ov K w a n := by
  funext j
  unfold bs_oi
  rw [if_neg (by omega)]
  rfl
theorem bs_oi_r {K : Nat → Nat} {w : Nat → Int32} {a n k p j : Nat} (h1 : a ≤ j) (h2 : j < a + n) : bs_oi K w a n k p j = nI (K j) := by
  unfold bs_oi bs_ov
  rw [if_neg (by omega), if_pos (by omega)]
theorem bs_oi_f {K : Nat → Nat} {w : Nat → Int32} {a n k p : Nat} (h : 0 < k) : bs_oi K w a n k p (a + n) = nI (K (a + n) ^^^ p) := by
  unfold bs_oi
  rw [if_pos ⟨rfl, h⟩]
theorem bs_oi_s (K : Nat → Nat) (w : Nat → Int32) (a n k p : Nat) : upd (bs_oi K w a n k p) (a + n + k) (nI (K (a + n + k) ^^^ (if k = 0 then p else 0))) = bs_oi K w a n (k + 1) p := by
  funext j
  unfold upd bs_oi bs_ov
  by_cases h : j = a + n + k
  · subst h
    rw [if_pos rfl]
    by_cases hk : k = 0
    · subst hk
      rw [if_pos rfl, if_pos (by omega)]
    · rw [if_neg hk, if_neg (by omega), if_pos (by omega), Nat.xor_zero]
  · rw [if_neg h]
    by_cases h2 : j = a + n ∧ 0 < k
    · rw [if_pos h2, if_pos (by omega)]
    · rw [if_neg h2, if_neg (show ¬ (j = a + n ∧ 0 < k + 1) by omega)]
      by_cases h3 : a ≤ j ∧ j < a + (n + k)
      · rw [if_pos h3, if_pos (by omega)]
      · rw [if_neg h3, if_neg (by omega)]
theorem bs_oi_z (K : Nat → Nat) (w : Nat → Int32) (a n k : Nat) (h : 0 < k) : bs_oi K w a n k 0 = bs_ov K w a (n + k) := by
  funext j
  unfold bs_oi bs_ov
  by_cases h2 : j = a + n ∧ 0 < k
  · rw [if_pos h2, if_pos (by omega), Nat.xor_zero]
  · rw [if_neg h2]
theorem bs_oi_y (K : Nat → Nat) (w : Nat → Int32) (a n k p : Nat) (h : 0 < k) : upd (bs_oi K w a n k p) (a + n) (nI (K (a + n))) = bs_ov K w a (n + k) := by
  funext j
  unfold upd bs_oi bs_ov
  by_cases h2 : j = a + n
  · subst h2
    rw [if_pos rfl, if_pos (by omega)]
  · rw [if_neg h2, if_neg (by omega)]
set_option maxHeartbeats 4000000 in
set_option maxRecDepth 100000 in
theorem c_MO_roundKeys (l : Launch) (dC : Nat → ClassId) (dI : Nat → Nat → Nat) (sz : Nat) (o xv xo xn xc xb xd xq xa xk xt xh xs xS xw xW xB xM xf xg xi : Nat) (th : Int32) (jf js : Int64) (jb : Int32) (nf ns : Int64) (nb : Int32) (cI : ClassId) (K : Nat → Nat) (a9 : Nat) (fw : Nat → Int32) (ha9 : a9 + 176 ≤ 352) (hKw : ∀ j, K j < 256) (hrec : ∀ i k, i < 40 → k < 4 → K (a9 + 4 * (i + 4) - 16 + k) ^^^ bs_rv K a9 i k = K (a9 + 4 * (i + 4) + k) ^^^ (if k = 0 then bs_rp i else 0)) : Met l yMO_roundKeys wsMO_roundKeys { frames := 0, cells := 0, slots := 0, locals := 0 } (va_Pc [.ref o, .int (nI a9)] (fun U => U.heap.size = sz ∧ va_P (dC, dI) vwCl [(o, .inr (6, [.int th, .ref xv, .ref xo, .ref xn, .ref xc, .ref xb, .ref xd, .ref xq, .ref xa, .ref xk, .ref xt, .ref xh, .ref xs, .ref xS, .ref xw, .ref xW, .ref xB, .ref xM, .long jf, .long js, .int jb, .long nf, .long ns, .int nb, .ref xf, .ref xg, .ref xi])), (xS, .inl (cI, 256, .inl (bs_fn bs_SB))), (xw, .inl (cI, 256, .inl (bs_fn bs_tX))), (xW, .inl (cI, 352, .inl (bs_ov K fw a9 16)))] U.heap ∧ va_K (dC, dI) vwCl [(cI, .int)] U ∧ va_D (fun _ => True) [(o, .inr (6, [.int th, .ref xv, .ref xo, .ref xn, .ref xc, .ref xb, .ref xd, .ref xq, .ref xa, .ref xk, .ref xt, .ref xh, .ref xs, .ref xS, .ref xw, .ref xW, .ref xB, .ref xM, .long jf, .long js, .int jb, .long nf, .long ns, .int nb, .ref xf, .ref xg, .ref xi])), (xS, .inl (cI, 256, .inl (bs_fn bs_SB))), (xw, .inl (cI, 256, .inl (bs_fn bs_tX))), (xW, .inl (cI, 352, .inl (bs_ov K fw a9 16)))])) (va_Qv (fun (_ : Unit) => True) (fun (_ : Unit) t => va_P (dC, dI) vwCl [(o, .inr (6, [.int th, .ref xv, .ref xo, .ref xn, .ref xc, .ref xb, .ref xd, .ref xq, .ref xa, .ref xk, .ref xt, .ref xh, .ref xs, .ref xS, .ref xw, .ref xW, .ref xB, .ref xM, .long jf, .long js, .int jb, .long nf, .long ns, .int nb, .ref xf, .ref xg, .ref xi])), (xS, .inl (cI, 256, .inl (bs_fn bs_SB))), (xw, .inl (cI, 256, .inl (bs_fn bs_tX))), (xW, .inl (cI, 352, .inl (bs_ov K fw a9 176)))] t.heap ∧ va_K (dC, dI) vwCl [(cI, .int)] t ∧ va_D (va_A [(o, .inr (6, [.int th, .ref xv, .ref xo, .ref xn, .ref xc, .ref xb, .ref xd, .ref xq, .ref xa, .ref xk, .ref xt, .ref xh, .ref xs, .ref xS, .ref xw, .ref xW, .ref xB, .ref xM, .long jf, .long js, .int jb, .long nf, .long ns, .int nb, .ref xf, .ref xg, .ref xi])), (xS, .inl (cI, 256, .inl (bs_fn bs_SB))), (xw, .inl (cI, 256, .inl (bs_fn bs_tX))), (xW, .inl (cI, 352, .inl (bs_ov K fw a9 16)))] sz) [(o, .inr (6, [.int th, .ref xv, .ref xo, .ref xn, .ref xc, .ref xb, .ref xd, .ref xq, .ref xa, .ref xk, .ref xt, .ref xh, .ref xs, .ref xS, .ref xw, .ref xW, .ref xB, .ref xM, .long jf, .long js, .int jb, .long nf, .long ns, .int nb, .ref xf, .ref xg, .ref xi])), (xS, .inl (cI, 256, .inl (bs_fn bs_SB))), (xw, .inl (cI, 256, .inl (bs_fn bs_tX))), (xW, .inl (cI, 352, .inl (bs_ov K fw a9 176)))]) (va_A [(o, .inr (6, [.int th, .ref xv, .ref xo, .ref xn, .ref xc, .ref xb, .ref xd, .ref xq, .ref xa, .ref xk, .ref xt, .ref xh, .ref xs, .ref xS, .ref xw, .ref xW, .ref xB, .ref xM, .long jf, .long js, .int jb, .long nf, .long ns, .int nb, .ref xf, .ref xg, .ref xi])), (xS, .inl (cI, 256, .inl (bs_fn bs_SB))), (xw, .inl (cI, 256, .inl (bs_fn bs_tX))), (xW, .inl (cI, 352, .inl (bs_ov K fw a9 16)))] sz)) 0 0 (va_A [(o, .inr (6, [.int th, .ref xv, .ref xo, .ref xn, .ref xc, .ref xb, .ref xd, .ref xq, .ref xa, .ref xk, .ref xt, .ref xh, .ref xs, .ref xS, .ref xw, .ref xW, .ref xB, .ref xM, .long jf, .long js, .int jb, .long nf, .long ns, .int nb, .ref xf, .ref xg, .ref xi])), (xS, .inl (cI, 256, .inl (bs_fn bs_SB))), (xw, .inl (cI, 256, .inl (bs_fn bs_tX))), (xW, .inl (cI, 352, .inl (bs_ov K fw a9 16)))] sz) := by
  refine Met.ofW (cc := cMO_roundKeys) (maxL := 7) (ret := none) (by decide) rfl ?_
  intro p e s m args below meth c s₁ Bo9 hml hv
  obtain ⟨rfl, hsz, hP, hK, hD0⟩ := hv
  have hx := Bo9.exec
  have hb := Bo9.bytes
  have hr := Bo9.returns
  have hts := fun w (h : w ∈ wT) => atoms_spec (ws := wsMO_roundKeys) Bo9.pre w (List.mem_cons_of_mem _ h)
  have hown : s.vm.findClass RMO = some m.cls := findClass_of_methodNamed Bo9.named
  have hlocks := Bo9.notSynchronized
  subst hsz
  have hD := hD0.self (sz := s.heap.size)
  generalize hAe : va_A [(o, .inr (6, [.int th, .ref xv, .ref xo, .ref xn, .ref xc, .ref xb, .ref xd, .ref xq, .ref xa, .ref xk, .ref xt, .ref xh, .ref xs, .ref xS, .ref xw, .ref xW, .ref xB, .ref xM, .long jf, .long js, .int jb, .long nf, .long ns, .int nb, .ref xf, .ref xg, .ref xi])), (xS, .inl (cI, 256, .inl (bs_fn bs_SB))), (xw, .inl (cI, 256, .inl (bs_fn bs_tX))), (xW, .inl (cI, 352, .inl (bs_ov K fw a9 16)))] s.heap.size = A at hD ⊢
  have hA : ∀ q : Nat, s.heap.size ≤ q → A q := fun q h => by rw [← hAe]; exact Or.inr h
  have hl := lv_entry ([.ref o, .int (nI a9)]) (n := 7) (Nat.le_of_ble_eq_true rfl)
  rw [lg_entry_eq]
  generalize (lg_sl ([.ref o, .int (nI a9)]) ++ List.replicate (7 - (lg_sl ([.ref o, .int (nI a9)])).length) Slot.unset).toArray = ls at hl ⊢
  have hl : lv_has ls 7 [(0, .ref o), (1, .int (nI a9))] := hl
  refine xs_q (fun H Q hH hQ => ?_)
  have hS : va_S A s.heap H [] := by rw [hH]; exact va_S.rf
  have hP : va_P (dC, dI) vwCl [(o, .inr (6, [.int th, .ref xv, .ref xo, .ref xn, .ref xc, .ref xb, .ref xd, .ref xq, .ref xa, .ref xk, .ref xt, .ref xh, .ref xs, .ref xS, .ref xw, .ref xW, .ref xB, .ref xM, .long jf, .long js, .int jb, .long nf, .long ns, .int nb, .ref xf, .ref xg, .ref xi])), (xS, .inl (cI, 256, .inl (bs_fn bs_SB))), (xw, .inl (cI, 256, .inl (bs_fn bs_tX))), (xW, .inl (cI, 352, .inl (bs_ov K fw a9 16)))] H := by rw [hH]; exact hP
  refine lv_iconst (v := nI 1) hx hb dMO_roundKeys_0 (by decide) ?_
  refine lv_istore_n (lv' := [(2, .int (nI 1)), (0, .ref o), (1, .int (nI a9))]) hx hb dMO_roundKeys_1 rfl hl (by decide) rfl (fun ls hl => ?_)
  refine lv_iconst (v := nI 4) hx hb dMO_roundKeys_2 (by decide) ?_
  refine lv_istore_n (lv' := [(3, .int (nI 4)), (2, .int (nI 1)), (0, .ref o), (1, .int (nI a9))]) hx hb dMO_roundKeys_3 rfl hl (by decide) rfl (fun ls hl => ?_)
  have loop : ∀ (n i : Nat), i + n = 40 → ∀ (H : Heap) (locs : List Loc) (ls : Array Slot), va_P (dC, dI) vwCl [(o, .inr (6, [.int th, .ref xv, .ref xo, .ref xn, .ref xc, .ref xb, .ref xd, .ref xq, .ref xa, .ref xk, .ref xt, .ref xh, .ref xs, .ref xS, .ref xw, .ref xW, .ref xB, .ref xM, .long jf, .long js, .int jb, .long nf, .long ns, .int nb, .ref xf, .ref xg, .ref xi])), (xS, .inl (cI, 256, .inl (bs_fn bs_SB))), (xw, .inl (cI, 256, .inl (bs_fn bs_tX))), (xW, .inl (cI, 352, .inl (bs_ov K fw a9 (4 * (i + 4)))))] H → va_D A [(o, .inr (6, [.int th, .ref xv, .ref xo, .ref xn, .ref xc, .ref xb, .ref xd, .ref xq, .ref xa, .ref xk, .ref xt, .ref xh, .ref xs, .ref xS, .ref xw, .ref xW, .ref xB, .ref xM, .long jf, .long js, .int jb, .long nf, .long ns, .int nb, .ref xf, .ref xg, .ref xi])), (xS, .inl (cI, 256, .inl (bs_fn bs_SB))), (xw, .inl (cI, 256, .inl (bs_fn bs_tX))), (xW, .inl (cI, 352, .inl (bs_ov K fw a9 (4 * (i + 4)))))] → va_S A s.heap H locs → lv_has ls 7 [(0, .ref o), (1, .int (nI a9)), (2, .int (nI (bs_RC ((i + 3) / 4)))), (3, .int (nI (i + 4)))] → W p l e (headSpec wsMO_roundKeys { frames := 0, cells := 0, slots := 0, locals := 0 }).room s m ([.ref o, .int (nI a9)] : List Value).toArray below meth c H locs 0 0 Q (F0 m 4 ls []) := by
    intro n
    induction n with
    | zero =>
      intro i hi H locs ls hP hD hS hl
      obtain rfl : i = 40 := by omega
      refine lv_iload_n hx hb dMO_roundKeys_4 rfl (lv_at hl 3 rfl) ?_
      refine lv_bipush (v := nI 44) hx hb dMO_roundKeys_5 (by decide) ?_
      refine lv_icmp_ge (tgt := 135) hx hb dMO_roundKeys_7 (by decide) (fun _ => ?_) (fun h => absurd (nI_le (by omega) (by omega)) h)
      have hP : va_P (dC, dI) vwCl [(o, .inr (6, [.int th, .ref xv, .ref xo, .ref xn, .ref xc, .ref xb, .ref xd, .ref xq, .ref xa, .ref xk, .ref xt, .ref xh, .ref xs, .ref xS, .ref xw, .ref xW, .ref xB, .ref xM, .long jf, .long js, .int jb, .long nf, .long ns, .int nb, .ref xf, .ref xg, .ref xi])), (xS, .inl (cI, 256, .inl (bs_fn bs_SB))), (xw, .inl (cI, 256, .inl (bs_fn bs_tX))), (xW, .inl (cI, 352, .inl (bs_ov K fw a9 176)))] H := hP
      have hD : va_D A [(o, .inr (6, [.int th, .ref xv, .ref xo, .ref xn, .ref xc, .ref xb, .ref xd, .ref xq, .ref xa, .ref xk, .ref xt, .ref xh, .ref xs, .ref xS, .ref xw, .ref xW, .ref xB, .ref xM, .long jf, .long js, .int jb, .long nf, .long ns, .int nb, .ref xf, .ref xg, .ref xi])), (xS, .inl (cI, 256, .inl (bs_fn bs_SB))), (xw, .inl (cI, 256, .inl (bs_fn bs_tX))), (xW, .inl (cI, 352, .inl (bs_ov K fw a9 176)))] := hD
      subst hQ
      exact W.vret hx hb hr (fun t ht hW => ⟨⟨(), rfl, trivial, by rw [ht]; exact hP, va_K.moved hW.alike hK, hD⟩, hS.F ht⟩) hS.2.2 dMO_roundKeys_135
    | succ n ih =>
      intro i hi H locs ls hP hD hS hl
      refine lv_iload_n hx hb dMO_roundKeys_4 rfl (lv_at hl 3 rfl) ?_
      refine lv_bipush (v := nI 44) hx hb dMO_roundKeys_5 (by decide) ?_
      refine lv_icmp_ge (tgt := 135) hx hb dMO_roundKeys_7 (by decide) (fun h => absurd h (nI_ge (by omega) (by omega))) (fun _ => ?_)
      refine lv_iload_n hx hb dMO_roundKeys_10 rfl (lv_at hl 1 rfl) ?_
      refine lv_iconst (v := nI 4) hx hb dMO_roundKeys_11 (by decide) ?_
      refine lv_iload_n hx hb dMO_roundKeys_12 rfl (lv_at hl 3 rfl) ?_
      refine lv_imul hx hb dMO_roundKeys_13 ?_
      refine xt_i (y := nI (4 * (i + 4))) (pk_mul _ _) ?_
      refine lv_iadd hx hb dMO_roundKeys_14 ?_
      refine xt_i (y := nI (a9 + 4 * (i + 4))) (nI_add _ _) ?_
      refine lv_istore (lv' := [(4, .int (nI (a9 + 4 * (i + 4)))), (0, .ref o), (1, .int (nI a9)), (2, .int (nI (bs_RC ((i + 3) / 4)))), (3, .int (nI (i + 4)))]) hx hb dMO_roundKeys_15 hl (by decide) rfl (fun ls hl => ?_)
      refine lv_iconst (v := nI 0) hx hb dMO_roundKeys_17 (by decide) ?_
      refine lv_istore (lv' := [(5, .int (nI 0)), (4, .int (nI (a9 + 4 * (i + 4)))), (0, .ref o), (1, .int (nI a9)), (2, .int (nI (bs_RC ((i + 3) / 4)))), (3, .int (nI (i + 4)))]) hx hb dMO_roundKeys_18 hl (by decide) rfl (fun ls hl => ?_)
      have loop2 : ∀ (n_k9 k9 : Nat), k9 + n_k9 = 4 → ∀ (H : Heap) (locs : List Loc) (ls : Array Slot), va_P (dC, dI) vwCl [(o, .inr (6, [.int th, .ref xv, .ref xo, .ref xn, .ref xc, .ref xb, .ref xd, .ref xq, .ref xa, .ref xk, .ref xt, .ref xh, .ref xs, .ref xS, .ref xw, .ref xW, .ref xB, .ref xM, .long jf, .long js, .int jb, .long nf, .long ns, .int nb, .ref xf, .ref xg, .ref xi])), (xS, .inl (cI, 256, .inl (bs_fn bs_SB))), (xw, .inl (cI, 256, .inl (bs_fn bs_tX))), (xW, .inl (cI, 352, .inl (bs_oi K fw a9 (4 * (i + 4)) k9 (bs_rp i))))] H → va_D A [(o, .inr (6, [.int th, .ref xv, .ref xo, .ref xn, .ref xc, .ref xb, .ref xd, .ref xq, .ref xa, .ref xk, .ref xt, .ref xh, .ref xs, .ref xS, .ref xw, .ref xW, .ref xB, .ref xM, .long jf, .long js, .int jb, .long nf, .long ns, .int nb, .ref xf, .ref xg, .ref xi])), (xS, .inl (cI, 256, .inl (bs_fn bs_SB))), (xw, .inl (cI, 256, .inl (bs_fn bs_tX))), (xW, .inl (cI, 352, .inl (bs_oi K fw a9 (4 * (i + 4)) k9 (bs_rp i))))] → va_S A s.heap H locs → lv_has ls 7 [(0, .ref o), (1, .int (nI a9)), (2, .int (nI (bs_RC ((i + 3) / 4)))), (3, .int (nI (i + 4))), (4, .int (nI (a9 + 4 * (i + 4)))), (5, .int (nI k9))] → W p l e (headSpec wsMO_roundKeys { frames := 0, cells := 0, slots := 0, locals := 0 }).room s m ([.ref o, .int (nI a9)] : List Value).toArray below meth c H locs 0 0 Q (F0 m 20 ls []) := by
        intro n_k9
        induction n_k9 with
        | zero =>
          intro k9 hi_k9 H locs ls hP hD hS hl
          obtain rfl : k9 = 4 := by omega
          refine lv_iload hx hb dMO_roundKeys_20 (lv_at hl 5 rfl) ?_
          refine lv_iconst (v := nI 4) hx hb dMO_roundKeys_22 (by decide) ?_
          refine lv_icmp_ge (tgt := 102) hx hb dMO_roundKeys_23 (by decide) (fun _ => ?_) (fun h => absurd (nI_le (by omega) (by omega)) h)
          refine lv_iload_n hx hb dMO_roundKeys_102 rfl (lv_at hl 3 rfl) ?_
          refine lv_iconst (v := nI 4) hx hb dMO_roundKeys_103 (by decide) ?_
          refine lv_irem hx hb dMO_roundKeys_104 (by decide) ?_
          refine xt_i (y := nI ((i + 4) % 4)) (pk_rem (by omega) (by decide) (by decide)) ?_
          refine lv_if_eq (tgt := 111) hx hb dMO_roundKeys_105 (by decide) (fun hc2 => ?_) (fun hc2 => ?_)
          · have h9 : i % 4 = 0 := by have h8 := (nI_eq (b := 0) (by omega) (by decide)).mp hc2; omega
            have q0 := bs_RC_s ((i + 3) / 4) (by omega)
            refine lv_aload_n hx hb dMO_roundKeys_111 rfl (lv_at hl 0 rfl) ?_
            refine va_get (D := (dC, dI)) (ci := 6) (v := .ref xW) (C := RMO) (T := TMO) (N := 27) hx hb hts in_MO hown hK hP 0 rfl rfl 15 (by decide) (hts _ w_f_MO_54) (fun _ h9 => h9) rfl dMO_roundKeys_112 ?_
            refine lv_iload hx hb dMO_roundKeys_115 (lv_at hl 4 rfl) ?_
            refine lv_dup2_11 hx hb dMO_roundKeys_117 rfl rfl ?_
            refine xa_iald hx hb hK hP 3 0 rfl rfl (a9 + 4 * (i + 4)) (by omega) (by decide) dMO_roundKeys_118 ?_
            refine xt_i (y := nI (K (a9 + 4 * (i + 4)) ^^^ bs_rp i)) (bs_oi_f (by decide)) ?_
            refine lv_iload_n hx hb dMO_roundKeys_119 rfl (lv_at hl 2 rfl) ?_
            refine lv_ixor hx hb dMO_roundKeys_120 ?_
            refine xt_i (y := nI ((K (a9 + 4 * (i + 4)) ^^^ bs_rp i) ^^^ (bs_RC ((i + 3) / 4)))) (bs_nI_xor _ _) ?_
            refine xt_i (y := nI (K (a9 + 4 * (i + 4)))) (congrArg nI (bs_rp_y h9)) ?_
            refine xa_iast hx hb hK hP hD hS 3 0 rfl rfl (a9 + 4 * (i + 4)) (by omega) (by decide) dMO_roundKeys_121 (fun H locs hP hD hS => ?_)
            have hP : va_P (dC, dI) vwCl [(o, .inr (6, [.int th, .ref xv, .ref xo, .ref xn, .ref xc, .ref xb, .ref xd, .ref xq, .ref xa, .ref xk, .ref xt, .ref xh, .ref xs, .ref xS, .ref xw, .ref xW, .ref xB, .ref xM, .long jf, .long js, .int jb, .long nf, .long ns, .int nb, .ref xf, .ref xg, .ref xi])), (xS, .inl (cI, 256, .inl (bs_fn bs_SB))), (xw, .inl (cI, 256, .inl (bs_fn bs_tX))), (xW, .inl (cI, 352, .inl (upd (bs_oi K fw a9 (4 * (i + 4)) 4 (bs_rp i)) (a9 + 4 * (i + 4)) (nI (K (a9 + 4 * (i + 4)))))))] H := hP
            have hD : va_D A [(o, .inr (6, [.int th, .ref xv, .ref xo, .ref xn, .ref xc, .ref xb, .ref xd, .ref xq, .ref xa, .ref xk, .ref xt, .ref xh, .ref xs, .ref xS, .ref xw, .ref xW, .ref xB, .ref xM, .long jf, .long js, .int jb, .long nf, .long ns, .int nb, .ref xf, .ref xg, .ref xi])), (xS, .inl (cI, 256, .inl (bs_fn bs_SB))), (xw, .inl (cI, 256, .inl (bs_fn bs_tX))), (xW, .inl (cI, 352, .inl (upd (bs_oi K fw a9 (4 * (i + 4)) 4 (bs_rp i)) (a9 + 4 * (i + 4)) (nI (K (a9 + 4 * (i + 4)))))))] := hD
            rw [bs_oi_y _ _ _ _ _ _ (by decide), show 4 * (i + 4) + 4 = 4 * (i + 1 + 4) by omega] at hP hD
            have hP : va_P (dC, dI) vwCl [(o, .inr (6, [.int th, .ref xv, .ref xo, .ref xn, .ref xc, .ref xb, .ref xd, .ref xq, .ref xa, .ref xk, .ref xt, .ref xh, .ref xs, .ref xS, .ref xw, .ref xW, .ref xB, .ref xM, .long jf, .long js, .int jb, .long nf, .long ns, .int nb, .ref xf, .ref xg, .ref xi])), (xS, .inl (cI, 256, .inl (bs_fn bs_SB))), (xw, .inl (cI, 256, .inl (bs_fn bs_tX))), (xW, .inl (cI, 352, .inl (bs_ov K fw a9 (4 * (i + 1 + 4)))))] H := hP
            have hD : va_D A [(o, .inr (6, [.int th, .ref xv, .ref xo, .ref xn, .ref xc, .ref xb, .ref xd, .ref xq, .ref xa, .ref xk, .ref xt, .ref xh, .ref xs, .ref xS, .ref xw, .ref xW, .ref xB, .ref xM, .long jf, .long js, .int jb, .long nf, .long ns, .int nb, .ref xf, .ref xg, .ref xi])), (xS, .inl (cI, 256, .inl (bs_fn bs_SB))), (xw, .inl (cI, 256, .inl (bs_fn bs_tX))), (xW, .inl (cI, 352, .inl (bs_ov K fw a9 (4 * (i + 1 + 4)))))] := hD
            refine lv_aload_n hx hb dMO_roundKeys_122 rfl (lv_at hl 0 rfl) ?_
            refine va_get (D := (dC, dI)) (ci := 6) (v := .ref xw) (C := RMO) (T := TMO) (N := 27) hx hb hts in_MO hown hK hP 0 rfl rfl 14 (by decide) (hts _ w_f_MO_51) (fun _ h9 => h9) rfl dMO_roundKeys_123 ?_
            refine lv_iload_n hx hb dMO_roundKeys_126 rfl (lv_at hl 2 rfl) ?_
            refine xa_iald hx hb hK hP 2 0 rfl rfl (bs_RC ((i + 3) / 4)) (q0.2) (by decide) dMO_roundKeys_127 ?_
            refine xt_i (y := nI (bs_tX (bs_RC ((i + 3) / 4)))) (rfl) ?_
            refine xt_i (y := nI (bs_RC ((i + 1 + 3) / 4))) (congrArg nI (by rw [q0.1]; exact congrArg bs_RC (by omega))) ?_
            refine lv_istore_n (lv' := [(2, .int (nI (bs_RC ((i + 1 + 3) / 4)))), (0, .ref o), (1, .int (nI a9)), (3, .int (nI (i + 4))), (4, .int (nI (a9 + 4 * (i + 4)))), (5, .int (nI 4))]) hx hb dMO_roundKeys_128 rfl hl (by decide) rfl (fun ls hl => ?_)
            refine lv_iinc (k := 3) (v := nI (i + 1 + 4)) (lv' := [(3, .int (nI (i + 1 + 4))), (2, .int (nI (bs_RC ((i + 1 + 3) / 4)))), (0, .ref o), (1, .int (nI a9)), (4, .int (nI (a9 + 4 * (i + 4)))), (5, .int (nI 4))]) hx hb dMO_roundKeys_129 hl rfl ((xi_1 _).trans (congrArg nI (by omega))) (by decide) rfl (fun ls hl => ?_)
            refine lv_goto (tgt := 4) hx hb dMO_roundKeys_132 (by decide) ?_
            have hP : va_P (dC, dI) vwCl [(o, .inr (6, [.int th, .ref xv, .ref xo, .ref xn, .ref xc, .ref xb, .ref xd, .ref xq, .ref xa, .ref xk, .ref xt, .ref xh, .ref xs, .ref xS, .ref xw, .ref xW, .ref xB, .ref xM, .long jf, .long js, .int jb, .long nf, .long ns, .int nb, .ref xf, .ref xg, .ref xi])), (xS, .inl (cI, 256, .inl (bs_fn bs_SB))), (xw, .inl (cI, 256, .inl (bs_fn bs_tX))), (xW, .inl (cI, 352, .inl (bs_ov K fw a9 (4 * (i + 1 + 4)))))] H := hP
            have hD : va_D A [(o, .inr (6, [.int th, .ref xv, .ref xo, .ref xn, .ref xc, .ref xb, .ref xd, .ref xq, .ref xa, .ref xk, .ref xt, .ref xh, .ref xs, .ref xS, .ref xw, .ref xW, .ref xB, .ref xM, .long jf, .long js, .int jb, .long nf, .long ns, .int nb, .ref xf, .ref xg, .ref xi])), (xS, .inl (cI, 256, .inl (bs_fn bs_SB))), (xw, .inl (cI, 256, .inl (bs_fn bs_tX))), (xW, .inl (cI, 352, .inl (bs_ov K fw a9 (4 * (i + 1 + 4)))))] := hD
            have hl := lv_sub hl (l' := [(0, .ref o), (1, .int (nI a9)), (2, .int (nI (bs_RC ((i + 1 + 3) / 4)))), (3, .int (nI (i + 1 + 4)))]) [2, 3, 1, 0] rfl
            have hl : lv_has ls 7 [(0, .ref o), (1, .int (nI a9)), (2, .int (nI (bs_RC ((i + 1 + 3) / 4)))), (3, .int (nI (i + 1 + 4)))] := hl
            exact ih (i + 1) (by omega) H _ ls hP hD hS hl
          · have h9 : ¬ i % 4 = 0 := fun q => hc2 (by rw [show (i + 4) % 4 = 0 by omega]; rfl)
            rw [bs_rp_n h9, bs_oi_z _ _ _ _ _ (by decide), show 4 * (i + 4) + 4 = 4 * (i + 1 + 4) by omega] at hP hD
            have hP : va_P (dC, dI) vwCl [(o, .inr (6, [.int th, .ref xv, .ref xo, .ref xn, .ref xc, .ref xb, .ref xd, .ref xq, .ref xa, .ref xk, .ref xt, .ref xh, .ref xs, .ref xS, .ref xw, .ref xW, .ref xB, .ref xM, .long jf, .long js, .int jb, .long nf, .long ns, .int nb, .ref xf, .ref xg, .ref xi])), (xS, .inl (cI, 256, .inl (bs_fn bs_SB))), (xw, .inl (cI, 256, .inl (bs_fn bs_tX))), (xW, .inl (cI, 352, .inl (bs_ov K fw a9 (4 * (i + 1 + 4)))))] H := hP
            have hD : va_D A [(o, .inr (6, [.int th, .ref xv, .ref xo, .ref xn, .ref xc, .ref xb, .ref xd, .ref xq, .ref xa, .ref xk, .ref xt, .ref xh, .ref xs, .ref xS, .ref xw, .ref xW, .ref xB, .ref xM, .long jf, .long js, .int jb, .long nf, .long ns, .int nb, .ref xf, .ref xg, .ref xi])), (xS, .inl (cI, 256, .inl (bs_fn bs_SB))), (xw, .inl (cI, 256, .inl (bs_fn bs_tX))), (xW, .inl (cI, 352, .inl (bs_ov K fw a9 (4 * (i + 1 + 4)))))] := hD
            rw [show (i + 3) / 4 = (i + 1 + 3) / 4 by omega] at hl
            refine lv_goto (tgt := 129) hx hb dMO_roundKeys_108 (by decide) ?_
            refine lv_iinc (k := 3) (v := nI (i + 1 + 4)) (lv' := [(3, .int (nI (i + 1 + 4))), (0, .ref o), (1, .int (nI a9)), (2, .int (nI (bs_RC ((i + 1 + 3) / 4)))), (4, .int (nI (a9 + 4 * (i + 4)))), (5, .int (nI 4))]) hx hb dMO_roundKeys_129 hl rfl ((xi_1 _).trans (congrArg nI (by omega))) (by decide) rfl (fun ls hl => ?_)
            refine lv_goto (tgt := 4) hx hb dMO_roundKeys_132 (by decide) ?_
            have hP : va_P (dC, dI) vwCl [(o, .inr (6, [.int th, .ref xv, .ref xo, .ref xn, .ref xc, .ref xb, .ref xd, .ref xq, .ref xa, .ref xk, .ref xt, .ref xh, .ref xs, .ref xS, .ref xw, .ref xW, .ref xB, .ref xM, .long jf, .long js, .int jb, .long nf, .long ns, .int nb, .ref xf, .ref xg, .ref xi])), (xS, .inl (cI, 256, .inl (bs_fn bs_SB))), (xw, .inl (cI, 256, .inl (bs_fn bs_tX))), (xW, .inl (cI, 352, .inl (bs_ov K fw a9 (4 * (i + 1 + 4)))))] H := hP
            have hD : va_D A [(o, .inr (6, [.int th, .ref xv, .ref xo, .ref xn, .ref xc, .ref xb, .ref xd, .ref xq, .ref xa, .ref xk, .ref xt, .ref xh, .ref xs, .ref xS, .ref xw, .ref xW, .ref xB, .ref xM, .long jf, .long js, .int jb, .long nf, .long ns, .int nb, .ref xf, .ref xg, .ref xi])), (xS, .inl (cI, 256, .inl (bs_fn bs_SB))), (xw, .inl (cI, 256, .inl (bs_fn bs_tX))), (xW, .inl (cI, 352, .inl (bs_ov K fw a9 (4 * (i + 1 + 4)))))] := hD
            have hl := lv_sub hl (l' := [(0, .ref o), (1, .int (nI a9)), (2, .int (nI (bs_RC ((i + 1 + 3) / 4)))), (3, .int (nI (i + 1 + 4)))]) [1, 2, 3, 0] rfl
            have hl : lv_has ls 7 [(0, .ref o), (1, .int (nI a9)), (2, .int (nI (bs_RC ((i + 1 + 3) / 4)))), (3, .int (nI (i + 1 + 4)))] := hl
            exact ih (i + 1) (by omega) H _ ls hP hD hS hl
        | succ n_k9 ih_k9 =>
          intro k9 hi_k9 H locs ls hP hD hS hl
          refine lv_iload hx hb dMO_roundKeys_20 (lv_at hl 5 rfl) ?_
          refine lv_iconst (v := nI 4) hx hb dMO_roundKeys_22 (by decide) ?_
          refine lv_icmp_ge (tgt := 102) hx hb dMO_roundKeys_23 (by decide) (fun h => absurd h (nI_ge (by omega) (by omega))) (fun _ => ?_)
          refine lv_iload_n hx hb dMO_roundKeys_26 rfl (lv_at hl 3 rfl) ?_
          refine lv_iconst (v := nI 4) hx hb dMO_roundKeys_27 (by decide) ?_
          refine lv_irem hx hb dMO_roundKeys_28 (by decide) ?_
          refine xt_i (y := nI ((i + 4) % 4)) (pk_rem (by omega) (by decide) (by decide)) ?_
          have k1 : ∀ (H : Heap) (locs : List Loc), va_P (dC, dI) vwCl [(o, .inr (6, [.int th, .ref xv, .ref xo, .ref xn, .ref xc, .ref xb, .ref xd, .ref xq, .ref xa, .ref xk, .ref xt, .ref xh, .ref xs, .ref xS, .ref xw, .ref xW, .ref xB, .ref xM, .long jf, .long js, .int jb, .long nf, .long ns, .int nb, .ref xf, .ref xg, .ref xi])), (xS, .inl (cI, 256, .inl (bs_fn bs_SB))), (xw, .inl (cI, 256, .inl (bs_fn bs_tX))), (xW, .inl (cI, 352, .inl (bs_oi K fw a9 (4 * (i + 4)) k9 (bs_rp i))))] H → va_D A [(o, .inr (6, [.int th, .ref xv, .ref xo, .ref xn, .ref xc, .ref xb, .ref xd, .ref xq, .ref xa, .ref xk, .ref xt, .ref xh, .ref xs, .ref xS, .ref xw, .ref xW, .ref xB, .ref xM, .long jf, .long js, .int jb, .long nf, .long ns, .int nb, .ref xf, .ref xg, .ref xi])), (xS, .inl (cI, 256, .inl (bs_fn bs_SB))), (xw, .inl (cI, 256, .inl (bs_fn bs_tX))), (xW, .inl (cI, 352, .inl (bs_oi K fw a9 (4 * (i + 4)) k9 (bs_rp i))))] → va_S A s.heap H locs → W p l e (headSpec wsMO_roundKeys { frames := 0, cells := 0, slots := 0, locals := 0 }).room s m ([.ref o, .int (nI a9)] : List Value).toArray below meth c H locs 0 0 Q (F0 m 68 ls [.int (nI (bs_rv K a9 i k9))]) := by
            intro H locs hP hD hS
            refine lv_istore (lv' := [(6, .int (nI (bs_rv K a9 i k9))), (0, .ref o), (1, .int (nI a9)), (2, .int (nI (bs_RC ((i + 3) / 4)))), (3, .int (nI (i + 4))), (4, .int (nI (a9 + 4 * (i + 4)))), (5, .int (nI k9))]) hx hb dMO_roundKeys_68 hl (by decide) rfl (fun ls hl => ?_)
            refine lv_aload_n hx hb dMO_roundKeys_70 rfl (lv_at hl 1 rfl) ?_
            refine va_get (D := (dC, dI)) (ci := 6) (v := .ref xW) (C := RMO) (T := TMO) (N := 27) hx hb hts in_MO hown hK hP 0 rfl rfl 15 (by decide) (hts _ w_f_MO_54) (fun _ h9 => h9) rfl dMO_roundKeys_71 ?_
            refine lv_iload hx hb dMO_roundKeys_74 (lv_at hl 5 rfl) ?_
            refine lv_iload hx hb dMO_roundKeys_76 (lv_at hl 6 rfl) ?_
            refine lv_iadd hx hb dMO_roundKeys_78 ?_
            refine xt_i (y := nI (a9 + 4 * (i + 4) + k9)) (nI_add _ _) ?_
            refine lv_aload_n hx hb dMO_roundKeys_79 rfl (lv_at hl 1 rfl) ?_
            refine va_get (D := (dC, dI)) (ci := 6) (v := .ref xW) (C := RMO) (T := TMO) (N := 27) hx hb hts in_MO hown hK hP 0 rfl rfl 15 (by decide) (hts _ w_f_MO_54) (fun _ h9 => h9) rfl dMO_roundKeys_80 ?_
            refine lv_iload hx hb dMO_roundKeys_83 (lv_at hl 5 rfl) ?_
            refine lv_bipush (v := nI 16) hx hb dMO_roundKeys_85 (by decide) ?_
            refine lv_isub hx hb dMO_roundKeys_87 ?_
            refine xt_i (y := nI (a9 + 4 * (i + 4) - 16)) (pk_sub (by omega)) ?_
            refine lv_iload hx hb dMO_roundKeys_88 (lv_at hl 6 rfl) ?_
            refine lv_iadd hx hb dMO_roundKeys_90 ?_
            refine xt_i (y := nI (a9 + 4 * (i + 4) - 16 + k9)) (nI_add _ _) ?_
            refine xa_iald hx hb hK hP 3 0 rfl rfl (a9 + 4 * (i + 4) - 16 + k9) (by omega) (by decide) dMO_roundKeys_91 ?_
            refine xt_i (y := nI (K (a9 + 4 * (i + 4) - 16 + k9))) (bs_oi_r (by omega) (by omega)) ?_
            refine lv_iload hx hb dMO_roundKeys_92 (lv_at hl 0 rfl) ?_
            refine lv_ixor hx hb dMO_roundKeys_94 ?_
            refine xt_i (y := nI ((K (a9 + 4 * (i + 4) - 16 + k9)) ^^^ (bs_rv K a9 i k9))) (bs_nI_xor _ _) ?_
            refine xt_i (y := nI (K (a9 + 4 * (i + 4) + k9) ^^^ (if k9 = 0 then bs_rp i else 0))) (congrArg nI (hrec i k9 (by omega) (by omega))) ?_
            refine xa_iast hx hb hK hP hD hS 3 0 rfl rfl (a9 + 4 * (i + 4) + k9) (by omega) (by decide) dMO_roundKeys_95 (fun H locs hP hD hS => ?_)
            have hP : va_P (dC, dI) vwCl [(o, .inr (6, [.int th, .ref xv, .ref xo, .ref xn, .ref xc, .ref xb, .ref xd, .ref xq, .ref xa, .ref xk, .ref xt, .ref xh, .ref xs, .ref xS, .ref xw, .ref xW, .ref xB, .ref xM, .long jf, .long js, .int jb, .long nf, .long ns, .int nb, .ref xf, .ref xg, .ref xi])), (xS, .inl (cI, 256, .inl (bs_fn bs_SB))), (xw, .inl (cI, 256, .inl (bs_fn bs_tX))), (xW, .inl (cI, 352, .inl (upd (bs_oi K fw a9 (4 * (i + 4)) k9 (bs_rp i)) (a9 + 4 * (i + 4) + k9) (nI (K (a9 + 4 * (i + 4) + k9) ^^^ (if k9 = 0 then bs_rp i else 0))))))] H := hP
            have hD : va_D A [(o, .inr (6, [.int th, .ref xv, .ref xo, .ref xn, .ref xc, .ref xb, .ref xd, .ref xq, .ref xa, .ref xk, .ref xt, .ref xh, .ref xs, .ref xS, .ref xw, .ref xW, .ref xB, .ref xM, .long jf, .long js, .int jb, .long nf, .long ns, .int nb, .ref xf, .ref xg, .ref xi])), (xS, .inl (cI, 256, .inl (bs_fn bs_SB))), (xw, .inl (cI, 256, .inl (bs_fn bs_tX))), (xW, .inl (cI, 352, .inl (upd (bs_oi K fw a9 (4 * (i + 4)) k9 (bs_rp i)) (a9 + 4 * (i + 4) + k9) (nI (K (a9 + 4 * (i + 4) + k9) ^^^ (if k9 = 0 then bs_rp i else 0))))))] := hD
            rw [bs_oi_s] at hP hD
            refine lv_iinc (k := 6) (v := nI (k9 + 1)) (lv' := [(5, .int (nI (k9 + 1))), (6, .int (nI (bs_rv K a9 i k9))), (0, .ref o), (1, .int (nI a9)), (2, .int (nI (bs_RC ((i + 3) / 4)))), (3, .int (nI (i + 4))), (4, .int (nI (a9 + 4 * (i + 4))))]) hx hb dMO_roundKeys_96 hl rfl (xi_1 _) (by decide) rfl (fun ls hl => ?_)
            refine lv_goto (tgt := 20) hx hb dMO_roundKeys_99 (by decide) ?_
            have hP : va_P (dC, dI) vwCl [(o, .inr (6, [.int th, .ref xv, .ref xo, .ref xn, .ref xc, .ref xb, .ref xd, .ref xq, .ref xa, .ref xk, .ref xt, .ref xh, .ref xs, .ref xS, .ref xw, .ref xW, .ref xB, .ref xM, .long jf, .long js, .int jb, .long nf, .long ns, .int nb, .ref xf, .ref xg, .ref xi])), (xS, .inl (cI, 256, .inl (bs_fn bs_SB))), (xw, .inl (cI, 256, .inl (bs_fn bs_tX))), (xW, .inl (cI, 352, .inl (bs_oi K fw a9 (4 * (i + 4)) (k9 + 1) (bs_rp i))))] H := hP
            have hD : va_D A [(o, .inr (6, [.int th, .ref xv, .ref xo, .ref xn, .ref xc, .ref xb, .ref xd, .ref xq, .ref xa, .ref xk, .ref xt, .ref xh, .ref xs, .ref xS, .ref xw, .ref xW, .ref xB, .ref xM, .long jf, .long js, .int jb, .long nf, .long ns, .int nb, .ref xf, .ref xg, .ref xi])), (xS, .inl (cI, 256, .inl (bs_fn bs_SB))), (xw, .inl (cI, 256, .inl (bs_fn bs_tX))), (xW, .inl (cI, 352, .inl (bs_oi K fw a9 (4 * (i + 4)) (k9 + 1) (bs_rp i))))] := hD
            have hl := lv_sub hl (l' := [(0, .ref o), (1, .int (nI a9)), (2, .int (nI (bs_RC ((i + 3) / 4)))), (3, .int (nI (i + 4))), (4, .int (nI (a9 + 4 * (i + 4)))), (5, .int (nI (k9 + 1)))]) [2, 3, 4, 5, 6, 0] rfl
            have hl : lv_has ls 7 [(0, .ref o), (1, .int (nI a9)), (2, .int (nI (bs_RC ((i + 3) / 4)))), (3, .int (nI (i + 4))), (4, .int (nI (a9 + 4 * (i + 4)))), (5, .int (nI (k9 + 1)))] := hl
            exact ih_k9 (k9 + 1) (by omega) H _ ls hP hD hS hl
          refine lv_if_ne (tgt := 56) hx hb dMO_roundKeys_29 (by decide) (fun hc => ?_) (fun hc => ?_)
          · refine lv_aload_n hx hb dMO_roundKeys_56 rfl (lv_at hl 0 rfl) ?_
            refine va_get (D := (dC, dI)) (ci := 6) (v := .ref xW) (C := RMO) (T := TMO) (N := 27) hx hb hts in_MO hown hK hP 0 rfl rfl 15 (by decide) (hts _ w_f_MO_54) (fun _ h9 => h9) rfl dMO_roundKeys_57 ?_
            refine lv_iload hx hb dMO_roundKeys_60 (lv_at hl 4 rfl) ?_
            refine lv_iconst (v := nI 4) hx hb dMO_roundKeys_62 (by decide) ?_
            refine lv_isub hx hb dMO_roundKeys_63 ?_
            refine xt_i (y := nI (a9 + 4 * (i + 4) - 4)) (pk_sub (by omega)) ?_
            refine lv_iload hx hb dMO_roundKeys_64 (lv_at hl 5 rfl) ?_
            refine lv_iadd hx hb dMO_roundKeys_66 ?_
            refine xt_i (y := nI (a9 + 4 * (i + 4) - 4 + k9)) (nI_add _ _) ?_
            refine xa_iald hx hb hK hP 3 0 rfl rfl (a9 + 4 * (i + 4) - 4 + k9) (by omega) (by decide) dMO_roundKeys_67 ?_
            refine xt_i (y := nI (K (a9 + 4 * (i + 4) - 4 + k9))) (bs_oi_r (by omega) (by omega)) ?_
            refine xt_i (y := nI (bs_rv K a9 i k9)) (congrArg nI (bs_rv_n (fun q => hc (by rw [show (i + 4) % 4 = 0 by omega]; rfl)))) ?_
            have hP : va_P (dC, dI) vwCl [(o, .inr (6, [.int th, .ref xv, .ref xo, .ref xn, .ref xc, .ref xb, .ref xd, .ref xq, .ref xa, .ref xk, .ref xt, .ref xh, .ref xs, .ref xS, .ref xw, .ref xW, .ref xB, .ref xM, .long jf, .long js, .int jb, .long nf, .long ns, .int nb, .ref xf, .ref xg, .ref xi])), (xS, .inl (cI, 256, .inl (bs_fn bs_SB))), (xw, .inl (cI, 256, .inl (bs_fn bs_tX))), (xW, .inl (cI, 352, .inl (bs_oi K fw a9 (4 * (i + 4)) k9 (bs_rp i))))] H := hP
            have hD : va_D A [(o, .inr (6, [.int th, .ref xv, .ref xo, .ref xn, .ref xc, .ref xb, .ref xd, .ref xq, .ref xa, .ref xk, .ref xt, .ref xh, .ref xs, .ref xS, .ref xw, .ref xW, .ref xB, .ref xM, .long jf, .long js, .int jb, .long nf, .long ns, .int nb, .ref xf, .ref xg, .ref xi])), (xS, .inl (cI, 256, .inl (bs_fn bs_SB))), (xw, .inl (cI, 256, .inl (bs_fn bs_tX))), (xW, .inl (cI, 352, .inl (bs_oi K fw a9 (4 * (i + 4)) k9 (bs_rp i))))] := hD
            exact k1 H _ hP hD hS
          · refine lv_aload_n hx hb dMO_roundKeys_32 rfl (lv_at hl 0 rfl) ?_
            refine va_get (D := (dC, dI)) (ci := 6) (v := .ref xS) (C := RMO) (T := TMO) (N := 27) hx hb hts in_MO hown hK hP 0 rfl rfl 13 (by decide) (hts _ w_f_MO_48) (fun _ h9 => h9) rfl dMO_roundKeys_33 ?_
            refine lv_aload_n hx hb dMO_roundKeys_36 rfl (lv_at hl 0 rfl) ?_
            refine va_get (D := (dC, dI)) (ci := 6) (v := .ref xW) (C := RMO) (T := TMO) (N := 27) hx hb hts in_MO hown hK hP 0 rfl rfl 15 (by decide) (hts _ w_f_MO_54) (fun _ h9 => h9) rfl dMO_roundKeys_37 ?_
            refine lv_iload hx hb dMO_roundKeys_40 (lv_at hl 4 rfl) ?_
            refine lv_iconst (v := nI 4) hx hb dMO_roundKeys_42 (by decide) ?_
            refine lv_isub hx hb dMO_roundKeys_43 ?_
            refine xt_i (y := nI (a9 + 4 * (i + 4) - 4)) (pk_sub (by omega)) ?_
            refine lv_iload hx hb dMO_roundKeys_44 (lv_at hl 5 rfl) ?_
            refine lv_iconst (v := nI 1) hx hb dMO_roundKeys_46 (by decide) ?_
            refine lv_iadd hx hb dMO_roundKeys_47 ?_
            refine xt_i (y := nI (k9 + 1)) (nI_add _ _) ?_
            refine lv_iconst (v := nI 4) hx hb dMO_roundKeys_48 (by decide) ?_
            refine lv_irem hx hb dMO_roundKeys_49 (by decide) ?_
            refine xt_i (y := nI ((k9 + 1) % 4)) (pk_rem (by omega) (by decide) (by decide)) ?_
            refine lv_iadd hx hb dMO_roundKeys_50 ?_
            refine xt_i (y := nI (a9 + 4 * (i + 4) - 4 + (k9 + 1) % 4)) (nI_add _ _) ?_
            refine xa_iald hx hb hK hP 3 0 rfl rfl (a9 + 4 * (i + 4) - 4 + (k9 + 1) % 4) (by omega) (by decide) dMO_roundKeys_51 ?_
            refine xt_i (y := nI (K (a9 + 4 * (i + 4) - 4 + (k9 + 1) % 4))) (bs_oi_r (by omega) (by omega)) ?_
            refine xa_iald hx hb hK hP 1 0 rfl rfl (K (a9 + 4 * (i + 4) - 4 + (k9 + 1) % 4)) (hKw _) (by decide) dMO_roundKeys_52 ?_
            refine xt_i (y := nI (bs_SB (K (a9 + 4 * (i + 4) - 4 + (k9 + 1) % 4)))) (rfl) ?_
            refine lv_goto (tgt := 68) hx hb dMO_roundKeys_53 (by decide) ?_
            refine xt_i (y := nI (bs_rv K a9 i k9)) (congrArg nI (bs_rv_y (by have h9 := (nI_eq (b := 0) (by omega) (by decide)).mp hc; omega))) ?_
            have hP : va_P (dC, dI) vwCl [(o, .inr (6, [.int th, .ref xv, .ref xo, .ref xn, .ref xc, .ref xb, .ref xd, .ref xq, .ref xa, .ref xk, .ref xt, .ref xh, .ref xs, .ref xS, .ref xw, .ref xW, .ref xB, .ref xM, .long jf, .long js, .int jb, .long nf, .long ns, .int nb, .ref xf, .ref xg, .ref xi])), (xS, .inl (cI, 256, .inl (bs_fn bs_SB))), (xw, .inl (cI, 256, .inl (bs_fn bs_tX))), (xW, .inl (cI, 352, .inl (bs_oi K fw a9 (4 * (i + 4)) k9 (bs_rp i))))] H := hP
            have hD : va_D A [(o, .inr (6, [.int th, .ref xv, .ref xo, .ref xn, .ref xc, .ref xb, .ref xd, .ref xq, .ref xa, .ref xk, .ref xt, .ref xh, .ref xs, .ref xS, .ref xw, .ref xW, .ref xB, .ref xM, .long jf, .long js, .int jb, .long nf, .long ns, .int nb, .ref xf, .ref xg, .ref xi])), (xS, .inl (cI, 256, .inl (bs_fn bs_SB))), (xw, .inl (cI, 256, .inl (bs_fn bs_tX))), (xW, .inl (cI, 352, .inl (bs_oi K fw a9 (4 * (i + 4)) k9 (bs_rp i))))] := hD
            exact k1 H _ hP hD hS
      have hP : va_P (dC, dI) vwCl [(o, .inr (6, [.int th, .ref xv, .ref xo, .ref xn, .ref xc, .ref xb, .ref xd, .ref xq, .ref xa, .ref xk, .ref xt, .ref xh, .ref xs, .ref xS, .ref xw, .ref xW, .ref xB, .ref xM, .long jf, .long js, .int jb, .long nf, .long ns, .int nb, .ref xf, .ref xg, .ref xi])), (xS, .inl (cI, 256, .inl (bs_fn bs_SB))), (xw, .inl (cI, 256, .inl (bs_fn bs_tX))), (xW, .inl (cI, 352, .inl (bs_oi K fw a9 (4 * (i + 4)) 0 (bs_rp i))))] H := by rw [bs_oi_0]; exact hP
      have hD : va_D A [(o, .inr (6, [.int th, .ref xv, .ref xo, .ref xn, .ref xc, .ref xb, .ref xd, .ref xq, .ref xa, .ref xk, .ref xt, .ref xh, .ref xs, .ref xS, .ref xw, .ref xW, .ref xB, .ref xM, .long jf, .long js, .int jb, .long nf, .long ns, .int nb, .ref xf, .ref xg, .ref xi])), (xS, .inl (cI, 256, .inl (bs_fn bs_SB))), (xw, .inl (cI, 256, .inl (bs_fn bs_tX))), (xW, .inl (cI, 352, .inl (bs_oi K fw a9 (4 * (i + 4)) 0 (bs_rp i))))] := by rw [bs_oi_0]; exact hD
      have hP : va_P (dC, dI) vwCl [(o, .inr (6, [.int th, .ref xv, .ref xo, .ref xn, .ref xc, .ref xb, .ref xd, .ref xq, .ref xa, .ref xk, .ref xt, .ref xh, .ref xs, .ref xS, .ref xw, .ref xW, .ref xB, .ref xM, .long jf, .long js, .int jb, .long nf, .long ns, .int nb, .ref xf, .ref xg, .ref xi])), (xS, .inl (cI, 256, .inl (bs_fn bs_SB))), (xw, .inl (cI, 256, .inl (bs_fn bs_tX))), (xW, .inl (cI, 352, .inl (bs_oi K fw a9 (4 * (i + 4)) 0 (bs_rp i))))] H := hP
      have hD : va_D A [(o, .inr (6, [.int th, .ref xv, .ref xo, .ref xn, .ref xc, .ref xb, .ref xd, .ref xq, .ref xa, .ref xk, .ref xt, .ref xh, .ref xs, .ref xS, .ref xw, .ref xW, .ref xB, .ref xM, .long jf, .long js, .int jb, .long nf, .long ns, .int nb, .ref xf, .ref xg, .ref xi])), (xS, .inl (cI, 256, .inl (bs_fn bs_SB))), (xw, .inl (cI, 256, .inl (bs_fn bs_tX))), (xW, .inl (cI, 352, .inl (bs_oi K fw a9 (4 * (i + 4)) 0 (bs_rp i))))] := hD
      have hl := lv_sub hl (l' := [(0, .ref o), (1, .int (nI a9)), (2, .int (nI (bs_RC ((i + 3) / 4)))), (3, .int (nI (i + 4))), (4, .int (nI (a9 + 4 * (i + 4)))), (5, .int (nI 0))]) [2, 3, 4, 5, 1, 0] rfl
      have hl : lv_has ls 7 [(0, .ref o), (1, .int (nI a9)), (2, .int (nI (bs_RC ((i + 3) / 4)))), (3, .int (nI (i + 4))), (4, .int (nI (a9 + 4 * (i + 4)))), (5, .int (nI 0))] := hl
      exact loop2 (4 - 0) 0 (by omega) H _ ls hP hD hS hl
  have hP : va_P (dC, dI) vwCl [(o, .inr (6, [.int th, .ref xv, .ref xo, .ref xn, .ref xc, .ref xb, .ref xd, .ref xq, .ref xa, .ref xk, .ref xt, .ref xh, .ref xs, .ref xS, .ref xw, .ref xW, .ref xB, .ref xM, .long jf, .long js, .int jb, .long nf, .long ns, .int nb, .ref xf, .ref xg, .ref xi])), (xS, .inl (cI, 256, .inl (bs_fn bs_SB))), (xw, .inl (cI, 256, .inl (bs_fn bs_tX))), (xW, .inl (cI, 352, .inl (bs_ov K fw a9 (4 * (0 + 4)))))] H := hP
  have hD : va_D A [(o, .inr (6, [.int th, .ref xv, .ref xo, .ref xn, .ref xc, .ref xb, .ref xd, .ref xq, .ref xa, .ref xk, .ref xt, .ref xh, .ref xs, .ref xS, .ref xw, .ref xW, .ref xB, .ref xM, .long jf, .long js, .int jb, .long nf, .long ns, .int nb, .ref xf, .ref xg, .ref xi])), (xS, .inl (cI, 256, .inl (bs_fn bs_SB))), (xw, .inl (cI, 256, .inl (bs_fn bs_tX))), (xW, .inl (cI, 352, .inl (bs_ov K fw a9 (4 * (0 + 4)))))] := hD
  have hl := lv_sub hl (l' := [(0, .ref o), (1, .int (nI a9)), (2, .int (nI 1)), (3, .int (nI 4))]) [2, 3, 1, 0] rfl
  have hl : lv_has ls 7 [(0, .ref o), (1, .int (nI a9)), (2, .int (nI (bs_RC ((0 + 3) / 4)))), (3, .int (nI (0 + 4)))] := hl
  exact loop (40 - 0) 0 (by omega) H _ ls hP hD hS hl
