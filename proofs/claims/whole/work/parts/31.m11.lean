/-! bs_: arrays of small numbers; an array that is filled from its start on -/
def bs_fn (B : Nat → Nat) : Nat → Int32 := fun j => nI (B j)
def bs_pt {α : Type} (f g : Nat → α) (i : Nat) : Nat → α := fun j => if j < i then f j else g j
theorem bs_pt_0 {α : Type} (f g : Nat → α) : bs_pt f g 0 = g := by
  funext j
  exact if_neg (Nat.not_lt_zero j)
theorem bs_pt_lt {α : Type} {f g : Nat → α} {i j : Nat} (h : j < i) : bs_pt f g i j = f j := if_pos h
theorem bs_pt_ge {α : Type} {f g : Nat → α} {i j : Nat} (h : i ≤ j) : bs_pt f g i j = g j := if_neg (Nat.not_lt.mpr h)
theorem bs_pt_s (f g : Nat → Int32) (i : Nat) : upd (bs_pt f g i) i (f i) = bs_pt f g (i + 1) := by
  funext j
  unfold upd
  by_cases h : j = i
  · subst h
    rw [if_pos rfl, bs_pt_lt (Nat.lt_succ_self j)]
  · rw [if_neg h]
    by_cases h2 : j < i
    · rw [bs_pt_lt h2, bs_pt_lt (by omega)]
    · rw [bs_pt_ge (by omega), bs_pt_ge (by omega)]
theorem bs_pt_sL (f g : Nat → Int64) (i : Nat) : vp_updL (bs_pt f g i) i (f i) = bs_pt f g (i + 1) := by
  funext j
  unfold vp_updL
  by_cases h : j = i
  · subst h
    rw [if_pos rfl, bs_pt_lt (Nat.lt_succ_self j)]
  · rw [if_neg h]
    by_cases h2 : j < i
    · rw [bs_pt_lt h2, bs_pt_lt (by omega)]
    · rw [bs_pt_ge (by omega), bs_pt_ge (by omega)]
theorem bs_rs_at (B : Nat → Nat) (c k : Nat) (hk : k < 4) : bs_rs B (4 * c + k) = bs_SB (B (4 * ((c + k) % 4) + k)) := by
  unfold bs_rs
  rw [show (4 * c + k) / 4 = c by omega, show (4 * c + k) % 4 = k by omega]
/-- two longs laid out byte by byte, i of each -/
def bs_bl (f g : Int64) (b : Nat → Int32) (i : Nat) : Nat → Int32 := fun j => if j < i then nI (bs_lb f j) else if 8 ≤ j ∧ j < 8 + i then nI (bs_lb g (j - 8)) else b j
theorem bs_bl_0 (f g : Int64) (b : Nat → Int32) : bs_bl f g b 0 = b := by
  funext j
  unfold bs_bl
  rw [if_neg (by omega), if_neg (by omega)]
theorem bs_bl_s (f g : Int64) (b : Nat → Int32) (i : Nat) (hi : i < 8) : upd (upd (bs_bl f g b i) i (nI (bs_lb f i))) (8 + i) (nI (bs_lb g i)) = bs_bl f g b (i + 1) := by
  funext j
  unfold upd bs_bl
  by_cases h1 : j = 8 + i
  · subst h1
    rw [if_pos rfl, if_neg (by omega), if_pos (by omega), Nat.add_sub_cancel_left]
  · rw [if_neg h1]
    by_cases h2 : j = i
    · subst h2
      rw [if_pos rfl, if_pos (by omega)]
    · rw [if_neg h2]
      by_cases h3 : j < i
      · rw [if_pos h3, if_pos (by omega)]
      · rw [if_neg h3, if_neg (show ¬ j < i + 1 by omega)]
        by_cases h4 : 8 ≤ j ∧ j < 8 + i
        · rw [if_pos h4, if_pos (by omega)]
        · rw [if_neg h4, if_neg (by omega)]
theorem bs_bl_8 (f g : Int64) (b : Nat → Int32) {j : Nat} (hj : j < 16) : bs_bl f g b 8 j = bs_fn (bs_B0 f g) j := by
  unfold bs_bl bs_fn bs_B0
  by_cases h : j < 8
  · rw [if_pos h, if_pos h]
  · rw [if_neg h, if_neg h, if_pos (by omega)]
