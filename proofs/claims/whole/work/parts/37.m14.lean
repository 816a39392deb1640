/-! bs_: a stretch of 256 places; numbers within a bound -/
def bs_so {α : Type} (f g : Nat → α) (k n : Nat) : Nat → α := fun j => if 256 * k ≤ j ∧ j < 256 * k + n then f (j - 256 * k) else g j
theorem bs_so_0 {α : Type} (f g : Nat → α) (k : Nat) : bs_so f g k 0 = g := by
  funext j
  unfold bs_so
  rw [if_neg (by omega)]
theorem bs_so_s (f g : Nat → Int32) (k n : Nat) : upd (bs_so f g k n) (256 * k + n) (f n) = bs_so f g k (n + 1) := by
  funext j
  unfold upd bs_so
  by_cases h : j = 256 * k + n
  · subst h
    rw [if_pos rfl, if_pos (by omega)]
    exact congrArg f (by omega)
  · rw [if_neg h]
    by_cases h2 : 256 * k ≤ j ∧ j < 256 * k + n
    · rw [if_pos h2, if_pos (by omega)]
    · rw [if_neg h2, if_neg (by omega)]
theorem bs_so_sl (f g : Nat → Int64) (k n : Nat) : vp_updL (bs_so f g k n) (256 * k + n) (f n) = bs_so f g k (n + 1) := by
  funext j
  unfold vp_updL bs_so
  by_cases h : j = 256 * k + n
  · subst h
    rw [if_pos rfl, if_pos (by omega)]
    exact congrArg f (by omega)
  · rw [if_neg h]
    by_cases h2 : 256 * k ≤ j ∧ j < 256 * k + n
    · rw [if_pos h2, if_pos (by omega)]
    · rw [if_neg h2, if_neg (by omega)]
theorem bs_so_at {α : Type} (f g : Nat → α) (k : Nat) {n i : Nat} (h : i < n) : bs_so f g k n (256 * k + i) = f i := by
  unfold bs_so
  rw [if_pos (by omega)]
  exact congrArg f (by omega)
theorem bs_so_ne {α : Type} (f g : Nat → α) {k k2 n i : Nat} (h : ¬ k = k2) (hi : i < 256) (hn : n ≤ 256) : bs_so f g k n (256 * k2 + i) = g (256 * k2 + i) := by
  unfold bs_so
  rw [if_neg (by omega)]
theorem bs_so_id {α : Type} {f g : Nat → α} {k : Nat} (h : ∀ i, i < 256 → g (256 * k + i) = f i) : bs_so f g k 256 = g := by
  funext j
  unfold bs_so
  by_cases h2 : 256 * k ≤ j ∧ j < 256 * k + 256
  · rw [if_pos h2, ← h (j - 256 * k) (by omega)]
    exact congrArg g (by omega)
  · rw [if_neg h2]
theorem bs_upd_id {f : Nat → Int32} {k : Nat} {x : Int32} (h : f k = x) : upd f k x = f := by
  funext j
  unfold upd
  by_cases h2 : j = k
  · rw [if_pos h2, h2, h]
  · rw [if_neg h2]
theorem bs_upd_at (f : Nat → Int32) (k : Nat) (x : Int32) : upd f k x k = x := by
  unfold upd
  rw [if_pos rfl]
theorem bs_upd_ne (f : Nat → Int32) {k j : Nat} (x : Int32) (h : ¬ j = k) : upd f k x j = f j := by
  unfold upd
  rw [if_neg h]
/-- a number from 0 on, below n -/
def bs_ii (x : Int32) (n : Nat) : Bool := decide (0 ≤ x.toInt ∧ x.toInt < (n : Int))
theorem bs_ii_n {m n : Nat} (h : m < n) (hn : m < 2 ^ 31) : bs_ii (nI m) n = true := by
  unfold bs_ii
  rw [nI_toInt hn]
  exact decide_eq_true (by omega)
theorem bs_ii_t {x : Int32} {n : Nat} (h : bs_ii x n = true) : ∃ m, m < n ∧ x = nI m := by
  have h := of_decide_eq_true h
  have h0 : ¬ x < 0 := by
    rw [Int32.lt_iff_toInt_lt, show (0 : Int32).toInt = 0 from by decide]
    omega
  obtain ⟨j, hj, rfl⟩ := nI_of h0
  rw [nI_toInt hj] at h
  exact ⟨j, by omega, rfl⟩
theorem bs_ii_lt {x : Int32} {n : Nat} (h : x < 0) : bs_ii x n = false := by
  rw [Int32.lt_iff_toInt_lt, show (0 : Int32).toInt = 0 from by decide] at h
  exact decide_eq_false (by omega)
theorem bs_ii_ge {x : Int32} {n : Nat} (hn : n < 2 ^ 31) (h : nI n ≤ x) : bs_ii x n = false := by
  rw [Int32.le_iff_toInt_le, nI_toInt hn] at h
  exact decide_eq_false (by omega)
theorem bs_ii_y {x : Int32} {n : Nat} (hn : n < 2 ^ 31) (h : ¬ x < 0) (h2 : ¬ nI n ≤ x) : bs_ii x n = true := by
  rw [Int32.lt_iff_toInt_lt, show (0 : Int32).toInt = 0 from by decide] at h
  rw [Int32.le_iff_toInt_le, nI_toInt hn] at h2
  exact decide_eq_true (by omega)
theorem bs_ii_gt {x : Int32} {n : Nat} (hn : n < 2 ^ 31) (h : nI n < x) : bs_ii x (n + 1) = false := by
  rw [Int32.lt_iff_toInt_lt, nI_toInt hn] at h
  exact decide_eq_false (by omega)
theorem bs_ii_z {x : Int32} {n : Nat} (hn : n < 2 ^ 31) (h : ¬ x < 0) (h2 : ¬ nI n < x) : bs_ii x (n + 1) = true := by
  rw [Int32.lt_iff_toInt_lt, show (0 : Int32).toInt = 0 from by decide] at h
  rw [Int32.lt_iff_toInt_lt, nI_toInt hn] at h2
  exact decide_eq_true (by omega)
theorem bs_ii_01 {x : Int32} (h : ¬ x = 0) (h1 : ¬ x = nI 1) : bs_ii x 2 = false := by
  cases h2 : bs_ii x 2 with
  | false => rfl
  | true =>
    obtain ⟨m, hm, rfl⟩ := bs_ii_t h2
    have h3 : m = 0 ∨ m = 1 := by omega
    rcases h3 with rfl | rfl
    · exact absurd rfl h
    · exact absurd rfl h1
theorem bs_ii_nl {x : Int32} {n : Nat} (h : bs_ii x n = true) : ¬ x < 0 := by
  obtain ⟨m, -, rfl⟩ := bs_ii_t h
  have h := of_decide_eq_true h
  rw [Int32.lt_iff_toInt_lt, show (0 : Int32).toInt = 0 from by decide]
  omega
theorem bs_ii_2 {x y : Int32} {m n : Nat} (h : bs_ii x m = true) (h2 : bs_ii y n = true) : (bs_ii x m && bs_ii y n) = true := by rw [h, h2]; rfl
/-- what a key is refused with -/
def bs_flt (g : Bool) : Int32 := if g then nI 0 else nI 2
/-- the choices and the shares of a key -/
def bs_chm (K : Nat → Nat) (fk : Nat → Int32) (n : Nat) : Nat → Int32 := fun i => bs_z (bs_w8 K fk n i).2.2
theorem bs_held {v : Nat} {x : Int32} (hv : v < 2 ^ 30) (h : ¬ x < 0) : ∃ j : Nat, j < 2 ^ 31 ∧ x = nI j ∧ (decide (nI (v - 8) ≤ x ∧ x ≤ nI v)) = decide (v - 8 ≤ j ∧ j ≤ v) := by
  obtain ⟨j, hj, rfl⟩ := nI_of h
  refine ⟨j, hj, rfl, decide_eq_decide.mpr ?_⟩
  rw [nI_leI (by omega) hj, nI_leI hj (by omega)]
theorem bs_held_n {v : Nat} {x : Int32} (hv : v < 2 ^ 30) (h : x < 0) : (decide (nI (v - 8) ≤ x ∧ x ≤ nI v)) = false := by
  rw [Int32.lt_iff_toInt_lt, show (0 : Int32).toInt = 0 from by decide] at h
  refine decide_eq_false fun q => ?_
  have q := q.1
  rw [Int32.le_iff_toInt_le, nI_toInt (by omega)] at q
  omega
