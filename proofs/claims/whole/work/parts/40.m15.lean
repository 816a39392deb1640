/-! bs_: sums over places -/
def bs_fa (f : Nat → Int64) (a : Nat) : Nat → Int64 := fun j => f (a + j)
theorem bs_so_ge {α : Type} (f g : Nat → α) (k n : Nat) : bs_so f g k n (256 * k + n) = g (256 * k + n) := by
  unfold bs_so
  rw [if_neg (by omega)]
/-- the xor of the chosen -/
def bs_qs (c : Nat → Bool) (f : Nat → Int64) : Nat → Int64
  | 0 => 0
  | n + 1 => if c n then bs_qs c f n ^^^ f n else bs_qs c f n
theorem bs_qs_y {c : Nat → Bool} {f : Nat → Int64} {n : Nat} (h : c n = true) : bs_qs c f n ^^^ f n = bs_qs c f (n + 1) := by
  show _ = if c n then bs_qs c f n ^^^ f n else bs_qs c f n
  rw [h]
  rfl
theorem bs_qs_n {c : Nat → Bool} {f : Nat → Int64} {n : Nat} (h : c n = false) : bs_qs c f n = bs_qs c f (n + 1) := by
  show _ = if c n then bs_qs c f n ^^^ f n else bs_qs c f n
  rw [h]
  rfl
/-- the number of the chosen -/
def bs_cn (c : Nat → Bool) : Nat → Nat
  | 0 => 0
  | n + 1 => if c n then bs_cn c n + 1 else bs_cn c n
theorem bs_cn_y {c : Nat → Bool} {n : Nat} (h : c n = true) : bs_cn c n + 1 = bs_cn c (n + 1) := by
  show _ = if c n then bs_cn c n + 1 else bs_cn c n
  rw [h]
  rfl
theorem bs_cn_n {c : Nat → Bool} {n : Nat} (h : c n = false) : bs_cn c n + 0 = bs_cn c (n + 1) := by
  show _ = if c n then bs_cn c n + 1 else bs_cn c n
  rw [h]
  rfl
theorem bs_cn_le (c : Nat → Bool) : ∀ n, bs_cn c n ≤ n
  | 0 => Nat.le_refl 0
  | n + 1 => by
    have h := bs_cn_le c n
    show (if c n then bs_cn c n + 1 else bs_cn c n) ≤ n + 1
    split <;> omega
theorem bs_chg_y {f g : Nat → Int64} {n : Nat} (h : f n = g n) : bs_chg f g n + 0 = bs_chg f g (n + 1) := by
  show _ = if f n = g n then bs_chg f g n else bs_chg f g n + 1
  rw [if_pos h]
  rfl
theorem bs_chg_n {f g : Nat → Int64} {n : Nat} (h : ¬ f n = g n) : bs_chg f g n + 1 = bs_chg f g (n + 1) := by
  show _ = if f n = g n then bs_chg f g n else bs_chg f g n + 1
  rw [if_neg h]
/-- what the places choose -/
def bs_cm (K : Nat → Nat) (fk : Nat → Int32) (n : Nat) : Nat → Bool := fun i => (bs_w8 K fk n i).2.2
