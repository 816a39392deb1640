/-! bs_: the reference's rounds, its half -/
theorem bs_rr_y {K B : Nat → Nat} {a i : Nat} (h : i + 1 < 10) : bs_ra (bs_rc (bs_rs (bs_rr (fun j => K (a + j)) B i))) (fun j => K (a + 16 * (i + 1) + j)) = bs_rr (fun j => K (a + j)) B (i + 1) := by
  show _ = bs_ra (if i + 1 < 10 then bs_rc (bs_rs (bs_rr (fun j => K (a + j)) B i)) else bs_rs (bs_rr (fun j => K (a + j)) B i)) (fun k => K (a + (16 * (i + 1) + k)))
  rw [if_pos h]
  refine congrArg _ (funext fun j => ?_)
  rw [Nat.add_assoc]
theorem bs_rr_n {K B : Nat → Nat} {a i : Nat} (h : ¬ i + 1 < 10) : bs_ra (bs_rs (bs_rr (fun j => K (a + j)) B i)) (fun j => K (a + 16 * (i + 1) + j)) = bs_rr (fun j => K (a + j)) B (i + 1) := by
  show _ = bs_ra (if i + 1 < 10 then bs_rc (bs_rs (bs_rr (fun j => K (a + j)) B i)) else bs_rs (bs_rr (fun j => K (a + j)) B i)) (fun k => K (a + (16 * (i + 1) + k)))
  rw [if_neg h]
  refine congrArg _ (funext fun j => ?_)
  rw [Nat.add_assoc]
/-- the reference's cipher and half, by the fixed key's bytes -/
def bs_E (K : Nat → Nat) (f g : Int64) : Nat → Nat := bs_rr K (bs_B0 f g) 10
def bs_m1 (K : Nat → Nat) (f g : Int64) : Int64 := f ^^^ bs_rd (bs_fn (bs_E K f g)) 0 8
def bs_ml (K : Nat → Nat) (f g : Int64) : Int64 := g ^^^ bs_rd (bs_fn (bs_E K f g)) 8 8
def bs_mb (K : Nat → Nat) (f g : Int64) : Bool := decide (bs_ml K f g &&& 1 = 1)
def bs_m2 (K : Nat → Nat) (f g : Int64) : Int64 := bs_ml K f g &&& (-2)
theorem bs_z_n (x : Bool) : narrow .boolean (.int (bs_z x)) = .int (bs_z x) := by cases x <;> rfl
theorem bs_z_f (x : Bool) : fits .boolean (.int (bs_z x)) = true := by cases x <;> rfl
theorem bs_z_01 (x : Bool) : bs_z x = 0 ∨ bs_z x = 1 := by cases x <;> first | exact Or.inl rfl | exact Or.inr rfl
