/-! bs_: goodness by numbers; the reference's walk -/
theorem bs_z_0 {x : Bool} (h : bs_z x = 0) : x = false := by
  cases x
  · rfl
  · exact absurd h (by decide)
theorem bs_z_1 {x : Bool} (h : ¬ bs_z x = 0) : x = true := by
  cases x
  · exact absurd rfl h
  · rfl
theorem bs_zx {x y : Bool} (h : bs_z x = bs_z y) : (x ^^ y) = false := by
  cases x <;> cases y <;> first | rfl | exact absurd h (by decide)
theorem bs_zy {x y : Bool} (h : ¬ bs_z x = bs_z y) : (x ^^ y) = true := by
  cases x <;> cases y <;> first | rfl | exact absurd rfl h
theorem bs_252 : ∀ n, n < 256 → (decide (nI n &&& nI 252 = 0) = decide (n < 4)) := bs_dec (by decide +kernel)
theorem bs_par : ∀ n, n < 256 → (decide (nI n &&& nI 1 = 0) = decide (n % 2 = 0)) := bs_dec (by decide +kernel)
theorem bs_ok_n {fb : Nat → Int32} {l a b : Nat} (ha : fb (16 + 17 * l + 15) = nI a) (hb : fb (16 + 17 * l + 16) = nI b) (a1 : a < 256) (b1 : b < 256) : bs_ok fb l = (decide (a % 2 = 0) && decide (b < 4)) := by
  unfold bs_ok
  rw [ha, hb, bs_par a a1, bs_252 b b1]
/-- a key's bytes among all -/
def bs_kf (fk : Nat → Int32) (n : Nat) : Nat → Int32 := fun j => fk (160 * n + j)
/-- whether the reference takes the correction's bit -/
def bs_ub (fk : Nat → Int32) (z x : Nat) : Bool := decide (fk (z + 16) >>> (nI x &&& 31) &&& nI 1 = nI 1)
def bs_Kx (K : Nat → Nat) (x : Nat) : Nat → Nat := fun j9 => K (176 * x + j9)
/-- the reference's walk to pl over the key that begins at r, from the state that it starts in -/
def bs_wk (K : Nat → Nat) (fk : Nat → Int32) (r pl : Nat) (t0 : Bool) : Nat → Int64 × Int64 × Bool
  | 0 => (bs_rd fk r 8, bs_rd fk (r + 8) 8, t0)
  | i + 1 =>
    (if (bs_wk K fk r pl t0 i).2.2 then bs_m1 (bs_Kx K (bs_bit pl i)) (bs_wk K fk r pl t0 i).1 (bs_wk K fk r pl t0 i).2.1 ^^^ bs_rd fk (r + 16 + 17 * i) 8 else bs_m1 (bs_Kx K (bs_bit pl i)) (bs_wk K fk r pl t0 i).1 (bs_wk K fk r pl t0 i).2.1,
     if (bs_wk K fk r pl t0 i).2.2 then bs_m2 (bs_Kx K (bs_bit pl i)) (bs_wk K fk r pl t0 i).1 (bs_wk K fk r pl t0 i).2.1 ^^^ bs_rd fk (r + 16 + 17 * i + 8) 8 else bs_m2 (bs_Kx K (bs_bit pl i)) (bs_wk K fk r pl t0 i).1 (bs_wk K fk r pl t0 i).2.1,
     bs_mb (bs_Kx K (bs_bit pl i)) (bs_wk K fk r pl t0 i).1 (bs_wk K fk r pl t0 i).2.1 ^^ ((bs_wk K fk r pl t0 i).2.2 && bs_ub fk (r + 16 + 17 * i) (bs_bit pl i)))
def bs_w8 (K : Nat → Nat) (fk : Nat → Int32) (n pl : Nat) : Int64 × Int64 × Bool := bs_wk K fk (160 * n) pl (decide (n = 1)) 8
def bs_shm (K : Nat → Nat) (fk : Nat → Int32) (n pl : Nat) : Int64 := if (bs_w8 K fk n pl).2.2 then (bs_w8 K fk n pl).1 ^^^ bs_rd fk (160 * n + 152) 8 else (bs_w8 K fk n pl).1
