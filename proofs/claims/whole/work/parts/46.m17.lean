/-! bs_: the reference's level -/
abbrev bs_N6 : Type := Int64 × Int64 × Int64 × Int64 × Bool × Bool
def bs_gm (t : Bool) (a z : Int64) : Int64 := if t then a ^^^ z else a
theorem bs_gm_t {t : Bool} {a z : Int64} (h : t = true) : a ^^^ z = bs_gm t a z := by rw [h]; rfl
theorem bs_gm_f {t : Bool} {a z : Int64} (h : t = false) : a = bs_gm t a z := by rw [h]; rfl
def bs_fl1 (t : Bool) (x : Nat) : Int32 := if t then nI 1 <<< (nI x &&& 31) else nI 0
theorem bs_fl1_t {t : Bool} {x : Nat} (h : t = true) : nI 1 <<< (nI x &&& 31) = bs_fl1 t x := by rw [h]; rfl
theorem bs_fl1_f {t : Bool} {x : Nat} (h : t = false) : nI 0 = bs_fl1 t x := by rw [h]; rfl
def bs_y1 (K : Nat → Nat) (x : Nat) (y : bs_N6) : Int64 := bs_m1 (bs_Kx K (1 - x)) y.1 y.2.2.1 ^^^ bs_m1 (bs_Kx K (1 - x)) y.2.1 y.2.2.2.1
def bs_y2 (K : Nat → Nat) (x : Nat) (y : bs_N6) : Int64 := bs_m2 (bs_Kx K (1 - x)) y.1 y.2.2.1 ^^^ bs_m2 (bs_Kx K (1 - x)) y.2.1 y.2.2.2.1
def bs_yo (K : Nat → Nat) (x : Nat) (y : bs_N6) : Bool := bs_mb (bs_Kx K (1 - x)) y.1 y.2.2.1 ^^ bs_mb (bs_Kx K (1 - x)) y.2.1 y.2.2.2.1
def bs_yw (K : Nat → Nat) (x : Nat) (y : bs_N6) : Bool := (true ^^ bs_mb (bs_Kx K x) y.1 y.2.2.1) ^^ bs_mb (bs_Kx K x) y.2.1 y.2.2.2.1
def bs_yf (K : Nat → Nat) (x : Nat) (y : bs_N6) : Int32 := bs_fl1 (bs_yw K x y) x ||| bs_fl1 (bs_yo K x y) (1 - x)
def bs_yst (K : Nat → Nat) (x : Nat) (y : bs_N6) : bs_N6 :=
  (bs_gm y.2.2.2.2.1 (bs_m1 (bs_Kx K x) y.1 y.2.2.1) (bs_y1 K x y), bs_gm y.2.2.2.2.2 (bs_m1 (bs_Kx K x) y.2.1 y.2.2.2.1) (bs_y1 K x y),
   bs_gm y.2.2.2.2.1 (bs_m2 (bs_Kx K x) y.1 y.2.2.1) (bs_y2 K x y), bs_gm y.2.2.2.2.2 (bs_m2 (bs_Kx K x) y.2.1 y.2.2.2.1) (bs_y2 K x y),
   bs_mb (bs_Kx K x) y.1 y.2.2.1 ^^ (y.2.2.2.2.1 && bs_yw K x y), bs_mb (bs_Kx K x) y.2.1 y.2.2.2.1 ^^ (y.2.2.2.2.2 && bs_yw K x y))
def bs_lvm (fk : Nat → Int32) (a : Nat) (z r : Int64) (fl : Int32) : Nat → Int32 := upd (bs_wr (bs_wr fk a z 8) (a + 8) r 8) (a + 16) fl
/-- both keys' level lv -/
def bs_lv2 (fk : Nat → Int32) (lv : Nat) (z r : Int64) (fl : Int32) : Nat → Int32 := bs_lvm (bs_lvm fk (160 * 0 + 16 + 17 * lv) z r fl) (160 * 1 + 16 + 17 * lv) z r fl
/-- behind i levels -/
def bs_ymk (K : Nat → Nat) (pl : Nat) (y : bs_N6) : Nat → bs_N6
  | 0 => y
  | i + 1 => bs_yst K (bs_bit pl i) (bs_ymk K pl y i)
def bs_ykb (K : Nat → Nat) (pl : Nat) (y : bs_N6) (fk : Nat → Int32) : Nat → Nat → Int32
  | 0 => fk
  | i + 1 => bs_lv2 (bs_ykb K pl y fk i) i (bs_y1 K (bs_bit pl i) (bs_ymk K pl y i)) (bs_y2 K (bs_bit pl i) (bs_ymk K pl y i)) (bs_yf K (bs_bit pl i) (bs_ymk K pl y i))
