/-! bs_: two places by name; the making of two keys -/
def bs_l2 (a b : Int64) : Nat → Int64 := fun j => if j = 0 then a else if j = 1 then b else 0
def bs_i2 (a b : Int32) : Nat → Int32 := fun j => if j = 0 then a else if j = 1 then b else 0
theorem bs_l2_0 (a b v : Int64) : vp_updL (bs_l2 a b) 0 v = bs_l2 v b := by
  funext j
  unfold vp_updL bs_l2
  split <;> rfl
theorem bs_l2_1 (a b v : Int64) : vp_updL (bs_l2 a b) 1 v = bs_l2 a v := by
  funext j
  unfold vp_updL bs_l2
  by_cases h0 : j = 0
  · subst h0; rfl
  · by_cases h1 : j = 1
    · subst h1; rfl
    · simp only [if_neg h0, if_neg h1]
theorem bs_i2_0 (a b v : Int32) : upd (bs_i2 a b) 0 v = bs_i2 v b := by
  funext j
  unfold upd bs_i2
  split <;> rfl
theorem bs_i2_1 (a b v : Int32) : upd (bs_i2 a b) 1 v = bs_i2 a v := by
  funext j
  unfold upd bs_i2
  by_cases h0 : j = 0
  · subst h0; rfl
  · by_cases h1 : j = 1
    · subst h1; rfl
    · simp only [if_neg h0, if_neg h1]
/-- both states on the way: firsts, seconds, bits -/
abbrev bs_M6 : Type := Int64 × Int64 × Int64 × Int64 × Int32 × Int32
def bs_z1 (C S w0 w1 : Nat → Int32) (x : Nat) (u : bs_M6) : Int64 := (0 ^^^ bs_h1 C S (bs_wx w0 w1 (1 - x)) u.1 u.2.2.1) ^^^ bs_h1 C S (bs_wx w0 w1 (1 - x)) u.2.1 u.2.2.2.1
def bs_z2 (C S w0 w1 : Nat → Int32) (x : Nat) (u : bs_M6) : Int64 := (0 ^^^ bs_h2 C S (bs_wx w0 w1 (1 - x)) u.1 u.2.2.1) ^^^ bs_h2 C S (bs_wx w0 w1 (1 - x)) u.2.1 u.2.2.2.1
def bs_zf (C S w0 w1 : Nat → Int32) (x : Nat) (u : bs_M6) : Int32 :=
  ((((nI 1 <<< (nI x &&& 31)) ^^^ (bs_hb C S (bs_wx w0 w1 (1 - x)) u.1 u.2.2.1 <<< (nI (1 - x) &&& 31))) ^^^ (bs_hb C S (bs_wx w0 w1 x) u.1 u.2.2.1 <<< (nI x &&& 31))) ^^^ (bs_hb C S (bs_wx w0 w1 (1 - x)) u.2.1 u.2.2.2.1 <<< (nI (1 - x) &&& 31))) ^^^ (bs_hb C S (bs_wx w0 w1 x) u.2.1 u.2.2.2.1 <<< (nI x &&& 31))
/-- one state goes on: by z where its bit is set -/
def bs_go (t : Int32) (a z : Int64) : Int64 := if t = nI 1 then a ^^^ z else a
def bs_gb (t h fl : Int32) (x : Nat) : Int32 := if t = nI 1 then h ^^^ (fl >>> (nI x &&& 31) &&& nI 1) else h
def bs_mst (C S w0 w1 : Nat → Int32) (x : Nat) (u : bs_M6) : bs_M6 :=
  (bs_go u.2.2.2.2.1 (bs_h1 C S (bs_wx w0 w1 x) u.1 u.2.2.1) (bs_z1 C S w0 w1 x u), bs_go u.2.2.2.2.2 (bs_h1 C S (bs_wx w0 w1 x) u.2.1 u.2.2.2.1) (bs_z1 C S w0 w1 x u),
   bs_go u.2.2.2.2.1 (bs_h2 C S (bs_wx w0 w1 x) u.1 u.2.2.1) (bs_z2 C S w0 w1 x u), bs_go u.2.2.2.2.2 (bs_h2 C S (bs_wx w0 w1 x) u.2.1 u.2.2.2.1) (bs_z2 C S w0 w1 x u),
   bs_gb u.2.2.2.2.1 (bs_hb C S (bs_wx w0 w1 x) u.1 u.2.2.1) (bs_zf C S w0 w1 x u) x, bs_gb u.2.2.2.2.2 (bs_hb C S (bs_wx w0 w1 x) u.2.1 u.2.2.2.1) (bs_zf C S w0 w1 x u) x)
def bs_bit (pl i : Nat) : Nat := pl / 2 ^ (7 - i) % 2
/-- behind i levels -/
def bs_mks (C S w0 w1 : Nat → Int32) (pl : Nat) (u : bs_M6) : Nat → bs_M6
  | 0 => u
  | i + 1 => bs_mst C S w0 w1 (bs_bit pl i) (bs_mks C S w0 w1 pl u i)
def bs_lvl (fb : Nat → Int32) (d : Nat) (f h : Int64) (fl : Int32) : Nat → Int32 := upd (bs_wr (bs_wr fb (16 + 17 * d) f 8) (16 + 17 * d + 8) h 8) (16 + 17 * d + 16) fl
def bs_mkb (C S w0 w1 : Nat → Int32) (pl : Nat) (u : bs_M6) (fb : Nat → Int32) : Nat → Nat → Int32
  | 0 => fb
  | i + 1 => bs_lvl (bs_mkb C S w0 w1 pl u fb i) i (bs_z1 C S w0 w1 (bs_bit pl i) (bs_mks C S w0 w1 pl u i)) (bs_z2 C S w0 w1 (bs_bit pl i) (bs_mks C S w0 w1 pl u i)) (bs_zf C S w0 w1 (bs_bit pl i) (bs_mks C S w0 w1 pl u i))
