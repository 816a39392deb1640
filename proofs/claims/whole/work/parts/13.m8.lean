/-! bs_: a key's expansion by nodes, and what a cache of it holds -/
def bs_fill (f : Nat → Int32) (v : Int32) (n : Nat) : Nat → Int32 := fun j => if j < n then v else f j
theorem bs_fill_0 (f : Nat → Int32) (v : Int32) : bs_fill f v 0 = f := by
  funext j
  unfold bs_fill
  rw [if_neg (by omega)]
theorem bs_fill_s (f : Nat → Int32) (v : Int32) (n : Nat) : upd (bs_fill f v n) n v = bs_fill f v (n + 1) := by
  funext j
  unfold bs_fill upd
  by_cases h : j = n
  · subst h
    rw [if_pos rfl, if_pos (by omega)]
  · rw [if_neg h]
    dsimp only
    by_cases h2 : j < n
    · rw [if_pos h2, if_pos (by omega)]
    · rw [if_neg h2, if_neg (by omega)]
/-- the bytes of a level are good -/
def bs_ok (fb : Nat → Int32) (l : Nat) : Bool := decide (fb (16 + 17 * l + 15) &&& nI 1 = 0) && decide (fb (16 + 17 * l + 16) &&& nI 252 = 0)
def bs_gd (fb : Nat → Int32) : Nat → Bool
  | 0 => true
  | n + 1 => bs_gd fb n && bs_ok fb n
theorem bs_gd_f {fb : Nat → Int32} {i : Nat} (h : bs_ok fb i = false) : ∀ n, i < n → bs_gd fb n = false
  | 0, q => absurd q (Nat.not_lt_zero _)
  | n + 1, q => by
    unfold bs_gd
    rcases Nat.lt_succ_iff_lt_or_eq.mp q with h1 | h1
    · rw [bs_gd_f h n h1, Bool.false_and]
    · subst h1
      rw [h, Bool.and_false]
def bs_z (b : Bool) : Int32 := if b then nI 1 else nI 0
/-- a step's three ends: over the bytes fb, at level d, by bit x, from F, G, b -/
def bs_s1 (C S w fb : Nat → Int32) (d : Nat) (F G : Int64) (b : Int32) : Int64 := if b = nI 1 then bs_h1 C S w F G ^^^ bs_rd fb (16 + 17 * d) 8 else bs_h1 C S w F G
def bs_s2 (C S w fb : Nat → Int32) (d : Nat) (F G : Int64) (b : Int32) : Int64 := if b = nI 1 then bs_h2 C S w F G ^^^ bs_rd fb (16 + 17 * d + 8) 8 else bs_h2 C S w F G
def bs_s3 (C S w fb : Nat → Int32) (d x : Nat) (F G : Int64) (b : Int32) : Int32 := if b = nI 1 then bs_hb C S w F G ^^^ (fb (16 + 17 * d + 16) >>> (nI x &&& 31) &&& nI 1) else bs_hb C S w F G
def bs_wx (w0 w1 : Nat → Int32) (x : Nat) : Nat → Int32 := if x = 0 then w0 else w1
/-- the state of node n at depth d -/
def bs_nd (C S w0 w1 fb : Nat → Int32) (num : Int32) : Nat → Nat → Int64 × Int64 × Int32
  | 0, _ => (bs_rd fb 0 8, bs_rd fb 8 8, num)
  | d + 1, n =>
    (bs_s1 C S (bs_wx w0 w1 (n % 2)) fb d (bs_nd C S w0 w1 fb num d (n / 2)).1 (bs_nd C S w0 w1 fb num d (n / 2)).2.1 (bs_nd C S w0 w1 fb num d (n / 2)).2.2,
     bs_s2 C S (bs_wx w0 w1 (n % 2)) fb d (bs_nd C S w0 w1 fb num d (n / 2)).1 (bs_nd C S w0 w1 fb num d (n / 2)).2.1 (bs_nd C S w0 w1 fb num d (n / 2)).2.2,
     bs_s3 C S (bs_wx w0 w1 (n % 2)) fb d (n % 2) (bs_nd C S w0 w1 fb num d (n / 2)).1 (bs_nd C S w0 w1 fb num d (n / 2)).2.1 (bs_nd C S w0 w1 fb num d (n / 2)).2.2)
def bs_at (ff fs : Nat → Int64) (ft : Nat → Int32) (n : Nat) : Int64 × Int64 × Int32 := (ff n, fs n, ft n)
/-- what a cache holds is so, and it holds the root -/
def bs_ck (C S w0 w1 fb : Nat → Int32) (num : Int32) (ff fs : Nat → Int64) (ft : Nat → Int32) : Prop :=
  bs_at ff fs ft 1 = bs_nd C S w0 w1 fb num 0 1 ∧ ∀ d n, d ≤ 8 → n / 2 ^ d = 1 → ft n ≠ (-1) → bs_at ff fs ft n = bs_nd C S w0 w1 fb num d n
theorem bs_dep : ∀ {d d' n : Nat}, n / 2 ^ d = 1 → n / 2 ^ d' = 1 → d = d' := by
  intro d d' n h h'
  have key : ∀ {a b : Nat}, a < b → n / 2 ^ a = 1 → n / 2 ^ b = 1 → False := by
    intro a b hab ha hb
    have h1 : 2 ^ b ≤ n := by
      rcases Nat.lt_or_ge n (2 ^ b) with q | q
      · rw [Nat.div_eq_of_lt q] at hb
        exact absurd hb (by decide)
      · exact q
    have h2 : n < 2 * 2 ^ a := by
      rcases Nat.lt_or_ge n (2 * 2 ^ a) with q | q
      · exact q
      · have h3 : 2 ≤ n / 2 ^ a := (Nat.le_div_iff_mul_le (Nat.two_pow_pos a)).mpr q
        omega
    have h4 : 2 ^ (a + 1) ≤ 2 ^ b := Nat.pow_le_pow_right (by decide) hab
    rw [Nat.pow_succ] at h4
    omega
  rcases Nat.lt_trichotomy d d' with q | q | q
  · exact (key q h h').elim
  · exact q
  · exact (key q h' h).elim
theorem bs_ck_put {C S w0 w1 fb : Nat → Int32} {num : Int32} {ff fs : Nat → Int64} {ft : Nat → Int32} (h : bs_ck C S w0 w1 fb num ff fs ft) {d n : Nat} (hd : 0 < d) (hn : n / 2 ^ d = 1) {v : Int64 × Int64 × Int32} (hv : v = bs_nd C S w0 w1 fb num d n) : bs_ck C S w0 w1 fb num (vp_updL ff n v.1) (vp_updL fs n v.2.1) (upd ft n v.2.2) := by
  have n1 : n ≠ 1 := fun q => by
    subst q
    have : d = 0 := bs_dep hn (by decide)
    omega
  refine ⟨?_, fun d' n' hd' hn' ht => ?_⟩
  · rw [← h.1]
    unfold bs_at
    rw [pk_uLn (Ne.symm n1), pk_uLn (Ne.symm n1), pk_un (Ne.symm n1)]
  · by_cases q : n' = n
    · subst q
      have e : d' = d := bs_dep hn' hn
      subst e
      unfold bs_at
      rw [pk_uLs, pk_uLs, pk_us, ← hv]
    · rw [pk_un q] at ht
      rw [← h.2 d' n' hd' hn' ht]
      unfold bs_at
      rw [pk_uLn q, pk_uLn q, pk_un q]
theorem bs_ck_new (C S w0 w1 fb : Nat → Int32) (num : Int32) (ff fs : Nat → Int64) (ft : Nat → Int32) : bs_ck C S w0 w1 fb num (vp_updL ff 1 (bs_rd fb 0 8)) (vp_updL fs 1 (bs_rd fb 8 8)) (upd (bs_fill ft (-1) 512) 1 num) := by
  refine ⟨?_, fun d n hd hn ht => ?_⟩
  · unfold bs_at
    rw [pk_uLs, pk_uLs, pk_us]
    rfl
  · by_cases q : n = 1
    · subst q
      have e : d = 0 := bs_dep hn (by decide)
      subst e
      unfold bs_at
      rw [pk_uLs, pk_uLs, pk_us]
      rfl
    · have hl : n < 512 := by
        rcases Nat.lt_or_ge n 512 with z | z
        · exact z
        · have h1 : 2 ^ d ≤ 2 ^ 8 := Nat.pow_le_pow_right (by decide) hd
          have h2 : 2 ≤ n / 2 ^ d := (Nat.le_div_iff_mul_le (Nat.two_pow_pos d)).mpr (by omega)
          omega
      rw [pk_un q] at ht
      unfold bs_fill at ht
      rw [if_pos hl] at ht
      exact absurd rfl ht
theorem bs_nd_s {C S w0 w1 fb : Nat → Int32} {num : Int32} {ff fs : Nat → Int64} {ft : Nat → Int32} {d n : Nat} (hu : bs_at ff fs ft (n / 2) = bs_nd C S w0 w1 fb num d (n / 2)) :
    (bs_s1 C S (bs_wx w0 w1 (n % 2)) fb d (ff (n / 2)) (fs (n / 2)) (ft (n / 2)), bs_s2 C S (bs_wx w0 w1 (n % 2)) fb d (ff (n / 2)) (fs (n / 2)) (ft (n / 2)), bs_s3 C S (bs_wx w0 w1 (n % 2)) fb d (n % 2) (ff (n / 2)) (fs (n / 2)) (ft (n / 2))) = bs_nd C S w0 w1 fb num (d + 1) n := by
  show _ = (bs_s1 C S (bs_wx w0 w1 (n % 2)) fb d (bs_nd C S w0 w1 fb num d (n / 2)).1 (bs_nd C S w0 w1 fb num d (n / 2)).2.1 (bs_nd C S w0 w1 fb num d (n / 2)).2.2, bs_s2 C S (bs_wx w0 w1 (n % 2)) fb d (bs_nd C S w0 w1 fb num d (n / 2)).1 (bs_nd C S w0 w1 fb num d (n / 2)).2.1 (bs_nd C S w0 w1 fb num d (n / 2)).2.2, bs_s3 C S (bs_wx w0 w1 (n % 2)) fb d (n % 2) (bs_nd C S w0 w1 fb num d (n / 2)).1 (bs_nd C S w0 w1 fb num d (n / 2)).2.1 (bs_nd C S w0 w1 fb num d (n / 2)).2.2)
  rw [← hu]
  rfl
theorem bs_ck_step {C S w0 w1 fb : Nat → Int32} {num : Int32} {ff fs : Nat → Int64} {ft : Nat → Int32} (h : bs_ck C S w0 w1 fb num ff fs ft) {d n : Nat} {w : Nat → Int32} (hw : bs_wx w0 w1 (n % 2) = w) (hn : n / 2 ^ (d + 1) = 1) (hu : bs_at ff fs ft (n / 2) = bs_nd C S w0 w1 fb num d (n / 2)) :
    bs_ck C S w0 w1 fb num (vp_updL ff n (bs_s1 C S w fb d (ff (n / 2)) (fs (n / 2)) (ft (n / 2)))) (vp_updL fs n (bs_s2 C S w fb d (ff (n / 2)) (fs (n / 2)) (ft (n / 2)))) (upd ft n (bs_s3 C S w fb d (n % 2) (ff (n / 2)) (fs (n / 2)) (ft (n / 2)))) ∧
    bs_at (vp_updL ff n (bs_s1 C S w fb d (ff (n / 2)) (fs (n / 2)) (ft (n / 2)))) (vp_updL fs n (bs_s2 C S w fb d (ff (n / 2)) (fs (n / 2)) (ft (n / 2)))) (upd ft n (bs_s3 C S w fb d (n % 2) (ff (n / 2)) (fs (n / 2)) (ft (n / 2)))) n = bs_nd C S w0 w1 fb num (d + 1) n := by
  have e := bs_nd_s hu
  rw [hw] at e
  refine ⟨bs_ck_put h (Nat.succ_pos d) hn e, ?_⟩
  unfold bs_at
  rw [pk_uLs, pk_uLs, pk_us]
  exact e
/-- what a key says at a place -/
def bs_cb (C S w0 w1 fb : Nat → Int32) (num : Int32) (pl : Nat) : Bool := decide ((bs_nd C S w0 w1 fb num 8 (256 + pl)).2.2 = nI 1)
def bs_sh (C S w0 w1 fb : Nat → Int32) (num : Int32) (pl : Nat) : Int64 := if (bs_nd C S w0 w1 fb num 8 (256 + pl)).2.2 = nI 1 then (bs_nd C S w0 w1 fb num 8 (256 + pl)).1 ^^^ bs_rd fb 152 8 else (bs_nd C S w0 w1 fb num 8 (256 + pl)).1
def bs_cs (C S w0 w1 fb : Nat → Int32) (num : Int32) : Nat → Int32
  | 0 => nI 0
  | n + 1 => bs_cs C S w0 w1 fb num n + (bs_nd C S w0 w1 fb num 8 (256 + n)).2.2
/-- the node on the way to a place -/
theorem bs_way {pl i : Nat} (hp : pl < 256) (hi : i < 8) : (256 + pl) / 2 ^ (7 - i) / 2 = (256 + pl) / 2 ^ (8 - i) ∧ (256 + pl) / 2 ^ (7 - i) / 2 ^ (i + 1) = 1 ∧ (256 + pl) / 2 ^ (7 - i) < 512 ∧ (256 + pl) / 2 ^ (8 - i) < 512 := by
  have h : i = 0 ∨ i = 1 ∨ i = 2 ∨ i = 3 ∨ i = 4 ∨ i = 5 ∨ i = 6 ∨ i = 7 := by omega
  rcases h with rfl | rfl | rfl | rfl | rfl | rfl | rfl | rfl <;> refine ⟨?_, ?_, ?_, ?_⟩ <;> omega
