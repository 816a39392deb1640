/-! bs_: the cipher over 16 bytes (the reference), over four words (the class), the same -/
def bs_rs (B : Nat → Nat) : Nat → Nat := fun j => bs_SB (B (4 * ((j / 4 + j % 4) % 4) + j % 4))
def bs_rc (B : Nat → Nat) : Nat → Nat := fun k => bs_tX (B k) ^^^ bs_tX (B (k / 4 * 4 + (k + 1) % 4)) ^^^ B (k / 4 * 4 + (k + 1) % 4) ^^^ B (k / 4 * 4 + (k + 2) % 4) ^^^ B (k / 4 * 4 + (k + 3) % 4)
def bs_ra (B w : Nat → Nat) : Nat → Nat := fun k => B k ^^^ w k
/-- behind round r -/
def bs_rr (K B : Nat → Nat) : Nat → Nat → Nat
  | 0 => bs_ra B K
  | r + 1 => bs_ra (if r + 1 < 10 then bs_rc (bs_rs (bs_rr K B r)) else bs_rs (bs_rr K B r)) (fun k => K (16 * (r + 1) + k))
theorem bs_SB_lt9 (i : Nat) : bs_SB i < 256 := by
  rcases Nat.lt_or_ge i 256 with h | h
  · exact bs_SB_lt i h
  · unfold bs_SB
    rw [List.getD_eq_getElem?_getD, List.getElem?_eq_none (by rw [show bs_SBl.length = 256 from by decide +kernel]; exact h)]
    decide
theorem bs_rs_lt (B : Nat → Nat) (j : Nat) : bs_rs B j < 256 := bs_SB_lt9 _
theorem bs_rc_lt {B : Nat → Nat} (h : ∀ j, B j < 256) (j : Nat) : bs_rc B j < 256 :=
  bs_xor_lt (bs_xor_lt (bs_xor_lt (bs_xor_lt (bs_tX_lt _ (h _)) (bs_tX_lt _ (h _))) (h _)) (h _)) (h _)
theorem bs_ra_lt {B w : Nat → Nat} (h : ∀ j, B j < 256) (hw : ∀ j, w j < 256) (j : Nat) : bs_ra B w j < 256 := bs_xor_lt (h j) (hw j)
theorem bs_rr_lt {K B : Nat → Nat} (hK : ∀ j, K j < 256) (hB : ∀ j, B j < 256) : ∀ r j, bs_rr K B r j < 256
  | 0, j => bs_ra_lt hB hK j
  | r + 1, j => by
    unfold bs_rr
    refine bs_ra_lt (fun j => ?_) (fun j => hK _) j
    split
    · exact bs_rc_lt (bs_rs_lt _) j
    · exact bs_rs_lt _ j
/-- word i of sixteen bytes -/
def bs_wd (B : Nat → Nat) (i : Nat) : Nat := bs_w4 (B (4 * i)) (B (4 * i + 1)) (B (4 * i + 2)) (B (4 * i + 3))
theorem bs_wd_lt {B : Nat → Nat} (h : ∀ j, B j < 256) (i : Nat) : bs_wd B i < 2 ^ 32 := bs_w4_lt (h _) (h _) (h _) (h _)
theorem bs_wd_xor {B w : Nat → Nat} (h : ∀ j, B j < 256) (hw : ∀ j, w j < 256) (i : Nat) : bs_wd B i ^^^ bs_wd w i = bs_wd (bs_ra B w) i := bs_w4_xor (h _) (h _) (h _) (hw _) (hw _) (hw _)
/-- one round of the class -/
def bs_rnd (C w : Nat → Int32) (r : Nat) (x : Int32 × Int32 × Int32 × Int32) : Int32 × Int32 × Int32 × Int32 :=
  (bs_mix C x.1 x.2.1 x.2.2.1 x.2.2.2 ^^^ w (4 * r), bs_mix C x.2.1 x.2.2.1 x.2.2.2 x.1 ^^^ w (4 * r + 1), bs_mix C x.2.2.1 x.2.2.2 x.1 x.2.1 ^^^ w (4 * r + 2), bs_mix C x.2.2.2 x.1 x.2.1 x.2.2.1 ^^^ w (4 * r + 3))
def bs_rnds (C w : Nat → Int32) (x : Int32 × Int32 × Int32 × Int32) : Nat → Int32 × Int32 × Int32 × Int32
  | 0 => x
  | n + 1 => bs_rnd C w (n + 1) (bs_rnds C w x n)
def bs_in (w : Nat → Int32) (f g : Int64) : Int32 × Int32 × Int32 × Int32 := ((j_lushr f (nI 32)).toInt32 ^^^ w 0, f.toInt32 ^^^ w 1, (j_lushr g (nI 32)).toInt32 ^^^ w 2, g.toInt32 ^^^ w 3)
/-- what encipher leaves in first and second -/
def bs_e1 (C S w : Nat → Int32) (f g : Int64) : Int64 := bs_join (bs_sbt S (bs_rnds C w (bs_in w f g) 9).1 (bs_rnds C w (bs_in w f g) 9).2.1 (bs_rnds C w (bs_in w f g) 9).2.2.1 (bs_rnds C w (bs_in w f g) 9).2.2.2 ^^^ w 40) (bs_sbt S (bs_rnds C w (bs_in w f g) 9).2.1 (bs_rnds C w (bs_in w f g) 9).2.2.1 (bs_rnds C w (bs_in w f g) 9).2.2.2 (bs_rnds C w (bs_in w f g) 9).1 ^^^ w 41)
def bs_e2 (C S w : Nat → Int32) (f g : Int64) : Int64 := bs_join (bs_sbt S (bs_rnds C w (bs_in w f g) 9).2.2.1 (bs_rnds C w (bs_in w f g) 9).2.2.2 (bs_rnds C w (bs_in w f g) 9).1 (bs_rnds C w (bs_in w f g) 9).2.1 ^^^ w 42) (bs_sbt S (bs_rnds C w (bs_in w f g) 9).2.2.2 (bs_rnds C w (bs_in w f g) 9).1 (bs_rnds C w (bs_in w f g) 9).2.1 (bs_rnds C w (bs_in w f g) 9).2.2.1 ^^^ w 43)
def bs_x4 (B : Nat → Nat) : Int32 × Int32 × Int32 × Int32 := (nI (bs_wd B 0), nI (bs_wd B 1), nI (bs_wd B 2), nI (bs_wd B 3))
/-- S, ROWS, COLUMNS on words and on bytes -/
theorem bs_mix_wd {B : Nat → Nat} (h : ∀ j, B j < 256) :
    bs_mix bs_CTf (nI (bs_wd B 0)) (nI (bs_wd B 1)) (nI (bs_wd B 2)) (nI (bs_wd B 3)) = nI (bs_wd (bs_rc (bs_rs B)) 0) ∧
    bs_mix bs_CTf (nI (bs_wd B 1)) (nI (bs_wd B 2)) (nI (bs_wd B 3)) (nI (bs_wd B 0)) = nI (bs_wd (bs_rc (bs_rs B)) 1) ∧
    bs_mix bs_CTf (nI (bs_wd B 2)) (nI (bs_wd B 3)) (nI (bs_wd B 0)) (nI (bs_wd B 1)) = nI (bs_wd (bs_rc (bs_rs B)) 2) ∧
    bs_mix bs_CTf (nI (bs_wd B 3)) (nI (bs_wd B 0)) (nI (bs_wd B 1)) (nI (bs_wd B 2)) = nI (bs_wd (bs_rc (bs_rs B)) 3) := by
  have key : ∀ s0 s1 s2 s3 : Nat, bs_w4 (bs_tX s0 ^^^ bs_x3 s1 ^^^ s2 ^^^ s3) (s0 ^^^ bs_tX s1 ^^^ bs_x3 s2 ^^^ s3) (s0 ^^^ s1 ^^^ bs_tX s2 ^^^ bs_x3 s3) (bs_x3 s0 ^^^ s1 ^^^ s2 ^^^ bs_tX s3) =
      bs_w4 (bs_tX s0 ^^^ bs_tX s1 ^^^ s1 ^^^ s2 ^^^ s3) (bs_tX s1 ^^^ bs_tX s2 ^^^ s2 ^^^ s3 ^^^ s0) (bs_tX s2 ^^^ bs_tX s3 ^^^ s3 ^^^ s0 ^^^ s1) (bs_tX s3 ^^^ bs_tX s0 ^^^ s0 ^^^ s1 ^^^ s2) := by
    intro s0 s1 s2 s3
    unfold bs_x3
    have e0 : bs_tX s0 ^^^ (bs_tX s1 ^^^ s1) ^^^ s2 ^^^ s3 = bs_tX s0 ^^^ bs_tX s1 ^^^ s1 ^^^ s2 ^^^ s3 := by ac_rfl
    have e1 : s0 ^^^ bs_tX s1 ^^^ (bs_tX s2 ^^^ s2) ^^^ s3 = bs_tX s1 ^^^ bs_tX s2 ^^^ s2 ^^^ s3 ^^^ s0 := by ac_rfl
    have e2 : s0 ^^^ s1 ^^^ bs_tX s2 ^^^ (bs_tX s3 ^^^ s3) = bs_tX s2 ^^^ bs_tX s3 ^^^ s3 ^^^ s0 ^^^ s1 := by ac_rfl
    have e3 : bs_tX s0 ^^^ s0 ^^^ s1 ^^^ s2 ^^^ bs_tX s3 = bs_tX s3 ^^^ bs_tX s0 ^^^ s0 ^^^ s1 ^^^ s2 := by ac_rfl
    rw [e0, e1, e2, e3]
  refine ⟨?_, ?_, ?_, ?_⟩
  · exact (bs_mix_eq (h _) (h _) (h _) (h _) (h _) (h _) (h _) (h _) (h _) (h _) (h _) (h _) (h _) (h _) (h _) (h _)).trans (congrArg nI (key _ _ _ _))
  · exact (bs_mix_eq (h _) (h _) (h _) (h _) (h _) (h _) (h _) (h _) (h _) (h _) (h _) (h _) (h _) (h _) (h _) (h _)).trans (congrArg nI (key _ _ _ _))
  · exact (bs_mix_eq (h _) (h _) (h _) (h _) (h _) (h _) (h _) (h _) (h _) (h _) (h _) (h _) (h _) (h _) (h _) (h _)).trans (congrArg nI (key _ _ _ _))
  · exact (bs_mix_eq (h _) (h _) (h _) (h _) (h _) (h _) (h _) (h _) (h _) (h _) (h _) (h _) (h _) (h _) (h _) (h _)).trans (congrArg nI (key _ _ _ _))
theorem bs_sbt_wd {B : Nat → Nat} (h : ∀ j, B j < 256) :
    bs_sbt bs_SBf (nI (bs_wd B 0)) (nI (bs_wd B 1)) (nI (bs_wd B 2)) (nI (bs_wd B 3)) = nI (bs_wd (bs_rs B) 0) ∧
    bs_sbt bs_SBf (nI (bs_wd B 1)) (nI (bs_wd B 2)) (nI (bs_wd B 3)) (nI (bs_wd B 0)) = nI (bs_wd (bs_rs B) 1) ∧
    bs_sbt bs_SBf (nI (bs_wd B 2)) (nI (bs_wd B 3)) (nI (bs_wd B 0)) (nI (bs_wd B 1)) = nI (bs_wd (bs_rs B) 2) ∧
    bs_sbt bs_SBf (nI (bs_wd B 3)) (nI (bs_wd B 0)) (nI (bs_wd B 1)) (nI (bs_wd B 2)) = nI (bs_wd (bs_rs B) 3) := by
  refine ⟨?_, ?_, ?_, ?_⟩
  · exact bs_sbt_eq (h _) (h _) (h _) (h _) (h _) (h _) (h _) (h _) (h _) (h _) (h _) (h _) (h _) (h _) (h _) (h _)
  · exact bs_sbt_eq (h _) (h _) (h _) (h _) (h _) (h _) (h _) (h _) (h _) (h _) (h _) (h _) (h _) (h _) (h _) (h _)
  · exact bs_sbt_eq (h _) (h _) (h _) (h _) (h _) (h _) (h _) (h _) (h _) (h _) (h _) (h _) (h _) (h _) (h _) (h _)
  · exact bs_sbt_eq (h _) (h _) (h _) (h _) (h _) (h _) (h _) (h _) (h _) (h _) (h _) (h _) (h _) (h _) (h _) (h _)
/-- a fixed key's words, from its bytes -/
def bs_kw (K : Nat → Nat) (j : Nat) : Int32 := nI (bs_wd K j)
theorem bs_rnd_wd {K B : Nat → Nat} (hK : ∀ j, K j < 256) (h : ∀ j, B j < 256) (r : Nat) : bs_rnd bs_CTf (bs_kw K) r (bs_x4 B) = bs_x4 (bs_ra (bs_rc (bs_rs B)) (fun k => K (16 * r + k))) := by
  obtain ⟨m0, m1, m2, m3⟩ := bs_mix_wd h
  have hc : ∀ j, bs_rc (bs_rs B) j < 256 := bs_rc_lt (bs_rs_lt B)
  have key : ∀ i, nI (bs_wd (bs_rc (bs_rs B)) i) ^^^ bs_kw K (4 * r + i) = nI (bs_wd (bs_ra (bs_rc (bs_rs B)) (fun k => K (16 * r + k))) i) := by
    intro i
    unfold bs_kw
    have e : bs_wd K (4 * r + i) = bs_wd (fun k => K (16 * r + k)) i := by
      unfold bs_wd
      rw [show 4 * (4 * r + i) = 16 * r + 4 * i by omega]
      rfl
    rw [e, bs_nI_xor, bs_wd_xor hc (fun j => hK _)]
  unfold bs_rnd bs_x4
  dsimp only
  rw [m0, m1, m2, m3]
  exact congr (congrArg Prod.mk (key 0)) (congr (congrArg Prod.mk (key 1)) (congr (congrArg Prod.mk (key 2)) (key 3)))
theorem bs_rnds_wd {K B : Nat → Nat} (hK : ∀ j, K j < 256) (h : ∀ j, B j < 256) : ∀ r, r < 10 → bs_rnds bs_CTf (bs_kw K) (bs_x4 (bs_ra B K)) r = bs_x4 (bs_rr K B r)
  | 0, _ => rfl
  | r + 1, hr => by
    unfold bs_rnds
    rw [bs_rnds_wd hK h r (by omega), bs_rnd_wd hK (bs_rr_lt hK h r)]
    show _ = bs_x4 (bs_ra (if r + 1 < 10 then bs_rc (bs_rs (bs_rr K B r)) else bs_rs (bs_rr K B r)) (fun k => K (16 * (r + 1) + k)))
    rw [if_pos hr]
