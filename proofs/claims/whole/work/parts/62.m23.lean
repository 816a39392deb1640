/-! bs_: the class's tables by powers of x + 1; its round words -/
def bs_PVl : List Nat := [1, 3, 5, 15, 17, 51, 85, 255, 26, 46, 114, 150, 161, 248, 19, 53, 95, 225, 56, 72, 216, 115, 149, 164, 247, 2, 6, 10, 30, 34, 102, 170, 229, 52, 92, 228, 55, 89, 235, 38, 106, 190, 217, 112, 144, 171, 230, 49, 83, 245, 4, 12, 20, 60, 68, 204, 79, 209, 104, 184, 211, 110, 178, 205, 76, 212, 103, 169, 224, 59, 77, 215, 98, 166, 241, 8, 24, 40, 120, 136, 131, 158, 185, 208, 107, 189, 220, 127, 129, 152, 179, 206, 73, 219, 118, 154, 181, 196, 87, 249, 16, 48, 80, 240, 11, 29, 39, 105, 187, 214, 97, 163, 254, 25, 43, 125, 135, 146, 173, 236, 47, 113, 147, 174, 233, 32, 96, 160, 251, 22, 58, 78, 210, 109, 183, 194, 93, 231, 50, 86, 250, 21, 63, 65, 195, 94, 226, 61, 71, 201, 64, 192, 91, 237, 44, 116, 156, 191, 218, 117, 159, 186, 213, 100, 172, 239, 42, 126, 130, 157, 188, 223, 122, 142, 137, 128, 155, 182, 193, 88, 232, 35, 101, 175, 234, 37, 111, 177, 200, 67, 197, 84, 252, 31, 33, 99, 165, 244, 7, 9, 27, 45, 119, 153, 176, 203, 70, 202, 69, 207, 74, 222, 121, 139, 134, 145, 168, 227, 62, 66, 198, 81, 243, 14, 18, 54, 90, 238, 41, 123, 141, 140, 143, 138, 133, 148, 167, 242, 13, 23, 57, 75, 221, 124, 132, 151, 162, 253, 28, 36, 108, 180, 199, 82, 246, 1, 3]
def bs_LHl : List Nat := [0, 0, 25, 1, 50, 2, 26, 198, 75, 199, 27, 104, 51, 238, 223, 3, 100, 4, 224, 14, 52, 141, 129, 239, 76, 113, 8, 200, 248, 105, 28, 193, 125, 194, 29, 181, 249, 185, 39, 106, 77, 228, 166, 114, 154, 201, 9, 120, 101, 47, 138, 5, 33, 15, 225, 36, 18, 240, 130, 69, 53, 147, 218, 142, 150, 143, 219, 189, 54, 208, 206, 148, 19, 92, 210, 241, 64, 70, 131, 56, 102, 221, 253, 48, 191, 6, 139, 98, 179, 37, 226, 152, 34, 136, 145, 16, 126, 110, 72, 195, 163, 182, 30, 66, 58, 107, 40, 84, 250, 133, 61, 186, 43, 121, 10, 21, 155, 159, 94, 202, 78, 212, 172, 229, 243, 115, 167, 87, 175, 88, 168, 80, 244, 234, 214, 116, 79, 174, 233, 213, 231, 230, 173, 232, 44, 215, 117, 122, 235, 22, 11, 245, 89, 203, 95, 176, 156, 169, 81, 160, 127, 12, 246, 111, 23, 196, 73, 236, 216, 67, 31, 45, 164, 118, 123, 183, 204, 187, 62, 90, 251, 96, 177, 134, 59, 82, 161, 108, 170, 85, 41, 157, 151, 178, 135, 144, 97, 190, 220, 252, 188, 149, 207, 205, 55, 63, 91, 209, 83, 57, 132, 60, 65, 162, 109, 71, 20, 42, 158, 93, 86, 242, 211, 171, 68, 17, 146, 217, 35, 32, 46, 137, 180, 124, 184, 38, 119, 153, 227, 165, 103, 74, 237, 222, 197, 49, 254, 24, 13, 99, 140, 128, 192, 247, 112, 7]
def bs_pw (i : Nat) : Nat := bs_PVl.getD i 0
def bs_lg (i : Nat) : Nat := bs_LHl.getD i 0
theorem bs_pw_s : ∀ i, i < 256 → bs_pw i ^^^ bs_tX (bs_pw i) = bs_pw (i + 1) := by decide +kernel
theorem bs_pw_lt : ∀ i, i < 256 → bs_pw i < 256 := by decide +kernel
theorem bs_lg_p : ∀ j, j < 255 → bs_lg (j + 1) < 255 ∧ bs_pw (bs_lg (j + 1)) = j + 1 := by decide +kernel
theorem bs_pw_iv : ∀ i, i < 255 → bs_sp (bs_pw (255 - i)) 8 = bs_SB (bs_pw i) := by decide +kernel
theorem bs_sp_0 : bs_sp 0 8 = bs_SB 0 := by decide +kernel
theorem bs_sp_lt : ∀ i, i < 256 → bs_sp i 8 < 256 := by decide +kernel
/-- a table with its places 0 and the first i powers written -/
def bs_wt (F : Nat → Int32) : Nat → Nat → Int32
  | 0 => upd (fun _ => 0) 0 (F 0)
  | i + 1 => upd (bs_wt F i) (bs_pw i) (F (bs_pw i))
theorem bs_wt_0 (F : Nat → Int32) : ∀ i, bs_wt F i 0 = F 0
  | 0 => by
    show upd (fun _ => 0) 0 (F 0) 0 = F 0
    exact pk_us
  | i + 1 => by
    show upd (bs_wt F i) (bs_pw i) (F (bs_pw i)) 0 = F 0
    by_cases h : 0 = bs_pw i
    · rw [← h]
      exact pk_us
    · rw [pk_un h]
      exact bs_wt_0 F i
theorem bs_wt_p (F : Nat → Int32) (k : Nat) : ∀ i, k < i → bs_wt F i (bs_pw k) = F (bs_pw k)
  | 0, h => absurd h (Nat.not_lt_zero k)
  | i + 1, h => by
    show upd (bs_wt F i) (bs_pw i) (F (bs_pw i)) (bs_pw k) = F (bs_pw k)
    by_cases h2 : bs_pw k = bs_pw i
    · rw [h2]
      exact pk_us
    · rw [pk_un h2]
      have h3 : k ≠ i := fun q => h2 (by rw [q])
      exact bs_wt_p F k i (by omega)
theorem bs_wt_e (F : Nat → Int32) {j : Nat} (h : j < 256) : bs_wt F 255 j = F j := by
  match j, h with
  | 0, _ => exact bs_wt_0 F 255
  | j + 1, h =>
    obtain ⟨h1, h2⟩ := bs_lg_p j (by omega)
    rw [← h2]
    exact bs_wt_p F _ 255 h1
/-- a column word of s -/
def bs_ct (s : Nat) : Int32 := nI (bs_w4 (bs_tX s) s s (bs_tX s ^^^ s))
theorem bs_ct_SB (n : Nat) : bs_ct (bs_SB n) = bs_CTf n := rfl
/-- the first four words, byte by byte -/
def bs_ph (F T : Nat) : Nat → Nat → Int32
  | 0 => fun _ => 0
  | k + 1 => upd (bs_ph F T k) (k / 4) ((bs_ph F T k (k / 4) <<< (nI 8 &&& 31)) ||| nI ((F * k + T) % 256))
def bs_tn (K : Nat → Nat) (i : Nat) : Int32 := (bs_kw K (i + 3) <<< (nI 8 &&& 31)) ||| j_ushr (bs_kw K (i + 3)) (nI 24)
def bs_bf (K : Nat → Nat) (i : Nat) : Int32 := if i % 4 = 0 then bs_sbt bs_SBf (bs_tn K i) (bs_tn K i) (bs_tn K i) (bs_tn K i) ^^^ nI (bs_RC (i / 4) * 2 ^ 24) else bs_kw K (i + 3)
theorem bs_bf_y {K : Nat → Nat} {i : Nat} (h : i % 4 = 0) : bs_sbt bs_SBf (bs_tn K i) (bs_tn K i) (bs_tn K i) (bs_tn K i) ^^^ nI (bs_RC (i / 4) * 2 ^ 24) = bs_bf K i := by
  unfold bs_bf
  rw [if_pos h]
theorem bs_bf_n {K : Nat → Nat} {i : Nat} (h : ¬ i % 4 = 0) : bs_kw K (i + 3) = bs_bf K i := by
  unfold bs_bf
  rw [if_neg h]
theorem bs_kx_0 : ∀ j, j < 4 → bs_ph 16 1 16 j = bs_kw (bs_Kx bs_KK 0) j := by decide +kernel
theorem bs_kx_1 : ∀ j, j < 4 → bs_ph 15 2 16 j = bs_kw (bs_Kx bs_KK 1) j := by decide +kernel
theorem bs_kr_0 : ∀ i, i < 40 → bs_kw (bs_Kx bs_KK 0) i ^^^ bs_bf (bs_Kx bs_KK 0) i = bs_kw (bs_Kx bs_KK 0) (i + 4) := by decide +kernel
theorem bs_kr_1 : ∀ i, i < 40 → bs_kw (bs_Kx bs_KK 1) i ^^^ bs_bf (bs_Kx bs_KK 1) i = bs_kw (bs_Kx bs_KK 1) (i + 4) := by decide +kernel
