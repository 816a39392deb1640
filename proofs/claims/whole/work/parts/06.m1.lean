/-! bs_: pure rows of this claim: the cipher's tables, bytes and words -/
def bs_PWl : List Nat := [1, 3, 5, 15, 17, 51, 85, 255, 26, 46, 114, 150, 161, 248, 19, 53, 95, 225, 56, 72, 216, 115, 149, 164, 247, 2, 6, 10, 30, 34, 102, 170, 229, 52, 92, 228, 55, 89, 235, 38, 106, 190, 217, 112, 144, 171, 230, 49, 83, 245, 4, 12, 20, 60, 68, 204, 79, 209, 104, 184, 211, 110, 178, 205, 76, 212, 103, 169, 224, 59, 77, 215, 98, 166, 241, 8, 24, 40, 120, 136, 131, 158, 185, 208, 107, 189, 220, 127, 129, 152, 179, 206, 73, 219, 118, 154, 181, 196, 87, 249, 16, 48, 80, 240, 11, 29, 39, 105, 187, 214, 97, 163, 254, 25, 43, 125, 135, 146, 173, 236, 47, 113, 147, 174, 233, 32, 96, 160, 251, 22, 58, 78, 210, 109, 183, 194, 93, 231, 50, 86, 250, 21, 63, 65, 195, 94, 226, 61, 71, 201, 64, 192, 91, 237, 44, 116, 156, 191, 218, 117, 159, 186, 213, 100, 172, 239, 42, 126, 130, 157, 188, 223, 122, 142, 137, 128, 155, 182, 193, 88, 232, 35, 101, 175, 234, 37, 111, 177, 200, 67, 197, 84, 252, 31, 33, 99, 165, 244, 7, 9, 27, 45, 119, 153, 176, 203, 70, 202, 69, 207, 74, 222, 121, 139, 134, 145, 168, 227, 62, 66, 198, 81, 243, 14, 18, 54, 90, 238, 41, 123, 141, 140, 143, 138, 133, 148, 167, 242, 13, 23, 57, 75, 221, 124, 132, 151, 162, 253, 28, 36, 108, 180, 199, 82, 246, 1]
def bs_LGl : List Nat := [0, 0, 25, 1, 50, 2, 26, 198, 75, 199, 27, 104, 51, 238, 223, 3, 100, 4, 224, 14, 52, 141, 129, 239, 76, 113, 8, 200, 248, 105, 28, 193, 125, 194, 29, 181, 249, 185, 39, 106, 77, 228, 166, 114, 154, 201, 9, 120, 101, 47, 138, 5, 33, 15, 225, 36, 18, 240, 130, 69, 53, 147, 218, 142, 150, 143, 219, 189, 54, 208, 206, 148, 19, 92, 210, 241, 64, 70, 131, 56, 102, 221, 253, 48, 191, 6, 139, 98, 179, 37, 226, 152, 34, 136, 145, 16, 126, 110, 72, 195, 163, 182, 30, 66, 58, 107, 40, 84, 250, 133, 61, 186, 43, 121, 10, 21, 155, 159, 94, 202, 78, 212, 172, 229, 243, 115, 167, 87, 175, 88, 168, 80, 244, 234, 214, 116, 79, 174, 233, 213, 231, 230, 173, 232, 44, 215, 117, 122, 235, 22, 11, 245, 89, 203, 95, 176, 156, 169, 81, 160, 127, 12, 246, 111, 23, 196, 73, 236, 216, 67, 31, 45, 164, 118, 123, 183, 204, 187, 62, 90, 251, 96, 177, 134, 59, 82, 161, 108, 170, 85, 41, 157, 151, 178, 135, 144, 97, 190, 220, 252, 188, 149, 207, 205, 55, 63, 91, 209, 83, 57, 132, 60, 65, 162, 109, 71, 20, 42, 158, 93, 86, 242, 211, 171, 68, 17, 146, 217, 35, 32, 46, 137, 180, 124, 184, 38, 119, 153, 227, 165, 103, 74, 237, 222, 197, 49, 254, 24, 13, 99, 140, 128, 192, 247, 112, 7]
def bs_IVl : List Nat := [0, 1, 141, 246, 203, 82, 123, 209, 232, 79, 41, 192, 176, 225, 229, 199, 116, 180, 170, 75, 153, 43, 96, 95, 88, 63, 253, 204, 255, 64, 238, 178, 58, 110, 90, 241, 85, 77, 168, 201, 193, 10, 152, 21, 48, 68, 162, 194, 44, 69, 146, 108, 243, 57, 102, 66, 242, 53, 32, 111, 119, 187, 89, 25, 29, 254, 55, 103, 45, 49, 245, 105, 167, 100, 171, 19, 84, 37, 233, 9, 237, 92, 5, 202, 76, 36, 135, 191, 24, 62, 34, 240, 81, 236, 97, 23, 22, 94, 175, 211, 73, 166, 54, 67, 244, 71, 145, 223, 51, 147, 33, 59, 121, 183, 151, 133, 16, 181, 186, 60, 182, 112, 208, 6, 161, 250, 129, 130, 131, 126, 127, 128, 150, 115, 190, 86, 155, 158, 149, 217, 247, 2, 185, 164, 222, 106, 50, 109, 216, 138, 132, 114, 42, 20, 159, 136, 249, 220, 137, 154, 251, 124, 46, 195, 143, 184, 101, 72, 38, 200, 18, 74, 206, 231, 210, 98, 12, 224, 31, 239, 17, 117, 120, 113, 165, 142, 118, 61, 189, 188, 134, 87, 11, 40, 47, 163, 218, 212, 228, 15, 169, 39, 83, 4, 27, 252, 172, 230, 122, 7, 174, 99, 197, 219, 226, 234, 148, 139, 196, 213, 157, 248, 144, 107, 177, 13, 214, 235, 198, 14, 207, 173, 8, 78, 215, 227, 93, 80, 30, 179, 91, 35, 56, 52, 104, 70, 3, 140, 221, 156, 125, 160, 205, 26, 65, 28]
def bs_SBl : List Nat := [99, 124, 119, 123, 242, 107, 111, 197, 48, 1, 103, 43, 254, 215, 171, 118, 202, 130, 201, 125, 250, 89, 71, 240, 173, 212, 162, 175, 156, 164, 114, 192, 183, 253, 147, 38, 54, 63, 247, 204, 52, 165, 229, 241, 113, 216, 49, 21, 4, 199, 35, 195, 24, 150, 5, 154, 7, 18, 128, 226, 235, 39, 178, 117, 9, 131, 44, 26, 27, 110, 90, 160, 82, 59, 214, 179, 41, 227, 47, 132, 83, 209, 0, 237, 32, 252, 177, 91, 106, 203, 190, 57, 74, 76, 88, 207, 208, 239, 170, 251, 67, 77, 51, 133, 69, 249, 2, 127, 80, 60, 159, 168, 81, 163, 64, 143, 146, 157, 56, 245, 188, 182, 218, 33, 16, 255, 243, 210, 205, 12, 19, 236, 95, 151, 68, 23, 196, 167, 126, 61, 100, 93, 25, 115, 96, 129, 79, 220, 34, 42, 144, 136, 70, 238, 184, 20, 222, 94, 11, 219, 224, 50, 58, 10, 73, 6, 36, 92, 194, 211, 172, 98, 145, 149, 228, 121, 231, 200, 55, 109, 141, 213, 78, 169, 108, 86, 244, 234, 101, 122, 174, 8, 186, 120, 37, 46, 28, 166, 180, 198, 232, 221, 116, 31, 75, 189, 139, 138, 112, 62, 181, 102, 72, 3, 246, 14, 97, 53, 87, 185, 134, 193, 29, 158, 225, 248, 152, 17, 105, 217, 142, 148, 155, 30, 135, 233, 206, 85, 40, 223, 140, 161, 137, 13, 191, 230, 66, 104, 65, 153, 45, 15, 176, 84, 187, 22]
def bs_K0l : List Nat := [1, 17, 33, 49, 65, 81, 97, 113, 129, 145, 161, 177, 193, 209, 225, 241, 62, 233, 128, 73, 127, 184, 225, 56, 254, 41, 64, 137, 63, 248, 161, 120, 125, 219, 60, 60, 2, 99, 221, 4, 252, 74, 157, 141, 195, 178, 60, 245, 78, 48, 218, 18, 76, 83, 7, 22, 176, 25, 154, 155, 115, 171, 166, 110, 36, 20, 69, 157, 104, 71, 66, 139, 216, 94, 216, 16, 171, 245, 126, 126, 210, 231, 182, 255, 186, 160, 244, 116, 98, 254, 44, 100, 201, 11, 82, 26, 217, 231, 20, 34, 99, 71, 224, 86, 1, 185, 204, 50, 200, 178, 158, 40, 174, 236, 32, 202, 205, 171, 192, 156, 204, 18, 12, 174, 4, 160, 146, 134, 206, 163, 100, 56, 3, 8, 164, 164, 207, 26, 168, 10, 203, 186, 58, 140, 33, 35, 0, 39, 34, 43, 164, 131, 237, 49, 12, 137, 38, 139, 54, 5, 42, 38, 107, 208, 8, 13, 207, 83, 229, 60, 195, 218, 195, 183, 245, 223]
def bs_K1l : List Nat := [2, 17, 32, 47, 62, 77, 92, 107, 122, 137, 152, 167, 182, 197, 212, 227, 165, 89, 49, 97, 155, 20, 109, 10, 225, 157, 245, 173, 87, 88, 33, 78, 205, 164, 30, 58, 86, 176, 115, 48, 183, 45, 134, 157, 224, 117, 167, 211, 84, 248, 120, 219, 2, 72, 11, 235, 181, 101, 141, 118, 85, 16, 42, 165, 150, 29, 126, 39, 148, 85, 117, 204, 33, 48, 248, 186, 116, 32, 210, 31, 49, 168, 190, 181, 165, 253, 203, 121, 132, 205, 51, 195, 240, 237, 225, 220, 68, 80, 56, 57, 225, 173, 243, 64, 101, 96, 192, 131, 149, 141, 33, 95, 89, 173, 247, 19, 184, 0, 4, 83, 221, 96, 196, 208, 72, 237, 229, 143, 140, 116, 132, 65, 52, 116, 128, 18, 233, 20, 68, 194, 161, 249, 161, 77, 14, 70, 103, 115, 58, 50, 231, 97, 211, 38, 163, 163, 114, 223, 2, 238, 166, 49, 79, 51, 156, 3, 168, 82, 79, 37, 11, 241, 61, 250, 9, 31]
def bs_PW (i : Nat) : Nat := bs_PWl.getD i 0
def bs_LG (i : Nat) : Nat := bs_LGl.getD i 0
def bs_IV (i : Nat) : Nat := bs_IVl.getD i 0
def bs_SB (i : Nat) : Nat := bs_SBl.getD i 0
/-- doubling of a byte -/
def bs_tX (b : Nat) : Nat := if b < 128 then 2 * b else (2 * b) ^^^ 283
/-- what the reference's product does, k rounds from sum and p -/
def bs_prodA (b : Nat) : Nat → Nat → Nat → Nat → Nat
  | 0, _, sum, _ => sum
  | n + 1, k, sum, p => bs_prodA b n (k + 1) (if b / 2 ^ k % 2 = 1 then sum ^^^ p else sum) (bs_tX p)
def bs_prod (a b : Nat) : Nat := bs_prodA b 8 0 0 a
/-- what the reference's inverse has found before c -/
def bs_invA (b : Nat) : Nat → Nat
  | 0 => 0
  | n + 1 => if bs_prod b (n + 1) = 1 then n + 1 else bs_invA b n
/-- all below n -/
def bs_all (n : Nat) (q : Nat → Bool) : Bool := match n with | 0 => true | k + 1 => bs_all k q && q k
theorem bs_all_of {q : Nat → Bool} : ∀ {n : Nat}, bs_all n q = true → ∀ j, j < n → q j = true
  | 0, _, j, h => absurd h (Nat.not_lt_zero _)
  | k + 1, h, j, hj => by
    have h2 : bs_all k q = true ∧ q k = true := by simpa [bs_all] using h
    rcases Nat.lt_succ_iff_lt_or_eq.mp hj with h1 | h1
    · exact bs_all_of h2.1 j h1
    · rw [h1]; exact h2.2
theorem bs_dec {P : Nat → Prop} [DecidablePred P] {n : Nat} (h : bs_all n (fun j => decide (P j)) = true) : ∀ j, j < n → P j := fun j hj => of_decide_eq_true (bs_all_of h j hj)
theorem bs_tX_lt : ∀ b, b < 256 → bs_tX b < 256 := bs_dec (by decide +kernel)
theorem bs_PW_lt : ∀ i, i < 256 → bs_PW i < 256 := bs_dec (by decide +kernel)
theorem bs_IV_lt : ∀ i, i < 256 → bs_IV i < 256 := bs_dec (by decide +kernel)
theorem bs_SB_lt : ∀ i, i < 256 → bs_SB i < 256 := bs_dec (by decide +kernel)
theorem bs_PW_s : ∀ i, i < 255 → bs_PW (i + 1) = bs_PW i ^^^ bs_tX (bs_PW i) := bs_dec (by decide +kernel)
theorem bs_PW_LG : ∀ i, i < 256 → i = 0 ∨ (bs_PW (bs_LG i) = i ∧ bs_LG i < 255) := bs_dec (by decide +kernel)
theorem bs_LG_PW : ∀ i, i < 255 → bs_LG (bs_PW i) = i ∧ bs_PW i ≠ 0 ∧ bs_IV (bs_PW i) = bs_PW (255 - i) := bs_dec (by decide +kernel)
theorem bs_prod_lt_aux (b : Nat) : ∀ n k sum p, sum < 256 → p < 256 → bs_prodA b n k sum p < 256
  | 0, _, _, _, h, _ => h
  | n + 1, k, sum, p, h, hp => by
    unfold bs_prodA
    refine bs_prod_lt_aux b n (k + 1) _ _ ?_ (bs_tX_lt p hp)
    split
    · exact Nat.xor_lt_two_pow (n := 8) h hp
    · exact h
theorem bs_prod_lt (a b : Nat) (ha : a < 256) : bs_prod a b < 256 := bs_prod_lt_aux b 8 0 0 a (by decide) ha
theorem bs_tw : ∀ b, b < 256 → bs_prod b 2 = bs_tX b := bs_dec (by decide +kernel)
/-! xor by places -/
theorem bs_xor_cat (k : Nat) {a b c d : Nat} (hb : b < 2 ^ k) (hd : d < 2 ^ k) : (2 ^ k * a + b) ^^^ (2 ^ k * c + d) = 2 ^ k * (a ^^^ c) + (b ^^^ d) := by
  have hx : b ^^^ d < 2 ^ k := Nat.xor_lt_two_pow hb hd
  apply Nat.eq_of_testBit_eq
  intro i
  rw [Nat.testBit_xor, Nat.testBit_two_pow_mul_add a hb, Nat.testBit_two_pow_mul_add c hd, Nat.testBit_two_pow_mul_add _ hx]
  split
  · rw [Nat.testBit_xor]
  · rw [Nat.testBit_xor]
theorem bs_or_cat (k : Nat) {a b : Nat} (hb : b < 2 ^ k) : (2 ^ k * a) ||| b = 2 ^ k * a + b := (Nat.two_pow_add_eq_or_of_lt hb a).symm
/-- four bytes as a word -/
def bs_w4 (a b c d : Nat) : Nat := 2 ^ 24 * a + (2 ^ 16 * b + (2 ^ 8 * c + d))
theorem bs_w4_lt {a b c d : Nat} (ha : a < 256) (hb : b < 256) (hc : c < 256) (hd : d < 256) : bs_w4 a b c d < 2 ^ 32 := by unfold bs_w4; omega
theorem bs_w4_xor {a b c d a' b' c' d' : Nat} (hb : b < 256) (hc : c < 256) (hd : d < 256) (hb' : b' < 256) (hc' : c' < 256) (hd' : d' < 256) : bs_w4 a b c d ^^^ bs_w4 a' b' c' d' = bs_w4 (a ^^^ a') (b ^^^ b') (c ^^^ c') (d ^^^ d') := by
  unfold bs_w4
  rw [bs_xor_cat 24 (by omega) (by omega), bs_xor_cat 16 (by omega) (by omega), bs_xor_cat 8 (by omega) (by omega)]
theorem bs_xor_lt {a b : Nat} (ha : a < 256) (hb : b < 256) : a ^^^ b < 256 := Nat.xor_lt_two_pow (n := 8) ha hb
/-- the reference's inverse is the table's, block by block -/
theorem bs_inv_0 : ∀ j, j < 16 → bs_invA (0 + j) 255 = bs_IV (0 + j) := bs_dec (by decide +kernel)
theorem bs_inv_1 : ∀ j, j < 16 → bs_invA (16 + j) 255 = bs_IV (16 + j) := bs_dec (by decide +kernel)
theorem bs_inv_2 : ∀ j, j < 16 → bs_invA (32 + j) 255 = bs_IV (32 + j) := bs_dec (by decide +kernel)
theorem bs_inv_3 : ∀ j, j < 16 → bs_invA (48 + j) 255 = bs_IV (48 + j) := bs_dec (by decide +kernel)
theorem bs_inv_4 : ∀ j, j < 16 → bs_invA (64 + j) 255 = bs_IV (64 + j) := bs_dec (by decide +kernel)
theorem bs_inv_5 : ∀ j, j < 16 → bs_invA (80 + j) 255 = bs_IV (80 + j) := bs_dec (by decide +kernel)
theorem bs_inv_6 : ∀ j, j < 16 → bs_invA (96 + j) 255 = bs_IV (96 + j) := bs_dec (by decide +kernel)
theorem bs_inv_7 : ∀ j, j < 16 → bs_invA (112 + j) 255 = bs_IV (112 + j) := bs_dec (by decide +kernel)
theorem bs_inv_8 : ∀ j, j < 16 → bs_invA (128 + j) 255 = bs_IV (128 + j) := bs_dec (by decide +kernel)
theorem bs_inv_9 : ∀ j, j < 16 → bs_invA (144 + j) 255 = bs_IV (144 + j) := bs_dec (by decide +kernel)
theorem bs_inv_10 : ∀ j, j < 16 → bs_invA (160 + j) 255 = bs_IV (160 + j) := bs_dec (by decide +kernel)
theorem bs_inv_11 : ∀ j, j < 16 → bs_invA (176 + j) 255 = bs_IV (176 + j) := bs_dec (by decide +kernel)
theorem bs_inv_12 : ∀ j, j < 16 → bs_invA (192 + j) 255 = bs_IV (192 + j) := bs_dec (by decide +kernel)
theorem bs_inv_13 : ∀ j, j < 16 → bs_invA (208 + j) 255 = bs_IV (208 + j) := bs_dec (by decide +kernel)
theorem bs_inv_14 : ∀ j, j < 16 → bs_invA (224 + j) 255 = bs_IV (224 + j) := bs_dec (by decide +kernel)
theorem bs_inv_15 : ∀ j, j < 16 → bs_invA (240 + j) 255 = bs_IV (240 + j) := bs_dec (by decide +kernel)
theorem bs_inv : ∀ b, b < 256 → bs_invA b 255 = bs_IV b := by
  intro b hb
  obtain ⟨j, hj⟩ : ∃ j, b = 16 * (b / 16) + j ∧ j < 16 := ⟨b % 16, by omega, by omega⟩
  have hq : b / 16 < 16 := by omega
  generalize b / 16 = q at hj hq
  obtain ⟨rfl, hj⟩ := hj
  match q, hq with
  | 0, _ => exact bs_inv_0 j hj
  | 1, _ => exact bs_inv_1 j hj
  | 2, _ => exact bs_inv_2 j hj
  | 3, _ => exact bs_inv_3 j hj
  | 4, _ => exact bs_inv_4 j hj
  | 5, _ => exact bs_inv_5 j hj
  | 6, _ => exact bs_inv_6 j hj
  | 7, _ => exact bs_inv_7 j hj
  | 8, _ => exact bs_inv_8 j hj
  | 9, _ => exact bs_inv_9 j hj
  | 10, _ => exact bs_inv_10 j hj
  | 11, _ => exact bs_inv_11 j hj
  | 12, _ => exact bs_inv_12 j hj
  | 13, _ => exact bs_inv_13 j hj
  | 14, _ => exact bs_inv_14 j hj
  | 15, _ => exact bs_inv_15 j hj
  | n + 16, h => exact absurd h (by omega)
