/-! bs_: goodness, digests and changes of equal places -/
theorem bs_t_gd {fk fb : Nat → Int32} {n : Nat} (hf : ∀ j, j < 160 → fb j = fk (160 * n + j)) : ∀ i, i ≤ 8 → bs_gd fb i = bs_gd (bs_kf fk n) i
  | 0, _ => rfl
  | i + 1, hi => by
    have e : bs_ok fb i = bs_ok (bs_kf fk n) i := by
      unfold bs_ok
      rw [show fb (16 + 17 * i + 15) = bs_kf fk n (16 + 17 * i + 15) from hf _ (by omega), show fb (16 + 17 * i + 16) = bs_kf fk n (16 + 17 * i + 16) from hf _ (by omega)]
    show (bs_gd fb i && bs_ok fb i) = (bs_gd (bs_kf fk n) i && bs_ok (bs_kf fk n) i)
    rw [bs_t_gd hf i (by omega), e]
theorem bs_t_dg {f g : Nat → Int64} (h : ∀ j, j < 256 → f j = g j) : ∀ i, i ≤ 256 → bs_dg f i = bs_dg g i
  | 0, _ => rfl
  | i + 1, hi => by
    unfold bs_dg
    rw [bs_t_dg h i (by omega), h (255 - i) (by omega)]
theorem bs_t_chg {f g f2 g2 : Nat → Int64} (h : ∀ j, j < 256 → f j = f2 j) (h2 : ∀ j, j < 256 → g j = g2 j) : ∀ i, i ≤ 256 → bs_chg f g i = bs_chg f2 g2 i
  | 0, _ => rfl
  | i + 1, hi => by
    unfold bs_chg
    rw [bs_t_chg h h2 i (by omega), h i (by omega), h2 i (by omega)]
theorem bs_t_qs {c d : Nat → Bool} {f g : Nat → Int64} (h : ∀ j, j < 256 → c j = d j) (h2 : ∀ j, j < 256 → f j = g j) : ∀ i, i ≤ 256 → bs_qs c f i = bs_qs d g i
  | 0, _ => rfl
  | i + 1, hi => by
    unfold bs_qs
    rw [bs_t_qs h h2 i (by omega), h i (by omega), h2 i (by omega)]
