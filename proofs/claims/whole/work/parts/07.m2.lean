/-! bs_: the digest: a sum of 61 bits goes on by one word, two ways -/
def bs_M : Nat := 2305843009213693951
/-- the sum goes on by a word -/
def bs_fur (sum w : Nat) : Nat := (sum * 1000003 + w) % 2305843009213693951
theorem bs_fold {n v : Nat} (hv : v = n % 2305843009213693952 + n / 2305843009213693952) (hn : n < 2 * 2305843009213693951) : (if 2305843009213693951 ≤ v then v - 2305843009213693951 else v) = n % 2305843009213693951 := by
  subst hv
  split <;> omega
/-- the class's way: upper 21 bits and lower 40 -/
theorem bs_furC {sum w : Nat} (hs : sum < 2305843009213693951) (hw : w < 4294967296) :
    ((sum % 1099511627776) * 1000003 + (sum / 1099511627776 * 1000003) / 2097152 + ((sum / 1099511627776 * 1000003) % 2097152) * 1099511627776 + w) % 2305843009213693951 = bs_fur sum w ∧
    (sum % 1099511627776) * 1000003 + (sum / 1099511627776 * 1000003) / 2097152 + ((sum / 1099511627776 * 1000003) % 2097152) * 1099511627776 + w < 2 * 2305843009213693951 := by
  unfold bs_fur
  constructor <;> omega
/-- the reference's way: upper 30 bits and lower 31 -/
theorem bs_furR {sum w : Nat} (hs : sum < 2305843009213693951) (hw : w < 4294967296) :
    ((sum / 2147483648 * 1000003) / 1073741824 + ((sum / 2147483648 * 1000003) % 1073741824) * 2147483648 + (sum % 2147483648) * 1000003 + w) % 2305843009213693951 = bs_fur sum w ∧
    (sum / 2147483648 * 1000003) / 1073741824 + ((sum / 2147483648 * 1000003) % 1073741824) * 2147483648 + (sum % 2147483648) * 1000003 + w < 2 * 2305843009213693951 := by
  unfold bs_fur
  constructor <;> omega
theorem bs_fur_lt (sum w : Nat) : bs_fur sum w < 2305843009213693951 := Nat.mod_lt _ (by decide)
/-- a long's two words, from the last place down -/
def bs_dig (f : Nat → Nat) : Nat → Nat → Nat
  | 0, sum => sum
  | n + 1, sum => bs_dig f n (bs_fur (bs_fur sum (f n % 4294967296)) (f n / 4294967296))
