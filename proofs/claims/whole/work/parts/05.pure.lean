-- ===== plain functions in which the contracts speak =====
def mixZ (f g : Nat → Int) (n : Nat) : Nat → Int := fun q => if q < n then f q else g q
theorem mix_0 (f g : Nat → Int) : mixZ f g 0 = g := by funext q; simp [mixZ]
theorem mix_ge {f g : Nat → Int} {n q : Nat} (h : n ≤ q) : mixZ f g n q = g q := by simp [mixZ]; omega
theorem mix_lt {f g : Nat → Int} {n q : Nat} (h : q < n) : mixZ f g n q = f q := by simp [mixZ]; omega
theorem mix_up {f g : Nat → Int} {n : Nat} {v : Int} (h : v = f n) : va_up (mixZ f g n) n v = mixZ f g (n + 1) := by
  funext q
  unfold va_up mixZ
  by_cases h1 : q = n
  · subst h1; simp [h]
  · rw [if_neg h1]
    by_cases h2 : q < n
    · rw [if_pos h2, if_pos (by omega)]
    · rw [if_neg h2, if_neg (by omega)]
theorem mix_skip {f g : Nat → Int} {n m : Nat} (hm : n ≤ m) (h : ∀ q, n ≤ q → q < m → f q = g q) : mixZ f g n = mixZ f g m := by
  funext q
  unfold mixZ
  by_cases h2 : q < n
  · rw [if_pos h2, if_pos (by omega)]
  · rw [if_neg h2]
    by_cases h3 : q < m
    · rw [if_pos h3, h q (by omega) h3]
    · rw [if_neg h3]
theorem up_same {f : Nat → Int} {k : Nat} {v : Int} : va_up f k v k = v := by simp [va_up]
theorem up_ne {f : Nat → Int} {k j : Nat} {v : Int} (h : j ≠ k) : va_up f k v j = f j := by simp [va_up, h]
def sumZ (f : Nat → Int) : Nat → Int
  | 0 => 0
  | n + 1 => sumZ f n + f n
def cntZ (f : Nat → Bool) : Nat → Nat
  | 0 => 0
  | n + 1 => cntZ f n + (if f n then 1 else 0)
theorem cntZ_le (f : Nat → Bool) : ∀ n, cntZ f n ≤ n
  | 0 => Nat.le_refl _
  | n + 1 => by have := cntZ_le f n; unfold cntZ; split <;> omega
def setZ (f : Nat → Int) : Nat → Nat
  | 0 => 0
  | n + 1 => if f n = 1 then setZ f n ||| 1 <<< n else setZ f n
theorem setZ_lt (f : Nat → Int) : ∀ n, setZ f n < 2 ^ n
  | 0 => by simp [setZ]
  | n + 1 => by
    have h := setZ_lt f n
    unfold setZ
    split
    · refine Nat.or_lt_two_pow (Nat.lt_of_lt_of_le h (Nat.pow_le_pow_right (by decide) (Nat.le_succ n))) ?_
      rw [Nat.shiftLeft_eq, Nat.one_mul]
      exact Nat.pow_lt_pow_right (by decide) (Nat.lt_succ_self n)
    · exact Nat.lt_of_lt_of_le h (Nat.pow_le_pow_right (by decide) (Nat.le_succ n))
def cmpZ (a b : Int) : Int := if a < b then -1 else if a = b then 0 else 1
/-- a sum that stands so to its number -/
abbrev keptP (k S N : Int) : Prop := S = N ∨ (S < N ∧ k = 0) ∨ (N < S ∧ k = 1)
-- Euclid
def euI (n x y : Nat) : Prop := (n = 0 ∧ x * y ≤ 2 ^ 126) ∨ (1 ≤ n ∧ y < x ∧ x * y * 2 ^ n ≤ 2 ^ 127)
theorem eu_half {x y : Nat} (h : y < x) (h0 : 0 < y) : 2 * (x % y) ≤ x := by
  have h1 := Nat.mod_lt x h0
  have h2 := Nat.div_add_mod x y
  have h3 : 1 ≤ x / y := Nat.div_pos (Nat.le_of_lt h) h0
  have h4 : y * 1 ≤ y * (x / y) := Nat.mul_le_mul_left y h3
  omega
theorem euI_step {n x y : Nat} (h : euI n x y) (h0 : y ≠ 0) : euI (n + 1) y (x % y) := by
  have hy : 0 < y := by omega
  have hm := Nat.mod_lt x hy
  right
  refine ⟨by omega, hm, ?_⟩
  rcases h with ⟨rfl, h⟩ | ⟨h1, h2, h3⟩
  · have h5 : y * (x % y) ≤ y * x := Nat.mul_le_mul_left y (Nat.mod_le x y)
    rw [Nat.mul_comm y x] at h5
    have : y * (x % y) * 2 ^ 1 ≤ 2 ^ 126 * 2 ^ 1 := Nat.mul_le_mul_right _ (Nat.le_trans h5 h)
    simpa using this
  · have h5 := eu_half h2 hy
    have h6 : y * (2 * (x % y)) ≤ y * x := Nat.mul_le_mul_left y h5
    have h7 : y * (x % y) * 2 ^ (n + 1) = y * (2 * (x % y)) * 2 ^ n := by
      rw [Nat.pow_succ]; simp only [Nat.mul_assoc, Nat.mul_comm, Nat.mul_left_comm]
    rw [h7]
    refine Nat.le_trans (Nat.mul_le_mul_right _ h6) ?_
    rw [Nat.mul_comm y x]
    exact h3
theorem euI_end {n x y : Nat} (h : euI n x y) (hn : 128 ≤ n) : y = 0 := by
  rcases h with ⟨rfl, h⟩ | ⟨h1, h2, h3⟩
  · omega
  · rcases Nat.eq_zero_or_pos y with h4 | h4
    · exact h4
    · exfalso
      have h5 : 1 ≤ x * y := Nat.mul_pos (by omega) h4
      have h6 : 2 ^ 128 ≤ 2 ^ n := Nat.pow_le_pow_right (by decide) hn
      have h7 : 1 * 2 ^ n ≤ x * y * 2 ^ n := Nat.mul_le_mul_right _ h5
      have h8 : (2 : Nat) ^ 127 < 2 ^ 128 := by decide
      omega
theorem euI_0 {a b : Int} (ha : -9223372036854775808 < a ∧ a ≤ 9223372036854775807) (hb : -9223372036854775808 < b ∧ b ≤ 9223372036854775807) : euI 0 a.natAbs b.natAbs := by
  left
  refine ⟨rfl, ?_⟩
  have h1 : a.natAbs ≤ 2 ^ 63 := by omega
  have h2 : b.natAbs ≤ 2 ^ 63 := by omega
  exact Nat.le_trans (Nat.mul_le_mul h1 h2) (by decide)
theorem tmod_nat (x y : Nat) : Int.tmod (x : Int) (y : Int) = ((x % y : Nat) : Int) := by
  rw [← Int.ofNat_tmod]
theorem gcd_step {x y g : Nat} (h : Nat.gcd x y = g) : Nat.gcd y (x % y) = g := by
  rw [Nat.gcd_comm, ← Nat.gcd_rec, Nat.gcd_comm]; exact h
/-- above or below the line, in lowest terms -/
def lowZ (a b part : Int) : Int := if Int.gcd a b = 0 then part else if part = 0 then Int.tdiv a (Int.gcd a b : Nat) else Int.tdiv b (Int.gcd a b : Nat)
def floorZ (a b : Int) : Int := if 0 ≤ a then Int.tdiv a b else if Int.tdiv a b * b = a then Int.tdiv a b else Int.tdiv a b - 1
abbrev fitsP (k a b : Int) : Prop := k = 2 ∨ (-20 ≤ a ∧ a ≤ 20 ∧ ((b = -2000000005 ∧ k = 0) ∨ (b ≠ -2000000005 ∧ a ≤ b ∧ b ≤ 20 ∧ (k = 0 ∨ b - a ≤ 9))))
theorem tdiv_mul_abs (x y : Int) : (x.tdiv y * y).natAbs ≤ x.natAbs := by
  rw [Int.natAbs_mul, Int.natAbs_tdiv]
  exact Nat.div_mul_le_self _ _
theorem fl_mul {x y : Int} (hx : I64 x) (h : -9223372036854775808 < x) (h0 : 0 < y) : I64 (x.tdiv y * y) := by
  have e := tdiv_mul_abs x y
  obtain ⟨h1, h2⟩ := hx
  constructor <;> omega
theorem fl_mul32 {x y : Int} (hx : I32 x) (h : -2147483648 < x) (h0 : 0 < y) : I32 (x.tdiv y * y) := by
  have e := tdiv_mul_abs x y
  obtain ⟨h1, h2⟩ := hx
  constructor <;> omega
theorem gcd_pos_of (a : Int) {b : Int} (h : b ≠ 0) : 0 < Int.gcd a b := Int.gcd_pos_of_ne_zero_right a h
theorem gcd_le_of (a : Int) {b : Int} (h : 0 < b) : ((Int.gcd a b : Nat) : Int) ≤ b := Int.le_of_dvd h (Int.gcd_dvd_right a b)
