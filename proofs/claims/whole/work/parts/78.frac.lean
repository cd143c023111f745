/-! fractions -/
theorem half_rem {y r : Nat} (h0 : 0 < r) (h1 : r < y) : 2 * (y % r) < y := by
  have h2 := Nat.mod_lt y h0
  have h3 := Nat.div_add_mod y r
  by_cases h : 2 * r ≤ y
  · omega
  · have h4 : y / r = 1 := Nat.div_eq_of_lt_le (by omega) (by omega)
    rw [h4] at h3
    omega
theorem gcd_C {f x y i : Nat} (hi : i < 64) (hx : x < 2 ^ 31) (hy : y < 2 ^ 31) (h0 : 0 < y) : qX6_commonDivisor_7 (f + 1) (nI x) (nI y) (nI i) = qX6_commonDivisor_7 f (nI y) (nI (x % y)) (nI (i + 1)) := by
  rw [qX6_commonDivisor_7, if_neg (show ¬ (64 : Int32) ≤ nI i from nI_ge (a := i) (b := 64) hi (by decide)), if_neg (nI_ne0 h0 hy), ck_t (nz_t (nI_ne0 h0 hy)), pk_rem hx h0 hy, nI_1]
theorem gcd_C0 {f x i : Nat} (hi : i < 64) : qX6_commonDivisor_7 (f + 1) (nI x) (nI 0) (nI i) = some (nI x) := by
  rw [qX6_commonDivisor_7, if_neg (show ¬ (64 : Int32) ≤ nI i from nI_ge (a := i) (b := 64) hi (by decide)), if_pos (show nI 0 = (0 : Int32) from rfl)]
theorem gcd_R {f x y : Nat} (hx : x < 2 ^ 31) (hy : y < 2 ^ 31) (h0 : 0 < y) : qX7_divisor_13 (f + 1) (nI x) (nI y) = qX7_divisor_13 f (nI y) (nI (x % y)) := by
  rw [qX7_divisor_13, if_neg (nI_ne0 h0 hy), ck_t (nz_t (nI_ne0 h0 hy)), pk_rem hx h0 hy]
theorem gcd_R0 {f x : Nat} : qX7_divisor_13 (f + 1) (nI x) (nI 0) = some (nI x) := by
  rw [qX7_divisor_13, if_pos (show nI 0 = (0 : Int32) from rfl)]
theorem gcd_both : ∀ (k x y i f f2 : Nat), y < 2 ^ k → k ≤ 30 → x < 2 ^ 31 → i + 2 * k ≤ 63 → 0 < x + y → ∃ d, 0 < d ∧ d < 2 ^ 31 ∧ qX6_commonDivisor_7 (2 * k + 1 + f) (nI x) (nI y) (nI i) = some (nI d) ∧ qX7_divisor_13 (2 * k + 1 + f2) (nI x) (nI y) = some (nI d) := by
  intro k
  induction k with
  | zero =>
    intro x y i f f2 hy hk hx hi h0
    have y0 : y = 0 := by
      rw [Nat.pow_zero] at hy
      omega
    subst y0
    exact ⟨x, by omega, hx, by rw [show 2 * 0 + 1 + f = f + 1 by omega]; exact gcd_C0 (by omega), by rw [show 2 * 0 + 1 + f2 = f2 + 1 by omega]; exact gcd_R0⟩
  | succ k ih =>
    intro x y i f f2 hy hk hx hi h0
    have p31 : 2 ^ (k + 1) ≤ 2 ^ 30 := Nat.pow_le_pow_right (by decide) (by omega)
    have pk : 2 ^ (k + 1) = 2 * 2 ^ k := by rw [Nat.pow_succ]; omega
    by_cases y0 : y = 0
    · subst y0
      exact ⟨x, by omega, hx, by rw [show 2 * (k + 1) + 1 + f = (2 * k + 2 + f) + 1 by omega]; exact gcd_C0 (by omega), by rw [show 2 * (k + 1) + 1 + f2 = (2 * k + 2 + f2) + 1 by omega]; exact gcd_R0⟩
    · have hy31 : y < 2 ^ 31 := by omega
      have hr : x % y < y := Nat.mod_lt _ (by omega)
      rw [show 2 * (k + 1) + 1 + f = (2 * k + 1 + f + 1) + 1 by omega, show 2 * (k + 1) + 1 + f2 = (2 * k + 1 + f2 + 1) + 1 by omega, gcd_C (by omega) hx hy31 (by omega), gcd_R hx hy31 (by omega)]
      generalize x % y = r at hr
      by_cases r0 : r = 0
      · subst r0
        exact ⟨y, by omega, hy31, gcd_C0 (by omega), gcd_R0⟩
      · have hh := half_rem (y := y) (r := r) (by omega) hr
        rw [gcd_C (by omega) hy31 (by omega) (by omega), gcd_R hy31 (by omega) (by omega)]
        exact ih r (y % r) (i + 1 + 1) f f2 (by omega) (by omega) (by omega) (by omega) (by omega)
theorem frac_eq {x z : Int32} {y : Nat} (hx : -(2 ^ 31 : Int) < x.toInt) (hy : y < 2 ^ 20) (h0 : 0 < y) : ∃ r, qX6_fraction x (nI y) z = some r ∧ qX7_fraction x (nI y) z = some r := by
  obtain ⟨q, hq, e1, e2⟩ : ∃ q, q < 2 ^ 31 ∧ (if 0 ≤ x then x else 0 - x) = nI q ∧ qX7_divisor x (nI y) = qX7_divisor_13 600 (nI q) (nI y) := by
    have hlt := Int32.toInt_lt x
    by_cases hz : 0 ≤ x
    · rw [if_pos hz]
      have hz2 := hz
      rw [Int32.le_iff_toInt_le, show (0 : Int32).toInt = 0 by decide] at hz2
      have e : x = nI x.toInt.toNat := Int32.toInt_inj.mp (by rw [nI_toInt (by omega)]; omega)
      refine ⟨x.toInt.toNat, by omega, e, ?_⟩
      unfold qX7_divisor qX7_divisor_10
      rw [if_pos hz, ← e]
    · rw [if_neg hz]
      have hz2 := hz
      rw [Int32.le_iff_toInt_le, show (0 : Int32).toInt = 0 by decide] at hz2
      have en : (-x).toInt = -x.toInt := by
        rw [Int32.toInt_neg, Int.bmod_eq_of_le_mul_two (by omega) (by omega)]
      have e : -x = nI (-x.toInt).toNat := Int32.toInt_inj.mp (by rw [nI_toInt (by omega), en]; omega)
      refine ⟨(-x.toInt).toNat, by omega, by rw [Int32.zero_sub, ← e], ?_⟩
      unfold qX7_divisor qX7_divisor_10
      rw [if_neg hz, ← e]
  obtain ⟨d, d0, d1, g1, g2⟩ := gcd_both 20 q y 0 559 559 hy (by omega) hq (by omega) (by omega)
  have c1 : qX6_commonDivisor (nI q) (nI y) = some (nI d) := g1
  have mx : (if (1 : Int32) < nI d then nI d else (1 : Int32)) = nI d := by
    by_cases h1 : d = 1
    · subst h1
      rw [if_neg (show ¬ (1 : Int32) < nI 1 by decide)]
      rfl
    · rw [if_pos (show (1 : Int32) < nI d from nI_lt (a := 1) (b := d) (by omega) d1)]
  have nd : nz (nI d) = true := nz_t (nI_ne0 d0 d1)
  unfold qX6_fraction qX7_fraction
  rw [e1, bi1_t c1, e2, bi1_t g2, mx]
  by_cases hz : z = 0
  · rw [if_pos hz, ck_t nd]
    exact ⟨_, rfl, rfl⟩
  · rw [if_neg hz, ck_t nd]
    exact ⟨_, rfl, rfl⟩
