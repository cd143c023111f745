def gH (H : Hp) (A B C : Row) : Hp := su (su (su H 38 A) 35 B) 36 C
theorem gH_38 (H : Hp) (A B C : Row) : gH H A B C 38 = A := by
  unfold gH
  rw [su_ne (by decide), su_ne (by decide), su_same]
theorem gH_35 (H : Hp) (A B C : Row) : gH H A B C 35 = B := by
  unfold gH
  rw [su_ne (by decide), su_same]
theorem gH_36 (H : Hp) (A B C : Row) : gH H A B C 36 = C := su_same _ _ _
theorem gH_n {H : Hp} {A B C : Row} {r : Nat} (h : r ≠ 35 ∧ r ≠ 36 ∧ r ≠ 38) : gH H A B C r = H r := by
  unfold gH
  rw [su_ne h.2.1, su_ne h.1, su_ne h.2.2]
theorem gH_s (H : Hp) (A B C A2 B2 C2 : Row) : su (su (su (gH H A B C) 38 A2) 35 B2) 36 C2 = gH H A2 B2 C2 := by
  unfold gH
  funext q
  by_cases q1 : q = 36
  · subst q1; rw [su_same, su_same]
  · rw [su_ne q1, su_ne q1]
    by_cases q2 : q = 35
    · subst q2; rw [su_same, su_same]
    · rw [su_ne q2, su_ne q2]
      by_cases q3 : q = 38
      · subst q3; rw [su_same, su_same]
      · rw [su_ne q3, su_ne q1, su_ne q2, su_ne q3, su_ne q3]
def s37 (H : Hp) (k : Nat) : Row := fun j => H 37 (3 * j + k)
theorem kid_loop {H : Hp} {n : Nat} (hn : n ≤ 5) (h4 : H 33 4 = nI n) (X Y Z : Row) : ∀ (d f k : Nat), k + d = n → qX7_garden_48 (d + 1 + f) (gH H (pst k 0 (s37 H 0) X) (pst k 0 (s37 H 1) Y) (pst k 0 (s37 H 2) Z)) (nI k) = qX7_garden_48 (f + 1) (gH H (pst n 0 (s37 H 0) X) (pst n 0 (s37 H 1) Y) (pst n 0 (s37 H 2) Z)) (nI n) := by
  intro d
  induction d with
  | zero =>
    intro f k hk
    rw [show 0 + 1 + f = f + 1 by omega, show k = n by omega]
  | succ d ih =>
    intro f k hk
    have m0 : (3 : Int32) * nI k = nI (3 * k) := pk_mul 3 k
    have m1 : nI (3 * k) + (1 : Int32) = nI (3 * k + 1) := nI_add _ 1
    have m2 : nI (3 * k) + (2 : Int32) = nI (3 * k + 2) := nI_add _ 2
    have s0 := pst_s k 0 (s37 H 0) X
    have s1 := pst_s k 0 (s37 H 1) Y
    have s2 := pst_s k 0 (s37 H 2) Z
    rw [Nat.zero_add] at s0 s1 s2
    have i5 : inb (nI k) 5 = true := in5 (by omega)
    have v0 : H 37 (3 * k) = s37 H 0 k := rfl
    have v1 : H 37 (3 * k + 1) = s37 H 1 k := rfl
    have v2 : H 37 (3 * k + 2) = s37 H 2 k := rfl
    rw [show d + 1 + 1 + f = (d + 1 + f) + 1 by omega, qX7_garden_48, gH_n (show (33 : Nat) ≠ 35 ∧ 33 ≠ 36 ∧ 33 ≠ 38 by decide), h4, if_neg (nI_ge (by omega) (by omega)), m0, ck_t (inb_nI (show 3 * k < 15 by omega) (by decide)), pl0, ck_t (in36 (by omega)), gH_38, gH_n (show (37 : Nat) ≠ 35 ∧ 37 ≠ 36 ∧ 37 ≠ 38 by decide), cl_nI (show 0 + k < 2 ^ 31 by omega), cl_nI (show 3 * k < 2 ^ 31 by omega), Nat.zero_add, v0, s0, bd_t, m1, ck_t (inb_nI (show 3 * k + 1 < 15 by omega) (by decide)), ck_t i5, su_ne (show (35 : Nat) ≠ 38 by decide), gH_35, su_ne (show (37 : Nat) ≠ 38 by decide), gH_n (show (37 : Nat) ≠ 35 ∧ 37 ≠ 36 ∧ 37 ≠ 38 by decide), cl_nI (show 3 * k + 1 < 2 ^ 31 by omega), cl_nI (show k < 2 ^ 31 by omega), v1, s1, bd_t, m2, ck_t (inb_nI (show 3 * k + 2 < 15 by omega) (by decide)), ck_t i5, su_ne (show (36 : Nat) ≠ 35 by decide), su_ne (show (36 : Nat) ≠ 38 by decide), gH_36, su_ne (show (37 : Nat) ≠ 35 by decide), su_ne (show (37 : Nat) ≠ 38 by decide), gH_n (show (37 : Nat) ≠ 35 ∧ 37 ≠ 36 ∧ 37 ≠ 38 by decide), cl_nI (show 3 * k + 2 < 2 ^ 31 by omega), v2, s2, gH_s, bd_t, nI_1]
    exact ih f (k + 1) (by omega)
