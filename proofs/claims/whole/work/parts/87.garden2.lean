def tH (h : Hp) (A B : Row) : Hp := su (su h 22 A) 23 B
theorem tH_22 (h : Hp) (A B C : Row) : su (tH h A B) 22 C = tH h C B := by
  unfold tH
  funext q
  by_cases q1 : q = 22
  · subst q1; rw [su_same, su_ne (by decide), su_same]
  · rw [su_ne q1]
    by_cases q2 : q = 23
    · subst q2; rw [su_same, su_same]
    · rw [su_ne q2, su_ne q1, su_ne q2, su_ne q1]
theorem tH_23 (h : Hp) (A B C : Row) : su (tH h A B) 23 C = tH h A C := su_su _ _ _ _
theorem tH_n {h : Hp} {A B : Row} {r : Nat} (h1 : r ≠ 22) (h2 : r ≠ 23) : tH h A B r = h r := by
  unfold tH
  rw [su_ne h2, su_ne h1]
def sK (h : Hp) (k : Nat) : Row := fun j => nI (tx h (4 + 4 * j + k)) - 48
theorem tell_loop {h : Hp} {n : Nat} (T : TxO h (4 + 4 * n)) (hn : n ≤ 5) (h21 : h 21 0 = nI n) (X Y : Row) : ∀ (d f k : Nat), k + d = n → qX1_tellFrom_10 (d + 1 + f) (tH h (pst k 0 (sK h 2) X) (pst k 0 (sK h 3) Y)) (nI k) = some (tH h (pst n 0 (sK h 2) X) (pst n 0 (sK h 3) Y)) := by
  intro d
  induction d with
  | zero =>
    intro f k hk
    rw [show 0 + 1 + f = f + 1 by omega, qX1_tellFrom_10, tH_n (by decide) (by decide), h21, if_pos (nI_le (by omega) (by omega)), show k = n by omega]
  | succ d ih =>
    intro f k hk
    have i5 : inb (nI k) 5 = true := in5 (by omega)
    have g2 : qX5_figureOfChild (h 19) (h 20) (nI k) 2 = some (sK h 2 k) := by
      unfold qX5_figureOfChild
      rw [show (2 : Int32) = nI 2 from rfl, figc, bi1_t (figu_C T (show 4 + 4 * k + 2 < 4 + 4 * n by omega))]
      rfl
    have g3 : qX5_figureOfChild (h 19) (h 20) (nI k) 3 = some (sK h 3 k) := by
      unfold qX5_figureOfChild
      rw [show (3 : Int32) = nI 3 from rfl, figc, bi1_t (figu_C T (show 4 + 4 * k + 3 < 4 + 4 * n by omega))]
      rfl
    have r22 : ∀ A B : Row, tH h A B 22 = A := fun A B => by unfold tH; rw [su_ne (by decide), su_same]
    have r23 : ∀ A B : Row, tH h A B 23 = B := fun A B => su_same _ _ _
    have s2 := pst_s k 0 (sK h 2) X
    have s3 := pst_s k 0 (sK h 3) Y
    rw [Nat.zero_add] at s2 s3
    rw [show d + 1 + 1 + f = (d + 1 + f) + 1 by omega, qX1_tellFrom_10, tH_n (show (21 : Nat) ≠ 22 by decide) (by decide), h21, if_neg (nI_ge (by omega) (by omega)), tH_n (show (19 : Nat) ≠ 22 by decide) (by decide), tH_n (show (20 : Nat) ≠ 22 by decide) (by decide), bi1_t g2, ck_t i5, cl_nI (by omega), r22, s2, tH_22, bd_t, tH_n (show (19 : Nat) ≠ 22 by decide) (by decide), tH_n (show (20 : Nat) ≠ 22 by decide) (by decide), bi1_t g3, ck_t i5, r23, s3, tH_23, bd_t, nI_1]
    exact ih f (k + 1) (by omega)
theorem forget_S (h : Hp) : qX4_forgetAll h = some (su h 28 (upd (upd (h 28) 0 0) 1 0)) := by
  unfold qX4_forgetAll
  rw [show (600 : Nat) = 597 + 1 + 1 + 1 from rfl, qX4_forgetAll_2, if_neg (show ¬ (2 : Int32) ≤ 0 by decide), ck_t (show inb 0 2 = true by decide), bd_t, qX4_forgetAll_2, if_neg (show ¬ (2 : Int32) ≤ 0 + 1 by decide), ck_t (show inb (0 + 1) 2 = true by decide), bd_t, qX4_forgetAll_2, if_pos (show (2 : Int32) ≤ 0 + 1 + 1 by decide), su_same, su_su]
  rfl
/-- the reference's page, emptied -/
theorem zero_loop {h : Hp} : ∀ (d f k : Nat), k + d = 36 → qX7_garden_27 (d + 1 + f) (su h 38 (pst k 0 (fun _ => 0) (h 38))) (nI k) = qX7_garden_48 600 (su h 38 (pst 36 0 (fun _ => 0) (h 38))) (nI 0) := by
  intro d
  induction d with
  | zero =>
    intro f k hk
    have e36 : k = 36 := by omega
    subst e36
    rw [show 0 + 1 + f = f + 1 by omega, qX7_garden_27, if_pos (le36 (by omega) (by omega))]
    rfl
  | succ d ih =>
    intro f k hk
    have e := pst_s k 0 (fun _ => (0 : Int32)) (h 38)
    rw [Nat.zero_add] at e
    rw [show d + 1 + 1 + f = (d + 1 + f) + 1 by omega, qX7_garden_27, if_neg (nle36 (by omega)), ck_t (in36 (by omega)), bd_t, su_same, su_su, cl_nI (by omega), nI_1, e]
    exact ih f (k + 1) (by omega)
