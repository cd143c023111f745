theorem gar_C {h : Hp} {n : Nat} (T : TxO h (4 + 4 * n)) (hn : n ≤ 5) (good : ∀ i, i < 4 + 4 * n → ft i (tx h i) = true) : qX6_garden h = some (nI n, gC h n) := by
  have e9 : endF (4 + 4 * n) = -9 := by
    unfold endF
    rw [if_neg (by omega), if_pos (by omega)]
  unfold qX6_garden qX0_forgetAll
  rw [bi1_t (fault_C2 T good), e9, if_pos rfl, bi1_t (tell_C T hn), tH_n (show (19 : Nat) ≠ 22 by decide) (by decide), tH_n (show (20 : Nat) ≠ 22 by decide) (by decide), tH_n (show (0 : Nat) ≠ 22 by decide) (by decide), su_ne (show (19 : Nat) ≠ 21 by decide), su_ne (show (20 : Nat) ≠ 21 by decide), su_ne (show (0 : Nat) ≠ 21 by decide), bi1_t (start_C T hn (h 0)), bd_t, bd_t, bi1_t rfl, su_ne (show (24 : Nat) ≠ 0 by decide), tH_n (show (24 : Nat) ≠ 22 by decide) (by decide), su_ne (show (24 : Nat) ≠ 21 by decide), bi1_t (forget_S _), su_ne (show (28 : Nat) ≠ 24 by decide), su_ne (show (28 : Nat) ≠ 0 by decide), tH_n (show (28 : Nat) ≠ 22 by decide) (by decide), su_ne (show (28 : Nat) ≠ 21 by decide)]
  have e21 : gC h n 21 0 = nI n := by
    unfold gC
    rw [su_ne (by decide), su_ne (by decide), su_ne (by decide), tH_n (by decide) (by decide), su_same, upd_s]
  refine congrArg some ?_
  refine Prod.ext e21 rfl
/-- the reference's last page of a garden -/
theorem kid_end {G : Hp} {n f : Nat} (hn : n ≤ 5) (h4 : G 33 4 = nI n) : qX7_garden_48 (f + 1) G (nI n) = some (nI n, su (su (su G 38 (upd (upd (upd (upd (G 38) 31 (-9)) 32 (G 33 7)) 33 (G 33 8)) 34 (G 33 9))) 33 (upd (G 33) 15 0)) 42 (upd (upd (G 42) 0 0) 1 0)) := by
  rw [qX7_garden_48, h4, if_pos (nI_le (Nat.le_refl n) (by omega)), bd_t, su_same, su_su, su_ne (show (33 : Nat) ≠ 38 by decide), bd_t, su_same, su_su, su_ne (show (33 : Nat) ≠ 38 by decide), bd_t, su_same, su_su, su_ne (show (33 : Nat) ≠ 38 by decide), bd_t, su_ne (show (33 : Nat) ≠ 38 by decide), bd_t, su_ne (show (42 : Nat) ≠ 33 by decide), su_ne (show (42 : Nat) ≠ 38 by decide), bd_t, su_same, su_su, bd_t, su_ne (show (33 : Nat) ≠ 42 by decide), su_same, upd_n _ (show (4 : Nat) ≠ 15 by decide), h4]
