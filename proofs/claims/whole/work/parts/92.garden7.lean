theorem gC_n {h : Hp} {n r : Nat} (hr : r ≠ 0 ∧ r ≠ 21 ∧ r ≠ 22 ∧ r ≠ 23 ∧ r ≠ 24 ∧ r ≠ 28) : gC h n r = h r := by
  unfold gC
  rw [su_ne hr.2.2.2.2.2, su_ne hr.2.2.2.2.1, su_ne hr.1, tH_n hr.2.2.1 hr.2.2.2.1, su_ne hr.2.1]
theorem gC_0 (h : Hp) (n : Nat) : gC h n 0 = cpy (pO h n) (h 0) := by
  unfold gC
  rw [su_ne (by decide), su_ne (by decide), su_same]
theorem gC_21 (h : Hp) (n : Nat) : gC h n 21 = upd (h 21) 0 (nI n) := by
  unfold gC
  rw [su_ne (by decide), su_ne (by decide), su_ne (by decide), tH_n (by decide) (by decide), su_same]
theorem gC_22 (h : Hp) (n : Nat) : gC h n 22 = pst n 0 (sK h 2) (h 22) := by
  unfold gC tH
  rw [su_ne (by decide), su_ne (by decide), su_ne (by decide), su_ne (by decide), su_same]
theorem gC_23 (h : Hp) (n : Nat) : gC h n 23 = pst n 0 (sK h 3) (h 23) := by
  unfold gC tH
  rw [su_ne (by decide), su_ne (by decide), su_ne (by decide), su_same]
theorem gC_24 (h : Hp) (n : Nat) : gC h n 24 = upd (h 24) 1 0 := by
  unfold gC
  rw [su_ne (by decide), su_same]
theorem gC_28 (h : Hp) (n : Nat) : gC h n 28 = upd (upd (h 28) 0 0) 1 0 := su_same _ _ _
theorem gar_good {N : Nat} {h : Hp} {g : Gp} {n e s : Nat} (hT : TxO h (4 + 4 * n)) (n5 : n ≤ 5) (good : ∀ i, i < 4 + 4 * n → ft i (tx h i) = true) (he : e < 14) (h24 : h 24 2 = nI e) (hE : SeO h s) (hg : g 18 = g 33) : Op N g (qX6_garden h) (fun h => qX7_garden h) := by
  have T2 : TxO (th0 (gC h n)) (4 + 4 * n) := hT.of (by rw [th0_n (by decide), gC_n (by decide)]) (by rw [th0_n (by decide), gC_n (by decide)]) (by rw [th0_n (by decide), gC_n (by decide)]) (by rw [th0_f (by decide), gC_n (by decide)])
  have tx2 : tx (th0 (gC h n)) = tx h := by
    rw [tx_th0]
    funext j
    unfold tx
    rw [gC_n (by decide)]
  have e9 : endF (4 + 4 * n) = -9 := by
    unfold endF
    rw [if_neg (by omega), if_pos (by omega)]
  obtain ⟨H2, S2, ⟨p, pL, e1, bad, -⟩ | ⟨e1, eE, -⟩ | ⟨e1, -, n2, n52, eL, h10, hH, hk⟩⟩ := read_eq T2
  · rw [tx2, good p pL] at bad
    exact Bool.noConfusion bad
  · rw [e9] at eE
    exact absurd eE.symm (ne9 (by omega))
  · have en : n2 = n := by omega
    rw [en] at h10 hk
    clear eL n52 en
    obtain ⟨F, eF, Fo, F35, F36, F38, F33, F42⟩ := gar_R n5 h10 e1
    have Fg : ∀ r, (r ≠ 1 ∧ r ≠ 32 ∧ r ≠ 33 ∧ r ≠ 37 ∧ r ≠ 39 ∧ r ≠ 45 ∧ r ≠ 35 ∧ r ≠ 36 ∧ r ≠ 38 ∧ r ≠ 42) → F r = gC h n r := fun r hr => by
      rw [Fo r hr.2.2.1 hr.2.2.2.2.2.2.1 hr.2.2.2.2.2.2.2.1 hr.2.2.2.2.2.2.2.2.1 hr.2.2.2.2.2.2.2.2.2, S2.1 r hr.1 hr.2.1 hr.2.2.1 hr.2.2.2.1 hr.2.2.2.2.1 hr.2.2.2.2.2.1, th0_n hr.2.2.1]
    have f2 : F 33 2 = h 33 2 := by rw [F33, upd_n _ (by decide), upd_n _ (by decide), S2.2.1, th0_f (by decide), gC_n (by decide)]
    have f18 : F 33 18 = h 33 18 := by rw [F33, upd_n _ (by decide), upd_n _ (by decide), S2.2.2.2.2, th0_f (by decide), gC_n (by decide)]
    have p0 : ∀ (S B : Row) (j : Nat), j < n → pst n 0 S B j = S j := fun S B j hj => by
      have q := pst_in (o := 0) (S := S) (B := B) hj
      rw [Nat.zero_add] at q
      exact q
    have v1 : ∀ j, j < n → tx h (5 + 4 * j) - 48 ≤ 9 ∧ nI (tx h (4 + 4 * j + 1)) - 48 = nI (tx h (5 + 4 * j) - 48) := fun j hj => by
      have q := good (4 + 4 * j + 1) (by omega)
      rw [ft_c (by omega) (by omega)] at q
      obtain ⟨-, q2, q3, -⟩ := fv (lo := 0) (hi := 9) q (by omega)
      rw [show 5 + 4 * j = 4 + 4 * j + 1 by omega]
      exact ⟨q2, q3⟩
    have v2 : ∀ j, j < n → tx h (6 + 4 * j) - 48 ≤ 9 ∧ nI (tx h (4 + 4 * j + 2)) - 48 = nI (tx h (6 + 4 * j) - 48) := fun j hj => by
      have q := good (4 + 4 * j + 2) (by omega)
      rw [ft_c (by omega) (by omega)] at q
      obtain ⟨-, q2, q3, -⟩ := fv (lo := 1) (hi := 9) q (by omega)
      rw [show 6 + 4 * j = 4 + 4 * j + 2 by omega]
      exact ⟨q2, q3⟩
    have v3 : ∀ j, j < n → nI (tx h (4 + 4 * j + 3)) - 48 = nI (tx h (7 + 4 * j) - 48) := fun j hj => by
      have q := good (4 + 4 * j + 3) (by omega)
      rw [ft_c (by omega) (by omega)] at q
      obtain ⟨-, q2, q3, -⟩ := fv (lo := 0) (hi := 3) q (by omega)
      rw [show 7 + 4 * j = 4 + 4 * j + 3 by omega]
      exact q3
    obtain ⟨-, a2, a3, -⟩ := fv (lo := 0) (hi := 3) (good 1 (by omega)) (by omega)
    obtain ⟨-, b2, b3, -⟩ := fv (lo := 1) (hi := 9) (good 2 (by omega)) (by omega)
    obtain ⟨c1, c2, c3, -⟩ := fv (lo := 1) (hi := 2) (good 3 (by omega)) (by omega)
    unfold Heads at hH
    unfold KidAt at hk
    rw [tx2] at hH hk
    have w0 : ∀ j, j < n → s37 H2 0 j = nI (tx h (5 + 4 * j) - 48) := fun j hj => (hk j hj).1
    have w1 : ∀ j, j < n → s37 H2 1 j = nI (tx h (6 + 4 * j) - 48) := fun j hj => (hk j hj).2.1
    have w2 : ∀ j, j < n → s37 H2 2 j = nI (tx h (7 + 4 * j) - 48) := fun j hj => (hk j hj).2.2
    have F0 : F 0 = cpy (pO h n) (h 0) := by rw [Fg 0 (by decide), gC_0]
    have P0 : ∀ j, j ≤ 36 → F 0 j = pO h n j := fun j hj => by
      rw [F0]
      exact if_pos hj
    have o31 : pO h n 31 = -9 := rfl
    have o32 : pO h n 32 = nI (tx h 1 - 48) := a3
    have o33 : pO h n 33 = nI (tx h 2 - 48) := b3
    have o34 : pO h n 34 = nI (tx h 3 - 48) := c3
    have o30 : pO h n 30 = nI 0 := rfl
    have o36 : pO h n 36 = nI (al n) := rfl
    have ow : ∀ j, j < n → pO h n j = nI (tx h (5 + 4 * j) - 48) := fun j hj => by
      unfold pO wO
      rw [if_pos (by omega), if_pos hj]
      exact (v1 j hj).2
    have oz : ∀ j, n ≤ j → j < 31 ∨ j = 35 → pO h n j = 0 := fun j h1 h2 => by
      unfold pO wO
      by_cases j5 : j < 5
      · rw [if_pos j5, if_neg (by omega)]
      · rw [if_neg j5, if_neg (by omega), if_neg (by omega), if_neg (by omega), if_neg (by omega), if_neg (by omega)]
    have E : ∀ j, j < 36 → F 0 j = F 38 j := fun j hj => by
      rw [P0 j (by omega), F38]
      by_cases j34 : j = 34
      · subst j34; rw [upd_s, o34]; exact hH.2.2.symm
      · rw [upd_n _ j34]
        by_cases j33 : j = 33
        · subst j33; rw [upd_s, o33]; exact hH.2.1.symm
        · rw [upd_n _ j33]
          by_cases j32 : j = 32
          · subst j32; rw [upd_s, o32]; exact hH.1.symm
          · rw [upd_n _ j32]
            by_cases j31 : j = 31
            · subst j31; rw [upd_s, o31]
            · rw [upd_n _ j31]
              by_cases jn : j < n
              · rw [p0 _ _ j jn, w0 j jn, ow j jn]
              · have z := pst_in (k := 36) (o := 0) (S := fun _ => (0 : Int32)) (B := H2 38) hj
                rw [Nat.zero_add] at z
                rw [pst_out (Or.inr (by omega)), z, oz j (by omega) (by omega)]
    refine ⟨nI n, gC h n, F, gar_C hT n5 good, eF, 4 + 4 * n, n, 0, e, s, ?_, ?_, ?_, ?_, ?_, ?_, hg⟩
    · exact hT.of (by rw [Fg 19 (by decide), gC_n (by decide)]) (by rw [Fg 20 (by decide), gC_n (by decide)]) (by rw [Fg 34 (by decide), gC_n (by decide)]) f2
    · refine ⟨n5, ⟨by rw [Fg 21 (by decide), gC_21, upd_s], fun j hj => ⟨tx h (6 + 4 * j) - 48, (v2 j hj).1, ?_⟩⟩, by rw [F33, upd_n _ (by decide), upd_s], fun j hj => ⟨?_, ?_⟩⟩
      · rw [Fg 22 (by decide), gC_22, p0 _ _ j hj]
        exact (v2 j hj).2
      · rw [Fg 22 (by decide), gC_22, p0 _ _ j hj, F35, p0 _ _ j hj, w1 j hj]
        exact (v2 j hj).2
      · rw [Fg 23 (by decide), gC_23, p0 _ _ j hj, F36, p0 _ _ j hj, w2 j hj]
        exact v3 j hj
    · refine ⟨0, tx h 3 - 48, ⟨fun j h1 _ => E j h1, fun c hc _ => E (5 + c) (by omega), fun c hc hz => Bool.noConfusion hz⟩, by rw [P0 36 (by omega), o36], by decide, by rw [P0 30 (by omega), o30], fun c hc hb => ?_, Or.inl (by rw [P0 31 (by omega), o31]), ⟨tx h 1 - 48, by omega, by rw [P0 32 (by omega), o32]⟩, by omega, by rw [P0 34 (by omega), o34], ?_, fun c hc => ⟨tx h (5 + 4 * c) - 48, (v1 c hc).1, by rw [P0 c (by omega), ow c hc]⟩, fun c hc => ⟨0, by omega, by rw [P0 (10 + c) (by omega), oz (10 + c) (by omega) (by omega)]; rfl⟩⟩
      · rw [Nat.zero_testBit] at hb
        exact Bool.noConfusion hb
      · exact Nat.le_trans (show pop 0 ≤ 1 by decide) c1
    · exact ⟨by omega, he, by rw [Fg 24 (by decide), gC_24, upd_s]; rfl, by rw [F33, upd_s]; rfl, by rw [Fg 24 (by decide), gC_24, upd_n _ (by decide)]; exact h24, fun i hi => absurd hi (by omega)⟩
    · intro q hq
      rw [Fg 28 (by decide), gC_28, F42]
      rcases (show q = 0 ∨ q = 1 by omega) with rfl | rfl
      · exact Or.inl ⟨by rw [upd_n _ (by decide), upd_s], by rw [upd_n _ (by decide), upd_s]⟩
      · exact Or.inl ⟨by rw [upd_s], by rw [upd_s]⟩
    · exact hE.of (by rw [Fg 29 (by decide), gC_n (by decide)]) (by rw [Fg 30 (by decide), gC_n (by decide)]) (by rw [Fg 31 (by decide), gC_n (by decide)]) (by rw [Fg 43 (by decide), gC_n (by decide)]) (by rw [Fg 44 (by decide), gC_n (by decide)]) f18
theorem op_garden {N : Nat} {h : Hp} {g : Gp} (R : Rel N h g) : Op N g (qX6_garden h) (fun h => qX7_garden h) := by
  have R0 := R
  obtain ⟨L, n0, k0, e, s, hT, hK, hP, hA, hS, hE, hg⟩ := R
  have hL := hT.1
  have T1 : TxO (th0 h) L := hT.of (th0_n (by decide)) (th0_n (by decide)) (th0_n (by decide)) (th0_f (by decide))
  have c19 : th0 h 19 = h 19 := th0_n (by decide)
  have c20 : th0 h 20 = h 20 := th0_n (by decide)
  obtain ⟨H2, S2, ⟨p, pL, e1, bad, good⟩ | ⟨e1, eE, good⟩ | ⟨e1, good, n, n5, eL, -⟩⟩ := read_eq T1
  · have q := fault_C1 T1 pL bad good
    rw [c19, c20] at q
    exact gar_bad R0 _ H2 (ne9 (by omega)) S2 q e1
  · have q := fault_C2 T1 good
    rw [c19, c20, eE] at q
    exact gar_bad R0 _ H2 (ne9 (by omega)) S2 q e1
  · rw [tx_th0] at good
    rw [eL] at hT good
    exact gar_good hT n5 good hA.2.1 hA.2.2.2.2.1 hE hg
