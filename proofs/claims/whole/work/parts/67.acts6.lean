/-! undoing, keeping, taking up again -/
theorem tb_0 : ∀ e : Fin 14, ((nI e.val + (14 : Int32)) - (1 : Int32)) - ((nI e.val + (14 : Int32)) - (1 : Int32)) / (14 : Int32) * (14 : Int32) = nI ((e.val + 13) % 14) := by decide +kernel
theorem op_undo {N : Nat} {h : Hp} {g : Gp} (R : Rel N h g) : Op N g (qX6_undo h) (fun h => qX7_undo h) := by
  have R0 := R.up
  obtain ⟨L, n, k, e, s, hT, hK, hP, hA, hS, hE, hg⟩ := R
  obtain ⟨hk, he, a1, a2, a3, a4⟩ := id hA
  have hn := hK.1
  by_cases hk0 : k = 0
  · subst hk0
    refine ⟨-3, h, th0 h, ?_, ?_, R0.same (same_th0 h)⟩
    · unfold qX6_undo
      rw [a1, if_pos (show nI 0 = (0 : Int32) from rfl)]
    · show bd (th0 h) _ = _
      rw [bd_t, th0_f (by decide), a2, if_pos (show nI 0 = (0 : Int32) from rfl)]
  · obtain ⟨k, rfl⟩ : ∃ q, k = q + 1 := ⟨k - 1, by omega⟩
    have hz : ¬ nI (k + 1) = 0 := nI_ne0 (by omega) (by omega)
    have s1 : nI (k + 1) - (1 : Int32) = nI k := pk_sub (a := k + 1) (b := 1) (by omega)
    have hl : (e + 13) % 14 < 14 := Nat.mod_lt _ (by decide)
    generalize hw : 2 + (e + 13) % 14 = w
    have hw2 : 2 ≤ w := by omega
    have hw3 : w < 16 := by omega
    generalize hF : su (su h 0 (cpy (h w) (h 0))) 24 (upd (upd (h 24) 2 (nI ((e + 13) % 14))) 1 (nI k)) = F
    have eC : qX6_undo h = some (nI k, F) := by
      unfold qX6_undo qX0_takeBack
      rw [a1, if_neg hz, bd_t, a3, tb_0 ⟨e, he⟩, su_same, upd_s, ck_t (inb_nI hl (by decide)), cl_nI (by omega), hw, su_ne (show w ≠ 24 by omega), su_ne (show (0 : Nat) ≠ 24 by decide), bi1_t (copy_C _ _), bd_t, bd_t, su_ne (show (24 : Nat) ≠ 0 by decide), su_same, upd_n _ (show (1 : Nat) ≠ 2 by decide), a1, s1]
      have q : su (su (su h 24 (upd (h 24) 2 (nI ((e + 13) % 14)))) 0 (cpy (h w) (h 0))) 24 (upd (upd (h 24) 2 (nI ((e + 13) % 14))) 1 (nI k)) = F := by
        rw [← hF]
        funext r
        by_cases r1 : r = 24
        · subst r1; rw [su_same, su_same]
        · rw [su_ne r1, su_ne r1]
          by_cases r2 : r = 0
          · subst r2; rw [su_same, su_same]
          · rw [su_ne r2, su_ne r1, su_ne r2]
      rw [q, bi1_t rfl, ← hF, su_same, upd_s]
    have Fr : ∀ r, r ≠ 0 → r ≠ 24 → F r = h r := fun r r1 r2 => by rw [← hF, su_ne r2, su_ne r1]
    generalize hM : su (th0 F) 33 (upd (th0 F 33) 15 (nI k)) = M
    have Mr : ∀ r, r ≠ 33 → M r = F r := fun r r1 => by rw [← hM, su_ne r1, th0_n r1]
    have M33 : ∀ j, j ≠ 15 → j ≠ 0 → M 33 j = h 33 j := fun j j1 j2 => by rw [← hM, su_same, upd_n _ j1, th0_f j2, Fr 33 (by decide) (by decide)]
    have M15 : M 33 15 = nI k := by rw [← hM, su_same, upd_s]
    have q := undo_loop (h := M) (a := k) (by omega) M15 36 563 0 (by omega)
    rw [pst_0, su_self] at q
    have eR : qX7_undo F = some (nI k, su M 38 (pst 36 0 (fun j => M 40 (36 * k + j)) (M 38))) := by
      show bd (th0 F) _ = _
      rw [bd_t, th0_f (by decide), Fr 33 (by decide) (by decide), a2, if_neg hz, bd_t, s1, hM, show (600 : Nat) = 36 + 1 + 563 from rfl, show (0 : Int32) = nI 0 from rfl]
      exact q
    generalize hG : su M 38 (pst 36 0 (fun j => M 40 (36 * k + j)) (M 38)) = G at eR
    have Gr : ∀ r, r ≠ 38 → r ≠ 33 → r ≠ 0 → r ≠ 24 → G r = h r := fun r r1 r2 r3 r4 => by rw [← hG, su_ne r1, Mr r r2, Fr r r3 r4]
    have G33 : ∀ j, j ≠ 15 → j ≠ 0 → G 33 j = h 33 j := fun j j1 j2 => by rw [← hG, su_ne (by decide), M33 j j1 j2]
    have G0 : G 0 = cpy (h w) (h 0) := by rw [← hG, su_ne (by decide), Mr 0 (by decide), ← hF, su_ne (by decide), su_same]
    have G24 : G 24 = upd (upd (h 24) 2 (nI ((e + 13) % 14))) 1 (nI k) := by rw [← hG, su_ne (by decide), Mr 24 (by decide), ← hF, su_same]
    have G38 : ∀ j, j < 36 → G 38 j = h 40 (36 * k + j) := fun j hj => by
      have e0 : pst 36 0 (fun j => M 40 (36 * k + j)) (M 38) (0 + j) = M 40 (36 * k + j) := pst_in hj
      rw [Nat.zero_add] at e0
      rw [← hG, su_same, e0, Mr 40 (by decide), Fr 40 (by decide) (by decide)]
    refine ⟨nI k, F, G, eC, eR, L, n, k, (e + 13) % 14, s, hT.of (Gr 19 (by decide) (by decide) (by decide) (by decide)) (Gr 20 (by decide) (by decide) (by decide) (by decide)) (Gr 34 (by decide) (by decide) (by decide) (by decide)) (G33 2 (by decide) (by decide)), hK.of (Gr 21 (by decide) (by decide) (by decide) (by decide)) (Gr 22 (by decide) (by decide) (by decide) (by decide)) (Gr 23 (by decide) (by decide) (by decide) (by decide)) (Gr 35 (by decide) (by decide) (by decide) (by decide)) (Gr 36 (by decide) (by decide) (by decide) (by decide)) (G33 4 (by decide) (by decide)), ?_, ⟨by omega, hl, by rw [G24, upd_s], by rw [← hG, su_ne (by decide)]; exact M15, by rw [G24, upd_n _ (by decide), upd_s], fun i hi => ?_⟩, hS.up.of (Gr 28 (by decide) (by decide) (by decide) (by decide)) (Gr 41 (by decide) (by decide) (by decide) (by decide)) (Gr 42 (by decide) (by decide) (by decide) (by decide)) (fun r h1 h2 => Gr r (by omega) (by omega) (by omega) (by omega)), hE.of (Gr 29 (by decide) (by decide) (by decide) (by decide)) (Gr 30 (by decide) (by decide) (by decide) (by decide)) (Gr 31 (by decide) (by decide) (by decide) (by decide)) (Gr 43 (by decide) (by decide) (by decide) (by decide)) (Gr 44 (by decide) (by decide) (by decide) (by decide)) (G33 18 (by decide) (by decide)), hg⟩
    · have p0 := (a4 0 (by omega)).up
      rw [Nat.sub_zero, hw] at p0
      rw [G0]
      exact p0.cong hn (fun j hj => by unfold cpy; rw [if_pos hj]) (fun j hj => by rw [G38 j hj]; show _ = h 40 (36 * (k + 1 - 1 - 0) + j); rw [show k + 1 - 1 - 0 = k by omega])
    · have p1 := (a4 (i + 1) (by omega)).up
      rw [Gr 40 (by decide) (by decide) (by decide) (by decide), Gr (2 + ((e + 13) % 14 + 13 - i) % 14) (by omega) (by omega) (by omega) (by omega), show 2 + ((e + 13) % 14 + 13 - i) % 14 = 2 + (e + 13 - (i + 1)) % 14 by omega]
      rw [show k + 1 - 1 - (i + 1) = k - 1 - i by omega] at p1
      exact p1
theorem op_keep {N : Nat} {h : Hp} {g : Gp} (R : Rel N h g) (x : Int32) : Op N g (qX6_keep h x) (fun h => qX7_keep h x) := by
  have R0 := R.up
  obtain ⟨L, n, k, e, s, hT, hK, hP, hA, hS, hE, hg⟩ := R
  obtain ⟨a, th, hP2⟩ := id hP
  have hn := hK.1
  have i01 : ∀ x : Int32, qX7_in x.toInt64 0 1 = some (if x < 0 then 0 else if (1 : Int32) < x then 0 else 1) := fun x => in_R x 0 1
  have bad : ∀ r : Int32, qX6_keep h x = some (r, h) → qX7_keep h x = some (r, th0 h) → Op N g (qX6_keep h x) (fun h => qX7_keep h x) := fun r e1 e2 => ⟨r, h, th0 h, e1, e2, R0.same (same_th0 h)⟩
  rcases pk_ix x (n := 2) (by omega) with hx | hx | ⟨c, hc, rfl⟩
  · refine bad (-1) ?_ ?_
    · unfold qX6_keep qX6_isSlot
      rw [if_pos hx, bi1_t rfl, if_pos rfl]
    · show bd (th0 h) _ = _
      rw [bd_t, i01, if_pos hx, bi1_t rfl, if_pos rfl]
  · refine bad (-1) ?_ ?_
    · unfold qX6_keep qX6_isSlot
      rw [if_neg (not_neg (by decide) hx), if_pos (show (2 : Int32) ≤ x from hx), bi1_t rfl, if_pos rfl]
    · show bd (th0 h) _ = _
      rw [bd_t, i01, if_neg (not_neg (by decide) hx), if_pos (show (1 : Int32) < x from lt_of4 (m := 1) (by decide) hx), bi1_t rfl, if_pos rfl]
  · have n0 : ¬ nI c < 0 := nI_pos (by omega)
    have n2 : ¬ (2 : Int32) ≤ nI c := nI_ge (a := c) (b := 2) hc (by decide)
    have n1 : ¬ (1 : Int32) < nI c := nI_nlt (a := 1) (b := c) (by omega) (by omega)
    have ic : inb (nI c) 2 = true := inb_nI hc (by decide)
    generalize hF : su (su h (16 + c) (cpy (h 0) (h (16 + c)))) 28 (upd (h 28) c 1) = F
    have Fr : ∀ r, r ≠ 28 → r ≠ 16 + c → F r = h r := fun r r1 r2 => by rw [← hF, su_ne r1, su_ne r2]
    have F28 : F 28 = upd (h 28) c 1 := by rw [← hF, su_same]
    have F16 : F (16 + c) = cpy (h 0) (h (16 + c)) := by rw [← hF, su_ne (by omega), su_same]
    have eC : qX6_keep h (nI c) = some (h 0 35, F) := by
      unfold qX6_keep qX6_isSlot
      rw [if_neg n0, if_neg n2, bi1_t rfl, if_neg one_ne, ck_t ic, cl_nI (by omega), bi1_t (copy_C _ _), bd_t, ck_t ic, su_ne (show (28 : Nat) ≠ 16 + c by omega), hF, bd_t, Fr 0 (by decide) (by omega)]
    generalize hM : su (th0 F) 42 (upd (th0 F 42) c 1) = M
    have Mr : ∀ r, r ≠ 42 → r ≠ 33 → M r = F r := fun r r1 r2 => by rw [← hM, su_ne r1, th0_n r2]
    have M42 : M 42 = upd (h 42) c 1 := by rw [← hM, su_same, th0_n (by decide), Fr 42 (by decide) (by omega)]
    have M33 : ∀ j, j ≠ 0 → M 33 j = h 33 j := fun j j2 => by rw [← hM, su_ne (by decide), th0_f j2, Fr 33 (by decide) (by omega)]
    have q := keep_loop (h := M) hc 36 563 0 (by omega)
    rw [pst_0, su_self] at q
    generalize hG : su M 41 (pst 36 (36 * c) (M 38) (M 41)) = G at q
    have eR : qX7_keep F (nI c) = some (h 0 35, G) := by
      show bd (th0 F) _ = _
      rw [bd_t, i01, if_neg n0, if_neg n1, bi1_t rfl, if_neg one_ne, ck_t ic, cl_nI (by omega), hM, bd_t, show (600 : Nat) = 36 + 1 + 563 from rfl, show (0 : Int32) = nI 0 from rfl, q, Mr 38 (by decide) (by decide), Fr 38 (by decide) (by omega), hP2.1.1 35 (by omega) (by omega)]
    have Gr : ∀ r, r ≠ 41 → r ≠ 42 → r ≠ 33 → r ≠ 28 → r ≠ 16 + c → G r = h r := fun r r1 r2 r3 r4 r5 => by rw [← hG, su_ne r1, Mr r r2 r3, Fr r r4 r5]
    have G33 : ∀ j, j ≠ 0 → G 33 j = h 33 j := fun j j2 => by rw [← hG, su_ne (by decide), M33 j j2]
    have G41 : G 41 = pst 36 (36 * c) (h 38) (h 41) := by rw [← hG, su_same, Mr 38 (by decide) (by decide), Mr 41 (by decide) (by decide), Fr 38 (by decide) (by omega), Fr 41 (by decide) (by omega)]
    have G42 : G 42 = upd (h 42) c 1 := by rw [← hG, su_ne (by decide), M42]
    have G28 : G 28 = upd (h 28) c 1 := by rw [← hG, su_ne (by decide), Mr 28 (by decide) (by decide), F28]
    have G16 : G (16 + c) = cpy (h 0) (h (16 + c)) := by rw [← hG, su_ne (by omega), Mr _ (by omega) (by omega), F16]
    have Go : ∀ r, r ≠ 41 ∧ r ≠ 42 ∧ r ≠ 33 ∧ r ≠ 28 ∧ r ≠ 16 ∧ r ≠ 17 → G r = h r := fun r hr => Gr r hr.1 hr.2.1 hr.2.2.1 hr.2.2.2.1 (by omega)
    refine ⟨h 0 35, F, G, eC, eR, L, n, k, e, s, hT.of (Go 19 (by decide)) (Go 20 (by decide)) (Go 34 (by decide)) (G33 2 (by decide)), hK.of (Go 21 (by decide)) (Go 22 (by decide)) (Go 23 (by decide)) (Go 35 (by decide)) (Go 36 (by decide)) (G33 4 (by decide)), by rw [Go 0 (by decide), Go 38 (by decide)]; exact hP.up, hA.up.of (Go 24 (by decide)) (Go 40 (by decide)) (G33 15 (by decide)) (fun r h1 h2 => Go r (by omega)), fun j hj => ?_, hE.of (Go 29 (by decide)) (Go 30 (by decide)) (Go 31 (by decide)) (Go 43 (by decide)) (Go 44 (by decide)) (G33 18 (by decide)), hg⟩
    by_cases jc : j = c
    · subst jc
      refine Or.inr ⟨by rw [G28, upd_s], by rw [G42, upd_s], ?_⟩
      rw [G16, G41]
      exact hP.up.cong hn (fun i hi => by unfold cpy; rw [if_pos hi]) (fun i hi => pst_in hi)
    · rw [G28, G42, upd_n _ jc, upd_n _ jc, Gr (16 + j) (by omega) (by omega) (by omega) (by omega) (by omega), G41]
      rcases hS.up j hj with q1 | ⟨q1, q2, q3⟩
      · exact Or.inl q1
      · exact Or.inr ⟨q1, q2, q3.cong hn (fun _ _ => rfl) (fun i hi => pst_out (by omega))⟩
theorem op_again {N : Nat} {h : Hp} {g : Gp} (R : Rel N h g) (x : Int32) : Op N g (qX6_again h x) (fun h => qX7_again h x) := by
  have R0 := R.up
  obtain ⟨L, n, k, e, s, hT, hK, hP, hA, hS, hE, hg⟩ := R
  obtain ⟨hk, he, a1, a2, a3, a4⟩ := id hA
  have hn := hK.1
  have i01 : ∀ x : Int32, qX7_in x.toInt64 0 1 = some (if x < 0 then 0 else if (1 : Int32) < x then 0 else 1) := fun x => in_R x 0 1
  have bad : ∀ r : Int32, qX6_again h x = some (r, h) → qX7_again h x = some (r, th0 h) → Op N g (qX6_again h x) (fun h => qX7_again h x) := fun r e1 e2 => ⟨r, h, th0 h, e1, e2, R0.same (same_th0 h)⟩
  rcases pk_ix x (n := 2) (by omega) with hx | hx | ⟨c, hc, rfl⟩
  · refine bad (-1) ?_ ?_
    · unfold qX6_again qX6_isSlot
      rw [if_pos hx, bi1_t rfl, if_pos rfl]
    · show bd (th0 h) _ = _
      rw [bd_t, i01, if_pos hx, bi1_t rfl, if_pos rfl]
  · refine bad (-1) ?_ ?_
    · unfold qX6_again qX6_isSlot
      rw [if_neg (not_neg (by decide) hx), if_pos (show (2 : Int32) ≤ x from hx), bi1_t rfl, if_pos rfl]
    · show bd (th0 h) _ = _
      rw [bd_t, i01, if_neg (not_neg (by decide) hx), if_pos (show (1 : Int32) < x from lt_of4 (m := 1) (by decide) hx), bi1_t rfl, if_pos rfl]
  · have n0 : ¬ nI c < 0 := nI_pos (by omega)
    have n2 : ¬ (2 : Int32) ≤ nI c := nI_ge (a := c) (b := 2) hc (by decide)
    have n1 : ¬ (1 : Int32) < nI c := nI_nlt (a := 1) (b := c) (by omega) (by omega)
    have ic : inb (nI c) 2 = true := inb_nI hc (by decide)
    rcases hS c hc with ⟨q1, q2⟩ | ⟨q1, q2, q3⟩
    · refine bad (-3) ?_ ?_
      · unfold qX6_again qX6_isSlot
        rw [if_neg n0, if_neg n2, bi1_t rfl, if_neg one_ne, ck_t ic, cl_nI (by omega), q1, if_pos rfl]
      · show bd (th0 h) _ = _
        rw [bd_t, i01, if_neg n0, if_neg n1, bi1_t rfl, if_neg one_ne, ck_t ic, cl_nI (by omega), th0_n (by decide), q2, if_pos rfl]
    · generalize hF : su (su h 0 (cpy (h (16 + c)) (h 0))) 24 (upd (h 24) 1 0) = F
      have Fr : ∀ r, r ≠ 24 → r ≠ 0 → F r = h r := fun r r1 r2 => by rw [← hF, su_ne r1, su_ne r2]
      have F0 : F 0 = cpy (h (16 + c)) (h 0) := by rw [← hF, su_ne (by decide), su_same]
      have F24 : F 24 = upd (h 24) 1 0 := by rw [← hF, su_same]
      have v35 : h (16 + c) 35 = h 41 (36 * c + 35) := by
        obtain ⟨b, t2, q4⟩ := q3
        exact q4.1.1 35 (by omega) (by omega)
      have eC : qX6_again h (nI c) = some (h 41 (36 * c + 35), F) := by
        unfold qX6_again qX6_isSlot qX0_forgetAll
        rw [if_neg n0, if_neg n2, bi1_t rfl, if_neg one_ne, ck_t ic, cl_nI (by omega), q1, if_neg one_ne, ck_t ic, bi1_t (copy_C _ _), bd_t, bd_t, su_ne (show (24 : Nat) ≠ 0 by decide), hF, bi1_t rfl, F0, ← v35]
        rfl
      have q := again_loop (h := th0 F) hc 36 563 0 (by omega)
      rw [pst_0, su_self] at q
      have T41 : th0 F 41 = h 41 := by rw [th0_n (by decide), Fr 41 (by decide) (by decide)]
      have T38 : th0 F 38 = h 38 := by rw [th0_n (by decide), Fr 38 (by decide) (by decide)]
      rw [T41, T38] at q
      generalize hG : su (su (th0 F) 38 (pst 36 0 (fun j => h 41 (36 * c + j)) (h 38))) 33 (upd (th0 F 33) 15 0) = G at q
      have eR : qX7_again F (nI c) = some (h 41 (36 * c + 35), G) := by
        show bd (th0 F) _ = _
        rw [bd_t, i01, if_neg n0, if_neg n1, bi1_t rfl, if_neg one_ne, ck_t ic, cl_nI (by omega), th0_n (by decide), Fr 42 (by decide) (by decide), q2, if_neg one_ne, show (600 : Nat) = 36 + 1 + 563 from rfl, show (0 : Int32) = nI 0 from rfl, q]
      have Go : ∀ r, r ≠ 33 ∧ r ≠ 38 ∧ r ≠ 24 ∧ r ≠ 0 → G r = h r := fun r hr => by rw [← hG, su_ne hr.1, su_ne hr.2.1, th0_n hr.1, Fr r hr.2.2.1 hr.2.2.2]
      have G33 : ∀ j, j ≠ 0 → j ≠ 15 → G 33 j = h 33 j := fun j j2 j3 => by rw [← hG, su_same, upd_n _ j3, th0_f j2, Fr 33 (by decide) (by decide)]
      have G38 : G 38 = pst 36 0 (fun j => h 41 (36 * c + j)) (h 38) := by rw [← hG, su_ne (by decide), su_same]
      have G24 : G 24 = upd (h 24) 1 0 := by rw [← hG, su_ne (by decide), su_ne (by decide), th0_n (by decide), F24]
      have G0 : G 0 = cpy (h (16 + c)) (h 0) := by rw [← hG, su_ne (by decide), su_ne (by decide), th0_n (by decide), F0]
      refine ⟨_, F, G, eC, eR, L, n, 0, e, s, hT.of (Go 19 (by decide)) (Go 20 (by decide)) (Go 34 (by decide)) (G33 2 (by decide) (by decide)), hK.of (Go 21 (by decide)) (Go 22 (by decide)) (Go 23 (by decide)) (Go 35 (by decide)) (Go 36 (by decide)) (G33 4 (by decide) (by decide)), ?_, ⟨by omega, he, by rw [G24, upd_s]; rfl, by rw [← hG, su_same, upd_s]; rfl, by rw [G24, upd_n _ (by decide)]; exact a3, fun i hi => absurd hi (by omega)⟩, hS.up.of (Go 28 (by decide)) (Go 41 (by decide)) (Go 42 (by decide)) (fun r h1 h2 => Go r (by omega)), hE.of (Go 29 (by decide)) (Go 30 (by decide)) (Go 31 (by decide)) (Go 43 (by decide)) (Go 44 (by decide)) (G33 18 (by decide) (by decide)), hg⟩
      rw [G0, G38]
      refine q3.up.cong hn (fun j hj => by unfold cpy; rw [if_pos hj]) (fun j hj => ?_)
      have e0 : pst 36 0 (fun j => h 41 (36 * c + j)) (h 38) (0 + j) = h 41 (36 * c + j) := pst_in hj
      rw [Nat.zero_add] at e0
      exact e0
theorem op_see {N : Nat} {h : Hp} {g : Gp} (R : Rel N h g) (x y : Int32) : Op N g (qX6_see h x y) (fun h => qX7_see h x y) := by
  have R0 := R.up
  obtain ⟨L, n, k, e, s, hT, hK, hP, hA, hS, hE, hg⟩ := R
  obtain ⟨a, th, hP2⟩ := id hP
  obtain ⟨hs, s1, s2, s3⟩ := id hE
  have hn := hK.1
  have i20 : ∀ x : Int32, qX7_in x.toInt64 1 20 = some (if x < 1 then 0 else if (20 : Int32) < x then 0 else 1) := fun x => in_R x 1 20
  have bad : ∀ r : Int32, qX6_see h x y = some (r, h) → qX7_see h x y = some (r, th0 h) → Op N g (qX6_see h x y) (fun h => qX7_see h x y) := fun r e1 e2 => ⟨r, h, th0 h, e1, e2, R0.same (same_th0 h)⟩
  have h33 : ∀ m : Hp, m 33 = h 33 → th0 m 33 4 = nI n := fun m hm => by rw [th0_f (by decide), hm]; exact hK.2.2.1
  rcases isChild n hn x with ⟨c, hc, rfl⟩ | hx
  · have hc5 : c < 5 := by omega
    by_cases y1 : y < 1
    · refine bad (-2) ?_ ?_
      · unfold qX6_see
        rw [bi1_t (there_C hn hP2.2.1 hc), if_neg one_ne, if_pos y1]
      · show bd (th0 h) _ = _
        rw [bd_t, bi1_t (noC_R hn (h33 h rfl) hc), if_pos rfl, i20, if_pos y1, bi1_t rfl, if_pos rfl]
    by_cases y20 : (20 : Int32) < y
    · refine bad (-2) ?_ ?_
      · unfold qX6_see
        rw [bi1_t (there_C hn hP2.2.1 hc), if_neg one_ne, if_neg y1, if_neg (fun q => Int32.not_le.mpr y20 q)]
      · show bd (th0 h) _ = _
        rw [bd_t, bi1_t (noC_R hn (h33 h rfl) hc), if_pos rfl, i20, if_neg y1, if_pos y20, bi1_t rfl, if_pos rfl]
    have y20' : y ≤ 20 := Int32.not_lt.mp y20
    obtain ⟨m, hm, rfl⟩ : ∃ m, m ≤ 20 ∧ y = nI m := by
      rcases pk_ix y (n := 21) (by omega) with q | q | ⟨j, q1, q2⟩
      · exact absurd (Int32.lt_of_lt_of_le q (show (0 : Int32) ≤ 1 by decide)) y1
      · exact absurd (show (20 : Int32) < y from lt_of4 (m := 20) (by decide) q) y20
      · exact ⟨j, by omega, q2⟩
    by_cases s6 : s = 6
    · refine bad (-4) ?_ ?_
      · unfold qX6_see
        rw [bi1_t (there_C hn hP2.2.1 hc), if_neg one_ne, if_neg y1, if_pos y20', s1, s6, if_neg (show ¬ nI 6 < (6 : Int32) by decide)]
      · show bd (th0 h) _ = _
        rw [bd_t, bi1_t (noC_R hn (h33 h rfl) hc), if_pos rfl, i20, if_neg y1, if_neg y20, bi1_t rfl, if_neg one_ne, th0_f (by decide), s2, s6, if_pos (show nI 6 = (6 : Int32) from rfl)]
    · have sl : s < 6 := by omega
      have is6 : inb (nI s) 6 = true := inb_nI sl (by decide)
      generalize hF : su (su (su h 30 (upd (h 30) s (nI c))) 31 (upd (h 31) s (nI m))) 29 (upd (h 29) 2 (nI (s + 1))) = F
      have Fr : ∀ r, r ≠ 29 → r ≠ 31 → r ≠ 30 → F r = h r := fun r r1 r2 r3 => by rw [← hF, su_ne r1, su_ne r2, su_ne r3]
      have F29 : F 29 = upd (h 29) 2 (nI (s + 1)) := by rw [← hF, su_same]
      have F30 : F 30 = upd (h 30) s (nI c) := by rw [← hF, su_ne (by decide), su_ne (by decide), su_same]
      have F31 : F 31 = upd (h 31) s (nI m) := by rw [← hF, su_ne (by decide), su_same]
      have eC : qX6_see h (nI c) (nI m) = some (nI (s + 1), F) := by
        unfold qX6_see qX3_append
        rw [bi1_t (there_C hn hP2.2.1 hc), if_neg one_ne, if_neg y1, if_pos y20', s1, if_pos (show nI s < (6 : Int32) from nI_lt (a := s) (b := 6) sl (by decide)), if_neg (show ¬ (6 : Int32) ≤ nI s from nI_ge (a := s) (b := 6) sl (by decide)), ck_t is6, cl_nI (by omega), bd_t, su_ne (show (29 : Nat) ≠ 30 by decide), s1, ck_t is6, su_ne (show (31 : Nat) ≠ 30 by decide), cl_nI (by omega), bd_t, su_ne (show (29 : Nat) ≠ 31 by decide), su_ne (show (29 : Nat) ≠ 30 by decide), s1, nI_1, hF, bd_t, bi1_t rfl, F29, upd_s]
      generalize hG : su (su (su (th0 F) 43 (upd (h 43) s (nI c))) 44 (upd (h 44) s (nI m))) 33 (upd (th0 F 33) 18 (nI (s + 1))) = G
      have f33 : F 33 = h 33 := Fr 33 (by decide) (by decide) (by decide)
      have t18 : th0 F 33 18 = nI s := by rw [th0_f (by decide), f33]; exact s2
      have eR : qX7_see F (nI c) (nI m) = some (nI (s + 1), G) := by
        show bd (th0 F) _ = _
        rw [bd_t, bi1_t (noC_R hn (h33 F f33) hc), if_pos rfl, i20, if_neg y1, if_neg y20, bi1_t rfl, if_neg one_ne, t18, if_neg (show ¬ nI s = (6 : Int32) from fun q => s6 ((nI_eq (a := s) (b := 6) (by omega) (by decide)).mp q)), ck_t is6, cl_nI (by omega), bd_t, su_ne (show (33 : Nat) ≠ 43 by decide), t18, ck_t is6, su_ne (show (44 : Nat) ≠ 43 by decide), cl_nI (by omega), bd_t, su_ne (show (33 : Nat) ≠ 44 by decide), su_ne (show (33 : Nat) ≠ 43 by decide), t18, nI_1, th0_n (show (43 : Nat) ≠ 33 by decide), th0_n (show (44 : Nat) ≠ 33 by decide), Fr 43 (by decide) (by decide) (by decide), Fr 44 (by decide) (by decide) (by decide), hG, bd_t, ← hG, su_same, upd_s]
      have Go : ∀ r, r ≠ 33 ∧ r ≠ 43 ∧ r ≠ 44 ∧ r ≠ 29 ∧ r ≠ 30 ∧ r ≠ 31 → G r = h r := fun r hr => by rw [← hG, su_ne hr.1, su_ne hr.2.2.1, su_ne hr.2.1, th0_n hr.1, Fr r hr.2.2.2.1 hr.2.2.2.2.2 hr.2.2.2.2.1]
      have G33 : ∀ j, j ≠ 0 → j ≠ 18 → G 33 j = h 33 j := fun j j2 j3 => by rw [← hG, su_same, upd_n _ j3, th0_f j2, f33]
      have GF : ∀ r, r ≠ 33 ∧ r ≠ 43 ∧ r ≠ 44 → G r = F r := fun r hr => by rw [← hG, su_ne hr.1, su_ne hr.2.2, su_ne hr.2.1, th0_n hr.1]
      have G43 : G 43 = upd (h 43) s (nI c) := by rw [← hG, su_ne (by decide), su_ne (by decide), su_same]
      have G44 : G 44 = upd (h 44) s (nI m) := by rw [← hG, su_ne (by decide), su_same]
      refine ⟨_, F, G, eC, eR, L, n, k, e, s + 1, hT.of (Go 19 (by decide)) (Go 20 (by decide)) (Go 34 (by decide)) (G33 2 (by decide) (by decide)), hK.of (Go 21 (by decide)) (Go 22 (by decide)) (Go 23 (by decide)) (Go 35 (by decide)) (Go 36 (by decide)) (G33 4 (by decide) (by decide)), by rw [Go 0 (by decide), Go 38 (by decide)]; exact hP.up, hA.up.of (Go 24 (by decide)) (Go 40 (by decide)) (G33 15 (by decide) (by decide)) (fun r h1 h2 => Go r (by omega)), hS.up.of (Go 28 (by decide)) (Go 41 (by decide)) (Go 42 (by decide)) (fun r h1 h2 => Go r (by omega)), ⟨by omega, by rw [GF 29 (by decide), F29, upd_s], by rw [← hG, su_same, upd_s], fun j hj => ?_⟩, hg⟩
      rw [GF 30 (by decide), F30, GF 31 (by decide), F31, G43, G44]
      by_cases js : j = s
      · subst js
        rw [upd_s, upd_s, upd_s, upd_s]
        exact ⟨rfl, rfl, ⟨c, hc5, rfl⟩, m, hm, rfl⟩
      · rw [upd_n _ js, upd_n _ js, upd_n _ js, upd_n _ js]
        exact s3 j (by omega)
  · refine bad (-1) ?_ ?_
    · unfold qX6_see
      rw [bi1_t (there_Cn hn hP2.2.1 hx), if_pos rfl]
    · show bd (th0 h) _ = _
      rw [bd_t, bi1_t (noC_Rn hn (h33 h rfl) hx), if_neg one_ne]
