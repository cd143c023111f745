theorem op_give {N : Nat} {h : Hp} {g : Gp} (R : Rel N h g) (x y : Int32) : Op N g (qX6_give h x y) (fun h => qX7_give h x y) := by
  have R0 := R.up
  obtain ⟨L, n, k, e, s, hT, hK, hP, hA, hS, hE, hg⟩ := R
  obtain ⟨a, th, hP2⟩ := id hP
  obtain ⟨hk, he, a1, a2, a3, a4⟩ := id hA
  have hn := hK.1
  have h30 := hP2.2.2.2.1
  have ha := hP2.2.2.1
  have hT30 : h 38 30 = nI a := by rw [← hP2.1.1 30 (by omega) (by omega)]; exact h30
  have bad : ∀ r : Int32, qX6_give h x y = some (r, h) → qX7_give h x y = some (r, th0 h) → Op N g (qX6_give h x y) (fun h => qX7_give h x y) := fun r e1 e2 => ⟨r, h, th0 h, e1, e2, R0.same (same_th0 h)⟩
  have h33 : th0 h 33 4 = nI n := by rw [th0_f (by decide)]; exact hK.2.2.1
  rcases isChild n hn x with ⟨c, hc, rfl⟩ | hx
  · have hc5 : c < 5 := by omega
    rcases isChild n hn y with ⟨d, hd, rfl⟩ | hy
    · have hd5 : d < 5 := by omega
      by_cases hcd : nI c = nI d
      · refine bad (-2) ?_ ?_
        · unfold qX6_give
          rw [bi1_t (there_C hn hP2.2.1 hc), if_neg one_ne, bi1_t (there_C hn hP2.2.1 hd), if_neg one_ne, if_pos hcd]
        · show bd (th0 h) _ = _
          rw [bd_t, bi1_t (noC_R hn h33 hc), if_pos rfl, bi1_t (noC_R hn h33 hd), if_pos rfl, if_pos hcd]
      · have hne : d ≠ c := fun q => hcd (by rw [q])
        by_cases hr : a.testBit c = true
        · by_cases hs : a.testBit d = true
          · refine bad (-3) ?_ ?_
            · unfold qX6_give
              rw [bi1_t (there_C hn hP2.2.1 hc), if_neg one_ne, bi1_t (there_C hn hP2.2.1 hd), if_neg one_ne, if_neg hcd, brC h30 ha hc5, if_pos hr, if_neg one_ne, brC h30 ha hd5, if_pos hs, if_neg one_ne]
            · show bd (th0 h) _ = _
              rw [bd_t, bi1_t (noC_R hn h33 hc), if_pos rfl, bi1_t (noC_R hn h33 hd), if_pos rfl, if_neg hcd, th0_n (by decide), hT30, bhR ha hc5, if_pos hr, if_neg one_ne, bhR ha hd5, if_pos hs, if_neg one_ne]
          · have hs0 : (clr a c).testBit d = false := by
              rw [clr_b ha hc5 hd5]
              rw [Bool.not_eq_true] at hs
              rw [hs, Bool.false_and]
            have hp1 : pop (clr a c) + 1 ≤ th := by
              have hp := hP2.2.2.2.2.2.2.2.2.2.1
              rw [pop_off ha hc5, if_pos hr]
              have hth := hP2.2.2.2.2.2.2.2.1
              omega
            have h5 := (hP2.off hn hc5).on hn hd (by rw [al_b hn hd5]; exact decide_eq_true hd) hs0 hp1
            rw [noZ_of (Z := fun q => noZ q && !decide (q = d)) (fun q hq => by rw [Bool.and_eq_true] at hq; exact hq.1)] at h5
            have hPT : PgO n (N + 1) _ _ := ⟨_, _, h5.up⟩
            refine act_done (r := h 0 (5 + c)) hT hK hP hA hS hE hg hPT ?_ ?_
            · unfold qX6_give
              rw [bi1_t (there_C hn hP2.2.1 hc), if_neg one_ne, bi1_t (there_C hn hP2.2.1 hd), if_neg one_ne, if_neg hcd, brC h30 ha hc5, if_pos hr, if_neg one_ne, brC h30 ha hd5, if_neg hs, if_pos rfl, bi1_t (rem_C hk he a1 a3), ck_t (in5 hc5), rem_r (by decide) (by omega), bi1_t (off_C h30 ha hc5), bd_t, su_same, bi1_t (on_C (off_30 hc5) (clr_lt ha hc5) hd5), bd_t, cl_nI (by omega), su_su]
              rfl
            · show bd (th0 (AH h k e _)) _ = _
              rw [bd_t, tAH_33 he, bi1_t (noC_R hn (by rw [upd_n _ (by decide)]; exact hK.2.2.1) hc), if_pos rfl, bi1_t (noC_R hn (by rw [upd_n _ (by decide)]; exact hK.2.2.1) hd), if_pos rfl, if_neg hcd, tAH_n (by decide) (by decide) (by decide) (by omega), hT30, bhR ha hc5, if_pos hr, if_neg one_ne, bhR ha hd5, if_neg hs, if_pos rfl, bi1_t (note_t hk he a2), pl5, ck_t (in36 (by omega)), NH_38, tAH_n (by decide) (by decide) (by decide) (by omega), bi1_t (off_R hT30 ha hc5), bd_t, su_same, bi1_t (on_R (off_30 hc5) (clr_lt ha hc5) hd5), bd_t, su_su, cl_nI (by omega), hP2.1.2.1 c hc5 rfl]
        · refine bad (-3) ?_ ?_
          · unfold qX6_give
            rw [bi1_t (there_C hn hP2.2.1 hc), if_neg one_ne, bi1_t (there_C hn hP2.2.1 hd), if_neg one_ne, if_neg hcd, brC h30 ha hc5, if_neg hr, if_pos rfl]
          · show bd (th0 h) _ = _
            rw [bd_t, bi1_t (noC_R hn h33 hc), if_pos rfl, bi1_t (noC_R hn h33 hd), if_pos rfl, if_neg hcd, th0_n (by decide), hT30, bhR ha hc5, if_neg hr, if_pos rfl]
    · refine bad (-1) ?_ ?_
      · unfold qX6_give
        rw [bi1_t (there_C hn hP2.2.1 hc), if_neg one_ne, bi1_t (there_Cn hn hP2.2.1 hy), if_pos rfl]
      · show bd (th0 h) _ = _
        rw [bd_t, bi1_t (noC_R hn h33 hc), if_pos rfl, bi1_t (noC_Rn hn h33 hy), if_neg one_ne]
  · refine bad (-1) ?_ ?_
    · unfold qX6_give
      rw [bi1_t (there_Cn hn hP2.2.1 hx), if_pos rfl]
    · show bd (th0 h) _ = _
      rw [bd_t, bi1_t (noC_Rn hn h33 hx), if_neg one_ne]
theorem Two.rul {n t B a th : Nat} {P T : Row} {Z : Nat → Bool} (hn : n ≤ 5) (h : Two n t B P T a th Z) {r : Nat} (hr4 : r < 4) : Two n t B (upd P 32 (nI r)) (upd T 32 (nI r)) a th Z := by
  obtain ⟨hA, h36, ha, h30, hat, hl, hr, hth, h34, hp, hw, hq⟩ := h
  exact ⟨hA.upd _ _, by rw [upd_n _ (by omega)]; exact h36, ha, by rw [upd_n _ (by omega)]; exact h30, hat, by rw [upd_n _ (by omega)]; exact hl, ⟨r, hr4, upd_s _ _ _⟩, hth, by rw [upd_n _ (by omega)]; exact h34, hp, fun d hd => by rw [upd_n _ (by omega)]; exact hw d hd, fun d hd => by rw [upd_n _ (by omega)]; exact hq d hd⟩
theorem Two.tng {n t B a th : Nat} {P T : Row} {Z : Nat → Bool} (hn : n ≤ 5) (h : Two n t B P T a th Z) {t2 : Nat} (h2 : t2 = 1 ∨ t2 = 2) (hp2 : pop a ≤ t2) : Two n t B (upd P 34 (nI t2)) (upd T 34 (nI t2)) a t2 Z := by
  obtain ⟨hA, h36, ha, h30, hat, hl, hr, hth, h34, hp, hw, hq⟩ := h
  exact ⟨hA.upd _ _, by rw [upd_n _ (by omega)]; exact h36, ha, by rw [upd_n _ (by omega)]; exact h30, hat, by rw [upd_n _ (by omega)]; exact hl, by rw [upd_n _ (by omega)]; exact hr, h2, upd_s _ _ _, hp2, fun d hd => by rw [upd_n _ (by omega)]; exact hw d hd, fun d hd => by rw [upd_n _ (by omega)]; exact hq d hd⟩
theorem lt_of4 {x : Int32} {m : Nat} (hm : m < 1000) (h : nI (m + 1) ≤ x) : nI m < x := by
  rw [Int32.le_iff_toInt_le, nI_toInt (by omega)] at h
  rw [Int32.lt_iff_toInt_lt, nI_toInt (by omega)]
  omega
theorem not_neg {x : Int32} {m : Nat} (hm : m < 1000) (h : nI m ≤ x) : ¬ x < 0 := by
  rw [Int32.le_iff_toInt_le, nI_toInt (by omega)] at h
  rw [Int32.lt_iff_toInt_lt, show (0 : Int32).toInt = 0 by decide]
  omega
theorem op_rule {N : Nat} {h : Hp} {g : Gp} (R : Rel N h g) (x y : Int32) : Op N g (qX6_rule h x y) (fun h => qX7_rule h x y) := by
  have R0 := R.up
  obtain ⟨L, n, k, e, s, hT, hK, hP, hA, hS, hE, hg⟩ := R
  obtain ⟨a, th, hP2⟩ := id hP
  obtain ⟨hk, he, a1, a2, a3, a4⟩ := id hA
  have hn := hK.1
  have h32 := hP2.1.1 32 (by omega) (by omega)
  have h333 := hP2.1.1 33 (by omega) (by omega)
  have bad : ∀ r : Int32, qX6_rule h x y = some (r, h) → qX7_rule h x y = some (r, th0 h) → Op N g (qX6_rule h x y) (fun h => qX7_rule h x y) := fun r e1 e2 => ⟨r, h, th0 h, e1, e2, R0.same (same_th0 h)⟩
  have i03 : ∀ x : Int32, qX7_in x.toInt64 0 3 = some (if x < 0 then 0 else if (3 : Int32) < x then 0 else 1) := fun x => in_R x 0 3
  have i19 : ∀ x : Int32, qX7_in x.toInt64 1 9 = some (if x < 1 then 0 else if (9 : Int32) < x then 0 else 1) := fun x => in_R x 1 9
  rcases pk_ix x (n := 4) (by omega) with hx | hx | ⟨r, hr, rfl⟩
  · refine bad (-2) ?_ ?_
    · unfold qX6_rule qX6_isRule
      rw [if_pos hx, bi1_t rfl, if_pos rfl]
    · show bd (th0 h) _ = _
      rw [bd_t, i03, if_pos hx, bi1_t rfl, if_pos rfl]
  · refine bad (-2) ?_ ?_
    · unfold qX6_rule qX6_isRule
      rw [if_neg (not_neg (by decide) hx), if_pos (show (4 : Int32) ≤ x from hx), bi1_t rfl, if_pos rfl]
    · show bd (th0 h) _ = _
      rw [bd_t, i03, if_neg (not_neg (by decide) hx), if_pos (show (3 : Int32) < x from lt_of4 (m := 3) (by decide) hx), bi1_t rfl, if_pos rfl]
  · have n0 : ¬ nI r < 0 := nI_pos (by omega)
    have n4 : ¬ (4 : Int32) ≤ nI r := nI_ge (a := r) (b := 4) hr (by decide)
    have n3 : ¬ (3 : Int32) < nI r := nI_nlt (a := 3) (b := r) (by omega) (by omega)
    by_cases y1 : y < 1
    · refine bad (-2) ?_ ?_
      · unfold qX6_rule qX6_isRule qX6_isLength
        rw [if_neg n0, if_neg n4, bi1_t rfl, if_neg one_ne, if_pos y1, bi1_t rfl, if_pos rfl]
      · show bd (th0 h) _ = _
        rw [bd_t, i03, if_neg n0, if_neg n3, bi1_t rfl, if_neg one_ne, i19, if_pos y1, bi1_t rfl, if_pos rfl]
    by_cases y9 : (9 : Int32) < y
    · refine bad (-2) ?_ ?_
      · unfold qX6_rule qX6_isRule qX6_isLength
        rw [if_neg n0, if_neg n4, bi1_t rfl, if_neg one_ne, if_neg y1, if_pos y9, bi1_t rfl, if_pos rfl]
      · show bd (th0 h) _ = _
        rw [bd_t, i03, if_neg n0, if_neg n3, bi1_t rfl, if_neg one_ne, i19, if_neg y1, if_pos y9, bi1_t rfl, if_pos rfl]
    have good : qX6_rule h (nI r) y = qX6_rule_42 h (nI r) y → (∀ m : Hp, m 38 = h 38 → qX7_rule m (nI r) y = qX7_rule_59 (th0 m) (nI r) y (h 38 32)) → Op N g (qX6_rule h (nI r) y) (fun h => qX7_rule h (nI r) y) := by
      intro e1 e2
      have hPT : PgO n (N + 1) (upd (upd (h 0) 32 (nI r)) 33 y) (upd (upd (h 38) 32 (nI r)) 33 y) := ⟨_, _, ((hP2.rul hn hr).col (Or.inr (Or.inl rfl)) (fun q => absurd q (by omega)) (fun c _ q => absurd q (by omega))).up⟩
      refine act_done (r := h 0 32) hT hK hP hA hS hE hg hPT ?_ ?_
      · rw [e1]
        unfold qX6_rule_42 qX2_setRule
        rw [bi1_t (rem_C hk he a1 a3), rem_r (by decide) (by omega), bd_t, bd_t, bi1_t rfl, bd_t]
        rfl
      · show qX7_rule _ _ _ = _
        rw [e2 _ (AH_n (by decide) (by decide) (by omega))]
        unfold qX7_rule_59
        rw [bi1_t (note_t hk he a2), NH_38, tAH_n (by decide) (by decide) (by decide) (by omega), bd_t, su_same, bd_t, su_su, h32]
    by_cases q1 : nI r = h 0 32
    · by_cases q2 : y = h 0 33
      · refine bad (-3) ?_ ?_
        · unfold qX6_rule qX6_isRule qX6_isLength
          rw [if_neg n0, if_neg n4, bi1_t rfl, if_neg one_ne, if_neg y1, if_neg y9, bi1_t rfl, if_neg one_ne, if_pos q1, if_pos q2]
        · show bd (th0 h) _ = _
          rw [bd_t, i03, if_neg n0, if_neg n3, bi1_t rfl, if_neg one_ne, i19, if_neg y1, if_neg y9, bi1_t rfl, if_neg one_ne, th0_n (by decide), ← h32, ← h333, if_pos q1.symm, if_pos q2.symm]
      · refine good ?_ (fun m hm => ?_)
        · unfold qX6_rule qX6_isRule qX6_isLength
          rw [if_neg n0, if_neg n4, bi1_t rfl, if_neg one_ne, if_neg y1, if_neg y9, bi1_t rfl, if_neg one_ne, if_pos q1, if_neg q2]
        · show bd (th0 m) _ = _
          rw [bd_t, i03, if_neg n0, if_neg n3, bi1_t rfl, if_neg one_ne, i19, if_neg y1, if_neg y9, bi1_t rfl, if_neg one_ne, th0_n (by decide), hm, ← h32, ← h333, if_pos q1.symm, if_neg (fun q => q2 q.symm)]
    · refine good ?_ (fun m hm => ?_)
      · unfold qX6_rule qX6_isRule qX6_isLength
        rw [if_neg n0, if_neg n4, bi1_t rfl, if_neg one_ne, if_neg y1, if_neg y9, bi1_t rfl, if_neg one_ne, if_neg q1]
      · show bd (th0 m) _ = _
        rw [bd_t, i03, if_neg n0, if_neg n3, bi1_t rfl, if_neg one_ne, i19, if_neg y1, if_neg y9, bi1_t rfl, if_neg one_ne, th0_n (by decide), hm, ← h32, if_neg (fun q => q1 q.symm)]
