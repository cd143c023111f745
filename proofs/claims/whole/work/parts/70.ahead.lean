/-! ahead, by, second -/
theorem C_rule (x : Int32) : qX6_isRule x = qX7_in x.toInt64 0 3 := by
  rw [show qX7_in x.toInt64 0 3 = some (if x < 0 then 0 else if (3 : Int32) < x then 0 else 1) from in_R x 0 3]
  unfold qX6_isRule
  by_cases h0 : x < 0
  · rw [if_pos h0, if_pos h0]
  · rw [if_neg h0, if_neg h0]
    have w : (4 : Int32) ≤ x ↔ (3 : Int32) < x := by
      rw [Int32.le_iff_toInt_le, Int32.lt_iff_toInt_lt, show (4 : Int32).toInt = 4 by decide, show (3 : Int32).toInt = 3 by decide]
      omega
    by_cases h4 : (3 : Int32) < x
    · rw [if_pos (w.mpr h4), if_pos h4]
    · rw [if_neg (fun q => h4 (w.mp q)), if_neg h4]
theorem C_len (x : Int32) : qX6_isLength x = qX7_in x.toInt64 1 9 := by
  rw [show qX7_in x.toInt64 1 9 = some (if x < 1 then 0 else if (9 : Int32) < x then 0 else 1) from in_R x 1 9]
  unfold qX6_isLength
  by_cases h0 : x < 1
  · rw [if_pos h0, if_pos h0]
  · rw [if_neg h0, if_neg h0]
    by_cases h4 : (9 : Int32) < x
    · rw [if_pos h4, if_pos h4]
    · rw [if_neg h4, if_neg h4]
theorem C_out (x : Int32) : qX6_isOutlook x = qX7_in x.toInt64 0 3 := by
  rw [show qX7_in x.toInt64 0 3 = some (if x < 0 then 0 else if (3 : Int32) < x then 0 else 1) from in_R x 0 3]
  unfold qX6_isOutlook
  by_cases h0 : x < 0
  · rw [if_pos h0, if_pos h0]
  · rw [if_neg h0, if_neg h0]
    by_cases h4 : (3 : Int32) < x
    · rw [if_pos h4, if_pos h4]
    · rw [if_neg h4, if_neg h4]
/-- between lo and hi, or not -/
theorem in_or (x : Int32) (lo hi : Nat) (hh : hi < 1000) (hl : lo < 1000) : (qX7_in x.toInt64 (nI lo).toInt64 (nI hi).toInt64 = some 0 ∧ (x < nI lo ∨ (¬ x < nI lo ∧ nI hi < x))) ∨ (qX7_in x.toInt64 (nI lo).toInt64 (nI hi).toInt64 = some 1 ∧ ¬ x < nI lo ∧ ¬ nI hi < x ∧ x ≤ nI hi ∧ ∃ j, lo ≤ j ∧ j ≤ hi ∧ x = nI j) := by
  rw [in_R]
  by_cases h0 : x < nI lo
  · exact Or.inl ⟨by rw [if_pos h0], Or.inl h0⟩
  · by_cases h1 : nI hi < x
    · exact Or.inl ⟨by rw [if_neg h0, if_pos h1], Or.inr ⟨h0, h1⟩⟩
    · refine Or.inr ⟨by rw [if_neg h0, if_neg h1], h0, h1, Int32.not_lt.mp h1, x.toInt.toNat, ?_, ?_, ?_⟩
      · rw [Int32.lt_iff_toInt_lt, nI_toInt (by omega)] at h0
        omega
      · rw [Int32.lt_iff_toInt_lt, nI_toInt (by omega)] at h1
        omega
      · rw [Int32.lt_iff_toInt_lt, nI_toInt (by omega)] at h0 h1
        refine Int32.toInt_inj.mp ?_
        rw [nI_toInt (by omega)]
        omega
theorem op_ahead {N : Nat} {h : Hp} {g : Gp} (hN : N < 2 ^ 20) (R : Rel N h g) (x y : Int32) : Op N g (qX6_ahead h x y) (fun h => qX7_ahead h x y) := by
  have R0 := R
  obtain ⟨L, n, k, e, s, hT, hK, hP, hA, hS, hE, hg⟩ := R
  obtain ⟨a, th, hP2⟩ := hP
  have hn := hK.1
  have hN1 : N < 2 ^ 29 := by omega
  have bad : ∀ r : Int32, qX6_ahead h x y = some (r, h) → qX7_ahead h x y = some (r, th0 h) → Op N g (qX6_ahead h x y) (fun h => qX7_ahead h x y) := fun r e1 e2 => ⟨r, h, th0 h, e1, e2, R0.up.same (same_th0 h)⟩
  have ix := in_or x 0 60 (by decide) (by decide)
  have iy := in_or y 0 3 (by decide) (by decide)
  rw [show (nI 0).toInt64 = 0 by decide, show (nI 60).toInt64 = 60 by decide, show nI 0 = 0 from rfl] at ix
  rw [show (nI 0).toInt64 = 0 by decide, show (nI 3).toInt64 = 3 by decide] at iy
  rcases ix with ⟨i1, i2⟩ | ⟨i1, i2, i3, -, M, -, hM, rfl⟩
  · refine bad (-2) ?_ ?_
    · unfold qX6_ahead
      rcases i2 with i2 | ⟨i2, i3⟩
      · rw [if_pos i2]
      · rw [if_neg i2, if_pos (show (60 : Int32) < x from i3)]
    · show bd (th0 h) _ = _
      rw [bd_t, i1, bi1_t rfl, if_pos rfl]
  rcases iy with ⟨j1, -⟩ | ⟨j1, -, -, -, j, -, hj, rfl⟩
  · refine bad (-2) ?_ ?_
    · unfold qX6_ahead
      rw [if_neg i2, if_neg (show ¬ (60 : Int32) < nI M from i3), C_out, j1, bi1_t rfl, if_pos rfl]
    · show bd (th0 h) _ = _
      rw [bd_t, i1, bi1_t rfl, if_neg one_ne, j1, bi1_t rfl, if_pos rfl]
  obtain ⟨r, hr, h32⟩ := hP2.2.2.2.2.2.2.1
  obtain ⟨P1, T1, a1, h5, e1, e2⟩ := look_eq (y := h 0 33) hK hM hN1 hr hP2 (h 1) (h 39)
  rw [su_self] at e1
  obtain ⟨v, v1, v2⟩ := told_eq (h := h) (x := j) hn (by omega) (r33_4 hK) h5 (by omega)
  have hm := rk_th0 h P1
  have e3 := (e2 _ hm).1 (by rw [th0_n (by decide), su_ne (by decide)])
  refine ⟨v, su h 1 P1, sc (th0 (su h 1 P1)) h n T1, ?_, ?_, sc_rel R0 P1 T1⟩
  · unfold qX6_ahead
    rw [if_neg i2, if_neg (show ¬ (60 : Int32) < nI M from i3), C_out, j1, bi1_t rfl, if_neg one_ne, h32, bi1_t e1, bi1_t v1]
  · show bd (th0 (su h 1 P1)) _ = _
    rw [bd_t, i1, bi1_t rfl, if_neg one_ne, j1, bi1_t rfl, if_neg one_ne, hm.2.2.2, ← hP2.1.1 32 (by omega) (by omega), ← hP2.1.1 33 (by omega) (by omega), h32, bi1_t e3, sc_33, sc_39, bi1_t v2]
theorem op_by {N : Nat} {h : Hp} {g : Gp} (hN : N < 2 ^ 20) (R : Rel N h g) (p q x y : Int32) : Op N g (qX6_by h p q x y) (fun h => qX7_by h p q x y) := by
  have R0 := R
  obtain ⟨L, n, k, e, s, hT, hK, hP, hA, hS, hE, hg⟩ := R
  obtain ⟨a, th, hP2⟩ := hP
  have hn := hK.1
  have hN1 : N < 2 ^ 29 := by omega
  have bad : ∀ r : Int32, qX6_by h p q x y = some (r, h) → qX7_by h p q x y = some (r, th0 h) → Op N g (qX6_by h p q x y) (fun h => qX7_by h p q x y) := fun r e1 e2 => ⟨r, h, th0 h, e1, e2, R0.up.same (same_th0 h)⟩
  have ip := in_or p 0 3 (by decide) (by decide)
  have iq := in_or q 1 9 (by decide) (by decide)
  have ix := in_or x 0 60 (by decide) (by decide)
  have iy := in_or y 0 3 (by decide) (by decide)
  rw [show (nI 0).toInt64 = 0 by decide, show (nI 3).toInt64 = 3 by decide] at ip
  rw [show (nI 1).toInt64 = 1 by decide, show (nI 9).toInt64 = 9 by decide] at iq
  rw [show (nI 0).toInt64 = 0 by decide, show (nI 60).toInt64 = 60 by decide, show nI 0 = 0 from rfl] at ix
  rw [show (nI 0).toInt64 = 0 by decide, show (nI 3).toInt64 = 3 by decide] at iy
  rcases ip with ⟨p1, -⟩ | ⟨p1, -, -, -, r, -, hr, rfl⟩
  · refine bad (-2) ?_ ?_
    · unfold qX6_by
      rw [C_rule, p1, bi1_t rfl, if_pos rfl]
    · show bd (th0 h) _ = _
      rw [bd_t, p1, bi1_t rfl, if_pos rfl]
  rcases iq with ⟨q1, -⟩ | ⟨q1, -⟩
  · refine bad (-2) ?_ ?_
    · unfold qX6_by
      rw [C_rule, p1, bi1_t rfl, if_neg one_ne, C_len, q1, bi1_t rfl, if_pos rfl]
    · show bd (th0 h) _ = _
      rw [bd_t, p1, bi1_t rfl, if_neg one_ne, q1, bi1_t rfl, if_pos rfl]
  rcases ix with ⟨i1, i2⟩ | ⟨i1, i2, i3, -, M, -, hM, rfl⟩
  · refine bad (-2) ?_ ?_
    · unfold qX6_by
      rw [C_rule, p1, bi1_t rfl, if_neg one_ne, C_len, q1, bi1_t rfl, if_neg one_ne]
      rcases i2 with i2 | ⟨i2, i3⟩
      · rw [if_pos i2]
      · rw [if_neg i2, if_pos (show (60 : Int32) < x from i3)]
    · show bd (th0 h) _ = _
      rw [bd_t, p1, bi1_t rfl, if_neg one_ne, q1, bi1_t rfl, if_neg one_ne, i1, bi1_t rfl, if_pos rfl]
  rcases iy with ⟨j1, -⟩ | ⟨j1, -, -, -, j, -, hj, rfl⟩
  · refine bad (-2) ?_ ?_
    · unfold qX6_by
      rw [C_rule, p1, bi1_t rfl, if_neg one_ne, C_len, q1, bi1_t rfl, if_neg one_ne, if_neg i2, if_neg (show ¬ (60 : Int32) < nI M from i3), C_out, j1, bi1_t rfl, if_pos rfl]
    · show bd (th0 h) _ = _
      rw [bd_t, p1, bi1_t rfl, if_neg one_ne, q1, bi1_t rfl, if_neg one_ne, i1, bi1_t rfl, if_neg one_ne, j1, bi1_t rfl, if_pos rfl]
  obtain ⟨P1, T1, a1, h5, e1, e2⟩ := look_eq (y := q) hK hM hN1 (show r < 4 by omega) hP2 (h 1) (h 39)
  rw [su_self] at e1
  obtain ⟨v, v1, v2⟩ := told_eq (h := h) (x := j) hn (by omega) (r33_4 hK) h5 (by omega)
  have hm := rk_th0 h P1
  have e3 := (e2 _ hm).1 (by rw [th0_n (by decide), su_ne (by decide)])
  refine ⟨v, su h 1 P1, sc (th0 (su h 1 P1)) h n T1, ?_, ?_, sc_rel R0 P1 T1⟩
  · unfold qX6_by
    rw [C_rule, p1, bi1_t rfl, if_neg one_ne, C_len, q1, bi1_t rfl, if_neg one_ne, if_neg i2, if_neg (show ¬ (60 : Int32) < nI M from i3), C_out, j1, bi1_t rfl, if_neg one_ne, bi1_t e1, bi1_t v1]
  · show bd (th0 (su h 1 P1)) _ = _
    rw [bd_t, p1, bi1_t rfl, if_neg one_ne, q1, bi1_t rfl, if_neg one_ne, i1, bi1_t rfl, if_neg one_ne, j1, bi1_t rfl, if_neg one_ne, bi1_t e3, sc_33, sc_39, bi1_t v2]
theorem sec_go : ∀ (f : Nat) (H H2 : Hp) (M v i : Int32), qX7_go_23 f H M i = some H2 → qX7_second_64 f H M v i = bi1 (qX7_sumOf (H2 33) (H2 39) 15) (fun r => some (v - r, H2)) := by
  intro f
  induction f with
  | zero =>
    intro H H2 M v i e
    rw [qX7_go_23] at e
    cases e
  | succ f ih =>
    intro H H2 M v i e
    rw [qX7_go_23] at e
    rw [qX7_second_64]
    by_cases hle : M ≤ i
    · rw [if_pos hle] at e
      rw [if_pos hle]
      cases e
      rfl
    · rw [if_neg hle] at e
      rw [if_neg hle]
      cases hg : qX7_goMinute (H 33) (H 35) (H 36) (H 39) with
      | none => rw [hg] at e; cases e
      | some P =>
        rw [hg, bi1_t rfl, bd_t] at e
        rw [bi1_t rfl, bd_t]
        exact ih _ _ _ _ _ e
theorem op_second {N : Nat} {h : Hp} {g : Gp} (hN : N < 2 ^ 20) (R : Rel N h g) (x : Int32) : Op N g (qX6_second h x) (fun h => qX7_second h x) := by
  have R0 := R
  obtain ⟨L, n, k, e, s, hT, hK, hP, hA, hS, hE, hg⟩ := R
  obtain ⟨a, th, hP2⟩ := hP
  have hn := hK.1
  have hN1 : N < 2 ^ 29 := by omega
  have bad : ∀ r : Int32, qX6_second h x = some (r, h) → qX7_second h x = some (r, th0 h) → Op N g (qX6_second h x) (fun h => qX7_second h x) := fun r e1 e2 => ⟨r, h, th0 h, e1, e2, R0.up.same (same_th0 h)⟩
  have ix := in_or x 1 30 (by decide) (by decide)
  rw [show (nI 1).toInt64 = 1 by decide, show (nI 30).toInt64 = 30 by decide] at ix
  rcases ix with ⟨i1, i2⟩ | ⟨i1, i2, -, i3, M, -, hM, rfl⟩
  · refine bad (-2) ?_ ?_
    · unfold qX6_second
      rcases i2 with i2 | ⟨i2, i3⟩
      · rw [if_pos (show x < 1 from i2)]
      · rw [if_neg (show ¬ x < 1 from i2), if_neg (show ¬ x ≤ (30 : Int32) from Int32.not_le.mpr i3)]
    · show bd (th0 h) _ = _
      rw [bd_t, i1, bi1_t rfl, if_pos rfl]
  obtain ⟨r, hr, h32⟩ := hP2.2.2.2.2.2.2.1
  obtain ⟨P1, T1, a1, h5, e1, e2⟩ := look_eq (y := h 0 33) hK (show M ≤ 60 by omega) hN1 hr hP2 (h 1) (h 39)
  rw [su_self] at e1
  have hp2 : pop a ≤ 2 := by
    have q1 := hP2.2.2.2.2.2.2.2.1
    have q2 := hP2.2.2.2.2.2.2.2.2.2.1
    omega
  have h6 := (begin_2 (P0 := P1) (T0 := T1) hn hP2).tng hn (t2 := 2) (Or.inr rfl) hp2
  obtain ⟨P2, T2, a2, h7, e4, e5⟩ := look_loop (M := M) hK (by omega) M (599 - M) 0 N a _ _ (by omega) (by omega) h6
  rw [show M + 1 + (599 - M) = 600 by omega] at e4
  have hm := rk_th0 h P2
  have e3 := (e2 _ hm).1 (by rw [th0_n (by decide), su_ne (by decide)])
  have e6 := e5 _ hm (599 - M)
  rw [show M + 1 + (599 - M) = 600 by omega] at e6
  have s2 := sec_go _ _ _ _ (sm P1 15 n) _ e6
  rw [sc_33, sc_39, bi1_t (stared_R hn (r33_4 hK) h7)] at s2
  refine ⟨sm P1 15 n - sm P2 15 n, su h 1 P2, sc (th0 (su h 1 P2)) h n T2, ?_, ?_, sc_rel R0 P2 T2⟩
  · unfold qX6_second
    rw [if_neg (show ¬ nI M < 1 from i2), if_pos (show nI M ≤ (30 : Int32) from i3), h32, bi1_t e1, su_same, bi1_t (stared_C hn h5.2.1), su_ne (show (0 : Nat) ≠ 1 by decide)]
    have e7 : qX6_look (su h 1 P1) (h 0 32) (h 0 33) 2 (nI M) = some (su h 1 P2) := by
      unfold qX6_look qX2_setRule
      rw [su_ne (show (0 : Nat) ≠ 1 by decide), su_same, bi1_t (copy_C _ _), bd_t, su_same, bd_t, bd_t, bi1_t rfl, bd_t, su_same, bd_t]
      have u1 : upd (cpy (h 0) P1) 32 (h 0 32) = cpy (h 0) P1 := upd_i (cpy (h 0) P1) 32
      have u2 : upd (cpy (h 0) P1) 33 (h 0 33) = cpy (h 0) P1 := upd_i (cpy (h 0) P1) 33
      rw [u1, u2, su_su, su_su, su_su, show (0 : Int32) = nI 0 from rfl]
      exact e4
    rw [bi1_t e7, su_same, bi1_t (stared_C hn h7.2.1)]
  · show bd (th0 (su h 1 P2)) _ = _
    rw [bd_t, i1, bi1_t rfl, if_neg one_ne, hm.2.2.2, ← hP2.1.1 32 (by omega) (by omega), ← hP2.1.1 33 (by omega) (by omega), h32, bi1_t e3, sc_33, sc_39, bi1_t (stared_R hn (r33_4 hK) h5), bi1_t (begin_s hK hm T1), bd_t, sc_39, sc_su]
    exact s2
