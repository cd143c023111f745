/-! the best length, the best rule, the first minute -/
theorem len_loop {h : Hp} {n N M r a th : Nat} (K : KdO h n) (hM : M ≤ 30) (hN : N < 2 ^ 29) (hr : r < 4) (h2 : Two n (al n) N (h 0) (h 38) a th noZ) : ∀ (d f f2 k b : Nat) (z : Int32) (P0 T0 : Row), k + d = 10 → b < k → 1 ≤ b → ∃ v P1 T1, qX6_bestLength_29 (d + 1 + f) (su h 1 P0) (nI r) (nI M) (nI b) z (nI k) = some (v, su h 1 P1) ∧ ∀ m, Rk h m → qX7_bestLength_42 (d + 1 + f2) (sc m h n T0) (nI r) (nI M) (nI b) z (nI k) = some (v, sc m h n T1) := by
  have hn := K.1
  intro d
  induction d with
  | zero =>
    intro f f2 k b z P0 T0 hk hb hb1
    refine ⟨nI b, P0, T0, ?_, fun m hm => ?_⟩
    · rw [show 0 + 1 + f = f + 1 by omega, qX6_bestLength_29, if_pos (show (9 : Int32) < nI k from nI_lt (a := 9) (b := k) (by omega) (by omega))]
    · rw [show 0 + 1 + f2 = f2 + 1 by omega, qX7_bestLength_42, if_pos (show (10 : Int32) ≤ nI k from nI_le (a := 10) (b := k) (by omega) (by omega))]
  | succ d ih =>
    intro f f2 k b z P0 T0 hk hb hb1
    obtain ⟨P1, T1, a1, h5, e1, e2⟩ := look_eq (y := nI k) K (show M ≤ 60 by omega) hN hr h2 P0 T0
    obtain ⟨w, w1, w2⟩ := gap_eq hn (by omega) (r33_4 K) h5
    have nb0 : ¬ nI b = 0 := nI_ne0 (by omega) (by omega)
    have nb9 : ¬ nI b = -9 := ne9 (by omega)
    have nbk : ¬ nI b = nI k := fun q => absurd ((nI_eq (by omega) (by omega)).mp q) (by omega)
    have n9 : ¬ (9 : Int32) < nI k := nI_nlt (a := 9) (b := k) (by omega) (by omega)
    have n10 : ¬ (10 : Int32) ≤ nI k := nI_ge (a := k) (b := 10) (by omega) (by omega)
    by_cases hz : z ≤ w
    · obtain ⟨v, P2, T2, e3, e4⟩ := ih f f2 (k + 1) b z P1 T1 (by omega) (by omega) hb1
      refine ⟨v, P2, T2, ?_, fun m hm => ?_⟩
      · rw [show d + 1 + 1 + f = (d + 1 + f) + 1 by omega, qX6_bestLength_29, if_neg n9, su_ne (show (0 : Nat) ≠ 1 by decide), bi1_t e1, su_same, bi1_t w1, if_neg nb0, if_pos hz]
        unfold qX6_bestLength_78
        rw [nI_1]
        exact e3
      · rw [show d + 1 + 1 + f2 = (d + 1 + f2) + 1 by omega, qX7_bestLength_42, if_neg n10, bi1_t (e2 m hm).2, sc_33, sc_39, bi1_t w2, if_neg nb9, if_pos hz]
        unfold qX7_bestLength_86 qX7_bestLength_100
        rw [if_neg nbk, nI_1]
        exact e4 m hm
    · obtain ⟨v, P2, T2, e3, e4⟩ := ih f f2 (k + 1) k w P1 T1 (by omega) (by omega) (by omega)
      refine ⟨v, P2, T2, ?_, fun m hm => ?_⟩
      · rw [show d + 1 + 1 + f = (d + 1 + f) + 1 by omega, qX6_bestLength_29, if_neg n9, su_ne (show (0 : Nat) ≠ 1 by decide), bi1_t e1, su_same, bi1_t w1, if_neg nb0, if_neg hz]
        unfold qX6_bestLength_71 qX6_bestLength_78
        rw [nI_1]
        exact e3
      · rw [show d + 1 + 1 + f2 = (d + 1 + f2) + 1 by omega, qX7_bestLength_42, if_neg n10, bi1_t (e2 m hm).2, sc_33, sc_39, bi1_t w2, if_neg nb9, if_neg hz]
        unfold qX7_bestLength_80 qX7_bestLength_86 qX7_bestLength_100
        rw [if_pos rfl, nI_1]
        exact e4 m hm
theorem op_bestLength {N : Nat} {h : Hp} {g : Gp} (hN : N < 2 ^ 20) (R : Rel N h g) (p x : Int32) : Op N g (qX6_bestLength h p x) (fun h => qX7_bestLength h p x) := by
  have R0 := R
  obtain ⟨L, n, k, e, s, hT, hK, hP, hA, hS, hE, hg⟩ := R
  obtain ⟨a, th, hP2⟩ := hP
  have hn := hK.1
  have hN1 : N < 2 ^ 29 := by omega
  have bad : ∀ r : Int32, qX6_bestLength h p x = some (r, h) → qX7_bestLength h p x = some (r, th0 h) → Op N g (qX6_bestLength h p x) (fun h => qX7_bestLength h p x) := fun r e1 e2 => ⟨r, h, th0 h, e1, e2, R0.up.same (same_th0 h)⟩
  have ip := in_or p 0 3 (by decide) (by decide)
  have ix := in_or x 1 30 (by decide) (by decide)
  rw [show (nI 0).toInt64 = 0 by decide, show (nI 3).toInt64 = 3 by decide] at ip
  rw [show (nI 1).toInt64 = 1 by decide, show (nI 30).toInt64 = 30 by decide] at ix
  rcases ip with ⟨p1, -⟩ | ⟨p1, -, -, -, r, -, hr, rfl⟩
  · refine bad (-2) ?_ ?_
    · unfold qX6_bestLength
      rw [C_rule, p1, bi1_t rfl, if_pos rfl]
    · show bd (th0 h) _ = _
      rw [bd_t, p1, bi1_t rfl, if_pos rfl]
  rcases ix with ⟨i1, i2⟩ | ⟨i1, i2, -, i3, M, -, hM, rfl⟩
  · refine bad (-2) ?_ ?_
    · unfold qX6_bestLength
      rw [C_rule, p1, bi1_t rfl, if_neg one_ne]
      rcases i2 with i2 | ⟨i2, i3⟩
      · rw [if_pos (show x < 1 from i2)]
      · rw [if_neg (show ¬ x < 1 from i2), if_neg (show ¬ x ≤ (30 : Int32) from Int32.not_le.mpr i3)]
    · show bd (th0 h) _ = _
      rw [bd_t, p1, bi1_t rfl, if_neg one_ne, i1, bi1_t rfl, if_pos rfl]
  obtain ⟨P1, T1, a1, h5, e1, e2⟩ := look_eq (y := nI 1) hK (show M ≤ 60 by omega) hN1 (show r < 4 by omega) hP2 (h 1) (h 39)
  rw [su_self] at e1
  obtain ⟨w, w1, w2⟩ := gap_eq hn (by omega) (r33_4 hK) h5
  obtain ⟨v, P2, T2, e3, e4⟩ := len_loop hK hM hN1 (show r < 4 by omega) hP2 8 590 590 2 1 w P1 T1 (by omega) (by omega) (by omega)
  have hm := rk_th0 h P2
  refine ⟨v, su h 1 P2, sc (th0 (su h 1 P2)) h n T2, ?_, ?_, sc_rel R0 P2 T2⟩
  · unfold qX6_bestLength
    rw [C_rule, p1, bi1_t rfl, if_neg one_ne, if_neg (show ¬ nI M < 1 from i2), if_pos (show nI M ≤ (30 : Int32) from i3), show (600 : Nat) = (8 + 1 + 590) + 1 from rfl, qX6_bestLength_29, if_neg (show ¬ (9 : Int32) < 1 by decide), show (1 : Int32) = nI 1 from rfl, bi1_t e1, su_same, bi1_t w1, if_pos rfl]
    unfold qX6_bestLength_71 qX6_bestLength_78
    exact e3
  · show bd (th0 (su h 1 P2)) _ = _
    rw [bd_t, p1, bi1_t rfl, if_neg one_ne, i1, bi1_t rfl, if_neg one_ne, show (600 : Nat) = (8 + 1 + 590) + 1 from rfl, qX7_bestLength_42, if_neg (show ¬ (10 : Int32) ≤ 1 by decide), show (1 : Int32) = nI 1 from rfl, bi1_t ((e2 _ hm).1 (by rw [th0_n (by decide), su_ne (by decide)])), sc_33, sc_39, bi1_t w2, if_pos rfl]
    unfold qX7_bestLength_80 qX7_bestLength_86 qX7_bestLength_100
    rw [if_pos rfl]
    exact e4 _ hm
theorem rul_loop {h : Hp} {n N M a th : Nat} (K : KdO h n) (hM : M ≤ 30) (hN : N < 2 ^ 29) (h2 : Two n (al n) N (h 0) (h 38) a th noZ) : ∀ (d f f2 k b : Nat) (z : Int32) (P0 T0 : Row), k + d = 4 → b < k → ∃ v P1 T1, qX6_bestRule_22 (d + 1 + f) (su h 1 P0) (nI M) (nI b) z (nI k) = some (v, su h 1 P1) ∧ ∀ m, Rk h m → qX7_bestRule_29 (d + 1 + f2) (sc m h n T0) (nI M) (nI b) z (nI k) = some (v, sc m h n T1) := by
  have hn := K.1
  have h33 := h2.1.1 33 (by omega) (by omega)
  intro d
  induction d with
  | zero =>
    intro f f2 k b z P0 T0 hk hb
    refine ⟨nI b, P0, T0, ?_, fun m hm => ?_⟩
    · rw [show 0 + 1 + f = f + 1 by omega, qX6_bestRule_22, if_pos (show (4 : Int32) ≤ nI k from nI_le (a := 4) (b := k) (by omega) (by omega))]
    · rw [show 0 + 1 + f2 = f2 + 1 by omega, qX7_bestRule_29, if_pos (show (4 : Int32) ≤ nI k from nI_le (a := 4) (b := k) (by omega) (by omega))]
  | succ d ih =>
    intro f f2 k b z P0 T0 hk hb
    obtain ⟨P1, T1, a1, h5, e1, e2⟩ := look_eq (y := h 0 33) K (show M ≤ 60 by omega) hN (show k < 4 by omega) h2 P0 T0
    have w1 := stared_C hn h5.2.1
    have w2 := stared_R hn (r33_4 K) h5
    have nb9 : ¬ nI b = -9 := ne9 (by omega)
    have nbk : ¬ nI b = nI k := fun q => absurd ((nI_eq (by omega) (by omega)).mp q) (by omega)
    have n4 : ¬ (4 : Int32) ≤ nI k := nI_ge (a := k) (b := 4) (by omega) (by omega)
    by_cases hz : z ≤ sm P1 15 n
    · obtain ⟨v, P2, T2, e3, e4⟩ := ih f f2 (k + 1) b z P1 T1 (by omega) (by omega)
      refine ⟨v, P2, T2, ?_, fun m hm => ?_⟩
      · rw [show d + 1 + 1 + f = (d + 1 + f) + 1 by omega, qX6_bestRule_22, if_neg n4, su_ne (show (0 : Nat) ≠ 1 by decide), bi1_t e1, su_same, bi1_t w1, if_neg nb9, if_pos hz]
        unfold qX6_bestRule_76
        rw [nI_1]
        exact e3
      · rw [show d + 1 + 1 + f2 = (d + 1 + f2) + 1 by omega, qX7_bestRule_29, if_neg n4, sc_n (show (38 : Nat) ≠ 33 by decide) (by decide), hm.2.2.2, ← h33, bi1_t (e2 m hm).2, sc_33, sc_39, bi1_t w2, if_neg nb9, if_pos hz]
        unfold qX7_bestRule_79 qX7_bestRule_92
        rw [if_neg nbk, nI_1]
        exact e4 m hm
    · obtain ⟨v, P2, T2, e3, e4⟩ := ih f f2 (k + 1) k (sm P1 15 n) P1 T1 (by omega) (by omega)
      refine ⟨v, P2, T2, ?_, fun m hm => ?_⟩
      · rw [show d + 1 + 1 + f = (d + 1 + f) + 1 by omega, qX6_bestRule_22, if_neg n4, su_ne (show (0 : Nat) ≠ 1 by decide), bi1_t e1, su_same, bi1_t w1, if_neg nb9, if_neg hz]
        unfold qX6_bestRule_70 qX6_bestRule_76
        rw [nI_1]
        exact e3
      · rw [show d + 1 + 1 + f2 = (d + 1 + f2) + 1 by omega, qX7_bestRule_29, if_neg n4, sc_n (show (38 : Nat) ≠ 33 by decide) (by decide), hm.2.2.2, ← h33, bi1_t (e2 m hm).2, sc_33, sc_39, bi1_t w2, if_neg nb9, if_neg hz]
        unfold qX7_bestRule_73 qX7_bestRule_79 qX7_bestRule_92
        rw [if_pos rfl, nI_1]
        exact e4 m hm
theorem op_bestRule {N : Nat} {h : Hp} {g : Gp} (hN : N < 2 ^ 20) (R : Rel N h g) (x : Int32) : Op N g (qX6_bestRule h x) (fun h => qX7_bestRule h x) := by
  have R0 := R
  obtain ⟨L, n, k, e, s, hT, hK, hP, hA, hS, hE, hg⟩ := R
  obtain ⟨a, th, hP2⟩ := hP
  have hn := hK.1
  have hN1 : N < 2 ^ 29 := by omega
  have bad : ∀ r : Int32, qX6_bestRule h x = some (r, h) → qX7_bestRule h x = some (r, th0 h) → Op N g (qX6_bestRule h x) (fun h => qX7_bestRule h x) := fun r e1 e2 => ⟨r, h, th0 h, e1, e2, R0.up.same (same_th0 h)⟩
  have ix := in_or x 1 30 (by decide) (by decide)
  rw [show (nI 1).toInt64 = 1 by decide, show (nI 30).toInt64 = 30 by decide] at ix
  rcases ix with ⟨i1, i2⟩ | ⟨i1, i2, -, i3, M, -, hM, rfl⟩
  · refine bad (-2) ?_ ?_
    · unfold qX6_bestRule
      rcases i2 with i2 | ⟨i2, i3⟩
      · rw [if_pos (show x < 1 from i2)]
      · rw [if_neg (show ¬ x < 1 from i2), if_neg (show ¬ x ≤ (30 : Int32) from Int32.not_le.mpr i3)]
    · show bd (th0 h) _ = _
      rw [bd_t, i1, bi1_t rfl, if_pos rfl]
  obtain ⟨P1, T1, a1, h5, e1, e2⟩ := look_eq (y := h 0 33) hK (show M ≤ 60 by omega) hN1 (show 0 < 4 by omega) hP2 (h 1) (h 39)
  rw [su_self] at e1
  have w1 := stared_C hn h5.2.1
  have w2 := stared_R hn (r33_4 hK) h5
  obtain ⟨v, P2, T2, e3, e4⟩ := rul_loop hK hM hN1 hP2 3 595 595 1 0 (sm P1 15 n) P1 T1 (by omega) (by omega)
  have hm := rk_th0 h P2
  refine ⟨v, su h 1 P2, sc (th0 (su h 1 P2)) h n T2, ?_, ?_, sc_rel R0 P2 T2⟩
  · unfold qX6_bestRule
    rw [if_neg (show ¬ nI M < 1 from i2), if_pos (show nI M ≤ (30 : Int32) from i3), show (600 : Nat) = (3 + 1 + 595) + 1 from rfl, qX6_bestRule_22, if_neg (show ¬ (4 : Int32) ≤ 0 by decide), show (0 : Int32) = nI 0 from rfl, bi1_t e1, su_same, bi1_t w1, if_pos rfl]
    unfold qX6_bestRule_70 qX6_bestRule_76
    exact e3
  · show bd (th0 (su h 1 P2)) _ = _
    rw [bd_t, i1, bi1_t rfl, if_neg one_ne, show (600 : Nat) = (3 + 1 + 595) + 1 from rfl, qX7_bestRule_29, if_neg (show ¬ (4 : Int32) ≤ 0 by decide), hm.2.2.2, ← hP2.1.1 33 (by omega) (by omega), show (0 : Int32) = nI 0 from rfl, bi1_t ((e2 _ hm).1 (by rw [th0_n (by decide), su_ne (by decide)])), sc_33, sc_39, bi1_t w2, if_pos rfl]
    unfold qX7_bestRule_73 qX7_bestRule_79 qX7_bestRule_92
    rw [if_pos rfl]
    exact e4 _ hm
theorem first_loop {h : Hp} {n c : Nat} (K : KdO h n) (hc : c < 5) : ∀ (d f f2 k B a th : Nat) (P T : Row), k + d = 61 → B + d < 2 ^ 30 → Two n (al n) B P T a th noZ → ∃ v P1 T1, qX6_first_26 (d + 1 + f) (su h 1 P) (nI c) (nI k) = some (v, su h 1 P1) ∧ ∀ m, Rk h m → qX7_first_21 (d + 1 + f2) (sc m h n T) (nI c) (nI k) = some (v, sc m h n T1) := by
  intro d
  induction d with
  | zero =>
    intro f f2 k B a th P T hk hB h2
    have l : (60 : Int32) < nI k := nI_lt (a := 60) (b := k) (by omega) (by omega)
    exact ⟨-9, P, T, by rw [show 0 + 1 + f = f + 1 by omega, qX6_first_26, if_pos l], fun m hm => by rw [show 0 + 1 + f2 = f2 + 1 by omega, qX7_first_21, if_pos l]⟩
  | succ d ih =>
    intro f f2 k B a th P T hk hB h2
    have l : ¬ (60 : Int32) < nI k := nI_nlt (a := 60) (b := k) (by omega) (by omega)
    have h30 := h2.2.2.2.1
    have ha := h2.2.2.1
    have hT30 : T 30 = nI a := by rw [← h2.1.1 30 (by omega) (by omega)]; exact h30
    by_cases hr : a.testBit c = true
    · refine ⟨nI k, P, T, ?_, fun m hm => ?_⟩
      · rw [show d + 1 + 1 + f = (d + 1 + f) + 1 by omega, qX6_first_26, if_neg l, su_same, brC h30 ha hc, if_pos hr, if_neg one_ne]
      · rw [show d + 1 + 1 + f2 = (d + 1 + f2) + 1 by omega, qX7_first_21, if_neg l, sc_39, hT30, bhR ha hc, if_pos hr, if_neg one_ne]
    · obtain ⟨P2, T2, a2, e1, e2, h3⟩ := min_step K (by omega) h2
      obtain ⟨v, P1, T1, e3, e4⟩ := ih f f2 (k + 1) (B + 1) a2 th P2 T2 (by omega) (by omega) h3
      refine ⟨v, P1, T1, ?_, fun m hm => ?_⟩
      · rw [show d + 1 + 1 + f = (d + 1 + f) + 1 by omega, qX6_first_26, if_neg l, su_same, brC h30 ha hc, if_neg hr, if_pos rfl, su_ne (by decide), su_ne (by decide), bi1_t e1, bd_t, su_su, nI_1]
        exact e3
      · rw [show d + 1 + 1 + f2 = (d + 1 + f2) + 1 by omega, qX7_first_21, if_neg l, sc_39, hT30, bhR ha hc, if_neg hr, if_pos rfl, bi1_t (e2 m T hm), bd_t, sc_su, nI_1]
        exact e4 m hm
theorem op_first {N : Nat} {h : Hp} {g : Gp} (hN : N < 2 ^ 20) (R : Rel N h g) (x : Int32) : Op N g (qX6_first h x) (fun h => qX7_first h x) := by
  have R0 := R
  obtain ⟨L, n, k, e, s, hT, hK, hP, hA, hS, hE, hg⟩ := R
  obtain ⟨a, th, hP2⟩ := hP
  have hn := hK.1
  have bad : ∀ r : Int32, qX6_first h x = some (r, h) → qX7_first h x = some (r, th0 h) → Op N g (qX6_first h x) (fun h => qX7_first h x) := fun r e1 e2 => ⟨r, h, th0 h, e1, e2, R0.up.same (same_th0 h)⟩
  have h33 : ∀ m : Hp, m 33 = upd (h 33) 0 0 → m 33 4 = nI n := fun m q => by rw [q, upd_n _ (by decide)]; exact hK.2.2.1
  rcases isChild n hn x with ⟨c, hc, rfl⟩ | hx
  · obtain ⟨v, P1, T1, e3, e4⟩ := first_loop (c := c) hK (by omega) 61 538 538 0 N a th _ _ (by omega) (by omega) (begin_2 (P0 := h 1) (T0 := h 39) hn hP2)
    have hm := rk_th0 h P1
    refine ⟨v, su h 1 P1, sc (th0 (su h 1 P1)) h n T1, ?_, ?_, sc_rel R0 P1 T1⟩
    · unfold qX6_first
      rw [bi1_t (there_C hn hP2.2.1 hc), if_neg one_ne, bi1_t (copy_C _ _), bd_t, show (600 : Nat) = 61 + 1 + 538 from rfl, show (0 : Int32) = nI 0 from rfl]
      exact e3
    · show bd (th0 (su h 1 P1)) _ = _
      have e5 : th0 (su h 1 P1) 39 = h 39 := by rw [th0_n (by decide), su_ne (by decide)]
      rw [bd_t, bi1_t (noC_R hn (h33 _ hm.1) hc), if_pos rfl, bi1_t (begin_m hK hm), e5, show (600 : Nat) = 61 + 1 + 538 from rfl, show (0 : Int32) = nI 0 from rfl]
      exact e4 _ hm
  · refine bad (-1) ?_ ?_
    · unfold qX6_first
      rw [bi1_t (there_Cn hn hP2.2.1 hx), if_pos rfl]
    · show bd (th0 h) _ = _
      rw [bd_t, bi1_t (noC_Rn hn (h33 _ (th0_33 h)) hx), if_neg one_ne]
