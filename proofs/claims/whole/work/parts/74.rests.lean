def rs (m : Hp) (x y : Int32) : Hp := su m 33 (upd (upd (m 33) 22 x) 23 y)
theorem rs_x (m : Hp) (x y : Int32) : rs m x y 33 22 = x := by
  unfold rs
  rw [su_same, upd_n _ (by decide), upd_s]
theorem rs_y (m : Hp) (x y : Int32) : rs m x y 33 23 = y := by
  unfold rs
  rw [su_same, upd_s]
theorem rs_n {m : Hp} {x y : Int32} {r : Nat} (h : r ≠ 33) : rs m x y r = m r := su_ne h
theorem rs_23 (m : Hp) (x y z : Int32) : su (rs m x y) 33 (upd (rs m x y 33) 23 z) = rs m x z := by
  unfold rs
  rw [su_same, su_su]
  refine congrArg (su m 33) ?_
  funext j
  unfold upd
  by_cases h : j = 23
  · rw [if_pos h, if_pos h]
  · rw [if_neg h, if_neg h, if_neg h]
theorem rs_22 (m : Hp) (x y z : Int32) : su (rs m x y) 33 (upd (rs m x y 33) 22 z) = rs m z y := by
  unfold rs
  rw [su_same, su_su]
  refine congrArg (su m 33) ?_
  funext j
  unfold upd
  by_cases h : j = 22
  · subst h
    rw [if_pos rfl, if_neg (by decide), if_pos rfl]
  · rw [if_neg h, if_neg h]
    by_cases h2 : j = 23
    · rw [if_pos h2, if_pos h2]
    · rw [if_neg h2, if_neg h2, if_neg h]
theorem rest_step {h m : Hp} {n N a th c d u v w f : Nat} {y x3 : Int32} (K : KdO h n) (hc : c < n) (hd : d < n) (h2 : Two n (al n) N (h 0) (h 38) a th noZ) (h35 : m 35 = h 35) (h36 : m 36 = h 36) (h38 : m 38 = h 38) (hu : u < 2) (hv : v < 2) (hw : w < 10) (inv : (w = 0 ∧ y = -9) ∨ (w ≠ 0 ∧ y ≠ -9)) (k51 : Int32 → Int32 → Int32 → Int32 → Int32 → Int32 → Option Int32) (k13 : Hp → Int32 → Int32 → Int32 → Option Hp) : ∃ w2 y2, w2 ≤ w + 1 ∧ ((w2 = 0 ∧ y2 = -9) ∨ (w2 ≠ 0 ∧ y2 ≠ -9)) ∧ qX6_rests_60 h k51 (f + 1) (nI c) (nI d) x3 (nI w) y (nI u) (nI v) = qX6_rests_60 h k51 f (nI c) (nI d) x3 (nI w2) y2 (nI u) (nI (v + 1)) ∧ qX7_findRests_21 k13 (f + 1) (rs m (nI w) y) (nI c) (nI d) (nI u) (nI v) = qX7_findRests_21 k13 f (rs m (nI w2) y2) (nI c) (nI d) (nI u) (nI (v + 1)) := by
  obtain ⟨p1, p2, e1, e2, e3⟩ := stay_eq (m := rs m (nI w) y) (u := u) (v := v) K hc hd h2 (by rw [rs_n (by decide)]; exact h35) (by rw [rs_n (by decide)]; exact h36) (by rw [rs_n (by decide)]; exact h38) hu hv
  obtain ⟨q1, q2, g1, g2, g3⟩ := stay_eq (m := rs m (nI w) y) (u := v) (v := u) K hd hc h2 (by rw [rs_n (by decide)]; exact h35) (by rw [rs_n (by decide)]; exact h36) (by rw [rs_n (by decide)]; exact h38) hv hu
  have n1 : ¬ (1 : Int32) < nI v := nI_nlt (a := 1) (b := v) (by omega) (by omega)
  have n2 : ¬ (2 : Int32) ≤ nI v := nI_ge (a := v) (b := 2) (by omega) (by omega)
  have r77 : qX7_findRests_77 (qX7_findRests_21 k13 f) k13 (rs m (nI w) y) (nI c) (nI d) (nI u) (nI v) = qX7_findRests_21 k13 f (rs m (nI w) y) (nI c) (nI d) (nI u) (nI (v + 1)) := by
    unfold qX7_findRests_77 qX7_findRests_78 qX7_findRests_103 qX7_findRests_107 qX7_findRests_125
    rw [if_pos rfl, rs_y, rs_23, bd_t, if_pos rfl, rs_x, add_z, rs_22, bd_t, nI_1]
  rw [qX6_rests_60, if_neg n1, bi1_t e3, qX7_findRests_21, if_neg n2, bi1_t e1, bi1_t e2]
  by_cases hp : p1 < p2
  · refine ⟨w, y, by omega, inv, ?_, ?_⟩
    · rw [if_pos hp, if_pos rfl]
      unfold qX6_rests_117
      rw [nI_1]
    · rw [if_pos hp]
      exact r77
  · rw [if_neg hp, if_neg one_ne, bi1_t g3, if_neg hp, bi1_t g1, bi1_t g2]
    by_cases hq : q1 < q2
    · refine ⟨w, y, by omega, inv, ?_, ?_⟩
      · rw [if_pos hq, if_pos rfl]
        unfold qX6_rests_117
        rw [nI_1]
      · rw [if_pos hq]
        exact r77
    · rw [if_neg hq, if_neg one_ne, if_neg hq]
      rcases inv with ⟨rfl, rfl⟩ | ⟨w0, y9⟩
      · have t1 : (10 : Int32) * nI u + nI v = nI (10 * u + v) := by
          rw [show (10 : Int32) * nI u = nI (10 * u) from pk_mul 10 u, nI_add]
        refine ⟨1, nI (10 * u + v), by omega, Or.inr ⟨by omega, ne9 (by omega)⟩, ?_, ?_⟩
        · rw [if_pos rfl, t1]
          unfold qX6_rests_115 qX6_rests_117
          rw [nI_1, nI_1]
        · unfold qX7_findRests_78 qX7_findRests_107 qX7_findRests_125
          rw [if_neg one_ne, rs_x, if_pos (show nI 0 = (0 : Int32) from rfl), rs_23, bd_t, if_neg one_ne, rs_x, rs_22, bd_t, nI_1, nI_1, t1]
      · refine ⟨w + 1, y, by omega, Or.inr ⟨by omega, y9⟩, ?_, ?_⟩
        · rw [if_neg y9]
          unfold qX6_rests_115 qX6_rests_117
          rw [nI_1, nI_1]
        · unfold qX7_findRests_78 qX7_findRests_103 qX7_findRests_107 qX7_findRests_125
          rw [if_neg one_ne, rs_x, if_neg (nI_ne0 (by omega) (by omega)), rs_y, rs_23, bd_t, if_neg one_ne, rs_x, rs_22, bd_t, nI_1, nI_1]
theorem rest_row {h m : Hp} {n N a th c d u w f f2 : Nat} {y x3 : Int32} (K : KdO h n) (hc : c < n) (hd : d < n) (h2 : Two n (al n) N (h 0) (h 38) a th noZ) (h35 : m 35 = h 35) (h36 : m 36 = h 36) (h38 : m 38 = h 38) (hu : u < 2) (hw : w < 9) (inv : (w = 0 ∧ y = -9) ∨ (w ≠ 0 ∧ y ≠ -9)) : ∃ w2 y2, w2 ≤ w + 2 ∧ ((w2 = 0 ∧ y2 = -9) ∨ (w2 ≠ 0 ∧ y2 ≠ -9)) ∧ qX6_rests_51 h (f + 1) (nI c) (nI d) x3 (nI w) y (nI u) = qX6_rests_51 h f (nI c) (nI d) x3 (nI w2) y2 (nI (u + 1)) ∧ qX7_findRests_13 (f2 + 1) (rs m (nI w) y) (nI c) (nI d) (nI u) = qX7_findRests_13 f2 (rs m (nI w2) y2) (nI c) (nI d) (nI (u + 1)) := by
  obtain ⟨w1, y1, l1, i1, s1, t1⟩ := rest_step (v := 0) (f := 599) (x3 := x3) K hc hd h2 h35 h36 h38 hu (by omega) (by omega) inv (qX6_rests_51 h f) (qX7_findRests_13 f2)
  obtain ⟨w2, y2, l2, i2, s2, t2⟩ := rest_step (v := 1) (f := 598) (x3 := x3) K hc hd h2 h35 h36 h38 hu (by omega) (by omega) i1 (qX6_rests_51 h f) (qX7_findRests_13 f2)
  refine ⟨w2, y2, by omega, i2, ?_, ?_⟩
  · rw [qX6_rests_51, if_neg (show ¬ (1 : Int32) < nI u from nI_nlt (a := 1) (b := u) (by omega) (by omega)), show (600 : Nat) = 599 + 1 from rfl, show (0 : Int32) = nI 0 from rfl, s1, show (599 : Nat) = 598 + 1 from rfl, s2, show (598 : Nat) = 597 + 1 from rfl, qX6_rests_60, if_pos (show (1 : Int32) < nI (1 + 1) by decide), nI_1]
  · rw [qX7_findRests_13, if_neg (show ¬ (2 : Int32) ≤ nI u from nI_ge (a := u) (b := 2) (by omega) (by omega)), show (600 : Nat) = 599 + 1 from rfl, show (0 : Int32) = nI 0 from rfl, t1, show (599 : Nat) = 598 + 1 from rfl, t2, show (598 : Nat) = 597 + 1 from rfl, qX7_findRests_21, if_pos (show (2 : Int32) ≤ nI (1 + 1) by decide), nI_1]
theorem op_rests {N : Nat} {h : Hp} {g : Gp} (R : Rel N h g) (x y z : Int32) : OpR N g h (qX6_rests h x y z) (fun h => qX7_rests h x y z) := by
  have R0 := R
  obtain ⟨L, n, k, e, s, hT, hK, hP, hA, hS, hE, hg⟩ := R
  obtain ⟨a, th, hP2⟩ := hP
  have hn := hK.1
  have h33 : th0 h 33 4 = nI n := by rw [th0_f (by decide)]; exact hK.2.2.1
  have bad : ∀ r : Int32, qX6_rests h x y z = some r → qX7_rests h x y z = some (r, th0 h) → OpR N g h (qX6_rests h x y z) (fun h => qX7_rests h x y z) := fun r e1 e2 => ⟨r, th0 h, e1, e2, R0.up.same (same_th0 h)⟩
  rcases isChild n hn x with ⟨c, hc, rfl⟩ | hx
  · rcases isChild n hn y with ⟨d, hd, rfl⟩ | hy
    · by_cases hcd : nI c = nI d
      · refine bad (-2) ?_ ?_
        · unfold qX6_rests
          rw [bi1_t (there_C hn hP2.2.1 hc), if_neg one_ne, bi1_t (there_C hn hP2.2.1 hd), if_neg one_ne, if_pos hcd]
        · show bd (th0 h) _ = _
          rw [bd_t, bi1_t (noC_R hn h33 hc), if_pos rfl, bi1_t (noC_R hn h33 hd), if_pos rfl, if_pos hcd]
      · have iz := in_or z 0 1 (by decide) (by decide)
        rw [show (nI 0).toInt64 = 0 by decide, show (nI 1).toInt64 = 1 by decide, show nI 0 = 0 from rfl] at iz
        rcases iz with ⟨i1, i2⟩ | ⟨i1, i2, -, i3, -⟩
        · refine bad (-2) ?_ ?_
          · unfold qX6_rests
            rw [bi1_t (there_C hn hP2.2.1 hc), if_neg one_ne, bi1_t (there_C hn hP2.2.1 hd), if_neg one_ne, if_neg hcd]
            rcases i2 with i2 | ⟨i2, i3⟩
            · rw [if_pos i2]
            · rw [if_neg i2, if_neg (show ¬ z ≤ (1 : Int32) from Int32.not_le.mpr i3)]
          · show bd (th0 h) _ = _
            rw [bd_t, bi1_t (noC_R hn h33 hc), if_pos rfl, bi1_t (noC_R hn h33 hd), if_pos rfl, if_neg hcd, i1, bi1_t rfl, if_pos rfl]
        · obtain ⟨w1, y1, l1, v1, s1, t1⟩ := rest_row (m := th0 h) (u := 0) (w := 0) (y := -9) (x3 := z) (f := 599) (f2 := 599) hK hc hd hP2 (th0_n (by decide)) (th0_n (by decide)) (th0_n (by decide)) (by omega) (by omega) (Or.inl ⟨rfl, rfl⟩)
          obtain ⟨w2, y2, l2, v2, s2, t2⟩ := rest_row (m := th0 h) (u := 1) (x3 := z) (f := 598) (f2 := 598) hK hc hd hP2 (th0_n (by decide)) (th0_n (by decide)) (th0_n (by decide)) (by omega) (by omega) v1
          have eF : qX7_findRests (th0 h) (nI c) (nI d) = some (rs (th0 h) (nI w2) y2) := by
            unfold qX7_findRests
            have q : su (su (th0 h) 33 (upd (th0 h 33) 22 0)) 33 (upd (su (th0 h) 33 (upd (th0 h 33) 22 0) 33) 23 (-9)) = rs (th0 h) (nI 0) (-9) := by
              unfold rs
              rw [su_same, su_su]
              rfl
            rw [bd_t, bd_t, q, show (600 : Nat) = 599 + 1 from rfl, show (0 : Int32) = nI 0 from rfl, t1, show (599 : Nat) = 598 + 1 from rfl, t2, show (598 : Nat) = 597 + 1 from rfl, qX7_findRests_13, if_pos (show (2 : Int32) ≤ nI (1 + 1) by decide)]
          have eC : qX6_rests h (nI c) (nI d) z = if z = 0 then some (nI w2) else some y2 := by
            unfold qX6_rests
            rw [bi1_t (there_C hn hP2.2.1 hc), if_neg one_ne, bi1_t (there_C hn hP2.2.1 hd), if_neg one_ne, if_neg hcd, if_neg i2, if_pos (show z ≤ (1 : Int32) from i3), show (600 : Nat) = 599 + 1 from rfl, show (0 : Int32) = nI 0 from rfl, s1, show (599 : Nat) = 598 + 1 from rfl, s2, show (598 : Nat) = 597 + 1 from rfl, qX6_rests_51, if_pos (show (1 : Int32) < nI (1 + 1) by decide)]
            rfl
          have eR : qX7_rests h (nI c) (nI d) z = if z = 0 then some (nI w2, rs (th0 h) (nI w2) y2) else some (y2, rs (th0 h) (nI w2) y2) := by
            show bd (th0 h) _ = _
            rw [bd_t, bi1_t (noC_R hn h33 hc), if_pos rfl, bi1_t (noC_R hn h33 hd), if_pos rfl, if_neg hcd, i1, bi1_t rfl, if_neg one_ne, bi1_t eF, rs_x, rs_y]
          have rel : Rel (N + 1) (rs (th0 h) (nI w2) y2) g := by
            have q1 := (same_th0 h).fld (j := 22) (by decide) (nI w2)
            have q2 := q1.fld (j := 23) (by decide) y2
            rw [su_same, su_su] at q2
            exact R0.up.same q2
          by_cases hz : z = 0
          · rw [if_pos hz] at eC eR
            exact ⟨_, _, eC, eR, rel⟩
          · rw [if_neg hz] at eC eR
            exact ⟨_, _, eC, eR, rel⟩
    · refine bad (-1) ?_ ?_
      · unfold qX6_rests
        rw [bi1_t (there_C hn hP2.2.1 hc), if_neg one_ne, bi1_t (there_Cn hn hP2.2.1 hy), if_pos rfl]
      · show bd (th0 h) _ = _
        rw [bd_t, bi1_t (noC_R hn h33 hc), if_pos rfl, bi1_t (noC_Rn hn h33 hy), if_neg one_ne]
  · refine bad (-1) ?_ ?_
    · unfold qX6_rests
      rw [bi1_t (there_Cn hn hP2.2.1 hx), if_pos rfl]
    · show bd (th0 h) _ = _
      rw [bd_t, bi1_t (noC_Rn hn h33 hx), if_neg one_ne]
