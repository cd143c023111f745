theorem bz_0 : bz 0 = true := by decide
theorem bz_1 : bz 1 = true := by decide
/-! what is done, if it can be -/
theorem d164 {m h : Hp} {n v : Nat} {T : Row} (hv : v < 36) : qX7_does_164 (sc m h n T) (nI v) = some (0, sc m h n T) := by
  unfold qX7_does_164 qX7_does_165
  rw [if_pos rfl, pl0, ck_t (in36 (by omega)), ck_t (in36 (by omega)), sc_39, upd_i, sc_su, bd_t, ck_t bz_0]
theorem d49 {m h : Hp} {n : Nat} {T : Row} {x : Int32} : qX7_does_49 (sc m h n T) x = some (0, sc m h n T) := by
  unfold qX7_does_49 qX7_does_50
  rw [if_pos rfl, sc_39, upd_i, sc_su, bd_t, ck_t bz_0]
theorem f54 {R22 R23 P : Row} {u w : Int32} (h : ¬ u = 3) : qX2_doIfItCanBe_54 R22 R23 P u w = some (0, P) := by
  unfold qX2_doIfItCanBe_54
  rw [if_neg h]
theorem two_up {n t B th a : Nat} {P T : Row} {Z : Nat → Bool} (h : Two n t B P T a th Z) : Two n t (B + 1) P T a th Z := h.up
theorem do_call {h : Hp} {n B a th v : Nat} {P T : Row} (K : KdO h n) (hv : v ≤ 9) (h2 : Two n (al n) B P T a th noZ) : ∃ r P1 T1, (r = 0 ∨ r = 1) ∧ qX2_canBeCalled P (nI v) = some r ∧ (r = 1 → qX2_callAway P (nI v) = some P1) ∧ (r = 0 → P1 = P) ∧ (∀ m, Rk h m → qX7_does (sc m h n T) (nI (20 + v)) = some (r, sc m h n T1)) ∧ Two n (al n) B P1 T1 a th noZ := by
  have hn := K.1
  have h30 := h2.2.2.2.1
  have ha := h2.2.2.1
  have hT30 : T 30 = nI a := by rw [← h2.1.1 30 (by omega) (by omega)]; exact h30
  have hx1 : nI (20 + v) - nI (20 + v) / (10 : Int32) * (10 : Int32) = nI v := by
    have q := pk_rem (a := 20 + v) (d := 10) (by omega) (by decide) (by decide)
    rw [show (20 + v) % 10 = v by omega] at q
    exact q
  have hx2 : nI (20 + v) / (10 : Int32) = 2 := by
    have q := pk_div (a := 20 + v) (d := 10) (by omega) (by decide) (by decide)
    rw [show (20 + v) / 10 = 2 by omega] at q
    exact q
  have nx : ¬ nI (20 + v) = 0 := nI_ne0 (by omega) (by omega)
  by_cases hvn : v < n
  · have hv5 : v < 5 := by omega
    obtain ⟨w, hw9, ew⟩ := h2.2.2.2.2.2.2.2.2.2.2.1 v hvn
    have hTv : T v = P v := (h2.1.1 v (by omega) (by omega)).symm
    by_cases hr : a.testBit v = true
    · refine ⟨0, P, T, Or.inl rfl, ?_, fun q => absurd q (by decide), fun _ => rfl, fun m hm => ?_, h2⟩
      · unfold qX2_canBeCalled
        rw [bi1_t (there_C hn h2.2.1 hvn), if_neg one_ne, brC h30 ha hv5, if_pos hr, if_neg one_ne]
      · unfold qX7_does
        rw [if_neg nx, hx1, hx2, if_neg (show ¬ (2 : Int32) = 3 by decide), sc_33, bi1_t (noC_R hn (r33_4 K) hvn), if_pos rfl, if_neg (show ¬ (2 : Int32) = 1 by decide)]
        unfold qX7_does_130
        rw [if_pos rfl, sc_39, hT30, bhR ha hv5, if_pos hr, if_neg one_ne]
        exact d164 (by omega)
    · by_cases hz : w = 0
      · have hz2 : P v ≤ 0 := by rw [ew, hz]; decide
        refine ⟨0, P, T, Or.inl rfl, ?_, fun q => absurd q (by decide), fun _ => rfl, fun m hm => ?_, h2⟩
        · unfold qX2_canBeCalled
          rw [bi1_t (there_C hn h2.2.1 hvn), if_neg one_ne, brC h30 ha hv5, if_neg hr, if_pos rfl, ck_t (in5 hv5), cl_nI (by omega), Nat.zero_add, if_pos hz2]
        · unfold qX7_does
          rw [if_neg nx, hx1, hx2, if_neg (show ¬ (2 : Int32) = 3 by decide), sc_33, bi1_t (noC_R hn (r33_4 K) hvn), if_pos rfl, if_neg (show ¬ (2 : Int32) = 1 by decide)]
          unfold qX7_does_130
          rw [if_pos rfl, sc_39, hT30, bhR ha hv5, if_neg hr, if_pos rfl, pl0, ck_t (in36 (by omega)), cl_nI (by omega), Nat.zero_add, hTv, if_pos hz2]
          exact d164 (by omega)
      · have hnz : ¬ P v ≤ 0 := by rw [ew]; exact nI_nle (by omega) (by omega)
        refine ⟨1, upd P v 0, upd T v 0, Or.inr rfl, ?_, fun _ => ?_, fun q => absurd q (by decide), fun m hm => ?_, h2.col (Or.inl (by omega)) (fun _ => ⟨0, by omega, rfl⟩) (fun d _ hd => absurd hd (by omega))⟩
        · unfold qX2_canBeCalled
          rw [bi1_t (there_C hn h2.2.1 hvn), if_neg one_ne, brC h30 ha hv5, if_neg hr, if_pos rfl, ck_t (in5 hv5), cl_nI (by omega), Nat.zero_add, if_neg hnz]
        · unfold qX2_callAway
          rw [ck_t (in5 hv5), bd_t, cl_nI (by omega), Nat.zero_add]
        · unfold qX7_does
          rw [if_neg nx, hx1, hx2, if_neg (show ¬ (2 : Int32) = 3 by decide), sc_33, bi1_t (noC_R hn (r33_4 K) hvn), if_pos rfl, if_neg (show ¬ (2 : Int32) = 1 by decide)]
          unfold qX7_does_130 qX7_does_165
          rw [if_pos rfl, sc_39, hT30, bhR ha hv5, if_neg hr, if_pos rfl, pl0, ck_t (in36 (by omega)), cl_nI (by omega), Nat.zero_add, hTv, if_neg hnz, if_neg one_ne, ck_t (in36 (by omega)), bd_t, sc_su, ck_t bz_1]
  · have hx : nI v < 0 ∨ nI n ≤ nI v := Or.inr (nI_le (by omega) (by omega))
    refine ⟨0, P, T, Or.inl rfl, ?_, fun q => absurd q (by decide), fun _ => rfl, fun m hm => ?_, h2⟩
    · unfold qX2_canBeCalled
      rw [bi1_t (there_Cn hn h2.2.1 hx), if_pos rfl]
    · unfold qX7_does
      rw [if_neg nx, hx1, hx2, if_neg (show ¬ (2 : Int32) = 3 by decide), sc_33, bi1_t (noC_Rn hn (r33_4 K) hx), if_neg one_ne]
theorem do_eq {h : Hp} {n B a th x : Nat} {P T : Row} (K : KdO h n) (hB : B < 2 ^ 30) (hx : x < 100) (h2 : Two n (al n) B P T a th noZ) : ∃ r P1 T1 a1, (r = 0 ∨ r = 1) ∧ qX2_doIfItCanBe (h 22) (h 23) P (nI (x / 10)) (nI (x % 10)) = some (r, P1) ∧ (∀ m, Rk h m → qX7_does (sc m h n T) (nI x) = some (r, sc m h n T1)) ∧ Two n (al n) (B + 1) P1 T1 a1 th noZ := by
  have hn := K.1
  have h30 := h2.2.2.2.1
  have ha := h2.2.2.1
  have hT30 : T 30 = nI a := by rw [← h2.1.1 30 (by omega) (by omega)]; exact h30
  have hx1 : nI x - nI x / (10 : Int32) * (10 : Int32) = nI (x % 10) := pk_rem (a := x) (d := 10) (by omega) (by decide) (by decide)
  have hx2 : nI x / (10 : Int32) = nI (x / 10) := pk_div (a := x) (d := 10) (by omega) (by decide) (by decide)
  by_cases x0 : x = 0
  · subst x0
    obtain ⟨P1, T1, a1, e1, e2, h3⟩ := min_step K hB h2
    refine ⟨1, P1, T1, a1, Or.inr rfl, ?_, fun m hm => ?_, h3⟩
    · unfold qX2_doIfItCanBe
      rw [if_pos (show nI (0 / 10) = (0 : Int32) from rfl), if_pos (show nI (0 % 10) = (0 : Int32) from rfl), bi1_t e1]
    · unfold qX7_does
      rw [if_pos (show nI 0 = (0 : Int32) from rfl), sc_39, bi1_t (e2 m T hm), bd_t, sc_su]
  · have nx : ¬ nI x = 0 := nI_ne0 (by omega) (by omega)
    have c14 : qX2_doIfItCanBe (h 22) (h 23) P (nI (x / 10)) (nI (x % 10)) = qX2_doIfItCanBe_14 (h 22) (h 23) P (nI (x / 10)) (nI (x % 10)) := by
      unfold qX2_doIfItCanBe
      by_cases u0 : x / 10 = 0
      · rw [u0, if_pos (show nI 0 = (0 : Int32) from rfl), if_neg (nI_ne0 (by omega) (by omega))]
      · rw [if_neg (nI_ne0 (by omega) (by omega))]
    rw [c14]
    have hv9 : x % 10 ≤ 9 := by omega
    have hu9 : x / 10 ≤ 9 := by omega
    by_cases u2 : x / 10 = 2
    · obtain ⟨r, P1, T1, hr, e1, e2, e3, e4, h3⟩ := do_call (v := x % 10) K hv9 h2
      rw [show 20 + x % 10 = x by omega] at e4
      refine ⟨r, P1, T1, a, hr, ?_, e4, two_up h3⟩
      unfold qX2_doIfItCanBe_14 qX2_doIfItCanBe_34
      rw [u2, if_neg (show ¬ nI 2 = (1 : Int32) by decide), if_pos (show nI 2 = (2 : Int32) from rfl), bi1_t e1]
      rcases hr with rfl | rfl
      · rw [if_pos rfl, f54 (by decide), e3 rfl]
      · rw [if_neg one_ne, bi1_t (e2 rfl)]
    generalize hu : x / 10 = u at *
    generalize hv : x % 10 = v at *
    have eq : ∀ k, k < 10 → u ≠ k → ¬ nI u = nI k := fun k hk hne q => hne ((nI_eq (by omega) (by omega)).mp q)
    by_cases u3 : u = 3
    · subst u3
      have c54 : qX2_doIfItCanBe_14 (h 22) (h 23) P (nI 3) (nI v) = qX2_doIfItCanBe_54 (h 22) (h 23) P (nI 3) (nI v) := by
        unfold qX2_doIfItCanBe_14 qX2_doIfItCanBe_34
        rw [if_neg (show ¬ nI 3 = (1 : Int32) by decide), if_neg (show ¬ nI 3 = (2 : Int32) by decide)]
      rw [c54]
      have h32 := h2.1.1 32 (by omega) (by omega)
      by_cases v4 : v < 4
      · have n0 : ¬ nI v < 0 := nI_pos (by omega)
        have n4 : ¬ (4 : Int32) ≤ nI v := nI_ge (a := v) (b := 4) v4 (by decide)
        by_cases ev : nI v = P 32
        · refine ⟨0, P, T, a, Or.inl rfl, ?_, fun m hm => ?_, two_up h2⟩
          · unfold qX2_doIfItCanBe_54 qX6_isRule
            rw [if_pos (show nI 3 = (3 : Int32) from rfl), if_neg n0, if_neg n4, bi1_t rfl, if_neg one_ne, if_pos ev]
          · unfold qX7_does
            rw [if_neg nx, hx1, hx2, if_pos (show nI 3 = (3 : Int32) from rfl), if_neg n4, sc_39, ← h32, if_pos ev.symm]
            exact d49
        · refine ⟨1, upd P 32 (nI v), upd T 32 (nI v), a, Or.inr rfl, ?_, fun m hm => ?_, two_up (h2.rul hn v4)⟩
          · unfold qX2_doIfItCanBe_54 qX6_isRule qX2_setRule
            rw [if_pos (show nI 3 = (3 : Int32) from rfl), if_neg n0, if_neg n4, bi1_t rfl, if_neg one_ne, if_neg ev, bd_t, bd_t, bi1_t rfl]
            have q := upd_i (upd P 32 (nI v)) 33
            rw [upd_n _ (by decide)] at q
            rw [q]
          · unfold qX7_does
            rw [if_neg nx, hx1, hx2, if_pos (show nI 3 = (3 : Int32) from rfl), if_neg n4, sc_39, ← h32, if_neg (fun q => ev q.symm)]
            unfold qX7_does_50
            rw [if_neg one_ne, sc_39, sc_su, bd_t, ck_t bz_1]
      · have n0 : ¬ nI v < 0 := nI_pos (by omega)
        have n4 : (4 : Int32) ≤ nI v := nI_le (a := 4) (b := v) (by omega) (by omega)
        refine ⟨0, P, T, a, Or.inl rfl, ?_, fun m hm => ?_, two_up h2⟩
        · unfold qX2_doIfItCanBe_54 qX6_isRule
          rw [if_pos (show nI 3 = (3 : Int32) from rfl), if_neg n0, if_pos n4, bi1_t rfl, if_pos rfl]
        · unfold qX7_does
          rw [if_neg nx, hx1, hx2, if_pos (show nI 3 = (3 : Int32) from rfl), if_pos n4]
          exact d49
    · have n3 : ¬ nI u = (3 : Int32) := eq 3 (by decide) u3
      have n2 : ¬ nI u = (2 : Int32) := eq 2 (by decide) u2
      have c34 : qX2_doIfItCanBe_34 (h 22) (h 23) P (nI u) (nI v) = some (0, P) := by
        unfold qX2_doIfItCanBe_34
        rw [if_neg n2, f54 n3]
      by_cases hvn : v < n
      · have hv5 : v < 5 := by omega
        have d130 : ∀ m, Rk h m → qX7_does_130 (sc m h n T) (nI u) (nI v) = some (0, sc m h n T) := fun m hm => by
          unfold qX7_does_130
          rw [if_neg n2]
          exact d164 (by omega)
        by_cases u1 : u = 1
        · subst u1
          by_cases hr : a.testBit v = true
          · refine ⟨1, _, _, _, Or.inr rfl, ?_, fun m hm => ?_, two_up ((h2.howl hn hv5 (P (25 + v) + 1)).off hn hv5)⟩
            · unfold qX2_doIfItCanBe_14 qX2_canBePushed
              rw [if_pos (show nI 1 = (1 : Int32) from rfl), bi1_t (there_C hn h2.2.1 hvn), if_neg one_ne, brC h30 ha hv5, if_pos hr, if_neg one_ne, bi1_t rfl, if_neg one_ne, bi1_t (push_C h30 ha hv5)]
            · unfold qX7_does
              rw [if_neg nx, hx1, hx2, if_neg n3, sc_33, bi1_t (noC_R hn (r33_4 K) hvn), if_pos rfl, if_pos (show nI 1 = (1 : Int32) from rfl), sc_39, hT30, bhR ha hv5, if_pos hr, if_neg one_ne, bi1_t (off_R hT30 ha hv5), bd_t, sc_su, pl25, ck_t (in36 (by omega)), ck_t (in36 (by omega)), sc_39, cl_nI (by omega), off_at (by omega) (by omega), bd_t, sc_su, ← off_swap hv5, h2.1.1 (25 + v) (by omega) (by omega)]
          · refine ⟨0, P, T, a, Or.inl rfl, ?_, fun m hm => ?_, two_up h2⟩
            · unfold qX2_doIfItCanBe_14 qX2_canBePushed
              rw [if_pos (show nI 1 = (1 : Int32) from rfl), bi1_t (there_C hn h2.2.1 hvn), if_neg one_ne, brC h30 ha hv5, if_neg hr, if_pos rfl, bi1_t rfl, if_pos rfl, c34]
            · unfold qX7_does
              rw [if_neg nx, hx1, hx2, if_neg n3, sc_33, bi1_t (noC_R hn (r33_4 K) hvn), if_pos rfl, if_pos (show nI 1 = (1 : Int32) from rfl), sc_39, hT30, bhR ha hv5, if_neg hr, if_pos rfl]
              exact d130 m hm
        · have n1 : ¬ nI u = (1 : Int32) := eq 1 (by decide) u1
          refine ⟨0, P, T, a, Or.inl rfl, ?_, fun m hm => ?_, two_up h2⟩
          · unfold qX2_doIfItCanBe_14
            rw [if_neg n1, c34]
          · unfold qX7_does
            rw [if_neg nx, hx1, hx2, if_neg n3, sc_33, bi1_t (noC_R hn (r33_4 K) hvn), if_pos rfl, if_neg n1]
            exact d130 m hm
      · have hxv : nI v < 0 ∨ nI n ≤ nI v := Or.inr (nI_le (by omega) (by omega))
        refine ⟨0, P, T, a, Or.inl rfl, ?_, fun m hm => ?_, two_up h2⟩
        · unfold qX2_doIfItCanBe_14 qX2_canBePushed
          by_cases n1 : nI u = (1 : Int32)
          · rw [if_pos n1, bi1_t (there_Cn hn h2.2.1 hxv), if_pos rfl, bi1_t rfl, if_pos rfl, c34]
          · rw [if_neg n1, c34]
        · unfold qX7_does
          rw [if_neg nx, hx1, hx2, if_neg n3, sc_33, bi1_t (noC_Rn hn (r33_4 K) hxv), if_neg one_ne]
