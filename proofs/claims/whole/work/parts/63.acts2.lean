theorem noZ_of {Z : Nat → Bool} (h : ∀ c, Z c = true → noZ c = true) : Z = noZ := by
  funext c
  cases hz : Z c with
  | false => rfl
  | true => have h2 := h c hz; exact Bool.noConfusion h2
theorem bkN_new {k j : Nat} {pg bk : Row} (hk : k ≤ 14) (hj : j < 36) : bkN k pg bk (36 * (nx14 k - 1 - 0) + j) = pg j := by
  unfold bkN nx14
  by_cases e : k = 14
  · rw [if_pos e, if_pos e]
    exact pst_in (o := 36 * 13) hj
  · rw [if_neg e, if_neg e, show 36 * (k + 1 - 1 - 0) + j = 36 * k + j by omega]
    exact pst_in hj
theorem bkN_old {k i j : Nat} {pg bk : Row} (hk : k ≤ 14) (hi : i + 1 < nx14 k) (hj : j < 36) : bkN k pg bk (36 * (nx14 k - 1 - (i + 1)) + j) = bk (36 * (k - 1 - i) + j) := by
  by_cases e : k = 14
  · subst e
    have hi2 : i + 1 < 14 := hi
    show pst 36 (36 * 13) pg (pst 468 0 (fun j => bk (j + 36)) bk) (36 * (14 - 1 - (i + 1)) + j) = _
    rw [pst_out (by omega)]
    unfold pst
    rw [if_pos (by omega)]
    show bk (36 * (14 - 1 - (i + 1)) + j - 0 + 36) = _
    rw [show 36 * (14 - 1 - (i + 1)) + j - 0 + 36 = 36 * (14 - 1 - i) + j by omega]
  · unfold bkN nx14 at *
    rw [if_neg e] at hi
    rw [if_neg e, if_neg e, pst_out (by omega), show 36 * (k + 1 - 1 - (i + 1)) + j = 36 * (k - 1 - i) + j by omega]
theorem act_rel {N L n k e s : Nat} {h m : Hp} {g : Gp} {P T : Row} (hT : TxO h L) (hK : KdO h n) (hP : PgO n N (h 0) (h 38)) (hA : AcO h n N k e) (hS : SlO h n N) (hE : SeO h s) (hg : g 18 = g 33) (hPT : PgO n (N + 1) P T) (hm : Same (su (remH h k e) 0 P) m) : Rel (N + 1) (su (su (su m 40 (bkN k (m 38) (m 40))) 33 (upd (m 33) 15 (nI (nx14 k)))) 38 T) g := by
  obtain ⟨hk, he, a1, a2, a3, a4⟩ := hA
  have mr : ∀ r, (r ≠ 1 ∧ r ≠ 32 ∧ r ≠ 33 ∧ r ≠ 37 ∧ r ≠ 39 ∧ r ≠ 45) → m r = su (remH h k e) 0 P r := fun r hr => hm.1 r hr.1 hr.2.1 hr.2.2.1 hr.2.2.2.1 hr.2.2.2.2.1 hr.2.2.2.2.2
  have mo : ∀ r, (r ≠ 1 ∧ r ≠ 32 ∧ r ≠ 33 ∧ r ≠ 37 ∧ r ≠ 39 ∧ r ≠ 45) → r ≠ 0 → r ≠ 24 → r ≠ 2 + e → m r = h r := fun r hr h0 h24 h2 => by
    rw [mr r hr, su_ne h0]
    unfold remH
    rw [su_ne h24, su_ne h2]
  have m33 : ∀ j, j = 2 ∨ j = 4 ∨ j = 18 → m 33 j = h 33 j := by
    intro j hj
    have e33 : su (remH h k e) 0 P 33 = h 33 := by
      rw [su_ne (by decide)]
      unfold remH
      rw [su_ne (by decide), su_ne (by omega)]
    have := hm.2
    rw [e33] at this
    rcases hj with rfl | rfl | rfl
    · exact this.1
    · exact this.2.1
    · exact this.2.2.2
  generalize hF : su (su (su m 40 (bkN k (m 38) (m 40))) 33 (upd (m 33) 15 (nI (nx14 k)))) 38 T = F
  have Fr : ∀ r, r ≠ 38 → r ≠ 33 → r ≠ 40 → F r = m r := fun r q1 q2 q3 => by rw [← hF, su_ne q1, su_ne q2, su_ne q3]
  have Fo : ∀ r, (r ≠ 1 ∧ r ≠ 32 ∧ r ≠ 33 ∧ r ≠ 37 ∧ r ≠ 39 ∧ r ≠ 45) → r ≠ 0 → r ≠ 24 → r ≠ 2 + e → r ≠ 38 → r ≠ 40 → F r = h r := fun r hr h0 h24 h2 h38 h40 => by rw [Fr r h38 hr.2.2.1 h40, mo r hr h0 h24 h2]
  have F33 : ∀ j, j = 2 ∨ j = 4 ∨ j = 18 → F 33 j = h 33 j := fun j hj => by rw [← hF, su_ne (by decide), su_same, upd_n _ (by omega)]; exact m33 j hj
  have F15 : F 33 15 = nI (nx14 k) := by rw [← hF, su_ne (by decide), su_same, upd_s]
  have F0 : F 0 = P := by rw [Fr 0 (by decide) (by decide) (by decide), mr 0 (by decide), su_same]
  have F38 : F 38 = T := by rw [← hF, su_same]
  have F24 : F 24 = upd (upd (h 24) 2 (nI ((e + 1) % 14))) 1 (nI (nx14 k)) := by
    rw [Fr 24 (by decide) (by decide) (by decide), mr 24 (by decide), su_ne (by decide)]
    unfold remH
    rw [su_same]
  have F2e : F (2 + e) = cpy (h 0) (h (2 + e)) := by
    rw [Fr (2 + e) (by omega) (by omega) (by omega), mr (2 + e) (by omega), su_ne (by omega)]
    unfold remH
    rw [su_ne (by omega), su_same]
  have F40 : F 40 = bkN k (h 38) (h 40) := by
    rw [← hF, su_ne (by decide), su_ne (by decide), su_same, mo 38 (by decide) (by decide) (by decide) (by omega), mo 40 (by decide) (by decide) (by decide) (by omega)]
  have hn := hK.1
  have hkn : nx14 k ≤ 14 := by unfold nx14; split <;> omega
  have hkn1 : nx14 k ≤ k + 1 := by unfold nx14; split <;> omega
  refine ⟨L, n, nx14 k, (e + 1) % 14, s, hT.of (Fo 19 (by decide) (by decide) (by decide) (by omega) (by decide) (by decide)) (Fo 20 (by decide) (by decide) (by decide) (by omega) (by decide) (by decide)) (Fo 34 (by decide) (by decide) (by decide) (by omega) (by decide) (by decide)) (F33 2 (by decide)), hK.of (Fo 21 (by decide) (by decide) (by decide) (by omega) (by decide) (by decide)) (Fo 22 (by decide) (by decide) (by decide) (by omega) (by decide) (by decide)) (Fo 23 (by decide) (by decide) (by decide) (by omega) (by decide) (by decide)) (Fo 35 (by decide) (by decide) (by decide) (by omega) (by decide) (by decide)) (Fo 36 (by decide) (by decide) (by decide) (by omega) (by decide) (by decide)) (F33 4 (by decide)), by rw [F0, F38]; exact hPT, ⟨hkn, Nat.mod_lt _ (by decide), by rw [F24, upd_s], F15, by rw [F24, upd_n _ (by decide), upd_s], fun i hi => ?_⟩, hS.up.of (Fo 28 (by decide) (by decide) (by decide) (by omega) (by decide) (by decide)) (Fo 41 (by decide) (by decide) (by decide) (by omega) (by decide) (by decide)) (Fo 42 (by decide) (by decide) (by decide) (by omega) (by decide) (by decide)) (fun r h1 h2 => Fo r (by omega) (by omega) (by omega) (by omega) (by omega) (by omega)), hE.of (Fo 29 (by decide) (by decide) (by decide) (by omega) (by decide) (by decide)) (Fo 30 (by decide) (by decide) (by decide) (by omega) (by decide) (by decide)) (Fo 31 (by decide) (by decide) (by decide) (by omega) (by decide) (by decide)) (Fo 43 (by decide) (by decide) (by decide) (by omega) (by decide) (by decide)) (Fo 44 (by decide) (by decide) (by decide) (by omega) (by decide) (by decide)) (F33 18 (by decide)), hg⟩
  cases i with
  | zero =>
    rw [show 2 + ((e + 1) % 14 + 13 - 0) % 14 = 2 + e by omega, F2e, F40]
    refine hP.up.cong hn (fun j hj => by unfold cpy; rw [if_pos hj]) (fun j hj => bkN_new hk hj)
  | succ i =>
    have hr : (e + 13 - i) % 14 ≠ e := by omega
    rw [show 2 + ((e + 1) % 14 + 13 - (i + 1)) % 14 = 2 + (e + 13 - i) % 14 by omega, Fo _ (by omega) (by omega) (by omega) (by omega) (by omega) (by omega), F40]
    refine (a4 i (by omega)).up.cong hn (fun j _ => rfl) (fun j hj => bkN_old hk hi hj)
theorem op_minute {N : Nat} {h : Hp} {g : Gp} (hN : N < 2 ^ 20) (R : Rel N h g) : Op N g (qX6_minute h) (fun h => qX7_minute h) := by
  obtain ⟨L, n, k, e, s, hT, hK, hP, hA, hS, hE, hg⟩ := R
  obtain ⟨a, th, hP2⟩ := id hP
  have hA2 := hA
  obtain ⟨hk, he, a1, a2, a3, a4⟩ := hA2
  have q0 : remH h k e 0 = h 0 := by unfold remH; rw [su_ne (by decide), su_ne (by omega)]
  have q22 : remH h k e 22 = h 22 := by unfold remH; rw [su_ne (by decide), su_ne (by omega)]
  have q23 : remH h k e 23 = h 23 := by unfold remH; rw [su_ne (by decide), su_ne (by omega)]
  have qr : ∀ r, r ≠ 24 → r ≠ 2 + e → remH h k e r = h r := fun r h1 h2 => by unfold remH; rw [su_ne h1, su_ne h2]
  have X : Cxt n (al n) (h 22) (h 23) (upd (upd (upd (h 33) 0 0) 25 (nI (al n))) 15 (nI (nx14 k))) (h 35) (h 36) := cxt_of hK (by rw [upd_n _ (by decide), upd_n _ (by decide), upd_n _ (by decide)]; exact hK.2.2.1) (by rw [upd_n _ (by decide), upd_s])
  obtain ⟨P1, T1, a5, Z5, e1, e2, h5, hz5⟩ := minute_eq X (by omega) hP2
  rw [noZ_of hz5] at h5
  have eC : qX6_minute h = some (P1 30, su (remH h k e) 0 P1) := by
    unfold qX6_minute
    rw [bi1_t (rem_C hk he a1 a3), q22, q23, q0, bi1_t e1, bd_t, su_same]
  have c33 : th0 (su (remH h k e) 0 P1) 33 = upd (h 33) 0 0 := by rw [th0_33, su_ne (by decide), qr 33 (by decide) (by omega)]
  have hm : Same (su (remH h k e) 0 P1) (su (th0 (su (remH h k e) 0 P1)) 33 (upd (th0 (su (remH h k e) 0 P1) 33) 25 (nI (al n)))) := (same_th0 _).fld (by decide) _
  refine ⟨P1 30, su (remH h k e) 0 P1, _, eC, ?_, act_rel hT hK hP hA hS hE hg ⟨a5, th, h5⟩ hm⟩
  show bd (th0 (su (remH h k e) 0 P1)) _ = _
  rw [bd_t, bi1_t (all_R hK.1 (by rw [c33, upd_n _ (by decide)]; exact hK.2.2.1)), bd_t, bi1_t (note_R hk (by rw [su_same, c33, upd_n _ (by decide), upd_n _ (by decide)]; exact a2))]
  generalize hq : su (th0 (su (remH h k e) 0 P1)) 33 (upd (th0 (su (remH h k e) 0 P1) 33) 25 (nI (al n))) = m
  have mq : ∀ r, r ≠ 33 → r ≠ 0 → r ≠ 24 → r ≠ 2 + e → m r = h r := fun r h1 h2 h3 h4 => by rw [← hq, su_ne h1, th0_n h1, su_ne h2, qr r h3 h4]
  have m33 : m 33 = upd (upd (h 33) 0 0) 25 (nI (al n)) := by rw [← hq, su_same, c33]
  rw [su_same, su_ne (show (35 : Nat) ≠ 33 by decide), su_ne (show (35 : Nat) ≠ 40 by decide), su_ne (show (36 : Nat) ≠ 33 by decide), su_ne (show (36 : Nat) ≠ 40 by decide), su_ne (show (38 : Nat) ≠ 33 by decide), su_ne (show (38 : Nat) ≠ 40 by decide), m33, mq 35 (by decide) (by decide) (by decide) (by omega), mq 36 (by decide) (by decide) (by decide) (by omega), mq 38 (by decide) (by decide) (by decide) (by omega), bi1_t e2, bd_t, su_same, h5.1.1 30 (by omega) (by omega)]
