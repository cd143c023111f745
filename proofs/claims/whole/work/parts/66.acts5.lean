/-! putting a thing there or taking it away -/
def lv (m : Nat) : Nat → Nat → Nat → Row → Nat × Row
  | 0, _, a, P => (a, P)
  | d + 1, k, a, P => if a.testBit k = true then (if m.testBit k = true then lv m d (k + 1) a P else lv m d (k + 1) (clr a k) (offP a k P)) else lv m d (k + 1) a P
theorem leave_loop {m : Nat} (hm : m < 32) : ∀ (d f k a : Nat) (P : Row), k + d = 5 → a < 32 → P 30 = nI a → qX2_leaveRiding_2 (d + 1 + f) P (nI m) (nI k) = some (lv m d k a P).2 := by
  intro d
  induction d with
  | zero =>
    intro f k a P hk ha h30
    rw [show 0 + 1 + f = f + 1 by omega, qX2_leaveRiding_2, if_pos (le5 (by omega) (by omega))]
    rfl
  | succ d ih =>
    intro f k a P hk ha h30
    have hk5 : k < 5 := by omega
    rw [show d + 1 + 1 + f = (d + 1 + f) + 1 by omega, qX2_leaveRiding_2, if_neg (nle5 hk5), brC h30 ha hk5, lv]
    by_cases hr : a.testBit k = true
    · rw [if_pos hr, if_pos hr, if_neg one_ne, bhC hm hk5]
      by_cases hs : m.testBit k = true
      · rw [if_pos hs, if_pos hs, if_neg one_ne]
        unfold qX2_leaveRiding_28
        rw [nI_1]
        exact ih f (k + 1) a P (by omega) ha h30
      · rw [if_neg hs, if_neg hs, if_pos rfl, bi1_t (off_C h30 ha hk5)]
        unfold qX2_leaveRiding_28
        rw [nI_1]
        exact ih f (k + 1) (clr a k) _ (by omega) (clr_lt ha hk5) (off_30 hk5)
    · rw [if_neg hr, if_neg hr, if_pos rfl]
      unfold qX2_leaveRiding_28
      rw [nI_1]
      exact ih f (k + 1) a P (by omega) ha h30
theorem leave_C {m a : Nat} {P : Row} (hm : m < 32) (ha : a < 32) (h30 : P 30 = nI a) : qX2_leaveRiding P (nI m) = some (lv m 5 0 a P).2 := by
  unfold qX2_leaveRiding
  rw [show (600 : Nat) = 5 + 1 + 594 from rfl, show (0 : Int32) = nI 0 from rfl]
  exact leave_loop hm 5 594 0 a P (by omega) ha h30
def ptd (t2 : Nat) : Nat → Nat → Row → Nat × Row
  | 0, a, P => (a, P)
  | d + 1, a, P => if a.testBit d = true then (if pop a ≤ t2 then ptd t2 d a P else ptd t2 d (clr a d) (offP a d P)) else ptd t2 d a P
theorem pop_5 {a : Nat} (ha : a < 32) : pop a ≤ 5 := by
  have w : ∀ a : Fin 32, pop a.val ≤ 5 := by decide +kernel
  exact w ⟨a, ha⟩
theorem m1_0 : ∀ d : Fin 6, nI (d.val + 1) + (-1 : Int32) = nI d.val := by decide +kernel
theorem put_loop {t2 : Nat} (ht : t2 < 10) : ∀ (d f a : Nat) (h : Hp), d ≤ 5 → a < 32 → h 38 30 = nI a → h 38 34 = nI t2 → qX7_put_27 (d + 1 + f) h (nI d + (-1)) = some (nI t2, su h 38 (ptd t2 d a (h 38)).2) := by
  intro d
  induction d with
  | zero =>
    intro f a h hd ha h30 h34
    rw [show 0 + 1 + f = f + 1 by omega, qX7_put_27, if_pos (show nI 0 + (-1 : Int32) < 0 by decide), h34, ptd, su_self]
  | succ d ih =>
    intro f a h hd ha h30 h34
    have hd5 : d < 5 := by omega
    rw [show d + 1 + 1 + f = (d + 1 + f) + 1 by omega, m1_0 ⟨d, by omega⟩, qX7_put_27, if_neg (nI_pos (show d < 2 ^ 31 by omega)), h30, bhR ha hd5, ptd]
    by_cases hr : a.testBit d = true
    · rw [if_pos hr, if_pos hr, if_neg one_ne, bi1_t (bc_R ha), h34]
      by_cases hs : pop a ≤ t2
      · rw [if_pos hs, if_pos (nI_le hs (by omega))]
        unfold qX7_put_73
        exact ih f a h (by omega) ha h30 h34
      · have hp5 : pop a ≤ 5 := pop_5 ha
        rw [if_neg hs, if_neg (nI_ge (by omega) (by omega)), bi1_t (off_R h30 ha hd5), bd_t]
        unfold qX7_put_73
        have q := ih f (clr a d) (su h 38 (offP a d (h 38))) (by omega) (clr_lt ha hd5) (by rw [su_same]; exact off_30 hd5) (by rw [su_same, off_at (by omega) (by omega)]; exact h34)
        rw [su_same, su_su] at q
        exact q
    · rw [if_neg hr, if_neg hr, if_pos rfl]
      unfold qX7_put_73
      exact ih f a h (by omega) ha h30 h34
theorem ptd_id {t2 : Nat} : ∀ (d a : Nat) (P : Row), pop a ≤ t2 → ptd t2 d a P = (a, P) := by
  intro d
  induction d with
  | zero => intro a P h; rfl
  | succ d ih =>
    intro a P h
    rw [ptd, if_pos h, ih a P h, ite_self]
def hi2 (a : Nat) : Nat := if a.testBit 4 then 4 else if a.testBit 3 then 3 else if a.testBit 2 then 2 else 1
def lo2 (a : Nat) : Nat := if a.testBit 0 then 1 else if a.testBit 1 then 2 else if a.testBit 2 then 4 else 8
theorem two_l {a : Nat} (ha : a < 32) (h : pop a = 2) : a = 3 ∨ a = 5 ∨ a = 9 ∨ a = 17 ∨ a = 6 ∨ a = 10 ∨ a = 18 ∨ a = 12 ∨ a = 20 ∨ a = 24 := by
  have w : ∀ a : Fin 32, pop a.val = 2 → a.val = 3 ∨ a.val = 5 ∨ a.val = 9 ∨ a.val = 17 ∨ a.val = 6 ∨ a.val = 10 ∨ a.val = 18 ∨ a.val = 12 ∨ a.val = 20 ∨ a.val = 24 := by decide +kernel
  exact w ⟨a, ha⟩ h
theorem two_C {a : Nat} {P : Row} (ha : a < 32) (h : pop a = 2) : lv (lo2 a) 5 0 a P = (clr a (hi2 a), offP a (hi2 a) P) := by
  rcases two_l ha h with rfl | rfl | rfl | rfl | rfl | rfl | rfl | rfl | rfl | rfl <;> rfl
theorem two_R {a : Nat} {P : Row} (ha : a < 32) (h : pop a = 2) : ptd 1 5 a P = (clr a (hi2 a), offP a (hi2 a) P) := by
  rcases two_l ha h with rfl | rfl | rfl | rfl | rfl | rfl | rfl | rfl | rfl | rfl <;> rfl
theorem low_C {a : Nat} (ha : a < 32) (h : pop a = 2) : nI a &&& (-nI a) = nI (lo2 a) ∧ lo2 a < 32 ∧ hi2 a < 5 ∧ pop (clr a (hi2 a)) = 1 := by
  rcases two_l ha h with rfl | rfl | rfl | rfl | rfl | rfl | rfl | rfl | rfl | rfl <;> decide
theorem op_put {N : Nat} {h : Hp} {g : Gp} (R : Rel N h g) : Op N g (qX6_put h) (fun h => qX7_put h) := by
  obtain ⟨L, n, k, e, s, hT, hK, hP, hA, hS, hE, hg⟩ := R
  obtain ⟨a, th, hP2⟩ := id hP
  obtain ⟨hk, he, a1, a2, a3, a4⟩ := id hA
  have hn := hK.1
  have h30 := hP2.2.2.2.1
  have ha := hP2.2.2.1
  have hth := hP2.2.2.2.2.2.2.2.1
  have h34 := hP2.2.2.2.2.2.2.2.2.1
  have hp := hP2.2.2.2.2.2.2.2.2.2.1
  have hT30 : h 38 30 = nI a := by rw [← hP2.1.1 30 (by omega) (by omega)]; exact h30
  have hT34 : h 38 34 = nI th := by rw [← hP2.1.1 34 (by omega) (by omega)]; exact h34
  have key : ∃ t2 b, t2 < 10 ∧ (3 : Int32) - nI th = nI t2 ∧ qX2_putOrTakeAway (h 0) = some (lv b 5 0 a (upd (h 0) 34 (nI t2))).2 ∧ (lv b 5 0 a (upd (h 0) 34 (nI t2))).2 34 = nI t2 ∧ PgO n (N + 1) (lv b 5 0 a (upd (h 0) 34 (nI t2))).2 (ptd t2 5 a (upd (h 38) 34 (nI t2))).2 := by
    have same : ∀ t2, (t2 = 1 ∨ t2 = 2) → pop a ≤ t2 → qX2_putOrTakeAway_14 (h 0) (nI t2) = some (upd (h 0) 34 (nI t2)) ∧ PgO n (N + 1) (upd (h 0) 34 (nI t2)) (ptd t2 5 a (upd (h 38) 34 (nI t2))).2 := by
      intro t2 h2 hp2
      refine ⟨?_, ?_⟩
      · unfold qX2_putOrTakeAway_14
        rw [bd_t, upd_n _ (by decide), h30, bi1_t (bc_C ha), upd_s, if_pos (nI_le hp2 (by omega))]
      · rw [ptd_id _ _ _ hp2]
        exact ⟨_, _, (hP2.tng hn h2 hp2).up⟩
    have hid : ∀ P : Row, lv 31 5 0 a P = (a, P) := by
      intro P
      have w : ∀ k : Fin 5, (31 : Nat).testBit k.val = true := by decide
      have w0 : (31 : Nat).testBit 0 = true := by decide
      have w1 : (31 : Nat).testBit 1 = true := by decide
      have w2 : (31 : Nat).testBit 2 = true := by decide
      have w3 : (31 : Nat).testBit 3 = true := by decide
      have w4 : (31 : Nat).testBit 4 = true := by decide
      rw [lv, if_pos w0, ite_self, lv, if_pos w1, ite_self, lv, if_pos w2, ite_self, lv, if_pos w3, ite_self, lv, if_pos w4, ite_self, lv]
    rcases hth with rfl | rfl
    · obtain ⟨q1, q2⟩ := same 2 (Or.inr rfl) (by omega)
      refine ⟨2, 31, by decide, rfl, ?_, ?_, ?_⟩
      · unfold qX2_putOrTakeAway
        rw [h34, if_pos (show nI 1 = (1 : Int32) from rfl), hid]
        exact q1
      · rw [hid]
        exact upd_s (h 0) 34 (nI 2)
      · rw [hid]
        exact q2
    · by_cases hp1 : pop a ≤ 1
      · obtain ⟨q1, q2⟩ := same 1 (Or.inl rfl) hp1
        refine ⟨1, 31, by decide, rfl, ?_, ?_, ?_⟩
        · unfold qX2_putOrTakeAway
          rw [h34, if_neg (show ¬ nI 2 = (1 : Int32) by decide), hid]
          exact q1
        · rw [hid]
          exact upd_s (h 0) 34 (nI 1)
        · rw [hid]
          exact q2
      · have hp2 : pop a = 2 := by omega
        obtain ⟨l1, l2, l3, l4⟩ := low_C ha hp2
        have c34 : ∀ P : Row, offP a (hi2 a) (upd P 34 (nI 1)) = upd (offP a (hi2 a) P) 34 (nI 1) := fun P => by
          unfold offP
          rw [upd_c P (show (34 : Nat) ≠ 30 by decide), upd_c _ (show (34 : Nat) ≠ 5 + hi2 a by omega)]
        refine ⟨1, lo2 a, by decide, rfl, ?_, ?_, ?_⟩
        · unfold qX2_putOrTakeAway
          rw [h34, if_neg (show ¬ nI 2 = (1 : Int32) by decide)]
          unfold qX2_putOrTakeAway_14
          rw [bd_t, upd_n _ (by decide), h30, bi1_t (bc_C ha), upd_s, hp2, if_neg (show ¬ nI 2 ≤ (1 : Int32) by decide), l1]
          rw [bi1_t (leave_C l2 ha (by rw [upd_n _ (by decide)]; exact h30))]
          rfl
        · rw [two_C ha hp2]
          show offP a (hi2 a) _ 34 = _
          rw [c34, upd_s]
        · rw [two_C ha hp2, two_R ha hp2]
          show PgO n (N + 1) (offP a (hi2 a) _) (offP a (hi2 a) _)
          rw [c34, c34]
          exact ⟨_, _, ((hP2.off hn l3).tng hn (Or.inl rfl) (by omega)).up⟩
  obtain ⟨t2, b, ht, e3, e1, e34, hPT⟩ := key
  refine act_done (r := nI t2) hT hK hP hA hS hE hg hPT ?_ ?_
  · unfold qX6_put
    rw [bi1_t (rem_C hk he a1 a3), rem_r (by decide) (by omega), bi1_t e1, bd_t, su_same, e34]
    rfl
  · show bd (th0 (AH h k e _)) _ = _
    have q := put_loop ht 5 594 a (su (NH (th0 (AH h k e (lv b 5 0 a (upd (h 0) 34 (nI t2))).2)) k) 38 (upd (h 38) 34 (nI t2))) (by omega) ha (by rw [su_same, upd_n _ (by decide)]; exact hT30) (by rw [su_same, upd_s])
    rw [su_same, su_su] at q
    rw [bd_t, bi1_t (note_t hk he a2), NH_38, tAH_n (by decide) (by decide) (by decide) (by omega), bd_t, hT34, e3, show (600 : Nat) = 5 + 1 + 594 from rfl, show (4 : Int32) = nI 5 + (-1) by decide]
    exact q
