theorem Two.col {n t B a th : Nat} {P T : Row} {Z : Nat → Bool} (h : Two n t B P T a th Z) {j : Nat} {x : Int32} (h1 : j < 30 ∨ j = 33 ∨ j = 35) (hw : j < n → ∃ w, w ≤ 9 ∧ x = nI w) (hq : ∀ c, c < n → j = 10 + c → ∃ q, q ≤ B ∧ x = nI q) : Two n t B (upd P j x) (upd T j x) a th Z := by
  have d30 : (30 : Nat) ≠ j := by omega
  have d31 : (31 : Nat) ≠ j := by omega
  have d32 : (32 : Nat) ≠ j := by omega
  have d34 : (34 : Nat) ≠ j := by omega
  have d36 : (36 : Nat) ≠ j := by omega
  obtain ⟨hA, h36, ha, h30, hat, hl, hr, hth, h34, hp, hw0, hq0⟩ := h
  refine ⟨hA.upd _ _, by rw [upd_n _ d36]; exact h36, ha, by rw [upd_n _ d30]; exact h30, hat, by rw [upd_n _ d31]; exact hl, by rw [upd_n _ d32]; exact hr, hth, by rw [upd_n _ d34]; exact h34, hp, fun d hd => ?_, fun d hd => ?_⟩
  · by_cases e : d = j
    · rw [e, upd_s]; exact hw (by rw [← e]; exact hd)
    · rw [upd_n _ e]; exact hw0 d hd
  · by_cases e : 10 + d = j
    · rw [e, upd_s]; exact hq d hd e.symm
    · rw [upd_n _ e]; exact hq0 d hd
theorem Two.up {n t B a th : Nat} {P T : Row} {Z : Nat → Bool} (h : Two n t B P T a th Z) : Two n t (B + 1) P T a th Z := by
  obtain ⟨hA, h36, ha, h30, hat, hl, hr, hth, h34, hp, hw0, hq0⟩ := h
  exact ⟨hA, h36, ha, h30, hat, hl, hr, hth, h34, hp, hw0, fun d hd => by obtain ⟨q, h1, h2⟩ := hq0 d hd; exact ⟨q, by omega, h2⟩⟩
theorem stp_ten {a t k c : Nat} {P : Row} (hk : k < 5) (hc : c < 5) (h : c ≠ k) : stp a t k P (10 + c) = P (10 + c) := by
  unfold stp rid1 st2
  by_cases h1 : a.testBit k = true
  · rw [if_pos h1, upd_n _ (by omega), upd_n _ (by omega), upd_n _ (by omega)]
  · rw [if_neg h1]
    by_cases h2 : a = 0
    · rw [if_pos h2]
    · rw [if_neg h2]
      by_cases h3 : t.testBit k = true
      · rw [if_pos h3]
        by_cases h4 : upd P k (upN (P k)) k < 5
        · rw [if_pos h4, upd_n _ (by omega)]
        · rw [if_neg h4, upd_n _ (by omega), upd_n _ (by omega), upd_n _ (by omega)]
      · rw [if_neg h3]
theorem stp_own {a t k : Nat} {P : Row} : stp a t k P (10 + k) = P (10 + k) + bI (a.testBit k) := by
  unfold stp rid1 st2
  by_cases h1 : a.testBit k = true
  · rw [if_pos h1, upd_n _ (by omega), upd_n _ (by omega), upd_s, h1]
    rfl
  · rw [if_neg h1]
    rw [Bool.not_eq_true] at h1
    rw [h1, show bI false = 0 from rfl, Int32.add_zero]
    by_cases h2 : a = 0
    · rw [if_pos h2]
    · rw [if_neg h2]
      by_cases h3 : t.testBit k = true
      · rw [if_pos h3]
        by_cases h4 : upd P k (upN (P k)) k < 5
        · rw [if_pos h4, upd_n _ (by omega)]
        · rw [if_neg h4, upd_n _ (by omega), upd_n _ (by omega), upd_n _ (by omega)]
      · rw [if_neg h3]
theorem two_stp {n t B a th k : Nat} {P T : Row} {Z : Nat → Bool} (hn : n ≤ 5) (hk : k < n) (h : Two n t (B + 1) P T a th Z) (hb : ∃ q, q ≤ B ∧ P (10 + k) = nI q) : Two n t (B + 1) (stp a t k P) (stp a t k T) a th Z := by
  have hA := h.1.1
  obtain ⟨w, hw9, ew⟩ := h.2.2.2.2.2.2.2.2.2.2.1 k hk
  obtain ⟨q, hqB, eq⟩ := hb
  unfold stp
  rw [← hA k (by omega) (by omega)]
  by_cases h1 : a.testBit k = true
  · rw [if_pos h1, if_pos h1]
    unfold rid1
    rw [← hA (10 + k) (by omega) (by omega), ← h.1.rode (by omega) h1]
    refine ((h.col (Or.inl (by omega)) (fun hj => absurd hj (by omega)) (fun c _ _ => ⟨q + 1, by omega, by rw [eq, nI_1]⟩)).col (Or.inl (by omega)) (fun hj => absurd hj (by omega)) (fun c _ e => absurd e (by omega))).col (Or.inl (by omega)) (fun _ => ⟨w - 1, by omega, by rw [ew]; exact (dn_0 ⟨w, by omega⟩).1⟩) (fun c _ e => absurd e (by omega))
  · rw [if_neg h1, if_neg h1]
    by_cases h2 : a = 0
    · rw [if_pos h2, if_pos h2]; exact h
    · rw [if_neg h2, if_neg h2]
      by_cases h3 : t.testBit k = true
      · rw [if_pos h3, if_pos h3]
        have hq2 := h.col (j := k) (x := upN (P k)) (Or.inl (by omega)) (fun _ => ⟨min 9 (w + 1), by omega, by rw [ew]; exact (up_0 ⟨w, by omega⟩).1⟩) (fun c _ e => absurd e (by omega))
        generalize upd P k (upN (P k)) = P2 at hq2
        generalize upd T k (upN (P k)) = T2 at hq2
        unfold st2
        rw [← hq2.1.1 k (by omega) (by omega), ← hq2.1.1 (15 + k) (by omega) (by omega), ← hq2.1.1 (20 + k) (by omega) (by omega)]
        by_cases h4 : P2 k < 5
        · rw [if_pos h4, if_pos h4]; exact hq2
        · rw [if_neg h4, if_neg h4]
          exact (hq2.col (Or.inl (by omega)) (fun hj => absurd hj (by omega)) (fun c _ e => absurd e (by omega))).col (Or.inl (by omega)) (fun hj => absurd hj (by omega)) (fun c _ e => absurd e (by omega))
      · rw [if_neg h3, if_neg h3]; exact h
theorem idleC {a t : Nat} (ha : a < 32) (ht : t < 32) : ∀ (d f k : Nat) (P : Row), P 30 = nI a → P 36 = nI t → k + d = 5 → (∀ c, k ≤ c → c < 5 → a.testBit c = false ∧ t.testBit c = false) → qX2_rideAndStare_2 (d + 1 + f) P (nI k) = some P := by
  intro d
  induction d with
  | zero =>
    intro f k P _ _ hk _
    rw [show 0 + 1 + f = f + 1 by omega, qX2_rideAndStare_2, if_pos (le5 (by omega) (by omega))]
  | succ d ih =>
    intro f k P h30 h36 hk hz
    have e : stp a t k P = P := by
      unfold stp
      have hz1 := (hz k (Nat.le_refl k) (by omega)).1
      have hz2 := (hz k (Nat.le_refl k) (by omega)).2
      rw [if_neg (by rw [hz1]; decide)]
      by_cases h0 : a = 0
      · rw [if_pos h0]
      · rw [if_neg h0, if_neg (by rw [hz2]; decide)]
    rw [show d + 1 + 1 + f = (d + 1 + f) + 1 by omega, ride_C h30 ha h36 ht (by omega), e]
    exact ih f (k + 1) P h30 h36 (by omega) (fun c h1 h2 => hz c (by omega) h2)
def endR (T : Row) : Row := upd T 35 (T 35 + 1)
theorem loopC {R22 R23 R33 R35 R36 : Row} {n t B th a : Nat} {Z : Nat → Bool} (X : Cxt n t R22 R23 R33 R35 R36) : ∀ (d fC fR k : Nat) (P T : Row), k + d = n → Two n t (B + 1) P T a th Z → (∀ c, k ≤ c → c < n → ∃ q, q ≤ B ∧ P (10 + c) = nI q) → ∃ P1 T1, Two n t (B + 1) P1 T1 a th Z ∧ qX2_rideAndStare_2 (d + (5 - n) + 1 + fC) P (nI k) = some P1 ∧ qX7_goMinute_71 R33 R35 R36 (d + 1 + fR) T (nI k) = some (endR T1) ∧ (∀ c, c < k → P1 (10 + c) = P (10 + c)) ∧ ∀ c, k ≤ c → c < n → P1 (10 + c) = P (10 + c) + bI (a.testBit c) := by
  have hn := X.1
  have h4 := X.2.1
  have h25 := X.2.2.1
  have ht := X.2.2.2.1
  have htn := X.2.2.2.2.1
  intro d
  induction d with
  | zero =>
    intro fC fR k P T hk h _
    refine ⟨P, T, h, ?_, ?_, fun _ _ => rfl, fun c h1 h2 => absurd h2 (by omega)⟩
    · rw [show 0 + (5 - n) + 1 + fC = (5 - n) + 1 + fC by omega]
      refine idleC h.2.2.1 ht (5 - n) fC k P h.2.2.2.1 h.2.1 (by omega) (fun c h1 h2 => ?_)
      have ht0 : t.testBit c = false := by
        cases hq : t.testBit c with
        | false => rfl
        | true => exact absurd (htn c h2 hq) (by omega)
      refine ⟨?_, ht0⟩
      cases hq : a.testBit c with
      | false => rfl
      | true => rw [h.2.2.2.2.1 c h2 hq] at ht0; cases ht0
    · rw [show 0 + 1 + fR = fR + 1 by omega, qX7_goMinute_71, h4, if_pos (nI_le (by omega) (by omega))]
      rfl
  | succ d ih =>
    intro fC fR k P T hk h hb
    have hT30 : T 30 = nI a := by rw [← h.1.1 30 (by omega) (by omega)]; exact h.2.2.2.1
    obtain ⟨P1, T1, h1, e1, e2, u1, u2⟩ := ih fC fR (k + 1) _ _ (by omega) (two_stp hn (by omega) h (hb k (Nat.le_refl k) (by omega))) (fun c h3 h5 => by rw [stp_ten (by omega) (by omega) (by omega)]; exact hb c (by omega) h5)
    refine ⟨P1, T1, h1, ?_, ?_, fun c hc => by rw [u1 c (by omega), stp_ten (by omega) (by omega) (by omega)], fun c hc1 hc2 => ?_⟩
    · rw [show d + 1 + (5 - n) + 1 + fC = (d + (5 - n) + 1 + fC) + 1 by omega, ride_C h.2.2.2.1 h.2.2.1 h.2.1 ht (by omega)]
      exact e1
    · rw [show d + 1 + 1 + fR = (d + 1 + fR) + 1 by omega, ride_R hn h4 h25 ht hT30 h.2.2.1 (by omega) (by rw [← h.1.1 k (by omega) (by omega)]; exact h.2.2.2.2.2.2.2.2.2.2.1 k (by omega))]
      exact e2
    · by_cases e : c = k
      · subst e; rw [u1 c (by omega), stp_own]
      · rw [u2 c (by omega) hc2, stp_ten (by omega) (by omega) e]
/-- A MINUTE: the same on both sides -/
theorem minute_ten {R22 R23 R33 R35 R36 P T : Row} {n t B th a : Nat} {Z : Nat → Bool} (X : Cxt n t R22 R23 R33 R35 R36) (hB : B < 2 ^ 30) (h : Two n t B P T a th Z) : ∃ P1 T1 a1 Z1, qX2_passMinute R22 R23 P = some P1 ∧ qX7_goMinute R33 R35 R36 T = some T1 ∧ Two n t (B + 1) P1 T1 a1 th Z1 ∧ (∀ c, Z1 c = true → Z c = true) ∧ ∀ c, c < n → P1 (10 + c) = P (10 + c) + bI (a1.testBit c) := by
  have hn := X.1
  have hT30 : T 30 = nI a := by rw [← h.1.1 30 (by omega) (by omega)]; exact h.2.2.2.1
  obtain ⟨P1, T1, a1, h1, e1, e2, t1⟩ := loopA X hB h.2.2.1 n 594 (599 - n) 0 P T a (by omega) h (fun c _ _ => rfl)
  have hth : th = 1 ∨ th = 2 := h1.2.2.2.2.2.2.2.1
  have hpop := h1.2.2.2.2.2.2.2.2.2.1
  obtain ⟨P2, T2, a2, Z2, h2, hz2, e3, e4, t2⟩ := fill X hB (th - pop a1) (599 - (th - pop a1)) (599 - (th - pop a1)) P1 T1 a1 Z h1 (by omega)
  obtain ⟨P3, T3, h3, e5, e6, -, t3⟩ := loopC (B := B) X n 594 (599 - n) 0 P2 T2 (by omega) h2.up (fun c _ h5 => h2.2.2.2.2.2.2.2.2.2.2.2 c h5)
  refine ⟨endR P3, endR T3, a2, Z2, ?_, ?_, ?_, hz2, fun c hc => ?_⟩
  · unfold qX2_passMinute
    rw [show n + (5 - n) + 1 + 594 = 600 by omega] at e1
    rw [show (0 : Int32) = nI 0 from rfl, e1]
    unfold contC
    rw [h1.2.2.2.1, bi1_t (bc_C h1.2.2.1), h1.2.2.2.2.2.2.2.2.1, pk_sub hpop]
    rw [show th - pop a1 + 1 + (599 - (th - pop a1)) = 600 by omega] at e3
    rw [e3]
    unfold qX2_passMinute_68 qX2_rideAndStare
    rw [show n + (5 - n) + 1 + 594 = 600 by omega] at e5
    rw [show (0 : Int32) = nI 0 from rfl, bi1_t e5, bd_t]
    rfl
  · unfold qX7_goMinute
    rw [show n + 1 + (599 - n) = 600 by omega] at e2 e6
    rw [show th - pop a1 + 1 + (599 - (th - pop a1)) = 600 by omega] at e4
    rw [hT30, show (0 : Int32) = nI 0 from rfl, e2, e4]
    unfold qX7_goMinute_69
    exact e6
  · unfold endR
    rw [← h3.1.1 35 (by omega) (by omega)]
    exact h3.col (Or.inr (Or.inr rfl)) (fun hj => absurd hj (by omega)) (fun c _ e => absurd e (by omega))
  · unfold endR
    rw [upd_n _ (by omega), t3 c (by omega) hc, t2 (10 + c) (by omega) (by omega), t1 (10 + c) (by omega) (by omega)]
theorem minute_eq {R22 R23 R33 R35 R36 P T : Row} {n t B th a : Nat} {Z : Nat → Bool} (X : Cxt n t R22 R23 R33 R35 R36) (hB : B < 2 ^ 30) (h : Two n t B P T a th Z) : ∃ P1 T1 a1 Z1, qX2_passMinute R22 R23 P = some P1 ∧ qX7_goMinute R33 R35 R36 T = some T1 ∧ Two n t (B + 1) P1 T1 a1 th Z1 ∧ ∀ c, Z1 c = true → Z c = true := by
  obtain ⟨P1, T1, a1, Z1, e1, e2, h1, hz, -⟩ := minute_ten X hB h
  exact ⟨P1, T1, a1, Z1, e1, e2, h1, hz⟩
