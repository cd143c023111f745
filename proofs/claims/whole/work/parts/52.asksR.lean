theorem bhC {β : Type} {a c : Nat} {k : Int32 → Option β} (ha : a < 32) (hc : c < 5) : bi1 (qX6_has (nI a) (nI c)) k = if a.testBit c = true then k 1 else k 0 := by
  rw [bi1_t (has_C ha hc)]
  by_cases h : a.testBit c = true
  · rw [if_pos h, if_pos h]
  · rw [if_neg h, if_neg h]
theorem bhR {β : Type} {a c : Nat} {k : Int32 → Option β} (ha : a < 32) (hc : c < 5) : bi1 (qX7_has (nI a) (nI c)) k = if a.testBit c = true then k 1 else k 0 := by
  rw [bi1_t (has_R ha hc)]
  by_cases h : a.testBit c = true
  · rw [if_pos h, if_pos h]
  · rw [if_neg h, if_neg h]
theorem pl0 (k : Nat) : (0 : Int32) + nI k = nI (0 + k) := nI_add 0 k
theorem pl5 (k : Nat) : (5 : Int32) + nI k = nI (5 + k) := nI_add 5 k
theorem pl10 (k : Nat) : (10 : Int32) + nI k = nI (10 + k) := nI_add 10 k
theorem pl15 (k : Nat) : (15 : Int32) + nI k = nI (15 + k) := nI_add 15 k
theorem pl20 (k : Nat) : (20 : Int32) + nI k = nI (20 + k) := nI_add 20 k
theorem pl25 (k : Nat) : (25 : Int32) + nI k = nI (25 + k) := nI_add 25 k
theorem in36 {k : Nat} (h : k < 36) : inb (nI k) 36 = true := inb_nI h (by decide)
theorem or_00 : ∀ a : Fin 32, nI a.val ||| (0 : Int32) = nI a.val := by decide +kernel
theorem or_z {a : Nat} (ha : a < 32) : nI a ||| (0 : Int32) = nI a := or_00 ⟨a, ha⟩
theorem and_m0 : ∀ a : Fin 32, nI a.val &&& (-1 : Int32) = nI a.val := by decide +kernel
theorem and_m1 {a : Nat} (ha : a < 32) : nI a &&& (-1 : Int32) = nI a := and_m0 ⟨a, ha⟩
theorem one_ne : ¬ (1 : Int32) = 0 := by decide
theorem want_R_loop {R33 P : Row} {n a t : Nat} (hn : n ≤ 5) (h4 : R33 4 = nI n) (h25 : R33 25 = nI t) (ht : t < 32) (h30 : P 30 = nI a) (ha : a < 32) : ∀ (d f k m : Nat), k + d = n → m < 32 → (∀ c, c < 5 → m.testBit c = (decide (c < k) && (!decide (P c < 5) && t.testBit c && !a.testBit c))) → ∃ M, M < 32 ∧ (∀ c, c < 5 → M.testBit c = (decide (c < n) && (!decide (P c < 5) && t.testBit c && !a.testBit c))) ∧ qX7_wantsOf_4 R33 P (d + 1 + f) (nI m) (nI k) = some (nI M) := by
  intro d
  induction d with
  | zero =>
    intro f k m hk hm hb
    refine ⟨m, hm, fun c hc => ?_, ?_⟩
    · rw [hb c hc, show k = n by omega]
    · rw [show 0 + 1 + f = f + 1 by omega, qX7_wantsOf_4, h4, if_pos (nI_le (by omega) (by omega))]
  | succ d ih =>
    intro f k m hk hm hb
    have stp : ∀ c, c ≠ k → decide (c < k) = decide (c < k + 1) := fun c h => by congr 1; apply propext; omega
    have go0 : (!decide (P k < 5) && t.testBit k && !a.testBit k) = false → qX7_wantsOf_50 R33 P (qX7_wantsOf_4 R33 P (d + 1 + f)) (nI k) (nI m) = qX7_wantsOf_4 R33 P (d + 1 + f) (nI m) (nI (k + 1)) ∧ (∀ c, c < 5 → m.testBit c = (decide (c < k + 1) && (!decide (P c < 5) && t.testBit c && !a.testBit c))) := by
      intro hz
      refine ⟨?_, fun c hc => ?_⟩
      · unfold qX7_wantsOf_50 qX7_wantsOf_51
        rw [or_z hm, nI_1]
      · rw [hb c hc]
        by_cases e : c = k
        · subst e; rw [hz, Bool.and_false, Bool.and_false]
        · rw [stp c e]
    rw [show d + 1 + 1 + f = (d + 1 + f) + 1 by omega, qX7_wantsOf_4, h4, if_neg (nI_ge (by omega) (by omega)), h25, bhR ht (by omega)]
    by_cases h1 : t.testBit k = true
    · rw [if_pos h1, if_neg one_ne, h30, bhR ha (by omega)]
      by_cases h2 : a.testBit k = true
      · rw [if_pos h2, if_neg one_ne]
        obtain ⟨e, hb2⟩ := go0 (by rw [h2]; simp)
        rw [e]
        exact ih f (k + 1) m (by omega) hm hb2
      · rw [if_neg h2, if_pos rfl, pl0, ck_t (in36 (by omega)), cl_nI (by omega), Nat.zero_add]
        by_cases h3 : P k < 5
        · rw [if_pos h3]
          obtain ⟨e, hb2⟩ := go0 (by simp [h3])
          rw [e]
          exact ih f (k + 1) m (by omega) hm hb2
        · rw [if_neg h3]
          unfold qX7_wantsOf_51
          rw [on_b hm (by omega), nI_1]
          refine ih f (k + 1) _ (by omega) (stb_lt hm (by omega)) (fun c hc => ?_)
          rw [stb_b hm (by omega) hc, hb c hc]
          by_cases e : c = k
          · subst e; simp [h1, h2, h3]
          · rw [stp c e, decide_eq_false e, Bool.or_false]
    · rw [if_neg h1, if_pos rfl]
      obtain ⟨e, hb2⟩ := go0 (by simp [h1])
      rw [e]
      exact ih f (k + 1) m (by omega) hm hb2
theorem want_R {R33 P : Row} {n a t : Nat} (hn : n ≤ 5) (h4 : R33 4 = nI n) (h25 : R33 25 = nI t) (ht : t < 32) (htn : ∀ c, c < 5 → t.testBit c = true → c < n) (h30 : P 30 = nI a) (ha : a < 32) : ∃ M, M < 32 ∧ (∀ c, c < 5 → M.testBit c = (!decide (P c < 5) && t.testBit c && !a.testBit c)) ∧ qX7_wantsOf R33 P = some (nI M) := by
  obtain ⟨M, hM, hb, e⟩ := want_R_loop hn h4 h25 ht h30 ha n (599 - n) 0 0 (by omega) (by decide) (fun c hc => by simp)
  refine ⟨M, hM, fun c hc => ?_, ?_⟩
  · rw [hb c hc]
    by_cases h : c < n
    · rw [decide_eq_true h, Bool.true_and]
    · have : t.testBit c = false := by
        cases hq : t.testBit c with
        | false => rfl
        | true => exact absurd (htn c hc hq) h
      rw [this]; simp
  · unfold qX7_wantsOf
    rw [show (600 : Nat) = n + 1 + (599 - n) by omega]
    exact e
theorem ask_R_loop {R33 R36 P : Row} {n : Nat} (hn : n ≤ 5) (h4 : R33 4 = nI n) : ∀ (d f k m : Nat) (B : Nat → Bool), k + d = n → m < 32 → (∀ c, c < 5 → m.testBit c = (B c && (decide (k ≤ c) || decide (P 32 = 3) || !decide (R36 c = 2)))) → ∃ M, M < 32 ∧ (∀ c, c < 5 → M.testBit c = (B c && (decide (n ≤ c) || decide (P 32 = 3) || !decide (R36 c = 2)))) ∧ qX7_asksOf_8 R33 R36 P (d + 1 + f) (nI m) (nI k) = some (nI M) := by
  intro d
  induction d with
  | zero =>
    intro f k m B hk hm hb
    refine ⟨m, hm, fun c hc => ?_, ?_⟩
    · rw [hb c hc, show k = n by omega]
    · rw [show 0 + 1 + f = f + 1 by omega, qX7_asksOf_8, h4, if_pos (nI_le (by omega) (by omega))]
  | succ d ih =>
    intro f k m B hk hm hb
    have stp : ∀ c, c < 5 → c ≠ k → decide (k ≤ c) = decide (k + 1 ≤ c) := fun c _ h => by congr 1; apply propext; omega
    have go0 : (P 32 = 3 ∨ ¬ R36 k = 2) → qX7_asksOf_43 R33 R36 P (qX7_asksOf_8 R33 R36 P (d + 1 + f)) (nI k) (nI m) = qX7_asksOf_8 R33 R36 P (d + 1 + f) (nI m) (nI (k + 1)) ∧ (∀ c, c < 5 → m.testBit c = (B c && (decide (k + 1 ≤ c) || decide (P 32 = 3) || !decide (R36 c = 2)))) := by
      intro hz
      refine ⟨?_, fun c hc => ?_⟩
      · unfold qX7_asksOf_43 qX7_asksOf_44
        rw [and_m1 hm, nI_1]
      · rw [hb c hc]
        by_cases e : c = k
        · subst e
          rcases hz with hz | hz <;> simp [hz]
        · rw [stp c hc e]
    rw [show d + 1 + 1 + f = (d + 1 + f) + 1 by omega, qX7_asksOf_8, h4, if_neg (nI_ge (by omega) (by omega)), ck_t (in5 (by omega)), cl_nI (by omega)]
    by_cases h : R36 k = 2
    · rw [if_pos h]
      by_cases h2 : P 32 = 3
      · rw [if_pos h2]
        obtain ⟨e, hb2⟩ := go0 (Or.inl h2)
        rw [e]
        exact ih f (k + 1) m B (by omega) hm hb2
      · rw [if_neg h2]
        unfold qX7_asksOf_44
        rw [off_b hm (by omega), nI_1]
        refine ih f (k + 1) _ B (by omega) (clr_lt hm (by omega)) (fun c hc => ?_)
        rw [clr_b hm (by omega) hc, hb c hc]
        by_cases e : c = k
        · subst e; simp [h, h2]
        · rw [stp c hc e, decide_eq_false e, Bool.not_false, Bool.and_true]
    · rw [if_neg h]
      obtain ⟨e, hb2⟩ := go0 (Or.inr h)
      rw [e]
      exact ih f (k + 1) m B (by omega) hm hb2
theorem ask_R {R22 R23 R33 R35 R36 P : Row} {n a t : Nat} (X : Cxt n t R22 R23 R33 R35 R36) (h30 : P 30 = nI a) (ha : a < 32) : ∃ M, M < 32 ∧ (∀ c, c < 5 → M.testBit c = askB R36 P a t c) ∧ qX7_asksOf R33 R36 P = some (nI M) := by
  obtain ⟨hn, h4, h25, ht, htn, -⟩ := X
  obtain ⟨m, hm, hb, e⟩ := want_R hn h4 h25 ht htn h30 ha
  obtain ⟨M, hM, hB, e2⟩ := ask_R_loop (R36 := R36) (P := P) hn h4 n (599 - n) 0 m (fun c => !decide (P c < 5) && t.testBit c && !a.testBit c) (by omega) hm (fun c hc => by rw [hb c hc]; simp)
  refine ⟨M, hM, fun c hc => ?_, ?_⟩
  · rw [hB c hc]
    unfold askB
    by_cases h : n ≤ c
    · have : t.testBit c = false := by
        cases hq : t.testBit c with
        | false => rfl
        | true => exact absurd (htn c hc hq) (by omega)
      rw [this]; simp
    · rw [decide_eq_false h, Bool.false_or]
  · unfold qX7_asksOf
    rw [bi1_t e, show (600 : Nat) = n + 1 + (599 - n) by omega]
    exact e2
theorem askB_ag {R22 R23 R33 R35 R36 P T : Row} {n a t : Nat} (X : Cxt n t R22 R23 R33 R35 R36) (hA : Ag P T) {c : Nat} (hc : c < 5) : askB R23 P a t c = askB R36 T a t c := by
  unfold askB
  rw [hA c (by omega) (by omega), hA 32 (by omega) (by omega)]
  by_cases h : t.testBit c = true
  · rw [(X.2.2.2.2.2 c (X.2.2.2.2.1 c hc h)).2]
  · have : t.testBit c = false := by simpa using h
    rw [this]; simp
