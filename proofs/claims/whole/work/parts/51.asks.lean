/-- children, who is there, their strength and kind: the same on both sides -/
def Cxt (n t : Nat) (R22 R23 R33 R35 R36 : Row) : Prop := n ≤ 5 ∧ R33 4 = nI n ∧ R33 25 = nI t ∧ t < 32 ∧ (∀ c, c < 5 → t.testBit c = true → c < n) ∧ ∀ j, j < n → R22 j = R35 j ∧ R23 j = R36 j
/-- alike, but for how long each rode -/
def Ag (P T : Row) : Prop := ∀ j, j < 36 → (j < 5 ∨ 10 ≤ j) → P j = T j
theorem want_C_loop (P : Row) : ∀ (d f k m : Nat), k + d = 5 → m < 32 → (∀ c, c < 5 → m.testBit c = (decide (c < k) && !decide (P c < 5))) → ∃ M, M < 32 ∧ (∀ c, c < 5 → M.testBit c = !decide (P c < 5)) ∧ qX2_wanting_4 P (d + 1 + f) (nI m) (nI k) = some ((nI M &&& P 36) &&& (P 30 ^^^ (-1 : Int32))) := by
  intro d
  induction d with
  | zero =>
    intro f k m hk hm hb
    refine ⟨m, hm, fun c hc => ?_, ?_⟩
    · rw [hb c hc, decide_eq_true (show c < k by omega), Bool.true_and]
    · rw [show 0 + 1 + f = f + 1 by omega, qX2_wanting_4, if_pos (le5 (by omega) (by omega))]
  | succ d ih =>
    intro f k m hk hm hb
    rw [show d + 1 + 1 + f = (d + 1 + f) + 1 by omega, qX2_wanting_4, if_neg (nle5 (by omega)), ck_t (in5 (by omega)), cl_nI (by omega), Nat.zero_add]
    by_cases h : P k < 5
    · rw [if_pos h]
      unfold qX2_wanting_25
      rw [nI_1]
      refine ih f (k + 1) m (by omega) hm (fun c hc => ?_)
      rw [hb c hc]
      by_cases e : c = k
      · subst e; simp [h]
      · rw [show decide (c < k) = decide (c < k + 1) by congr 1; apply propext; omega]
    · rw [if_neg h]
      unfold qX2_wanting_25
      rw [nI_1, on_b hm (by omega)]
      refine ih f (k + 1) _ (by omega) (stb_lt hm (by omega)) (fun c hc => ?_)
      rw [stb_b hm (by omega) hc, hb c hc]
      by_cases e : c = k
      · subst e; simp [h]
      · rw [show decide (c < k) = decide (c < k + 1) by congr 1; apply propext; omega, decide_eq_false e, Bool.or_false]
theorem want_C {P : Row} {a t : Nat} (h30 : P 30 = nI a) (ha : a < 32) (h36 : P 36 = nI t) (ht : t < 32) : ∃ M, M < 32 ∧ (∀ c, c < 5 → M.testBit c = (!decide (P c < 5) && t.testBit c && !a.testBit c)) ∧ qX2_wanting P = some (nI M) := by
  obtain ⟨M, hM, hb, e⟩ := want_C_loop P 5 594 0 0 (by omega) (by decide) (fun c hc => by simp)
  refine ⟨(M &&& t) &&& (31 ^^^ a), and_lt (and_lt hM), fun c hc => ?_, ?_⟩
  · rw [testBit_and, testBit_and, hb c hc, not31 ⟨a, ha⟩ ⟨c, hc⟩]
  · unfold qX2_wanting
    rw [show (0 : Int32) = nI 0 from rfl, e, h30, h36, and_nI hM ht, and_not (and_lt hM) ha]
theorem ask_C_loop (R23 P : Row) : ∀ (d f k m : Nat) (B : Nat → Bool), k + d = 5 → m < 32 → (∀ c, c < 5 → m.testBit c = (B c && (decide (k ≤ c) || decide (P 32 = 3) || !decide (R23 c = 2)))) → ∃ M, M < 32 ∧ (∀ c, c < 5 → M.testBit c = (B c && (decide (P 32 = 3) || !decide (R23 c = 2)))) ∧ qX2_asking_7 R23 P (d + 1 + f) (nI m) (nI k) = some (nI M) := by
  intro d
  induction d with
  | zero =>
    intro f k m B hk hm hb
    refine ⟨m, hm, fun c hc => ?_, ?_⟩
    · rw [hb c hc, decide_eq_false (show ¬ k ≤ c by omega), Bool.false_or]
    · rw [show 0 + 1 + f = f + 1 by omega, qX2_asking_7, if_pos (le5 (by omega) (by omega))]
  | succ d ih =>
    intro f k m B hk hm hb
    have stp : ∀ c, c < 5 → c ≠ k → decide (k ≤ c) = decide (k + 1 ≤ c) := fun c _ h => by congr 1; apply propext; omega
    rw [show d + 1 + 1 + f = (d + 1 + f) + 1 by omega, qX2_asking_7, if_neg (nle5 (by omega))]
    by_cases h : P 32 = 3
    · rw [if_pos h]
      unfold qX2_asking_41
      rw [nI_1]
      refine ih f (k + 1) m B (by omega) hm (fun c hc => ?_)
      rw [hb c hc]
      simp [h]
    · rw [if_neg h, ck_t (in5 (by omega)), cl_nI (by omega)]
      by_cases h2 : R23 k = 2
      · rw [if_pos h2]
        unfold qX2_asking_41
        rw [nI_1, off_b hm (by omega)]
        refine ih f (k + 1) _ B (by omega) (clr_lt hm (by omega)) (fun c hc => ?_)
        rw [clr_b hm (by omega) hc, hb c hc]
        by_cases e : c = k
        · subst e; simp [h, h2]
        · rw [stp c hc e, decide_eq_false e, Bool.not_false, Bool.and_true]
      · rw [if_neg h2]
        unfold qX2_asking_41
        rw [nI_1]
        refine ih f (k + 1) m B (by omega) hm (fun c hc => ?_)
        rw [hb c hc]
        by_cases e : c = k
        · subst e; simp [h2]
        · rw [stp c hc e]
/-- who asks -/
def askB (K P : Row) (a t c : Nat) : Bool := (!decide (P c < 5) && t.testBit c && !a.testBit c) && (decide (P 32 = 3) || !decide (K c = 2))
theorem ask_C {R23 P : Row} {a t : Nat} (h30 : P 30 = nI a) (ha : a < 32) (h36 : P 36 = nI t) (ht : t < 32) : ∃ M, M < 32 ∧ (∀ c, c < 5 → M.testBit c = askB R23 P a t c) ∧ qX2_asking R23 P = some (nI M) := by
  obtain ⟨m, hm, hb, e⟩ := want_C h30 ha h36 ht
  obtain ⟨M, hM, hB, e2⟩ := ask_C_loop R23 P 5 594 0 m (fun c => !decide (P c < 5) && t.testBit c && !a.testBit c) (by omega) hm (fun c hc => by rw [hb c hc]; simp)
  refine ⟨M, hM, hB, ?_⟩
  unfold qX2_asking
  rw [bi1_t e]
  exact e2
