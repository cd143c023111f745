theorem next_R_loop {R33 S K T : Row} {A n : Nat} (hn : n ≤ 5) (h4 : R33 4 = nI n) (hA : A < 32) (gt : Nat → Nat → Bool) (hcl : ∀ c f, c < n → f < n → ∃ x y, qX7_claim R33 S K T (nI c) = some x ∧ qX7_claim R33 S K T (nI f) = some y ∧ (x ≤ y ↔ gt c f = false)) : ∀ (d f k : Nat), k + d = n → qX7_nextOf_12 R33 S K T (d + 1 + f) (nI A) (enc (nxS A gt k)) (nI k) = some (enc (nxS A gt n)) := by
  intro d
  induction d with
  | zero =>
    intro f k hk
    rw [show 0 + 1 + f = f + 1 by omega, qX7_nextOf_12, h4, if_pos (nI_le (by omega) (by omega)), show k = n by omega]
  | succ d ih =>
    intro f k hk
    rw [show d + 1 + 1 + f = (d + 1 + f) + 1 by omega, qX7_nextOf_12, h4, if_neg (nI_ge (by omega) (by omega)), bhR hA (by omega)]
    have h55 : nxS A gt (k + 1) = nxS A gt k → qX7_nextOf_55 R33 S K T (qX7_nextOf_12 R33 S K T (d + 1 + f)) (nI A) (enc (nxS A gt k)) (nI k) = some (enc (nxS A gt n)) := by
      intro e
      unfold qX7_nextOf_55
      rw [nI_1, ← e]
      exact ih f (k + 1) (by omega)
    have h52 : nxS A gt (k + 1) = some k → qX7_nextOf_52 R33 S K T (qX7_nextOf_12 R33 S K T (d + 1 + f)) (nI A) (nI k) = some (enc (nxS A gt n)) := by
      intro e
      unfold qX7_nextOf_52 qX7_nextOf_55
      have e2 : enc (nxS A gt (k + 1)) = nI k := by rw [e]; rfl
      have := ih f (k + 1) (by omega)
      rw [e2] at this
      rw [nI_1]
      exact this
    by_cases hb : A.testBit k = true
    · rw [if_pos hb, if_neg one_ne]
      cases hq : nxS A gt k with
      | none =>
        rw [show enc none = (-9 : Int32) from rfl, if_pos rfl]
        exact h52 (by rw [nxS, hq]; simp [hb])
      | some g =>
        have hg := (nxS_in A gt k g hq).1
        obtain ⟨x, y, hx, hy, hxy⟩ := hcl k g (by omega) (by omega)
        rw [show enc (some g) = nI g from rfl, if_neg (enc_none (by omega)), bi1_t hx, bi1_t hy]
        by_cases hgt : gt k g = true
        · rw [if_neg (fun h => by rw [hxy.mp h] at hgt; cases hgt)]
          exact h52 (by rw [nxS, hq]; simp [hb, hgt])
        · have hgf : gt k g = false := by simpa using hgt
          rw [if_pos (hxy.mpr hgf)]
          have := h55 (by rw [nxS, hq]; simp [hgf])
          rw [hq] at this
          exact this
    · rw [if_neg hb, if_pos rfl]
      refine h55 ?_
      rw [nxS]
      cases nxS A gt k with
      | none => simp [hb]
      | some g => simp [hb]
/-- what holds of a page while children play -/
def Pin (n t B : Nat) (P : Row) : Prop := ∃ a r th : Nat, a < 32 ∧ P 30 = nI a ∧ (∀ c, c < 5 → a.testBit c = true → t.testBit c = true) ∧ (P 31 = -9 ∨ ∃ l, l < n ∧ P 31 = nI l) ∧ r < 4 ∧ P 32 = nI r ∧ (th = 1 ∨ th = 2) ∧ P 34 = nI th ∧ pop a ≤ th ∧ (∀ c, c < n → ∃ w, w ≤ 9 ∧ P c = nI w) ∧ (∀ c, c < n → ∃ q, q ≤ B ∧ P (10 + c) = nI q)
theorem neg_le {a b : Nat} (ha : a < 2 ^ 30) (hb : b < 2 ^ 30) : (-nI a ≤ -nI b) ↔ b ≤ a := sb_nle (by omega) (by omega)
theorem rule_ne {r k : Nat} (hr : r < 4) (hk : k < 4) : nI r = nI k ↔ r = k := nI_eq (by omega) (by omega)
theorem claim_n3 {R33 S K T : Row} {n t B : Nat} (hI : Pin n t B T) (hn : n ≤ 5) (hB : B < 2 ^ 30) (h3 : ¬ T 32 = 3) : ∀ c f, c < n → f < n → ∃ x y, qX7_claim R33 S K T (nI c) = some x ∧ qX7_claim R33 S K T (nI f) = some y ∧ (x ≤ y ↔ gtB S K T c f = false) := by
  obtain ⟨a, r, th, ha, h30, hat, hl, hr, h32, hth, h34, hpop, hw, hq⟩ := hI
  intro c f hc hf
  unfold qX7_claim gtB
  by_cases h1 : T 32 = 1
  · have h0 : ¬ T 32 = 0 := by rw [h1]; decide
    obtain ⟨x, hx, ex⟩ := hq c hc
    obtain ⟨y, hy, ey⟩ := hq f hf
    refine ⟨_, _, by rw [if_pos h1, pl10, ck_t (in36 (by omega)), cl_nI (by omega)], by rw [if_pos h1, pl10, ck_t (in36 (by omega)), cl_nI (by omega)], ?_⟩
    rw [if_neg h0, if_pos h1, ex, ey, neg_le (by omega) (by omega), Bool.not_eq_false', decide_eq_true_eq, nI_leI (by omega) (by omega)]
  · by_cases h2 : T 32 = 2
    · have h0 : ¬ T 32 = 0 := by rw [h2]; decide
      refine ⟨_, _, by rw [if_neg h1, if_pos h2, pl20, ck_t (in36 (by omega)), cl_nI (by omega)], by rw [if_neg h1, if_pos h2, pl20, ck_t (in36 (by omega)), cl_nI (by omega)], ?_⟩
      rw [if_neg h0, if_neg h1, if_pos h2, Bool.not_eq_false', decide_eq_true_eq]
    · have h0 : T 32 = 0 := by
        rw [h32] at h1 h2 h3 ⊢
        rcases (show r = 0 ∨ r = 1 ∨ r = 2 ∨ r = 3 by omega) with rfl | rfl | rfl | rfl
        · rfl
        · exact absurd rfl h1
        · exact absurd rfl h2
        · exact absurd rfl h3
      refine ⟨mgt S K c, mgt S K f, by rw [if_neg h1, if_neg h2, if_neg h3, bi1_t (might_R S K (by omega))], by rw [if_neg h1, if_neg h2, if_neg h3, bi1_t (might_R S K (by omega))], ?_⟩
      rw [if_pos h0, Bool.not_eq_false', decide_eq_true_eq]
theorem cl3_0 : ∀ n : Fin 6, ∀ l c : Fin 5, l.val < n.val → c.val < n.val → ((((nI c.val - nI l.val) - (1 : Int32)) + ((10 : Int32) * nI n.val)) - (((nI c.val - nI l.val) - (1 : Int32)) + ((10 : Int32) * nI n.val)) / nI n.val * nI n.val) = nI ((c.val + 10 * n.val - l.val - 1) % n.val) := by decide +kernel
theorem claim_3 {R33 S K T : Row} {n l : Nat} (hn : n ≤ 5) (h4 : R33 4 = nI n) (h3 : T 32 = 3) (hl : l < n) (h31 : T 31 = nI l) : ∀ c f, c < n → f < n → ∃ x y, qX7_claim R33 S K T (nI c) = some x ∧ qX7_claim R33 S K T (nI f) = some y ∧ (x ≤ y ↔ gtL n l c f = false) := by
  intro c f hc hf
  have key : ∀ c, c < n → qX7_claim R33 S K T (nI c) = some (-nI ((c + 10 * n - l - 1) % n)) := by
    intro c hc
    unfold qX7_claim
    rw [if_neg (by rw [h3]; decide), if_neg (by rw [h3]; decide), if_pos h3, h31, if_neg (enc_none (by omega)), h4, if_neg (nI_ne0 (by omega) (by omega)), ck_t (by unfold nz; rw [Bool.not_eq_true', decide_eq_false_iff_not]; exact nI_ne0 (by omega) (by omega)), cl3_0 ⟨n, by omega⟩ ⟨l, by omega⟩ ⟨c, by omega⟩ hl hc]
  refine ⟨_, _, key c hc, key f hf, ?_⟩
  have h1 : (c + 10 * n - l - 1) % n < n := Nat.mod_lt _ (by omega)
  have h2 : (f + 10 * n - l - 1) % n < n := Nat.mod_lt _ (by omega)
  unfold gtL
  rw [neg_le (by omega) (by omega), decide_eq_false_iff_not, Nat.not_lt]
theorem claim_30 {R33 S K T : Row} {n : Nat} (hn : n ≤ 5) (h3 : T 32 = 3) (h31 : T 31 = -9) : ∀ c f, c < n → f < n → ∃ x y, qX7_claim R33 S K T (nI c) = some x ∧ qX7_claim R33 S K T (nI f) = some y ∧ (x ≤ y ↔ decide (c < f) = false) := by
  intro c f hc hf
  have key : ∀ c, c < n → qX7_claim R33 S K T (nI c) = some (-nI c) := by
    intro c hc
    unfold qX7_claim
    rw [if_neg (by rw [h3]; decide), if_neg (by rw [h3]; decide), if_pos h3, if_pos h31]
  refine ⟨_, _, key c hc, key f hf, ?_⟩
  rw [neg_le (by omega) (by omega), decide_eq_false_iff_not, Nat.not_lt]
theorem nxS_lt0 {A : Nat} : ∀ k, nxS A (fun c f => decide (c < f)) k = nxS A (fun _ _ => false) k := by
  intro k
  induction k with
  | zero => rfl
  | succ k ih =>
    rw [nxS, nxS, ih]
    cases hq : nxS A (fun _ _ => false) k with
    | none => rfl
    | some f =>
      have := (nxS_in _ _ k f hq).1
      have hd : decide (k < f) = false := decide_eq_false (by omega)
      simp [hd]
/-- NEXT: both sides find the same one -/
theorem next_eq {R22 R23 R33 R35 R36 P T : Row} {n t B a : Nat} (X : Cxt n t R22 R23 R33 R35 R36) (hA : Ag P T) (hI : Pin n t B P) (h30 : P 30 = nI a) (ha : a < 32) (h36 : P 36 = nI t) (hB : B < 2 ^ 30) : ∃ o : Option Nat, qX2_next R22 R23 P = some (enc o) ∧ qX7_nextOf R33 R35 R36 T = some (enc o) ∧ (∃ A, A < 32 ∧ (∀ c, c < 5 → A.testBit c = askB R23 P a t c) ∧ qX7_asksOf R33 R36 T = some (nI A) ∧ (o = none ↔ A = 0)) ∧ ∀ f, o = some f → f < n ∧ askB R23 P a t f = true := by
  obtain ⟨hn, h4, h25, ht, htn, hSK⟩ := X
  have X : Cxt n t R22 R23 R33 R35 R36 := ⟨hn, h4, h25, ht, htn, hSK⟩
  have hT30 : T 30 = nI a := by rw [← hA 30 (by omega) (by omega)]; exact h30
  obtain ⟨A, hA32, hAb, eC⟩ := ask_C (R23 := R23) h30 ha h36 ht
  obtain ⟨A', hA32', hAb', eR⟩ := ask_R X hT30 ha
  have eA : A' = A := tb_ext hA32' hA32 (fun c hc => by rw [hAb c hc, hAb' c hc, askB_ag X hA hc])
  subst eA
  have hin : ∀ c, c < 5 → A'.testBit c = true → c < n := by
    intro c hc h
    rw [hAb c hc] at h
    unfold askB at h
    simp only [Bool.and_eq_true] at h
    exact htn c hc h.1.1.2
  have hIT : Pin n t B T := by
    obtain ⟨a, r, th, ha, h30, hat, hl, hr, h32, hth, h34, hpop, hw, hq⟩ := hI
    refine ⟨a, r, th, ha, by rw [← hA 30 (by omega) (by omega)]; exact h30, hat, by rw [← hA 31 (by omega) (by omega)]; exact hl, hr, by rw [← hA 32 (by omega) (by omega)]; exact h32, hth, by rw [← hA 34 (by omega) (by omega)]; exact h34, hpop, fun c hc => by rw [← hA c (by omega) (by omega)]; exact hw c hc, fun c hc => by rw [← hA (10 + c) (by omega) (by omega)]; exact hq c hc⟩
  have h32 : P 32 = T 32 := hA 32 (by omega) (by omega)
  have h31 : P 31 = T 31 := hA 31 (by omega) (by omega)
  -- the rest, out of one value on both sides
  have fin : ∀ o : Option Nat, qX2_next R22 R23 P = some (enc o) → qX7_nextOf_12 R33 R35 R36 T 600 (nI A') (enc none) (nI 0) = some (enc o) → (∃ gt : Nat → Nat → Bool, o = nxS A' gt n) → ∃ o : Option Nat, qX2_next R22 R23 P = some (enc o) ∧ qX7_nextOf R33 R35 R36 T = some (enc o) ∧ (∃ A, A < 32 ∧ (∀ c, c < 5 → A.testBit c = askB R23 P a t c) ∧ qX7_asksOf R33 R36 T = some (nI A) ∧ (o = none ↔ A = 0)) ∧ ∀ f, o = some f → f < n ∧ askB R23 P a t f = true := by
    intro o e1 e2 ⟨gt, e3⟩
    refine ⟨o, e1, ?_, ⟨A', hA32, hAb, eR, ?_⟩, fun f hf => ?_⟩
    · unfold qX7_nextOf
      rw [bi1_t eR]
      exact e2
    · constructor
      · intro h
        rw [h] at e3
        refine (zero_tb0 ⟨A', hA32⟩).mpr (fun c => ?_)
        rcases Nat.lt_or_ge c.val n with q | q
        · exact nxS_none A' gt n e3.symm c.val q
        · cases hq : A'.testBit c.val with
          | false => rfl
          | true => exact absurd (hin c.val c.isLt hq) (by omega)
      · intro h
        cases ho : o with
        | none => rfl
        | some f =>
          rw [ho] at e3
          have := (nxS_in A' gt n f e3.symm).2
          rw [h] at this
          simp at this
    · rw [hf] at e3
      have h9 := nxS_in A' gt n f e3.symm
      exact ⟨h9.1, by rw [← hAb f (by omega)]; exact h9.2⟩
  have hR : ∀ gt : Nat → Nat → Bool, (∀ c f, c < n → f < n → ∃ x y, qX7_claim R33 R35 R36 T (nI c) = some x ∧ qX7_claim R33 R35 R36 T (nI f) = some y ∧ (x ≤ y ↔ gt c f = false)) → qX7_nextOf_12 R33 R35 R36 T 600 (nI A') (enc none) (nI 0) = some (enc (nxS A' gt n)) := by
    intro gt hcl
    have := next_R_loop hn h4 hA32 gt hcl n (599 - n) 0 (by omega)
    rw [show n + 1 + (599 - n) = 600 by omega] at this
    exact this
  have hC : ∀ (st : Nat) (F : Nat → Option Nat), st < 6 → F 0 = none → (∀ k, k < 5 → F (k + 1) = adv A' st (gtB R22 R23 P) (F k) k) → (∀ k f, k ≤ 5 → F k = some f → f < 5) → qX2_next_32 R22 R23 P (nI A') (nI st) = some (enc (F 5)) := by
    intro st F hst h0 hF hlt
    unfold qX2_next_32
    have := next_C_loop hA32 hst F hF hlt 5 594 0 (by omega)
    rw [h0] at this
    exact this
  unfold qX2_next at fin ⊢
  rw [bi1_t eC] at fin ⊢
  by_cases h3 : P 32 = 3
  · rw [if_pos h3] at fin ⊢
    have g0 : ∀ c f, gtB R22 R23 P c f = false := by
      intro c f
      unfold gtB
      rw [if_neg (by rw [h3]; decide), if_neg (by rw [h3]; decide), if_neg (by rw [h3]; decide)]
    have hcy : ∀ st k, cyS A' st (k + 1) = adv A' st (gtB R22 R23 P) (cyS A' st k) k := by
      intro st k
      rw [cyS]
      unfold adv
      cases cyS A' st k with
      | none => rfl
      | some f => dsimp only; rw [g0]; simp
    have hclt : ∀ st k f, cyS A' st k = some f → f < 5 := by
      intro st k
      induction k with
      | zero => intro f h; cases h
      | succ k ih =>
        intro f h
        rw [cyS] at h
        cases hq : cyS A' st k with
        | none =>
          rw [hq] at h
          dsimp only at h
          by_cases hb : A'.testBit ((st + k) % 5) = true
          · rw [if_pos hb] at h; cases h; exact Nat.mod_lt _ (by decide)
          · rw [if_neg hb] at h; cases h
        | some g => rw [hq] at h; have e := Option.some.inj h; subst e; exact ih _ hq
    by_cases h9 : P 31 = -9
    · rw [if_pos h9] at fin ⊢
      have e5 : nxS A' (fun _ _ => false) n = cyS A' 0 5 := by rw [← cyc_0 ⟨A', hA32⟩]; exact (nxS_ext hin 5 hn (Nat.le_refl 5)).symm
      refine fin (cyS A' 0 5) ?_ ?_ ⟨_, e5.symm⟩
      · unfold qX2_next_31
        exact hC 0 (cyS A' 0) (by omega) rfl (fun k _ => hcy 0 k) (fun k f _ h => hclt 0 k f h)
      · rw [← e5, ← nxS_lt0]
        exact hR _ (claim_30 hn (by rw [← h32]; exact h3) (by rw [← h31]; exact h9))
    · rw [if_neg h9] at fin ⊢
      obtain ⟨l, hl, e31⟩ : ∃ l, l < n ∧ P 31 = nI l := by
        obtain ⟨_, _, _, _, _, _, hl, _⟩ := hI
        exact hl.resolve_left h9
      have e5 : nxS A' (gtL n l) n = cyS A' (l + 1) 5 := cyc_all ⟨n, by omega⟩ ⟨l, by omega⟩ ⟨A', hA32⟩ hl (fun c h => hin c.val c.isLt h)
      refine fin (cyS A' (l + 1) 5) ?_ ?_ ⟨_, e5.symm⟩
      · rw [e31, nI_1]
        exact hC (l + 1) (cyS A' (l + 1)) (by omega) rfl (fun k _ => hcy (l + 1) k) (fun k f _ h => hclt (l + 1) k f h)
      · rw [← e5]
        exact hR _ (claim_3 hn h4 (by rw [← h32]; exact h3) hl (by rw [← h31]; exact e31))
  · rw [if_neg h3] at fin ⊢
    have hg : ∀ c f, c < n → f < n → gtB R22 R23 P c f = gtB R35 R36 T c f := by
      intro c f hc hf
      unfold gtB mgt
      rw [h32, (hSK c hc).1, (hSK c hc).2, (hSK f hf).1, (hSK f hf).2, hA (10 + c) (by omega) (by omega), hA (10 + f) (by omega) (by omega), hA (20 + c) (by omega) (by omega), hA (20 + f) (by omega) (by omega)]
    have e5 : nxS A' (gtB R22 R23 P) 5 = nxS A' (gtB R35 R36 T) n := by
      rw [nxS_ext hin 5 hn (Nat.le_refl 5), nxS_cong hg n (Nat.le_refl n)]
    refine fin (nxS A' (gtB R22 R23 P) 5) ?_ ?_ ⟨_, e5⟩
    · unfold qX2_next_31
      refine hC 0 (nxS A' (gtB R22 R23 P)) (by omega) rfl (fun k hk => ?_) (fun k f hk h => by have := (nxS_in _ _ k f h).1; omega)
      have hm : (0 + k) % 5 = k := by omega
      unfold adv
      rw [hm]
      rfl
    · rw [e5]
      exact hR _ (claim_n3 hIT hn hB (by rw [← h32]; exact h3))
