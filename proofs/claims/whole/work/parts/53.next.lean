def enc (o : Option Nat) : Int32 := match o with
  | none => -9
  | some f => nI f
def nxS (A : Nat) (gt : Nat → Nat → Bool) : Nat → Option Nat
  | 0 => none
  | k + 1 => match nxS A gt k with
    | none => if A.testBit k then some k else none
    | some f => if A.testBit k && gt k f then some k else some f
def cyS (A st : Nat) : Nat → Option Nat
  | 0 => none
  | k + 1 => match cyS A st k with
    | none => if A.testBit ((st + k) % 5) then some ((st + k) % 5) else none
    | some f => some f
def gtL (n l c f : Nat) : Bool := decide ((c + 10 * n - l - 1) % n < (f + 10 * n - l - 1) % n)
theorem enc_none {f : Nat} (h : f < 5) : ¬ nI f = (-9 : Int32) := by
  rcases (show f = 0 ∨ f = 1 ∨ f = 2 ∨ f = 3 ∨ f = 4 by omega) with rfl | rfl | rfl | rfl | rfl <;> decide
theorem nxS_in (A : Nat) (gt : Nat → Nat → Bool) : ∀ (k f : Nat), nxS A gt k = some f → f < k ∧ A.testBit f = true := by
  intro k
  induction k with
  | zero => intro f h; cases h
  | succ k ih =>
    intro f h
    unfold nxS at h
    cases hq : nxS A gt k with
    | none =>
      rw [hq] at h
      dsimp only at h
      by_cases hb : A.testBit k = true
      · rw [if_pos hb] at h; cases h; exact ⟨by omega, hb⟩
      · rw [if_neg hb] at h; cases h
    | some g =>
      rw [hq] at h
      dsimp only at h
      obtain ⟨h1, h2⟩ := ih g hq
      by_cases hb : (A.testBit k && gt k g) = true
      · rw [if_pos hb] at h; cases h; exact ⟨by omega, (Bool.and_eq_true _ _ ▸ hb).1⟩
      · rw [if_neg hb] at h; cases h; exact ⟨by omega, h2⟩
theorem nxS_none (A : Nat) (gt : Nat → Nat → Bool) : ∀ (k : Nat), nxS A gt k = none → ∀ c, c < k → A.testBit c = false := by
  intro k
  induction k with
  | zero => intro _ c h; omega
  | succ k ih =>
    intro h c hc
    unfold nxS at h
    cases hq : nxS A gt k with
    | none =>
      rw [hq] at h
      dsimp only at h
      by_cases hb : A.testBit k = true
      · rw [if_pos hb] at h; cases h
      · rcases Nat.lt_or_ge c k with h1 | h1
        · exact ih hq c h1
        · rw [show c = k by omega]; simpa using hb
    | some g =>
      rw [hq] at h
      dsimp only at h
      by_cases hb : (A.testBit k && gt k g) = true
      · rw [if_pos hb] at h; cases h
      · rw [if_neg hb] at h; cases h
theorem nxS_ext {A n : Nat} {gt : Nat → Nat → Bool} (h : ∀ c, c < 5 → A.testBit c = true → c < n) : ∀ (k : Nat), n ≤ k → k ≤ 5 → nxS A gt k = nxS A gt n := by
  intro k
  induction k with
  | zero => intro h1 _; rw [show n = 0 by omega]
  | succ k ih =>
    intro h1 h2
    rcases Nat.lt_or_ge k n with h3 | h3
    · rw [show n = k + 1 by omega]
    · have hz : A.testBit k = false := by
        cases hq : A.testBit k with
        | false => rfl
        | true => exact absurd (h k (by omega) hq) (by omega)
      rw [← ih h3 (by omega), nxS]
      cases nxS A gt k with
      | none => simp [hz]
      | some f => simp [hz]
theorem nxS_cong {A : Nat} {g1 g2 : Nat → Nat → Bool} {n : Nat} (h : ∀ c f, c < n → f < n → g1 c f = g2 c f) : ∀ k, k ≤ n → nxS A g1 k = nxS A g2 k := by
  intro k
  induction k with
  | zero => intro _; rfl
  | succ k ih =>
    intro hk
    have e := ih (by omega)
    rw [nxS, nxS, e]
    cases hq : nxS A g2 k with
    | none => rfl
    | some f =>
      have := (nxS_in A g2 k f hq).1
      dsimp only
      rw [h k f (by omega) (by omega)]
theorem cyc_all : ∀ n : Fin 6, ∀ l : Fin 5, ∀ A : Fin 32, l.val < n.val → (∀ c : Fin 5, A.val.testBit c.val = true → c.val < n.val) → nxS A.val (gtL n.val l.val) n.val = cyS A.val (l.val + 1) 5 := by decide +kernel
theorem cyc_0 : ∀ A : Fin 32, nxS A.val (fun _ _ => false) 5 = cyS A.val 0 5 := by decide +kernel
theorem mod5_0 : ∀ s : Fin 6, ∀ k : Fin 5, (nI s.val + nI k.val) - (nI s.val + nI k.val) / (5 : Int32) * (5 : Int32) = nI ((s.val + k.val) % 5) := by decide +kernel
theorem mod5 {s k : Nat} (hs : s < 6) (hk : k < 5) : (nI s + nI k) - (nI s + nI k) / (5 : Int32) * (5 : Int32) = nI ((s + k) % 5) := mod5_0 ⟨s, hs⟩ ⟨k, hk⟩
def mgt (S K : Row) (c : Nat) : Int32 := if K c = 1 then S c + 2 else S c + 0
theorem might_C (S K : Row) {c : Nat} (hc : c < 5) : qX1_might S K (nI c) = some (mgt S K c) := by
  unfold qX1_might mgt
  rw [ck_t (in5 hc), ck_t (in5 hc), cl_nI (by omega)]
  by_cases h : K c = 1
  · rw [if_pos h, if_pos h]
  · rw [if_neg h, if_neg h]
theorem might_R (S K : Row) {c : Nat} (hc : c < 5) : qX7_might S K (nI c) = some (mgt S K c) := by
  unfold qX7_might mgt
  rw [ck_t (in5 hc), ck_t (in5 hc), cl_nI (by omega)]
  by_cases h : K c = 1
  · rw [if_pos h, if_pos h]
  · rw [if_neg h, if_neg h]
def gtB (S K P : Row) (c f : Nat) : Bool := if P 32 = 0 then !decide (mgt S K c ≤ mgt S K f) else if P 32 = 1 then !decide (P (10 + f) ≤ P (10 + c)) else if P 32 = 2 then !decide (P (20 + c) ≤ P (20 + f)) else false
theorem ite_dec {p : Prop} [Decidable p] : (if p then (some (0 : Int32)) else some 1) = some (if (!decide p) = true then 1 else 0) := by
  by_cases h : p
  · rw [if_pos h, decide_eq_true h]; rfl
  · rw [if_neg h, decide_eq_false h]; rfl
theorem ahead_C (S K P : Row) {c f : Nat} (hc : c < 5) (hf : f < 5) : qX2_comesAhead S K P (nI c) (nI f) = some (if gtB S K P c f = true then 1 else 0) := by
  unfold qX2_comesAhead gtB
  by_cases h0 : P 32 = 0
  · rw [if_pos h0, if_pos h0, bi1_t (might_C S K hc), bi1_t (might_C S K hf), ite_dec]
  · rw [if_neg h0, if_neg h0]
    by_cases h1 : P 32 = 1
    · rw [if_pos h1, if_pos h1, ck_t (in5 hc), ck_t (in5 hf), cl_nI (by omega), cl_nI (by omega), ite_dec]
    · rw [if_neg h1, if_neg h1]
      by_cases h2 : P 32 = 2
      · rw [if_pos h2, if_pos h2, ck_t (in5 hc), ck_t (in5 hf), cl_nI (by omega), cl_nI (by omega), ite_dec]
      · rw [if_neg h2, if_neg h2]
        rfl
/-- the program's search: from a start, round and round -/
def adv (A st : Nat) (gt : Nat → Nat → Bool) (o : Option Nat) (k : Nat) : Option Nat := match o with
  | none => if A.testBit ((st + k) % 5) then some ((st + k) % 5) else none
  | some f => if A.testBit ((st + k) % 5) && gt ((st + k) % 5) f then some ((st + k) % 5) else some f
theorem next_C_loop {S K P : Row} {A st : Nat} (hA : A < 32) (hst : st < 6) (F : Nat → Option Nat) (hF : ∀ k, k < 5 → F (k + 1) = adv A st (gtB S K P) (F k) k) (hlt : ∀ k f, k ≤ 5 → F k = some f → f < 5) : ∀ (d f k : Nat), k + d = 5 → qX2_next_39 S K P (d + 1 + f) (nI A) (nI st) (enc (F k)) (nI k) = some (enc (F 5)) := by
  intro d
  induction d with
  | zero =>
    intro f k hk
    rw [show 0 + 1 + f = f + 1 by omega, qX2_next_39, if_pos (le5 (by omega) (by omega)), show k = 5 by omega]
  | succ d ih =>
    intro f k hk
    have hm : (st + k) % 5 < 5 := Nat.mod_lt _ (by decide)
    rw [show d + 1 + 1 + f = (d + 1 + f) + 1 by omega, qX2_next_39, if_neg (nle5 (by omega)), mod5 hst (by omega), bhC hA hm]
    have h81 : F (k + 1) = F k → qX2_next_81 S K P (qX2_next_39 S K P (d + 1 + f)) (nI A) (nI st) (enc (F k)) (nI k) = some (enc (F 5)) := by
      intro e
      unfold qX2_next_81
      rw [nI_1, ← e]
      exact ih f (k + 1) (by omega)
    have h78 : F (k + 1) = some ((st + k) % 5) → qX2_next_78 S K P (qX2_next_39 S K P (d + 1 + f)) (nI A) (nI st) (nI k) (nI ((st + k) % 5)) = some (enc (F 5)) := by
      intro e
      unfold qX2_next_78 qX2_next_81
      rw [nI_1, show nI ((st + k) % 5) = enc (F (k + 1)) by rw [e]; rfl]
      exact ih f (k + 1) (by omega)
    have hs := hF k (by omega)
    by_cases hb : A.testBit ((st + k) % 5) = true
    · rw [if_pos hb, if_neg one_ne]
      cases hq : F k with
      | none =>
        rw [hq] at hs
        rw [show enc none = (-9 : Int32) from rfl, if_pos rfl]
        exact h78 (by rw [hs]; unfold adv; rw [if_pos hb])
      | some g =>
        have hg := hlt k g (by omega) hq
        rw [show enc (some g) = nI g from rfl, if_neg (enc_none hg), bi1_t (ahead_C S K P hm hg)]
        rw [hq] at hs
        by_cases hgt : gtB S K P ((st + k) % 5) g = true
        · rw [if_pos hgt, if_neg one_ne]
          exact h78 (by rw [hs]; unfold adv; simp [hb, hgt])
        · rw [if_neg hgt, if_pos rfl]
          have := h81 (by rw [hs, hq]; unfold adv; simp [hgt])
          rw [hq] at this
          exact this
    · rw [if_neg hb, if_pos rfl]
      refine h81 ?_
      rw [hs]
      unfold adv
      cases F k with
      | none => simp [hb]
      | some g => simp [hb]
