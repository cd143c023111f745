/-- what the reference does with one that rides as a minute begins -/
def pushd (S K T : Row) (o : Option Nat) (c : Nat) : Bool := match o with
  | none => false
  | some f => decide (T 32 = 0) && !decide (mgt S K f ≤ mgt S K c)
def turnd (K T : Row) (o : Option Nat) (c : Nat) : Bool := match o with
  | none => false
  | some _ => !decide (T (5 + c) < T 33) && (!decide (T 32 = 0) || decide (K c = 3))
def bI (b : Bool) : Int32 := if b = true then 1 else 0
theorem bI_z (b : Bool) : bI b = 0 ↔ b = false := by cases b <;> simp [bI]
theorem look_111 {R33 S K T : Row} {a c : Nat} (h30 : T 30 = nI a) (ha : a < 32) (hc : c < 5) (pu : Bool) : qX7_lookAt_111 R33 S K T (nI c) (bI pu) = some (offP a c (upd T (25 + c) (T (25 + c) + bI (pu && !decide (T c ≤ 0))))) := by
  have h136 : ∀ x : Int32, qX7_lookAt_136 R33 S K T (nI c) (nI (25 + c)) (T (25 + c)) x = some (offP a c (upd T (25 + c) (T (25 + c) + x))) := by
    intro x
    unfold qX7_lookAt_136
    rw [ck_t (in36 (by omega)), bd_t, cl_nI (by omega), bi1_t (off_R (by rw [upd_n _ (by omega)]; exact h30) ha hc)]
  unfold qX7_lookAt_111
  rw [pl25, ck_t (in36 (by omega)), cl_nI (by omega)]
  cases pu with
  | false =>
    rw [if_pos ((bI_z false).mpr rfl)]
    unfold qX7_lookAt_135
    rw [h136]
    rfl
  | true =>
    rw [if_neg (fun h => by rw [bI_z] at h; cases h), pl0, ck_t (in36 (by omega)), cl_nI (by omega), Nat.zero_add]
    by_cases h : T c ≤ 0
    · rw [if_pos h]
      unfold qX7_lookAt_135
      rw [h136, decide_eq_true h]
      rfl
    · rw [if_neg h, h136, decide_eq_false h]
      rfl
theorem look_91 {R33 S K T : Row} {a c : Nat} (h30 : T 30 = nI a) (ha : a < 32) (hc : c < 5) (pu tu : Bool) : qX7_lookAt_91 R33 S K T (nI c) (bI pu) (bI tu) = some (if (decide (T c = 0) || pu || tu) = true then offP a c (upd T (25 + c) (T (25 + c) + bI (pu && !decide (T c ≤ 0)))) else T) := by
  unfold qX7_lookAt_91
  rw [pl0, ck_t (in36 (by omega)), cl_nI (by omega), Nat.zero_add]
  by_cases h : T c = 0
  · rw [if_pos h, look_111 h30 ha hc, decide_eq_true h, Bool.true_or, Bool.true_or, if_pos rfl]
  · rw [if_neg h, decide_eq_false h, Bool.false_or]
    cases pu with
    | true => rw [if_neg (fun h => by rw [bI_z] at h; cases h), look_111 h30 ha hc, Bool.true_or, if_pos rfl]
    | false =>
      rw [if_pos ((bI_z false).mpr rfl), Bool.false_or]
      cases tu with
      | true => rw [if_neg (fun h => by rw [bI_z] at h; cases h), look_111 h30 ha hc, if_pos rfl]
      | false => rw [if_pos ((bI_z false).mpr rfl), if_neg (by decide)]
theorem look_56 {R33 S K T : Row} {a c : Nat} (h30 : T 30 = nI a) (ha : a < 32) (hc : c < 5) (o : Option Nat) (ho : ∀ f, o = some f → f < 5) (pu : Bool) : qX7_lookAt_56 R33 S K T (nI c) (enc o) (bI (!decide (T (5 + c) < T 33))) (bI pu) = some (if (decide (T c = 0) || pu || turnd K T o c) = true then offP a c (upd T (25 + c) (T (25 + c) + bI (pu && !decide (T c ≤ 0)))) else T) := by
  unfold qX7_lookAt_56
  have h90 : turnd K T o c = false → qX7_lookAt_90 R33 S K T (nI c) (bI pu) = some (if (decide (T c = 0) || pu || turnd K T o c) = true then offP a c (upd T (25 + c) (T (25 + c) + bI (pu && !decide (T c ≤ 0)))) else T) := by
    intro h
    unfold qX7_lookAt_90
    rw [h]
    exact look_91 h30 ha hc pu false
  have h86 : turnd K T o c = true → qX7_lookAt_86 R33 S K T (nI c) (bI pu) = some (if (decide (T c = 0) || pu || turnd K T o c) = true then offP a c (upd T (25 + c) (T (25 + c) + bI (pu && !decide (T c ≤ 0)))) else T) := by
    intro h
    unfold qX7_lookAt_86
    rw [h]
    exact look_91 h30 ha hc pu true
  cases o with
  | none =>
    rw [if_pos (show enc none = (-9 : Int32) from rfl)]
    exact h90 rfl
  | some f =>
    rw [show enc (some f) = nI f from rfl, if_neg (enc_none (ho f rfl))]
    by_cases hl : T (5 + c) < T 33
    · rw [if_pos ((bI_z _).mpr (by rw [decide_eq_true hl]; rfl))]
      exact h90 (by unfold turnd; simp [hl])
    · rw [if_neg (fun h => by rw [bI_z, decide_eq_false hl] at h; cases h)]
      by_cases h0 : T 32 = 0
      · rw [if_pos h0, ck_t (in5 hc), cl_nI (by omega)]
        by_cases h3 : K c = 3
        · rw [if_pos h3]
          exact h86 (by unfold turnd; simp [hl, h3])
        · rw [if_neg h3]
          exact h90 (by unfold turnd; simp [h0, h3])
      · rw [if_neg h0]
        exact h86 (by unfold turnd; simp [hl, h0])
theorem look_R {R33 S K T : Row} {a c : Nat} (h30 : T 30 = nI a) (ha : a < 32) (hc : c < 5) (o : Option Nat) (ho : ∀ f, o = some f → f < 5) (hn : qX7_nextOf R33 S K T = some (enc o)) : qX7_lookAt R33 S K T (nI c) = some (if (decide (T c = 0) || pushd S K T o c || turnd K T o c) = true then offP a c (upd T (25 + c) (T (25 + c) + bI (pushd S K T o c && !decide (T c ≤ 0)))) else T) := by
  have h23 : qX7_lookAt_23 R33 S K T (nI c) (enc o) (bI (!decide (T (5 + c) < T 33))) = some (if (decide (T c = 0) || pushd S K T o c || turnd K T o c) = true then offP a c (upd T (25 + c) (T (25 + c) + bI (pushd S K T o c && !decide (T c ≤ 0)))) else T) := by
    unfold qX7_lookAt_23
    have h55 : pushd S K T o c = false → qX7_lookAt_55 R33 S K T (nI c) (enc o) (bI (!decide (T (5 + c) < T 33))) = some (if (decide (T c = 0) || pushd S K T o c || turnd K T o c) = true then offP a c (upd T (25 + c) (T (25 + c) + bI (pushd S K T o c && !decide (T c ≤ 0)))) else T) := by
      intro h
      unfold qX7_lookAt_55
      rw [h]
      exact look_56 h30 ha hc o ho false
    cases ho2 : o with
    | none =>
      rw [if_pos (show enc none = (-9 : Int32) from rfl)]
      rw [ho2] at h55
      exact h55 rfl
    | some f =>
      have hf := ho f ho2
      rw [ho2] at h55
      rw [show enc (some f) = nI f from rfl, if_neg (enc_none hf)]
      by_cases h0 : T 32 = 0
      · rw [if_pos h0, bi1_t (might_R S K hf), bi1_t (might_R S K hc)]
        by_cases hm : mgt S K f ≤ mgt S K c
        · rw [if_pos hm]
          exact h55 (by unfold pushd; simp [hm])
        · rw [if_neg hm]
          have hp : pushd S K T (some f) c = true := by unfold pushd; simp [h0, hm]
          rw [hp]
          exact look_56 h30 ha hc (some f) (fun g hg => by cases hg; exact hf) true
      · rw [if_neg h0]
        exact h55 (by unfold pushd; simp [h0])
  unfold qX7_lookAt
  rw [bi1_t hn, pl5, ck_t (in36 (by omega)), cl_nI (by omega)]
  by_cases hl : T (5 + c) < T 33
  · rw [if_pos hl]
    rw [decide_eq_true hl] at h23
    exact h23
  · rw [if_neg hl]
    rw [decide_eq_false hl] at h23
    exact h23
theorem due_C {R22 R23 P : Row} {a c : Nat} (h30 : P 30 = nI a) (ha : a < 32) (hc : c < 5) (o : Option Nat) (ho : ∀ f, o = some f → f < 5) (hn : qX2_next R22 R23 P = some (enc o)) (hw : ¬ P c = 0 → ¬ P c ≤ 0) : qX2_getOffIfDue R22 R23 P (nI c) = some (if (decide (P c = 0) || pushd R22 R23 P o c || turnd R23 P o c) = true then offP a c (upd P (25 + c) (P (25 + c) + bI (pushd R22 R23 P o c && !decide (P c ≤ 0)))) else P) := by
  unfold qX2_getOffIfDue
  rw [ck_t (in5 hc), cl_nI (by omega), Nat.zero_add]
  have hz : upd P (25 + c) (P (25 + c) + bI false) = P := by
    rw [show bI false = 0 from rfl, show P (25 + c) + 0 = P (25 + c) by simp, upd_i]
  by_cases h : P c = 0
  · rw [if_pos h, bi1_t (off_C h30 ha hc), decide_eq_true h, Bool.true_or, Bool.true_or, if_pos rfl, show decide (P c ≤ 0) = true by rw [h]; decide, Bool.not_true, Bool.and_false, hz]
  · rw [if_neg h, bi1_t hn, decide_eq_false h, Bool.false_or, decide_eq_false (hw h), Bool.not_false, Bool.and_true]
    have h61 : pushd R22 R23 P o c = false → (∃ f, o = some f) → qX2_getOffIfDue_61 R22 R23 P (nI c) = some (if (pushd R22 R23 P o c || turnd R23 P o c) = true then offP a c (upd P (25 + c) (P (25 + c) + bI (pushd R22 R23 P o c))) else P) := by
      intro hp ⟨f, hf⟩
      rw [hp, Bool.false_or, hz]
      unfold qX2_getOffIfDue_61 qX2_getOffIfDue_94
      rw [ck_t (in5 hc), cl_nI (by omega), hf]
      unfold turnd
      dsimp only
      by_cases hl : P (5 + c) < P 33
      · rw [if_pos hl, decide_eq_true hl]
        rfl
      · rw [if_neg hl, decide_eq_false hl, Bool.not_false, Bool.true_and]
        by_cases h0 : P 32 = 0
        · rw [if_pos h0, ck_t (in5 hc), decide_eq_true h0, Bool.not_true, Bool.false_or]
          by_cases h3 : R23 c = 3
          · rw [if_pos h3, decide_eq_true h3, bi1_t (off_C h30 ha hc), if_pos rfl]
          · rw [if_neg h3, decide_eq_false h3, if_neg (by decide)]
        · rw [if_neg h0, decide_eq_false h0, Bool.not_false, Bool.true_or, bi1_t (off_C h30 ha hc), if_pos rfl]
    cases ho2 : o with
    | none =>
      rw [show enc none = (-9 : Int32) from rfl, if_pos rfl]
      rfl
    | some f =>
      have hf := ho f ho2
      rw [ho2] at h61
      rw [show enc (some f) = nI f from rfl, if_neg (enc_none hf)]
      by_cases h0 : P 32 = 0
      · rw [if_pos h0, bi1_t (might_C R22 R23 hf), bi1_t (might_C R22 R23 hc)]
        by_cases hm : mgt R22 R23 f ≤ mgt R22 R23 c
        · rw [if_pos hm]
          exact h61 (by unfold pushd; simp [hm]) ⟨f, rfl⟩
        · rw [if_neg hm]
          have hp : pushd R22 R23 P (some f) c = true := by unfold pushd; simp [h0, hm]
          rw [hp, bi1_t (push_C h30 ha hc), Bool.true_or, if_pos rfl]
          rfl
      · rw [if_neg h0]
        exact h61 (by unfold pushd; simp [h0]) ⟨f, rfl⟩
