theorem brC {β : Type} {P : Row} {a c : Nat} {k : Int32 → Option β} (h30 : P 30 = nI a) (ha : a < 32) (hc : c < 5) : bi1 (qX2_rides P (nI c)) k = if a.testBit c = true then k 1 else k 0 := by
  have e : qX2_rides P (nI c) = some (if a.testBit c = true then 1 else 0) := by
    unfold qX2_rides
    rw [h30, bhC ha hc]
    by_cases h : a.testBit c = true
    · rw [if_pos h, if_pos h, ck_t (by decide)]
    · rw [if_neg h, if_neg h, ck_t (by decide)]
  rw [bi1_t e]
  by_cases h : a.testBit c = true
  · rw [if_pos h, if_pos h]
  · rw [if_neg h, if_neg h]
theorem due_eq {R22 R23 R33 R35 R36 P T : Row} {n t B a th : Nat} {Z : Nat → Bool} (X : Cxt n t R22 R23 R33 R35 R36) (hB : B < 2 ^ 30) (h : Two n t B P T a th Z) {c : Nat} (hc : c < n) (hr : a.testBit c = true) : ∃ P1 T1 a1, qX2_getOffIfDue R22 R23 P (nI c) = some P1 ∧ qX7_lookAt R33 R35 R36 T (nI c) = some T1 ∧ Two n t B P1 T1 a1 th Z ∧ (∀ d, d < 5 → d ≠ c → a1.testBit d = a.testBit d) ∧ ∀ j, 10 ≤ j → j < 15 → P1 j = P j := by
  have hn := X.1
  have hSK := X.2.2.2.2.2
  have hZ := h.1
  have hA := h.1.1
  have h36 := h.2.1
  have ha := h.2.2.1
  have h30 := h.2.2.2.1
  have hw := h.2.2.2.2.2.2.2.2.2.2.1
  obtain ⟨o, eC, eR, -, ho⟩ := next_eq X hA h.pin h30 ha h36 hB
  have ho5 : ∀ f, o = some f → f < 5 := fun f hf => by have := (ho f hf).1; omega
  have hT30 : T 30 = nI a := by rw [← hA 30 (by omega) (by omega)]; exact h30
  have e1 := due_C h30 ha (show c < 5 by omega) o ho5 eC (fun hz => by
    obtain ⟨w, hw9, ew⟩ := hw c hc
    rw [ew] at hz ⊢
    have : w ≠ 0 := fun e => hz (by rw [e]; rfl)
    exact nI_nle (by omega) (by omega))
  have e2 := look_R (R33 := R33) (S := R35) (K := R36) hT30 ha (show c < 5 by omega) o ho5 eR
  have ep : pushd R35 R36 T o c = pushd R22 R23 P o c := by
    cases ho2 : o with
    | none => rfl
    | some f =>
      have hf := (ho f ho2).1
      unfold pushd mgt
      dsimp only
      rw [hA 32 (by omega) (by omega), (hSK c hc).1, (hSK c hc).2, (hSK f hf).1, (hSK f hf).2]
  have et : turnd R36 T o c = turnd R23 P o c := by
    cases ho2 : o with
    | none => rfl
    | some f =>
      unfold turnd
      dsimp only
      rw [hA 32 (by omega) (by omega), hA 33 (by omega) (by omega), hZ.rode (by omega) hr, (hSK c hc).2]
  rw [ep, et, ← hA c (by omega) (by omega), ← hA (25 + c) (by omega) (by omega)] at e2
  by_cases hcond : (decide (P c = 0) || pushd R22 R23 P o c || turnd R23 P o c) = true
  · rw [if_pos hcond] at e1 e2
    refine ⟨_, _, clr a c, e1, e2, (h.howl hn (show c < 5 by omega) _).off hn (by omega), fun d hd hne => ?_, fun j j1 j2 => by rw [off_at (by omega) (by omega), upd_n _ (by omega)]⟩
    rw [clr_b ha (by omega) hd, decide_eq_false hne, Bool.not_false, Bool.and_true]
  · rw [if_neg hcond] at e1 e2
    exact ⟨P, T, a, e1, e2, h, fun _ _ _ => rfl, fun _ _ _ => rfl⟩
def contC (R22 R23 P : Row) : Option Row := bi1 (qJ6_bitCount (P 30)) (fun r => qX2_passMinute_39 R22 R23 600 P ((P 34) - r))
theorem idleA {R22 R23 P : Row} {a : Nat} (h30 : P 30 = nI a) (ha : a < 32) : ∀ (d f k : Nat), k + d = 5 → (∀ c, k ≤ c → c < 5 → a.testBit c = false) → qX2_passMinute_2 R22 R23 (d + 1 + f) P (nI k) = contC R22 R23 P := by
  intro d
  induction d with
  | zero =>
    intro f k hk _
    rw [show 0 + 1 + f = f + 1 by omega, qX2_passMinute_2, if_pos (le5 (by omega) (by omega))]
    rfl
  | succ d ih =>
    intro f k hk hz
    rw [show d + 1 + 1 + f = (d + 1 + f) + 1 by omega, qX2_passMinute_2, if_neg (nle5 (by omega)), brC h30 ha (by omega), hz k (Nat.le_refl k) (by omega), if_neg (by decide), if_pos rfl]
    unfold qX2_passMinute_20
    rw [nI_1]
    exact ih f (k + 1) (by omega) (fun c h1 h2 => hz c (by omega) h2)
theorem loopA {R22 R23 R33 R35 R36 : Row} {n t B th a0 : Nat} {Z : Nat → Bool} (X : Cxt n t R22 R23 R33 R35 R36) (hB : B < 2 ^ 30) (ha0 : a0 < 32) : ∀ (d fC fR k : Nat) (P T : Row) (a : Nat), k + d = n → Two n t B P T a th Z → (∀ c, k ≤ c → c < 5 → a.testBit c = a0.testBit c) → ∃ P1 T1 a1, Two n t B P1 T1 a1 th Z ∧ qX2_passMinute_2 R22 R23 (d + (5 - n) + 1 + fC) P (nI k) = contC R22 R23 P1 ∧ qX7_goMinute_7 R33 R35 R36 (d + 1 + fR) T (nI a0) (nI k) = qX7_goMinute_35 R33 R35 R36 600 T1 ∧ ∀ j, 10 ≤ j → j < 15 → P1 j = P j := by
  have hn := X.1
  have h4 := X.2.1
  have htn := X.2.2.2.2.1
  intro d
  induction d with
  | zero =>
    intro fC fR k P T a hk h hbit
    refine ⟨P, T, a, h, ?_, ?_, fun _ _ _ => rfl⟩
    · rw [show 0 + (5 - n) + 1 + fC = (5 - n) + 1 + fC by omega]
      refine idleA h.2.2.2.1 h.2.2.1 (5 - n) fC k (by omega) (fun c h1 h2 => ?_)
      cases hq : a.testBit c with
      | false => rfl
      | true => exact absurd (htn c h2 (h.2.2.2.2.1 c h2 hq)) (by omega)
    · rw [show 0 + 1 + fR = fR + 1 by omega, qX7_goMinute_7, h4, if_pos (nI_le (by omega) (by omega))]
  | succ d ih =>
    intro fC fR k P T a hk h hbit
    have hb := hbit k (Nat.le_refl k) (by omega)
    by_cases hr : a0.testBit k = true
    · obtain ⟨P1, T1, a1, e1, e2, h1, hbit1, t1⟩ := due_eq X hB h (show k < n by omega) (by rw [hb]; exact hr)
      obtain ⟨P2, T2, a2, h2, e3, e4, t2⟩ := ih fC fR (k + 1) P1 T1 a1 (by omega) h1 (fun c h3 h5 => by rw [hbit1 c h5 (by omega)]; exact hbit c (by omega) h5)
      refine ⟨P2, T2, a2, h2, ?_, ?_, fun j j1 j2 => by rw [t2 j j1 j2, t1 j j1 j2]⟩
      · rw [show d + 1 + (5 - n) + 1 + fC = (d + (5 - n) + 1 + fC) + 1 by omega, qX2_passMinute_2, if_neg (nle5 (by omega)), brC h.2.2.2.1 h.2.2.1 (by omega), hb, if_pos hr, if_neg one_ne, bi1_t e1]
        unfold qX2_passMinute_20
        rw [nI_1]
        exact e3
      · rw [show d + 1 + 1 + fR = (d + 1 + fR) + 1 by omega, qX7_goMinute_7, h4, if_neg (nI_ge (by omega) (by omega)), bhR ha0 (by omega), if_pos hr, if_neg one_ne, bi1_t e2]
        unfold qX7_goMinute_29
        rw [nI_1]
        exact e4
    · obtain ⟨P2, T2, a2, h2, e3, e4, t2⟩ := ih fC fR (k + 1) P T a (by omega) h (fun c h3 h5 => hbit c (by omega) h5)
      refine ⟨P2, T2, a2, h2, ?_, ?_, t2⟩
      · rw [show d + 1 + (5 - n) + 1 + fC = (d + (5 - n) + 1 + fC) + 1 by omega, qX2_passMinute_2, if_neg (nle5 (by omega)), brC h.2.2.2.1 h.2.2.1 (by omega), hb, if_neg hr, if_pos rfl]
        unfold qX2_passMinute_20
        rw [nI_1]
        exact e3
      · rw [show d + 1 + 1 + fR = (d + 1 + fR) + 1 by omega, qX7_goMinute_7, h4, if_neg (nI_ge (by omega) (by omega)), bhR ha0 (by omega), if_neg hr, if_pos rfl]
        unfold qX7_goMinute_29
        rw [nI_1]
        exact e4
theorem fill {R22 R23 R33 R35 R36 : Row} {n t B th : Nat} (X : Cxt n t R22 R23 R33 R35 R36) (hB : B < 2 ^ 30) : ∀ (d fC fR : Nat) (P T : Row) (a : Nat) (Z : Nat → Bool), Two n t B P T a th Z → pop a + d = th → ∃ P1 T1 a1 Z1, Two n t B P1 T1 a1 th Z1 ∧ (∀ c, Z1 c = true → Z c = true) ∧ qX2_passMinute_39 R22 R23 (d + 1 + fC) P (nI d) = qX2_passMinute_68 R22 R23 P1 ∧ qX7_goMinute_35 R33 R35 R36 (d + 1 + fR) T = qX7_goMinute_69 R33 R35 R36 T1 ∧ ∀ j, 10 ≤ j → j < 15 → P1 j = P j := by
  have hn := X.1
  intro d
  induction d with
  | zero =>
    intro fC fR P T a Z h hp
    have hA := h.1.1
    have hT30 : T 30 = nI a := by rw [← hA 30 (by omega) (by omega)]; exact h.2.2.2.1
    have hT34 : T 34 = nI th := by rw [← hA 34 (by omega) (by omega)]; exact h.2.2.2.2.2.2.2.2.1
    have hth : th = 1 ∨ th = 2 := h.2.2.2.2.2.2.2.1
    refine ⟨P, T, a, Z, h, fun _ hz => hz, ?_, ?_, fun _ _ _ => rfl⟩
    · rw [show 0 + 1 + fC = fC + 1 by omega, qX2_passMinute_39, if_pos (by decide)]
    · rw [show 0 + 1 + fR = fR + 1 by omega, qX7_goMinute_35, hT30, bi1_t (bc_R h.2.2.1), hT34, if_pos (nI_le (by omega) (by omega))]
  | succ d ih =>
    intro fC fR P T a Z h hp
    have hA := h.1.1
    have ha := h.2.2.1
    have hT30 : T 30 = nI a := by rw [← hA 30 (by omega) (by omega)]; exact h.2.2.2.1
    have hT34 : T 34 = nI th := by rw [← hA 34 (by omega) (by omega)]; exact h.2.2.2.2.2.2.2.2.1
    have hth : th = 1 ∨ th = 2 := h.2.2.2.2.2.2.2.1
    obtain ⟨o, eC, eR, ⟨A, hA32, hAb, eA, hoA⟩, ho⟩ := next_eq X hA h.pin h.2.2.2.1 ha h.2.1 hB
    have c1 : qX2_passMinute_39 R22 R23 (d + 1 + 1 + fC) P (nI (d + 1)) = if enc o = (-9 : Int32) then qX2_passMinute_68 R22 R23 P else bi1 (qX2_getOn P (enc o)) (fun P36 => qX2_passMinute_39 R22 R23 (d + 1 + fC) P36 (nI d)) := by
      rw [show d + 1 + 1 + fC = (d + 1 + fC) + 1 by omega, qX2_passMinute_39, if_neg (nI_nle (by omega) (by omega)), bi1_t eC, pk_m1]
    have r1 : qX7_goMinute_35 R33 R35 R36 (d + 1 + 1 + fR) T = if nI A = 0 then qX7_goMinute_69 R33 R35 R36 T else bi1 (qX7_getOn T (enc o)) (fun P38 => qX7_goMinute_35 R33 R35 R36 (d + 1 + fR) P38) := by
      rw [show d + 1 + 1 + fR = (d + 1 + fR) + 1 by omega, qX7_goMinute_35, hT30, bi1_t (bc_R ha), hT34, if_neg (nI_ge (by omega) (by omega)), bi1_t eA, bi1_t eR]
    cases ho2 : o with
    | none =>
      rw [ho2] at c1 r1 hoA
      refine ⟨P, T, a, Z, h, fun _ hz => hz, ?_, ?_, fun _ _ _ => rfl⟩
      · rw [c1, if_pos (show enc none = (-9 : Int32) from rfl)]
      · rw [r1, if_pos (by rw [hoA.mp rfl]; rfl)]
    | some c =>
      rw [ho2] at c1 r1 hoA
      obtain ⟨hcn, hask⟩ := ho c ho2
      unfold askB at hask
      simp only [Bool.and_eq_true, Bool.not_eq_true'] at hask
      have hz : a.testBit c = false := hask.1.2
      have htc : t.testBit c = true := hask.1.1.2
      have hA0 : ¬ A = 0 := fun e => by have := hoA.mpr e; cases this
      obtain ⟨P2, T2, a2, Z2, h2, hz2, e3, e4, t2⟩ := ih fC fR (onP a c P) (onP a c T) (stb a c) _ (h.on hn hcn htc hz (by omega)) (by rw [pop_on ha (by omega) hz]; omega)
      refine ⟨P2, T2, a2, Z2, h2, fun d hd => by have := hz2 d hd; rw [Bool.and_eq_true] at this; exact this.1, ?_, ?_, fun j j1 j2 => by rw [t2 j j1 j2, on_at (by omega) (by omega) (by omega) (by omega)]⟩
      · rw [c1, show enc (some c) = nI c from rfl, if_neg (enc_none (by omega)), bi1_t (on_C h.2.2.2.1 ha (by omega))]
        exact e3
      · rw [r1, if_neg (nI_ne0 (by omega) (by omega)), show enc (some c) = nI c from rfl, bi1_t (on_R hT30 ha (by omega))]
        exact e4
