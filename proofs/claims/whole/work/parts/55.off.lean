theorem ag_upd {P T : Row} (h : Ag P T) (k : Nat) (x : Int32) : Ag (upd P k x) (upd T k x) := by
  intro j hj hz
  by_cases e : j = k
  · rw [e, upd_s, upd_s]
  · rw [upd_n x e, upd_n x e]
    exact h j hj hz
def offP (a c : Nat) (P : Row) : Row := upd (upd P 30 (nI (clr a c))) (5 + c) 0
def onP (a c : Nat) (P : Row) : Row := upd (upd (upd (upd P 30 (nI (stb a c))) (5 + c) 0) (20 + c) 0) 31 (nI c)
theorem ag_off {P T : Row} (h : Ag P T) (a c : Nat) : Ag (offP a c P) (offP a c T) := ag_upd (ag_upd h _ _) _ _
theorem ag_on {P T : Row} (h : Ag P T) (a c : Nat) : Ag (onP a c P) (onP a c T) := ag_upd (ag_upd (ag_upd (ag_upd h _ _) _ _) _ _) _ _
theorem off_C {P : Row} {a c : Nat} (h30 : P 30 = nI a) (ha : a < 32) (hc : c < 5) : qX2_getOff P (nI c) = some (offP a c P) := by
  unfold qX2_getOff offP
  rw [bd_t, ck_t (in5 hc), bd_t, cl_nI (by omega), h30, off_b ha hc]
theorem off_R {P : Row} {a c : Nat} (h30 : P 30 = nI a) (ha : a < 32) (hc : c < 5) : qX7_getOff P (nI c) = some (offP a c P) := by
  unfold qX7_getOff offP
  rw [bd_t, pl5, ck_t (in36 (by omega)), bd_t, cl_nI (by omega), h30, off_b ha hc]
theorem on_C {P : Row} {a c : Nat} (h30 : P 30 = nI a) (ha : a < 32) (hc : c < 5) : qX2_getOn P (nI c) = some (onP a c P) := by
  unfold qX2_getOn onP
  rw [bd_t, ck_t (in5 hc), bd_t, ck_t (in5 hc), bd_t, bd_t, cl_nI (by omega), h30, on_b ha hc]
theorem on_R {P : Row} {a c : Nat} (h30 : P 30 = nI a) (ha : a < 32) (hc : c < 5) : qX7_getOn P (nI c) = some (onP a c P) := by
  unfold qX7_getOn onP
  rw [bd_t, pl5, ck_t (in36 (by omega)), bd_t, pl20, ck_t (in36 (by omega)), bd_t, bd_t, cl_nI (by omega), cl_nI (by omega), h30, on_b ha hc]
theorem off_at {P : Row} {a c j : Nat} (h1 : j ≠ 30) (h2 : j ≠ 5 + c) : offP a c P j = P j := by
  unfold offP
  rw [upd_n _ h2, upd_n _ h1]
theorem off_30 {P : Row} {a c : Nat} (hc : c < 5) : offP a c P 30 = nI (clr a c) := by
  unfold offP
  rw [upd_n _ (by omega), upd_s]
theorem on_at {P : Row} {a c j : Nat} (h1 : j ≠ 30) (h2 : j ≠ 5 + c) (h3 : j ≠ 20 + c) (h4 : j ≠ 31) : onP a c P j = P j := by
  unfold onP
  rw [upd_n _ h4, upd_n _ h3, upd_n _ h2, upd_n _ h1]
theorem on_30 {P : Row} {a c : Nat} (hc : c < 5) : onP a c P 30 = nI (stb a c) := by
  unfold onP
  rw [upd_n _ (by omega), upd_n _ (by omega), upd_n _ (by omega), upd_s]
theorem on_31 {P : Row} {a c : Nat} : onP a c P 31 = nI c := by
  unfold onP
  rw [upd_s]
theorem off_swap {P : Row} {a c : Nat} (hc : c < 5) (x : Int32) : offP a c (upd P (25 + c) x) = upd (offP a c P) (25 + c) x := by
  unfold offP
  rw [upd_c P (show 25 + c ≠ 30 by omega), upd_c _ (show 25 + c ≠ 5 + c by omega)]
theorem push_C {P : Row} {a c : Nat} (h30 : P 30 = nI a) (ha : a < 32) (hc : c < 5) : qX2_pushOff P (nI c) = some (offP a c (upd P (25 + c) (P (25 + c) + 1))) := by
  unfold qX2_pushOff
  rw [bi1_t (off_C h30 ha hc), ck_t (in5 hc), ck_t (in5 hc), bd_t, cl_nI (by omega), off_at (by omega) (by omega), off_swap hc]
/-- alike; where Z says so, how long one rode may differ: such a one doesn't ride -/
def AgZ (Z : Nat → Bool) (a : Nat) (P T : Row) : Prop := Ag P T ∧ (∀ c, c < 5 → Z c = false → P (5 + c) = T (5 + c)) ∧ ∀ c, c < 5 → Z c = true → a.testBit c = false
theorem AgZ.rode {Z : Nat → Bool} {a c : Nat} {P T : Row} (h : AgZ Z a P T) (hc : c < 5) (hr : a.testBit c = true) : P (5 + c) = T (5 + c) := by
  refine h.2.1 c hc ?_
  cases hz : Z c with
  | false => rfl
  | true => rw [h.2.2 c hc hz] at hr; cases hr
theorem AgZ.upd {Z : Nat → Bool} {a : Nat} {P T : Row} (h : AgZ Z a P T) (k : Nat) (x : Int32) : AgZ Z a (upd P k x) (upd T k x) := by
  refine ⟨ag_upd h.1 k x, fun c hc hz => ?_, h.2.2⟩
  by_cases e : 5 + c = k
  · rw [e, upd_s, upd_s]
  · rw [upd_n x e, upd_n x e]
    exact h.2.1 c hc hz
/-- a page of the program and one of the reference, alike -/
def Two (n t B : Nat) (P T : Row) (a th : Nat) (Z : Nat → Bool) : Prop := AgZ Z a P T ∧ P 36 = nI t ∧ a < 32 ∧ P 30 = nI a ∧ (∀ c, c < 5 → a.testBit c = true → t.testBit c = true) ∧ (P 31 = -9 ∨ ∃ l, l < n ∧ P 31 = nI l) ∧ (∃ r, r < 4 ∧ P 32 = nI r) ∧ (th = 1 ∨ th = 2) ∧ P 34 = nI th ∧ pop a ≤ th ∧ (∀ c, c < n → ∃ w, w ≤ 9 ∧ P c = nI w) ∧ (∀ c, c < n → ∃ q, q ≤ B ∧ P (10 + c) = nI q)
theorem Two.pin {n t B a th : Nat} {P T : Row} {Z : Nat → Bool} (h : Two n t B P T a th Z) : Pin n t B P := by
  obtain ⟨-, -, ha, h30, hat, hl, ⟨r, hr, h32⟩, hth, h34, hp, hw, hq⟩ := h
  exact ⟨a, r, th, ha, h30, hat, hl, hr, h32, hth, h34, hp, hw, hq⟩
theorem clr_sub {a c t : Nat} (ha : a < 32) (hc : c < 5) (h : ∀ d, d < 5 → a.testBit d = true → t.testBit d = true) : ∀ d, d < 5 → (clr a c).testBit d = true → t.testBit d = true := by
  intro d hd hb
  rw [clr_b ha hc hd, Bool.and_eq_true] at hb
  exact h d hd hb.1
theorem pop_le {a c : Nat} (ha : a < 32) (hc : c < 5) : pop (clr a c) ≤ pop a := by
  rw [pop_off ha hc]
  split <;> omega
theorem Two.off {n t B a th : Nat} {P T : Row} {Z : Nat → Bool} (hn : n ≤ 5) (h : Two n t B P T a th Z) {c : Nat} (hc : c < 5) : Two n t B (offP a c P) (offP a c T) (clr a c) th Z := by
  obtain ⟨hA, h36, ha, h30, hat, hl, hr, hth, h34, hp, hw, hq⟩ := h
  refine ⟨⟨ag_off hA.1 a c, fun d hd hz => ?_, fun d hd hz => ?_⟩, by rw [off_at (by omega) (by omega)]; exact h36, clr_lt ha hc, off_30 hc, clr_sub ha hc hat, by rw [off_at (by omega) (by omega)]; exact hl, by rw [off_at (by omega) (by omega)]; exact hr, hth, by rw [off_at (by omega) (by omega)]; exact h34, Nat.le_trans (pop_le ha hc) hp, fun d hd => by rw [off_at (by omega) (by omega)]; exact hw d hd, fun d hd => by rw [off_at (by omega) (by omega)]; exact hq d hd⟩
  · by_cases e : d = c
    · subst e; unfold offP; rw [upd_s, upd_s]
    · rw [off_at (by omega) (by omega), off_at (by omega) (by omega)]; exact hA.2.1 d hd hz
  · rw [clr_b ha hc hd, hA.2.2 d hd hz, Bool.false_and]
theorem Two.howl {n t B a th : Nat} {P T : Row} {Z : Nat → Bool} (hn : n ≤ 5) (h : Two n t B P T a th Z) {c : Nat} (hc : c < 5) (x : Int32) : Two n t B (upd P (25 + c) x) (upd T (25 + c) x) a th Z := by
  obtain ⟨hA, h36, ha, h30, hat, hl, hr, hth, h34, hp, hw, hq⟩ := h
  refine ⟨hA.upd _ _, by rw [upd_n _ (by omega)]; exact h36, ha, by rw [upd_n _ (by omega)]; exact h30, hat, by rw [upd_n _ (by omega)]; exact hl, by rw [upd_n _ (by omega)]; exact hr, hth, by rw [upd_n _ (by omega)]; exact h34, hp, fun d hd => by rw [upd_n _ (by omega)]; exact hw d hd, fun d hd => by rw [upd_n _ (by omega)]; exact hq d hd⟩
theorem Two.on {n t B a th : Nat} {P T : Row} {Z : Nat → Bool} (hn : n ≤ 5) (h : Two n t B P T a th Z) {c : Nat} (hc : c < n) (ht : t.testBit c = true) (hz : a.testBit c = false) (hp1 : pop a + 1 ≤ th) : Two n t B (onP a c P) (onP a c T) (stb a c) th (fun d => Z d && !decide (d = c)) := by
  obtain ⟨hA, h36, ha, h30, hat, hl, hr, hth, h34, hp, hw, hq⟩ := h
  refine ⟨⟨ag_on hA.1 a c, fun d hd hz => ?_, fun d hd hz => ?_⟩, by rw [on_at (by omega) (by omega) (by omega) (by omega)]; exact h36, stb_lt ha (by omega), on_30 (by omega), fun d hd hb => ?_, Or.inr ⟨c, hc, on_31⟩, by rw [on_at (by omega) (by omega) (by omega) (by omega)]; exact hr, hth, by rw [on_at (by omega) (by omega) (by omega) (by omega)]; exact h34, by rw [pop_on ha (by omega) hz]; exact hp1, fun d hd => by rw [on_at (by omega) (by omega) (by omega) (by omega)]; exact hw d hd, fun d hd => by rw [on_at (by omega) (by omega) (by omega) (by omega)]; exact hq d hd⟩
  · by_cases e : d = c
    · subst e; unfold onP; rw [upd_n _ (by omega), upd_n _ (by omega), upd_s, upd_n _ (by omega), upd_n _ (by omega), upd_s]
    · rw [on_at (by omega) (by omega) (by omega) (by omega), on_at (by omega) (by omega) (by omega) (by omega)]
      refine hA.2.1 d hd ?_
      have hz2 : (Z d && !decide (d = c)) = false := hz
      rw [decide_eq_false e, Bool.not_false, Bool.and_true] at hz2
      exact hz2
  · have hz2 : (Z d && !decide (d = c)) = true := hz
    rw [Bool.and_eq_true, Bool.not_eq_true', decide_eq_false_iff_not] at hz2
    rw [stb_b ha (by omega) hd, hA.2.2 d hd hz2.1, decide_eq_false hz2.2, Bool.false_or]
  rw [stb_b ha (by omega) hd, Bool.or_eq_true] at hb
  rcases hb with hb | hb
  · exact hat d hd hb
  · rw [decide_eq_true_eq] at hb
    rw [hb]; exact ht
