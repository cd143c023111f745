/-! chances -/
theorem has64_C0 : ∀ a : Fin 64, ∀ c : Fin 6, qX6_has (nI a.val) (nI c.val) = some (if a.val.testBit c.val = true then 1 else 0) := by decide +kernel
theorem has64_R0 : ∀ a : Fin 64, ∀ c : Fin 6, qX7_has (nI a.val) (nI c.val) = some (if a.val.testBit c.val = true then 1 else 0) := by decide +kernel
theorem h64C {β : Type} {a c : Nat} {k : Int32 → Option β} (ha : a < 64) (hc : c < 6) : bi1 (qX6_has (nI a) (nI c)) k = if a.testBit c = true then k 1 else k 0 := by
  rw [bi1_t (has64_C0 ⟨a, ha⟩ ⟨c, hc⟩)]
  by_cases h : a.testBit c = true
  · rw [if_pos h, if_pos h]
  · rw [if_neg h, if_neg h]
theorem h64R {β : Type} {a c : Nat} {k : Int32 → Option β} (ha : a < 64) (hc : c < 6) : bi1 (qX7_has (nI a) (nI c)) k = if a.testBit c = true then k 1 else k 0 := by
  rw [bi1_t (has64_R0 ⟨a, ha⟩ ⟨c, hc⟩)]
  by_cases h : a.testBit c = true
  · rw [if_pos h, if_pos h]
  · rw [if_neg h, if_neg h]
theorem shl_0 : ∀ M : Fin 7, (1 : Int32) <<< (nI M.val &&& 31) = nI (2 ^ M.val) := by decide +kernel
theorem ten_R : ∀ j : Fin 7, qX7_power 10 (nI j.val) = some (nI (10 ^ j.val)) := by decide +kernel
theorem lvt_at (m : Nat) : ∀ (d k a : Nat) (P : Row) (j : Nat), k + d ≤ 5 → (j < 5 ∨ 10 ≤ j) → j ≠ 30 → (lv m d k a P).2 j = P j := by
  intro d
  induction d with
  | zero => intro k a P j _ _ _; rfl
  | succ d ih =>
    intro k a P j hk hj h30
    rw [lv]
    split
    · split
      · exact ih _ _ _ _ (by omega) hj h30
      · rw [ih _ _ _ _ (by omega) hj h30, off_at h30 (by omega)]
    · exact ih _ _ _ _ (by omega) hj h30
theorem lvt_30 (m : Nat) : ∀ (d k a : Nat) (P : Row), k + d ≤ 5 → P 30 = nI a → (lv m d k a P).2 30 = nI (lv m d k a P).1 := by
  intro d
  induction d with
  | zero => intro k a P _ h; exact h
  | succ d ih =>
    intro k a P hk h
    rw [lv]
    split
    · split
      · exact ih _ _ _ (by omega) h
      · exact ih _ _ _ (by omega) (off_30 (by omega))
    · exact ih _ _ _ (by omega) h
theorem lvt_b (m : Nat) : ∀ (d k a : Nat) (P : Row) (c : Nat), k + d ≤ 5 → a < 32 → c < 5 → (lv m d k a P).1 < 32 ∧ (lv m d k a P).1.testBit c = (a.testBit c && (m.testBit c || (decide (c < k) || decide (k + d ≤ c)))) := by
  intro d
  induction d with
  | zero =>
    intro k a P c hk ha hc
    refine ⟨ha, ?_⟩
    rw [lv]
    by_cases h : c < k
    · rw [decide_eq_true h, Bool.true_or, Bool.or_true, Bool.and_true]
    · rw [decide_eq_false h, decide_eq_true (show k + 0 ≤ c by omega), Bool.or_true, Bool.or_true, Bool.and_true]
  | succ d ih =>
    intro k a P c hk ha hc
    have same : c ≠ k → (decide (c < k + 1) || decide (k + 1 + d ≤ c)) = (decide (c < k) || decide (k + (d + 1) ≤ c)) := by
      intro hne
      rw [show k + 1 + d = k + (d + 1) by omega]
      by_cases h : c < k
      · rw [decide_eq_true h, decide_eq_true (show c < k + 1 by omega)]
      · rw [decide_eq_false h, decide_eq_false (show ¬ c < k + 1 by omega)]
    have atk : (decide (k < k) || decide (k + (d + 1) ≤ k)) = false := by
      rw [decide_eq_false (by omega), decide_eq_false (by omega)]; rfl
    rw [lv]
    by_cases hr : a.testBit k = true
    · rw [if_pos hr]
      by_cases hm : m.testBit k = true
      · rw [if_pos hm]
        obtain ⟨q1, q2⟩ := ih (k + 1) a P c (by omega) ha hc
        refine ⟨q1, ?_⟩
        rw [q2]
        by_cases e : c = k
        · subst e; rw [hm, Bool.true_or, Bool.true_or]
        · rw [same e]
      · rw [if_neg hm]
        obtain ⟨q1, q2⟩ := ih (k + 1) (clr a k) (offP a k P) c (by omega) (clr_lt ha (by omega)) hc
        refine ⟨q1, ?_⟩
        rw [q2, clr_b ha (by omega) hc]
        rw [Bool.not_eq_true] at hm
        by_cases e : c = k
        · subst e; rw [hm, atk, decide_eq_true rfl, Bool.not_true, Bool.and_false, Bool.false_and, Bool.false_or, Bool.and_false]
        · rw [same e, decide_eq_false e, Bool.not_false, Bool.and_true]
    · rw [if_neg hr]
      obtain ⟨q1, q2⟩ := ih (k + 1) a P c (by omega) ha hc
      refine ⟨q1, ?_⟩
      rw [q2]
      by_cases e : c = k
      · subst e
        rw [Bool.not_eq_true] at hr
        rw [hr, Bool.false_and, Bool.false_and]
      · rw [same e]
def og : Nat → Nat → Nat → Row → Nat × Row
  | 0, _, a, T => (a, T)
  | d + 1, k, a, T => og d (k + 1) (clr a k) (offP a k T)
theorem og_at : ∀ (d k a : Nat) (T : Row) (j : Nat), k + d ≤ 5 → (j < 5 ∨ 10 ≤ j) → j ≠ 30 → (og d k a T).2 j = T j := by
  intro d
  induction d with
  | zero => intro k a P j _ _ _; rfl
  | succ d ih =>
    intro k a T j hk hj h30
    rw [og, ih _ _ _ _ (by omega) hj h30, off_at h30 (by omega)]
theorem og_30 : ∀ (d k a : Nat) (T : Row), k + d ≤ 5 → T 30 = nI a → (og d k a T).2 30 = nI (og d k a T).1 := by
  intro d
  induction d with
  | zero => intro k a T _ h; exact h
  | succ d ih =>
    intro k a T hk h
    rw [og]
    exact ih _ _ _ (by omega) (off_30 (by omega))
theorem og_b : ∀ (d k a : Nat) (T : Row) (c : Nat), k + d ≤ 5 → a < 32 → c < 5 → (og d k a T).1 < 32 ∧ ((og d k a T).1.testBit c = true → a.testBit c = true ∧ (c < k ∨ k + d ≤ c)) := by
  intro d
  induction d with
  | zero => intro k a T c hk ha hc; exact ⟨ha, fun h => ⟨h, by omega⟩⟩
  | succ d ih =>
    intro k a T c hk ha hc
    obtain ⟨q1, q2⟩ := ih (k + 1) (clr a k) (offP a k T) c (by omega) (clr_lt ha (by omega)) hc
    refine ⟨q1, fun h => ?_⟩
    obtain ⟨p1, p2⟩ := q2 h
    rw [clr_b ha (by omega) hc, Bool.and_eq_true, Bool.not_eq_true', decide_eq_false_iff_not] at p1
    exact ⟨p1.1, by omega⟩
theorem two_all {n B a th : Nat} {P T : Row} {Z : Nat → Bool} (hn : n ≤ 5) (h2 : Two n (al n) B P T a th Z) : Two n (al n) B (lv 0 5 0 a P).2 (og n 0 a T).2 0 th (fun _ => true) := by
  obtain ⟨hA, h36, ha, h30, hat, hl, hr, hth, h34, hp, hw, hq⟩ := h2
  have hT30 : T 30 = nI a := by rw [← hA.1 30 (by omega) (by omega)]; exact h30
  have l0 : (lv 0 5 0 a P).1 = 0 := tb_ext (lvt_b 0 5 0 a P 0 (by omega) ha (by omega)).1 (by decide) (fun c hc => by
    rw [(lvt_b 0 5 0 a P c (by omega) ha hc).2, Nat.zero_testBit, decide_eq_false (by omega), decide_eq_false (by omega), Bool.or_false, Bool.or_false, Bool.and_false])
  have o0 : (og n 0 a T).1 = 0 := tb_ext (og_b n 0 a T 0 (by omega) ha (by omega)).1 (by decide) (fun c hc => by
    rw [Nat.zero_testBit]
    cases hb : (og n 0 a T).1.testBit c with
    | false => rfl
    | true =>
      obtain ⟨p1, p2⟩ := (og_b n 0 a T c (by omega) ha hc).2 hb
      have p3 := hat c hc p1
      rw [al_b hn hc, decide_eq_true_eq] at p3
      omega)
  have L : ∀ j, (j < 5 ∨ 10 ≤ j) → j ≠ 30 → (lv 0 5 0 a P).2 j = P j := fun j hj h => lvt_at 0 5 0 a P j (by omega) hj h
  have L30 : (lv 0 5 0 a P).2 30 = nI 0 := by rw [lvt_30 0 5 0 a P (by omega) h30, l0]
  refine ⟨⟨fun j hj hz => ?_, fun c _ hz => Bool.noConfusion hz, fun c _ _ => Nat.zero_testBit c⟩, by rw [L 36 (by omega) (by omega)]; exact h36, by decide, L30, fun c _ hb => absurd hb (by rw [Nat.zero_testBit]; decide), by rw [L 31 (by omega) (by omega)]; exact hl, by rw [L 32 (by omega) (by omega)]; exact hr, hth, by rw [L 34 (by omega) (by omega)]; exact h34, by rw [show pop 0 = 0 from rfl]; omega, fun c hc => by rw [L c (by omega) (by omega)]; exact hw c hc, fun c hc => by rw [L (10 + c) (by omega) (by omega)]; exact hq c hc⟩
  by_cases e : j = 30
  · subst e; rw [L30, og_30 n 0 a T (by omega) hT30, o0]
  · rw [L j hz e, og_at n 0 a T j (by omega) hz e]
    exact hA.1 j hj hz
theorem min_Z {h : Hp} {n B a th : Nat} {P T : Row} {Z : Nat → Bool} (K : KdO h n) (hB : B < 2 ^ 30) (h2 : Two n (al n) B P T a th Z) : ∃ P1 T1 a1 Z1, qX2_passMinute (h 22) (h 23) P = some P1 ∧ (∀ m T0, Rk h m → qX7_goMinute (sc m h n T0 33) (sc m h n T0 35) (sc m h n T0 36) T = some T1) ∧ Two n (al n) (B + 1) P1 T1 a1 th Z1 := by
  obtain ⟨P1, T1, a1, Z1, e1, e2, h5, hz⟩ := minute_eq (r33_x K) hB h2
  exact ⟨P1, T1, a1, Z1, e1, fun m T0 hm => by rw [sc_33, sc_n (by decide) (by decide), sc_n (by decide) (by decide), hm.2.1, hm.2.2.1]; exact e2, h5⟩
def wt (q p : Nat) : Nat → Nat
  | 0 => 1
  | i + 1 => wt q p i * (if q.testBit i = true then p else 10 - p)
theorem wt_le (q p : Nat) (hp : p ≤ 10) : ∀ i, wt q p i ≤ 10 ^ i := by
  intro i
  induction i with
  | zero => exact Nat.le_refl 1
  | succ i ih =>
    rw [wt, Nat.pow_succ]
    refine Nat.mul_le_mul ih ?_
    split <;> omega
theorem wt_C {q p M : Nat} (hq : q < 64) (hM : M ≤ 6) (hp : p ≤ 10) : ∀ (d f i : Nat), i + d = M → qX6_weightOfWorms_5 (d + 1 + f) (nI q) (nI M) (nI p) (nI (wt q p i)) (nI i) = some (nI (wt q p M)) := by
  intro d
  induction d with
  | zero =>
    intro f i hi
    rw [show 0 + 1 + f = f + 1 by omega, qX6_weightOfWorms_5, if_pos (nI_le (by omega) (by omega)), show i = M by omega]
  | succ d ih =>
    intro f i hi
    have e10 : (10 : Int32) - nI p = nI (10 - p) := pk_sub (a := 10) (b := p) hp
    have q1 := ih f (i + 1) (by omega)
    rw [wt] at q1
    rw [show d + 1 + 1 + f = (d + 1 + f) + 1 by omega, qX6_weightOfWorms_5, if_neg (nI_ge (by omega) (by omega)), h64C hq (by omega)]
    unfold qX6_weightOfWorms_29
    by_cases hb : q.testBit i = true
    · rw [if_pos hb] at q1
      rw [if_pos hb, if_neg one_ne, pk_mul, nI_1]
      exact q1
    · rw [if_neg hb] at q1
      rw [if_neg hb, if_pos rfl, e10, pk_mul, nI_1]
      exact q1
