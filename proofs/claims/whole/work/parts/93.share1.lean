/-! shares -/
theorem lvt_m (m : Nat) : ∀ (d k a : Nat) (P : Row) (c : Nat), k + d ≤ 5 → c < 5 → m.testBit c = true → (lv m d k a P).2 (5 + c) = P (5 + c) := by
  intro d
  induction d with
  | zero => intro k a P c _ _ _; rfl
  | succ d ih =>
    intro k a P c hk hc hm
    rw [lv]
    by_cases hr : a.testBit k = true
    · rw [if_pos hr]
      by_cases hs : m.testBit k = true
      · rw [if_pos hs]
        exact ih _ _ _ _ (by omega) hc hm
      · have ne : c ≠ k := fun e => hs (by rw [← e]; exact hm)
        rw [if_neg hs, ih _ _ _ _ (by omega) hc hm, off_at (by omega) (by omega)]
    · rw [if_neg hr]
      exact ih _ _ _ _ (by omega) hc hm
theorem grp_0 : ∀ n : Fin 6, ∀ q : Fin 32, q.val < 2 ^ n.val → al n.val &&& q.val = q.val ∧ ∀ c : Fin 5, q.val.testBit c.val = true → c.val < n.val := by decide +kernel
theorem pop_and0 : ∀ a q : Fin 32, pop (a.val &&& q.val) ≤ pop a.val := by decide +kernel
def psm (a : Nat) : Nat → Nat
  | 0 => 0
  | k + 1 => psm a k + if a.testBit k = true then 1 else 0
theorem psm_0 : ∀ n : Fin 6, ∀ a : Fin 32, (∀ c : Fin 5, a.val.testBit c.val = true → c.val < n.val) → psm a.val n.val = pop a.val := by decide +kernel
theorem sm_ten {P P1 : Row} {a n : Nat} (h : ∀ c, c < n → P1 (10 + c) = P (10 + c) + bI (a.testBit c)) : ∀ k, k ≤ n → sm P1 10 k = sm P 10 k + nI (psm a k) := by
  intro k
  induction k with
  | zero => intro _; exact (Int32.add_zero 0).symm
  | succ k ih =>
    intro hk
    have e : bI (a.testBit k) = nI (if a.testBit k = true then 1 else 0) := by cases a.testBit k <;> rfl
    rw [sm, sm, psm, ih (by omega), h k (by omega), ← nI_add, e]
    ac_rfl
theorem sm_cong {P Q : Row} {b : Nat} : ∀ n, (∀ j, j < n → P (b + j) = Q (b + j)) → sm P b n = sm Q b n := by
  intro n
  induction n with
  | zero => intro _; rfl
  | succ n ih =>
    intro h
    rw [sm, sm, ih (fun j hj => h j (by omega)), h n (by omega)]
def cH (h : Hp) (P W : Row) : Hp := su (su h 1 P) 32 W
theorem cH_n {h : Hp} {P W : Row} {r : Nat} (h1 : r ≠ 1) (h2 : r ≠ 32) : cH h P W r = h r := by
  unfold cH
  rw [su_ne h2, su_ne h1]
theorem cH_1r (h : Hp) (P W : Row) : cH h P W 1 = P := by
  unfold cH
  rw [su_ne (by decide), su_same]
theorem cH_32r (h : Hp) (P W : Row) : cH h P W 32 = W := su_same _ _ _
theorem cH_s1 (h : Hp) (P W P2 : Row) : su (cH h P W) 1 P2 = cH h P2 W := by
  unfold cH
  funext q
  by_cases q1 : q = 1
  · subst q1; rw [su_same, su_ne (by decide), su_same]
  · rw [su_ne q1]
    by_cases q2 : q = 32
    · subst q2; rw [su_same, su_same]
    · rw [su_ne q2, su_ne q1, su_ne q2, su_ne q1]
theorem cH_s32 (h : Hp) (P W W2 : Row) : su (cH h P W) 32 W2 = cH h P W2 := su_su _ _ _ _
theorem cH_self (h : Hp) : cH h (h 1) (h 32) = h := by
  unfold cH
  rw [su_self h 1, su_self h 32]
theorem grp_loop {h : Hp} {n q th : Nat} {R33 : Row} (X : Cxt n q (h 22) (h 23) R33 (h 35) (h 36)) : ∀ (d f i B a S : Nat) (P T : Row) (Z : Nat → Bool), i + d = 6 → B + d < 2 ^ 30 → Two n q B P T a th Z → ∃ P1 T1 E, E ≤ 5 * d ∧ sm T1 10 n = sm T 10 n + nI E ∧ (∀ W, qX6_riddenByGroup_23 (d + 1 + f) (cH h P W) (nI S) (nI i) = some (nI (S + E), cH h P1 W)) ∧ ∀ (M : Hp) (k17 : Hp → Int32 → Int32 → Int32 → Option (Int32 × Hp)) (x y v : Int32) (f2 : Nat), M 33 = R33 → M 35 = h 35 → M 36 = h 36 → M 39 = T → qX7_share_50 k17 (d + 1 + f2) M x y v (nI i) = qX7_share_50 k17 (f2 + 1) (su M 39 T1) x y v (nI 6) := by
  have hn := X.1
  intro d
  induction d with
  | zero =>
    intro f i B a S P T Z hi hB h2
    have e : i = 6 := by omega
    subst e
    refine ⟨P, T, 0, by omega, (Int32.add_zero _).symm, fun W => ?_, fun M k17 x y v f2 h33 h35 h36 h39 => ?_⟩
    · rw [show 0 + 1 + f = f + 1 by omega, qX6_riddenByGroup_23, if_pos (show (6 : Int32) ≤ nI 6 by decide), Nat.add_zero]
    · rw [show 0 + 1 + f2 = f2 + 1 by omega, ← h39, su_self]
  | succ d ih =>
    intro f i B a S P T Z hi hB h2
    obtain ⟨P2, T2, a2, Z2, e1, e2, h3, -, ten⟩ := minute_ten X (by omega) h2
    obtain ⟨P1, T1, E, hE, sE, e3, e4⟩ := ih f (i + 1) (B + 1) a2 (S + pop a2) P2 T2 Z2 (by omega) (by omega) h3
    have ha2 := h3.2.2.1
    have p5 := pop_5 ha2
    have pp : psm a2 n = pop a2 := psm_0 ⟨n, by omega⟩ ⟨a2, ha2⟩ (fun c hb => X.2.2.2.2.1 c.val c.isLt (h3.2.2.2.2.1 c.val c.isLt hb))
    have s2 := sm_ten ten n (Nat.le_refl n)
    rw [pp, sm_ag h3.1.1 (by omega) (by omega), sm_ag h2.1.1 (by omega) (by omega)] at s2
    have n6 : ¬ (6 : Int32) ≤ nI i := nI_ge (a := i) (b := 6) (by omega) (by decide)
    refine ⟨P1, T1, pop a2 + E, by omega, ?_, fun W => ?_, fun M k17 x y v f2 h33 h35 h36 h39 => ?_⟩
    · rw [sE, s2, Int32.add_assoc, nI_add]
    · rw [show d + 1 + 1 + f = (d + 1 + f) + 1 by omega, qX6_riddenByGroup_23, if_neg n6, cH_n (show (22 : Nat) ≠ 1 by decide) (by decide), cH_n (show (23 : Nat) ≠ 1 by decide) (by decide), cH_1r, bi1_t e1, bd_t, cH_s1, cH_1r, h3.2.2.2.1, bi1_t (bc_C ha2), nI_add, nI_1, ← Nat.add_assoc]
      exact e3 W
    · have w := e4 (su M 39 T2) k17 x y v f2 (by rw [su_ne (by decide)]; exact h33) (by rw [su_ne (by decide)]; exact h35) (by rw [su_ne (by decide)]; exact h36) (su_same _ _ _)
      rw [su_su] at w
      rw [show d + 1 + 1 + f2 = (d + 1 + f2) + 1 by omega, qX7_share_50, if_neg n6, h33, h35, h36, h39, bi1_t e2, bd_t, nI_1]
      exact w
theorem two_grp {n q B a th : Nat} {P T : Row} (hn : n ≤ 5) (hq32 : q < 32) (h2 : Two n (al n) B P T a th noZ) : Two n q B (lv q 5 0 a (upd P 36 (nI q))).2 (upd T 30 (nI (a &&& q))) (a &&& q) th (fun c => !(a &&& q).testBit c) := by
  obtain ⟨hA, h36, ha, h30, hat, hl, hr, hth, h34, hp, hw, hqq⟩ := h2
  have h30' : upd P 36 (nI q) 30 = nI a := by rw [upd_n _ (by decide)]; exact h30
  have l1 : (lv q 5 0 a (upd P 36 (nI q))).1 = a &&& q := tb_ext (lvt_b q 5 0 a (upd P 36 (nI q)) 0 (by omega) ha (by omega)).1 (and_lt ha) (fun c hc => by
    rw [(lvt_b q 5 0 a (upd P 36 (nI q)) c (by omega) ha hc).2, testBit_and, decide_eq_false (show ¬ c < 0 by omega), decide_eq_false (show ¬ 0 + 5 ≤ c by omega), Bool.or_false, Bool.or_false])
  have L : ∀ j, (j < 5 ∨ 10 ≤ j) → j ≠ 30 → j ≠ 36 → (lv q 5 0 a (upd P 36 (nI q))).2 j = P j := fun j hj h1 h3 => by rw [lvt_at q 5 0 a (upd P 36 (nI q)) j (by omega) hj h1, upd_n _ h3]
  have L36 : (lv q 5 0 a (upd P 36 (nI q))).2 36 = nI q := by rw [lvt_at q 5 0 a (upd P 36 (nI q)) 36 (by omega) (by omega) (by omega), upd_s]
  have L30 : (lv q 5 0 a (upd P 36 (nI q))).2 30 = nI (a &&& q) := by rw [lvt_30 q 5 0 a (upd P 36 (nI q)) (by omega) h30', l1]
  have pa : pop (a &&& q) ≤ pop a := pop_and0 ⟨a, ha⟩ ⟨q, hq32⟩
  refine ⟨⟨fun j hj hz => ?_, fun c hc hz => ?_, fun c hc hz => ?_⟩, L36, and_lt ha, L30, fun c hc hb => ?_, by rw [L 31 (by omega) (by omega) (by omega)]; exact hl, by rw [L 32 (by omega) (by omega) (by omega)]; exact hr, hth, by rw [L 34 (by omega) (by omega) (by omega)]; exact h34, Nat.le_trans pa hp, fun c hc => ?_, fun c hc => ?_⟩
  · by_cases e : j = 30
    · subst e; rw [L30, upd_s]
    · rw [L j hz e (by omega), upd_n _ e]
      exact hA.1 j hj hz
  · have hz2 : (!(a &&& q).testBit c) = false := hz
    rw [Bool.not_eq_false', testBit_and, Bool.and_eq_true] at hz2
    rw [lvt_m q 5 0 a (upd P 36 (nI q)) c (by omega) hc hz2.2, upd_n _ (by omega), upd_n _ (by omega)]
    exact hA.2.1 c hc rfl
  · have hz2 : (!(a &&& q).testBit c) = true := hz
    rw [Bool.not_eq_true'] at hz2
    exact hz2
  · rw [testBit_and, Bool.and_eq_true] at hb
    exact hb.2
  · rw [L c (by omega) (by omega) (by omega)]; exact hw c hc
  · rw [L (10 + c) (by omega) (by omega) (by omega)]; exact hqq c hc
