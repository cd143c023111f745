/-! what is told of a page -/
theorem ne9 {y : Nat} (hy : y < 2 ^ 31) : ¬ nI y = -9 := by
  intro q
  have a := nI_toInt hy
  rw [q, show (-9 : Int32).toInt = -9 by decide] at a
  omega
theorem gt9 {y : Nat} (hy : y < 2 ^ 31) : (-9 : Int32) < nI y := by
  rw [Int32.lt_iff_toInt_lt, nI_toInt hy, show (-9 : Int32).toInt = -9 by decide]
  omega
theorem gapR_step {R33 T : Row} {n k x y q f : Nat} (hn : n ≤ 5) (h4 : R33 4 = nI n) (hk : k < n) (hT : T (10 + k) = nI q) (hx : x < 2 ^ 31) (hy : y < 2 ^ 31) (hq : q < 2 ^ 31) : qX7_gapOf_21 R33 T (f + 1) (nI x) (nI y) (nI k) = qX7_gapOf_21 R33 T f (nI (max x q)) (nI (min y q)) (nI (k + 1)) := by
  have s : ∀ z, qX7_gapOf_52 R33 T (qX7_gapOf_21 R33 T f) (nI y) (nI k) (nI z) = qX7_gapOf_21 R33 T f (nI z) (nI (min y q)) (nI (k + 1)) := by
    intro z
    unfold qX7_gapOf_52 qX7_gapOf_75
    rw [pl10, ck_t (in36 (by omega)), cl_nI (by omega), hT]
    by_cases h1 : y ≤ q
    · rw [if_pos (nI_le h1 hq), nI_1, show min y q = y by omega]
    · rw [if_neg (nI_ge (by omega) hy), ck_t (in36 (by omega)), nI_1, show min y q = q by omega]
  rw [qX7_gapOf_21, h4, if_neg (nI_ge hk (by omega)), pl10, ck_t (in36 (by omega)), cl_nI (by omega), hT]
  by_cases h1 : q ≤ x
  · rw [if_pos (nI_le h1 hx), s, show max x q = x by omega]
  · rw [if_neg (nI_ge (by omega) hq), ck_t (in36 (by omega)), s, show max x q = q by omega]
theorem gapC_step {P : Row} {n k x y q f : Nat} (hn : n ≤ 5) (h36 : P 36 = nI (al n)) (hk : k < n) (hP : P (10 + k) = nI q) (hx : x < 2 ^ 31) (hy : y < 2 ^ 31) (hq : q < 2 ^ 31) : qX2_gap_8 P (f + 1) (nI x) (nI y) (nI k) = qX2_gap_8 P f (nI (max x q)) (nI (min y q)) (nI (k + 1)) := by
  have m1 : (if nI x < nI q then nI q else nI x) = nI (max x q) := by
    by_cases h1 : x < q
    · rw [if_pos (nI_lt h1 hq), show max x q = q by omega]
    · rw [if_neg (nI_nlt (by omega) hx), show max x q = x by omega]
  have m2 : (if nI q < nI y then nI q else nI y) = nI (min y q) := by
    by_cases h1 : q < y
    · rw [if_pos (nI_lt h1 hy), show min y q = q by omega]
    · rw [if_neg (nI_nlt (by omega) hq), show min y q = y by omega]
  rw [qX2_gap_8, if_neg (nle5 (by omega)), h36, bhC (al_lt hn) (by omega), al_b hn (by omega), decide_eq_true hk, if_pos rfl, if_neg one_ne, ck_t (in5 (by omega)), cl_nI (by omega), hP, m1, bd_t, if_neg (ne9 hy), ck_t (in5 (by omega)), m2]
  unfold qX2_gap_60 qX2_gap_61
  rw [nI_1]
theorem gapC_first {P : Row} {n q f : Nat} (hn : n ≤ 5) (h36 : P 36 = nI (al n)) (hk : 0 < n) (hP : P (10 + 0) = nI q) (hq : q < 2 ^ 31) : qX2_gap_8 P (f + 1) (-9) (-9) (nI 0) = qX2_gap_8 P f (nI q) (nI q) (nI (0 + 1)) := by
  rw [qX2_gap_8, if_neg (nle5 (by omega)), h36, bhC (al_lt hn) (by omega), al_b hn (by omega), decide_eq_true hk, if_pos rfl, if_neg one_ne, ck_t (in5 (by omega)), cl_nI (by omega), hP, if_pos (gt9 hq), bd_t, if_pos rfl, ck_t (in5 (by omega))]
  unfold qX2_gap_60 qX2_gap_61
  rw [nI_1]
theorem gap_tail {P : Row} {n : Nat} (hn : n ≤ 5) (h36 : P 36 = nI (al n)) (v1 v2 : Int32) : ∀ (d f k : Nat), k + d = 5 → n ≤ k → qX2_gap_8 P (d + 1 + f) v1 v2 (nI k) = some (v1 - v2) := by
  intro d
  induction d with
  | zero =>
    intro f k hk hnk
    rw [show 0 + 1 + f = f + 1 by omega, qX2_gap_8, if_pos (le5 (by omega) (by omega))]
  | succ d ih =>
    intro f k hk hnk
    rw [show d + 1 + 1 + f = (d + 1 + f) + 1 by omega, qX2_gap_8, if_neg (nle5 (by omega)), h36, bhC (al_lt hn) (by omega), al_b hn (by omega), decide_eq_false (by omega), if_neg (by decide), if_pos rfl]
    unfold qX2_gap_61
    rw [nI_1]
    exact ih f (k + 1) (by omega) (by omega)
theorem gap_joint {P T R33 : Row} {n B : Nat} (hn : n ≤ 5) (hB : B < 2 ^ 31) (h36 : P 36 = nI (al n)) (h4 : R33 4 = nI n) (hq : ∀ c, c < n → ∃ q, q ≤ B ∧ P (10 + c) = nI q) (hT : ∀ c, c < n → P (10 + c) = T (10 + c)) : ∀ (d k x y f f2 : Nat), k + d = n → x ≤ B → y ≤ B → ∃ r, qX2_gap_8 P (5 - k + 1 + f) (nI x) (nI y) (nI k) = some r ∧ qX7_gapOf_21 R33 T (d + 1 + f2) (nI x) (nI y) (nI k) = some r := by
  intro d
  induction d with
  | zero =>
    intro k x y f f2 hk hx hy
    refine ⟨nI x - nI y, gap_tail hn h36 _ _ (5 - k) f k (by omega) (by omega), ?_⟩
    rw [show 0 + 1 + f2 = f2 + 1 by omega, qX7_gapOf_21, h4, if_pos (nI_le (by omega) (by omega))]
  | succ d ih =>
    intro k x y f f2 hk hx hy
    have hkn : k < n := by omega
    have e1 : 5 - k + 1 + f = (5 - (k + 1) + 1 + f) + 1 := by omega
    have hx1 : x < 2 ^ 31 := by omega
    have hy1 : y < 2 ^ 31 := by omega
    obtain ⟨q, q1, q2⟩ := hq k hkn
    obtain ⟨r, r1, r2⟩ := ih (k + 1) (max x q) (min y q) f f2 (by omega) (by omega) (by omega)
    refine ⟨r, ?_, ?_⟩
    · rw [e1, gapC_step hn h36 hkn q2 hx1 hy1 (by omega)]
      exact r1
    · rw [show d + 1 + 1 + f2 = (d + 1 + f2) + 1 by omega, gapR_step hn h4 hkn (by rw [← hT k hkn]; exact q2) hx1 hy1 (by omega)]
      exact r2
theorem gap_eq {P T R33 : Row} {n B a th : Nat} {Z : Nat → Bool} (hn : n ≤ 5) (hB : B < 2 ^ 31) (h4 : R33 4 = nI n) (h2 : Two n (al n) B P T a th Z) : ∃ r, qX2_gap P = some r ∧ qX7_gapOf R33 T = some r := by
  have h36 := h2.2.1
  have hq := h2.2.2.2.2.2.2.2.2.2.2.2
  have hT : ∀ c, c < n → P (10 + c) = T (10 + c) := fun c hc => h2.1.1 (10 + c) (by omega) (by omega)
  by_cases h0 : n = 0
  · subst h0
    refine ⟨0, ?_, ?_⟩
    · unfold qX2_gap
      rw [show (600 : Nat) = 5 + 1 + 594 from rfl, show (0 : Int32) = nI 0 from rfl, gap_tail hn h36 _ _ 5 594 0 (by omega) (by omega)]
      rfl
    · unfold qX7_gapOf qX7_gapOf_17
      rw [h4, if_pos (show nI 0 = (0 : Int32) from rfl), show (600 : Nat) = 599 + 1 from rfl, qX7_gapOf_21, h4, if_pos (show nI 0 ≤ (0 : Int32) by decide)]
      rfl
  · obtain ⟨q, q1, q2⟩ := hq 0 (by omega)
    obtain ⟨r, r1, r2⟩ := gap_joint hn hB h36 h4 hq hT (n - 1) 1 q q 594 (599 - n) (by omega) q1 q1
    refine ⟨r, ?_, ?_⟩
    · unfold qX2_gap
      rw [show (600 : Nat) = 599 + 1 from rfl, show (0 : Int32) = nI 0 from rfl, gapC_first hn h36 (by omega) q2 (by omega)]
      exact r1
    · unfold qX7_gapOf qX7_gapOf_17
      have e9 : n - 1 + 1 + (599 - n) = 599 := by omega
      rw [e9] at r2
      rw [h4, if_neg (nI_ne0 (by omega) (by omega)), show (600 : Nat) = 599 + 1 from rfl, show T 10 = nI q from (hT 0 (by omega)).symm.trans q2, show (0 : Int32) = nI 0 from rfl, gapR_step hn h4 (by omega) ((hT 0 (by omega)).symm.trans q2) (by decide) (by omega) (by omega), show max 0 q = q by omega, show min q q = q by omega]
      exact r2
def nv (P : Row) : Nat → Nat
  | 0 => 0
  | k + 1 => if P (10 + k) = 0 then stb (nv P k) k else nv P k
theorem nv_lt (P : Row) : ∀ k, k ≤ 5 → nv P k < 32 := by
  intro k
  induction k with
  | zero => intro _; exact (by decide : (0 : Nat) < 32)
  | succ k ih =>
    intro hk
    rw [nv]
    split
    · exact stb_lt (ih (by omega)) (by omega)
    · exact ih (by omega)
theorem nv_b (P : Row) : ∀ k, k ≤ 5 → ∀ c, c < 5 → (nv P k).testBit c = (decide (c < k) && decide (P (10 + c) = 0)) := by
  intro k
  induction k with
  | zero => intro _ c _; rw [nv, Nat.zero_testBit, decide_eq_false (by omega), Bool.false_and]
  | succ k ih =>
    intro hk c hc
    rw [nv]
    by_cases hz : P (10 + k) = 0
    · rw [if_pos hz, stb_b (nv_lt P k (by omega)) (by omega) hc, ih (by omega) c hc]
      by_cases e : c = k
      · subst e; rw [decide_eq_true (show c < c + 1 by omega), decide_eq_true hz, decide_eq_true rfl, Bool.or_true]; rfl
      · rw [decide_eq_false e, Bool.or_false]
        by_cases hl : c < k
        · rw [decide_eq_true hl, decide_eq_true (show c < k + 1 by omega)]
        · rw [decide_eq_false hl, decide_eq_false (show ¬ c < k + 1 by omega)]
    · rw [if_neg hz, ih (by omega) c hc]
      by_cases e : c = k
      · subst e; rw [decide_eq_false hz, Bool.and_false, Bool.and_false]
      · by_cases hl : c < k
        · rw [decide_eq_true hl, decide_eq_true (show c < k + 1 by omega)]
        · rw [decide_eq_false hl, decide_eq_false (show ¬ c < k + 1 by omega)]
theorem nv_and {P : Row} {n : Nat} (hn : n ≤ 5) : nv P 5 &&& al n = nv P n := by
  refine tb_ext (and_lt (nv_lt P 5 (by omega))) (nv_lt P n hn) (fun c hc => ?_)
  rw [testBit_and, nv_b P 5 (by omega) c hc, nv_b P n hn c hc, al_b hn hc, decide_eq_true hc, Bool.true_and, Bool.and_comm]
theorem nv_ag {P T : Row} {n : Nat} (h : Ag P T) (hn : n ≤ 5) : nv P n = nv T n := by
  induction n with
  | zero => rfl
  | succ n ih => rw [nv, nv, ih (by omega), h (10 + n) (by omega) (by omega)]
theorem never_C {P : Row} {n : Nat} (hn : n ≤ 5) (h36 : P 36 = nI (al n)) : ∀ (d f k : Nat), k + d = 5 → qX2_neverRidden_4 P (d + 1 + f) (nI (nv P k)) (nI k) = some (nI (nv P n)) := by
  intro d
  induction d with
  | zero =>
    intro f k hk
    rw [show 0 + 1 + f = f + 1 by omega, qX2_neverRidden_4, if_pos (le5 (by omega) (by omega)), h36, and_nI (nv_lt P k (by omega)) (al_lt hn), show k = 5 by omega, nv_and hn]
  | succ d ih =>
    intro f k hk
    rw [show d + 1 + 1 + f = (d + 1 + f) + 1 by omega, qX2_neverRidden_4, if_neg (nle5 (by omega)), ck_t (in5 (by omega)), cl_nI (by omega), on_b (nv_lt P k (by omega)) (by omega)]
    unfold qX2_neverRidden_24
    have q := ih f (k + 1) (by omega)
    rw [nv] at q
    rw [nI_1]
    by_cases hz : P (10 + k) = 0
    · rw [if_pos hz] at q
      rw [if_pos hz]
      exact q
    · rw [if_neg hz] at q
      rw [if_neg hz]
      exact q
theorem told_R {R33 T : Row} {n : Nat} (hn : n ≤ 5) (h4 : R33 4 = nI n) : ∀ (d f k : Nat), k + d = n → qX7_toldOf_40 R33 T (d + 1 + f) (nI (nv T k)) (nI k) = some (nI (nv T n)) := by
  intro d
  induction d with
  | zero =>
    intro f k hk
    rw [show 0 + 1 + f = f + 1 by omega, qX7_toldOf_40, h4, if_pos (nI_le (by omega) (by omega)), show k = n by omega]
  | succ d ih =>
    intro f k hk
    rw [show d + 1 + 1 + f = (d + 1 + f) + 1 by omega, qX7_toldOf_40, h4, if_neg (nI_ge (by omega) (by omega)), pl10, ck_t (in36 (by omega)), cl_nI (by omega)]
    unfold qX7_toldOf_68
    have q := ih f (k + 1) (by omega)
    rw [nv] at q
    rw [nI_1, on_b (nv_lt T k (by omega)) (by omega), or_z (nv_lt T k (by omega))]
    by_cases hz : T (10 + k) = 0
    · rw [if_pos hz] at q
      rw [if_pos hz]
      exact q
    · rw [if_neg hz] at q
      rw [if_neg hz]
      exact q
theorem told_eq {P T R33 : Row} {h : Hp} {n B a th x : Nat} {Z : Nat → Bool} (hn : n ≤ 5) (hB : B < 2 ^ 31) (h4 : R33 4 = nI n) (h2 : Two n (al n) B P T a th Z) (hx : x < 4) : ∃ r, qX6_outlook (su h 1 P) (nI x) = some r ∧ qX7_toldOf R33 T (nI x) = some r := by
  rcases (show x = 0 ∨ x = 1 ∨ x = 2 ∨ x = 3 by omega) with rfl | rfl | rfl | rfl
  · refine ⟨P 30, ?_, ?_⟩
    · unfold qX6_outlook
      rw [if_pos (show nI 0 = (0 : Int32) from rfl), su_same]
    · unfold qX7_toldOf
      rw [if_neg (show ¬ (2 : Int32) ≤ nI 0 by decide), if_pos (show nI 0 = (0 : Int32) from rfl), h2.1.1 30 (by omega) (by omega)]
  · refine ⟨sm P 15 n, ?_, ?_⟩
    · unfold qX6_outlook
      rw [if_neg (show ¬ nI 1 = (0 : Int32) by decide), if_pos (show nI 1 = (1 : Int32) from rfl), su_same, bi1_t (stared_C hn h2.2.1)]
    · unfold qX7_toldOf
      rw [if_neg (show ¬ (2 : Int32) ≤ nI 1 by decide), if_neg (show ¬ nI 1 = (0 : Int32) by decide), bi1_t (stared_R hn h4 h2)]
  · obtain ⟨r, r1, r2⟩ := gap_eq hn hB h4 h2
    refine ⟨r, ?_, ?_⟩
    · unfold qX6_outlook
      rw [if_neg (show ¬ nI 2 = (0 : Int32) by decide), if_neg (show ¬ nI 2 = (1 : Int32) by decide), if_pos (show nI 2 = (2 : Int32) from rfl), su_same, bi1_t r1]
    · unfold qX7_toldOf
      rw [if_pos (show (2 : Int32) ≤ nI 2 by decide), if_pos (show nI 2 = (2 : Int32) from rfl), bi1_t r2]
  · refine ⟨nI (nv P n), ?_, ?_⟩
    · unfold qX6_outlook qX2_neverRidden
      rw [if_neg (show ¬ nI 3 = (0 : Int32) by decide), if_neg (show ¬ nI 3 = (1 : Int32) by decide), if_neg (show ¬ nI 3 = (2 : Int32) by decide), su_same, show (600 : Nat) = 5 + 1 + 594 from rfl, show (0 : Int32) = nI (nv P 0) from rfl]
      have q := never_C hn h2.2.1 5 594 0 (by omega)
      rw [show nI (nv P 0) = nI 0 from rfl] at q ⊢
      rw [bi1_t q]
    · unfold qX7_toldOf
      have q := told_R (T := T) hn h4 n (599 - n) 0 (by omega)
      rw [show n + 1 + (599 - n) = 600 by omega] at q
      rw [if_pos (show (2 : Int32) ≤ nI 3 by decide), if_neg (show ¬ nI 3 = (2 : Int32) by decide), nv_ag h2.1.1 hn]
      exact q
