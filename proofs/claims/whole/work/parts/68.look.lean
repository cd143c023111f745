/-! looking ahead -/
def r33 (h : Hp) (n : Nat) : Row := upd (upd (h 33) 0 0) 25 (nI (al n))
def sc (m h : Hp) (n : Nat) (T : Row) : Hp := su (su m 33 (r33 h n)) 39 T
def Rk (h m : Hp) : Prop := m 33 = upd (h 33) 0 0 ∧ m 35 = h 35 ∧ m 36 = h 36 ∧ m 38 = h 38
theorem rk_th0 (h : Hp) (P : Row) : Rk h (th0 (su h 1 P)) := ⟨by rw [th0_33, su_ne (by decide)], by rw [th0_n (by decide), su_ne (by decide)], by rw [th0_n (by decide), su_ne (by decide)], by rw [th0_n (by decide), su_ne (by decide)]⟩
theorem sc_33 (m h : Hp) (n : Nat) (T : Row) : sc m h n T 33 = r33 h n := by
  unfold sc
  rw [su_ne (by decide), su_same]
theorem sc_39 (m h : Hp) (n : Nat) (T : Row) : sc m h n T 39 = T := su_same _ _ _
theorem sc_n {m h : Hp} {n r : Nat} {T : Row} (h1 : r ≠ 33) (h2 : r ≠ 39) : sc m h n T r = m r := by
  unfold sc
  rw [su_ne h2, su_ne h1]
theorem sc_su {m h : Hp} {n : Nat} {T T2 : Row} : su (sc m h n T) 39 T2 = sc m h n T2 := su_su _ _ _ _
theorem r33_4 {h : Hp} {n : Nat} (K : KdO h n) : r33 h n 4 = nI n := by
  unfold r33
  rw [upd_n _ (by decide), upd_n _ (by decide)]
  exact K.2.2.1
theorem r33_x {h : Hp} {n : Nat} (K : KdO h n) : Cxt n (al n) (h 22) (h 23) (r33 h n) (h 35) (h 36) := cxt_of K (r33_4 K) (upd_s _ _ _)
theorem sc_rel {N : Nat} {h : Hp} {g : Gp} {n : Nat} (R : Rel N h g) (P T : Row) : Rel (N + 1) (sc (th0 (su h 1 P)) h n T) g := by
  have s1 : Same h (th0 (su h 1 P)) := ((Same.rf h).row (by decide) P).tr (same_th0 _)
  have s2 := (s1.fld (j := 25) (by decide) (nI (al n))).row (r := 39) (by decide) T
  rw [(rk_th0 h P).1] at s2
  exact R.up.same s2
theorem begin_R {M : Hp} {n : Nat} (hn : n ≤ 5) (h4 : M 33 4 = nI n) : qX7_begin M = some (su (su M 33 (upd (M 33) 25 (nI (al n)))) 39 (pst 36 0 (M 38) (M 39))) := by
  unfold qX7_begin
  have q := begin_loop (h := su M 33 (upd (M 33) 25 (nI (al n)))) 36 563 0 (by omega)
  rw [pst_0, su_self, su_ne (show (38 : Nat) ≠ 33 by decide), su_ne (show (39 : Nat) ≠ 33 by decide)] at q
  rw [bi1_t (all_R hn h4), bd_t, show (600 : Nat) = 36 + 1 + 563 from rfl, show (0 : Int32) = nI 0 from rfl]
  exact q
theorem begin_m {h m : Hp} {n : Nat} (K : KdO h n) (hm : Rk h m) : qX7_begin m = some (sc m h n (pst 36 0 (h 38) (m 39))) := by
  rw [begin_R K.1 (by rw [hm.1, upd_n _ (by decide)]; exact K.2.2.1), hm.1, hm.2.2.2]
  rfl
theorem begin_s {h m : Hp} {n : Nat} (K : KdO h n) (hm : Rk h m) (T : Row) : qX7_begin (sc m h n T) = some (sc m h n (pst 36 0 (h 38) T)) := by
  rw [begin_R K.1 (by rw [sc_33]; exact r33_4 K), sc_33, sc_39, sc_n (by decide) (by decide), hm.2.2.2]
  unfold sc r33
  refine congrArg some ?_
  funext q
  by_cases q1 : q = 39
  · subst q1; rw [su_same, su_same]
  · rw [su_ne q1, su_ne q1]
    by_cases q2 : q = 33
    · subst q2
      rw [su_same, su_same]
      funext j
      unfold upd
      by_cases j1 : j = 25
      · rw [if_pos j1, if_pos j1]
      · rw [if_neg j1, if_neg j1]
    · rw [su_ne q2, su_ne q1, su_ne q2]
theorem begin_2 {n B a th : Nat} {h : Hp} {P0 T0 : Row} (hn : n ≤ 5) (h2 : Two n (al n) B (h 0) (h 38) a th noZ) : Two n (al n) B (cpy (h 0) P0) (pst 36 0 (h 38) T0) a th noZ := by
  refine h2.cong hn (fun j hj => by unfold cpy; rw [if_pos hj]) (fun j hj => ?_)
  have e0 : pst 36 0 (h 38) T0 (0 + j) = h 38 j := pst_in hj
  rw [Nat.zero_add] at e0
  exact e0
theorem min_step {h : Hp} {n B a th : Nat} {P T : Row} (K : KdO h n) (hB : B < 2 ^ 30) (h2 : Two n (al n) B P T a th noZ) : ∃ P1 T1 a1, qX2_passMinute (h 22) (h 23) P = some P1 ∧ (∀ m T0, Rk h m → qX7_goMinute (sc m h n T0 33) (sc m h n T0 35) (sc m h n T0 36) T = some T1) ∧ Two n (al n) (B + 1) P1 T1 a1 th noZ := by
  obtain ⟨P1, T1, a1, Z1, e1, e2, h5, hz⟩ := minute_eq (r33_x K) hB h2
  rw [noZ_of hz] at h5
  exact ⟨P1, T1, a1, e1, fun m T0 hm => by rw [sc_33, sc_n (by decide) (by decide), sc_n (by decide) (by decide), hm.2.1, hm.2.2.1]; exact e2, h5⟩
theorem look_loop {h : Hp} {n th M : Nat} (K : KdO h n) (hM : M < 2 ^ 31) : ∀ (d f i B a : Nat) (P T : Row), i + d = M → B + d < 2 ^ 30 → Two n (al n) B P T a th noZ → ∃ P1 T1 a1, Two n (al n) (B + d) P1 T1 a1 th noZ ∧ qX6_look_31 (d + 1 + f) (su h 1 P) (nI M) (nI i) = some (su h 1 P1) ∧ ∀ m, Rk h m → ∀ f, qX7_go_23 (d + 1 + f) (sc m h n T) (nI M) (nI i) = some (sc m h n T1) := by
  intro d
  induction d with
  | zero =>
    intro f i B a P T hi hB h2
    have e : i = M := by omega
    subst e
    refine ⟨P, T, a, h2, ?_, fun m hm f => ?_⟩
    · rw [show 0 + 1 + f = f + 1 by omega, qX6_look_31, if_pos (nI_le (Nat.le_refl _) hM)]
    · rw [show 0 + 1 + f = f + 1 by omega, qX7_go_23, if_pos (nI_le (Nat.le_refl _) hM)]
  | succ d ih =>
    intro f i B a P T hi hB h2
    obtain ⟨P2, T2, a2, e1, e2, h3⟩ := min_step K (by omega) h2
    obtain ⟨P1, T1, a1, h4, e3, e4⟩ := ih f (i + 1) (B + 1) a2 P2 T2 (by omega) (by omega) h3
    refine ⟨P1, T1, a1, by rw [show B + (d + 1) = B + 1 + d by omega]; exact h4, ?_, fun m hm f => ?_⟩
    · rw [show d + 1 + 1 + f = (d + 1 + f) + 1 by omega, qX6_look_31, if_neg (nI_ge (by omega) hM), su_ne (by decide), su_ne (by decide), su_same, bi1_t e1, bd_t, su_su, nI_1]
      exact e3
    · rw [show d + 1 + 1 + f = (d + 1 + f) + 1 by omega, qX7_go_23, if_neg (nI_ge (by omega) hM), sc_39, bi1_t (e2 m T hm), bd_t, sc_su, nI_1]
      exact e4 m hm f
/-- a look at both: the rule r, the length y, M minutes -/
theorem look_eq {h : Hp} {n th B M r a : Nat} {y : Int32} (K : KdO h n) (hM : M ≤ 60) (hB : B < 2 ^ 29) (hr : r < 4) (h2 : Two n (al n) B (h 0) (h 38) a th noZ) (P0 T0 : Row) : ∃ P1 T1 a1, Two n (al n) (B + M) P1 T1 a1 th noZ ∧ qX6_look (su h 1 P0) (nI r) y (h 0 34) (nI M) = some (su h 1 P1) ∧ ∀ m, Rk h m → (m 39 = T0 → qX7_go m (nI r) y (nI M) = some (sc m h n T1)) ∧ qX7_go (sc m h n T0) (nI r) y (nI M) = some (sc m h n T1) := by
  have hn := K.1
  have h34 : h 0 34 = nI th := h2.2.2.2.2.2.2.2.2.1
  have h3 := begin_2 (P0 := P0) (T0 := T0) hn h2
  have h4 := ((h3.rul hn hr).col (j := 33) (x := y) (Or.inr (Or.inl rfl)) (fun q => absurd q (by omega)) (fun c _ q => absurd q (by omega)))
  obtain ⟨P1, T1, a1, h5, e1, e2⟩ := look_loop (M := M) K (by omega) M (599 - M) 0 B a _ _ (by omega) (by omega) h4
  rw [show M + 1 + (599 - M) = 600 by omega] at e1
  refine ⟨P1, T1, a1, h5, ?_, fun m hm => ⟨fun h39 => ?_, ?_⟩⟩
  · unfold qX6_look qX2_setRule
    rw [su_ne (show (0 : Nat) ≠ 1 by decide), su_same, bi1_t (copy_C _ _), bd_t, su_same, bd_t, bd_t, bi1_t rfl, bd_t, su_same, bd_t]
    have e34 : upd (upd (upd (cpy (h 0) P0) 32 (nI r)) 33 y) 34 (h 0 34) = upd (upd (cpy (h 0) P0) 32 (nI r)) 33 y := by
      have q := upd_i (upd (upd (cpy (h 0) P0) 32 (nI r)) 33 y) 34
      rw [upd_n _ (by decide), upd_n _ (by decide)] at q
      exact q
    rw [e34, su_su, su_su, su_su, show (0 : Int32) = nI 0 from rfl]
    exact e1
  · have q := e2 m hm (599 - M)
    rw [show M + 1 + (599 - M) = 600 by omega] at q
    unfold qX7_go
    rw [bi1_t (begin_m K hm), h39, bd_t, sc_39, sc_su, bd_t, sc_39, sc_su, show (0 : Int32) = nI 0 from rfl]
    exact q
  · have q := e2 m hm (599 - M)
    rw [show M + 1 + (599 - M) = 600 by omega] at q
    unfold qX7_go
    rw [bi1_t (begin_s K hm T0), bd_t, sc_39, sc_su, bd_t, sc_39, sc_su, show (0 : Int32) = nI 0 from rfl]
    exact q
def sm (P : Row) (b : Nat) : Nat → Int32
  | 0 => 0
  | k + 1 => sm P b k + P (b + k)
theorem sm_ag {P T : Row} {b n : Nat} (h : Ag P T) (hb : 10 ≤ b) (hn : b + n ≤ 36) : sm P b n = sm T b n := by
  induction n with
  | zero => rfl
  | succ n ih => rw [sm, sm, ih (by omega), h (b + n) (by omega) (by omega)]
theorem add_z (x : Int32) : x + 0 = x := Int32.add_zero x
theorem stare_C {P : Row} {n : Nat} (hn : n ≤ 5) (h36 : P 36 = nI (al n)) : ∀ (d f k : Nat), k + d = 5 → qX2_staredByAll_4 P (d + 1 + f) (sm P 15 (min k n)) (nI k) = some (sm P 15 n) := by
  intro d
  induction d with
  | zero =>
    intro f k hk
    rw [show 0 + 1 + f = f + 1 by omega, qX2_staredByAll_4, if_pos (le5 (by omega) (by omega)), show min k n = n by omega]
  | succ d ih =>
    intro f k hk
    rw [show d + 1 + 1 + f = (d + 1 + f) + 1 by omega, qX2_staredByAll_4, if_neg (nle5 (by omega)), h36, bhC (al_lt hn) (by omega), al_b hn (by omega)]
    unfold qX2_staredByAll_31
    by_cases hkn : k < n
    · rw [decide_eq_true hkn, if_pos rfl, if_neg one_ne, ck_t (in5 (by omega)), cl_nI (by omega), nI_1, show min k n = k by omega, show sm P 15 k + P (15 + k) = sm P 15 (min (k + 1) n) by rw [show min (k + 1) n = k + 1 by omega]; rfl]
      exact ih f (k + 1) (by omega)
    · rw [decide_eq_false hkn, if_neg (by decide), if_pos rfl, nI_1, add_z, show min k n = min (k + 1) n by omega]
      exact ih f (k + 1) (by omega)
theorem sum_R {R33 T : Row} {n b : Nat} (hb : b + n ≤ 36) (hn : n ≤ 5) (h4 : R33 4 = nI n) : ∀ (d f k : Nat), k + d = n → qX7_sumOf_5 R33 T (d + 1 + f) (nI b) (sm T b k) (nI k) = some (sm T b n) := by
  intro d
  induction d with
  | zero =>
    intro f k hk
    rw [show 0 + 1 + f = f + 1 by omega, qX7_sumOf_5, h4, if_pos (nI_le (by omega) (by omega)), show k = n by omega]
  | succ d ih =>
    intro f k hk
    rw [show d + 1 + 1 + f = (d + 1 + f) + 1 by omega, qX7_sumOf_5, h4, if_neg (nI_ge (by omega) (by omega)), nI_add, ck_t (in36 (by omega)), cl_nI (by omega), nI_1]
    exact ih f (k + 1) (by omega)
theorem stared_C {P : Row} {n : Nat} (hn : n ≤ 5) (h36 : P 36 = nI (al n)) : qX2_staredByAll P = some (sm P 15 n) := by
  have q := stare_C hn h36 5 594 0 (by omega)
  rw [show min 0 n = 0 by omega] at q
  exact q
theorem sum_RR {R33 T : Row} {n b : Nat} (hb : b + n ≤ 36) (hn : n ≤ 5) (h4 : R33 4 = nI n) : qX7_sumOf R33 T (nI b) = some (sm T b n) := by
  have q := sum_R (T := T) hb hn h4 n (599 - n) 0 (by omega)
  rw [show n + 1 + (599 - n) = 600 by omega] at q
  exact q
theorem stared_R {R33 P T : Row} {n B a th : Nat} {Z : Nat → Bool} (hn : n ≤ 5) (h4 : R33 4 = nI n) (h2 : Two n (al n) B P T a th Z) : qX7_sumOf R33 T 15 = some (sm P 15 n) := by
  rw [sm_ag h2.1.1 (by omega) (by omega)]
  exact sum_RR (b := 15) (by omega) hn h4
