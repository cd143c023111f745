/-! judging -/
theorem hun_C : ∀ j : Fin 4, hunR j.val = nI (100 ^ j.val) := by decide +kernel
theorem hun_R : ∀ j : Fin 5, qX7_power 100 (nI j.val) = some (nI (100 ^ j.val)) := by decide +kernel
theorem hun_b : ∀ j : Fin 5, 0 < 100 ^ j.val ∧ 100 ^ j.val < 2 ^ 31 := by decide +kernel
theorem nz_t {x : Int32} (h : ¬ x = 0) : nz x = true := by
  unfold nz
  first
  | exact bne_iff_ne.mpr h
  | exact decide_eq_true h
  | simp [h]
theorem judge_loop {h : Hp} {n q X : Nat} (K : KdO h n) (hX : X ≤ 4) (hq : q < 2 ^ 31) : ∀ (d f f2 i B a th : Nat) (P T : Row), i + d = X → B + d < 2 ^ 30 → Two n (al n) B P T a th noZ → ∃ v P1 T1, qX6_judge_44 (d + 1 + f) (su h 1 P) (nI X) (nI q) (nI i) = some (v, su h 1 P1) ∧ ∀ m, Rk h m → qX7_judge_44 (d + 1 + f2) (sc m h n T) (nI X) (nI q) (nI i) = some (v, sc m h n T1) := by
  intro d
  induction d with
  | zero =>
    intro f f2 i B a th P T hi hB h2
    have l : nI X ≤ nI i := nI_le (by omega) (by omega)
    exact ⟨-9, P, T, by rw [show 0 + 1 + f = f + 1 by omega, qX6_judge_44, if_pos l], fun m hm => by rw [show 0 + 1 + f2 = f2 + 1 by omega, qX7_judge_44, if_pos l]⟩
  | succ d ih =>
    intro f f2 i B a th P T hi hB h2
    have l : ¬ nI X ≤ nI i := nI_ge (by omega) (by omega)
    have s1 : nI X - (1 : Int32) - nI i = nI (X - 1 - i) := by
      rw [show nI X - (1 : Int32) = nI (X - 1) from pk_sub (a := X) (b := 1) (by omega)]
      exact pk_sub (a := X - 1) (b := i) (by omega)
    have j4 : X - 1 - i < 4 := by omega
    have hh := hun_b ⟨X - 1 - i, by omega⟩
    have hc : hunR (X - 1 - i) = nI (100 ^ (X - 1 - i)) := hun_C ⟨X - 1 - i, j4⟩
    have hr : qX7_power 100 (nI (X - 1 - i)) = some (nI (100 ^ (X - 1 - i))) := hun_R ⟨X - 1 - i, by omega⟩
    have hh1 : 0 < 100 ^ (X - 1 - i) := hh.1
    have hh2 : 100 ^ (X - 1 - i) < 2 ^ 31 := hh.2
    generalize 100 ^ (X - 1 - i) = H at hh1 hh2 hc hr
    have dv : nI q / nI H = nI (q / H) := pk_div hq hh1 hh2
    have hq2 : q / H < 2 ^ 31 := Nat.lt_of_le_of_lt (Nat.div_le_self _ _) hq
    have rm : nI (q / H) - nI (q / H) / (100 : Int32) * (100 : Int32) = nI (q / H % 100) := pk_rem (a := q / H) (d := 100) hq2 (by decide) (by decide)
    have hx : q / H % 100 < 100 := Nat.mod_lt _ (by decide)
    generalize q / H % 100 = x at rm hx
    have r1 : nI x / (10 : Int32) = nI (x / 10) := pk_div (a := x) (d := 10) (by omega) (by decide) (by decide)
    have r2 : nI x - nI x / (10 : Int32) * (10 : Int32) = nI (x % 10) := pk_rem (a := x) (d := 10) (by omega) (by decide) (by decide)
    obtain ⟨r, P2, T2, a2, hr01, e1, e2, h3⟩ := do_eq K (by omega) hx h2
    have nzH : nz (nI H) = true := nz_t (nI_ne0 hh1 hh2)
    rcases hr01 with rfl | rfl
    · refine ⟨nI i, P2, T2, ?_, fun m hm => ?_⟩
      · rw [show d + 1 + 1 + f = (d + 1 + f) + 1 by omega, qX6_judge_44, if_neg l, s1, ck_t (inb_nI j4 (by decide)), cl_nI (by omega), hc, ck_t nzH, dv, rm, bd_t, r2, r1, su_ne (by decide), su_ne (by decide), su_same, bi2_t e1, bd_t, su_su, if_pos rfl]
      · rw [show d + 1 + 1 + f2 = (d + 1 + f2) + 1 by omega, qX7_judge_44, if_neg l, s1, bi1_t hr, ck_t nzH, dv, rm, bi2_t (e2 m hm), if_pos rfl]
    · obtain ⟨v, P1, T1, e3, e4⟩ := ih f f2 (i + 1) (B + 1) a2 th P2 T2 (by omega) (by omega) h3
      refine ⟨v, P1, T1, ?_, fun m hm => ?_⟩
      · rw [show d + 1 + 1 + f = (d + 1 + f) + 1 by omega, qX6_judge_44, if_neg l, s1, ck_t (inb_nI j4 (by decide)), cl_nI (by omega), hc, ck_t nzH, dv, rm, bd_t, r2, r1, su_ne (by decide), su_ne (by decide), su_same, bi2_t e1, bd_t, su_su, if_neg one_ne, nI_1]
        exact e3
      · rw [show d + 1 + 1 + f2 = (d + 1 + f2) + 1 by omega, qX7_judge_44, if_neg l, s1, bi1_t hr, ck_t nzH, dv, rm, bi2_t (e2 m hm), if_neg one_ne, nI_1]
        exact e4 m hm
theorem op_judge {N : Nat} {h : Hp} {g : Gp} (hN : N < 2 ^ 20) (R : Rel N h g) (x y : Int32) : Op N g (qX6_judge h x y) (fun h => qX7_judge h x y) := by
  have R0 := R
  obtain ⟨L, n, k, e, s, hT, hK, hP, hA, hS, hE, hg⟩ := R
  obtain ⟨a, th, hP2⟩ := hP
  have hn := hK.1
  have bad : ∀ r : Int32, qX6_judge h x y = some (r, h) → qX7_judge h x y = some (r, th0 h) → Op N g (qX6_judge h x y) (fun h => qX7_judge h x y) := fun r e1 e2 => ⟨r, h, th0 h, e1, e2, R0.up.same (same_th0 h)⟩
  have ix := in_or x 1 4 (by decide) (by decide)
  rw [show (nI 1).toInt64 = 1 by decide, show (nI 4).toInt64 = 4 by decide] at ix
  rcases ix with ⟨i1, i2⟩ | ⟨i1, i2, i3, -, X, hX1, hX, rfl⟩
  · refine bad (-2) ?_ ?_
    · unfold qX6_judge
      rcases i2 with i2 | ⟨i2, i3⟩
      · rw [if_pos (show x < 1 from i2)]
      · rw [if_neg (show ¬ x < 1 from i2), if_pos (show (4 : Int32) < x from i3)]
    · show bd (th0 h) _ = _
      rw [bd_t, i1, bi1_t rfl, if_pos rfl]
  have pw : qX7_power 100 (nI X) = some (nI (100 ^ X)) := hun_R ⟨X, by omega⟩
  have hb := hun_b ⟨X, by omega⟩
  have hb1 : 0 < 100 ^ X := hb.1
  have hb2 : 100 ^ X < 2 ^ 31 := hb.2
  have inr : ∀ y : Int32, qX7_in y.toInt64 0 (nI (100 ^ X) - 1).toInt64 = some (if y < 0 then 0 else if nI (100 ^ X - 1) < y then 0 else 1) := fun y => by
    rw [show nI (100 ^ X) - (1 : Int32) = nI (100 ^ X - 1) from pk_sub (a := 100 ^ X) (b := 1) (by omega)]
    exact in_R y 0 (nI (100 ^ X - 1))
  by_cases y0 : y < 0
  · refine bad (-2) ?_ ?_
    · unfold qX6_judge
      rw [if_neg (show ¬ nI X < 1 from i2), if_neg (show ¬ (4 : Int32) < nI X from i3), if_pos y0]
    · show bd (th0 h) _ = _
      rw [bd_t, i1, bi1_t rfl, if_neg one_ne, bi1_t pw, inr, if_pos y0, bi1_t rfl, if_pos rfl]
  obtain ⟨q, hq, rfl⟩ : ∃ q, q < 2 ^ 31 ∧ y = nI q := by
    rw [Int32.lt_iff_toInt_lt, show (0 : Int32).toInt = 0 by decide] at y0
    have := Int32.toInt_lt y
    refine ⟨y.toInt.toNat, by omega, Int32.toInt_inj.mp ?_⟩
    rw [nI_toInt (by omega)]
    omega
  have s1 : nI X - (1 : Int32) = nI (X - 1) := pk_sub (a := X) (b := 1) (by omega)
  have j4 : X - 1 < 4 := by omega
  have hc : hunR (X - 1) = nI (100 ^ (X - 1)) := hun_C ⟨X - 1, j4⟩
  have hh := hun_b ⟨X - 1, by omega⟩
  have hh1 : 0 < 100 ^ (X - 1) := hh.1
  have hh2 : 100 ^ (X - 1) < 2 ^ 31 := hh.2
  have hp : 100 ^ X = 100 ^ (X - 1) * 100 := by rw [← Nat.pow_succ, show (X - 1).succ = X by omega]
  generalize 100 ^ (X - 1) = H at hh1 hh2 hc hp
  have dv : nI q / nI H = nI (q / H) := pk_div hq hh1 hh2
  have hq2 : q / H < 2 ^ 31 := Nat.lt_of_le_of_lt (Nat.div_le_self _ _) hq
  have nzH : nz (nI H) = true := nz_t (nI_ne0 hh1 hh2)
  have iff1 : q / H < 100 ↔ q < 100 * H := Nat.div_lt_iff_lt_mul hh1
  by_cases big : q / H < 100
  · have hq3 : q ≤ 100 ^ X - 1 := by
      have := iff1.mp big
      omega
    obtain ⟨v, P1, T1, e3, e4⟩ := judge_loop (q := q) (X := X) hK hX hq X (599 - X) (599 - X) 0 N a th _ _ (by omega) (by omega) (begin_2 (P0 := h 1) (T0 := h 39) hn hP2)
    rw [show X + 1 + (599 - X) = 600 by omega] at e3 e4
    have hm := rk_th0 h P1
    refine ⟨v, su h 1 P1, sc (th0 (su h 1 P1)) h n T1, ?_, ?_, sc_rel R0 P1 T1⟩
    · unfold qX6_judge
      rw [if_neg (show ¬ nI X < 1 from i2), if_neg (show ¬ (4 : Int32) < nI X from i3), if_neg y0, s1, ck_t (inb_nI j4 (by decide)), cl_nI (by omega), hc, ck_t nzH, dv, if_pos (show nI (q / H) ≤ (99 : Int32) from nI_le (a := q / H) (b := 99) (by omega) (by decide)), bi1_t (copy_C _ _), bd_t, show (0 : Int32) = nI 0 from rfl]
      exact e3
    · show bd (th0 (su h 1 P1)) _ = _
      have e5 : th0 (su h 1 P1) 39 = h 39 := by rw [th0_n (by decide), su_ne (by decide)]
      rw [bd_t, i1, bi1_t rfl, if_neg one_ne, bi1_t pw, inr, if_neg y0, if_neg (nI_nlt hq3 (by omega)), bi1_t rfl, if_neg one_ne, bi1_t (begin_m hK hm), e5, show (0 : Int32) = nI 0 from rfl]
      exact e4 _ hm
  · have hq3 : 100 ^ X - 1 < q := by
      have := fun z => big (iff1.mpr z)
      omega
    refine bad (-2) ?_ ?_
    · unfold qX6_judge
      rw [if_neg (show ¬ nI X < 1 from i2), if_neg (show ¬ (4 : Int32) < nI X from i3), if_neg y0, s1, ck_t (inb_nI j4 (by decide)), cl_nI (by omega), hc, ck_t nzH, dv, if_neg (show ¬ nI (q / H) ≤ (99 : Int32) from nI_ge (a := 99) (b := q / H) (by omega) hq2)]
    · show bd (th0 h) _ = _
      rw [bd_t, i1, bi1_t rfl, if_neg one_ne, bi1_t pw, inr, if_neg y0, if_pos (nI_lt hq3 hq), bi1_t rfl, if_pos rfl]
/-! coming to rest -/
theorem mgt_b {S : Row} (Q : Row) {c : Nat} (h : ∃ q, q ≤ 9 ∧ S c = nI q) : ∃ p, p ≤ 11 ∧ mgt S Q c = nI p := by
  obtain ⟨q, h1, h2⟩ := h
  unfold mgt
  by_cases e : Q c = 1
  · rw [if_pos e, h2]
    exact ⟨q + 2, by omega, nI_add q 2⟩
  · rw [if_neg e, h2]
    exact ⟨q, by omega, add_z _⟩
theorem gain_eq {h m : Hp} {n N a th c d u v : Nat} (K : KdO h n) (hc : c < n) (hd : d < n) (h2 : Two n (al n) N (h 0) (h 38) a th noZ) (h35 : m 35 = h 35) (h36 : m 36 = h 36) (h38 : m 38 = h 38) (hu : u < 2) (hv : v < 2) : ∃ r, qX6_gain h (nI c) (nI u) (nI d) (nI v) = some r ∧ qX7_hasBy m (nI c) (nI d) (nI u) (nI v) = some r := by
  have hn := K.1
  have hc5 : c < 5 := by omega
  have hd5 : d < 5 := by omega
  have hTc : h 38 c = h 0 c := (h2.1.1 c (by omega) (by omega)).symm
  have mc : mgt (h 35) (h 36) c = mgt (h 22) (h 23) c := by
    unfold mgt
    rw [(K.2.2.2 c hc).1, (K.2.2.2 c hc).2]
  have md : mgt (h 35) (h 36) d = mgt (h 22) (h 23) d := by
    unfold mgt
    rw [(K.2.2.2 d hd).1, (K.2.2.2 d hd).2]
  unfold qX6_gain qX7_hasBy
  by_cases u1 : nI u = (1 : Int32)
  · rw [if_pos u1, if_pos u1]
    by_cases v1 : nI v = (1 : Int32)
    · rw [if_pos v1]; exact ⟨_, rfl, rfl⟩
    · rw [if_neg v1]; exact ⟨_, rfl, rfl⟩
  · rw [if_neg u1, if_neg u1]
    by_cases v1 : nI v = (1 : Int32)
    · rw [if_pos v1, if_pos v1, ck_t (in5 hc5), pl0, ck_t (in36 (by omega)), cl_nI (by omega), cl_nI (by omega), Nat.zero_add, h38, hTc]
      exact ⟨_, rfl, rfl⟩
    · rw [if_neg v1, if_neg v1, bi1_t (might_C _ _ hc5), bi1_t (might_C _ _ hd5), h35, h36, bi1_t (might_R _ _ hc5), bi1_t (might_R _ _ hd5), bi1_t (might_R _ _ hc5), bi1_t (might_R _ _ hd5), mc, md]
      obtain ⟨p, hp, ep⟩ := mgt_b (h 23) (K.2.1.2 c hc)
      obtain ⟨q, hq, eq⟩ := mgt_b (h 23) (K.2.1.2 d hd)
      rw [ep, eq]
      by_cases h1 : p ≤ q
      · rw [if_pos (nI_le h1 (by omega))]
        by_cases h3 : q ≤ p
        · have e : p = q := by omega
          subst e
          rw [if_pos (nI_le h3 (by omega)), Int32.sub_self, if_pos rfl]
          exact ⟨_, rfl, rfl⟩
        · have t1 : (nI p - nI q).toInt = (p : Int) - q := pk_sub_toInt (by omega) (by omega)
          have n0 : ¬ nI p - nI q = 0 := fun z => by
            rw [z, show (0 : Int32).toInt = 0 by decide] at t1
            omega
          have n1 : nI p - nI q ≤ 0 := by
            rw [Int32.le_iff_toInt_le, t1, show (0 : Int32).toInt = 0 by decide]
            omega
          rw [if_neg (nI_ge (by omega) (by omega)), if_neg n0, if_pos n1]
          exact ⟨_, rfl, rfl⟩
      · have t1 : (nI p - nI q).toInt = (p : Int) - q := pk_sub_toInt (by omega) (by omega)
        have n0 : ¬ nI p - nI q = 0 := fun z => by
          rw [z, show (0 : Int32).toInt = 0 by decide] at t1
          omega
        have n1 : ¬ nI p - nI q ≤ 0 := by
          rw [Int32.le_iff_toInt_le, t1, show (0 : Int32).toInt = 0 by decide]
          omega
        rw [if_neg (nI_ge (by omega) (by omega)), if_neg n0, if_neg n1, ck_t (in5 hc5), pl0, ck_t (in36 (by omega)), cl_nI (by omega), cl_nI (by omega), Nat.zero_add, h38, hTc]
        exact ⟨_, rfl, rfl⟩
theorem mi1 {u : Nat} (hu : u < 2) : (1 : Int32) - nI u = nI (1 - u) := pk_sub (a := 1) (b := u) (by omega)
/-- whether they stay with it -/
theorem stay_eq {h m : Hp} {n N a th c d u v : Nat} (K : KdO h n) (hc : c < n) (hd : d < n) (h2 : Two n (al n) N (h 0) (h 38) a th noZ) (h35 : m 35 = h 35) (h36 : m 36 = h 36) (h38 : m 38 = h 38) (hu : u < 2) (hv : v < 2) : ∃ x y, qX7_hasBy m (nI c) (nI d) ((1 : Int32) - nI u) (nI v) = some y ∧ qX7_hasBy m (nI c) (nI d) (nI u) (nI v) = some x ∧ qX6_staysWith h (nI c) (nI u) (nI d) (nI v) = some (if x < y then 0 else 1) := by
  obtain ⟨x, x1, x2⟩ := gain_eq (u := u) (v := v) K hc hd h2 h35 h36 h38 hu hv
  obtain ⟨y, y1, y2⟩ := gain_eq (u := 1 - u) (v := v) K hc hd h2 h35 h36 h38 (by omega) hv
  refine ⟨x, y, by rw [mi1 hu]; exact y2, x2, ?_⟩
  unfold qX6_staysWith
  rw [bi1_t x1, mi1 hu, bi1_t y1]
  by_cases hl : x < y
  · rw [if_pos hl, if_pos hl]
  · rw [if_neg hl, if_neg hl]
