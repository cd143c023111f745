theorem days_v (G : Int64) (x : Int32) (hx : x = (((G.toUInt64 >>> (((33 : Int32)).toInt64.toUInt64 &&& Int64.toUInt64 63)).toInt64) - ((G.toUInt64 >>> (((33 : Int32)).toInt64.toUInt64 &&& Int64.toUInt64 63)).toInt64) / (10 : Int64) * (10 : Int64)).toInt32) : ∃ v : Nat, v < 10 ∧ x.toInt = (v : Int) := by
  have e : ((33 : Int32).toInt64.toUInt64 &&& Int64.toUInt64 63) = 33 := by decide
  rw [e] at hx
  have hu : (G.toUInt64 >>> (33 : UInt64)).toNat < 2 ^ 31 := by
    rw [UInt64.toNat_shiftRight, show (33 : UInt64).toNat % 64 = 33 by decide, Nat.shiftRight_eq_div_pow]
    have := G.toUInt64.toNat_lt
    omega
  generalize G.toUInt64 >>> (33 : UInt64) = u at hx hu
  have hw : u.toInt64.toInt = (u.toNat : Int) := by
    have q : u.toInt64.toInt = u.toBitVec.toInt := rfl
    rw [q, BitVec.toInt_eq_toNat_of_lt]
    · rfl
    · show 2 * u.toNat < 2 ^ 64
      omega
  generalize u.toInt64 = W at hx hw
  generalize u.toNat = w at hu hw
  have d1 : (W / 10).toInt = ((w / 10 : Nat) : Int) := by
    rw [Int64.toInt_div_of_ne_right _ _ (by decide), hw, show (10 : Int64).toInt = 10 by decide]
    rfl
  have m1 : (W / 10 * 10).toInt = ((w / 10 * 10 : Nat) : Int) := by
    rw [Int64.toInt_mul, d1, show (10 : Int64).toInt = 10 by decide, Int.bmod_eq_of_le_mul_two (by omega) (by omega)]
    omega
  have s1 : (W - W / 10 * 10).toInt = ((w % 10 : Nat) : Int) := by
    rw [Int64.toInt_sub, m1, hw, Int.bmod_eq_of_le_mul_two (by omega) (by omega)]
    omega
  refine ⟨w % 10, Nat.mod_lt _ (by decide), ?_⟩
  rw [hx, Int64.toInt_toInt32, s1, Int.bmod_eq_of_le_mul_two (by omega) (by omega)]
theorem days_n (G : Int64) : ∃ v, v < 10 ∧ (((G.toUInt64 >>> (((33 : Int32)).toInt64.toUInt64 &&& Int64.toUInt64 63)).toInt64) - ((G.toUInt64 >>> (((33 : Int32)).toInt64.toUInt64 &&& Int64.toUInt64 63)).toInt64) / (10 : Int64) * (10 : Int64)).toInt32 = nI v := by
  obtain ⟨v, h1, h2⟩ := days_v G _ rfl
  refine ⟨v, h1, Int32.toInt_inj.mp ?_⟩
  rw [h2, nI_toInt (by omega)]
theorem sg_2 (g : Gp) (r : Nat) (x y : Int64) : sg (sg g r x) r y = sg g r y := by
  funext q
  unfold sg
  by_cases h : q = r
  · rw [if_pos h, if_pos h]
  · rw [if_neg h, if_neg h, if_neg h]
theorem sg_i (g : Gp) (r : Nat) : sg g r (g r) = g := by
  funext q
  unfold sg
  by_cases h : q = r
  · rw [if_pos h, h]
  · rw [if_neg h]
theorem days_loop {h : Hp} {n N0 a0 t0 M : Nat} (K : KdO h n) (hM : M < 2 ^ 31) (h0 : Two n (al n) N0 (h 0) (h 38) a0 t0 noZ) : ∀ (d f f2 i B a th : Nat) (P T : Row) (G : Int64), i + d = M → B + d < 2 ^ 30 → Two n (al n) B P T a th noZ → ∃ r P1 T1 G1, (∀ g, qX6_days_27 (d + 1 + f) (su h 1 P) (sg g 18 G) (nI M) (nI i) = some (r, su h 1 P1, sg g 18 G1)) ∧ ∀ m, Rk h m → ∀ g, qX7_days_26 (d + 1 + f2) (sc m h n T) (sg g 33 G) (nI M) (nI i) = some (r, sc m h n T1, sg g 33 G1) := by
  have hn := K.1
  intro d
  induction d with
  | zero =>
    intro f f2 i B a th P T G hi hB h2
    have l : nI M ≤ nI i := nI_le (by omega) (by omega)
    refine ⟨sm P 15 n - sm (h 0) 15 n, P, T, G, fun g => ?_, fun m hm g => ?_⟩
    · rw [show 0 + 1 + f = f + 1 by omega, qX6_days_27, if_pos l, su_same, bi1_t (stared_C hn h2.2.1), su_ne (by decide), bi1_t (stared_C hn h0.2.1)]
    · rw [show 0 + 1 + f2 = f2 + 1 by omega, qX7_days_26, if_pos l, sc_33, sc_39, bi1_t (stared_R hn (r33_4 K) h2), sc_n (by decide) (by decide), hm.2.2.2, bi1_t (stared_R hn (r33_4 K) h0)]
  | succ d ih =>
    intro f f2 i B a th P T G hi hB h2
    have l : ¬ nI M ≤ nI i := nI_ge (by omega) (by omega)
    obtain ⟨v, hv, ev⟩ := days_n (G * (6364136223846793005 : Int64) + (1442695040888963407 : Int64))
    by_cases v5 : v < 5
    · have c5 : nI v < (5 : Int32) := nI_lt (a := v) (b := 5) v5 (by decide)
      have c4 : nI v ≤ (4 : Int32) := nI_le (a := v) (b := 4) (by omega) (by decide)
      obtain ⟨r0, P2, T2, hr, e1, e2, e3, e4, h3⟩ := do_call (v := v) K (by omega) h2
      obtain ⟨r, P1, T1, G1, e5, e6⟩ := ih f f2 (i + 1) (B + 1) a th P2 T2 (G * (6364136223846793005 : Int64) + (1442695040888963407 : Int64)) (by omega) (by omega) (two_up h3)
      refine ⟨r, P1, T1, G1, fun g => ?_, fun m hm g => ?_⟩
      · rw [show d + 1 + 1 + f = (d + 1 + f) + 1 by omega, qX6_days_27, if_neg l, sg_same, sg_2, bd_t, sg_same, ev, bd_t, if_pos c5, su_same, bi1_t e1]
        unfold qX6_days_95
        rcases hr with rfl | rfl
        · have e7 := e5 g
          rw [e3 rfl] at e7
          rw [if_pos rfl, nI_1]
          exact e7
        · rw [if_neg one_ne, bi1_t (e2 rfl), bd_t, su_su, nI_1]
          exact e5 g
      · rw [show d + 1 + 1 + f2 = (d + 1 + f2) + 1 by omega, qX7_days_26, if_neg l, sg_same, sg_2, bd_t, sg_same, ev, bd_t, if_pos c4, show (20 : Int32) + nI v = nI (20 + v) from nI_add 20 v, bi2_t (e4 m hm)]
        unfold qX7_days_85
        rw [nI_1]
        exact e6 m hm g
    · have c5 : ¬ nI v < (5 : Int32) := nI_nlt (a := v) (b := 5) (by omega) (by omega)
      have c4 : ¬ nI v ≤ (4 : Int32) := nI_ge (a := 4) (b := v) (by omega) (by omega)
      obtain ⟨P2, T2, a2, e1, e2, h3⟩ := min_step K (by omega) h2
      obtain ⟨r, P1, T1, G1, e5, e6⟩ := ih f f2 (i + 1) (B + 1) a2 th P2 T2 (G * (6364136223846793005 : Int64) + (1442695040888963407 : Int64)) (by omega) (by omega) h3
      refine ⟨r, P1, T1, G1, fun g => ?_, fun m hm g => ?_⟩
      · rw [show d + 1 + 1 + f = (d + 1 + f) + 1 by omega, qX6_days_27, if_neg l, sg_same, sg_2, bd_t, sg_same, ev, bd_t, if_neg c5, su_ne (show (22 : Nat) ≠ 1 by decide), su_ne (show (23 : Nat) ≠ 1 by decide), su_same, bi1_t e1, bd_t, su_su]
        unfold qX6_days_95
        rw [nI_1]
        exact e5 g
      · rw [show d + 1 + 1 + f2 = (d + 1 + f2) + 1 by omega, qX7_days_26, if_neg l, sg_same, sg_2, bd_t, sg_same, ev, bd_t, if_neg c4, sc_39, bi1_t (e2 m T hm), bd_t, sc_su]
        unfold qX7_days_85
        rw [nI_1]
        exact e6 m hm g
theorem op_days {N : Nat} {h : Hp} {g : Gp} (hN : N < 2 ^ 20) (R : Rel N h g) (x : Int32) : ∃ r h1 g1 h2 g2, qX6_days h g x = some (r, h1, g1) ∧ qX7_days h1 g1 x = some (r, h2, g2) ∧ Rel (N + 1) h2 g2 := by
  have R0 := R
  obtain ⟨L, n, k, e, s, hT, hK, hP, hA, hS, hE, hg⟩ := R
  obtain ⟨a, th, hP2⟩ := id hP
  have hn := hK.1
  have ix := in_or x 1 30 (by decide) (by decide)
  rw [show (nI 1).toInt64 = 1 by decide, show (nI 30).toInt64 = 30 by decide] at ix
  rcases ix with ⟨i1, i2⟩ | ⟨i1, i2, -, i3, M, -, hM, rfl⟩
  · refine ⟨-2, h, g, th0 h, g, ?_, ?_, R0.up.same (same_th0 h)⟩
    · unfold qX6_days
      rcases i2 with i2 | ⟨i2, i3⟩
      · rw [if_pos (show x < 1 from i2)]
      · rw [if_neg (show ¬ x < 1 from i2), if_neg (show ¬ x ≤ (30 : Int32) from Int32.not_le.mpr i3)]
    · show bd (th0 h) _ = _
      rw [bd_t, i1, bi1_t rfl, if_pos rfl]
  obtain ⟨r, P1, T1, G1, e5, e6⟩ := days_loop (M := M) hK (by omega) hP2 M (599 - M) (599 - M) 0 N a th _ _ (g 18) (by omega) (by omega) (begin_2 (P0 := h 1) (T0 := h 39) hn hP2)
  rw [show M + 1 + (599 - M) = 600 by omega] at e5 e6
  have e7 := e5 g
  rw [sg_i] at e7
  have hm := rk_th0 h P1
  have e8 := e6 _ hm (sg g 18 G1)
  have e9 : sg (sg g 18 G1) 33 (g 18) = sg g 18 G1 := by
    have q := sg_i (sg g 18 G1) 33
    rw [sg_ne (by decide), ← hg] at q
    exact q
  rw [e9] at e8
  refine ⟨r, su h 1 P1, sg g 18 G1, sc (th0 (su h 1 P1)) h n T1, sg (sg g 18 G1) 33 G1, ?_, ?_, ?_⟩
  · unfold qX6_days
    rw [if_neg (show ¬ nI M < 1 from i2), if_pos (show nI M ≤ (30 : Int32) from i3), bi1_t (copy_C _ _), bd_t, show (0 : Int32) = nI 0 from rfl]
    exact e7
  · show bd (th0 (su h 1 P1)) _ = _
    have e10 : th0 (su h 1 P1) 39 = h 39 := by rw [th0_n (by decide), su_ne (by decide)]
    rw [bd_t, i1, bi1_t rfl, if_neg one_ne, bi1_t (begin_m hK hm), e10, show (0 : Int32) = nI 0 from rfl]
    exact e8
  · have R1 : Rel N h (sg (sg g 18 G1) 33 G1) := ⟨L, n, k, e, s, hT, hK, hP, hA, hS, hE, by rw [sg_ne (by decide), sg_same, sg_same]⟩
    exact sc_rel R1 P1 T1
