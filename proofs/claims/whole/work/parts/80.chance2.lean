theorem lv75 {h m : Hp} {n q i : Nat} (K : KdO h n) (hq : q < 64) (hi : i < 6) (hb : q.testBit i = true) (k66 : Hp → Int32 → Int32 → Int32 → Int32 → Int32 → Int32 → Int32 → Int32 → Option (Int32 × Hp)) (k48 : Hp → Int32 → Int32 → Int32 → Int32 → Int32 → Int32 → Option (Int32 × Hp)) (x1 x2 x3 x4 x5 x7 : Int32) : ∀ (d f k a : Nat) (T : Row), k + d = n → a < 32 → T 30 = nI a → qX7_chance_75 k66 k48 (d + 1 + f) (sc m h n T) x1 x2 x3 x4 x5 (nI q) x7 (nI i) (nI k) = qX7_chance_109 k66 k48 (sc m h n (og d k a T).2) x1 x2 x3 x4 x5 (nI q) x7 (nI i) := by
  have hn := K.1
  intro d
  induction d with
  | zero =>
    intro f k a T hk ha h30
    rw [show 0 + 1 + f = f + 1 by omega, qX7_chance_75, sc_33, r33_4 K, if_pos (nI_le (by omega) (by omega))]
    rfl
  | succ d ih =>
    intro f k a T hk ha h30
    rw [show d + 1 + 1 + f = (d + 1 + f) + 1 by omega, qX7_chance_75, sc_33, r33_4 K, if_neg (nI_ge (by omega) (by omega)), h64R hq hi, if_pos hb, if_neg one_ne, sc_39, bi1_t (off_R h30 ha (by omega)), bd_t, sc_su, nI_1, og]
    exact ih f (k + 1) (clr a k) _ (by omega) (clr_lt ha (by omega)) (off_30 (by omega))
theorem worm_loop {h : Hp} {n q M c th p : Nat} (K : KdO h n) (hq : q < 64) (hM : M ≤ 6) (hp : p ≤ 10) (hc : c < 5) : ∀ (d f f2 i B a : Nat) (P T : Row) (Z : Nat → Bool), i + d = M → B + d < 2 ^ 30 → Two n (al n) B P T a th Z → ∃ (b : Bool) (P1 T1 : Row), qX6_ridesAfterWorms_14 (d + 1 + f) (su h 1 P) (nI c) (nI q) (nI M) (nI i) = some (fI b, su h 1 P1) ∧ ∀ m, Rk h m → ∀ (k48 : Hp → Int32 → Int32 → Int32 → Int32 → Int32 → Int32 → Option (Int32 × Hp)) (x4 S : Int32), qX7_chance_66 k48 (d + 1 + f2) (sc m h n T) (nI c) (nI M) (nI p) x4 S (nI q) (nI (wt q p i)) (nI i) = k48 (sc m h n T1) (nI c) (nI M) (nI p) x4 (S + (if b = true then nI (wt q p M) else 0)) (nI (q + 1)) := by
  have hn := K.1
  intro d
  induction d with
  | zero =>
    intro f f2 i B a P T Z hi hB h2
    have h30 := h2.2.2.2.1
    have ha := h2.2.2.1
    have hT30 : T 30 = nI a := by rw [← h2.1.1 30 (by omega) (by omega)]; exact h30
    have l : nI M ≤ nI i := nI_le (by omega) (by omega)
    have e : i = M := by omega
    subst e
    refine ⟨a.testBit c, P, T, ?_, fun m hm k48 x4 S => ?_⟩
    · rw [show 0 + 1 + f = f + 1 by omega, qX6_ridesAfterWorms_14, if_pos l, su_same, brC h30 ha hc]
      cases hr : a.testBit c with
      | true => rw [if_pos rfl, ck_t bz_1, fI_t]
      | false => rw [if_neg (by decide), ck_t bz_0, fI_f]
    · rw [show 0 + 1 + f2 = f2 + 1 by omega, qX7_chance_66, if_pos l, sc_39, hT30, bhR ha hc]
      unfold qX7_chance_168
      cases hr : a.testBit c with
      | true => rw [if_pos rfl, if_neg one_ne, nI_1, if_pos rfl]
      | false => rw [if_neg (by decide), if_pos rfl, nI_1, if_neg (by decide)]
  | succ d ih =>
    intro f f2 i B a P T Z hi hB h2
    have h30 := h2.2.2.2.1
    have ha := h2.2.2.1
    have hT30 : T 30 = nI a := by rw [← h2.1.1 30 (by omega) (by omega)]; exact h30
    have l : ¬ nI M ≤ nI i := nI_ge (by omega) (by omega)
    have hi6 : i < 6 := by omega
    have e10 : (10 : Int32) - nI p = nI (10 - p) := pk_sub (a := 10) (b := p) hp
    by_cases hb : q.testBit i = true
    · obtain ⟨P2, T2, a2, Z2, e1, e2, h3⟩ := min_Z K (by omega) (two_all hn h2)
      obtain ⟨b, P1, T1, e3, e4⟩ := ih f f2 (i + 1) (B + 1) a2 P2 T2 Z2 (by omega) (by omega) h3
      refine ⟨b, P1, T1, ?_, fun m hm k48 x4 S => ?_⟩
      · rw [show d + 1 + 1 + f = (d + 1 + f) + 1 by omega, qX6_ridesAfterWorms_14, if_neg l, h64C hq hi6, if_pos hb, if_neg one_ne, su_same, show (0 : Int32) = nI 0 from rfl, bi1_t (leave_C (by decide) ha h30), bd_t, su_su]
        unfold qX6_ridesAfterWorms_37
        rw [su_ne (show (22 : Nat) ≠ 1 by decide), su_ne (show (23 : Nat) ≠ 1 by decide), su_same, bi1_t e1, bd_t, su_su, nI_1]
        exact e3
      · have q1 := e4 m hm k48 x4 S
        rw [wt, if_pos hb] at q1
        have q2 := lv75 (m := m) K hq hi6 hb (qX7_chance_66 k48 (d + 1 + f2)) k48 (nI c) (nI M) (nI p) x4 S (nI (wt q p i)) n (599 - n) 0 a T (by omega) ha hT30
        rw [show n + 1 + (599 - n) = 600 by omega] at q2
        rw [show d + 1 + 1 + f2 = (d + 1 + f2) + 1 by omega, qX7_chance_66, if_neg l, show (0 : Int32) = nI 0 from rfl]
        refine q2.trans ?_
        unfold qX7_chance_109 qX7_chance_129
        rw [h64R hq hi6, if_pos hb, if_neg one_ne, sc_39, bi1_t (e2 m _ hm), bd_t, sc_su, pk_mul, nI_1]
        exact q1
    · obtain ⟨P2, T2, a2, Z2, e1, e2, h3⟩ := min_Z K (by omega) h2
      obtain ⟨b, P1, T1, e3, e4⟩ := ih f f2 (i + 1) (B + 1) a2 P2 T2 Z2 (by omega) (by omega) h3
      refine ⟨b, P1, T1, ?_, fun m hm k48 x4 S => ?_⟩
      · rw [show d + 1 + 1 + f = (d + 1 + f) + 1 by omega, qX6_ridesAfterWorms_14, if_neg l, h64C hq hi6, if_neg hb, if_pos rfl]
        unfold qX6_ridesAfterWorms_37
        rw [su_ne (show (22 : Nat) ≠ 1 by decide), su_ne (show (23 : Nat) ≠ 1 by decide), su_same, bi1_t e1, bd_t, su_su, nI_1]
        exact e3
      · have q1 := e4 m hm k48 x4 S
        rw [wt, if_neg hb] at q1
        have q2 : ∀ k66, qX7_chance_75 k66 k48 600 (sc m h n T) (nI c) (nI M) (nI p) x4 S (nI q) (nI (wt q p i)) (nI i) (nI 0) = qX7_chance_109 k66 k48 (sc m h n T) (nI c) (nI M) (nI p) x4 S (nI q) (nI (wt q p i)) (nI i) := by
          intro k66
          rw [show (600 : Nat) = 599 + 1 from rfl, qX7_chance_75, sc_33, r33_4 K, h64R hq hi6, if_neg hb, if_pos rfl, ite_self]
        rw [show d + 1 + 1 + f2 = (d + 1 + f2) + 1 by omega, qX7_chance_66, if_neg l, show (0 : Int32) = nI 0 from rfl]
        refine (q2 _).trans ?_
        unfold qX7_chance_109 qX7_chance_129
        rw [h64R hq hi6, if_neg hb, if_pos rfl, sc_39, bi1_t (e2 m _ hm), bd_t, sc_su, e10, pk_mul, nI_1]
        exact q1
theorem cha_loop {h : Hp} {n N M c th p a : Nat} {x4 : Int32} (K : KdO h n) (hN : N < 2 ^ 29) (hM : M ≤ 6) (hp : p ≤ 10) (hc : c < 5) (h2 : Two n (al n) N (h 0) (h 38) a th noZ) : ∀ (d f f2 q S : Nat) (P0 T0 : Row), q + d = 2 ^ M → S ≤ q * 1000000 → ∃ v P1 T1, qX6_chance_68 (d + 1 + f) (su h 1 P0) (nI c) (nI M) (nI p) x4 (nI S) (nI (10 ^ M)) (nI q) = some (v, su h 1 P1) ∧ ∀ m, Rk h m → qX7_chance_48 (d + 1 + f2) (sc m h n T0) (nI c) (nI M) (nI p) x4 (nI S) (nI q) = some (v, sc m h n T1) ∧ (d ≠ 0 → m 39 = T0 → qX7_chance_48 (d + 1 + f2) m (nI c) (nI M) (nI p) x4 (nI S) (nI q) = some (v, sc m h n T1)) := by
  have hn := K.1
  have p2 : 2 ^ M ≤ 64 := Nat.pow_le_pow_right (n := 2) (by decide) hM
  have p10 : 10 ^ M ≤ 1000000 := Nat.pow_le_pow_right (n := 10) (by decide) hM
  have p10' : 0 < 10 ^ M := Nat.pow_pos (by decide)
  have sh : (1 : Int32) <<< (nI M &&& 31) = nI (2 ^ M) := shl_0 ⟨M, by omega⟩
  intro d
  induction d with
  | zero =>
    intro f f2 q S P0 T0 hqd hS
    have l : nI (2 ^ M) ≤ nI q := nI_le (by omega) (by omega)
    obtain ⟨v, v1, v2⟩ := frac_eq (x := nI S) (z := x4) (y := 10 ^ M) (by rw [nI_toInt (by omega)]; omega) (by omega) p10'
    refine ⟨v, P0, T0, ?_, fun m hm => ⟨?_, fun q => absurd rfl q⟩⟩
    · rw [show 0 + 1 + f = f + 1 by omega, qX6_chance_68, sh, if_pos l, bi1_t v1]
    · rw [show 0 + 1 + f2 = f2 + 1 by omega, qX7_chance_48, sh, if_pos l, bi1_t (ten_R ⟨M, by omega⟩), bi1_t v2]
  | succ d ih =>
    intro f f2 q S P0 T0 hqd hS
    have l : ¬ nI (2 ^ M) ≤ nI q := nI_ge (by omega) (by omega)
    have hq : q < 64 := by omega
    have ww : qX6_weightOfWorms (nI q) (nI M) (nI p) = some (nI (wt q p M)) := by
      have w := wt_C hq hM hp M (599 - M) 0 (by omega)
      rw [show M + 1 + (599 - M) = 600 by omega] at w
      exact w
    have wle := wt_le q p hp M
    obtain ⟨b, P1, T1, e1, e2⟩ := worm_loop (q := q) (M := M) (c := c) (p := p) K hq hM hp hc M (599 - M) (599 - M) 0 N a _ _ noZ (by omega) (by omega) (begin_2 (P0 := P0) (T0 := T0) hn h2)
    rw [show M + 1 + (599 - M) = 600 by omega] at e1 e2
    have eC : qX6_ridesAfterWorms (su h 1 P0) (nI c) (nI q) (nI M) = some (fI b, su h 1 P1) := by
      unfold qX6_ridesAfterWorms
      rw [su_ne (show (0 : Nat) ≠ 1 by decide), su_same, bi1_t (copy_C _ _), bd_t, su_su, show (0 : Int32) = nI 0 from rfl]
      exact e1
    have eS : nI S + (if b = true then nI (wt q p M) else 0) = nI (S + if b = true then wt q p M else 0) := by
      cases b with
      | true => rw [if_pos rfl, if_pos rfl, nI_add]
      | false => rw [if_neg (by decide), if_neg (by decide), add_z, Nat.add_zero]
    have hS2 : S + (if b = true then wt q p M else 0) ≤ (q + 1) * 1000000 := by
      have : (if b = true then wt q p M else 0) ≤ 1000000 := by split <;> omega
      omega
    have eR : ∀ m, Rk h m → ∀ k48, qX7_chance_66 k48 600 (sc m h n (pst 36 0 (h 38) T0)) (nI c) (nI M) (nI p) x4 (nI S) (nI q) 1 (nI 0) = k48 (sc m h n T1) (nI c) (nI M) (nI p) x4 (nI (S + if b = true then wt q p M else 0)) (nI (q + 1)) := by
      intro m hm k48
      have w := e2 m hm k48 x4 (nI S)
      rw [eS] at w
      exact w
    by_cases w0 : wt q p M = 0
    · obtain ⟨v, P2, T2, e3, e4⟩ := ih f f2 (q + 1) (S + if b = true then wt q p M else 0) P0 T1 (by omega) hS2
      have eq0 : (S + if b = true then wt q p M else 0) = S := by rw [w0, ite_self, Nat.add_zero]
      refine ⟨v, P2, T2, ?_, fun m hm => ⟨?_, fun _ h39 => ?_⟩⟩
      · rw [show d + 1 + 1 + f = (d + 1 + f) + 1 by omega, qX6_chance_68, sh, if_neg l, bi1_t ww, w0, if_pos (show nI 0 ≤ (0 : Int32) by decide)]
        unfold qX6_chance_108
        rw [eq0] at e3
        rw [nI_1]
        exact e3
      · rw [show d + 1 + 1 + f2 = (d + 1 + f2) + 1 by omega, qX7_chance_48, sh, if_neg l, bi1_t (begin_s K hm T0), show (0 : Int32) = nI 0 from rfl]
        exact (eR m hm _).trans (e4 m hm).1
      · rw [show d + 1 + 1 + f2 = (d + 1 + f2) + 1 by omega, qX7_chance_48, sh, if_neg l, bi1_t (begin_m K hm), h39, show (0 : Int32) = nI 0 from rfl]
        exact (eR m hm _).trans (e4 m hm).1
    · obtain ⟨v, P2, T2, e3, e4⟩ := ih f f2 (q + 1) (S + if b = true then wt q p M else 0) P1 T1 (by omega) hS2
      refine ⟨v, P2, T2, ?_, fun m hm => ⟨?_, fun _ h39 => ?_⟩⟩
      · rw [show d + 1 + 1 + f = (d + 1 + f) + 1 by omega, qX6_chance_68, sh, if_neg l, bi1_t ww, if_neg (nI_nle (by omega) (by omega)), bi2_t eC]
        unfold qX6_chance_108
        rw [nI_1]
        cases b with
        | true =>
          rw [if_pos rfl] at e3
          rw [fI_t, if_neg one_ne, nI_add]
          exact e3
        | false =>
          rw [if_neg (by decide), Nat.add_zero] at e3
          rw [fI_f, if_pos rfl]
          exact e3
      · rw [show d + 1 + 1 + f2 = (d + 1 + f2) + 1 by omega, qX7_chance_48, sh, if_neg l, bi1_t (begin_s K hm T0), show (0 : Int32) = nI 0 from rfl]
        exact (eR m hm _).trans (e4 m hm).1
      · rw [show d + 1 + 1 + f2 = (d + 1 + f2) + 1 by omega, qX7_chance_48, sh, if_neg l, bi1_t (begin_m K hm), h39, show (0 : Int32) = nI 0 from rfl]
        exact (eR m hm _).trans (e4 m hm).1
theorem c46_loop {h : Hp} {M : Nat} (hM : M ≤ 6) (x1 x3 x4 x5 : Int32) : ∀ (d f i : Nat), i + d = M → qX6_chance_46 (d + 1 + f) h x1 (nI M) x3 x4 x5 (nI (10 ^ i)) (nI i) = qX6_chance_68 600 h x1 (nI M) x3 x4 x5 (nI (10 ^ M)) (nI 0) := by
  intro d
  induction d with
  | zero =>
    intro f i hi
    rw [show 0 + 1 + f = f + 1 by omega, qX6_chance_46, if_pos (nI_le (by omega) (by omega)), show i = M by omega]
    rfl
  | succ d ih =>
    intro f i hi
    rw [show d + 1 + 1 + f = (d + 1 + f) + 1 by omega, qX6_chance_46, if_neg (nI_ge (by omega) (by omega)), show nI (10 ^ i) * (10 : Int32) = nI (10 ^ (i + 1)) by rw [Nat.pow_succ]; exact pk_mul (10 ^ i) 10, nI_1]
    exact ih f (i + 1) (by omega)
theorem op_chance {N : Nat} {h : Hp} {g : Gp} (hN : N < 2 ^ 20) (R : Rel N h g) (x y z w : Int32) : Op N g (qX6_chance h x y z w) (fun h => qX7_chance h x y z w) := by
  have R0 := R
  obtain ⟨L, n, k, e, s, hT, hK, hP, hA, hS, hE, hg⟩ := R
  obtain ⟨a, th, hP2⟩ := hP
  have hn := hK.1
  have bad : ∀ r : Int32, qX6_chance h x y z w = some (r, h) → qX7_chance h x y z w = some (r, th0 h) → Op N g (qX6_chance h x y z w) (fun h => qX7_chance h x y z w) := fun r e1 e2 => ⟨r, h, th0 h, e1, e2, R0.up.same (same_th0 h)⟩
  have h33 : ∀ m : Hp, m 33 = upd (h 33) 0 0 → m 33 4 = nI n := fun m q => by rw [q, upd_n _ (by decide)]; exact hK.2.2.1
  rcases isChild n hn x with ⟨c, hc, rfl⟩ | hx
  · have iy := in_or y 1 6 (by decide) (by decide)
    have iz := in_or z 0 10 (by decide) (by decide)
    rw [show (nI 1).toInt64 = 1 by decide, show (nI 6).toInt64 = 6 by decide] at iy
    rw [show (nI 0).toInt64 = 0 by decide, show (nI 10).toInt64 = 10 by decide, show nI 0 = 0 from rfl] at iz
    rcases iy with ⟨i1, i2⟩ | ⟨i1, i2, i3, -, M, hM1, hM, rfl⟩
    · refine bad (-2) ?_ ?_
      · unfold qX6_chance
        rw [bi1_t (there_C hn hP2.2.1 hc), if_neg one_ne]
        rcases i2 with i2 | ⟨i2, i3⟩
        · rw [if_pos (show y < 1 from i2)]
        · rw [if_neg (show ¬ y < 1 from i2), if_pos (show (6 : Int32) < y from i3)]
      · show bd (th0 h) _ = _
        rw [bd_t, bi1_t (noC_R hn (h33 _ (th0_33 h)) hc), if_pos rfl, i1, bi1_t rfl, if_pos rfl]
    rcases iz with ⟨j1, j2⟩ | ⟨j1, j2, -, j3, p, -, hp, rfl⟩
    · refine bad (-2) ?_ ?_
      · unfold qX6_chance
        rw [bi1_t (there_C hn hP2.2.1 hc), if_neg one_ne, if_neg (show ¬ nI M < 1 from i2), if_neg (show ¬ (6 : Int32) < nI M from i3)]
        rcases j2 with j2 | ⟨j2, j3⟩
        · rw [if_pos j2]
        · rw [if_neg j2, if_neg (show ¬ z ≤ (10 : Int32) from Int32.not_le.mpr j3)]
      · show bd (th0 h) _ = _
        rw [bd_t, bi1_t (noC_R hn (h33 _ (th0_33 h)) hc), if_pos rfl, i1, bi1_t rfl, if_neg one_ne, j1, bi1_t rfl, if_pos rfl]
    have p2 : 2 ^ M ≤ 64 := Nat.pow_le_pow_right (n := 2) (by decide) hM
    have p2' : 0 < 2 ^ M := Nat.pow_pos (by decide)
    obtain ⟨v, P1, T1, e3, e4⟩ := cha_loop (x4 := w) (c := c) hK (by omega) hM hp (by omega) hP2 (2 ^ M) (599 - 2 ^ M) (599 - 2 ^ M) 0 0 (h 1) (h 39) (by omega) (by omega)
    rw [show 2 ^ M + 1 + (599 - 2 ^ M) = 600 by omega, su_self] at e3
    rw [show 2 ^ M + 1 + (599 - 2 ^ M) = 600 by omega] at e4
    have hm := rk_th0 h P1
    refine ⟨v, su h 1 P1, sc (th0 (su h 1 P1)) h n T1, ?_, ?_, sc_rel R0 P1 T1⟩
    · unfold qX6_chance
      have q := c46_loop (h := h) hM (nI c) (nI p) w 0 M (599 - M) 0 (by omega)
      rw [show M + 1 + (599 - M) = 600 by omega] at q
      rw [bi1_t (there_C hn hP2.2.1 hc), if_neg one_ne, if_neg (show ¬ nI M < 1 from i2), if_neg (show ¬ (6 : Int32) < nI M from i3), if_neg j2, if_pos (show nI p ≤ (10 : Int32) from j3)]
      exact q.trans e3
    · show bd (th0 (su h 1 P1)) _ = _
      rw [bd_t, bi1_t (noC_R hn (h33 _ hm.1) hc), if_pos rfl, i1, bi1_t rfl, if_neg one_ne, j1, bi1_t rfl, if_neg one_ne, show (0 : Int32) = nI 0 from rfl]
      exact (e4 _ hm).2 (by omega) (by rw [th0_n (by decide), su_ne (by decide)])
  · refine bad (-1) ?_ ?_
    · unfold qX6_chance
      rw [bi1_t (there_Cn hn hP2.2.1 hx), if_pos rfl]
    · show bd (th0 h) _ = _
      rw [bd_t, bi1_t (noC_Rn hn (h33 _ (th0_33 h)) hx), if_neg one_ne]
