/-! which rules may have held -/
def cj (h : Hp) (j : Nat) : Nat := (h 30 j).toNatClampNeg
def mk (h : Hp) (k : Nat) : Nat → Nat
  | 0 => 0
  | j + 1 => if h 31 j = nI k then stb (mk h k j) (cj h j) else mk h k j
def okF (h : Hp) (n a k : Nat) : Nat → Bool
  | 0 => true
  | j + 1 => okF h n a k j && (!decide (h 31 j = nI k) || (!decide (cj h j < n) || a.testBit (cj h j)))
theorem cj_t {h : Hp} {s j : Nat} (hE : SeO h s) (hj : j < s) : cj h j < 5 ∧ h 30 j = nI (cj h j) := by
  obtain ⟨c, h1, h2⟩ := (hE.2.2.2 j hj).2.2.1
  have e : cj h j = c := by
    unfold cj
    rw [h2, cl_nI (by omega)]
  rw [e]
  exact ⟨h1, h2⟩
theorem mk_lt {h : Hp} {s k : Nat} (hE : SeO h s) : ∀ j, j ≤ s → mk h k j < 32 := by
  intro j
  induction j with
  | zero => intro _; exact (by decide : (0 : Nat) < 32)
  | succ j ih =>
    intro hj
    rw [mk]
    split
    · exact stb_lt (ih (by omega)) (cj_t hE (by omega)).1
    · exact ih (by omega)
theorem ok_iff {h : Hp} {s n a k : Nat} (hE : SeO h s) : ∀ j, j ≤ s → (okF h n a k j = true ↔ ∀ c, c < 5 → (mk h k j).testBit c = true → c < n → a.testBit c = true) := by
  intro j
  induction j with
  | zero =>
    intro _
    refine ⟨fun _ c _ hb => ?_, fun _ => rfl⟩
    rw [mk, Nat.zero_testBit] at hb
    cases hb
  | succ j ih =>
    intro hj
    have ih2 := ih (by omega)
    have hc := (cj_t hE (show j < s by omega)).1
    rw [okF, Bool.and_eq_true, ih2, mk]
    by_cases e : h 31 j = nI k
    · rw [if_pos e, decide_eq_true e, Bool.not_true, Bool.false_or]
      constructor
      · rintro ⟨h1, h2⟩ c c5 hb cn
        rw [stb_b (mk_lt hE j (by omega)) hc c5, Bool.or_eq_true] at hb
        rcases hb with hb | hb
        · exact h1 c c5 hb cn
        · rw [decide_eq_true_eq] at hb
          subst hb
          rw [decide_eq_true cn, Bool.not_true, Bool.false_or] at h2
          exact h2
      · intro h1
        refine ⟨fun c c5 hb cn => h1 c c5 (by rw [stb_b (mk_lt hE j (by omega)) hc c5, hb, Bool.true_or]) cn, ?_⟩
        by_cases cn : cj h j < n
        · rw [h1 (cj h j) hc (by rw [stb_b (mk_lt hE j (by omega)) hc hc, decide_eq_true rfl, Bool.or_true]) cn, Bool.or_true]
        · rw [decide_eq_false cn]; rfl
    · rw [if_neg e, decide_eq_false e, Bool.not_false, Bool.true_or]
      exact ⟨fun q => q.1, fun q => ⟨q, rfl⟩⟩
theorem ok_zero {h : Hp} {s n a k : Nat} (hE : SeO h s) (hn : n ≤ 5) (ha : a < 32) : ((nI (mk h k s) &&& nI (al n)) &&& (nI a ^^^ (-1 : Int32)) = 0 ↔ okF h n a k s = true) := by
  have l1 := mk_lt (k := k) hE s (Nat.le_refl s)
  have l2 : mk h k s &&& al n < 32 := and_lt l1
  have l3 : (mk h k s &&& al n) &&& (31 ^^^ a) < 32 := and_lt l2
  rw [and_nI l1 (al_lt hn), and_not l2 ha, ok_iff hE s (Nat.le_refl s)]
  have z : nI ((mk h k s &&& al n) &&& (31 ^^^ a)) = 0 ↔ (mk h k s &&& al n) &&& (31 ^^^ a) = 0 := by
    rw [show (0 : Int32) = nI 0 from rfl]
    exact nI_eq (by omega) (by decide)
  rw [z]
  have zt := zero_tb0 ⟨(mk h k s &&& al n) &&& (31 ^^^ a), l3⟩
  have bt : ∀ c, c < 5 → ((mk h k s &&& al n) &&& (31 ^^^ a)).testBit c = ((mk h k s).testBit c && decide (c < n) && !a.testBit c) := fun c hc => by
    rw [testBit_and, testBit_and, al_b hn hc, not31 ⟨a, ha⟩ ⟨c, hc⟩]
  constructor
  · intro q c c5 hb cn
    have q2 := zt.mp q ⟨c, c5⟩
    have q3 := bt c c5
    rw [show ((mk h k s &&& al n) &&& (31 ^^^ a)).testBit c = false from q2, hb, decide_eq_true cn, Bool.true_and, Bool.true_and] at q3
    cases ha2 : a.testBit c with
    | true => rfl
    | false => rw [ha2] at q3; cases q3
  · intro q
    refine zt.mpr (fun c => ?_)
    show ((mk h k s &&& al n) &&& (31 ^^^ a)).testBit c.val = false
    rw [bt c.val c.isLt]
    cases hb : (mk h k s).testBit c.val with
    | false => rfl
    | true =>
      by_cases cn : c.val < n
      · rw [q c.val c.isLt hb cn, Bool.not_true, Bool.and_false]
      · rw [decide_eq_false cn]; rfl
theorem riders_loop {h : Hp} {s k : Nat} (hE : SeO h s) : ∀ (d f j : Nat), j + d = s → qX3_ridersIn_4 (h 29) (h 30) (h 31) (d + 1 + f) (nI k) (nI (mk h k j)) (nI j) = some (nI (mk h k s)) := by
  have hs := hE.1
  have h2 := hE.2.1
  intro d
  induction d with
  | zero =>
    intro f j hj
    rw [show 0 + 1 + f = f + 1 by omega, qX3_ridersIn_4, h2, if_pos (nI_le (by omega) (by omega)), show j = s by omega]
  | succ d ih =>
    intro f j hj
    obtain ⟨c5, ec⟩ := cj_t hE (show j < s by omega)
    have i6 : inb (nI j) 6 = true := inb_nI (by omega) (by decide)
    rw [show d + 1 + 1 + f = (d + 1 + f) + 1 by omega, qX3_ridersIn_4, h2, if_neg (nI_ge (by omega) (by omega)), ck_t i6, cl_nI (by omega)]
    unfold qX3_ridersIn_33
    have q := ih f (j + 1) (by omega)
    rw [mk] at q
    by_cases e : h 31 j = nI k
    · rw [if_pos e] at q
      rw [if_pos e, ck_t i6, ec, on_b (mk_lt hE j (by omega)) c5, nI_1]
      exact q
    · rw [if_neg e] at q
      rw [if_neg e, nI_1]
      exact q
theorem riders_C {h : Hp} {s k : Nat} (hE : SeO h s) : qX3_ridersIn (h 29) (h 30) (h 31) (nI k) = some (nI (mk h k s)) := by
  have hs := hE.1
  have q := riders_loop (k := k) hE s (599 - s) 0 (by omega)
  rw [show s + 1 + (599 - s) = 600 by omega] at q
  exact q
def fI (b : Bool) : Int32 := if b = true then 1 else 0
theorem fI_t : fI true = 1 := rfl
theorem fI_f : fI false = 0 := rfl
theorem seen_loop {h m : Hp} {n a s k : Nat} {T : Row} (K : KdO h n) (hE : SeO h s) (ha : a < 32) (hT30 : T 30 = nI a) (h43 : m 43 = h 43) (h44 : m 44 = h 44) (k16 : Hp → Int32 → Int32 → Option (Int32 × Hp)) (b : Bool) : ∀ (d f j : Nat), j + d = s → qX7_isSeen_33 k16 (d + 1 + f) (sc m h n T) (fI (b && okF h n a k j)) (nI k) (nI j) = k16 (sc m h n T) (fI (b && okF h n a k s)) (nI k + 1) := by
  have hs := hE.1
  have hn := K.1
  have h18 : r33 h n 18 = nI s := by
    unfold r33
    rw [upd_n _ (by decide), upd_n _ (by decide)]
    exact hE.2.2.1
  intro d
  induction d with
  | zero =>
    intro f j hj
    rw [show 0 + 1 + f = f + 1 by omega, qX7_isSeen_33, sc_33, h18, if_pos (nI_le (by omega) (by omega)), show j = s by omega]
  | succ d ih =>
    intro f j hj
    have hjs : j < s := by omega
    obtain ⟨c5, ec⟩ := cj_t hE hjs
    have i6 : inb (nI j) 6 = true := inb_nI (by omega) (by decide)
    have e43 : h 43 j = nI (cj h j) := by rw [← (hE.2.2.2 j hjs).1]; exact ec
    have e44 : h 44 j = h 31 j := (hE.2.2.2 j hjs).2.1.symm
    have q := ih f (j + 1) (by omega)
    rw [okF, ← Bool.and_assoc] at q
    rw [show d + 1 + 1 + f = (d + 1 + f) + 1 by omega, qX7_isSeen_33, sc_33, h18, if_neg (nI_ge (by omega) (by omega))]
    cases hb : (b && okF h n a k j) with
    | false =>
      rw [hb, Bool.false_and] at q
      rw [fI_f, if_pos rfl]
      unfold qX7_isSeen_95 qX7_isSeen_96
      rw [nI_1]
      exact q
    | true =>
      rw [hb, Bool.true_and] at q
      rw [fI_t, if_neg one_ne, ck_t i6, cl_nI (by omega), sc_n (show (44 : Nat) ≠ 33 by decide) (by decide), h44, e44]
      by_cases e : h 31 j = nI k
      · rw [decide_eq_true e, Bool.not_true, Bool.false_or] at q
        rw [if_pos e, ck_t i6, sc_n (show (43 : Nat) ≠ 33 by decide) (by decide), h43, e43]
        by_cases cn : cj h j < n
        · rw [decide_eq_true cn, Bool.not_true, Bool.false_or] at q
          rw [bi1_t (noC_R hn (r33_4 K) cn), if_pos rfl, ck_t i6, sc_39, hT30, bhR ha c5]
          by_cases hr : a.testBit (cj h j) = true
          · rw [hr] at q
            rw [if_pos hr, if_neg one_ne]
            unfold qX7_isSeen_91 qX7_isSeen_96
            rw [nI_1]
            exact q
          · rw [Bool.not_eq_true] at hr
            rw [hr] at q
            rw [hr, if_neg (by decide), if_pos rfl]
            unfold qX7_isSeen_95 qX7_isSeen_96
            rw [nI_1]
            exact q
        · rw [decide_eq_false cn, Bool.not_false, Bool.true_or] at q
          rw [bi1_t (noC_Rn hn (r33_4 K) (Or.inr (nI_le (by omega) (by omega)))), if_neg one_ne]
          unfold qX7_isSeen_91 qX7_isSeen_96
          rw [nI_1]
          exact q
      · rw [decide_eq_false e, Bool.not_false, Bool.true_or] at q
        rw [if_neg e]
        unfold qX7_isSeen_91 qX7_isSeen_96
        rw [nI_1]
        exact q
theorem seen_600 {h m : Hp} {n a s k : Nat} {T : Row} (K : KdO h n) (hE : SeO h s) (ha : a < 32) (hT30 : T 30 = nI a) (h43 : m 43 = h 43) (h44 : m 44 = h 44) (k16 : Hp → Int32 → Int32 → Option (Int32 × Hp)) (b : Bool) : qX7_isSeen_33 k16 600 (sc m h n T) (fI b) (nI k) (nI 0) = k16 (sc m h n T) (fI (b && okF h n a k s)) (nI (k + 1)) := by
  have hs := hE.1
  have q := seen_loop (k := k) K hE ha hT30 h43 h44 k16 b s (599 - s) 0 (by omega)
  rw [show s + 1 + (599 - s) = 600 by omega, okF, Bool.and_true, nI_1] at q
  exact q
theorem seen_0 {h : Hp} {n s : Nat} (K : KdO h n) (hE : SeO h s) : ∀ (d f i B a th : Nat) (P T : Row), i + d = 21 → B + d < 2 ^ 30 → Two n (al n) B P T a th noZ → ∃ T1, ∀ m, Rk h m → m 43 = h 43 → m 44 = h 44 → qX7_isSeen_16 (d + 1 + f) (sc m h n T) 0 (nI i) = some (0, sc m h n T1) := by
  intro d
  induction d with
  | zero =>
    intro f i B a th P T hi hB h2
    refine ⟨T, fun m hm _ _ => ?_⟩
    rw [show 0 + 1 + f = f + 1 by omega, qX7_isSeen_16, if_pos (show (20 : Int32) < nI i from nI_lt (a := 20) (b := i) (by omega) (by omega)), ck_t bz_0]
  | succ d ih =>
    intro f i B a th P T hi hB h2
    obtain ⟨P2, T2, a2, e1, e2, h3⟩ := min_step K (by omega) h2
    have hT30 : T2 30 = nI a2 := by rw [← h3.1.1 30 (by omega) (by omega)]; exact h3.2.2.2.1
    obtain ⟨T1, e4⟩ := ih f (i + 1) (B + 1) a2 th P2 T2 (by omega) (by omega) h3
    refine ⟨T1, fun m hm h43 h44 => ?_⟩
    have q := seen_600 (k := i) K hE h3.2.2.1 hT30 h43 h44 (qX7_isSeen_16 (d + 1 + f)) false
    rw [Bool.false_and, fI_f] at q
    rw [show d + 1 + 1 + f = (d + 1 + f) + 1 by omega, qX7_isSeen_16, if_neg (show ¬ (20 : Int32) < nI i from nI_nlt (a := 20) (b := i) (by omega) (by omega)), sc_39, bi1_t (e2 m T hm), bd_t, sc_su]
    refine Eq.trans (Eq.trans ?_ q) (e4 m hm h43 h44)
    rfl
theorem all_loop {h : Hp} {n s : Nat} (K : KdO h n) (hE : SeO h s) : ∀ (d f f2 i B a th : Nat) (P T : Row), i + d = 21 → B + d < 2 ^ 30 → Two n (al n) B P T a th noZ → ∃ r P1 T1, (r = 0 ∨ r = 1) ∧ qX6_allSeenIsSoBy_28 (d + 1 + f) (su h 1 P) (nI i) = some (r, su h 1 P1) ∧ ∀ m, Rk h m → m 43 = h 43 → m 44 = h 44 → qX7_isSeen_16 (d + 1 + f2) (sc m h n T) 1 (nI i) = some (r, sc m h n T1) := by
  intro d
  induction d with
  | zero =>
    intro f f2 i B a th P T hi hB h2
    have l : (20 : Int32) < nI i := nI_lt (a := 20) (b := i) (by omega) (by omega)
    refine ⟨1, P, T, Or.inr rfl, ?_, fun m hm _ _ => ?_⟩
    · rw [show 0 + 1 + f = f + 1 by omega, qX6_allSeenIsSoBy_28, if_pos l]
    · rw [show 0 + 1 + f2 = f2 + 1 by omega, qX7_isSeen_16, if_pos l, ck_t bz_1]
  | succ d ih =>
    intro f f2 i B a th P T hi hB h2
    have l : ¬ (20 : Int32) < nI i := nI_nlt (a := 20) (b := i) (by omega) (by omega)
    obtain ⟨P2, T2, a2, e1, e2, h3⟩ := min_step K (by omega) h2
    have hT30 : T2 30 = nI a2 := by rw [← h3.1.1 30 (by omega) (by omega)]; exact h3.2.2.2.1
    have z := ok_zero (k := i) (s := s) hE K.1 h3.2.2.1
    have eC : qX6_allSeenIsSoBy_28 (d + 1 + 1 + f) (su h 1 P) (nI i) = if okF h n a2 i s = true then qX6_allSeenIsSoBy_28 (d + 1 + f) (su h 1 P2) (nI (i + 1)) else some (0, su h 1 P2) := by
      rw [show d + 1 + 1 + f = (d + 1 + f) + 1 by omega, qX6_allSeenIsSoBy_28, if_neg l, su_ne (show (22 : Nat) ≠ 1 by decide), su_ne (show (23 : Nat) ≠ 1 by decide), su_same, bi1_t e1, bd_t, su_su, su_ne (show (29 : Nat) ≠ 1 by decide), su_ne (show (30 : Nat) ≠ 1 by decide), su_ne (show (31 : Nat) ≠ 1 by decide), bi1_t (riders_C (k := i) hE), su_same, h3.2.1, h3.2.2.2.1, nI_1]
      by_cases ok : okF h n a2 i s = true
      · rw [if_pos (z.mpr ok), if_pos ok]
      · rw [if_neg (fun q => ok (z.mp q)), if_neg ok]
    have eR : ∀ m, Rk h m → m 43 = h 43 → m 44 = h 44 → qX7_isSeen_16 (d + 1 + 1 + f2) (sc m h n T) 1 (nI i) = qX7_isSeen_16 (d + 1 + f2) (sc m h n T2) (fI (okF h n a2 i s)) (nI (i + 1)) := by
      intro m hm h43 h44
      have q := seen_600 (k := i) K hE h3.2.2.1 hT30 h43 h44 (qX7_isSeen_16 (d + 1 + f2)) true
      rw [Bool.true_and, fI_t] at q
      rw [show d + 1 + 1 + f2 = (d + 1 + f2) + 1 by omega, qX7_isSeen_16, if_neg l, sc_39, bi1_t (e2 m T hm), bd_t, sc_su]
      refine Eq.trans ?_ q
      rfl
    cases ok : okF h n a2 i s with
    | true =>
      obtain ⟨r, P1, T1, hr, e3, e4⟩ := ih f f2 (i + 1) (B + 1) a2 th P2 T2 (by omega) (by omega) h3
      refine ⟨r, P1, T1, hr, ?_, fun m hm h43 h44 => ?_⟩
      · rw [eC, if_pos ok]
        exact e3
      · rw [eR m hm h43 h44, ok, fI_t]
        exact e4 m hm h43 h44
    | false =>
      obtain ⟨T1, e4⟩ := seen_0 K hE d f2 (i + 1) (B + 1) a2 th P2 T2 (by omega) (by omega) h3
      refine ⟨0, P2, T1, Or.inl rfl, ?_, fun m hm h43 h44 => ?_⟩
      · rw [eC, ok, if_neg (by decide)]
      · rw [eR m hm h43 h44, ok, fI_f]
        exact e4 m hm h43 h44
