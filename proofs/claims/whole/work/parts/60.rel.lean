/-! both sides' states, alike -/
def al (n : Nat) : Nat := 2 ^ n - 1
def TxO (h : Hp) (L : Nat) : Prop := L ≤ 32 ∧ h 19 1 = nI L ∧ h 33 2 = nI L ∧ ∀ j, j < L → h 20 j = h 34 j ∧ ∃ v, v < 256 ∧ h 20 j = nI v
def KdO (h : Hp) (n : Nat) : Prop := n ≤ 5 ∧ (h 21 0 = nI n ∧ ∀ j, j < n → ∃ q, q ≤ 9 ∧ h 22 j = nI q) ∧ h 33 4 = nI n ∧ ∀ j, j < n → h 22 j = h 35 j ∧ h 23 j = h 36 j
def noZ : Nat → Bool := fun _ => false
def PgO (n N : Nat) (P T : Row) : Prop := ∃ a th, Two n (al n) N P T a th noZ
def AcO (h : Hp) (n N k e : Nat) : Prop := k ≤ 14 ∧ e < 14 ∧ h 24 1 = nI k ∧ h 33 15 = nI k ∧ h 24 2 = nI e ∧ ∀ i, i < k → PgO n N (h (2 + (e + 13 - i) % 14)) (fun j => h 40 (36 * (k - 1 - i) + j))
def SlO (h : Hp) (n N : Nat) : Prop := ∀ s, s < 2 → (h 28 s = 0 ∧ h 42 s = 0) ∨ (h 28 s = 1 ∧ h 42 s = 1 ∧ PgO n N (h (16 + s)) (fun j => h 41 (36 * s + j)))
def SeO (h : Hp) (s : Nat) : Prop := s ≤ 6 ∧ h 29 2 = nI s ∧ h 33 18 = nI s ∧ ∀ j, j < s → h 30 j = h 43 j ∧ h 31 j = h 44 j ∧ (∃ c, c < 5 ∧ h 30 j = nI c) ∧ ∃ m, m ≤ 20 ∧ h 31 j = nI m
def Rel (N : Nat) (h : Hp) (g : Gp) : Prop := ∃ L n k e s : Nat, TxO h L ∧ KdO h n ∧ PgO n N (h 0) (h 38) ∧ AcO h n N k e ∧ SlO h n N ∧ SeO h s ∧ g 18 = g 33
/-- nothing that counts has changed -/
def Same (h k : Hp) : Prop := (∀ r, r ≠ 1 → r ≠ 32 → r ≠ 33 → r ≠ 37 → r ≠ 39 → r ≠ 45 → k r = h r) ∧ k 33 2 = h 33 2 ∧ k 33 4 = h 33 4 ∧ k 33 15 = h 33 15 ∧ k 33 18 = h 33 18
theorem Same.rf (h : Hp) : Same h h := ⟨fun _ _ _ _ _ _ _ => rfl, rfl, rfl, rfl, rfl⟩
theorem Same.tr {h k l : Hp} (a : Same h k) (b : Same k l) : Same h l := ⟨fun r h1 h2 h3 h4 h5 h6 => (b.1 r h1 h2 h3 h4 h5 h6).trans (a.1 r h1 h2 h3 h4 h5 h6), b.2.1.trans a.2.1, b.2.2.1.trans a.2.2.1, b.2.2.2.1.trans a.2.2.2.1, b.2.2.2.2.trans a.2.2.2.2⟩
theorem Same.row {h k : Hp} (a : Same h k) {r : Nat} (hr : r = 1 ∨ r = 32 ∨ r = 37 ∨ r = 39 ∨ r = 45) (P : Row) : Same h (su k r P) := a.tr ⟨fun q h1 h2 h3 h4 h5 h6 => su_ne (by omega), by rw [su_ne (by omega)], by rw [su_ne (by omega)], by rw [su_ne (by omega)], by rw [su_ne (by omega)]⟩
theorem Same.fld {h k : Hp} (a : Same h k) {j : Nat} (hj : j ≠ 2 ∧ j ≠ 4 ∧ j ≠ 15 ∧ j ≠ 18) (x : Int32) : Same h (su k 33 (upd (k 33) j x)) := a.tr ⟨fun q h1 h2 h3 h4 h5 h6 => su_ne (by omega), by rw [su_same, upd_n _ (by omega)], by rw [su_same, upd_n _ (by omega)], by rw [su_same, upd_n _ (by omega)], by rw [su_same, upd_n _ (by omega)]⟩
theorem Rel.same {N : Nat} {h k : Hp} {g : Gp} (R : Rel N h g) (S : Same h k) : Rel N k g := by
  obtain ⟨L, n, a, e, s, hT, hK, hP, hA, hS, hE, hg⟩ := R
  have q : ∀ r, (r ≠ 1 ∧ r ≠ 32 ∧ r ≠ 33 ∧ r ≠ 37 ∧ r ≠ 39 ∧ r ≠ 45) → k r = h r := fun r hr => S.1 r hr.1 hr.2.1 hr.2.2.1 hr.2.2.2.1 hr.2.2.2.2.1 hr.2.2.2.2.2
  refine ⟨L, n, a, e, s, ?_, ?_, ?_, ?_, ?_, ?_, hg⟩
  · unfold TxO at *
    rw [q 19 (by decide), q 20 (by decide), q 34 (by decide), S.2.1]
    exact hT
  · unfold KdO at *
    rw [q 21 (by decide), q 22 (by decide), q 23 (by decide), q 35 (by decide), q 36 (by decide), S.2.2.1]
    exact hK
  · rw [q 0 (by decide), q 38 (by decide)]
    exact hP
  · unfold AcO at *
    rw [q 24 (by decide), q 40 (by decide), S.2.2.2.1]
    obtain ⟨h1, h2, h3, h4, h5, h6⟩ := hA
    refine ⟨h1, h2, h3, h4, h5, fun i hi => ?_⟩
    rw [q (2 + (e + 13 - i) % 14) (by omega)]
    exact h6 i hi
  · unfold SlO at *
    rw [q 28 (by decide), q 41 (by decide), q 42 (by decide)]
    intro j hj
    rw [q (16 + j) (by omega)]
    exact hS j hj
  · unfold SeO at *
    rw [q 29 (by decide), q 30 (by decide), q 31 (by decide), q 43 (by decide), q 44 (by decide), S.2.2.2.2]
    exact hE
theorem PgO.up {n N : Nat} {P T : Row} (h : PgO n N P T) : PgO n (N + 1) P T := by
  obtain ⟨a, th, h⟩ := h
  exact ⟨a, th, h.up⟩
theorem AcO.up {h : Hp} {n N k e : Nat} (hA : AcO h n N k e) : AcO h n (N + 1) k e := by
  obtain ⟨h1, h2, h3, h4, h5, h6⟩ := hA
  exact ⟨h1, h2, h3, h4, h5, fun i hi => (h6 i hi).up⟩
theorem SlO.up {h : Hp} {n N : Nat} (hS : SlO h n N) : SlO h n (N + 1) := by
  intro s hs
  rcases hS s hs with h | ⟨h1, h2, h3⟩
  · exact Or.inl h
  · exact Or.inr ⟨h1, h2, h3.up⟩
theorem Rel.up {N : Nat} {h : Hp} {g : Gp} (R : Rel N h g) : Rel (N + 1) h g := by
  obtain ⟨L, n, a, e, s, hT, hK, hP, hA, hS, hE, hg⟩ := R
  exact ⟨L, n, a, e, s, hT, hK, hP.up, hA.up, hS.up, hE, hg⟩
theorem in_R (x lo hi : Int32) : qX7_in x.toInt64 lo.toInt64 hi.toInt64 = some (if x < lo then 0 else if hi < x then 0 else 1) := by
  have w : ∀ a b : Int32, a.toInt64 < b.toInt64 ↔ a < b := fun a b => by rw [Int64.lt_iff_toInt_lt, Int32.lt_iff_toInt_lt, Int32.toInt_toInt64, Int32.toInt_toInt64]
  unfold qX7_in
  by_cases h1 : x < lo
  · rw [if_pos ((lg_cmp_lt _ _).mpr ((w _ _).mpr h1)), if_pos h1]
  · rw [if_neg (fun h => h1 ((w _ _).mp ((lg_cmp_lt _ _).mp h))), if_neg h1]
    by_cases h2 : hi < x
    · rw [if_pos ((lg_cmp_gt _ _).mpr ((w _ _).mpr h2)), if_pos h2]
    · rw [if_neg (fun h => h2 ((w _ _).mp ((lg_cmp_gt _ _).mp h))), if_neg h2]
theorem al_lt {n : Nat} (hn : n ≤ 5) : al n < 32 := by
  rcases (show n = 0 ∨ n = 1 ∨ n = 2 ∨ n = 3 ∨ n = 4 ∨ n = 5 by omega) with rfl | rfl | rfl | rfl | rfl | rfl <;> decide
theorem al_0 : ∀ n : Fin 6, ∀ c : Fin 5, (al n.val).testBit c.val = decide (c.val < n.val) := by decide +kernel
theorem al_b {n c : Nat} (hn : n ≤ 5) (hc : c < 5) : (al n).testBit c = decide (c < n) := al_0 ⟨n, by omega⟩ ⟨c, hc⟩
theorem all_0 : ∀ n : Fin 6, ((1 : Int32) <<< (nI n.val &&& 31)) - (1 : Int32) = nI (al n.val) := by decide +kernel
theorem all_n {n : Nat} (hn : n ≤ 5) : ((1 : Int32) <<< (nI n &&& 31)) - (1 : Int32) = nI (al n) := all_0 ⟨n, by omega⟩
/-- is it a child? -/
theorem isChild (n : Nat) (hn : n ≤ 5) (x : Int32) : (∃ c, c < n ∧ x = nI c) ∨ (x < 0 ∨ nI n ≤ x) := by
  rcases pk_ix x (n := n) (by omega) with h | h | ⟨j, h1, h2⟩
  · exact Or.inr (Or.inl h)
  · exact Or.inr (Or.inr h)
  · exact Or.inl ⟨j, h1, h2⟩
theorem there_C {P : Row} {n c : Nat} (hn : n ≤ 5) (h36 : P 36 = nI (al n)) (hc : c < n) : qX2_isThere P (nI c) = some 1 := by
  unfold qX2_isThere
  rw [if_neg (nI_pos (by omega)), if_neg (nle5 (by omega)), h36, bhC (al_lt hn) (by omega), al_b hn (by omega), decide_eq_true hc, if_pos rfl, if_neg one_ne]
theorem there_Cn {P : Row} {n : Nat} {x : Int32} (hn : n ≤ 5) (h36 : P 36 = nI (al n)) (hx : x < 0 ∨ nI n ≤ x) : qX2_isThere P x = some 0 := by
  unfold qX2_isThere
  rcases pk_ix x (n := 5) (by omega) with h | h | ⟨j, h1, h2⟩
  · rw [if_pos h]
  · rw [if_neg (fun h2 => ?_), if_pos (show (5 : Int32) ≤ x from h)]
    have h3 : nI 5 ≤ x := h
    rw [Int32.lt_iff_toInt_lt] at h2
    rw [Int32.le_iff_toInt_le, nI_toInt (by decide)] at h3
    have : (0 : Int32).toInt = 0 := by decide
    omega
  · subst h2
    rw [if_neg (nI_pos (by omega)), if_neg (nle5 h1), h36, bhC (al_lt hn) h1, al_b hn h1]
    have : ¬ j < n := by
      rcases hx with hx | hx
      · exact absurd hx (nI_pos (by omega))
      · have := (nI_leI (by omega) (by omega)).mp hx
        omega
    rw [decide_eq_false this, if_neg (by decide), if_pos rfl]
theorem noC_R {R33 : Row} {n c : Nat} (hn : n ≤ 5) (h4 : R33 4 = nI n) (hc : c < n) : qX7_noChild R33 (nI c) = some 0 := by
  unfold qX7_noChild
  rw [h4, show (0 : Int64) = (0 : Int32).toInt64 by decide, in_R, if_neg (nI_pos (by omega)), if_neg, bi1_t rfl, if_neg one_ne]
  rw [show nI n - 1 = nI (n - 1) from pk_sub (a := n) (b := 1) (by omega)]
  exact nI_nlt (by omega) (by omega)
theorem noC_Rn {R33 : Row} {n : Nat} {x : Int32} (hn : n ≤ 5) (h4 : R33 4 = nI n) (hx : x < 0 ∨ nI n ≤ x) : qX7_noChild R33 x = some 1 := by
  unfold qX7_noChild
  rw [h4, show (0 : Int64) = (0 : Int32).toInt64 by decide, in_R]
  by_cases h0 : x < 0
  · rw [if_pos h0, bi1_t rfl, if_pos rfl]
  · rw [if_neg h0, if_pos, bi1_t rfl, if_pos rfl]
    have h1 := hx.resolve_left h0
    rw [Int32.le_iff_toInt_le, nI_toInt (by omega)] at h1
    rw [Int32.lt_iff_toInt_lt]
    have h2 : (nI n - 1).toInt = (n : Int) - 1 := pk_sub_toInt (a := n) (b := 1) (by omega) (by omega)
    omega
theorem su_rd (h : Hp) (r : Nat) (P : Row) (q : Nat) : su h r P q = if q = r then P else h q := rfl
theorem upd_rd (f : Row) (k : Nat) (x : Int32) (j : Nat) : upd f k x j = if j = k then x else f j := rfl
theorem TxO.of {h k : Hp} {L : Nat} (T : TxO h L) (h19 : k 19 = h 19) (h20 : k 20 = h 20) (h34 : k 34 = h 34) (h2 : k 33 2 = h 33 2) : TxO k L := by
  unfold TxO at *
  rw [h19, h20, h34, h2]
  exact T
theorem KdO.of {h k : Hp} {n : Nat} (K : KdO h n) (h21 : k 21 = h 21) (h22 : k 22 = h 22) (h23 : k 23 = h 23) (h35 : k 35 = h 35) (h36 : k 36 = h 36) (h4 : k 33 4 = h 33 4) : KdO k n := by
  unfold KdO at *
  rw [h21, h22, h23, h35, h36, h4]
  exact K
theorem AcO.of {h k : Hp} {n N a e : Nat} (A : AcO h n N a e) (h24 : k 24 = h 24) (h40 : k 40 = h 40) (h15 : k 33 15 = h 33 15) (hp : ∀ r, 2 ≤ r → r < 16 → k r = h r) : AcO k n N a e := by
  obtain ⟨h1, h2, h3, h4, h5, h6⟩ := A
  refine ⟨h1, h2, by rw [h24]; exact h3, by rw [h15]; exact h4, by rw [h24]; exact h5, fun i hi => ?_⟩
  rw [h40, hp _ (by omega) (by omega)]
  exact h6 i hi
theorem SlO.of {h k : Hp} {n N : Nat} (S : SlO h n N) (h28 : k 28 = h 28) (h41 : k 41 = h 41) (h42 : k 42 = h 42) (hp : ∀ r, 16 ≤ r → r < 18 → k r = h r) : SlO k n N := by
  intro s hs
  rw [h28, h41, h42, hp _ (by omega) (by omega)]
  exact S s hs
theorem SeO.of {h k : Hp} {s : Nat} (S : SeO h s) (h29 : k 29 = h 29) (h30 : k 30 = h 30) (h31 : k 31 = h 31) (h43 : k 43 = h 43) (h44 : k 44 = h 44) (h18 : k 33 18 = h 33 18) : SeO k s := by
  unfold SeO at *
  rw [h29, h30, h31, h43, h44, h18]
  exact S
