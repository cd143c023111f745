/-! what the two constructors give, as the heap of rows -/
abbrev OtS : Type := (Nat × (Nat → Nat)) × (Nat × (Nat → Nat)) × (Nat × (Nat → Nat)) × (Nat × (Nat → Nat)) × (Nat × Nat × (Nat → Nat → Nat)) × (Nat × Nat × Nat × (Nat → Nat → Nat)) × (Nat × (Nat → Nat)) × Nat
def P0 : Row := fun j => if j = 31 then -9 else if j = 33 then 1 else if j = 34 then 1 else 0
def h0 : Hp := fun r => if r < 18 then P0 else if r = 33 then (fun j => if j = 9 then 1 else 0) else if r = 38 then upd (upd (upd (fun _ => 0) 31 (-9)) 33 1) 34 1 else fun _ => 0
def g0 : Gp := fun _ => 0
def a1 (x : Nat × (Nat → Nat)) (s : Nat) : Nat := if s = 0 then x.1 else x.2 s
def aP (w : OtS) (b s : Nat) : Nat := if b = 0 then a1 w.2.2.1 s else if b = 1 then a1 w.2.2.2.1 s else if b < 16 then w.2.2.2.2.1.2.2 (b - 2) s else w.2.2.2.2.2.1.2.2.2 (b - 16) s
def aO (o : Nat) (w : OtS) (o2 : Nat) (v : Nat → Nat) : List Nat := [o, w.1.1, w.1.2 1, w.2.1.1, w.2.1.2 1, w.2.1.2 2, w.2.2.2.2.1.1, w.2.2.2.2.1.2.1, w.2.2.2.2.2.1.1, w.2.2.2.2.2.1.2.1, w.2.2.2.2.2.1.2.2.1, w.2.2.2.2.2.2.1.1, w.2.2.2.2.2.2.1.2 1, w.2.2.2.2.2.2.1.2 2, w.2.2.2.2.2.2.2, o2, v 1, v 2, v 3, v 4, v 5, v 6, v 7, v 8, v 9, v 10, v 11, v 12]
def aF (o : Nat) (w : OtS) (o2 : Nat) (v : Nat → Nat) (i : Nat) : Nat := if i < 126 then aP w (i / 7) (i % 7) else (aO o w o2 v).getD (i - 126) 0
def pos (i : Nat) : Nat := if i < 14 then i + 6 else if i < 112 then i + 8 else if i < 126 then i + 11 else if i < 132 then i - 126 else if i < 134 then i - 112 else if i < 137 then i - 14 else i
def bigW (E : Ev) (o : Nat) (w : OtS) (o2 : Nat) (v : Nat → Nat) : va_W := otW E o w ++ moW E o2 v
theorem clip0 (s : Nat) (hs : s < 7) (h0 : 0 < s) : clip (5 * (s - 1)) P0 = fun _ => 0 := by
  funext j
  unfold clip P0
  by_cases hj : j < 5
  · rw [if_pos hj, if_neg (by omega), if_neg (by omega), if_neg (by omega)]
  · rw [if_neg hj]
theorem PLs_get (E : Ev) (kid : Nat) (q : Nat → Nat → Nat) : ∀ (n k s : Nat), k < n → s < 7 → (PLs E kid q n)[7 * k + s]? = (plW E kid (q k 0) (q k))[s]? := by
  intro n
  induction n with
  | zero => intro k s h; omega
  | succ n ih =>
    intro k s hk hs
    have e : PLs E kid q (n + 1) = PLs E kid q n ++ plW E kid (q n 0) (q n) := by
      unfold PLs
      rw [List.range_succ, List.flatMap_append, List.flatMap_singleton]
    rw [e]
    rcases Nat.lt_or_ge k n with h | h
    · rw [List.getElem?_append_left (by rw [PLs_len]; omega)]
      exact ih k s h hs
    · have e2 : k = n := by omega
      subst e2
      rw [List.getElem?_append_right (by rw [PLs_len]; omega), PLs_len, show 7 * k + s - 7 * k = s by omega]
theorem plW_get (E : Ev) (kid o : Nat) (u : Nat → Nat) (s : Nat) (hs : s < 7) : (plW E kid o u)[s]? = some (if s = 0 then o else u s, if s = 0 then .inr (2, [.ref kid, .int 0, .int 0, .int (-9), .int 0, .int 1, .int 1, .int 0, .ref (u 1), .ref (u 2), .ref (u 3), .ref (u 4), .ref (u 5), .ref (u 6)]) else .inl (E.2.1, 5, .inl (fun _ => 0))) := by
  rcases (show s = 0 ∨ s = 1 ∨ s = 2 ∨ s = 3 ∨ s = 4 ∨ s = 5 ∨ s = 6 by omega) with rfl | rfl | rfl | rfl | rfl | rfl | rfl <;> rfl
theorem arrV_cong {cA : ClassId} {N : Nat} {f g : Nat → Value} (h : ∀ j, j < N → f j = g j) : arrV cA N f = arrV cA N g := by
  unfold arrV
  congr 1
  apply Array.ext
  · simp
  · intro i h1 h2
    simp only [Array.getElem_ofFn]
    exact h i (by simpa using h1)
/-- the pools' places in the list -/
theorem big_acts (E : Ev) (o : Nat) (w : OtS) (o2 : Nat) (v : Nat → Nat) (j : Nat) (hj : j < 98) : (bigW E o w o2 v)[22 + j]? = (PLs E w.2.1.1 w.2.2.2.2.1.2.2 14)[j]? := by
  have hl : (PLs E w.2.1.1 w.2.2.2.2.1.2.2 14).length = 98 := PLs_len _ _ _ _
  show (((_ :: _ :: _ :: _ :: _ :: _ :: _ :: _ :: _ :: _ :: _ :: _ :: _ :: _ :: _ :: _ :: _ :: _ :: _ :: _ :: _ :: _ :: ((((PLs E w.2.1.1 w.2.2.2.2.1.2.2 14 ++ slW E _ _ _) ++ snW E _ _) ++ [_]) ++ moW E o2 v)) : va_W))[22 + j]? = _
  rw [show 22 + j = j + 22 by omega]
  simp only [List.getElem?_cons_succ]
  rw [List.getElem?_append_left (by simp only [List.length_append, hl]; omega), List.getElem?_append_left (by simp only [List.length_append, hl]; omega), List.getElem?_append_left (by simp only [List.length_append, hl]; omega), List.getElem?_append_left (by omega)]
theorem big_rest (E : Ev) (o : Nat) (w : OtS) (o2 : Nat) (v : Nat → Nat) (k : Nat) : (bigW E o w o2 v)[120 + k]? = (slW E w.2.1.1 w.2.2.2.2.2.1.1 w.2.2.2.2.2.1.2 ++ (snW E w.2.2.2.2.2.2.1.1 w.2.2.2.2.2.2.1.2 ++ ([(w.2.2.2.2.2.2.2, .inl (E.2.1, 32, .inl (fun _ => 0)))] ++ moW E o2 v)))[k]? := by
  have hl : (PLs E w.2.1.1 w.2.2.2.2.1.2.2 14).length = 98 := PLs_len _ _ _ _
  show (((_ :: _ :: _ :: _ :: _ :: _ :: _ :: _ :: _ :: _ :: _ :: _ :: _ :: _ :: _ :: _ :: _ :: _ :: _ :: _ :: _ :: _ :: ((((PLs E w.2.1.1 w.2.2.2.2.1.2.2 14 ++ slW E _ _ _) ++ snW E _ _) ++ [_]) ++ moW E o2 v)) : va_W))[120 + k]? = _
  rw [show 120 + k = (98 + k) + 22 by omega]
  simp only [List.getElem?_cons_succ]
  rw [List.append_assoc, List.append_assoc, List.append_assoc, List.getElem?_append_right (by omega), hl, show 98 + k - 98 = k by omega]
/-- each cell of the world of rows stands in the list -/
def InBig (E : Ev) (o : Nat) (w : OtS) (o2 : Nat) (v : Nat → Nat) (i : Nat) : Prop := ∃ e : va_E, (bigW E o w o2 v)[pos i]? = some (aF o w o2 v i, e) ∧ ∀ H : Heap, va_at E.1 vwCl (aF o w o2 v i, e) H → va_at E.1 vwCl (aF o w o2 v i, ent E (aF o w o2 v) h0 g0 i) H
theorem aF_P (o : Nat) (w : OtS) (o2 : Nat) (v : Nat → Nat) {b s : Nat} (hb : b < 18) (hs : s < 7) : aF o w o2 v (7 * b + s) = aP w b s := by
  unfold aF
  rw [if_pos (by omega), show (7 * b + s) / 7 = b by omega, show (7 * b + s) % 7 = s by omega]
theorem ent0_P (E : Ev) (o : Nat) (w : OtS) (o2 : Nat) (v : Nat → Nat) {b s : Nat} (hb : b < 18) (hs : s < 7) : ent E (aF o w o2 v) h0 g0 (7 * b + s) = if s = 0 then .inr (2, [.ref w.2.1.1, .int 0, .int 0, .int (-9), .int 0, .int 1, .int 1, .int 0, .ref (aP w b 1), .ref (aP w b 2), .ref (aP w b 3), .ref (aP w b 4), .ref (aP w b 5), .ref (aP w b 6)]) else .inl (E.2.1, 5, .inl (fun _ => 0)) := by
  rw [ent_P hb hs, show h0 b = P0 from if_pos hb]
  unfold entP
  by_cases e : s = 0
  · rw [if_pos e, if_pos e, aF_P o w o2 v hb (by decide : 1 < 7), aF_P o w o2 v hb (by decide : 2 < 7), aF_P o w o2 v hb (by decide : 3 < 7), aF_P o w o2 v hb (by decide : 4 < 7), aF_P o w o2 v hb (by decide : 5 < 7), aF_P o w o2 v hb (by decide : 6 < 7)]
    rfl
  · rw [if_neg e, if_neg e, clip0 s hs (by omega)]
theorem inBig_P (E : Ev) (o : Nat) (w : OtS) (o2 : Nat) (v : Nat → Nat) {b s : Nat} (hb : b < 18) (hs : s < 7) : InBig E o w o2 v (7 * b + s) := by
  have key : ∀ (q : Nat) (u : Nat → Nat), (∀ t, t < 7 → aP w b t = if t = 0 then q else u t) → (bigW E o w o2 v)[pos (7 * b + s)]? = (plW E w.2.1.1 q u)[s]? → InBig E o w o2 v (7 * b + s) := by
    intro q u ha hp
    refine ⟨_, ?_, fun H h => h⟩
    rw [hp, plW_get E _ _ _ s hs, aF_P o w o2 v hb hs, ent0_P E o w o2 v hb hs, ha s hs, ha 1 (by decide), ha 2 (by decide), ha 3 (by decide), ha 4 (by decide), ha 5 (by decide), ha 6 (by decide)]
    rfl
  rcases (show b = 0 ∨ b = 1 ∨ (2 ≤ b ∧ b < 16) ∨ b = 16 ∨ b = 17 by omega) with rfl | rfl | h | rfl | rfl
  · refine key w.2.2.1.1 w.2.2.1.2 (fun t ht => rfl) ?_
    rcases (show s = 0 ∨ s = 1 ∨ s = 2 ∨ s = 3 ∨ s = 4 ∨ s = 5 ∨ s = 6 by omega) with rfl | rfl | rfl | rfl | rfl | rfl | rfl <;> rfl
  · refine key w.2.2.2.1.1 w.2.2.2.1.2 (fun t ht => rfl) ?_
    rcases (show s = 0 ∨ s = 1 ∨ s = 2 ∨ s = 3 ∨ s = 4 ∨ s = 5 ∨ s = 6 by omega) with rfl | rfl | rfl | rfl | rfl | rfl | rfl <;> rfl
  · have hp : pos (7 * b + s) = 22 + (7 * (b - 2) + s) := by
      unfold pos
      rw [if_neg (by omega), if_pos (by omega)]
      omega
    refine key (w.2.2.2.2.1.2.2 (b - 2) 0) (w.2.2.2.2.1.2.2 (b - 2)) (fun t ht => ?_) ?_
    · unfold aP
      rw [if_neg (by omega), if_neg (by omega), if_pos h.2]
      by_cases e : t = 0
      · rw [if_pos e, e]
      · rw [if_neg e]
    · rw [hp, big_acts E o w o2 v _ (by omega), PLs_get E _ _ 14 (b - 2) s (by omega) hs]
  · refine key (w.2.2.2.2.2.1.2.2.2 0 0) (w.2.2.2.2.2.1.2.2.2 0) (fun t ht => ?_) ?_
    · unfold aP
      by_cases e : t = 0
      · rw [if_pos e, e]; rfl
      · rw [if_neg e]; rfl
    · have hp : pos (7 * 16 + s) = 120 + (3 + s) := by
        unfold pos
        rw [if_neg (by omega), if_neg (by omega), if_pos (by omega)]
        omega
      rw [hp, big_rest]
      rcases (show s = 0 ∨ s = 1 ∨ s = 2 ∨ s = 3 ∨ s = 4 ∨ s = 5 ∨ s = 6 by omega) with rfl | rfl | rfl | rfl | rfl | rfl | rfl <;> rfl
  · refine key (w.2.2.2.2.2.1.2.2.2 1 0) (w.2.2.2.2.2.1.2.2.2 1) (fun t ht => ?_) ?_
    · unfold aP
      by_cases e : t = 0
      · rw [if_pos e, e]; rfl
      · rw [if_neg e]; rfl
    · have hp : pos (7 * 17 + s) = 120 + (10 + s) := by
        unfold pos
        rw [if_neg (by omega), if_neg (by omega), if_pos (by omega)]
        omega
      rw [hp, big_rest]
      rcases (show s = 0 ∨ s = 1 ∨ s = 2 ∨ s = 3 ∨ s = 4 ∨ s = 5 ∨ s = 6 by omega) with rfl | rfl | rfl | rfl | rfl | rfl | rfl <;> rfl
theorem inBig_126 (E : Ev) (o : Nat) (w : OtS) (o2 : Nat) (v : Nat → Nat) : InBig E o w o2 v 126 := ⟨_, rfl, fun _ h => h⟩
theorem inBig_127 (E : Ev) (o : Nat) (w : OtS) (o2 : Nat) (v : Nat → Nat) : InBig E o w o2 v 127 := ⟨_, rfl, fun _ h => h⟩
theorem inBig_128 (E : Ev) (o : Nat) (w : OtS) (o2 : Nat) (v : Nat → Nat) : InBig E o w o2 v 128 := ⟨_, rfl, fun _ h => h⟩
theorem inBig_129 (E : Ev) (o : Nat) (w : OtS) (o2 : Nat) (v : Nat → Nat) : InBig E o w o2 v 129 := ⟨_, rfl, fun _ h => h⟩
theorem inBig_130 (E : Ev) (o : Nat) (w : OtS) (o2 : Nat) (v : Nat → Nat) : InBig E o w o2 v 130 := ⟨_, rfl, fun _ h => h⟩
theorem inBig_131 (E : Ev) (o : Nat) (w : OtS) (o2 : Nat) (v : Nat → Nat) : InBig E o w o2 v 131 := ⟨_, rfl, fun _ h => h⟩
theorem inBig_132 (E : Ev) (o : Nat) (w : OtS) (o2 : Nat) (v : Nat → Nat) : InBig E o w o2 v 132 := ⟨_, rfl, fun _ h => h⟩
theorem inBig_134 (E : Ev) (o : Nat) (w : OtS) (o2 : Nat) (v : Nat → Nat) : InBig E o w o2 v 134 := ⟨_, (big_rest E o w o2 v 0).trans rfl, fun _ h => h⟩
theorem inBig_136 (E : Ev) (o : Nat) (w : OtS) (o2 : Nat) (v : Nat → Nat) : InBig E o w o2 v 136 := ⟨_, (big_rest E o w o2 v 2).trans rfl, fun _ h => h⟩
theorem inBig_137 (E : Ev) (o : Nat) (w : OtS) (o2 : Nat) (v : Nat → Nat) : InBig E o w o2 v 137 := ⟨_, (big_rest E o w o2 v 17).trans rfl, fun _ h => h⟩
theorem inBig_138 (E : Ev) (o : Nat) (w : OtS) (o2 : Nat) (v : Nat → Nat) : InBig E o w o2 v 138 := ⟨_, (big_rest E o w o2 v 18).trans rfl, fun _ h => h⟩
theorem inBig_139 (E : Ev) (o : Nat) (w : OtS) (o2 : Nat) (v : Nat → Nat) : InBig E o w o2 v 139 := ⟨_, (big_rest E o w o2 v 19).trans rfl, fun _ h => h⟩
theorem inBig_140 (E : Ev) (o : Nat) (w : OtS) (o2 : Nat) (v : Nat → Nat) : InBig E o w o2 v 140 := ⟨_, (big_rest E o w o2 v 20).trans rfl, fun _ h => h⟩
theorem inBig_141 (E : Ev) (o : Nat) (w : OtS) (o2 : Nat) (v : Nat → Nat) : InBig E o w o2 v 141 := ⟨_, (big_rest E o w o2 v 21).trans rfl, fun _ h => h⟩
theorem inBig_142 (E : Ev) (o : Nat) (w : OtS) (o2 : Nat) (v : Nat → Nat) : InBig E o w o2 v 142 := ⟨_, (big_rest E o w o2 v 22).trans rfl, fun _ h => h⟩
theorem inBig_143 (E : Ev) (o : Nat) (w : OtS) (o2 : Nat) (v : Nat → Nat) : InBig E o w o2 v 143 := ⟨_, (big_rest E o w o2 v 23).trans rfl, fun _ h => h⟩
theorem inBig_144 (E : Ev) (o : Nat) (w : OtS) (o2 : Nat) (v : Nat → Nat) : InBig E o w o2 v 144 := ⟨_, (big_rest E o w o2 v 24).trans rfl, fun _ h => h⟩
theorem inBig_145 (E : Ev) (o : Nat) (w : OtS) (o2 : Nat) (v : Nat → Nat) : InBig E o w o2 v 145 := ⟨_, (big_rest E o w o2 v 25).trans rfl, fun _ h => h⟩
theorem inBig_146 (E : Ev) (o : Nat) (w : OtS) (o2 : Nat) (v : Nat → Nat) : InBig E o w o2 v 146 := ⟨_, (big_rest E o w o2 v 26).trans rfl, fun _ h => h⟩
theorem inBig_147 (E : Ev) (o : Nat) (w : OtS) (o2 : Nat) (v : Nat → Nat) : InBig E o w o2 v 147 := ⟨_, (big_rest E o w o2 v 27).trans rfl, fun _ h => h⟩
theorem inBig_148 (E : Ev) (o : Nat) (w : OtS) (o2 : Nat) (v : Nat → Nat) : InBig E o w o2 v 148 := ⟨_, (big_rest E o w o2 v 28).trans rfl, fun _ h => h⟩
theorem inBig_149 (E : Ev) (o : Nat) (w : OtS) (o2 : Nat) (v : Nat → Nat) : InBig E o w o2 v 149 := ⟨_, (big_rest E o w o2 v 29).trans rfl, fun _ h => h⟩
theorem inBig_150 (E : Ev) (o : Nat) (w : OtS) (o2 : Nat) (v : Nat → Nat) : InBig E o w o2 v 150 := ⟨_, (big_rest E o w o2 v 30).trans rfl, fun _ h => h⟩
theorem inBig_151 (E : Ev) (o : Nat) (w : OtS) (o2 : Nat) (v : Nat → Nat) : InBig E o w o2 v 151 := ⟨_, (big_rest E o w o2 v 31).trans rfl, fun _ h => h⟩
theorem inBig_152 (E : Ev) (o : Nat) (w : OtS) (o2 : Nat) (v : Nat → Nat) : InBig E o w o2 v 152 := ⟨_, (big_rest E o w o2 v 32).trans rfl, fun _ h => h⟩
theorem inBig_153 (E : Ev) (o : Nat) (w : OtS) (o2 : Nat) (v : Nat → Nat) : InBig E o w o2 v 153 := ⟨_, (big_rest E o w o2 v 33).trans rfl, fun _ h => h⟩
theorem refs_cong {E : Ev} {D : va_G} {cl : List vw_C} {a N : Nat} {f g : Nat → Option Nat} {H : Heap} (h : va_at D cl (a, .inl (E.2.2.2, N, .inr (.inr (.inr (.inr f))))) H) (hj : ∀ j, j < N → f j = g j) : va_at D cl (a, .inl (E.2.2.2, N, .inr (.inr (.inr (.inr g))))) H := by
  have h1 : H[a]? = some (arrV E.2.2.2 N (fun j => va_rf (f j))) := h
  show H[a]? = some (arrV E.2.2.2 N (fun j => va_rf (g j)))
  rw [h1, arrV_cong (fun j hj2 => by rw [hj j hj2])]
theorem inBig_133 (E : Ev) (o : Nat) (w : OtS) (o2 : Nat) (v : Nat → Nat) : InBig E o w o2 v 133 := by
  refine ⟨.inl (E.2.2.2, 14, .inr (.inr (.inr (.inr (rfs w.2.2.2.2.1.2.2 14))))), rfl, fun H h => refs_cong (E := E) h (fun j hj => ?_)⟩
  show (if j < 14 then some (w.2.2.2.2.1.2.2 j 0) else none) = some (aF o w o2 v (7 * (2 + j)))
  rw [if_pos hj, show 7 * (2 + j) = 7 * (2 + j) + 0 from rfl, aF_P o w o2 v (show 2 + j < 18 by omega) (by decide)]
  unfold aP
  rw [if_neg (by omega), if_neg (by omega), if_pos (by omega), show 2 + j - 2 = j by omega]
theorem inBig_135 (E : Ev) (o : Nat) (w : OtS) (o2 : Nat) (v : Nat → Nat) : InBig E o w o2 v 135 := by
  refine ⟨.inl (E.2.2.2, 2, .inr (.inr (.inr (.inr (rfs w.2.2.2.2.2.1.2.2.2 2))))), (big_rest E o w o2 v 1).trans rfl, fun H h => refs_cong (E := E) h (fun j hj => ?_)⟩
  show (if j < 2 then some (w.2.2.2.2.2.1.2.2.2 j 0) else none) = some (aF o w o2 v (7 * (16 + j)))
  rw [if_pos hj, show 7 * (16 + j) = 7 * (16 + j) + 0 from rfl, aF_P o w o2 v (show 16 + j < 18 by omega) (by decide)]
  unfold aP
  rw [if_neg (by omega), if_neg (by omega), if_neg (by omega), show 16 + j - 16 = j by omega]
theorem inBig_all (E : Ev) (o : Nat) (w : OtS) (o2 : Nat) (v : Nat → Nat) (i : Nat) (hi : i < 154) : InBig E o w o2 v i := by
  by_cases h : i < 126
  · have := inBig_P E o w o2 v (b := i / 7) (s := i % 7) (by omega) (by omega)
    rw [show 7 * (i / 7) + i % 7 = i by omega] at this
    exact this
  · rcases (show i = 126 ∨ i = 127 ∨ i = 128 ∨ i = 129 ∨ i = 130 ∨ i = 131 ∨ i = 132 ∨ i = 133 ∨ i = 134 ∨ i = 135 ∨ i = 136 ∨ i = 137 ∨ i = 138 ∨ i = 139 ∨ i = 140 ∨ i = 141 ∨ i = 142 ∨ i = 143 ∨ i = 144 ∨ i = 145 ∨ i = 146 ∨ i = 147 ∨ i = 148 ∨ i = 149 ∨ i = 150 ∨ i = 151 ∨ i = 152 ∨ i = 153 by omega) with rfl | rfl | rfl | rfl | rfl | rfl | rfl | rfl | rfl | rfl | rfl | rfl | rfl | rfl | rfl | rfl | rfl | rfl | rfl | rfl | rfl | rfl | rfl | rfl | rfl | rfl | rfl | rfl
    · exact inBig_126 E o w o2 v
    · exact inBig_127 E o w o2 v
    · exact inBig_128 E o w o2 v
    · exact inBig_129 E o w o2 v
    · exact inBig_130 E o w o2 v
    · exact inBig_131 E o w o2 v
    · exact inBig_132 E o w o2 v
    · exact inBig_133 E o w o2 v
    · exact inBig_134 E o w o2 v
    · exact inBig_135 E o w o2 v
    · exact inBig_136 E o w o2 v
    · exact inBig_137 E o w o2 v
    · exact inBig_138 E o w o2 v
    · exact inBig_139 E o w o2 v
    · exact inBig_140 E o w o2 v
    · exact inBig_141 E o w o2 v
    · exact inBig_142 E o w o2 v
    · exact inBig_143 E o w o2 v
    · exact inBig_144 E o w o2 v
    · exact inBig_145 E o w o2 v
    · exact inBig_146 E o w o2 v
    · exact inBig_147 E o w o2 v
    · exact inBig_148 E o w o2 v
    · exact inBig_149 E o w o2 v
    · exact inBig_150 E o w o2 v
    · exact inBig_151 E o w o2 v
    · exact inBig_152 E o w o2 v
    · exact inBig_153 E o w o2 v
theorem pos_inj (i j : Nat) (hi : i < 154) (hj : j < 154) (h : pos i = pos j) : i = j := by
  unfold pos at h
  repeat' split at h
  all_goals omega
/-- the start of the law's loop: the heap of rows -/
theorem asm {E : Ev} {o : Nat} {w : OtS} {o2 : Nat} {v : Nat → Nat} {s : State} {H : Heap} (hs : s.heap.size ≤ H.size) (hk : ∀ q : Nat, q < s.heap.size → H[q]? = s.heap[q]?) (hP : va_P E.1 vwCl (bigW E o w o2 v) H) (hD : va_D (fun q => s.heap.size ≤ q) (bigW E o w o2 v)) : At E (aF o w o2 v) h0 g0 s H [] ∧ Inj (aF o w o2 v) ∧ ∀ i, i < 154 → s.heap.size ≤ aF o w o2 v i := by
  refine ⟨⟨fun k q hq => ?_, hs, fun q hq _ => hk q hq, fun l hl => by cases hl⟩, fun i j hi hj e => ?_, fun i hi => ?_⟩
  · obtain ⟨hi, rfl⟩ := wl_get hq
    obtain ⟨e, h1, h2⟩ := inBig_all E o w o2 v k hi
    exact h2 H (hP _ _ h1)
  · obtain ⟨e1, h1, -⟩ := inBig_all E o w o2 v i hi
    obtain ⟨e2, h2, -⟩ := inBig_all E o w o2 v j hj
    exact pos_inj i j hi hj (hD.1 _ _ _ _ h1 h2 e)
  · obtain ⟨e1, h1, -⟩ := inBig_all E o w o2 v i hi
    exact hD.2 _ _ h1
