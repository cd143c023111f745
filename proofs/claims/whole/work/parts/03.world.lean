/-! THE HEAP OF BOTH SIDES: rows of numbers. Rows 0 .. 17: the Plays (now 0, then 1, those of Acts 2 .. 15, of Slots 16, 17), each laid as the reference's page is (wish 0, rode 5, ridden 10, stared 15, since 20, howled 25, riders 30, last 31, rule 32, length 33, things 34, minutes 35) and there at 36; rows 18 .. 32 the rest of the program, 33 .. 45 the reference: of an object the int field k at k, of an array its places. -/
abbrev Row : Type := Nat → Int32
abbrev Hp : Type := Nat → Row
abbrev Gp : Type := Nat → Int64
abbrev Ev : Type := va_G × ClassId × ClassId × ClassId
def su (h : Hp) (r : Nat) (P : Row) : Hp := fun q => if q = r then P else h q
def sg (g : Gp) (r : Nat) (x : Int64) : Gp := fun q => if q = r then x else g q
def clip (o : Nat) (P : Row) : Row := fun j => if j < 5 then P (o + j) else 0
theorem su_same (h : Hp) (r : Nat) (P : Row) : su h r P r = P := if_pos rfl
theorem su_ne {h : Hp} {r q : Nat} {P : Row} (hq : q ≠ r) : su h r P q = h q := if_neg hq
theorem su_su (h : Hp) (r : Nat) (P P2 : Row) : su (su h r P) r P2 = su h r P2 := by
  funext q
  by_cases hq : q = r
  · subst hq
    rw [su_same, su_same]
  · rw [su_ne hq, su_ne hq, su_ne hq]
theorem su_self (h : Hp) (r : Nat) : su h r (h r) = h := by
  funext q
  by_cases hq : q = r
  · subst hq
    rw [su_same]
  · rw [su_ne hq]
theorem sg_same (g : Gp) (r : Nat) (x : Int64) : sg g r x r = x := if_pos rfl
theorem sg_ne {g : Gp} {r q : Nat} {x : Int64} (hq : q ≠ r) : sg g r x q = g q := if_neg hq
theorem clip_far {P : Row} {o k : Nat} (x : Int32) (hk : k < o ∨ o + 5 ≤ k) : clip o (upd P k x) = clip o P := by
  funext j
  unfold clip upd
  by_cases hj : j < 5
  · rw [if_pos hj, if_pos hj, if_neg (by omega)]
  · rw [if_neg hj, if_neg hj]
theorem clip_put {P : Row} {o k : Nat} (x : Int32) (hk : k < 5) : clip o (upd P (o + k) x) = upd (clip o P) k x := by
  funext j
  show (if j < 5 then (if o + j = o + k then x else P (o + j)) else 0) = if j = k then x else (if j < 5 then P (o + j) else 0)
  by_cases hj : j < 5
  · by_cases e : j = k
    · subst e
      simp [hj]
    · rw [if_pos hj, if_neg (by omega), if_neg e, if_pos hj]
  · rw [if_neg hj, if_neg (by omega), if_neg hj]
def lenO (r : Nat) : Nat := match r with
  | 20 => 32 | 22 => 5 | 23 => 5 | 30 => 6 | 31 => 6 | 32 => 32 | 34 => 32 | 35 => 5 | 36 => 5 | 37 => 15 | 38 => 36 | 39 => 36 | 40 => 504 | 41 => 72 | 43 => 6 | 44 => 6 | _ => 32
def entP (E : Ev) (ad : Nat → Nat) (P : Row) (b s : Nat) : va_E :=
  if s = 0 then .inr (2, [.ref (ad 129), .int (P 36), .int (P 30), .int (P 31), .int (P 32), .int (P 33), .int (P 34), .int (P 35), .ref (ad (7 * b + 1)), .ref (ad (7 * b + 2)), .ref (ad (7 * b + 3)), .ref (ad (7 * b + 4)), .ref (ad (7 * b + 5)), .ref (ad (7 * b + 6))])
  else .inl (E.2.1, 5, .inl (clip (5 * (s - 1)) P))
def entO (E : Ev) (ad : Nat → Nat) (H : Row) (g : Int64) (r : Nat) : va_E := match r with
  | 18 => .inr (6, [.ref (ad 127), .ref (ad 129), .ref (ad 0), .ref (ad 7), .ref (ad 132), .ref (ad 134), .ref (ad 137), .ref (ad 140), .long g])
  | 19 => .inr (5, [.ref (ad 128), .int (H 1)])
  | 21 => .inr (1, [.int (H 0), .ref (ad 130), .ref (ad 131)])
  | 24 => .inr (0, [.ref (ad 133), .int (H 1), .int (H 2)])
  | 25 => .inl (E.2.2.2, 14, .inr (.inr (.inr (.inr (fun j => some (ad (7 * (2 + j))))))))
  | 26 => .inr (4, [.ref (ad 135), .ref (ad 136)])
  | 27 => .inl (E.2.2.2, 2, .inr (.inr (.inr (.inr (fun j => some (ad (7 * (16 + j))))))))
  | 28 => .inl (E.2.2.1, 2, .inl H)
  | 29 => .inr (3, [.ref (ad 138), .ref (ad 139), .int (H 2)])
  | 33 => .inr (7, [.int (H 0), .ref (ad 142), .int (H 2), .int (H 3), .int (H 4), .ref (ad 143), .ref (ad 144), .int (H 7), .int (H 8), .int (H 9), .int (H 10), .ref (ad 145), .ref (ad 146), .ref (ad 147), .ref (ad 148), .int (H 15), .ref (ad 149), .ref (ad 150), .int (H 18), .ref (ad 151), .ref (ad 152), .long g, .int (H 22), .int (H 23), .ref (ad 153), .int (H 25)])
  | 42 => .inl (E.2.2.1, 2, .inl H)
  | r => .inl (E.2.1, lenO r, .inl H)
def ent (E : Ev) (ad : Nat → Nat) (h : Hp) (g : Gp) (i : Nat) : va_E :=
  if i < 126 then entP E ad (h (i / 7)) (i / 7) (i % 7) else entO E ad (h (i - 108)) (g (i - 108)) (i - 108)
def wld (E : Ev) (ad : Nat → Nat) (h : Hp) (g : Gp) : va_W := (List.range 154).map (fun i => (ad i, ent E ad h g i))
def adA (ad : Nat → Nat) : Nat → Prop := fun q => ∃ i, i < 154 ∧ q = ad i
def Inj (ad : Nat → Nat) : Prop := ∀ i j, i < 154 → j < 154 → ad i = ad j → i = j
theorem wl_at {E : Ev} {ad : Nat → Nat} {h : Hp} {g : Gp} {i : Nat} (hi : i < 154) : (wld E ad h g)[i]? = some (ad i, ent E ad h g i) := by
  unfold wld
  rw [List.getElem?_map, List.getElem?_range hi]
  rfl
theorem wl_out {E : Ev} {ad : Nat → Nat} {h : Hp} {g : Gp} {i : Nat} (hi : ¬ i < 154) : (wld E ad h g)[i]? = none := by
  unfold wld
  rw [List.getElem?_eq_none]
  simp only [List.length_map, List.length_range]
  omega
theorem wl_get {E : Ev} {ad : Nat → Nat} {h : Hp} {g : Gp} {i : Nat} {q : Nat × va_E} (hq : (wld E ad h g)[i]? = some q) : i < 154 ∧ q = (ad i, ent E ad h g i) := by
  by_cases hi : i < 154
  · rw [wl_at hi] at hq
    exact ⟨hi, (Option.some.inj hq).symm⟩
  · rw [wl_out hi] at hq
    cases hq
theorem wD {E : Ev} {ad : Nat → Nat} {h : Hp} {g : Gp} (hI : Inj ad) : va_D (adA ad) (wld E ad h g) := by
  refine ⟨fun i j p q hp hq e => ?_, fun k q hq => ?_⟩
  · obtain ⟨h1, rfl⟩ := wl_get hp
    obtain ⟨h2, rfl⟩ := wl_get hq
    exact hI i j h1 h2 e
  · obtain ⟨h1, rfl⟩ := wl_get hq
    exact ⟨k, h1, rfl⟩
theorem wset {E : Ev} {ad : Nat → Nat} {h h2 : Hp} {g g2 : Gp} {i : Nat} {En : va_E} (hi : i < 154) (hE : ent E ad h2 g2 i = En) (hne : ∀ j, j < 154 → j ≠ i → ent E ad h2 g2 j = ent E ad h g j) : (wld E ad h g).set i (ad i, En) = wld E ad h2 g2 := by
  apply List.ext_getElem?
  intro j
  by_cases hj : j < 154
  · by_cases e : j = i
    · subst e
      rw [List.getElem?_set_self (by unfold wld; simp only [List.length_map, List.length_range]; exact hj), wl_at hj, hE]
    · rw [List.getElem?_set_ne (fun q => e q.symm), wl_at hj, wl_at hj, hne j hj e]
  · rw [wl_out hj, List.getElem?_eq_none]
    unfold wld
    simp only [List.length_set, List.length_map, List.length_range]
    omega
theorem ent_P {E : Ev} {ad : Nat → Nat} {h : Hp} {g : Gp} {b s : Nat} (hb : b < 18) (hs : s < 7) : ent E ad h g (7 * b + s) = entP E ad (h b) b s := by
  unfold ent
  rw [if_pos (by omega), show (7 * b + s) / 7 = b by omega, show (7 * b + s) % 7 = s by omega]
theorem ent_O {E : Ev} {ad : Nat → Nat} {h : Hp} {g : Gp} {r : Nat} (hr : 18 ≤ r) : ent E ad h g (r + 108) = entO E ad (h r) (g r) r := by
  unfold ent
  rw [if_neg (by omega), show r + 108 - 108 = r by omega]
/-- a Play's row changes: all but its own cells stay -/
theorem ent_su_ne {E : Ev} {ad : Nat → Nat} {h : Hp} {g : Gp} {b : Nat} {P P2 : Row} (hb : b < 18) {j : Nat} (hj : j < 154) (hn : ¬ (7 * b ≤ j ∧ j < 7 * b + 7)) : ent E ad (su h b P2) g j = ent E ad (su h b P) g j := by
  unfold ent
  by_cases h1 : j < 126
  · rw [if_pos h1, if_pos h1, su_ne (by omega), su_ne (by omega)]
  · rw [if_neg h1, if_neg h1, su_ne (by omega), su_ne (by omega)]
theorem wl_P0 {E : Ev} {ad : Nat → Nat} {h : Hp} {g : Gp} {b : Nat} {P : Row} (e : h b = P) (hb : b < 18) : (wld E ad h g)[7 * b]? = some (ad (7 * b), .inr (2, [.ref (ad 129), .int (P 36), .int (P 30), .int (P 31), .int (P 32), .int (P 33), .int (P 34), .int (P 35), .ref (ad (7 * b + 1)), .ref (ad (7 * b + 2)), .ref (ad (7 * b + 3)), .ref (ad (7 * b + 4)), .ref (ad (7 * b + 5)), .ref (ad (7 * b + 6))])) := by
  rw [wl_at (by omega), show ent E ad h g (7 * b) = entP E ad (h b) b 0 from ent_P (s := 0) hb (by omega), e]
  rfl
theorem wl_Ps {E : Ev} {ad : Nat → Nat} {h : Hp} {g : Gp} {b s : Nat} {P : Row} (e : h b = P) (hb : b < 18) (hs : s < 7) (h0 : 0 < s) : (wld E ad h g)[7 * b + s]? = some (ad (7 * b + s), .inl (E.2.1, 5, .inl (clip (5 * (s - 1)) P))) := by
  rw [wl_at (by omega), ent_P hb hs, e]
  unfold entP
  rw [if_neg (by omega)]
theorem wset_P0 {E : Ev} {ad : Nat → Nat} {h : Hp} {g : Gp} {b k : Nat} {P : Row} {x : Int32} {En : va_E} (hb : b < 18) (hk : 30 ≤ k) (hE : entP E ad (upd P k x) b 0 = En) : (wld E ad (su h b P) g).set (7 * b) (ad (7 * b), En) = wld E ad (su h b (upd P k x)) g := by
  refine wset (by omega) ?_ ?_
  · rw [← hE, show ent E ad (su h b (upd P k x)) g (7 * b) = entP E ad (su h b (upd P k x) b) b 0 from ent_P (s := 0) hb (by omega), su_same]
  · intro j hj hne
    by_cases hn : 7 * b ≤ j ∧ j < 7 * b + 7
    · obtain ⟨s, hs, rfl⟩ : ∃ s, s < 7 ∧ j = 7 * b + s := ⟨j - 7 * b, by omega, by omega⟩
      rw [ent_P hb hs, ent_P hb hs, su_same, su_same]
      unfold entP
      rw [if_neg (by omega), if_neg (by omega), clip_far x (by omega)]
    · exact ent_su_ne hb hj hn
theorem wset_Ps {E : Ev} {ad : Nat → Nat} {h : Hp} {g : Gp} {b s k : Nat} {P : Row} {x : Int32} (hb : b < 18) (hs : s < 7) (h0 : 0 < s) (hk : k < 5) : (wld E ad (su h b P) g).set (7 * b + s) (ad (7 * b + s), .inl (E.2.1, 5, .inl (upd (clip (5 * (s - 1)) P) k x))) = wld E ad (su h b (upd P (5 * (s - 1) + k) x)) g := by
  refine wset (by omega) ?_ ?_
  · rw [ent_P hb hs, su_same]
    unfold entP
    rw [if_neg (by omega), clip_put x hk]
  · intro j hj hne
    by_cases hn : 7 * b ≤ j ∧ j < 7 * b + 7
    · obtain ⟨s2, hs2, rfl⟩ : ∃ s2, s2 < 7 ∧ j = 7 * b + s2 := ⟨j - 7 * b, by omega, by omega⟩
      rw [ent_P hb hs2, ent_P hb hs2, su_same, su_same]
      unfold entP
      by_cases e0 : s2 = 0
      · rw [if_pos e0, if_pos e0]
        simp only [upd]
        rw [if_neg (by omega), if_neg (by omega), if_neg (by omega), if_neg (by omega), if_neg (by omega), if_neg (by omega), if_neg (by omega)]
      · rw [if_neg e0, if_neg e0, clip_far x (by omega)]
    · exact ent_su_ne hb hj hn
theorem wl_O {E : Ev} {ad : Nat → Nat} {h : Hp} {g : Gp} {r : Nat} (hr : 18 ≤ r) (hr2 : r < 46) : (wld E ad h g)[r + 108]? = some (ad (r + 108), entO E ad (h r) (g r) r) := by
  rw [wl_at (by omega), ent_O hr]
theorem ent_out {E : Ev} {ad : Nat → Nat} {h h2 : Hp} {g g2 : Gp} {r : Nat} (hh : ∀ q, q ≠ r → h2 q = h q) (hg : ∀ q, q ≠ r → g2 q = g q) (hr : 18 ≤ r) {j : Nat} (hj : j ≠ r + 108) : ent E ad h2 g2 j = ent E ad h g j := by
  unfold ent
  by_cases h1 : j < 126
  · rw [if_pos h1, if_pos h1, hh _ (by omega)]
  · rw [if_neg h1, if_neg h1, hh _ (by omega), hg _ (by omega)]
theorem wset_O {E : Ev} {ad : Nat → Nat} {h : Hp} {g : Gp} {r : Nat} {P : Row} {En : va_E} (hr : 18 ≤ r) (hr2 : r < 46) (hE : entO E ad P (g r) r = En) : (wld E ad h g).set (r + 108) (ad (r + 108), En) = wld E ad (su h r P) g := by
  refine wset (by omega) ?_ (fun j hj hne => ent_out (fun q hq => su_ne hq) (fun _ _ => rfl) hr hne)
  rw [ent_O hr, su_same, hE]
theorem wset_G {E : Ev} {ad : Nat → Nat} {h : Hp} {g : Gp} {r : Nat} {x : Int64} {En : va_E} (hr : 18 ≤ r) (hr2 : r < 46) (hE : entO E ad (h r) x r = En) : (wld E ad h g).set (r + 108) (ad (r + 108), En) = wld E ad h (sg g r x) := by
  refine wset (by omega) ?_ (fun j hj hne => ent_out (fun _ _ => rfl) (fun q hq => sg_ne hq) hr hne)
  rw [ent_O hr, sg_same, hE]
/-! words of the tables -/
def nestF : List (String × Nat × String × String × String × String) := [("OneTricycle", 64, "OneTricycle$Text", "length", "I", "OneTricycle"), ("OneTricycle", 87, "OneTricycle$Kids", "count", "I", "OneTricycle"), ("OneTricycle", 124, "OneTricycle$Kids", "strength", "[I", "OneTricycle"), ("OneTricycle$Play", 77, "OneTricycle$Kids", "kind", "[I", "OneTricycle"), ("OneTricycle", 127, "OneTricycle$Kids", "kind", "[I", "OneTricycle"), ("OneTricycle", 280, "OneTricycle$Play", "there", "I", "OneTricycle"), ("OneTricycle", 97, "OneTricycle$Play", "riders", "I", "OneTricycle"), ("OneTricycle", 109, "OneTricycle$Play", "last", "I", "OneTricycle"), ("OneTricycle", 90, "OneTricycle$Play", "rule", "I", "OneTricycle"), ("OneTricycle", 93, "OneTricycle$Play", "length", "I", "OneTricycle"), ("OneTricycle", 94, "OneTricycle$Play", "things", "I", "OneTricycle"), ("OneTricycle", 112, "OneTricycle$Play", "minutes", "I", "OneTricycle"), ("OneTricycle", 121, "OneTricycle$Play", "wish", "[I", "OneTricycle"), ("OneTricycle", 134, "OneTricycle$Play", "rode", "[I", "OneTricycle"), ("OneTricycle", 137, "OneTricycle$Play", "ridden", "[I", "OneTricycle"), ("OneTricycle", 140, "OneTricycle$Play", "stared", "[I", "OneTricycle"), ("OneTricycle", 143, "OneTricycle$Play", "staredSince", "[I", "OneTricycle"), ("OneTricycle", 146, "OneTricycle$Play", "howled", "[I", "OneTricycle"), ("OneTricycle", 115, "OneTricycle$Acts", "count", "I", "OneTricycle"), ("OneTricycle", 263, "OneTricycle$Slots", "plays", "[LOneTricycle$Play;", "OneTricycle"), ("OneTricycle", 267, "OneTricycle$Slots", "kept", "[Z", "OneTricycle"), ("OneTricycle", 116, "OneTricycle$Seen", "count", "I", "OneTricycle")]
def nestM : List (String × Nat × MethodName × String) := [("OneTricycle", 9, ⟨"OneTricycle$Text", "<init>", "()V"⟩, "OneTricycle"), ("OneTricycle", 18, ⟨"OneTricycle$Kids", "<init>", "()V"⟩, "OneTricycle"), ("OneTricycle", 25, ⟨"OneTricycle$Play", "<init>", "(LOneTricycle$Kids;)V"⟩, "OneTricycle"), ("OneTricycle", 37, ⟨"OneTricycle$Acts", "<init>", "(LOneTricycle$Kids;)V"⟩, "OneTricycle"), ("OneTricycle$Acts", 24, ⟨"OneTricycle$Play", "<init>", "(LOneTricycle$Kids;)V"⟩, "OneTricycle"), ("OneTricycle", 44, ⟨"OneTricycle$Slots", "<init>", "(LOneTricycle$Kids;)V"⟩, "OneTricycle"), ("OneTricycle$Slots", 21, ⟨"OneTricycle$Play", "<init>", "(LOneTricycle$Kids;)V"⟩, "OneTricycle"), ("OneTricycle", 51, ⟨"OneTricycle$Seen", "<init>", "()V"⟩, "OneTricycle"), ("OneTricycle", 68, ⟨"OneTricycle$Text", "append", "(I)V"⟩, "OneTricycle"), ("OneTricycle", 72, ⟨"OneTricycle$Text", "faultPlace", "()I"⟩, "OneTricycle"), ("OneTricycle", 76, ⟨"OneTricycle$Kids", "tellFrom", "(LOneTricycle$Text;)V"⟩, "OneTricycle"), ("OneTricycle$Kids", 22, ⟨"OneTricycle$Text", "countChildren", "()I"⟩, "OneTricycle"), ("OneTricycle$Kids", 28, ⟨"OneTricycle$Text", "figureOfChild", "(II)I"⟩, "OneTricycle"), ("OneTricycle", 80, ⟨"OneTricycle$Play", "startFrom", "(LOneTricycle$Text;)V"⟩, "OneTricycle"), ("OneTricycle$Play", 56, ⟨"OneTricycle$Text", "countChildren", "()I"⟩, "OneTricycle"), ("OneTricycle$Play", 62, ⟨"OneTricycle$Text", "figure", "(I)I"⟩, "OneTricycle"), ("OneTricycle$Play", 66, ⟨"OneTricycle$Text", "figureOfChild", "(II)I"⟩, "OneTricycle"), ("OneTricycle", 83, ⟨"OneTricycle$Acts", "forgetAll", "()V"⟩, "OneTricycle"), ("OneTricycle", 86, ⟨"OneTricycle$Slots", "forgetAll", "()V"⟩, "OneTricycle"), ("OneTricycle", 100, ⟨"OneTricycle$Play", "wanting", "()I"⟩, "OneTricycle"), ("OneTricycle", 103, ⟨"OneTricycle$Play", "asking", "()I"⟩, "OneTricycle"), ("OneTricycle", 106, ⟨"OneTricycle$Play", "next", "()I"⟩, "OneTricycle"), ("OneTricycle$Play", 70, ⟨"OneTricycle", "has", "(II)Z"⟩, "OneTricycle"), ("OneTricycle$Play", 88, ⟨"OneTricycle$Kids", "might", "(I)I"⟩, "OneTricycle"), ("OneTricycle", 117, ⟨"OneTricycle$Play", "isThere", "(I)Z"⟩, "OneTricycle"), ("OneTricycle", 130, ⟨"OneTricycle$Kids", "might", "(I)I"⟩, "OneTricycle"), ("OneTricycle", 149, ⟨"OneTricycle$Acts", "remember", "(LOneTricycle$Play;)V"⟩, "OneTricycle"), ("OneTricycle$Acts", 27, ⟨"OneTricycle$Play", "copyFrom", "(LOneTricycle$Play;)V"⟩, "OneTricycle"), ("OneTricycle", 153, ⟨"OneTricycle$Play", "passMinute", "()V"⟩, "OneTricycle"), ("OneTricycle", 156, ⟨"OneTricycle$Play", "rides", "(I)Z"⟩, "OneTricycle"), ("OneTricycle", 159, ⟨"OneTricycle$Play", "getOff", "(I)V"⟩, "OneTricycle"), ("OneTricycle", 162, ⟨"OneTricycle$Play", "getOn", "(I)V"⟩, "OneTricycle"), ("OneTricycle", 165, ⟨"OneTricycle$Play", "canBePushed", "(I)Z"⟩, "OneTricycle"), ("OneTricycle", 168, ⟨"OneTricycle$Play", "pushOff", "(I)V"⟩, "OneTricycle"), ("OneTricycle", 171, ⟨"OneTricycle$Play", "canBeCalled", "(I)Z"⟩, "OneTricycle"), ("OneTricycle", 174, ⟨"OneTricycle$Play", "callAway", "(I)V"⟩, "OneTricycle"), ("OneTricycle", 183, ⟨"OneTricycle$Play", "setRule", "(II)V"⟩, "OneTricycle"), ("OneTricycle", 187, ⟨"OneTricycle$Play", "putOrTakeAway", "()V"⟩, "OneTricycle"), ("OneTricycle", 190, ⟨"OneTricycle$Acts", "takeBack", "(LOneTricycle$Play;)V"⟩, "OneTricycle"), ("OneTricycle", 209, ⟨"OneTricycle$Play", "copyFrom", "(LOneTricycle$Play;)V"⟩, "OneTricycle"), ("OneTricycle", 206, ⟨"OneTricycle$Play", "staredByAll", "()I"⟩, "OneTricycle"), ("OneTricycle", 203, ⟨"OneTricycle$Play", "gap", "()I"⟩, "OneTricycle"), ("OneTricycle", 271, ⟨"OneTricycle$Play", "neverRidden", "()I"⟩, "OneTricycle"), ("OneTricycle", 215, ⟨"OneTricycle$Play", "doIfItCanBe", "(II)Z"⟩, "OneTricycle"), ("OneTricycle$Play", 145, ⟨"OneTricycle", "isRule", "(I)Z"⟩, "OneTricycle"), ("OneTricycle", 274, ⟨"OneTricycle$Play", "leaveOnly", "(I)V"⟩, "OneTricycle"), ("OneTricycle", 237, ⟨"OneTricycle$Seen", "append", "(II)V"⟩, "OneTricycle"), ("OneTricycle", 277, ⟨"OneTricycle$Seen", "ridersIn", "(I)I"⟩, "OneTricycle"), ("OneTricycle", 287, ⟨"OneTricycle$Play", "leaveRiding", "(I)V"⟩, "OneTricycle")]
def NW (U : State) : Prop := (∀ q ∈ nestF, va_Nw (.fieldLinkNest q.1 q.2.1 q.2.2.1 q.2.2.2.1 q.2.2.2.2.1 q.2.2.2.2.2) U) ∧ ∀ q ∈ nestM, va_Nw (.methodLinkNest q.1 q.2.1 q.2.2.1 q.2.2.2) U
theorem NW.warm {s U : State} (hW : s.WarmedH U.vm) (h : NW s) : NW U := ⟨fun q hq => va_Nw.warmF hW (h.1 q hq), fun q hq => va_Nw.warmM hW (h.2 q hq)⟩
theorem NW.same {s U : State} (hv : s.vm = U.vm) (h : NW s) : NW U := ⟨fun q hq => va_Nw.same rfl hv (h.1 q hq), fun q hq => va_Nw.same rfl hv (h.2 q hq)⟩
def tysL (E : Ev) : List (ClassId × FieldType) := [(E.2.1, .int), (E.2.2.1, .boolean), (E.2.2.2, .object "OneTricycle$Play")]
def hunR : Row := fun j => match j with
  | 0 => 1
  | 1 => 100
  | 2 => 10000
  | _ => 1000000
def ordR : Row := fun j => match j with
  | 0 => 1
  | 1 => 1
  | 2 => 2
  | 3 => 6
  | 4 => 24
  | _ => 120
/-- the program's two constant arrays -/
def StA (n : String) (N : Nat) (f : Row) (ad : Nat → Nat) (U : State) (H : Heap) : Prop := ∃ t : Nat, va_Z "OneTricycle" n "[I" (.ref t) (adA ad) U H ∧ va_T .int t N (fun j => .int (f j)) (adA ad) U H
def Sx (E : Ev) (ad : Nat → Nat) (U : State) : Prop := va_K E.1 vwCl (tysL E) U ∧ NW U ∧ StA "HUNDREDS" 4 hunR ad U U.heap ∧ StA "ORDERS" 6 ordR ad U U.heap
theorem StA.warm {n : String} {N : Nat} {f : Row} {ad : Nat → Nat} {s U : State} {locs : List Loc} {H : Heap} (hv : s.vm.Alike U.vm) (hS : va_S (adA ad) s.heap H locs) (h : StA n N f ad s s.heap) : StA n N f ad U H := by
  obtain ⟨t, h1, h2⟩ := h
  exact ⟨t, (h1.kept hS.2.1).moved hv, (h2.kept hS.2.1).moved hv⟩
theorem Sx.warm {E : Ev} {ad : Nat → Nat} {s U : State} {locs : List Loc} {H : Heap} (hW : s.WarmedH U.vm) (hU : U.heap = H) (hS : va_S (adA ad) s.heap H locs) (h : Sx E ad s) : Sx E ad U := by
  subst hU
  exact ⟨va_K.moved hW.alike h.1, h.2.1.warm hW, h.2.2.1.warm hW.alike hS, h.2.2.2.warm hW.alike hS⟩
theorem Sx.same {E : Ev} {ad : Nat → Nat} {s U : State} (hv : s.vm = U.vm) (hU : U.heap = s.heap) (h : Sx E ad s) : Sx E ad U := by
  have ha : s.vm.Alike U.vm := by rw [← hv]; exact Vm.Alike.refl s.vm
  have hS : va_S (adA ad) s.heap s.heap [] := va_S.rf
  exact ⟨va_K.moved ha h.1, h.2.1.same hv, by rw [hU]; exact h.2.2.1.warm ha hS, by rw [hU]; exact h.2.2.2.warm ha hS⟩
def At (E : Ev) (ad : Nat → Nat) (h : Hp) (g : Gp) (s : State) (H : Heap) (locs : List Loc) : Prop := va_P E.1 vwCl (wld E ad h g) H ∧ va_S (adA ad) s.heap H locs
theorem at_us {E : Ev} {ad : Nat → Nat} {h : Hp} {g : Gp} {s : State} {H : Heap} {locs : List Loc} {r : Nat} (w : At E ad (su h r (h r)) g s H locs) : At E ad h g s H locs := by rw [su_self] at w; exact w
theorem at_su {E : Ev} {ad : Nat → Nat} {h : Hp} {g : Gp} {s : State} {H : Heap} {locs : List Loc} (r : Nat) (w : At E ad h g s H locs) : At E ad (su h r (h r)) g s H locs := by rw [su_self]; exact w
/-- the tables' words that a call hands on -/
def lwA : List Cond := lw_tbl.filter goodWord
theorem lwA_in {w : Cond} (h : w ∈ lwA) : w ∈ lw_tbl := (List.mem_filter.mp h).1
theorem lwA_s {w : Cond} (i : Nat) (h : (k2_sels lw_privs)[i]? = some w) (hg : goodWord w = true) : w ∈ lwA := List.mem_filter.mpr ⟨List.mem_append_left _ (List.mem_of_getElem? h), hg⟩
theorem lwA_1 {w : Cond} (i : Nat) (h : tables_1_1[i]? = some w) (hg : goodWord w = true) : w ∈ lwA := List.mem_filter.mpr ⟨List.mem_append_right _ (List.mem_append_left _ (List.mem_of_getElem? h)), hg⟩
theorem lwA_2 {w : Cond} (i : Nat) (h : tables_1_2[i]? = some w) (hg : goodWord w = true) : w ∈ lwA := List.mem_filter.mpr ⟨List.mem_append_right _ (List.mem_append_right _ (List.mem_append_left _ (List.mem_of_getElem? h))), hg⟩
theorem lwA_3 {w : Cond} (i : Nat) (h : tables_1_3[i]? = some w) (hg : goodWord w = true) : w ∈ lwA := List.mem_filter.mpr ⟨List.mem_append_right _ (List.mem_append_right _ (List.mem_append_right _ (List.mem_append_left _ (List.mem_of_getElem? h)))), hg⟩
theorem lwA_4 {w : Cond} (i : Nat) (h : tables_1_4[i]? = some w) (hg : goodWord w = true) : w ∈ lwA := List.mem_filter.mpr ⟨List.mem_append_right _ (List.mem_append_right _ (List.mem_append_right _ (List.mem_append_right _ (List.mem_of_getElem? h)))), hg⟩
theorem good_ws {y : MethodName} {bytes : ByteArray} {maxL : Nat} {ret : Option FieldType} (h : Cond.code y bytes maxL ret ∈ lwA) : GoodIn lwA (Cond.code y bytes maxL ret :: lwA) := by
  intro w hw
  have hm : w ∈ lwA := by
    rcases List.mem_cons.mp hw with e | e
    · rw [e]; exact h
    · exact e
  exact ⟨hm, good_of_word (List.mem_filter.mp hm).2⟩
