theorem lgc (r : Int64) : lg_cmp r r = 0 := (lg_cmp_eq r r).mpr rfl
theorem rel_0 : Rel 0 h0 g0 := by
  refine ⟨0, 0, 0, 0, 0, ⟨by omega, rfl, rfl, fun j hj => absurd hj (by omega)⟩, ⟨by omega, ⟨rfl, fun j hj => absurd hj (by omega)⟩, rfl, fun j hj => absurd hj (by omega)⟩, ⟨0, 1, ⟨⟨fun j hj _ => ?_, fun c hc _ => ?_, fun c _ _ => Nat.zero_testBit c⟩, rfl, by decide, rfl, fun c _ hb => absurd hb (by rw [Nat.zero_testBit]; decide), Or.inl rfl, ⟨0, by decide, rfl⟩, Or.inl rfl, rfl, by decide, fun c hc => absurd hc (by omega), fun c hc => absurd hc (by omega)⟩⟩, ⟨by omega, by omega, rfl, rfl, rfl, fun i hi => absurd hi (by omega)⟩, fun s hs => Or.inl ?_, ⟨by omega, rfl, rfl, fun j hj => absurd hj (by omega)⟩, rfl⟩
  · have w : ∀ j : Fin 36, h0 0 j.val = h0 38 j.val := by decide +kernel
    exact w ⟨j, hj⟩
  · have w : ∀ j : Fin 36, h0 0 j.val = h0 38 j.val := by decide +kernel
    exact w ⟨5 + c, by omega⟩
  · exact ⟨rfl, rfl⟩
theorem law_loop (L : Nat) (xs : Row) (hL : L ≤ 320) : ∀ (d f i N : Nat) (h : Hp) (g : Gp), L ≤ i + 5 * d → i ≤ 1000 → N + d < 2 ^ 20 → Rel N h g → qL_law_18 L xs (d + 1 + f) h g (nI i) = some () := by
  have lt5 : ∀ i : Nat, i ≤ 2000 → (((Int32.ofNat L) - (5 : Int32)) < nI i ↔ L < i + 5) := by
    intro i hi
    have t1 : (Int32.ofNat L - (5 : Int32)).toInt = (L : Int) - 5 := pk_sub_toInt (a := L) (b := 5) (by omega) (by omega)
    rw [Int32.lt_iff_toInt_lt, t1, nI_toInt (by omega)]
    omega
  intro d
  induction d with
  | zero =>
    intro f i N h g hd hi hN R
    rw [show 0 + 1 + f = f + 1 by omega, qL_law_18, if_pos ((lt5 i (by omega)).mpr (by omega))]
  | succ d ih =>
    intro f i N h g hd hi hN1 R
    have hN : N < 2 ^ 20 := by omega
    rw [show d + 1 + 1 + f = (d + 1 + f) + 1 by omega, qL_law_18]
    by_cases c : ((Int32.ofNat L) - (5 : Int32)) < nI i
    · rw [if_pos c]
    have hi5 : i + 5 ≤ L := Nat.le_of_not_lt (fun q => c ((lt5 i (by omega)).mpr q))
    have i0 : inb (nI i) L = true := inb_nI (by omega) (by omega)
    have i1 : inb (nI i + (1 : Int32)) L = true := by rw [show nI i + (1 : Int32) = nI (i + 1) from nI_add i 1]; exact inb_nI (by omega) (by omega)
    have i2 : inb (nI i + (2 : Int32)) L = true := by rw [show nI i + (2 : Int32) = nI (i + 2) from nI_add i 2]; exact inb_nI (by omega) (by omega)
    have i3 : inb (nI i + (3 : Int32)) L = true := by rw [show nI i + (3 : Int32) = nI (i + 3) from nI_add i 3]; exact inb_nI (by omega) (by omega)
    have i4 : inb (nI i + (4 : Int32)) L = true := by rw [show nI i + (4 : Int32) = nI (i + 4) from nI_add i 4]; exact inb_nI (by omega) (by omega)
    have nx : ∀ h2 g2, Rel (N + 1) h2 g2 → qL_law_1001 L xs (qL_law_18 L xs (d + 1 + f)) h2 g2 (nI i) = some () := by
      intro h2 g2 R2
      unfold qL_law_1001
      rw [show nI i + (5 : Int32) = nI (i + 5) from nI_add i 5]
      exact ih f (i + 5) (N + 1) h2 g2 (by omega) (by omega) (by omega) R2
    rw [if_neg c, ck_t i0]
    generalize (xs (nI i).toNatClampNeg &&& (31 : Int32)) = w
    generalize y1 : xs (nI i + (1 : Int32)).toNatClampNeg = x1
    generalize y2 : xs (nI i + (2 : Int32)).toNatClampNeg = x2
    generalize y3 : xs (nI i + (3 : Int32)).toNatClampNeg = x3
    generalize y4 : xs (nI i + (4 : Int32)).toNatClampNeg = x4
    by_cases w0 : w = 0
    · obtain ⟨r, h1, h2, e1, e2, R2⟩ := op_write R x1
      have e3 : qX7_write h1 x1 = some (r, h2) := e2
      rw [if_pos w0, ck_t i1, bi2_t e1, ck_t i1, bi2_t e3, if_pos rfl]
      exact nx h2 g R2
    rw [if_neg w0]
    by_cases w1 : w = 1
    · obtain ⟨r, h1, h2, e1, e2, R2⟩ := op_wipe R
      have e3 : qX7_wipe h1 = some (r, h2) := e2
      rw [if_pos w1, bi2_t e1, bi2_t e3, if_pos rfl]
      exact nx h2 g R2
    rw [if_neg w1]
    by_cases w2 : w = 2
    · obtain ⟨r, h2, e1, e2, R2⟩ := op_fault R
      have e3 : qX7_fault h = some (r, h2) := e2
      rw [if_pos w2, bi1_t e1, bi2_t e3, if_pos rfl]
      exact nx h2 g R2
    rw [if_neg w2]
    by_cases w3 : w = 3
    · obtain ⟨r, h1, h2, e1, e2, R2⟩ := op_garden R
      have e3 : qX7_garden h1 = some (r, h2) := e2
      rw [if_pos w3, bi2_t e1, bi2_t e3, if_pos rfl]
      exact nx h2 g R2
    rw [if_neg w3]
    by_cases w4 : w = 4
    · obtain ⟨r, h2, e1, e2, R2⟩ := op_about hN R x1
      have e3 : qX7_about h x1 = some (r, h2) := e2
      rw [if_pos w4, ck_t i1, bi1_t e1, ck_t i1, bi2_t e3, if_pos rfl]
      exact nx h2 g R2
    rw [if_neg w4]
    by_cases w5 : w = 5
    · obtain ⟨r, h2, e1, e2, R2⟩ := op_child R x1 x2
      have e3 : qX7_child h x1 x2 = some (r, h2) := e2
      rw [if_pos w5, ck_t i1, ck_t i2, bi1_t e1, ck_t i1, ck_t i2, bi2_t e3, if_pos rfl]
      exact nx h2 g R2
    rw [if_neg w5]
    by_cases w6 : w = 6
    · obtain ⟨r, h1, h2, e1, e2, R2⟩ := op_minute hN R
      have e3 : qX7_minute h1 = some (r, h2) := e2
      rw [if_pos w6, bi2_t e1, bi2_t e3, if_pos rfl]
      exact nx h2 g R2
    rw [if_neg w6]
    by_cases w7 : w = 7
    · obtain ⟨r, h1, h2, e1, e2, R2⟩ := op_give R x1 x2
      have e3 : qX7_give h1 x1 x2 = some (r, h2) := e2
      rw [if_pos w7, ck_t i1, ck_t i2, bi2_t e1, ck_t i1, ck_t i2, bi2_t e3, if_pos rfl]
      exact nx h2 g R2
    rw [if_neg w7]
    by_cases w8 : w = 8
    · obtain ⟨r, h1, h2, e1, e2, R2⟩ := op_push R x1
      have e3 : qX7_push h1 x1 = some (r, h2) := e2
      rw [if_pos w8, ck_t i1, bi2_t e1, ck_t i1, bi2_t e3, if_pos rfl]
      exact nx h2 g R2
    rw [if_neg w8]
    by_cases w9 : w = 9
    · obtain ⟨r, h1, h2, e1, e2, R2⟩ := op_call R x1
      have e3 : qX7_call h1 x1 = some (r, h2) := e2
      rw [if_pos w9, ck_t i1, bi2_t e1, ck_t i1, bi2_t e3, if_pos rfl]
      exact nx h2 g R2
    rw [if_neg w9]
    by_cases w10 : w = 10
    · obtain ⟨r, h1, h2, e1, e2, R2⟩ := op_rule R x1 x2
      have e3 : qX7_rule h1 x1 x2 = some (r, h2) := e2
      rw [if_pos w10, ck_t i1, ck_t i2, bi2_t e1, ck_t i1, ck_t i2, bi2_t e3, if_pos rfl]
      exact nx h2 g R2
    rw [if_neg w10]
    by_cases w11 : w = 11
    · obtain ⟨r, h1, h2, e1, e2, R2⟩ := op_put R
      have e3 : qX7_put h1 = some (r, h2) := e2
      rw [if_pos w11, bi2_t e1, bi2_t e3, if_pos rfl]
      exact nx h2 g R2
    rw [if_neg w11]
    by_cases w12 : w = 12
    · obtain ⟨r, h1, h2, e1, e2, R2⟩ := op_undo R
      have e3 : qX7_undo h1 = some (r, h2) := e2
      rw [if_pos w12, bi2_t e1, bi2_t e3, if_pos rfl]
      exact nx h2 g R2
    rw [if_neg w12]
    by_cases w13 : w = 13
    · obtain ⟨r, h1, h2, e1, e2, R2⟩ := op_ahead hN R x1 x2
      have e3 : qX7_ahead h1 x1 x2 = some (r, h2) := e2
      rw [if_pos w13, ck_t i1, ck_t i2, bi2_t e1, ck_t i1, ck_t i2, bi2_t e3, if_pos rfl]
      exact nx h2 g R2
    rw [if_neg w13]
    by_cases w14 : w = 14
    · obtain ⟨r, h1, h2, e1, e2, R2⟩ := op_by hN R x1 x2 x3 x4
      have e3 : qX7_by h1 x1 x2 x3 x4 = some (r, h2) := e2
      rw [if_pos w14, ck_t i1, ck_t i2, ck_t i3, ck_t i4, bi2_t e1, ck_t i1, ck_t i2, ck_t i3, ck_t i4, bi2_t e3, if_pos rfl]
      exact nx h2 g R2
    rw [if_neg w14]
    by_cases w15 : w = 15
    · obtain ⟨r, h1, h2, e1, e2, R2⟩ := op_bestLength hN R x1 x2
      have e3 : qX7_bestLength h1 x1 x2 = some (r, h2) := e2
      rw [if_pos w15, ck_t i1, ck_t i2, bi2_t e1, ck_t i1, ck_t i2, bi2_t e3, if_pos rfl]
      exact nx h2 g R2
    rw [if_neg w15]
    by_cases w16 : w = 16
    · obtain ⟨r, h1, h2, e1, e2, R2⟩ := op_bestRule hN R x1
      have e3 : qX7_bestRule h1 x1 = some (r, h2) := e2
      rw [if_pos w16, ck_t i1, bi2_t e1, ck_t i1, bi2_t e3, if_pos rfl]
      exact nx h2 g R2
    rw [if_neg w16]
    by_cases w17 : w = 17
    · obtain ⟨r, h1, h2, e1, e2, R2⟩ := op_first hN R x1
      have e3 : qX7_first h1 x1 = some (r, h2) := e2
      rw [if_pos w17, ck_t i1, bi2_t e1, ck_t i1, bi2_t e3, if_pos rfl]
      exact nx h2 g R2
    rw [if_neg w17]
    by_cases w18 : w = 18
    · obtain ⟨r, h1, h2, e1, e2, R2⟩ := op_second hN R x1
      have e3 : qX7_second h1 x1 = some (r, h2) := e2
      rw [if_pos w18, ck_t i1, bi2_t e1, ck_t i1, bi2_t e3, if_pos rfl]
      exact nx h2 g R2
    rw [if_neg w18]
    by_cases w19 : w = 19
    · obtain ⟨r, h1, h2, e1, e2, R2⟩ := op_judge hN R x1 x2
      have e3 : qX7_judge h1 x1 x2 = some (r, h2) := e2
      rw [if_pos w19, ck_t i1, ck_t i2, bi2_t e1, ck_t i1, ck_t i2, bi2_t e3, if_pos rfl]
      exact nx h2 g R2
    rw [if_neg w19]
    by_cases w20 : w = 20
    · rw [if_pos w20, ck_t i1, ck_t i2]
      by_cases z : x2 = 0
      · obtain ⟨r, h1, h2, e1, e2, R2⟩ := op_share hN R x1 (0 : Int32)
        have e3 : qX7_share h1 x1 (0 : Int32) = some (r, h2) := e2
        rw [if_pos z]
        rw [qL_law_677, bi2_t e1]
        rw [y1, y2]
        rw [ck_t i1, ck_t i2, if_pos z, qL_law_699, bi2_t e3, if_pos rfl]
        exact nx h2 g R2
      · obtain ⟨r, h1, h2, e1, e2, R2⟩ := op_share hN R x1 (1 : Int32)
        have e3 : qX7_share h1 x1 (1 : Int32) = some (r, h2) := e2
        rw [if_neg z]
        rw [qL_law_677, bi2_t e1]
        rw [y1, y2]
        rw [ck_t i1, ck_t i2, if_neg z, qL_law_699, bi2_t e3, if_pos rfl]
        exact nx h2 g R2
    rw [if_neg w20]
    by_cases w21 : w = 21
    · obtain ⟨r, h1, h2, e1, e2, R2⟩ := op_see R x1 x2
      have e3 : qX7_see h1 x1 x2 = some (r, h2) := e2
      rw [if_pos w21, ck_t i1, ck_t i2, bi2_t e1, ck_t i1, ck_t i2, bi2_t e3, if_pos rfl]
      exact nx h2 g R2
    rw [if_neg w21]
    by_cases w22 : w = 22
    · obtain ⟨r, h1, h2, e1, e2, R2⟩ := op_unsee R
      have e3 : qX7_unsee h1 = some (r, h2) := e2
      rw [if_pos w22, bi2_t e1, bi2_t e3, if_pos rfl]
      exact nx h2 g R2
    rw [if_neg w22]
    by_cases w23 : w = 23
    · obtain ⟨r, h1, h2, e1, e2, R2⟩ := op_may hN R
      have e3 : qX7_may h1 = some (r, h2) := e2
      rw [if_pos w23, bi2_t e1, bi2_t e3, if_pos rfl]
      exact nx h2 g R2
    rw [if_neg w23]
    by_cases w24 : w = 24
    · obtain ⟨r, h2, e1, e2, R2⟩ := op_rests R x1 x2 x3
      have e3 : qX7_rests h x1 x2 x3 = some (r, h2) := e2
      rw [if_pos w24, ck_t i1, ck_t i2, ck_t i3, bi1_t e1, ck_t i1, ck_t i2, ck_t i3, bi2_t e3, if_pos rfl]
      exact nx h2 g R2
    rw [if_neg w24]
    by_cases w25 : w = 25
    · rw [if_pos w25, ck_t i1, ck_t i2, ck_t i3, ck_t i4]
      by_cases z : x4 = 0
      · obtain ⟨r, h1, h2, e1, e2, R2⟩ := op_chance hN R x1 x2 x3 (0 : Int32)
        have e3 : qX7_chance h1 x1 x2 x3 (0 : Int32) = some (r, h2) := e2
        rw [if_pos z]
        rw [qL_law_838, bi2_t e1]
        rw [y1, y2, y3, y4]
        rw [ck_t i1, ck_t i2, ck_t i3, ck_t i4, if_pos z, qL_law_870, bi2_t e3, if_pos rfl]
        exact nx h2 g R2
      · obtain ⟨r, h1, h2, e1, e2, R2⟩ := op_chance hN R x1 x2 x3 (1 : Int32)
        have e3 : qX7_chance h1 x1 x2 x3 (1 : Int32) = some (r, h2) := e2
        rw [if_neg z]
        rw [qL_law_838, bi2_t e1]
        rw [y1, y2, y3, y4]
        rw [ck_t i1, ck_t i2, ck_t i3, ck_t i4, if_neg z, qL_law_870, bi2_t e3, if_pos rfl]
        exact nx h2 g R2
    rw [if_neg w25]
    by_cases w26 : w = 26
    · generalize hsd : (((x1.toInt64) <<< (((32 : Int32)).toInt64 &&& 63)) ||| ((x2.toInt64) &&& (4294967295 : Int64))) = sd
      obtain ⟨r, g1, h2, g2, e1, e2, R2⟩ := op_seed R sd
      rw [if_pos w26, ck_t i1, ck_t i2, bi2_t e1, ck_t i1, ck_t i2, bi3_t e2, if_pos (lgc r)]
      exact nx h2 g2 R2
    rw [if_neg w26]
    by_cases w27 : w = 27
    · obtain ⟨r, h1, g1, h2, g2, e1, e2, R2⟩ := op_days hN R x1
      rw [if_pos w27, ck_t i1, bi3_t e1, ck_t i1, bi3_t e2, if_pos rfl]
      exact nx h2 g2 R2
    rw [if_neg w27]
    by_cases w28 : w = 28
    · obtain ⟨r, h1, h2, e1, e2, R2⟩ := op_keep R x1
      have e3 : qX7_keep h1 x1 = some (r, h2) := e2
      rw [if_pos w28, ck_t i1, bi2_t e1, ck_t i1, bi2_t e3, if_pos rfl]
      exact nx h2 g R2
    rw [if_neg w28]
    by_cases w29 : w = 29
    · obtain ⟨r, h1, h2, e1, e2, R2⟩ := op_again R x1
      have e3 : qX7_again h1 x1 = some (r, h2) := e2
      rw [if_pos w29, ck_t i1, bi2_t e1, ck_t i1, bi2_t e3, if_pos rfl]
      exact nx h2 g R2
    rw [if_neg w29]
    exact nx h g R.up
theorem law_pure (L : Nat) (xs : Row) (hL : L ≤ 320) : qL_law_18 L xs 600 h0 g0 (0 : Int32) = some () := by
  rw [show (600 : Nat) = 64 + 1 + 535 from rfl, show (0 : Int32) = nI 0 from rfl]
  exact law_loop L xs hL 64 535 0 0 h0 g0 (by omega) (by omega) (by omega) rel_0
