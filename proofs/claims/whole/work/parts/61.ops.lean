def th0 (h : Hp) : Hp := su h 33 (upd (h 33) 0 (0 : Int32))
theorem same_th0 (h : Hp) : Same h (th0 h) := (Same.rf h).fld (by decide) 0
theorem th0_rd (h : Hp) (q : Nat) : th0 h q = if q = 33 then upd (h 33) 0 0 else h q := rfl
theorem th0_33 (h : Hp) : th0 h 33 = upd (h 33) 0 0 := su_same _ _ _
theorem th0_n {h : Hp} {r : Nat} (hr : r ≠ 33) : th0 h r = h r := su_ne hr
theorem th0_f {h : Hp} {j : Nat} (hj : j ≠ 0) : th0 h 33 j = h 33 j := by rw [th0_33, upd_n _ hj]
/-- a call that both sides answer alike -/
def Op (N : Nat) (g : Gp) (c : Option (Int32 × Hp)) (f : Hp → Option (Int32 × Hp)) : Prop := ∃ r h1 h2, c = some (r, h1) ∧ f h1 = some (r, h2) ∧ Rel (N + 1) h2 g
def OpR (N : Nat) (g : Gp) (h : Hp) (c : Option Int32) (f : Hp → Option (Int32 × Hp)) : Prop := ∃ r h2, c = some r ∧ f h = some (r, h2) ∧ Rel (N + 1) h2 g
theorem cxt_of {h : Hp} {n : Nat} {R33 : Row} (K : KdO h n) (h4 : R33 4 = nI n) (h25 : R33 25 = nI (al n)) : Cxt n (al n) (h 22) (h 23) R33 (h 35) (h 36) :=
  ⟨K.1, h4, h25, al_lt K.1, fun c hc hb => by rw [al_b K.1 hc, decide_eq_true_eq] at hb; exact hb, K.2.2.2⟩
theorem all_R {R33 : Row} {n : Nat} (hn : n ≤ 5) (h4 : R33 4 = nI n) : qX7_all R33 = some (nI (al n)) := by
  unfold qX7_all
  rw [h4, all_n hn]
theorem op_write {N : Nat} {h : Hp} {g : Gp} (R : Rel N h g) (x : Int32) : Op N g (qX6_write h x) (fun h => qX7_write h x) := by
  have R0 := R.up
  obtain ⟨L, n, k, e, s, ⟨hL, t1, t2, t3⟩, hK, hP, hA, hS, hE, hg⟩ := R
  have e255 : (255 : Int64) = (255 : Int32).toInt64 := by decide
  have e0 : (0 : Int64) = (0 : Int32).toInt64 := by decide
  unfold qX6_write
  by_cases c1 : x < 0
  · rw [if_pos c1]
    refine ⟨_, _, th0 h, rfl, ?_, R0.same (same_th0 h)⟩
    show bd (th0 h) _ = _
    rw [bd_t, e0, e255, in_R, if_pos c1, bi1_t rfl, if_pos rfl]
  · rw [if_neg c1]
    by_cases c2 : x ≤ (255 : Int32)
    · rw [if_pos c2]
      have n2 : ¬ (255 : Int32) < x := by
        rw [Int32.le_iff_toInt_le] at c2
        rw [Int32.lt_iff_toInt_lt]
        omega
      obtain ⟨v, hv, ev⟩ : ∃ v, v < 256 ∧ x = nI v := by
        obtain ⟨j, h1, h2⟩ := nI_of2 (x := x) (M := 255) (n := 255) (by decide) c1 c2
        exact ⟨j, by omega, h2⟩
      rw [t1]
      by_cases c3 : L < 32
      · rw [if_pos (show nI L < (32 : Int32) from nI_lt c3 (by decide))]
        have ea : qX5_append h x = some (su (su h 20 (upd (h 20) L x)) 19 (upd (h 19) 1 (nI (L + 1)))) := by
          unfold qX5_append
          rw [t1, if_neg (show ¬ (32 : Int32) ≤ nI L from nI_ge c3 (by decide)), ck_t (inb_nI c3 (by decide)), cl_nI (by omega), bd_t, bd_t, su_ne (by decide), t1]
          rw [show nI L + (1 : Int32) = nI (L + 1) from nI_1 L]
        rw [bi1_t ea]
        refine ⟨nI (L + 1), su (su h 20 (upd (h 20) L x)) 19 (upd (h 19) 1 (nI (L + 1))), su (su (th0 (su (su h 20 (upd (h 20) L x)) 19 (upd (h 19) 1 (nI (L + 1))))) 34 (upd (h 34) L x)) 33 (upd (upd (h 33) 0 0) 2 (nI (L + 1))), ?_, ?_, ?_⟩
        · rw [su_same, upd_s]
        · have n32 : ¬ nI L = (32 : Int32) := fun hh => by have := (nI_eq (a := L) (b := 32) (by omega) (by decide)).mp hh; omega
          show bd (th0 _) _ = _
          rw [bd_t, e0, e255, in_R, if_neg c1, if_neg n2, bi1_t rfl, if_neg one_ne]
          simp only [su_rd, th0_rd, upd_rd, bd_t, reduceIte, Nat.reduceEqDiff, t2, n32, nI_1]
          rw [ck_t (inb_nI c3 (by decide)), cl_nI (by omega)]
        · refine ⟨L + 1, n, k, e, s, ?_, hK.of rfl rfl rfl rfl rfl rfl, hP.up, hA.up.of rfl rfl rfl (fun r h1 h2 => ?_), hS.up.of rfl rfl rfl (fun r h1 h2 => ?_), hE.of rfl rfl rfl rfl rfl rfl, hg⟩
          · refine ⟨by omega, rfl, rfl, fun j hj => ?_⟩
            show upd (h 20) L x j = upd (h 34) L x j ∧ ∃ v, v < 256 ∧ upd (h 20) L x j = nI v
            by_cases ej : j = L
            · rw [ej, upd_s, upd_s]
              exact ⟨rfl, v, hv, ev⟩
            · rw [upd_n _ ej, upd_n _ ej]
              exact t3 j (by omega)
          · rw [su_ne (by omega), su_ne (by omega), th0_n (by omega), su_ne (by omega), su_ne (by omega)]
          · rw [su_ne (by omega), su_ne (by omega), th0_n (by omega), su_ne (by omega), su_ne (by omega)]
      · have eL : L = 32 := by omega
        rw [if_neg (show ¬ nI L < (32 : Int32) from nI_nlt (a := L) (b := 32) (by omega) (by omega))]
        refine ⟨_, _, th0 h, rfl, ?_, R0.same (same_th0 h)⟩
        show bd (th0 h) _ = _
        rw [bd_t, e0, e255, in_R, if_neg c1, if_neg n2, bi1_t rfl, if_neg one_ne, th0_f (by decide), t2, eL, if_pos (show nI 32 = (32 : Int32) from rfl)]
    · rw [if_neg c2]
      have n2 : (255 : Int32) < x := by
        rw [Int32.le_iff_toInt_le] at c2
        rw [Int32.lt_iff_toInt_lt]
        omega
      refine ⟨_, _, th0 h, rfl, ?_, R0.same (same_th0 h)⟩
      show bd (th0 h) _ = _
      rw [bd_t, e0, e255, in_R, if_neg c1, if_pos n2, bi1_t rfl, if_pos rfl]
theorem op_wipe {N : Nat} {h : Hp} {g : Gp} (R : Rel N h g) : Op N g (qX6_wipe h) (fun h => qX7_wipe h) := by
  obtain ⟨L, n, k, e, s, ⟨hL, t1, t2, t3⟩, hK, hP, hA, hS, hE, hg⟩ := R
  refine ⟨nI L, su h 19 (upd (h 19) 1 0), su (th0 (su h 19 (upd (h 19) 1 0))) 33 (upd (upd (h 33) 0 0) 2 0), ?_, ?_, ?_⟩
  · unfold qX6_wipe
    rw [bd_t, t1]
  · show bd (th0 _) _ = _
    rw [bd_t, bd_t, th0_f (by decide), su_ne (by decide), t2, th0_33, su_ne (by decide)]
  · refine ⟨0, n, k, e, s, ⟨by omega, rfl, rfl, fun j hj => absurd hj (by omega)⟩, hK.of rfl rfl rfl rfl rfl rfl, hP.up, hA.up.of rfl rfl rfl (fun r h1 h2 => ?_), hS.up.of rfl rfl rfl (fun r h1 h2 => ?_), hE.of rfl rfl rfl rfl rfl rfl, hg⟩
    · rw [su_ne (by omega), th0_n (by omega), su_ne (by omega)]
    · rw [su_ne (by omega), th0_n (by omega), su_ne (by omega)]
theorem op_seed {N : Nat} {h : Hp} {g : Gp} (R : Rel N h g) (x : Int64) : ∃ r g1 h2 g2, qX6_seed h g x = some (r, g1) ∧ qX7_seed h g1 x = some (r, h2, g2) ∧ Rel (N + 1) h2 g2 := by
  obtain ⟨L, n, k, e, s, hT, hK, hP, hA, hS, hE, hg⟩ := R
  refine ⟨g 18, sg g 18 x, th0 h, sg (sg g 18 x) 33 x, rfl, ?_, ?_⟩
  · show bd (th0 h) _ = _
    rw [bd_t, bd_t, sg_ne (by decide), hg]
  · have R1 : Rel (N + 1) (th0 h) (sg (sg g 18 x) 33 x) := by
      have R2 : Rel (N + 1) h (sg (sg g 18 x) 33 x) := ⟨L, n, k, e, s, hT, hK, hP.up, hA.up, hS.up, hE, by rw [sg_ne (by decide), sg_same, sg_same]⟩
      exact R2.same (same_th0 h)
    exact R1
theorem op_unsee {N : Nat} {h : Hp} {g : Gp} (R : Rel N h g) : Op N g (qX6_unsee h) (fun h => qX7_unsee h) := by
  obtain ⟨L, n, k, e, s, hT, hK, hP, hA, hS, ⟨hs, s1, s2, s3⟩, hg⟩ := R
  refine ⟨nI s, su h 29 (upd (h 29) 2 0), su (th0 (su h 29 (upd (h 29) 2 0))) 33 (upd (upd (h 33) 0 0) 18 0), ?_, ?_, ?_⟩
  · unfold qX6_unsee
    rw [bd_t, s1]
  · show bd (th0 _) _ = _
    rw [bd_t, bd_t, th0_f (by decide), su_ne (by decide), s2, th0_33, su_ne (by decide)]
  · refine ⟨L, n, k, e, 0, hT.of rfl rfl rfl rfl, hK.of rfl rfl rfl rfl rfl rfl, hP.up, hA.up.of rfl rfl rfl (fun r h1 h2 => ?_), hS.up.of rfl rfl rfl (fun r h1 h2 => ?_), ⟨by omega, rfl, rfl, fun j hj => absurd hj (by omega)⟩, hg⟩
    · rw [su_ne (by omega), th0_n (by omega), su_ne (by omega)]
    · rw [su_ne (by omega), th0_n (by omega), su_ne (by omega)]
theorem op_about {N : Nat} {h : Hp} {g : Gp} (hN : N < 2 ^ 20) (R : Rel N h g) (x : Int32) : OpR N g h (qX6_about h x) (fun h => qX7_about h x) := by
  have R0 := R.up
  obtain ⟨L, n, k, e, s, ⟨hL, t1, t2, t3⟩, hK, ⟨a, th, hP⟩, ⟨hk, he, a1, a2, a3, a4⟩, hS, ⟨hs, s1, s2, s3⟩, hg⟩ := R
  have hAg := hP.1.1
  have eall : qX7_all (th0 h 33) = some (nI (al n)) := all_R hK.1 (by rw [th0_f (by decide)]; exact hK.2.2.1)
  have hsame : Same h (su (th0 h) 33 (upd (th0 h 33) 25 (nI (al n)))) := (same_th0 h).fld (by decide) _
  have X : Cxt n (al n) (h 22) (h 23) (upd (th0 h 33) 25 (nI (al n))) (h 35) (h 36) := cxt_of hK (by rw [upd_n _ (by decide), th0_f (by decide)]; exact hK.2.2.1) (upd_s _ _ _)
  have fin : ∀ r : Int32, qX6_about h x = some r → qX7_about h x = some (r, su (th0 h) 33 (upd (th0 h 33) 25 (nI (al n)))) → OpR N g h (qX6_about h x) (fun h => qX7_about h x) := fun r e1 e2 => ⟨r, _, e1, e2, R0.same hsame⟩
  have hR : qX7_about h x = (fun h24 => (if x = 0 then (some (((h24 33) 4), h24)) else (if x = 1 then (some (((h24 38) 32), h24)) else (if x = 2 then (some (((h24 38) 33), h24)) else (if x = 3 then (some (((h24 38) 34), h24)) else (if x = 4 then (some (((h24 38) 30), h24)) else (if x = 5 then (bi1 (qX7_wantsOf (h24 33) (h24 38)) (fun r32 => (some (r32, h24)))) else (if x = 6 then (bi1 (qX7_asksOf (h24 33) (h24 36) (h24 38)) (fun r35 => (some (r35, h24)))) else (if x = 7 then (bi1 (qX7_nextOf (h24 33) (h24 35) (h24 36) (h24 38)) (fun r38 => (some (r38, h24)))) else (if x = 8 then (some (((h24 38) 31), h24)) else (if x = 9 then (some (((h24 38) 35), h24)) else (if x = 10 then (some (((h24 33) 15), h24)) else (if x = 11 then (some (((h24 33) 18), h24)) else (if x = 12 then (some (((h24 33) 2), h24)) else (some ((-2 : Int32), h24))))))))))))))) : Hp → Option (Int32 × Hp)) (su (th0 h) 33 (upd (th0 h 33) 25 (nI (al n)))) := by
    show bd (th0 h) _ = _
    rw [bd_t, bi1_t eall, bd_t]
  dsimp only at hR
  rw [su_same, su_ne (show (38 : Nat) ≠ 33 by decide), su_ne (show (36 : Nat) ≠ 33 by decide), su_ne (show (35 : Nat) ≠ 33 by decide), th0_n (show (38 : Nat) ≠ 33 by decide), th0_n (show (36 : Nat) ≠ 33 by decide), th0_n (show (35 : Nat) ≠ 33 by decide)] at hR
  unfold qX6_about at fin ⊢
  by_cases c0 : x = 0
  · rw [if_pos c0] at fin hR ⊢
    exact fin _ rfl (by rw [hR, upd_n _ (by decide), th0_f (by decide), hK.2.2.1, hK.2.1.1])
  rw [if_neg c0] at fin hR ⊢
  by_cases c1 : x = 1
  · rw [if_pos c1] at fin hR ⊢
    exact fin _ rfl (by rw [hR, hAg 32 (by omega) (by omega)])
  rw [if_neg c1] at fin hR ⊢
  by_cases c2 : x = 2
  · rw [if_pos c2] at fin hR ⊢
    exact fin _ rfl (by rw [hR, hAg 33 (by omega) (by omega)])
  rw [if_neg c2] at fin hR ⊢
  by_cases c3 : x = 3
  · rw [if_pos c3] at fin hR ⊢
    exact fin _ rfl (by rw [hR, hAg 34 (by omega) (by omega)])
  rw [if_neg c3] at fin hR ⊢
  by_cases c4 : x = 4
  · rw [if_pos c4] at fin hR ⊢
    exact fin _ rfl (by rw [hR, hAg 30 (by omega) (by omega)])
  rw [if_neg c4] at fin hR ⊢
  by_cases c5 : x = 5
  · rw [if_pos c5] at fin hR ⊢
    obtain ⟨M, hM, hb, e1⟩ := want_C hP.2.2.2.1 hP.2.2.1 hP.2.1 (al_lt hK.1)
    obtain ⟨M2, hM2, hb2, e2⟩ := want_R (R33 := upd (th0 h 33) 25 (nI (al n))) (P := h 38) X.1 X.2.1 X.2.2.1 X.2.2.2.1 X.2.2.2.2.1 (show h 38 30 = nI a by rw [← hAg 30 (by omega) (by omega)]; exact hP.2.2.2.1) hP.2.2.1
    have eM : M2 = M := tb_ext hM2 hM (fun c hc => by rw [hb c hc, hb2 c hc, hAg c (by omega) (by omega)])
    rw [bi1_t e1] at fin ⊢
    exact fin _ rfl (by rw [hR, bi1_t e2, eM])
  rw [if_neg c5] at fin hR ⊢
  by_cases c6 : x = 6
  · rw [if_pos c6] at fin hR ⊢
    obtain ⟨M, hM, hb, e1⟩ := ask_C (R23 := h 23) hP.2.2.2.1 hP.2.2.1 hP.2.1 (al_lt hK.1)
    obtain ⟨M2, hM2, hb2, e2⟩ := ask_R (P := h 38) X (show h 38 30 = nI a by rw [← hAg 30 (by omega) (by omega)]; exact hP.2.2.2.1) hP.2.2.1
    have eM : M2 = M := tb_ext hM2 hM (fun c hc => by rw [hb c hc, hb2 c hc, askB_ag X hAg hc])
    rw [bi1_t e1] at fin ⊢
    exact fin _ rfl (by rw [hR, bi1_t e2, eM])
  rw [if_neg c6] at fin hR ⊢
  by_cases c7 : x = 7
  · rw [if_pos c7] at fin hR ⊢
    obtain ⟨o, e1, e2, -, -⟩ := next_eq X hAg hP.pin hP.2.2.2.1 hP.2.2.1 hP.2.1 (by omega)
    rw [bi1_t e1] at fin ⊢
    exact fin _ rfl (by rw [hR, bi1_t e2])
  rw [if_neg c7] at fin hR ⊢
  by_cases c8 : x = 8
  · rw [if_pos c8] at fin hR ⊢
    exact fin _ rfl (by rw [hR, hAg 31 (by omega) (by omega)])
  rw [if_neg c8] at fin hR ⊢
  by_cases c9 : x = 9
  · rw [if_pos c9] at fin hR ⊢
    exact fin _ rfl (by rw [hR, hAg 35 (by omega) (by omega)])
  rw [if_neg c9] at fin hR ⊢
  by_cases c10 : x = 10
  · rw [if_pos c10] at fin hR ⊢
    exact fin _ rfl (by rw [hR, upd_n _ (by decide), th0_f (by decide), a2, a1])
  rw [if_neg c10] at fin hR ⊢
  by_cases c11 : x = 11
  · rw [if_pos c11] at fin hR ⊢
    exact fin _ rfl (by rw [hR, upd_n _ (by decide), th0_f (by decide), s2, s1])
  rw [if_neg c11] at fin hR ⊢
  by_cases c12 : x = 12
  · rw [if_pos c12] at fin hR ⊢
    exact fin _ rfl (by rw [hR, upd_n _ (by decide), th0_f (by decide), t2, t1])
  rw [if_neg c12] at fin hR ⊢
  exact fin _ rfl hR
theorem op_child {N : Nat} {h : Hp} {g : Gp} (R : Rel N h g) (x y : Int32) : OpR N g h (qX6_child h x y) (fun h => qX7_child h x y) := by
  have R0 := R.up
  obtain ⟨L, n, k, e, s, hT, hK, ⟨a, th, hP⟩, hA, hS, hE, hg⟩ := R
  have hAg := hP.1.1
  have hn := hK.1
  have fin : ∀ r : Int32, qX6_child h x y = some r → qX7_child h x y = some (r, th0 h) → OpR N g h (qX6_child h x y) (fun h => qX7_child h x y) := fun r e1 e2 => ⟨r, _, e1, e2, R0.same (same_th0 h)⟩
  have h33 : th0 h 33 4 = nI n := by rw [th0_f (by decide)]; exact hK.2.2.1
  rcases isChild n hn x with ⟨c, hc, rfl⟩ | hx
  · have hR : qX7_child h (nI c) y = if y = 0 then some (h 38 c, th0 h) else if y = 1 then some (h 35 c, th0 h) else if y = 2 then some (h 36 c, th0 h) else if y = 3 then some (mgt (h 35) (h 36) c, th0 h) else if y = 4 then some (h 38 (5 + c), th0 h) else if y = 5 then some (h 38 (10 + c), th0 h) else if y = 6 then some (h 38 (15 + c), th0 h) else if y = 7 then some (h 38 (20 + c), th0 h) else if y = 8 then some (h 38 (25 + c), th0 h) else some (-2, th0 h) := by
      show bd (th0 h) _ = _
      rw [bd_t, bi1_t (noC_R hn h33 hc), if_pos rfl, pl0, pl5, pl10, pl15, pl20, pl25, ck_t (in36 (by omega)), ck_t (in36 (by omega)), ck_t (in36 (by omega)), ck_t (in36 (by omega)), ck_t (in36 (by omega)), ck_t (in36 (by omega)), ck_t (in5 (by omega)), ck_t (in5 (by omega)), cl_nI (by omega), cl_nI (by omega), cl_nI (by omega), cl_nI (by omega), cl_nI (by omega), cl_nI (by omega), cl_nI (by omega), Nat.zero_add, th0_n (show (38 : Nat) ≠ 33 by decide), th0_n (show (35 : Nat) ≠ 33 by decide), th0_n (show (36 : Nat) ≠ 33 by decide), bi1_t (might_R (h 35) (h 36) (by omega))]
    have hC : qX6_child h (nI c) y = if y = 0 then some (h 0 c) else if y = 1 then some (h 22 c) else if y = 2 then some (h 23 c) else if y = 3 then some (mgt (h 22) (h 23) c) else if y = 4 then some (h 0 (5 + c)) else if y = 5 then some (h 0 (10 + c)) else if y = 6 then some (h 0 (15 + c)) else if y = 7 then some (h 0 (20 + c)) else if y = 8 then some (h 0 (25 + c)) else some (-2) := by
      unfold qX6_child
      rw [bi1_t (there_C hn hP.2.1 hc), if_neg one_ne, ck_t (in5 (by omega)), ck_t (in5 (by omega)), ck_t (in5 (by omega)), ck_t (in5 (by omega)), ck_t (in5 (by omega)), ck_t (in5 (by omega)), ck_t (in5 (by omega)), ck_t (in5 (by omega)), cl_nI (by omega), Nat.zero_add, bi1_t (might_C (h 22) (h 23) (by omega))]
    obtain ⟨q1, q2⟩ := hK.2.2.2 c hc
    have qm : mgt (h 22) (h 23) c = mgt (h 35) (h 36) c := by unfold mgt; rw [q1, q2]
    rw [hAg c (by omega) (by omega), hP.1.2.1 c (by omega) rfl, hAg (10 + c) (by omega) (by omega), hAg (15 + c) (by omega) (by omega), hAg (20 + c) (by omega) (by omega), hAg (25 + c) (by omega) (by omega), q1, q2, qm] at hC
    by_cases c0 : y = 0
    · rw [if_pos c0] at hC hR
      exact fin _ hC hR
    rw [if_neg c0] at hC hR
    by_cases c1 : y = 1
    · rw [if_pos c1] at hC hR
      exact fin _ hC hR
    rw [if_neg c1] at hC hR
    by_cases c2 : y = 2
    · rw [if_pos c2] at hC hR
      exact fin _ hC hR
    rw [if_neg c2] at hC hR
    by_cases c3 : y = 3
    · rw [if_pos c3] at hC hR
      exact fin _ hC hR
    rw [if_neg c3] at hC hR
    by_cases c4 : y = 4
    · rw [if_pos c4] at hC hR
      exact fin _ hC hR
    rw [if_neg c4] at hC hR
    by_cases c5 : y = 5
    · rw [if_pos c5] at hC hR
      exact fin _ hC hR
    rw [if_neg c5] at hC hR
    by_cases c6 : y = 6
    · rw [if_pos c6] at hC hR
      exact fin _ hC hR
    rw [if_neg c6] at hC hR
    by_cases c7 : y = 7
    · rw [if_pos c7] at hC hR
      exact fin _ hC hR
    rw [if_neg c7] at hC hR
    by_cases c8 : y = 8
    · rw [if_pos c8] at hC hR
      exact fin _ hC hR
    rw [if_neg c8] at hC hR
    exact fin _ hC hR
  · refine fin (-1) ?_ ?_
    · unfold qX6_child
      rw [bi1_t (there_Cn hn hP.2.1 hx), if_pos rfl]
    · show bd (th0 h) _ = _
      rw [bd_t, bi1_t (noC_Rn hn h33 hx), if_neg one_ne]
