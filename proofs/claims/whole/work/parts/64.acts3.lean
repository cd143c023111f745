def NH (m : Hp) (k : Nat) : Hp := su (su m 40 (bkN k (m 38) (m 40))) 33 (upd (m 33) 15 (nI (nx14 k)))
def AH (h : Hp) (k e : Nat) (P : Row) : Hp := su (remH h k e) 0 P
theorem AH_n {h : Hp} {k e r : Nat} {P : Row} (h1 : r ≠ 0) (h2 : r ≠ 24) (h3 : r ≠ 2 + e) : AH h k e P r = h r := by
  unfold AH remH
  rw [su_ne h1, su_ne h2, su_ne h3]
theorem tAH_n {h : Hp} {k e r : Nat} {P : Row} (h0 : r ≠ 33) (h1 : r ≠ 0) (h2 : r ≠ 24) (h3 : r ≠ 2 + e) : th0 (AH h k e P) r = h r := by rw [th0_n h0, AH_n h1 h2 h3]
theorem tAH_33 {h : Hp} {k e : Nat} {P : Row} (he : e < 14) : th0 (AH h k e P) 33 = upd (h 33) 0 0 := by rw [th0_33, AH_n (by decide) (by decide) (by omega)]
theorem rem_r {h : Hp} {k e r : Nat} (h2 : r ≠ 24) (h3 : r ≠ 2 + e) : remH h k e r = h r := by
  unfold remH
  rw [su_ne h2, su_ne h3]
theorem note_t {h : Hp} {k e : Nat} {P : Row} (hk : k ≤ 14) (he : e < 14) (a2 : h 33 15 = nI k) : qX7_note (th0 (AH h k e P)) = some (NH (th0 (AH h k e P)) k) := note_R hk (by rw [tAH_33 he, upd_n _ (by decide)]; exact a2)
theorem NH_38 (m : Hp) (k : Nat) : NH m k 38 = m 38 := by
  unfold NH
  rw [su_ne (by decide), su_ne (by decide)]
theorem act_done {N L n k e s : Nat} {h : Hp} {g : Gp} {P T : Row} {r : Int32} {c : Option (Int32 × Hp)} {f : Hp → Option (Int32 × Hp)} (hT : TxO h L) (hK : KdO h n) (hP : PgO n N (h 0) (h 38)) (hA : AcO h n N k e) (hS : SlO h n N) (hE : SeO h s) (hg : g 18 = g 33) (hPT : PgO n (N + 1) P T) (eC : c = some (r, AH h k e P)) (eR : f (AH h k e P) = some (r, su (NH (th0 (AH h k e P)) k) 38 T)) : Op N g c f :=
  ⟨r, _, _, eC, eR, act_rel hT hK hP hA hS hE hg hPT (same_th0 _)⟩
theorem op_push {N : Nat} {h : Hp} {g : Gp} (R : Rel N h g) (x : Int32) : Op N g (qX6_push h x) (fun h => qX7_push h x) := by
  have R0 := R.up
  obtain ⟨L, n, k, e, s, hT, hK, hP, hA, hS, hE, hg⟩ := R
  obtain ⟨a, th, hP2⟩ := id hP
  obtain ⟨hk, he, a1, a2, a3, a4⟩ := id hA
  have hn := hK.1
  have h30 := hP2.2.2.2.1
  have ha := hP2.2.2.1
  have hT30 : h 38 30 = nI a := by rw [← hP2.1.1 30 (by omega) (by omega)]; exact h30
  have bad : ∀ r : Int32, qX6_push h x = some (r, h) → qX7_push h x = some (r, th0 h) → Op N g (qX6_push h x) (fun h => qX7_push h x) := fun r e1 e2 => ⟨r, h, th0 h, e1, e2, R0.same (same_th0 h)⟩
  have h33 : th0 h 33 4 = nI n := by rw [th0_f (by decide)]; exact hK.2.2.1
  rcases isChild n hn x with ⟨c, hc, rfl⟩ | hx
  · have hc5 : c < 5 := by omega
    by_cases hr : a.testBit c = true
    · have hPT : PgO n (N + 1) (offP a c (upd (h 0) (25 + c) (h 0 (25 + c) + 1))) (offP a c (upd (h 38) (25 + c) (h 0 (25 + c) + 1))) := ⟨_, _, ((hP2.howl hn hc5 _).off hn hc5).up⟩
      refine act_done (r := h 0 (25 + c) + 1) hT hK hP hA hS hE hg hPT ?_ ?_
      · unfold qX6_push qX2_canBePushed
        rw [bi1_t (there_C hn hP2.2.1 hc), if_neg one_ne, bi1_t (there_C hn hP2.2.1 hc), if_neg one_ne, brC h30 ha hc5, if_pos hr, if_neg one_ne, bi1_t rfl, if_neg one_ne, bi1_t (rem_C hk he a1 a3), rem_r (by decide) (by omega), bi1_t (push_C h30 ha hc5), bd_t, ck_t (in5 hc5), su_same, cl_nI (by omega), off_at (by omega) (by omega), upd_s]
        rfl
      · show bd (th0 (AH h k e _)) _ = _
        rw [bd_t, tAH_33 he, bi1_t (noC_R hn (by rw [upd_n _ (by decide)]; exact hK.2.2.1) hc), if_pos rfl, tAH_n (by decide) (by decide) (by decide) (by omega), hT30, bhR ha hc5, if_pos hr, if_neg one_ne, bi1_t (note_t hk he a2), NH_38, tAH_n (by decide) (by decide) (by decide) (by omega), bi1_t (off_R hT30 ha hc5), bd_t, pl25, ck_t (in36 (by omega)), ck_t (in36 (by omega)), bd_t, ck_t (in36 (by omega)), su_same, su_same, su_su, cl_nI (by omega), off_at (by omega) (by omega), upd_s, off_swap hc5, off_swap hc5, hP2.1.1 (25 + c) (by omega) (by omega)]
    · refine bad (-3) ?_ ?_
      · unfold qX6_push qX2_canBePushed
        rw [bi1_t (there_C hn hP2.2.1 hc), if_neg one_ne, bi1_t (there_C hn hP2.2.1 hc), if_neg one_ne, brC h30 ha hc5, if_neg hr, if_pos rfl, bi1_t rfl, if_pos rfl]
      · show bd (th0 h) _ = _
        rw [bd_t, bi1_t (noC_R hn h33 hc), if_pos rfl, th0_n (by decide), hT30, bhR ha hc5, if_neg hr, if_pos rfl]
  · refine bad (-1) ?_ ?_
    · unfold qX6_push
      rw [bi1_t (there_Cn hn hP2.2.1 hx), if_pos rfl]
    · show bd (th0 h) _ = _
      rw [bd_t, bi1_t (noC_Rn hn h33 hx), if_neg one_ne]
theorem op_call {N : Nat} {h : Hp} {g : Gp} (R : Rel N h g) (x : Int32) : Op N g (qX6_call h x) (fun h => qX7_call h x) := by
  have R0 := R.up
  obtain ⟨L, n, k, e, s, hT, hK, hP, hA, hS, hE, hg⟩ := R
  obtain ⟨a, th, hP2⟩ := id hP
  obtain ⟨hk, he, a1, a2, a3, a4⟩ := id hA
  have hn := hK.1
  have h30 := hP2.2.2.2.1
  have ha := hP2.2.2.1
  have hT30 : h 38 30 = nI a := by rw [← hP2.1.1 30 (by omega) (by omega)]; exact h30
  have bad : ∀ r : Int32, qX6_call h x = some (r, h) → qX7_call h x = some (r, th0 h) → Op N g (qX6_call h x) (fun h => qX7_call h x) := fun r e1 e2 => ⟨r, h, th0 h, e1, e2, R0.same (same_th0 h)⟩
  have h33 : th0 h 33 4 = nI n := by rw [th0_f (by decide)]; exact hK.2.2.1
  rcases isChild n hn x with ⟨c, hc, rfl⟩ | hx
  · have hc5 : c < 5 := by omega
    have hTc : h 38 c = h 0 c := (hP2.1.1 c (by omega) (by omega)).symm
    obtain ⟨w, hw9, ew⟩ := hP2.2.2.2.2.2.2.2.2.2.2.1 c hc
    have eC1 : qX6_call h (nI c) = if a.testBit c = true then some (-3, h) else if h 0 c ≤ 0 then some (-3, h) else bi1 (qX0_remember h) (fun h29 => ck (inb (nI c) 5) (bi1 (qX2_callAway (h29 0) (nI c)) (fun P33 => bd (su h29 0 P33) (fun h34 => some (h29 0 c, h34))))) := by
      unfold qX6_call qX2_canBeCalled
      rw [bi1_t (there_C hn hP2.2.1 hc), if_neg one_ne, bi1_t (there_C hn hP2.2.1 hc), if_neg one_ne, brC h30 ha hc5, ck_t (in5 hc5), cl_nI (by omega), Nat.zero_add]
      by_cases hr : a.testBit c = true
      · rw [if_pos hr, if_pos hr, if_neg one_ne, bi1_t rfl, if_pos rfl]
      · rw [if_neg hr, if_neg hr, if_pos rfl]
        by_cases hz : h 0 c ≤ 0
        · rw [if_pos hz, if_pos hz, bi1_t rfl, if_pos rfl]
        · rw [if_neg hz, if_neg hz, bi1_t rfl, if_neg one_ne]
    by_cases hr : a.testBit c = true
    · refine bad (-3) (by rw [eC1, if_pos hr]) ?_
      show bd (th0 h) _ = _
      rw [bd_t, bi1_t (noC_R hn h33 hc), if_pos rfl, pl0, ck_t (in36 (by omega)), th0_n (by decide), hT30, bhR ha hc5, if_pos hr, if_neg one_ne]
    · by_cases hz : w = 0
      · have hz2 : h 0 c = 0 := by rw [ew, hz]; rfl
        refine bad (-3) (by rw [eC1, if_neg hr, if_pos (by rw [hz2]; decide)]) ?_
        show bd (th0 h) _ = _
        rw [bd_t, bi1_t (noC_R hn h33 hc), if_pos rfl, pl0, ck_t (in36 (by omega)), th0_n (by decide), hT30, bhR ha hc5, if_neg hr, if_pos rfl, cl_nI (by omega), Nat.zero_add, hTc, hz2, if_pos rfl]
      · have hnz : ¬ h 0 c ≤ 0 := by rw [ew]; exact nI_nle (by omega) (by omega)
        have hne : ¬ h 0 c = 0 := by rw [ew]; exact nI_ne0 (by omega) (by omega)
        have hPT : PgO n (N + 1) (upd (h 0) c 0) (upd (h 38) c 0) := ⟨_, _, (hP2.col (Or.inl (by omega)) (fun _ => ⟨0, by omega, rfl⟩) (fun d _ hd => absurd hd (by omega))).up⟩
        refine act_done (r := h 0 c) hT hK hP hA hS hE hg hPT ?_ ?_
        · rw [eC1, if_neg hr, if_neg hnz, bi1_t (rem_C hk he a1 a3), ck_t (in5 hc5), rem_r (by decide) (by omega)]
          unfold qX2_callAway
          rw [ck_t (in5 hc5), bd_t, cl_nI (by omega), Nat.zero_add, bi1_t rfl, bd_t]
          rfl
        · show bd (th0 (AH h k e _)) _ = _
          rw [bd_t, tAH_33 he, bi1_t (noC_R hn (by rw [upd_n _ (by decide)]; exact hK.2.2.1) hc), if_pos rfl, pl0, ck_t (in36 (by omega)), tAH_n (by decide) (by decide) (by decide) (by omega), hT30, bhR ha hc5, if_neg hr, if_pos rfl, cl_nI (by omega), Nat.zero_add, hTc, if_neg hne, bi1_t (note_t hk he a2), ck_t (in36 (by omega)), bd_t, NH_38, tAH_n (by decide) (by decide) (by decide) (by omega)]
  · refine bad (-1) ?_ ?_
    · unfold qX6_call
      rw [bi1_t (there_Cn hn hP2.2.1 hx), if_pos rfl]
    · show bd (th0 h) _ = _
      rw [bd_t, bi1_t (noC_Rn hn h33 hx), if_neg one_ne]
