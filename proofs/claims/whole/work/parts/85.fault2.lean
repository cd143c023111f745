theorem read_eq {m : Hp} {L : Nat} (T : TxO m L) : Res m L (qX7_readGarden m) := by
  have hL := T.1
  generalize hH : su (su m 33 (upd (m 33) 3 0)) 33 (upd (su m 33 (upd (m 33) 3 0) 33) 10 0) = H
  have S : Same m H := by rw [← hH]; exact ((Same.rf m).fld (by decide) 0).fld (by decide) 0
  have h2 : H 33 2 = nI L := by rw [← hH, su_same, upd_n _ (by decide), su_same, upd_n _ (by decide)]; exact T.2.2.1
  have h34 : H 34 = m 34 := by rw [← hH, su_ne (by decide), su_ne (by decide)]
  have h10 : H 33 10 = nI 0 := by rw [← hH, su_same, upd_s]; rfl
  have e0 : qX7_readGarden m = (if H 33 2 = 0 then (some ((0 : Int32), H)) else (if H 34 0 = (84 : Int32) then (bd (su H 33 (upd (H 33) 3 (1 : Int32))) (fun h25 => (bi2 (qX7_readHead h25) (fun r27 h28 => (if r27 = 0 then (some (((h28 33) 3), h28)) else (qX7_readGarden_47 600 h28)))))) else (some ((0 : Int32), H)))) := by
    unfold qX7_readGarden
    rw [bd_t, bd_t, hH]
  rw [e0, h2, h34]
  by_cases L0 : L = 0
  · subst L0
    rw [if_pos (show nI 0 = (0 : Int32) from rfl)]
    exact ⟨H, S, Or.inr (Or.inl ⟨rfl, rfl, fun i hi => absurd hi (by omega)⟩)⟩
  · have hl0 : 0 < L := by omega
    obtain ⟨t1, -, t3⟩ := tx_t T hl0
    rw [if_neg (nI_ne0 hl0 (by omega)), t3]
    by_cases h84 : tx m 0 = 84
    · have G1 : Good m L 1 (su H 33 (upd (H 33) 3 (1 : Int32))) := ⟨S.fld (by decide) _, by rw [su_same, upd_n _ (by decide)]; exact h2, by rw [su_ne (by decide)]; exact h34, by rw [su_same, upd_s]; rfl⟩
      rw [h84, if_pos (show nI 84 = (84 : Int32) from rfl), bd_t]
      obtain ⟨H2, ⟨e1, ok⟩ | ⟨e1, no⟩⟩ := head_eq T hl0 G1
      · obtain ⟨l4, b1, b2, b3, GG, k7, k8, k9, k10, -⟩ := ok
        rw [bi2_t e1, if_neg one_ne]
        refine gar_loop T 5 594 0 H2 (by omega) (by omega) GG (by rw [k10, su_same, upd_n _ (by decide)]; exact h10) ⟨k7, k8, k9⟩ (fun i hi => ?_) (fun c2 hc2 => absurd hc2 (by omega))
        rcases (show i = 0 ∨ i = 1 ∨ i = 2 ∨ i = 3 by omega) with rfl | rfl | rfl | rfl
        · rw [h84]; rfl
        · exact b1
        · exact b2
        · exact b3
      · obtain ⟨p, p1, p3, pL, GG, pg, pb⟩ := no
        rw [bi2_t e1, if_pos rfl, GG.2.2.2]
        have good2 : ∀ i, i < p → ft i (tx m i) = true := fun i hi => by
          by_cases i0 : i = 0
          · subst i0; rw [h84]; rfl
          · exact pg i (by omega) hi
        by_cases hr : p < L
        · exact ⟨H2, GG.1, Or.inl ⟨p, hr, rfl, pb hr, good2⟩⟩
        · have eL : L = p := by omega
          refine ⟨H2, GG.1, Or.inr (Or.inl ⟨by rw [← eL], ?_, fun i hi => good2 i (by omega)⟩)⟩
          unfold endF
          rw [if_pos (by omega)]
    · rw [if_neg (show ¬ nI (tx m 0) = (84 : Int32) from fun q => h84 ((nI_eq (b := 84) (by omega) (by decide)).mp q))]
      exact ⟨H, S, Or.inl ⟨0, hl0, rfl, decide_eq_false h84, fun i hi => absurd hi (by omega)⟩⟩
theorem op_fault {N : Nat} {h : Hp} {g : Gp} (R : Rel N h g) : OpR N g h (qX6_fault h) (fun h => qX7_fault h) := by
  have R0 := R
  obtain ⟨L, n, k, e, s, hT, hK, hP, hA, hS, hE, hg⟩ := R
  have T1 : TxO (th0 h) L := hT.of (th0_n (by decide)) (th0_n (by decide)) (th0_n (by decide)) (th0_f (by decide))
  have fin : ∀ r H2, Same (th0 h) H2 → qX5_faultPlace (th0 h 19) (th0 h 20) = some r → qX7_readGarden (th0 h) = some (r, H2) → OpR N g h (qX6_fault h) (fun h => qX7_fault h) := by
    intro r H2 S2 e1 e2
    rw [th0_n (by decide), th0_n (by decide)] at e1
    refine ⟨r, H2, ?_, ?_, R0.up.same ((same_th0 h).tr S2)⟩
    · unfold qX6_fault
      rw [bi1_t e1]
    · show bd (th0 h) _ = _
      rw [bd_t, bi2_t e2]
  obtain ⟨H2, S2, ⟨p, pL, e1, bad, good⟩ | ⟨e1, eE, good⟩ | ⟨e1, good, n2, n5, eL, -⟩⟩ := read_eq T1
  · exact fin _ H2 S2 (fault_C1 T1 pL bad good) e1
  · exact fin _ H2 S2 (by rw [fault_C2 T1 good, eE]) e1
  · refine fin _ H2 S2 ?_ e1
    rw [fault_C2 T1 good]
    unfold endF
    rw [if_neg (by omega), if_pos (by omega)]
