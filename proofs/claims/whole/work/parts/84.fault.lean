def Heads (m H : Hp) : Prop := H 33 7 = nI (tx m 1 - 48) ∧ H 33 8 = nI (tx m 2 - 48) ∧ H 33 9 = nI (tx m 3 - 48)
def Res (m : Hp) (L : Nat) (x : Option (Int32 × Hp)) : Prop := ∃ H2, Same m H2 ∧ ((∃ p, p < L ∧ x = some (nI p, H2) ∧ ft p (tx m p) = false ∧ ∀ i, i < p → ft i (tx m i) = true) ∨ (x = some (nI L, H2) ∧ endF L = nI L ∧ ∀ i, i < L → ft i (tx m i) = true) ∨ (x = some (-9, H2) ∧ (∀ i, i < L → ft i (tx m i) = true) ∧ ∃ n, n ≤ 5 ∧ L = 4 + 4 * n ∧ H2 33 10 = nI n ∧ Heads m H2 ∧ ∀ c, c < n → KidAt m H2 c))
theorem gar_loop {m : Hp} {L : Nat} (T : TxO m L) : ∀ (d f c : Nat) (H : Hp), c + d = 5 → 4 + 4 * c ≤ L → Good m L (4 + 4 * c) H → H 33 10 = nI c → Heads m H → (∀ i, i < 4 + 4 * c → ft i (tx m i) = true) → (∀ c2, c2 < c → KidAt m H c2) → Res m L (qX7_readGarden_47 (d + 1 + f) H) := by
  have hL := T.1
  intro d
  induction d with
  | zero =>
    intro f c H hc hcL G h10 hH hgood hk
    obtain ⟨g1, g2, g3, g4⟩ := id G
    have e5 : c = 5 := by omega
    subst e5
    rw [show 0 + 1 + f = f + 1 by omega, qX7_readGarden_47, g2, g4]
    by_cases hE : L = 4 + 4 * 5
    · rw [if_pos (nI_le (by omega) (by omega))]
      exact ⟨H, g1, Or.inr (Or.inr ⟨rfl, by rw [hE]; exact hgood, 5, by omega, hE, h10, hH, hk⟩)⟩
    · have hlt : 4 + 4 * 5 < L := by omega
      obtain ⟨t1, -, t3⟩ := tx_t T hlt
      have e : (if h10' : True then (if nI (tx m (4 + 4 * 5)) = (67 : Int32) then (some (nI (4 + 4 * 5), H) : Option (Int32 × Hp)) else some (nI (4 + 4 * 5), H)) else none) = some (nI (4 + 4 * 5), H) := by rw [dif_pos trivial, ite_self]
      rw [if_neg (nI_ge hlt (by omega)), ck_t (inb_nI (by omega) (by decide)), cl_nI (by omega), g3, t3, h10, if_pos (show nI 5 = (5 : Int32) from rfl), ite_self]
      exact ⟨H, g1, Or.inl ⟨4 + 4 * 5, hlt, rfl, rfl, hgood⟩⟩
  | succ d ih =>
    intro f c H hc hcL G h10 hH hgood hk
    obtain ⟨g1, g2, g3, g4⟩ := id G
    have hc5 : c < 5 := by omega
    rw [show d + 1 + 1 + f = (d + 1 + f) + 1 by omega, qX7_readGarden_47, g2, g4]
    by_cases hE : L = 4 + 4 * c
    · rw [if_pos (nI_le (by omega) (by omega))]
      exact ⟨H, g1, Or.inr (Or.inr ⟨rfl, by rw [hE]; exact hgood, c, by omega, hE, h10, hH, hk⟩)⟩
    · have hlt : 4 + 4 * c < L := by omega
      obtain ⟨t1, -, t3⟩ := tx_t T hlt
      have f0 : ft (4 + 4 * c) (tx m (4 + 4 * c)) = decide (tx m (4 + 4 * c) = 67) := ft_c (r := 0) hc5 (by omega)
      rw [if_neg (nI_ge hlt (by omega)), ck_t (inb_nI (by omega) (by decide)), cl_nI (by omega), g3, t3]
      by_cases h67 : tx m (4 + 4 * c) = 67
      · rw [h67, if_pos (show nI 67 = (67 : Int32) from rfl), h10, if_neg (show ¬ nI c = (5 : Int32) from fun q => absurd ((nI_eq (a := c) (b := 5) (by omega) (by decide)).mp q) (by omega)), nI_1, bd_t]
        have G5 : Good m L (5 + 4 * c) (su H 33 (upd (H 33) 3 (nI (4 + 4 * c + 1)))) := ⟨g1.fld (by decide) _, by rw [su_same, upd_n _ (by decide)]; exact g2, by rw [su_ne (by decide)]; exact g3, by rw [su_same, upd_s, show 4 + 4 * c + 1 = 5 + 4 * c by omega]⟩
        obtain ⟨H2, ⟨e1, ok⟩ | ⟨e1, no⟩⟩ := one_eq T hc5 (by omega) G5 (by rw [su_same, upd_n _ (by decide)]; exact h10)
        · obtain ⟨l8, b1, b2, b3, GG, h10', o7, kc, ko⟩ := ok
          rw [bi2_t e1, if_neg one_ne]
          have o7' : ∀ j, j = 7 ∨ j = 8 ∨ j = 9 → H2 33 j = H 33 j := fun j hj => by rw [o7 j hj, su_same, upd_n _ (by omega)]
          refine ih f (c + 1) H2 (by omega) (by omega) (by rw [show 4 + 4 * (c + 1) = 8 + 4 * c by omega]; exact GG) h10' ⟨by rw [o7' 7 (by omega)]; exact hH.1, by rw [o7' 8 (by omega)]; exact hH.2.1, by rw [o7' 9 (by omega)]; exact hH.2.2⟩ (fun i hi => ?_) (fun c2 hc2 => ?_)
          · by_cases h1 : i < 4 + 4 * c
            · exact hgood i h1
            · rcases (show i = 4 + 4 * c ∨ i = 5 + 4 * c ∨ i = 6 + 4 * c ∨ i = 7 + 4 * c by omega) with rfl | rfl | rfl | rfl
              · rw [f0, decide_eq_true h67]
              · have q := ft_c (c := c) (r := 1) (v := tx m (5 + 4 * c)) hc5 (by omega)
                rw [show 4 + 4 * c + 1 = 5 + 4 * c by omega] at q
                rw [q]; exact b1
              · have q := ft_c (c := c) (r := 2) (v := tx m (6 + 4 * c)) hc5 (by omega)
                rw [show 4 + 4 * c + 2 = 6 + 4 * c by omega] at q
                rw [q]; exact b2
              · have q := ft_c (c := c) (r := 3) (v := tx m (7 + 4 * c)) hc5 (by omega)
                rw [show 4 + 4 * c + 3 = 7 + 4 * c by omega] at q
                rw [q]; exact b3
          · by_cases h1 : c2 = c
            · subst h1; exact kc
            · have k2 := hk c2 (by omega)
              unfold KidAt at *
              rw [ko _ (by omega), ko _ (by omega), ko _ (by omega), su_ne (by decide)]
              exact k2
        · obtain ⟨r, r1, r4, rL, GG, rg, rb⟩ := no
          rw [bi2_t e1, if_pos rfl, GG.2.2.2]
          have good2 : ∀ i, i < 4 + 4 * c + r → ft i (tx m i) = true := fun i hi => by
            by_cases h1 : i < 4 + 4 * c
            · exact hgood i h1
            · by_cases h2 : i = 4 + 4 * c
              · rw [h2, f0, decide_eq_true h67]
              · have q := rg (i - (4 + 4 * c)) (by omega) (by omega)
                rw [show 4 + 4 * c + (i - (4 + 4 * c)) = i by omega] at q
                exact q
          by_cases hr : 4 + 4 * c + r < L
          · exact ⟨H2, GG.1, Or.inl ⟨4 + 4 * c + r, hr, rfl, rb hr, good2⟩⟩
          · have eL : L = 4 + 4 * c + r := by omega
            refine ⟨H2, GG.1, Or.inr (Or.inl ⟨by rw [← eL], ?_, fun i hi => good2 i (by omega)⟩)⟩
            unfold endF
            rw [if_neg (by omega), if_neg (by omega)]
      · rw [if_neg (show ¬ nI (tx m (4 + 4 * c)) = (67 : Int32) from fun q => h67 ((nI_eq (b := 67) (by omega) (by decide)).mp q))]
        exact ⟨H, g1, Or.inl ⟨4 + 4 * c, hlt, rfl, by rw [f0, decide_eq_false h67], hgood⟩⟩
