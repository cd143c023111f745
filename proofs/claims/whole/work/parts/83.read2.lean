theorem ft_c {c r v : Nat} (hc : c < 5) (hr : r < 4) : ft (4 + 4 * c + r) v = ftC r v := by
  unfold ft
  rw [if_neg (by omega), if_neg (by omega), if_neg (by omega), if_neg (by omega), if_neg (by omega), show (4 + 4 * c + r - 4) % 4 = r by omega]
def KidAt (m H : Hp) (c : Nat) : Prop := H 37 (3 * c) = nI (tx m (5 + 4 * c) - 48) ∧ H 37 (3 * c + 1) = nI (tx m (6 + 4 * c) - 48) ∧ H 37 (3 * c + 2) = nI (tx m (7 + 4 * c) - 48)
def OneOk (m : Hp) (L c : Nat) (H H2 : Hp) : Prop := 8 + 4 * c ≤ L ∧ inF 0 9 (tx m (5 + 4 * c)) = true ∧ inF 1 9 (tx m (6 + 4 * c)) = true ∧ inF 0 3 (tx m (7 + 4 * c)) = true ∧ Good m L (8 + 4 * c) H2 ∧ H2 33 10 = nI (c + 1) ∧ (∀ j, j = 7 ∨ j = 8 ∨ j = 9 → H2 33 j = H 33 j) ∧ KidAt m H2 c ∧ ∀ j, j < 3 * c → H2 37 j = H 37 j
def OneNo (m : Hp) (L c : Nat) (H2 : Hp) : Prop := ∃ r, 1 ≤ r ∧ r < 4 ∧ 4 + 4 * c + r ≤ L ∧ Good m L (4 + 4 * c + r) H2 ∧ (∀ i, 1 ≤ i → i < r → ft (4 + 4 * c + i) (tx m (4 + 4 * c + i)) = true) ∧ (4 + 4 * c + r < L → ft (4 + 4 * c + r) (tx m (4 + 4 * c + r)) = false)
theorem one_eq {m H : Hp} {L c : Nat} (T : TxO m L) (hc : c < 5) (hp : 5 + 4 * c ≤ L) (G : Good m L (5 + 4 * c) H) (h10 : H 33 10 = nI c) : ∃ H2, (qX7_readOne H = some (1, H2) ∧ OneOk m L c H H2) ∨ (qX7_readOne H = some (0, H2) ∧ OneNo m L c H2) := by
  have f1 : ∀ v, ft (4 + 4 * c + 1) v = inF 0 9 v := fun v => by rw [ft_c hc (by omega)]; rfl
  have f2 : ∀ v, ft (4 + 4 * c + 2) v = inF 1 9 v := fun v => by rw [ft_c hc (by omega)]; rfl
  have f3 : ∀ v, ft (4 + 4 * c + 3) v = inF 0 3 v := fun v => by rw [ft_c hc (by omega)]; rfl
  have p1 : 5 + 4 * c = 4 + 4 * c + 1 := by omega
  have p2 : 6 + 4 * c = 4 + 4 * c + 2 := by omega
  have p3 : 7 + 4 * c = 4 + 4 * c + 3 := by omega
  rcases fig_eq (lo := 0) (hi := 9) T hp G (Or.inr (Or.inr (Or.inr ⟨rfl, rfl⟩))) with ⟨l1, a1, H1, e1, G1, o1, q1⟩ | ⟨n1, e1⟩
  · obtain ⟨-, -, v1, z1⟩ := fv a1 (by omega)
    rw [v1] at e1
    rw [show 5 + 4 * c + 1 = 6 + 4 * c by omega] at G1
    rcases fig_eq (lo := 1) (hi := 9) T (show 6 + 4 * c ≤ L by omega) G1 (Or.inr (Or.inl ⟨rfl, rfl⟩)) with ⟨l2, a2, H2, e2, G2, o2, q2⟩ | ⟨n2, e2⟩
    · obtain ⟨-, -, v2, z2⟩ := fv a2 (by omega)
      rw [v2] at e2
      rw [show 6 + 4 * c + 1 = 7 + 4 * c by omega] at G2
      rcases fig_eq (lo := 0) (hi := 3) T (show 7 + 4 * c ≤ L by omega) G2 (Or.inl ⟨rfl, rfl⟩) with ⟨l3, a3, H3, e3, G3, o3, q3⟩ | ⟨n3, e3⟩
      · obtain ⟨-, -, v3, z3⟩ := fv a3 (by omega)
        rw [v3] at e3
        rw [show 7 + 4 * c + 1 = 8 + 4 * c by omega] at G3
        have h10' : H3 33 10 = nI c := by rw [o3 10 (by decide), o2 10 (by decide), o1 10 (by decide)]; exact h10
        have m0 : (3 : Int32) * nI c = nI (3 * c) := pk_mul 3 c
        have m1 : nI (3 * c) + (1 : Int32) = nI (3 * c + 1) := nI_add _ 1
        have m2 : nI (3 * c) + (2 : Int32) = nI (3 * c + 2) := nI_add _ 2
        generalize hB : upd (upd (upd (H3 37) (3 * c) (nI (tx m (5 + 4 * c) - 48))) (3 * c + 1) (nI (tx m (6 + 4 * c) - 48))) (3 * c + 2) (nI (tx m (7 + 4 * c) - 48)) = B
        have GB : Good m L (8 + 4 * c) (su H3 37 B) := ⟨G3.1.row (by decide) B, by rw [su_ne (by decide)]; exact G3.2.1, by rw [su_ne (by decide)]; exact G3.2.2.1, by rw [su_ne (by decide)]; exact G3.2.2.2⟩
        refine ⟨su (su H3 37 B) 33 (upd (su H3 37 B 33) 10 (nI (c + 1))), Or.inl ⟨?_, by omega, a1, a2, a3, GB.fld2 (by decide) (by decide) _, by rw [su_same, upd_s], fun j hj => ?_, ⟨?_, ?_, ?_⟩, fun j hj => ?_⟩⟩
        · unfold qX7_readOne
          rw [bi2_t (show qX7_figure H 0 9 = _ from e1), if_neg z1, bi2_t (show qX7_figure H1 1 9 = _ from e2)]
          unfold qX7_readOne_26
          rw [if_neg z2, bi2_t (show qX7_figure H2 0 3 = _ from e3)]
          unfold qX7_readOne_44
          rw [if_neg z3, h10', m0, ck_t (inb_nI (show 3 * c < 15 by omega) (by decide)), cl_nI (by omega), bd_t, su_ne (show (33 : Nat) ≠ 37 by decide), h10', m0, m1, ck_t (inb_nI (show 3 * c + 1 < 15 by omega) (by decide)), cl_nI (by omega), su_same, su_su, bd_t, su_ne (show (33 : Nat) ≠ 37 by decide), h10', m0, m2, ck_t (inb_nI (show 3 * c + 2 < 15 by omega) (by decide)), cl_nI (by omega), su_same, su_su, hB, bd_t, su_ne (show (33 : Nat) ≠ 37 by decide), h10', nI_1, bd_t]
        · rw [su_same, upd_n _ (by omega), su_ne (by decide), o3 j (by omega), o2 j (by omega), o1 j (by omega)]
        · rw [su_ne (by decide), su_same, ← hB, upd_n _ (by omega), upd_n _ (by omega), upd_s]
        · rw [su_ne (by decide), su_same, ← hB, upd_n _ (by omega), upd_s]
        · rw [su_ne (by decide), su_same, ← hB, upd_s]
        · rw [su_ne (by decide), su_same, ← hB, upd_n _ (by omega), upd_n _ (by omega), upd_n _ (by omega), q3, q2, q1]
      · refine ⟨H2, Or.inr ⟨?_, 3, by omega, by omega, by omega, by rw [← p3]; exact G2, fun i h1 h2 => ?_, fun q => by rw [f3, ← p3]; exact n3 (by omega)⟩⟩
        · unfold qX7_readOne
          rw [bi2_t (show qX7_figure H 0 9 = _ from e1), if_neg z1, bi2_t (show qX7_figure H1 1 9 = _ from e2)]
          unfold qX7_readOne_26
          rw [if_neg z2, bi2_t (show qX7_figure H2 0 3 = _ from e3)]
          unfold qX7_readOne_44
          rw [if_pos rfl]
        · rcases (show i = 1 ∨ i = 2 by omega) with rfl | rfl
          · rw [f1, ← p1]; exact a1
          · rw [f2, ← p2]; exact a2
    · refine ⟨H1, Or.inr ⟨?_, 2, by omega, by omega, by omega, by rw [← p2]; exact G1, fun i h1 h2 => ?_, fun q => by rw [f2, ← p2]; exact n2 (by omega)⟩⟩
      · unfold qX7_readOne
        rw [bi2_t (show qX7_figure H 0 9 = _ from e1), if_neg z1, bi2_t (show qX7_figure H1 1 9 = _ from e2)]
        unfold qX7_readOne_26 qX7_readOne_44
        rw [if_pos rfl, if_pos rfl]
      · rw [show i = 1 by omega, f1, ← p1]; exact a1
  · refine ⟨H, Or.inr ⟨?_, 1, by omega, by omega, by omega, by rw [← p1]; exact G, fun i h1 h2 => absurd h2 (by omega), fun q => by rw [f1, ← p1]; exact n1 (by omega)⟩⟩
    unfold qX7_readOne
    rw [bi2_t (show qX7_figure H 0 9 = _ from e1), if_pos rfl]
    unfold qX7_readOne_26 qX7_readOne_44
    rw [if_pos rfl, if_pos rfl]
