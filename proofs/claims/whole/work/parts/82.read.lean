theorem Good.fld2 {m H : Hp} {L p j : Nat} (G : Good m L p H) (hj : j ≠ 2 ∧ j ≠ 4 ∧ j ≠ 15 ∧ j ≠ 18) (h3 : j ≠ 3) (x : Int32) : Good m L p (su H 33 (upd (H 33) j x)) := ⟨G.1.fld hj x, by rw [su_same, upd_n _ (by omega)]; exact G.2.1, by rw [su_ne (by decide)]; exact G.2.2.1, by rw [su_same, upd_n _ (by omega)]; exact G.2.2.2⟩
theorem fv {lo hi v : Nat} (h : inF lo hi v = true) (hh : hi ≤ 9) : lo ≤ v - 48 ∧ v - 48 ≤ hi ∧ nI v - (48 : Int32) = nI (v - 48) ∧ ¬ nI (v - 48) = -9 := by
  unfold inF at h
  rw [Bool.and_eq_true, decide_eq_true_eq, decide_eq_true_eq] at h
  exact ⟨by omega, by omega, pk_sub (a := v) (b := 48) (by omega), ne9 (by omega)⟩
theorem head_56 {m H : Hp} {L p : Nat} {x : Int32} (G : Good m L p H) (b : Bool) (hx : x = -9 ↔ b = false) : qX7_readHead_56 H x = some (fI b, su H 33 (upd (H 33) 9 x)) := by
  unfold qX7_readHead_56
  rw [bd_t, su_same, upd_s]
  cases b with
  | false => rw [if_pos (hx.mpr rfl)]; rfl
  | true => rw [if_neg (fun q => Bool.noConfusion (hx.mp q))]; rfl
/-- where the head ends -/
def HeadOk (m : Hp) (L : Nat) (H H2 : Hp) : Prop := 4 ≤ L ∧ inF 0 3 (tx m 1) = true ∧ inF 1 9 (tx m 2) = true ∧ inF 1 2 (tx m 3) = true ∧ Good m L 4 H2 ∧ H2 33 7 = nI (tx m 1 - 48) ∧ H2 33 8 = nI (tx m 2 - 48) ∧ H2 33 9 = nI (tx m 3 - 48) ∧ H2 33 10 = H 33 10 ∧ H2 37 = H 37
def HeadNo (m : Hp) (L : Nat) (H2 : Hp) : Prop := ∃ p, 1 ≤ p ∧ p ≤ 3 ∧ p ≤ L ∧ Good m L p H2 ∧ (∀ i, 1 ≤ i → i < p → ft i (tx m i) = true) ∧ (p < L → ft p (tx m p) = false)
theorem head_eq {m H : Hp} {L : Nat} (T : TxO m L) (hL1 : 1 ≤ L) (G : Good m L 1 H) : ∃ H2, (qX7_readHead H = some (1, H2) ∧ HeadOk m L H H2) ∨ (qX7_readHead H = some (0, H2) ∧ HeadNo m L H2) := by
  have f1 : ∀ v, ft 1 v = inF 0 3 v := fun v => rfl
  have f2 : ∀ v, ft 2 v = inF 1 9 v := fun v => rfl
  have f3 : ∀ v, ft 3 v = inF 1 2 v := fun v => rfl
  rcases fig_eq (lo := 0) (hi := 3) T hL1 G (Or.inl ⟨rfl, rfl⟩) with ⟨l1, a1, H1, e1, G1, o1, q1⟩ | ⟨n1, e1⟩
  · obtain ⟨-, -, v1, z1⟩ := fv a1 (by omega)
    rw [v1] at e1
    have G1' := G1.fld2 (j := 7) (by decide) (by decide) (nI (tx m 1 - 48))
    rcases fig_eq (lo := 1) (hi := 9) T (show 2 ≤ L by omega) G1' (Or.inr (Or.inl ⟨rfl, rfl⟩)) with ⟨l2, a2, H2, e2, G2, o2, q2⟩ | ⟨n2, e2⟩
    · obtain ⟨-, -, v2, z2⟩ := fv a2 (by omega)
      rw [v2] at e2
      have G2' := G2.fld2 (j := 8) (by decide) (by decide) (nI (tx m 2 - 48))
      rcases fig_eq (lo := 1) (hi := 2) T (show 3 ≤ L by omega) G2' (Or.inr (Or.inr (Or.inl ⟨rfl, rfl⟩))) with ⟨l3, a3, H3, e3, G3, o3, q3⟩ | ⟨n3, e3⟩
      · obtain ⟨-, -, v3, z3⟩ := fv a3 (by omega)
        rw [v3] at e3
        have G3' := G3.fld2 (j := 9) (by decide) (by decide) (nI (tx m 3 - 48))
        refine ⟨su H3 33 (upd (H3 33) 9 (nI (tx m 3 - 48))), Or.inl ⟨?_, by omega, a1, a2, a3, G3', ?_, ?_, by rw [su_same, upd_s], ?_, ?_⟩⟩
        · unfold qX7_readHead
          rw [show (0 : Int32) = nI 0 from rfl, show (3 : Int32) = nI 3 from rfl, bi2_t e1, bd_t, su_same, upd_s, if_neg z1, show (1 : Int32) = nI 1 from rfl, show (9 : Int32) = nI 9 from rfl, bi2_t e2]
          unfold qX7_readHead_32
          rw [bd_t, su_same, upd_s, if_neg z2, show (1 : Int32) = nI 1 from rfl, show (2 : Int32) = nI 2 from rfl, bi2_t e3, head_56 G3 true ⟨fun q => absurd q z3, fun q => Bool.noConfusion q⟩]
          rfl
        · rw [su_same, upd_n _ (by decide), o3 7 (by decide), su_same, upd_n _ (by decide), o2 7 (by decide), su_same, upd_s]
        · rw [su_same, upd_n _ (by decide), o3 8 (by decide), su_same, upd_s]
        · rw [su_same, upd_n _ (by decide), o3 10 (by decide), su_same, upd_n _ (by decide), o2 10 (by decide), su_same, upd_n _ (by decide), o1 10 (by decide)]
        · rw [su_ne (by decide), q3, su_ne (by decide), q2, su_ne (by decide), q1]
      · refine ⟨su (su H2 33 (upd (H2 33) 8 (nI (tx m 2 - 48)))) 33 (upd (su H2 33 (upd (H2 33) 8 (nI (tx m 2 - 48))) 33) 9 (-9)), Or.inr ⟨?_, 3, by omega, by omega, by omega, G2'.fld2 (by decide) (by decide) _, fun i h1 h2 => ?_, fun q => by rw [f3]; exact n3 q⟩⟩
        · unfold qX7_readHead
          rw [show (0 : Int32) = nI 0 from rfl, show (3 : Int32) = nI 3 from rfl, bi2_t e1, bd_t, su_same, upd_s, if_neg z1, show (1 : Int32) = nI 1 from rfl, show (9 : Int32) = nI 9 from rfl, bi2_t e2]
          unfold qX7_readHead_32
          rw [bd_t, su_same, upd_s, if_neg z2, show (1 : Int32) = nI 1 from rfl, show (2 : Int32) = nI 2 from rfl, bi2_t e3, head_56 G2' false ⟨fun _ => rfl, fun _ => rfl⟩, su_same]
          rfl
        · rcases (show i = 1 ∨ i = 2 by omega) with rfl | rfl
          · rw [f1]; exact a1
          · rw [f2]; exact a2
    · refine ⟨_, Or.inr ⟨?_, 2, by omega, by omega, by omega, (G1'.fld2 (j := 8) (by decide) (by decide) (-9)).fld2 (j := 9) (by decide) (by decide) (-9), fun i h1 h2 => ?_, fun q => by rw [f2]; exact n2 q⟩⟩
      · unfold qX7_readHead
        rw [show (0 : Int32) = nI 0 from rfl, show (3 : Int32) = nI 3 from rfl, bi2_t e1, bd_t, su_same, upd_s, if_neg z1, show (1 : Int32) = nI 1 from rfl, show (9 : Int32) = nI 9 from rfl, bi2_t e2]
        unfold qX7_readHead_32
        rw [bd_t, su_same, upd_s, if_pos rfl, head_56 (G1'.fld2 (j := 8) (by decide) (by decide) (-9)) false ⟨fun _ => rfl, fun _ => rfl⟩]
        rfl
      · rw [show i = 1 by omega, f1]; exact a1
  · refine ⟨_, Or.inr ⟨?_, 1, by omega, by omega, by omega, ((G.fld2 (j := 7) (by decide) (by decide) (-9)).fld2 (j := 8) (by decide) (by decide) (-9)).fld2 (j := 9) (by decide) (by decide) (-9), fun i h1 h2 => absurd h2 (by omega), fun q => by rw [f1]; exact n1 q⟩⟩
    unfold qX7_readHead
    rw [show (0 : Int32) = nI 0 from rfl, show (3 : Int32) = nI 3 from rfl, bi2_t e1, bd_t, su_same, upd_s, if_pos rfl]
    unfold qX7_readHead_32
    rw [bd_t, su_same, upd_s, if_pos rfl, head_56 ((G.fld2 (j := 7) (by decide) (by decide) (-9)).fld2 (j := 8) (by decide) (by decide) (-9)) false ⟨fun _ => rfl, fun _ => rfl⟩]
    rfl
