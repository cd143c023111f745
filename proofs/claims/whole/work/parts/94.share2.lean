def Rq (h M : Hp) : Prop := (∀ j, j ≠ 25 → M 33 j = upd (h 33) 0 0 j) ∧ M 35 = h 35 ∧ M 36 = h 36 ∧ M 38 = h 38
theorem grp_eq {h : Hp} {n N q a th : Nat} (K : KdO h n) (hN : N < 2 ^ 20) (hq : q < 2 ^ n) (h2 : Two n (al n) N (h 0) (h 38) a th noZ) (P0 T0 : Row) : ∃ P1 T1 S, S ≤ 30 ∧ (∀ W, qX6_riddenByGroup (cH h P0 W) (nI q) = some (nI S, cH h P1 W)) ∧ ∀ (M : Hp) (k17 : Hp → Int32 → Int32 → Int32 → Option (Int32 × Hp)) (x y : Int32), Rq h M → M 39 = T0 → ∃ M1, Same M M1 ∧ Rq h M1 ∧ M1 39 = T1 ∧ M1 45 = upd (M 45) q (nI S) ∧ bi1 (qX7_begin M) (fun h28 => bd (su h28 33 (upd (h28 33) 25 (nI q))) (fun h29 => bd (su h29 39 (upd (h29 39) 30 (((h29 39) 30) &&& nI q))) (fun h30 => qX7_share_50 k17 600 h30 x y (nI q) (0 : Int32)))) = k17 M1 x y (nI (q + 1)) := by
  have hn := K.1
  have p32 : 2 ^ n ≤ 2 ^ 5 := Nat.pow_le_pow_right (n := 2) (by decide) hn
  have hq32 : q < 32 := by omega
  have g1 : al n &&& q = q := (grp_0 ⟨n, by omega⟩ ⟨q, hq32⟩ hq).1
  have g2 : ∀ c : Fin 5, q.testBit c.val = true → c.val < n := (grp_0 ⟨n, by omega⟩ ⟨q, hq32⟩ hq).2
  have b2 := begin_2 (P0 := P0) (T0 := T0) hn h2
  have t2 := two_grp hn hq32 b2
  have ha := b2.2.2.1
  generalize hR : upd (upd (h 33) 0 0) 25 (nI q) = R33
  have R4 : R33 4 = nI n := by rw [← hR, upd_n _ (by decide), upd_n _ (by decide)]; exact K.2.2.1
  have X : Cxt n q (h 22) (h 23) R33 (h 35) (h 36) := ⟨hn, R4, by rw [← hR, upd_s], hq32, fun c hc hb => g2 ⟨c, hc⟩ hb, K.2.2.2⟩
  obtain ⟨P1, T1, E, hE, sE, e3, e4⟩ := grp_loop X 6 593 0 N (a &&& q) 0 _ _ _ (by omega) (by omega) t2
  have eb : sm (upd (pst 36 0 (h 38) T0) 30 (nI (a &&& q))) 10 n = sm (h 38) 10 n := sm_cong n (fun j hj => by
    have z := pst_in (k := 36) (o := 0) (S := h 38) (B := T0) (show 10 + j < 36 by omega)
    rw [Nat.zero_add] at z
    rw [upd_n _ (by omega), z])
  refine ⟨P1, T1, E, by omega, fun W => ?_, fun M k17 x y hM h39 => ?_⟩
  · have lo : qX2_leaveOnly (cpy (h 0) P0) (nI q) = some (lv q 5 0 a (upd (cpy (h 0) P0) 36 (nI q))).2 := by
      unfold qX2_leaveOnly
      rw [bd_t, b2.2.1, and_nI (al_lt hn) hq32, g1, bi1_t (leave_C hq32 ha (by rw [upd_n _ (by decide)]; exact b2.2.2.2.1))]
    have w := e3 W
    rw [Nat.zero_add] at w
    unfold qX6_riddenByGroup
    rw [cH_n (show (0 : Nat) ≠ 1 by decide) (by decide), cH_1r, bi1_t (copy_C _ _), bd_t, cH_s1, cH_1r, bi1_t lo, bd_t, cH_s1]
    exact w
  · have M4 : M 33 4 = nI n := by rw [hM.1 4 (by decide), upd_n _ (by decide)]; exact K.2.2.1
    have B30 : pst 36 0 (h 38) T0 30 = nI a := by rw [← b2.1.1 30 (by omega) (by omega)]; exact b2.2.2.2.1
    have A33 : upd (upd (M 33) 25 (nI (al n))) 25 (nI q) = R33 := by
      rw [← hR]
      funext j
      by_cases e : j = 25
      · rw [e, upd_s, upd_s]
      · rw [upd_n _ e, upd_n _ e, upd_n _ e]
        exact hM.1 j e
    generalize hMM : su (su (su (su M 33 (upd (M 33) 25 (nI (al n)))) 39 (pst 36 0 (h 38) T0)) 33 R33) 39 (upd (pst 36 0 (h 38) T0) 30 (nI (a &&& q))) = MM
    have m33 : MM 33 = R33 := by rw [← hMM, su_ne (by decide), su_same]
    have m39 : MM 39 = upd (pst 36 0 (h 38) T0) 30 (nI (a &&& q)) := by rw [← hMM, su_same]
    have mo : ∀ r, r ≠ 33 → r ≠ 39 → MM r = M r := fun r r1 r2 => by rw [← hMM, su_ne r2, su_ne r1, su_ne r2, su_ne r1]
    have f : ∀ j, j ≠ 25 → MM 33 j = M 33 j := fun j hj => by
      rw [m33, ← hR, upd_n _ hj]
      exact (hM.1 j hj).symm
    have SM : Same M MM := ⟨fun r _ _ h3 _ h5 _ => mo r h3 h5, f 2 (by decide), f 4 (by decide), f 15 (by decide), f 18 (by decide)⟩
    have st := e4 MM k17 x y (nI q) 593 m33 (by rw [mo 35 (by decide) (by decide)]; exact hM.2.1) (by rw [mo 36 (by decide) (by decide)]; exact hM.2.2.1) m39
    have k33 : su MM 39 T1 33 = R33 := by rw [su_ne (by decide)]; exact m33
    have k38 : su MM 39 T1 38 = h 38 := by rw [su_ne (by decide), mo 38 (by decide) (by decide)]; exact hM.2.2.2
    have k39 : su MM 39 T1 39 = T1 := su_same _ _ _
    have k45 : su MM 39 T1 45 = M 45 := by rw [su_ne (by decide), mo 45 (by decide) (by decide)]
    have d0 : sm (h 38) 10 n + nI E - sm (h 38) 10 n = nI E := by rw [Int32.add_comm, Int32.add_sub_cancel]
    refine ⟨su (su MM 39 T1) 45 (upd (M 45) q (nI E)), (SM.row (r := 39) (by decide) T1).row (r := 45) (by decide) _, ⟨fun j hj => ?_, ?_, ?_, ?_⟩, ?_, su_same _ _ _, ?_⟩
    · rw [su_ne (by decide), su_ne (by decide), f j hj]
      exact hM.1 j hj
    · rw [su_ne (by decide), su_ne (by decide), mo 35 (by decide) (by decide)]
      exact hM.2.1
    · rw [su_ne (by decide), su_ne (by decide), mo 36 (by decide) (by decide)]
      exact hM.2.2.1
    · rw [su_ne (by decide)]
      exact k38
    · rw [su_ne (by decide)]
      exact k39
    · rw [bi1_t (begin_R hn M4), hM.2.2.2, h39, bd_t, su_ne (show (33 : Nat) ≠ 39 by decide), su_same, A33, bd_t, su_ne (show (39 : Nat) ≠ 33 by decide), su_same, B30, and_nI ha hq32, hMM]
      refine Eq.trans st ?_
      rw [qX7_share_50, if_pos (show (6 : Int32) ≤ nI 6 by decide), k33, k39, bi1_t (show qX7_sumOf R33 T1 10 = _ from sum_RR (b := 10) (by omega) hn R4), k38, bi1_t (show qX7_sumOf R33 (h 38) 10 = _ from sum_RR (b := 10) (by omega) hn R4), ck_t (inb_nI hq32 (by decide)), cl_nI (by omega), k45, sE, eb, d0, bd_t, nI_1]
def Tab (q : Nat) (W V : Row) : Prop := ∀ j, j < q → ∃ v, v ≤ 30 ∧ W j = nI v ∧ V j = nI v
theorem Tab.step {q S : Nat} {W V : Row} (T : Tab q W V) (hS : S ≤ 30) : Tab (q + 1) (upd W q (nI S)) (upd V q (nI S)) := by
  intro j hj
  by_cases e : j = q
  · subst e
    exact ⟨S, hS, upd_s _ _ _, upd_s _ _ _⟩
  · rw [upd_n _ e, upd_n _ e]
    exact T j (by omega)
theorem sha_loop {h : Hp} {n N a th : Nat} {x y : Int32} (K : KdO h n) (hN : N < 2 ^ 20) (h2 : Two n (al n) N (h 0) (h 38) a th noZ) : ∀ (d f f2 q : Nat) (P0 W T0 V : Row), q + d = 2 ^ n → Tab q W V → ∃ P1 W1 V1, Tab (2 ^ n) W1 V1 ∧ qX6_share_26 (d + 1 + f) (cH h P0 W) x y (nI (2 ^ n)) (nI q) = qX6_share_57 600 (cH h P1 W1) x y (nI (2 ^ n)) 0 0 ∧ ∀ M, Rq h M → M 39 = T0 → M 45 = V → ∃ M1, Same M M1 ∧ Rq h M1 ∧ M1 45 = V1 ∧ qX7_share_17 (d + 1 + f2) M x y (nI q) = qX7_share_109 600 M1 x y 0 0 := by
  have hn := K.1
  have p32 : 2 ^ n ≤ 2 ^ 5 := Nat.pow_le_pow_right (n := 2) (by decide) hn
  have sh : (1 : Int32) <<< (nI n &&& 31) = nI (2 ^ n) := shl_0 ⟨n, by omega⟩
  have m4 : ∀ M, Rq h M → M 33 4 = nI n := fun M hM => by rw [hM.1 4 (by decide), upd_n _ (by decide)]; exact K.2.2.1
  generalize hG : 2 ^ n = G at *
  intro d
  induction d with
  | zero =>
    intro f f2 q P0 W T0 V hqd hT
    have e : q = G := by omega
    subst e
    refine ⟨P0, W, V, hT, ?_, fun M hM h39 hV => ⟨M, Same.rf M, hM, hV, ?_⟩⟩
    · rw [show 0 + 1 + f = f + 1 by omega, qX6_share_26, if_pos (nI_le (Nat.le_refl q) (by omega))]
    · rw [show 0 + 1 + f2 = f2 + 1 by omega, qX7_share_17, m4 M hM, sh, if_pos (nI_le (Nat.le_refl q) (by omega))]
  | succ d ih =>
    intro f f2 q P0 W T0 V hqd hT
    have nl : ¬ nI G ≤ nI q := nI_ge (by omega) (by omega)
    obtain ⟨P2, T2, S, hS, e1, e2⟩ := grp_eq (q := q) K hN (by rw [hG]; omega) h2 P0 T0
    obtain ⟨P1, W1, V1, hT1, e3, e4⟩ := ih f f2 (q + 1) P2 (upd W q (nI S)) T2 (upd V q (nI S)) (by omega) (hT.step hS)
    refine ⟨P1, W1, V1, hT1, ?_, fun M hM h39 hV => ?_⟩
    · rw [show d + 1 + 1 + f = (d + 1 + f) + 1 by omega, qX6_share_26, if_neg nl, bi2_t (e1 W), ck_t (inb_nI (show q < 32 by omega) (by decide)), cH_32r, cH_s32, bd_t, cl_nI (by omega), nI_1]
      exact e3
    · obtain ⟨M2, S2, R2, m39, m45, eq2⟩ := e2 M (qX7_share_17 (d + 1 + f2)) x y hM h39
      obtain ⟨M1, S1, R1, m45b, eq1⟩ := e4 M2 R2 m39 (by rw [m45, hV])
      refine ⟨M1, S2.tr S1, R1, m45b, ?_⟩
      rw [show d + 1 + 1 + f2 = (d + 1 + f2) + 1 by omega, qX7_share_17, m4 M hM, sh, if_neg nl]
      exact eq2.trans eq1
