theorem all_eq {h : Hp} {n s N a th r : Nat} (K : KdO h n) (hE : SeO h s) (hN : N < 2 ^ 29) (hr : r < 4) (h2 : Two n (al n) N (h 0) (h 38) a th noZ) (P0 T0 : Row) : ∃ v P1 T1, (v = 0 ∨ v = 1) ∧ qX6_allSeenIsSoBy (su h 1 P0) (nI r) = some (v, su h 1 P1) ∧ ∀ m, Rk h m → m 43 = h 43 → m 44 = h 44 → (m 39 = T0 → qX7_isSeen m (nI r) = some (v, sc m h n T1)) ∧ qX7_isSeen (sc m h n T0) (nI r) = some (v, sc m h n T1) := by
  have hn := K.1
  obtain ⟨v, P1, T1, hv, e1, e2⟩ := all_loop K hE 20 579 579 1 N a th _ _ (by omega) (by omega) ((begin_2 (P0 := P0) (T0 := T0) hn h2).rul hn hr)
  refine ⟨v, P1, T1, hv, ?_, fun m hm h43 h44 => ⟨fun h39 => ?_, ?_⟩⟩
  · unfold qX6_allSeenIsSoBy qX2_setRule
    rw [su_ne (show (0 : Nat) ≠ 1 by decide), su_same, bi1_t (copy_C _ _), bd_t, su_same, su_ne (show (0 : Nat) ≠ 1 by decide), su_ne (show (0 : Nat) ≠ 1 by decide), bd_t, bd_t, bi1_t rfl, bd_t]
    have e33 : upd (upd (cpy (h 0) P0) 32 (nI r)) 33 (h 0 33) = upd (cpy (h 0) P0) 32 (nI r) := by
      have q := upd_i (upd (cpy (h 0) P0) 32 (nI r)) 33
      rw [upd_n _ (by decide)] at q
      exact q
    rw [e33, su_su, su_su, show (600 : Nat) = 20 + 1 + 579 from rfl, show (1 : Int32) = nI 1 from rfl]
    exact e1
  · unfold qX7_isSeen
    rw [bi1_t (begin_m K hm), h39, bd_t, sc_39, sc_su, show (600 : Nat) = 20 + 1 + 579 from rfl]
    exact e2 m hm h43 h44
  · unfold qX7_isSeen
    rw [bi1_t (begin_s K hm T0), bd_t, sc_39, sc_su, show (600 : Nat) = 20 + 1 + 579 from rfl]
    exact e2 m hm h43 h44
theorem may_loop {h : Hp} {n s N a th : Nat} (K : KdO h n) (hE : SeO h s) (hN : N < 2 ^ 29) (h2 : Two n (al n) N (h 0) (h 38) a th noZ) : ∀ (d f f2 i w : Nat) (P0 T0 : Row), i + d = 4 → w < 32 → ∃ v P1 T1, qX6_may_4 (d + 1 + f) (su h 1 P0) (nI w) (nI i) = some (v, su h 1 P1) ∧ ∀ m, Rk h m → m 43 = h 43 → m 44 = h 44 → qX7_may_9 (d + 1 + f2) (sc m h n T0) (nI w) (nI i) = some (v, sc m h n T1) ∧ (d ≠ 0 → m 39 = T0 → qX7_may_9 (d + 1 + f2) m (nI w) (nI i) = some (v, sc m h n T1)) := by
  intro d
  induction d with
  | zero =>
    intro f f2 i w P0 T0 hi hw
    have l : (4 : Int32) ≤ nI i := nI_le (a := 4) (b := i) (by omega) (by omega)
    refine ⟨nI w, P0, T0, ?_, fun m hm _ _ => ⟨?_, fun q => absurd rfl q⟩⟩
    · rw [show 0 + 1 + f = f + 1 by omega, qX6_may_4, if_pos l]
    · rw [show 0 + 1 + f2 = f2 + 1 by omega, qX7_may_9, if_pos l]
  | succ d ih =>
    intro f f2 i w P0 T0 hi hw
    have l : ¬ (4 : Int32) ≤ nI i := nI_ge (a := i) (b := 4) (by omega) (by omega)
    obtain ⟨v, P1, T1, hv, e1, e2⟩ := all_eq (r := i) K hE hN (by omega) h2 P0 T0
    rcases hv with rfl | rfl
    · obtain ⟨v, P2, T2, e3, e4⟩ := ih f f2 (i + 1) w P1 T1 (by omega) hw
      refine ⟨v, P2, T2, ?_, fun m hm h43 h44 => ⟨?_, fun _ h39 => ?_⟩⟩
      · rw [show d + 1 + 1 + f = (d + 1 + f) + 1 by omega, qX6_may_4, if_neg l, bi2_t e1, if_pos rfl]
        unfold qX6_may_23
        rw [nI_1]
        exact e3
      · rw [show d + 1 + 1 + f2 = (d + 1 + f2) + 1 by omega, qX7_may_9, if_neg l, bi2_t (e2 m hm h43 h44).2, if_pos rfl]
        unfold qX7_may_30
        rw [or_z hw, nI_1]
        exact (e4 m hm h43 h44).1
      · rw [show d + 1 + 1 + f2 = (d + 1 + f2) + 1 by omega, qX7_may_9, if_neg l, bi2_t ((e2 m hm h43 h44).1 h39), if_pos rfl]
        unfold qX7_may_30
        rw [or_z hw, nI_1]
        exact (e4 m hm h43 h44).1
    · obtain ⟨v, P2, T2, e3, e4⟩ := ih f f2 (i + 1) (stb w i) P1 T1 (by omega) (stb_lt hw (by omega))
      refine ⟨v, P2, T2, ?_, fun m hm h43 h44 => ⟨?_, fun _ h39 => ?_⟩⟩
      · rw [show d + 1 + 1 + f = (d + 1 + f) + 1 by omega, qX6_may_4, if_neg l, bi2_t e1, if_neg one_ne]
        unfold qX6_may_23
        rw [on_b hw (by omega), nI_1]
        exact e3
      · rw [show d + 1 + 1 + f2 = (d + 1 + f2) + 1 by omega, qX7_may_9, if_neg l, bi2_t (e2 m hm h43 h44).2, if_neg one_ne]
        unfold qX7_may_30
        rw [on_b hw (by omega), nI_1]
        exact (e4 m hm h43 h44).1
      · rw [show d + 1 + 1 + f2 = (d + 1 + f2) + 1 by omega, qX7_may_9, if_neg l, bi2_t ((e2 m hm h43 h44).1 h39), if_neg one_ne]
        unfold qX7_may_30
        rw [on_b hw (by omega), nI_1]
        exact (e4 m hm h43 h44).1
theorem op_may {N : Nat} {h : Hp} {g : Gp} (hN : N < 2 ^ 20) (R : Rel N h g) : Op N g (qX6_may h) (fun h => qX7_may h) := by
  have R0 := R
  obtain ⟨L, n, k, e, s, hT, hK, hP, hA, hS, hE, hg⟩ := R
  obtain ⟨a, th, hP2⟩ := hP
  obtain ⟨v, P1, T1, e3, e4⟩ := may_loop hK hE (by omega) hP2 4 595 595 0 0 (h 1) (h 39) (by omega) (by omega)
  rw [su_self] at e3
  have hm := rk_th0 h P1
  refine ⟨v, su h 1 P1, sc (th0 (su h 1 P1)) h n T1, ?_, ?_, sc_rel R0 P1 T1⟩
  · unfold qX6_may
    rw [show (600 : Nat) = 4 + 1 + 595 from rfl, show (0 : Int32) = nI 0 from rfl]
    exact e3
  · show bd (th0 (su h 1 P1)) _ = _
    rw [bd_t, show (600 : Nat) = 4 + 1 + 595 from rfl, show (0 : Int32) = nI 0 from rfl]
    exact (e4 _ hm (by rw [th0_n (by decide), su_ne (by decide)]) (by rw [th0_n (by decide), su_ne (by decide)])).2 (by decide) (by rw [th0_n (by decide), su_ne (by decide)])
