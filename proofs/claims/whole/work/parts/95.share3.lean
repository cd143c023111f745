def fct : Nat → Nat
  | 0 => 1
  | 1 => 1
  | 2 => 2
  | 3 => 6
  | 4 => 24
  | _ => 120
theorem ord_0 : ∀ j : Fin 6, ordR j.val = nI (fct j.val) ∧ qX7_ways (nI j.val) = some (nI (fct j.val)) ∧ fct j.val ≤ 120 ∧ 0 < fct j.val := by decide +kernel
theorem ord_j {j : Nat} (hj : j < 6) : ordR j = nI (fct j) ∧ qX7_ways (nI j) = some (nI (fct j)) ∧ fct j ≤ 120 ∧ 0 < fct j := ord_0 ⟨j, hj⟩
theorem sha_0 : ∀ n : Fin 6, ∀ q : Fin 32, ∀ c : Fin 5, q.val < 2 ^ n.val → c.val < n.val → q.val.testBit c.val = false → pop q.val + 1 ≤ n.val ∧ stb q.val c.val < 2 ^ n.val := by decide +kernel
/-- the sum over all groups -/
theorem sum_loop {h1 M1 : Hp} {n c : Nat} {y : Int32} (hn : n ≤ 5) (hc : c < n) (h21 : h1 21 0 = nI n) (m4 : M1 33 4 = nI n) (T : Tab (2 ^ n) (h1 32) (M1 45)) : ∀ (d f f2 q : Nat) (z : Int32), q + d = 2 ^ n → -((q : Int) * 432000) ≤ z.toInt → z.toInt ≤ (q : Int) * 432000 → ∃ r, qX6_share_57 (d + 1 + f) h1 (nI c) y (nI (2 ^ n)) z (nI q) = some (r, h1) ∧ qX7_share_109 (d + 1 + f2) M1 (nI c) y z (nI q) = some (r, M1) := by
  have p32 : 2 ^ n ≤ 2 ^ 5 := Nat.pow_le_pow_right (n := 2) (by decide) hn
  have sh : (1 : Int32) <<< (nI n &&& 31) = nI (2 ^ n) := shl_0 ⟨n, by omega⟩
  intro d
  induction d with
  | zero =>
    intro f f2 q z hqd z1 z2
    obtain ⟨o1, o2, o3, o4⟩ := ord_j (j := n) (by omega)
    have l : nI (2 ^ n) ≤ nI q := nI_le (by omega) (by omega)
    obtain ⟨v, v1, v2⟩ := frac_eq (x := z) (z := y) (y := fct n) (by omega) (by omega) o4
    refine ⟨v, ?_, ?_⟩
    · rw [show 0 + 1 + f = f + 1 by omega, qX6_share_57, if_pos l, h21, ck_t (inb_nI (show n < 6 by omega) (by decide)), cl_nI (by omega), o1, bi1_t v1]
    · rw [show 0 + 1 + f2 = f2 + 1 by omega, qX7_share_109, m4, sh, if_pos l, bi1_t o2, bi1_t v2]
  | succ d ih =>
    intro f f2 q z hqd z1 z2
    have hq32 : q < 32 := by omega
    have l : ¬ nI (2 ^ n) ≤ nI q := nI_ge (by omega) (by omega)
    by_cases hb : q.testBit c = true
    · obtain ⟨r, e1, e2⟩ := ih f f2 (q + 1) z (by omega) (by omega) (by omega)
      refine ⟨r, ?_, ?_⟩
      · rw [show d + 1 + 1 + f = (d + 1 + f) + 1 by omega, qX6_share_57, if_neg l, bhC hq32 (by omega), if_pos hb, if_neg one_ne]
        unfold qX6_share_131
        rw [nI_1]
        exact e1
      · rw [show d + 1 + 1 + f2 = (d + 1 + f2) + 1 by omega, qX7_share_109, m4, sh, if_neg l, bhR hq32 (by omega), if_pos hb, if_neg one_ne]
        unfold qX7_share_177
        rw [nI_1]
        exact e2
    · rw [Bool.not_eq_true] at hb
      obtain ⟨s1, s2⟩ : pop q + 1 ≤ n ∧ stb q c < 2 ^ n := sha_0 ⟨n, by omega⟩ ⟨q, hq32⟩ ⟨c, by omega⟩ (show q < 2 ^ n by omega) hc hb
      obtain ⟨u, hu, wu, vu⟩ := T (stb q c) s2
      obtain ⟨v, hv, wv, vv⟩ := T q (by omega)
      obtain ⟨o1, o2, o3, -⟩ := ord_j (j := pop q) (by omega)
      obtain ⟨r1, r2, r3, -⟩ := ord_j (j := n - 1 - pop q) (by omega)
      have en : nI n - (1 : Int32) - nI (pop q) = nI (n - 1 - pop q) := by rw [show nI n - (1 : Int32) = nI (n - 1) from pk_sub (a := n) (b := 1) (by omega), pk_sub (by omega)]
      have wle : fct (pop q) * fct (n - 1 - pop q) ≤ 120 * 120 := Nat.mul_le_mul o3 r3
      generalize hw : fct (pop q) * fct (n - 1 - pop q) = w at wle
      have eA : nI w * (nI u - nI v) = nI (w * u) - nI (w * v) := by rw [Int32.mul_sub, pk_mul, pk_mul]
      have bu : w * u ≤ 120 * 120 * 30 := Nat.mul_le_mul wle hu
      have bv : w * v ≤ 120 * 120 * 30 := Nat.mul_le_mul wle hv
      generalize w * u = A at eA bu
      generalize w * v = B at eA bv
      have tz : (z + (nI A - nI B)).toInt = z.toInt + ((A : Int) - B) := by rw [Int32.toInt_add, pk_sub_toInt (by omega) (by omega), Int.bmod_eq_of_le_mul_two (by omega) (by omega)]
      obtain ⟨r, e1, e2⟩ := ih f f2 (q + 1) (z + (nI A - nI B)) (by omega) (by rw [tz]; omega) (by rw [tz]; omega)
      refine ⟨r, ?_, ?_⟩
      · rw [show d + 1 + 1 + f = (d + 1 + f) + 1 by omega, qX6_share_57, if_neg l, bhC hq32 (by omega), hb, if_neg (by decide), if_pos rfl, bi1_t (bc_C hq32), ck_t (inb_nI (show pop q < 6 by omega) (by decide)), h21, en, ck_t (inb_nI (show n - 1 - pop q < 6 by omega) (by decide)), cl_nI (show pop q < 2 ^ 31 by omega), cl_nI (show n - 1 - pop q < 2 ^ 31 by omega), o1, r1, pk_mul, hw, bd_t, on_b hq32 (by omega), ck_t (inb_nI (show stb q c < 32 by omega) (by decide)), ck_t (inb_nI hq32 (by decide)), cl_nI (show stb q c < 2 ^ 31 by omega), cl_nI (show q < 2 ^ 31 by omega), wu, wv, eA, bd_t]
        unfold qX6_share_131
        rw [nI_1]
        exact e1
      · rw [show d + 1 + 1 + f2 = (d + 1 + f2) + 1 by omega, qX7_share_109, m4, sh, if_neg l, bhR hq32 (by omega), hb, if_neg (by decide), if_pos rfl, bi1_t (bc_R hq32), bi1_t o2, en, bi1_t r2, on_b hq32 (by omega), ck_t (inb_nI (show stb q c < 32 by omega) (by decide)), ck_t (inb_nI hq32 (by decide)), cl_nI (show stb q c < 2 ^ 31 by omega), cl_nI (show q < 2 ^ 31 by omega), vu, vv, pk_mul, hw, eA, bd_t]
        unfold qX7_share_177
        rw [nI_1]
        exact e2
theorem op_share {N : Nat} {h : Hp} {g : Gp} (hN : N < 2 ^ 20) (R : Rel N h g) (x y : Int32) : Op N g (qX6_share h x y) (fun h => qX7_share h x y) := by
  have R0 := R
  obtain ⟨L, n, k, e, s, hT, hK, hP, hA, hS, hE, hg⟩ := R
  obtain ⟨a, th, hP2⟩ := hP
  have hn := hK.1
  have h33 : ∀ m : Hp, m 33 = upd (h 33) 0 0 → m 33 4 = nI n := fun m q => by rw [q, upd_n _ (by decide)]; exact hK.2.2.1
  rcases isChild n hn x with ⟨c, hc, rfl⟩ | hx
  · have p32 : 2 ^ n ≤ 2 ^ 5 := Nat.pow_le_pow_right (n := 2) (by decide) hn
    have sh : (1 : Int32) <<< (nI n &&& 31) = nI (2 ^ n) := shl_0 ⟨n, by omega⟩
    obtain ⟨P1, W1, V1, hTab, e1, e2⟩ := sha_loop (x := nI c) (y := y) hK hN hP2 (2 ^ n) (599 - 2 ^ n) (599 - 2 ^ n) 0 (h 1) (h 32) (h 39) (h 45) (by omega) (fun j hj => absurd hj (by omega))
    rw [show 2 ^ n + 1 + (599 - 2 ^ n) = 600 by omega] at e1 e2
    rw [cH_self] at e1
    have hm33 : th0 (cH h P1 W1) 33 = upd (h 33) 0 0 := by rw [th0_33, cH_n (by decide) (by decide)]
    have hm : Rq h (th0 (cH h P1 W1)) := ⟨fun j _ => by rw [hm33], by rw [th0_n (by decide), cH_n (by decide) (by decide)], by rw [th0_n (by decide), cH_n (by decide) (by decide)], by rw [th0_n (by decide), cH_n (by decide) (by decide)]⟩
    obtain ⟨M1, S1, R1, m45, e3⟩ := e2 (th0 (cH h P1 W1)) hm (by rw [th0_n (by decide), cH_n (by decide) (by decide)]) (by rw [th0_n (by decide), cH_n (by decide) (by decide)])
    obtain ⟨r, e4, e5⟩ := sum_loop (h1 := cH h P1 W1) (M1 := M1) (y := y) hn hc (by rw [cH_n (by decide) (by decide)]; exact hK.2.1.1) (by rw [R1.1 4 (by decide), upd_n _ (by decide)]; exact hK.2.2.1) (by rw [cH_32r, m45]; exact hTab) (2 ^ n) (599 - 2 ^ n) (599 - 2 ^ n) 0 0 (by omega) (by decide) (by decide)
    rw [show 2 ^ n + 1 + (599 - 2 ^ n) = 600 by omega] at e4 e5
    refine ⟨r, cH h P1 W1, M1, ?_, ?_, R0.up.same (((((Same.rf h).row (r := 1) (by decide) P1).row (r := 32) (by decide) W1).tr (same_th0 _)).tr S1)⟩
    · unfold qX6_share
      rw [bi1_t (there_C hn hP2.2.1 hc), if_neg one_ne, hK.2.1.1, sh]
      exact e1.trans e4
    · show bd (th0 (cH h P1 W1)) _ = _
      rw [bd_t, bi1_t (noC_R hn (h33 _ hm33) hc), if_pos rfl]
      exact e3.trans e5
  · refine ⟨-1, h, th0 h, ?_, ?_, R0.up.same (same_th0 h)⟩
    · unfold qX6_share
      rw [bi1_t (there_Cn hn hP2.2.1 hx), if_pos rfl]
    · show bd (th0 h) _ = _
      rw [bd_t, bi1_t (noC_Rn hn (h33 _ (th0_33 h)) hx), if_neg one_ne]
