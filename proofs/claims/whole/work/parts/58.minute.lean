def dnN (x : Int32) : Int32 := if (0 : Int32) < x - (1 : Int32) then x - (1 : Int32) else (0 : Int32)
def upN (x : Int32) : Int32 := if x + (1 : Int32) < (9 : Int32) then x + (1 : Int32) else (9 : Int32)
theorem dn_0 : ∀ w : Fin 10, dnN (nI w.val) = nI (w.val - 1) ∧ nI w.val - (if nI w.val ≤ 0 then (0 : Int32) else 1) = nI (w.val - 1) := by decide +kernel
theorem up_0 : ∀ w : Fin 10, upN (nI w.val) = nI (min 9 (w.val + 1)) ∧ nI w.val + (if (9 : Int32) ≤ nI w.val then (0 : Int32) else 1) = nI (min 9 (w.val + 1)) := by decide +kernel
def rid1 (P : Row) (k : Nat) : Row := upd (upd P (10 + k) (P (10 + k) + 1)) (5 + k) (P (5 + k) + 1)
def st2 (Q : Row) (k : Nat) : Row := if Q k < 5 then Q else upd (upd Q (15 + k) (Q (15 + k) + 1)) (20 + k) (Q (20 + k) + 1)
def stp (a t k : Nat) (P : Row) : Row := if a.testBit k = true then upd (rid1 P k) k (dnN (P k)) else if a = 0 then P else if t.testBit k = true then st2 (upd P k (upN (P k))) k else P
theorem nI_z {a : Nat} (ha : a < 32) : nI a = 0 ↔ a = 0 := by
  constructor
  · intro h
    exact (nI_eq (by omega) (by omega)).mp h
  · intro h
    rw [h]; rfl
theorem ride_C {P : Row} {a t k f : Nat} (h30 : P 30 = nI a) (ha : a < 32) (h36 : P 36 = nI t) (ht : t < 32) (hk : k < 5) : qX2_rideAndStare_2 (f + 1) P (nI k) = qX2_rideAndStare_2 f (stp a t k P) (nI (k + 1)) := by
  rw [qX2_rideAndStare_2, if_neg (nle5 hk), brC h30 ha hk]
  unfold stp
  by_cases h1 : a.testBit k = true
  · rw [if_pos h1, if_pos h1, if_neg one_ne]
    rw [ck_t (in5 hk), ck_t (in5 hk), bd_t, ck_t (in5 hk), ck_t (in5 hk), bd_t, ck_t (in5 hk), ck_t (in5 hk), bd_t]
    unfold qX2_rideAndStare_123 rid1 dnN
    rw [nI_1, cl_nI (by omega), Nat.zero_add, upd_n _ (show 5 + k ≠ 10 + k by omega), upd_n _ (show k ≠ 5 + k by omega), upd_n _ (show k ≠ 10 + k by omega)]
  · rw [if_neg h1, if_neg h1, if_pos rfl, h30]
    by_cases h2 : a = 0
    · rw [if_pos h2, if_pos ((nI_z ha).mpr h2)]
      unfold qX2_rideAndStare_123
      rw [nI_1]
    · rw [if_neg h2, if_neg (fun h => h2 ((nI_z ha).mp h)), h36, bhC ht hk]
      by_cases h3 : t.testBit k = true
      · rw [if_pos h3, if_pos h3, if_neg one_ne, ck_t (in5 hk), ck_t (in5 hk), bd_t, ck_t (in5 hk), cl_nI (by omega), Nat.zero_add]
        unfold st2
        have e0 : (if P k + (1 : Int32) < (9 : Int32) then P k + (1 : Int32) else (9 : Int32)) = upN (P k) := rfl
        rw [e0]
        by_cases h4 : upd P k (upN (P k)) k < 5
        · rw [if_pos h4, if_pos h4]
          unfold qX2_rideAndStare_123
          rw [nI_1]
        · rw [if_neg h4, if_neg h4, ck_t (in5 hk), ck_t (in5 hk), bd_t, ck_t (in5 hk), ck_t (in5 hk), bd_t]
          unfold qX2_rideAndStare_123
          rw [nI_1, upd_n (f := upd P k (upN (P k))) _ (show 20 + k ≠ 15 + k by omega)]
      · rw [if_neg h3, if_neg h3, if_pos rfl]
        unfold qX2_rideAndStare_123
        rw [nI_1]
theorem ride_R {R33 R35 R36 T : Row} {n a t k f : Nat} (hn : n ≤ 5) (h4 : R33 4 = nI n) (h25 : R33 25 = nI t) (ht : t < 32) (h30 : T 30 = nI a) (ha : a < 32) (hk : k < n) (hw : ∃ w, w ≤ 9 ∧ T k = nI w) : qX7_goMinute_71 R33 R35 R36 (f + 1) T (nI k) = qX7_goMinute_71 R33 R35 R36 f (stp a t k T) (nI (k + 1)) := by
  obtain ⟨w, hw9, ew⟩ := hw
  rw [qX7_goMinute_71, h4, if_neg (nI_ge (by omega) (by omega)), h30, bhR ha (by omega)]
  unfold stp
  by_cases h1 : a.testBit k = true
  · rw [if_pos h1, if_pos h1, if_neg one_ne, pl10, pl5, pl0, ck_t (in36 (by omega)), ck_t (in36 (by omega)), bd_t, ck_t (in36 (by omega)), ck_t (in36 (by omega)), bd_t, ck_t (in36 (by omega)), ck_t (in36 (by omega)), cl_nI (by omega), cl_nI (by omega), cl_nI (by omega), Nat.zero_add, upd_n _ (show 5 + k ≠ 10 + k by omega), upd_n _ (show k ≠ 5 + k by omega), upd_n _ (show k ≠ 10 + k by omega)]
    have fin : ∀ x : Int32, T k - x = dnN (T k) → qX7_goMinute_128 R33 R35 R36 (qX7_goMinute_71 R33 R35 R36 f) (upd (upd T (10 + k) (T (10 + k) + 1)) (5 + k) (T (5 + k) + 1)) (nI k) (nI k) (T k) x = qX7_goMinute_71 R33 R35 R36 f (upd (rid1 T k) k (dnN (T k))) (nI (k + 1)) := by
      intro x hx
      unfold qX7_goMinute_128 qX7_goMinute_220 rid1
      rw [ck_t (in36 (by omega)), bd_t, cl_nI (by omega), nI_1, hx]
    have hd := dn_0 ⟨w, by omega⟩
    rw [← ew] at hd
    by_cases h5 : T k ≤ 0
    · rw [if_pos h5]
      rw [if_pos h5] at hd
      exact fin 0 (hd.2.trans hd.1.symm)
    · rw [if_neg h5]
      rw [if_neg h5] at hd
      exact fin 1 (hd.2.trans hd.1.symm)
  · rw [if_neg h1, if_neg h1, if_pos rfl]
    by_cases h2 : a = 0
    · rw [if_pos h2, if_pos ((nI_z ha).mpr h2)]
      unfold qX7_goMinute_220
      rw [nI_1]
    · rw [if_neg h2, if_neg (fun h => h2 ((nI_z ha).mp h)), h25, bhR ht (by omega)]
      by_cases h3 : t.testBit k = true
      · rw [if_pos h3, if_pos h3, if_neg one_ne, pl0, ck_t (in36 (by omega)), ck_t (in36 (by omega)), cl_nI (by omega), Nat.zero_add]
        have f218 : ∀ (Q : Row) (x : Int32), qX7_goMinute_218 R33 R35 R36 (qX7_goMinute_71 R33 R35 R36 f) Q (nI k) (nI (20 + k)) (Q (20 + k)) x = qX7_goMinute_71 R33 R35 R36 f (upd Q (20 + k) (Q (20 + k) + x)) (nI (k + 1)) := by
          intro Q x
          unfold qX7_goMinute_218 qX7_goMinute_220
          rw [ck_t (in36 (by omega)), bd_t, cl_nI (by omega), nI_1]
        have f195 : ∀ (Q : Row) (x : Int32), qX7_goMinute_195 R33 R35 R36 (qX7_goMinute_71 R33 R35 R36 f) Q (nI k) (nI (15 + k)) (Q (15 + k)) x = qX7_goMinute_71 R33 R35 R36 f (upd (upd Q (15 + k) (Q (15 + k) + x)) (20 + k) (Q (20 + k) + if Q k < 5 then 0 else 1)) (nI (k + 1)) := by
          intro Q x
          unfold qX7_goMinute_195
          rw [ck_t (in36 (by omega)), bd_t, pl20, pl0, ck_t (in36 (by omega)), ck_t (in36 (by omega)), cl_nI (by omega), cl_nI (by omega), cl_nI (by omega), Nat.zero_add, f218, f218, upd_n _ (show k ≠ 15 + k by omega), upd_n _ (show 20 + k ≠ 15 + k by omega)]
          by_cases h6 : Q k < 5
          · rw [if_pos h6, if_pos h6]
          · rw [if_neg h6, if_neg h6]
        have f172 : ∀ x : Int32, T k + x = upN (T k) → qX7_goMinute_172 R33 R35 R36 (qX7_goMinute_71 R33 R35 R36 f) T (nI k) (nI k) (T k) x = qX7_goMinute_71 R33 R35 R36 f (st2 (upd T k (upN (T k))) k) (nI (k + 1)) := by
          intro x hx
          unfold qX7_goMinute_172 st2
          rw [ck_t (in36 (by omega)), bd_t, pl15, pl0, ck_t (in36 (by omega)), ck_t (in36 (by omega)), cl_nI (by omega), cl_nI (by omega), Nat.zero_add, cl_nI (by omega), hx, f195, f195]
          generalize upd T k (upN (T k)) = Q
          by_cases h6 : Q k < 5
          · rw [if_pos h6, if_pos h6, if_pos h6, show Q (15 + k) + 0 = Q (15 + k) by simp, upd_i, show Q (20 + k) + 0 = Q (20 + k) by simp, upd_i]
          · rw [if_neg h6, if_neg h6, if_neg h6]
        have hu := up_0 ⟨w, by omega⟩
        rw [← ew] at hu
        by_cases h5 : (9 : Int32) ≤ T k
        · rw [if_pos h5]
          rw [if_pos h5] at hu
          exact f172 0 (hu.2.trans hu.1.symm)
        · rw [if_neg h5]
          rw [if_neg h5] at hu
          exact f172 1 (hu.2.trans hu.1.symm)
      · rw [if_neg h3, if_neg h3, if_pos rfl]
        unfold qX7_goMinute_220
        rw [nI_1]
