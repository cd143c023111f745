def gC (h : Hp) (n : Nat) : Hp := su (su (su (tH (su h 21 (upd (h 21) 0 (nI n))) (pst n 0 (sK h 2) (h 22)) (pst n 0 (sK h 3) (h 23))) 0 (cpy (pO h n) (h 0))) 24 (upd (h 24) 1 0)) 28 (upd (upd (h 28) 0 0) 1 0)
theorem tell_C {h : Hp} {n : Nat} (T : TxO h (4 + 4 * n)) (hn : n ≤ 5) : qX1_tellFrom h = some (tH (su h 21 (upd (h 21) 0 (nI n))) (pst n 0 (sK h 2) (h 22)) (pst n 0 (sK h 3) (h 23))) := by
  have T1 : TxO (su h 21 (upd (h 21) 0 (nI n))) (4 + 4 * n) := T.of (su_ne (by decide)) (su_ne (by decide)) (su_ne (by decide)) (by rw [su_ne (by decide)])
  have k2 : sK (su h 21 (upd (h 21) 0 (nI n))) 2 = sK h 2 := by
    unfold sK tx
    rw [su_ne (by decide)]
  have k3 : sK (su h 21 (upd (h 21) 0 (nI n))) 3 = sK h 3 := by
    unfold sK tx
    rw [su_ne (by decide)]
  have q := tell_loop T1 hn (by rw [su_same, upd_s]) (h 22) (h 23) n (599 - n) 0 (by omega)
  rw [pst_0, pst_0, k2, k3, show n + 1 + (599 - n) = 600 by omega] at q
  have e : tH (su h 21 (upd (h 21) 0 (nI n))) (h 22) (h 23) = su h 21 (upd (h 21) 0 (nI n)) := by
    unfold tH
    funext r
    by_cases r1 : r = 23
    · subst r1; rw [su_same, su_ne (by decide)]
    · rw [su_ne r1]
      by_cases r2 : r = 22
      · subst r2; rw [su_same, su_ne (by decide)]
      · rw [su_ne r2]
  rw [e] at q
  unfold qX1_tellFrom
  rw [bi1_t (cnt_C hn T.2.1), bd_t, show (0 : Int32) = nI 0 from rfl]
  exact q
