theorem tx_th0 (h : Hp) : tx (th0 h) = tx h := by
  funext j
  unfold tx
  rw [th0_n (by decide)]
/-- a text with a fault: nothing is taken up -/
theorem gar_bad {N : Nat} {h : Hp} {g : Gp} (R : Rel N h g) (r : Int32) (H2 : Hp) (hr : ¬ r = -9) (S2 : Same (th0 h) H2) (e1 : qX5_faultPlace (h 19) (h 20) = some r) (e2 : qX7_readGarden (th0 h) = some (r, H2)) : Op N g (qX6_garden h) (fun h => qX7_garden h) := by
  refine ⟨-3, h, H2, ?_, ?_, R.up.same ((same_th0 h).tr S2)⟩
  · unfold qX6_garden
    rw [bi1_t e1, if_neg hr]
  · show bd (th0 h) _ = _
    rw [bd_t, bi2_t e2, if_neg hr]
/-- the reference's garden, from what it has read -/
theorem gar_R {m H2 : Hp} {n : Nat} (hn : n ≤ 5) (h10 : H2 33 10 = nI n) (e2 : qX7_readGarden (th0 m) = some (-9, H2)) : ∃ F, qX7_garden m = some (nI n, F) ∧ (∀ r, r ≠ 33 → r ≠ 35 → r ≠ 36 → r ≠ 38 → r ≠ 42 → F r = H2 r) ∧ F 35 = pst n 0 (s37 H2 1) (H2 35) ∧ F 36 = pst n 0 (s37 H2 2) (H2 36) ∧ F 38 = upd (upd (upd (upd (pst n 0 (s37 H2 0) (pst 36 0 (fun _ => 0) (H2 38))) 31 (-9)) 32 (H2 33 7)) 33 (H2 33 8)) 34 (H2 33 9) ∧ F 33 = upd (upd (H2 33) 4 (nI n)) 15 0 ∧ F 42 = upd (upd (H2 42) 0 0) 1 0 := by
  generalize hH : su (su H2 33 (upd (H2 33) 4 (nI n))) 38 (pst 36 0 (fun _ => 0) (H2 38)) = H
  have H33 : H 33 = upd (H2 33) 4 (nI n) := by rw [← hH, su_ne (by decide), su_same]
  have Hn : ∀ r, r ≠ 38 → r ≠ 33 → H r = H2 r := fun r r1 r2 => by rw [← hH, su_ne r1, su_ne r2]
  have H38 : H 38 = pst 36 0 (fun _ => 0) (H2 38) := by rw [← hH, su_same]
  have h4 : H 33 4 = nI n := by rw [H33, upd_s]
  have sk : ∀ k, s37 H k = s37 H2 k := fun k => by
    unfold s37
    rw [Hn 37 (by decide) (by decide)]
  have z := zero_loop (h := su H2 33 (upd (H2 33) 4 (nI n))) 36 563 0 (by omega)
  rw [pst_0, su_self, su_ne (show (38 : Nat) ≠ 33 by decide), hH] at z
  have q := kid_loop hn h4 (H 38) (H 35) (H 36) n (599 - n) 0 (by omega)
  have e : gH H (H 38) (H 35) (H 36) = H := by
    unfold gH
    rw [su_self, su_self, su_self]
  rw [pst_0, pst_0, pst_0, e, show n + 1 + (599 - n) = 600 by omega, sk, sk, sk] at q
  have q2 := kid_end (f := 599 - n) hn (show gH H (pst n 0 (s37 H2 0) (H 38)) (pst n 0 (s37 H2 1) (H 35)) (pst n 0 (s37 H2 2) (H 36)) 33 4 = nI n by rw [gH_n (by decide)]; exact h4)
  have eq0 : qX7_garden m = qX7_garden_27 (36 + 1 + 563) (su H2 33 (upd (H2 33) 4 (nI n))) (nI 0) := by
    show bd (th0 m) _ = _
    rw [bd_t, bi2_t e2, if_pos rfl, h10, bd_t, show (600 : Nat) = 36 + 1 + 563 from rfl, show (0 : Int32) = nI 0 from rfl]
  have all := eq0.trans (z.trans (q.trans q2))
  refine ⟨_, all, fun r r33 r35 r36 r38 r42 => ?_, ?_, ?_, ?_, ?_, ?_⟩
  · rw [su_ne r42, su_ne r33, su_ne r38, gH_n ⟨r35, r36, r38⟩, Hn r r38 r33]
  · rw [su_ne (by decide), su_ne (by decide), su_ne (by decide), gH_35, Hn 35 (by decide) (by decide)]
  · rw [su_ne (by decide), su_ne (by decide), su_ne (by decide), gH_36, Hn 36 (by decide) (by decide)]
  · rw [su_ne (by decide), su_ne (by decide), su_same, gH_38, gH_n (by decide), H38, H33, upd_n _ (by decide), upd_n _ (by decide), upd_n _ (by decide)]
  · rw [su_ne (by decide), su_same, gH_n (by decide), H33]
  · rw [su_same, gH_n (by decide), Hn 42 (by decide) (by decide)]
