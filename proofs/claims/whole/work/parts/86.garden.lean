/-! the program takes up a garden -/
theorem cnt_0 : ∀ n : Fin 6, (if (0 : Int32) < (if ((nI (4 + 4 * n.val) - (4 : Int32)) / (4 : Int32)) < (5 : Int32) then ((nI (4 + 4 * n.val) - (4 : Int32)) / (4 : Int32)) else (5 : Int32)) then (if ((nI (4 + 4 * n.val) - (4 : Int32)) / (4 : Int32)) < (5 : Int32) then ((nI (4 + 4 * n.val) - (4 : Int32)) / (4 : Int32)) else (5 : Int32)) else (0 : Int32)) = nI n.val := by decide +kernel
theorem cnt_C {R19 : Row} {n : Nat} (hn : n ≤ 5) (h1 : R19 1 = nI (4 + 4 * n)) : qX5_countChildren R19 = some (nI n) := by
  unfold qX5_countChildren
  rw [h1]
  exact congrArg some (cnt_0 ⟨n, by omega⟩)
theorem figu_C {h : Hp} {L i : Nat} (T : TxO h L) (hi : i < L) : qX5_figure (h 19) (h 20) (nI i) = some (nI (tx h i) - 48) := by
  have hL := T.1
  unfold qX5_figure
  rw [if_neg (nI_pos (by omega)), T.2.1, if_neg (nI_ge hi (by omega)), ck_t (inb_nI (by omega) (by decide)), cl_nI (by omega), (tx_t T hi).2.1]
theorem figu_C0 {h : Hp} {L i : Nat} (T : TxO h L) (hi : L ≤ i) (h2 : i < 1000) : qX5_figure (h 19) (h 20) (nI i) = some 0 := by
  unfold qX5_figure
  rw [if_neg (nI_pos (by omega)), T.2.1, if_pos (nI_le hi (by omega))]
theorem figc (c k : Nat) : ((4 : Int32) + ((4 : Int32) * nI c)) + nI k = nI (4 + 4 * c + k) := by
  rw [show (4 : Int32) * nI c = nI (4 * c) from pk_mul 4 c, show (4 : Int32) + nI (4 * c) = nI (4 + 4 * c) from nI_add 4 (4 * c), nI_add]
def wO (h : Hp) (n c : Nat) : Int32 := if c < n then nI (tx h (4 + 4 * c + 1)) - 48 else 0
theorem figw {h : Hp} {n c : Nat} (T : TxO h (4 + 4 * n)) (hn : n ≤ 5) (hc : c < 5) : qX5_figureOfChild (h 19) (h 20) (nI c) 1 = some (wO h n c) := by
  unfold qX5_figureOfChild wO
  rw [show (1 : Int32) = nI 1 from rfl, figc]
  by_cases h1 : c < n
  · rw [bi1_t (figu_C T (show 4 + 4 * c + 1 < 4 + 4 * n by omega)), if_pos h1]
  · rw [bi1_t (figu_C0 T (show 4 + 4 * n ≤ 4 + 4 * c + 1 by omega) (by omega)), if_neg h1]
def pO (h : Hp) (n : Nat) : Row := fun j => if j < 5 then wO h n j else if j = 31 then -9 else if j = 32 then nI (tx h 1) - 48 else if j = 33 then nI (tx h 2) - 48 else if j = 34 then nI (tx h 3) - 48 else if j = 36 then nI (al n) else 0
theorem start_loop {h : Hp} {n : Nat} (T : TxO h (4 + 4 * n)) (hn : n ≤ 5) (P : Row) : ∀ (d f k : Nat), k + d = 5 → qX2_startFrom_57 (h 19) (h 20) (d + 1 + f) (cp k (pO h n) P) (nI k) = some (cp 5 (pO h n) P) := by
  intro d
  induction d with
  | zero =>
    intro f k hk
    rw [show 0 + 1 + f = f + 1 by omega, qX2_startFrom_57, if_pos (le5 (by omega) (by omega)), show k = 5 by omega]
  | succ d ih =>
    intro f k hk
    have i5 : inb (nI k) 5 = true := in5 (by omega)
    have o0 : pO h n k = wO h n k := if_pos (by omega)
    have oz : ∀ j, 5 ≤ j → j < 31 → pO h n j = 0 := fun j h1 h2 => by
      unfold pO
      rw [if_neg (by omega), if_neg (by omega), if_neg (by omega), if_neg (by omega), if_neg (by omega), if_neg (by omega)]
    have st := cp_step k (by omega) (pO h n) P
    rw [o0, oz (5 + k) (by omega) (by omega), oz (10 + k) (by omega) (by omega), oz (15 + k) (by omega) (by omega), oz (20 + k) (by omega) (by omega), oz (25 + k) (by omega) (by omega)] at st
    rw [show d + 1 + 1 + f = (d + 1 + f) + 1 by omega, qX2_startFrom_57, if_neg (nle5 (by omega)), bi1_t (figw T hn (by omega)), cl_nI (by omega), Nat.zero_add, ck_t i5, bd_t, ck_t i5, bd_t, ck_t i5, bd_t, ck_t i5, bd_t, ck_t i5, bd_t, ck_t i5, bd_t, st, nI_1]
    exact ih f (k + 1) (by omega)
theorem start_C {h : Hp} {n : Nat} (T : TxO h (4 + 4 * n)) (hn : n ≤ 5) (P : Row) : qX2_startFrom (h 19) (h 20) P = some (cpy (pO h n) P) := by
  unfold qX2_startFrom
  have q := start_loop T hn P 5 594 0 (by omega)
  rw [cp_5, ← cp_0] at q
  rw [bi1_t (cnt_C hn T.2.1), all_n hn, bd_t, bd_t, bd_t, show (1 : Int32) = nI 1 from rfl, bi1_t (figu_C T (show 1 < 4 + 4 * n by omega)), bd_t, show (2 : Int32) = nI 2 from rfl, bi1_t (figu_C T (show 2 < 4 + 4 * n by omega)), bd_t, show (3 : Int32) = nI 3 from rfl, bi1_t (figu_C T (show 3 < 4 + 4 * n by omega)), bd_t, bd_t, show (600 : Nat) = 5 + 1 + 594 from rfl, show (0 : Int32) = nI 0 from rfl]
  exact q
