/-! copies -/
def cpy (O P : Row) : Row := fun j => if j ≤ 36 then O j else P j
def cp (k : Nat) (O P : Row) : Row := fun j => if (j < 30 ∧ j % 5 < k) ∨ (30 ≤ j ∧ j ≤ 36) then O j else P j
theorem cp_step (k : Nat) (hk : k < 5) (O P : Row) : upd (upd (upd (upd (upd (upd (cp k O P) k (O k)) (5 + k) (O (5 + k))) (10 + k) (O (10 + k))) (15 + k) (O (15 + k))) (20 + k) (O (20 + k))) (25 + k) (O (25 + k)) = cp (k + 1) O P := by
  funext j
  by_cases h6 : j = 25 + k
  · subst h6; rw [upd_s]; unfold cp; rw [if_pos (by omega)]
  rw [upd_n _ h6]
  by_cases h5 : j = 20 + k
  · subst h5; rw [upd_s]; unfold cp; rw [if_pos (by omega)]
  rw [upd_n _ h5]
  by_cases h4 : j = 15 + k
  · subst h4; rw [upd_s]; unfold cp; rw [if_pos (by omega)]
  rw [upd_n _ h4]
  by_cases h3 : j = 10 + k
  · subst h3; rw [upd_s]; unfold cp; rw [if_pos (by omega)]
  rw [upd_n _ h3]
  by_cases h2 : j = 5 + k
  · subst h2; rw [upd_s]; unfold cp; rw [if_pos (by omega)]
  rw [upd_n _ h2]
  by_cases h1 : j = k
  · subst h1; rw [upd_s]; unfold cp; rw [if_pos (by omega)]
  rw [upd_n _ h1]
  unfold cp
  by_cases hc : (j < 30 ∧ j % 5 < k) ∨ (30 ≤ j ∧ j ≤ 36)
  · rw [if_pos hc, if_pos (by omega)]
  · rw [if_neg hc, if_neg (by omega)]
theorem cp_loop (O P : Row) : ∀ (d f k : Nat), k + d = 5 → qX2_copyFrom_58 O (d + 1 + f) (cp k O P) (nI k) = some (cp 5 O P) := by
  intro d
  induction d with
  | zero =>
    intro f k hk
    rw [show 0 + 1 + f = f + 1 by omega, qX2_copyFrom_58, if_pos (le5 (by omega) (by omega)), show k = 5 by omega]
  | succ d ih =>
    intro f k hk
    have i5 : inb (nI k) 5 = true := in5 (by omega)
    rw [show d + 1 + 1 + f = (d + 1 + f) + 1 by omega, qX2_copyFrom_58, if_neg (nle5 (by omega))]
    simp only [ck_t i5, bd_t, nI_1]
    rw [cl_nI (by omega), Nat.zero_add, cp_step k (by omega)]
    exact ih f (k + 1) (by omega)
theorem cp_0 (O P : Row) : upd (upd (upd (upd (upd (upd (upd P 36 (O 36)) 30 (O 30)) 31 (O 31)) 32 (O 32)) 33 (O 33)) 34 (O 34)) 35 (O 35) = cp 0 O P := by
  funext j
  unfold cp
  by_cases h : 30 ≤ j ∧ j ≤ 36
  · rw [if_pos (Or.inr h)]
    rcases (show j = 30 ∨ j = 31 ∨ j = 32 ∨ j = 33 ∨ j = 34 ∨ j = 35 ∨ j = 36 by omega) with rfl | rfl | rfl | rfl | rfl | rfl | rfl <;> rfl
  · rw [if_neg (by omega), upd_n _ (by omega), upd_n _ (by omega), upd_n _ (by omega), upd_n _ (by omega), upd_n _ (by omega), upd_n _ (by omega), upd_n _ (by omega)]
theorem cp_5 (O P : Row) : cp 5 O P = cpy O P := by
  funext j
  unfold cpy cp
  by_cases h : j ≤ 36
  · rw [if_pos h, if_pos (by omega)]
  · rw [if_neg h, if_neg (by omega)]
theorem cp_600 (O P : Row) : qX2_copyFrom_58 O 600 (cp 0 O P) (nI 0) = some (cp 5 O P) := cp_loop O P 5 594 0 (by omega)
theorem copy_C (O P : Row) : qX2_copyFrom O P = some (cpy O P) := by
  unfold qX2_copyFrom
  rw [bd_t, bd_t, bd_t, bd_t, bd_t, bd_t, bd_t, cp_0, ← cp_5]
  exact cp_600 O P
theorem Two.cong {n t B a th : Nat} {P T P2 T2 : Row} {Z : Nat → Bool} (hn : n ≤ 5) (h : Two n t B P T a th Z) (hP : ∀ j, j ≤ 36 → P2 j = P j) (hT : ∀ j, j < 36 → T2 j = T j) : Two n t B P2 T2 a th Z := by
  obtain ⟨hA, h36, ha, h30, hat, hl, hr, hth, h34, hp, hw0, hq0⟩ := h
  refine ⟨⟨fun j hj hz => by rw [hP j (by omega), hT j hj]; exact hA.1 j hj hz, fun c hc hz => by rw [hP (5 + c) (by omega), hT (5 + c) (by omega)]; exact hA.2.1 c hc hz, hA.2.2⟩, by rw [hP 36 (by omega)]; exact h36, ha, by rw [hP 30 (by omega)]; exact h30, hat, by rw [hP 31 (by omega)]; exact hl, by rw [hP 32 (by omega)]; exact hr, hth, by rw [hP 34 (by omega)]; exact h34, hp, fun d hd => by rw [hP d (by omega)]; exact hw0 d hd, fun d hd => by rw [hP (10 + d) (by omega)]; exact hq0 d hd⟩
theorem PgO.cong {n B : Nat} {P T P2 T2 : Row} (hn : n ≤ 5) (h : PgO n B P T) (hP : ∀ j, j ≤ 36 → P2 j = P j) (hT : ∀ j, j < 36 → T2 j = T j) : PgO n B P2 T2 := by
  obtain ⟨a, th, h⟩ := h
  exact ⟨a, th, h.cong hn hP hT⟩
/-- S put into B from o on, k places -/
def pst (k o : Nat) (S B : Row) : Row := fun j => if o ≤ j ∧ j < o + k then S (j - o) else B j
theorem pst_0 (o : Nat) (S B : Row) : pst 0 o S B = B := by
  funext j
  unfold pst
  rw [if_neg (by omega)]
theorem pst_s (k o : Nat) (S B : Row) : upd (pst k o S B) (o + k) (S k) = pst (k + 1) o S B := by
  funext j
  unfold pst
  by_cases h : j = o + k
  · subst h; rw [upd_s, if_pos (by omega), show o + k - o = k by omega]
  · rw [upd_n _ h]
    by_cases h2 : o ≤ j ∧ j < o + k
    · rw [if_pos h2, if_pos (by omega)]
    · rw [if_neg h2, if_neg (by omega)]
theorem pst_in {k o j : Nat} {S B : Row} (h : j < k) : pst k o S B (o + j) = S j := by
  unfold pst
  rw [if_pos (by omega), show o + j - o = j by omega]
theorem pst_out {k o j : Nat} {S B : Row} (h : j < o ∨ o + k ≤ j) : pst k o S B j = B j := by
  unfold pst
  rw [if_neg (by omega)]
theorem le36 {k : Nat} (h : 36 ≤ k) (hk : k < 2 ^ 31) : (36 : Int32) ≤ nI k := nI_le h hk
theorem nle36 {k : Nat} (h : k < 36) : ¬ (36 : Int32) ≤ nI k := nI_ge h (by decide)
theorem m36 (a k : Nat) : (36 : Int32) * nI a + nI k = nI (36 * a + k) := by
  rw [show (36 : Int32) * nI a = nI (36 * a) from pk_mul 36 a, nI_add]
theorem begin_loop {h : Hp}  : ∀ (d f k : Nat), k + d = 36 → qX7_begin_10 (d + 1 + f) (su h 39 (pst k 0 (h 38) (h 39))) (nI k) = some (su h 39 (pst 36 0 (h 38) (h 39))) := by
  intro d
  induction d with
  | zero =>
    intro f k hk
    have e36 : k = 36 := by omega
    subst e36
    rw [show 0 + 1 + f = f + 1 by omega, qX7_begin_10, if_pos (le36 (by omega) (by omega))]
  | succ d ih =>
    intro f k hk
    rw [show d + 1 + 1 + f = (d + 1 + f) + 1 by omega, qX7_begin_10, if_neg (nle36 (by omega))]
    rw [ck_t (in36 (by omega)), ck_t (in36 (by omega)), bd_t, su_ne (show (38 : Nat) ≠ 39 by decide), su_same, su_su, cl_nI (by omega), nI_1]
    have e := pst_s k 0 (h 38) (h 39)
    rw [Nat.zero_add] at e
    rw [e]
    exact ih f (k + 1) (by omega)
theorem note_loop {h : Hp} {a : Nat} (ha : a < 14) (h15 : h 33 15 = nI a) : ∀ (d f k : Nat), k + d = 36 → qX7_note_51 (d + 1 + f) (su h 40 (pst k (36 * a) (h 38) (h 40))) (nI k) = some (su (su h 40 (pst 36 (36 * a) (h 38) (h 40))) 33 (upd (h 33) 15 (nI (a + 1)))) := by
  intro d
  induction d with
  | zero =>
    intro f k hk
    have e36 : k = 36 := by omega
    subst e36
    rw [show 0 + 1 + f = f + 1 by omega, qX7_note_51, if_pos (le36 (by omega) (by omega))]
    rw [bd_t, su_ne (show (33 : Nat) ≠ 40 by decide), h15, nI_1]
  | succ d ih =>
    intro f k hk
    rw [show d + 1 + 1 + f = (d + 1 + f) + 1 by omega, qX7_note_51, if_neg (nle36 (by omega))]
    rw [ck_t (in36 (by omega)), su_ne (show (33 : Nat) ≠ 40 by decide), h15, m36, ck_t (inb_nI (show 36 * a + k < 504 by omega) (by decide)), bd_t, su_ne (show (38 : Nat) ≠ 40 by decide), su_same, su_su, cl_nI (by omega), cl_nI (by omega), nI_1, pst_s]
    exact ih f (k + 1) (by omega)
theorem undo_loop {h : Hp} {a : Nat} (ha : a < 14) (h15 : h 33 15 = nI a) : ∀ (d f k : Nat), k + d = 36 → qX7_undo_27 (d + 1 + f) (su h 38 (pst k 0 (fun j => h 40 (36 * a + j)) (h 38))) (nI k) = some (nI a, su h 38 (pst 36 0 (fun j => h 40 (36 * a + j)) (h 38))) := by
  intro d
  induction d with
  | zero =>
    intro f k hk
    have e36 : k = 36 := by omega
    subst e36
    rw [show 0 + 1 + f = f + 1 by omega, qX7_undo_27, if_pos (le36 (by omega) (by omega))]
    rw [su_ne (show (33 : Nat) ≠ 38 by decide), h15]
  | succ d ih =>
    intro f k hk
    rw [show d + 1 + 1 + f = (d + 1 + f) + 1 by omega, qX7_undo_27, if_neg (nle36 (by omega))]
    rw [su_ne (show (33 : Nat) ≠ 38 by decide), h15, m36, ck_t (inb_nI (show 36 * a + k < 504 by omega) (by decide)), ck_t (in36 (by omega)), bd_t, su_ne (show (40 : Nat) ≠ 38 by decide), su_same, su_su, cl_nI (by omega), cl_nI (by omega), nI_1]
    have e := pst_s k 0 (fun j => h 40 (36 * a + j)) (h 38)
    rw [Nat.zero_add] at e
    rw [e]
    exact ih f (k + 1) (by omega)
theorem keep_loop {h : Hp} {a : Nat} (ha : a < 2) : ∀ (d f k : Nat), k + d = 36 → qX7_keep_26 (d + 1 + f) (su h 41 (pst k (36 * a) (h 38) (h 41))) (nI a) (nI k) = some (h 38 35, su h 41 (pst 36 (36 * a) (h 38) (h 41))) := by
  intro d
  induction d with
  | zero =>
    intro f k hk
    have e36 : k = 36 := by omega
    subst e36
    rw [show 0 + 1 + f = f + 1 by omega, qX7_keep_26, if_pos (le36 (by omega) (by omega))]
    rw [su_ne (show (38 : Nat) ≠ 41 by decide)]
  | succ d ih =>
    intro f k hk
    rw [show d + 1 + 1 + f = (d + 1 + f) + 1 by omega, qX7_keep_26, if_neg (nle36 (by omega))]
    rw [ck_t (in36 (by omega)), m36, ck_t (inb_nI (show 36 * a + k < 72 by omega) (by decide)), bd_t, su_ne (show (38 : Nat) ≠ 41 by decide), su_same, su_su, cl_nI (by omega), cl_nI (by omega), nI_1, pst_s]
    exact ih f (k + 1) (by omega)
theorem again_loop {h : Hp} {a : Nat} (ha : a < 2) : ∀ (d f k : Nat), k + d = 36 → qX7_again_31 (d + 1 + f) (su h 38 (pst k 0 (fun j => h 41 (36 * a + j)) (h 38))) (nI a) (nI k) = some (h 41 (36 * a + 35), su (su h 38 (pst 36 0 (fun j => h 41 (36 * a + j)) (h 38))) 33 (upd (h 33) 15 0)) := by
  intro d
  induction d with
  | zero =>
    intro f k hk
    have e36 : k = 36 := by omega
    subst e36
    rw [show 0 + 1 + f = f + 1 by omega, qX7_again_31, if_pos (le36 (by omega) (by omega))]
    rw [bd_t, su_ne (show (38 : Nat) ≠ 33 by decide), su_same, su_ne (show (33 : Nat) ≠ 38 by decide), show (35 : Nat) = 0 + 35 from rfl, pst_in (by decide)]
  | succ d ih =>
    intro f k hk
    rw [show d + 1 + 1 + f = (d + 1 + f) + 1 by omega, qX7_again_31, if_neg (nle36 (by omega))]
    rw [m36, ck_t (inb_nI (show 36 * a + k < 72 by omega) (by decide)), ck_t (in36 (by omega)), bd_t, su_ne (show (41 : Nat) ≠ 38 by decide), su_same, su_su, cl_nI (by omega), cl_nI (by omega), nI_1]
    have e := pst_s k 0 (fun j => h 41 (36 * a + j)) (h 38)
    rw [Nat.zero_add] at e
    rw [e]
    exact ih f (k + 1) (by omega)
theorem shift_loop {h : Hp} {a : Nat} (h15 : h 33 15 = nI a) (ha : 1 ≤ a) (ha2 : a < 2 ^ 31) : ∀ (d f k : Nat), k + d = 468 → qX7_note_11 (d + 1 + f) (su h 40 (pst k 0 (fun j => h 40 (j + 36)) (h 40))) (nI k) = qX7_note_49 (su (su h 40 (pst 468 0 (fun j => h 40 (j + 36)) (h 40))) 33 (upd (h 33) 15 (nI (a - 1)))) := by
  intro d
  induction d with
  | zero =>
    intro f k hk
    have e : k = 468 := by omega
    subst e
    rw [show 0 + 1 + f = f + 1 by omega, qX7_note_11, if_pos (show (468 : Int32) ≤ nI 468 from nI_le (Nat.le_refl _) (by decide)), bd_t, su_ne (show (33 : Nat) ≠ 40 by decide), h15, show nI a - (1 : Int32) = nI (a - 1) from pk_sub (a := a) (b := 1) ha]
  | succ d ih =>
    intro f k hk
    have e1 : nI k + (36 : Int32) = nI (k + 36) := nI_add k 36
    rw [show d + 1 + 1 + f = (d + 1 + f) + 1 by omega, qX7_note_11, if_neg (show ¬ (468 : Int32) ≤ nI k from nI_ge (a := k) (b := 468) (by omega) (by decide)), e1, ck_t (inb_nI (show k + 36 < 504 by omega) (by decide)), ck_t (inb_nI (show k < 504 by omega) (by decide)), bd_t, su_same, su_su, cl_nI (by omega), cl_nI (by omega), nI_1]
    have e2 : pst k 0 (fun j => h 40 (j + 36)) (h 40) (k + 36) = h 40 (k + 36) := pst_out (by omega)
    have e := pst_s k 0 (fun j => h 40 (j + 36)) (h 40)
    rw [Nat.zero_add] at e
    rw [e2, e]
    exact ih f (k + 1) (by omega)
/-- the book, with a page more -/
def bkN (k : Nat) (pg bk : Row) : Row := if k = 14 then pst 36 (36 * 13) pg (pst 468 0 (fun j => bk (j + 36)) bk) else pst 36 (36 * k) pg bk
def nx14 (k : Nat) : Nat := if k = 14 then 14 else k + 1
theorem note_R {h : Hp} {k : Nat} (hk : k ≤ 14) (h15 : h 33 15 = nI k) : qX7_note h = some (su (su h 40 (bkN k (h 38) (h 40))) 33 (upd (h 33) 15 (nI (nx14 k)))) := by
  unfold qX7_note
  rw [h15]
  by_cases e : k = 14
  · subst e
    rw [if_pos (show nI 14 = (14 : Int32) from rfl)]
    have s1 := shift_loop h15 (by decide) (by decide) 468 131 0 (by omega)
    rw [pst_0, su_self] at s1
    rw [show (600 : Nat) = 468 + 1 + 131 from rfl, show (0 : Int32) = nI 0 from rfl, s1]
    unfold qX7_note_49
    have n1 := note_loop (h := su (su h 40 (pst 468 0 (fun j => h 40 (j + 36)) (h 40))) 33 (upd (h 33) 15 (nI (14 - 1)))) (a := 13) (by decide) (by rw [su_same, upd_s]) 36 563 0 (by omega)
    rw [pst_0, su_self] at n1
    rw [show (600 : Nat) = 36 + 1 + 563 from rfl, show (0 : Int32) = nI 0 from rfl, n1]
    unfold bkN nx14
    rw [if_pos rfl, if_pos rfl, su_ne (show (38 : Nat) ≠ 33 by decide), su_ne (show (38 : Nat) ≠ 40 by decide), su_ne (show (40 : Nat) ≠ 33 by decide), su_same, su_same]
    refine congrArg some ?_
    funext q
    by_cases q1 : q = 33
    · subst q1
      rw [su_same, su_same]
      funext j
      unfold upd
      by_cases j1 : j = 15
      · rw [if_pos j1, if_pos j1]
      · rw [if_neg j1, if_neg j1, if_neg j1]
    · rw [su_ne q1, su_ne q1]
      by_cases q2 : q = 40
      · subst q2; rw [su_same, su_same]
      · rw [su_ne q2, su_ne q1, su_ne q2, su_ne q2]
  · have n14 : ¬ nI k = (14 : Int32) := fun hh => e ((nI_eq (a := k) (b := 14) (by omega) (by decide)).mp hh)
    rw [if_neg n14]
    unfold qX7_note_49
    have n1 := note_loop (h := h) (a := k) (by omega) h15 36 563 0 (by omega)
    rw [pst_0, su_self] at n1
    rw [show (600 : Nat) = 36 + 1 + 563 from rfl, show (0 : Int32) = nI 0 from rfl, n1]
    unfold bkN nx14
    rw [if_neg e, if_neg e]
theorem rem_0 : ∀ e : Fin 14, (nI e.val + (1 : Int32)) - (nI e.val + (1 : Int32)) / (14 : Int32) * (14 : Int32) = nI ((e.val + 1) % 14) := by decide +kernel
theorem rem_1 : ∀ k : Fin 15, (if nI k.val + (1 : Int32) < (14 : Int32) then nI k.val + (1 : Int32) else (14 : Int32)) = nI (nx14 k.val) := by decide +kernel
def remH (h : Hp) (k e : Nat) : Hp := su (su h (2 + e) (cpy (h 0) (h (2 + e)))) 24 (upd (upd (h 24) 2 (nI ((e + 1) % 14))) 1 (nI (nx14 k)))
theorem rem_C {h : Hp} {k e : Nat} (hk : k ≤ 14) (he : e < 14) (h1 : h 24 1 = nI k) (h2 : h 24 2 = nI e) : qX0_remember h = some (remH h k e) := by
  unfold qX0_remember remH
  rw [h2, ck_t (inb_nI he (by decide)), cl_nI (by omega), bi1_t (copy_C _ _), bd_t, bd_t, bd_t, su_ne (show (24 : Nat) ≠ 2 + e by omega), h2, su_same, su_su, upd_n _ (by decide), h1, rem_0 ⟨e, he⟩, rem_1 ⟨k, by omega⟩]
