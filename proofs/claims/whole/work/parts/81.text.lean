/-! reading the garden's text -/
def inF (lo hi v : Nat) : Bool := decide (48 + lo ≤ v) && decide (v ≤ 48 + hi)
def ftC (r v : Nat) : Bool := if r = 0 then decide (v = 67) else if r = 1 then inF 0 9 v else if r = 2 then inF 1 9 v else inF 0 3 v
def ft (i v : Nat) : Bool := if i = 0 then decide (v = 84) else if i = 1 then inF 0 3 v else if i = 2 then inF 1 9 v else if i = 3 then inF 1 2 v else if 24 ≤ i then false else ftC ((i - 4) % 4) v
theorem fits_0 : ∀ i : Fin 32, ∀ v : Fin 256, qX5_fits (nI i.val) (nI v.val) = some (fI (ft i.val v.val)) := by decide +kernel
theorem fits_C {i v : Nat} (hi : i < 32) (hv : v < 256) : qX5_fits (nI i) (nI v) = some (fI (ft i v)) := fits_0 ⟨i, hi⟩ ⟨v, hv⟩
def tx (h : Hp) (j : Nat) : Nat := (h 20 j).toNatClampNeg
theorem tx_t {h : Hp} {L j : Nat} (T : TxO h L) (hj : j < L) : tx h j < 256 ∧ h 20 j = nI (tx h j) ∧ h 34 j = nI (tx h j) := by
  obtain ⟨q, v, hv, ev⟩ := T.2.2.2 j hj
  have e : tx h j = v := by
    unfold tx
    rw [ev, cl_nI (by omega)]
  rw [e]
  exact ⟨hv, ev, by rw [← q]; exact ev⟩
theorem fault_at {h : Hp} {L p : Nat} (T : TxO h L) (hp : p < L) (bad : ft p (tx h p) = false) (good : ∀ i, i < p → ft i (tx h i) = true) : ∀ (d f i : Nat), i + d = p → qX5_faultPlace_2 (h 19) (h 20) (d + 1 + f) (nI i) = some (nI p) := by
  have hL := T.1
  have h1 := T.2.1
  intro d
  induction d with
  | zero =>
    intro f i hi
    have e : i = p := by omega
    subst e
    obtain ⟨t1, t2, -⟩ := tx_t T hp
    rw [show 0 + 1 + f = f + 1 by omega, qX5_faultPlace_2, h1, if_neg (nI_ge hp (by omega)), ck_t (inb_nI (by omega) (by decide)), cl_nI (by omega), t2, bi1_t (fits_C (by omega) t1), bad, fI_f, if_pos rfl]
  | succ d ih =>
    intro f i hi
    obtain ⟨t1, t2, -⟩ := tx_t T (show i < L by omega)
    rw [show d + 1 + 1 + f = (d + 1 + f) + 1 by omega, qX5_faultPlace_2, h1, if_neg (nI_ge (by omega) (by omega)), ck_t (inb_nI (by omega) (by decide)), cl_nI (by omega), t2, bi1_t (fits_C (by omega) t1), good i (by omega), fI_t, if_neg one_ne, nI_1]
    exact ih f (i + 1) (by omega)
def endF (L : Nat) : Int32 := if L < 4 then nI L else if (L - 4) % 4 = 0 then -9 else nI L
theorem fault_end {h : Hp} {L : Nat} (T : TxO h L) (good : ∀ i, i < L → ft i (tx h i) = true) : ∀ (d f i : Nat), i + d = L → qX5_faultPlace_2 (h 19) (h 20) (d + 1 + f) (nI i) = some (endF L) := by
  have hL := T.1
  have h1 := T.2.1
  intro d
  induction d with
  | zero =>
    intro f i hi
    have e : i = L := by omega
    subst e
    rw [show 0 + 1 + f = f + 1 by omega, qX5_faultPlace_2, h1, if_pos (nI_le (Nat.le_refl _) (by omega))]
    unfold qX5_faultPlace_54 qX5_faultPlace_55 endF
    by_cases h4 : i < 4
    · rw [if_pos (show nI i < (4 : Int32) from nI_lt (a := i) (b := 4) h4 (by decide)), if_pos rfl, h1, if_pos h4]
    · have s1 : nI i - (4 : Int32) = nI (i - 4) := pk_sub (a := i) (b := 4) (by omega)
      have s2 : nI (i - 4) - nI (i - 4) / (4 : Int32) * (4 : Int32) = nI ((i - 4) % 4) := pk_rem (a := i - 4) (d := 4) (by omega) (by decide) (by decide)
      rw [if_neg (show ¬ nI i < (4 : Int32) from nI_nlt (a := i) (b := 4) (by omega) (by omega)), s1, s2, if_neg h4]
      by_cases hm : (i - 4) % 4 = 0
      · rw [hm, if_pos (show nI 0 = (0 : Int32) from rfl), if_neg one_ne, if_pos rfl]
      · rw [if_neg (nI_ne0 (by omega) (by omega)), if_pos rfl, h1, if_neg hm]
  | succ d ih =>
    intro f i hi
    obtain ⟨t1, t2, -⟩ := tx_t T (show i < L by omega)
    rw [show d + 1 + 1 + f = (d + 1 + f) + 1 by omega, qX5_faultPlace_2, h1, if_neg (nI_ge (by omega) (by omega)), ck_t (inb_nI (by omega) (by decide)), cl_nI (by omega), t2, bi1_t (fits_C (by omega) t1), good i (by omega), fI_t, if_neg one_ne, nI_1]
    exact ih f (i + 1) (by omega)
theorem fault_C1 {h : Hp} {L p : Nat} (T : TxO h L) (hp : p < L) (bad : ft p (tx h p) = false) (good : ∀ i, i < p → ft i (tx h i) = true) : qX5_faultPlace (h 19) (h 20) = some (nI p) := by
  have hL := T.1
  have q := fault_at T hp bad good p (599 - p) 0 (by omega)
  rw [show p + 1 + (599 - p) = 600 by omega] at q
  exact q
theorem fault_C2 {h : Hp} {L : Nat} (T : TxO h L) (good : ∀ i, i < L → ft i (tx h i) = true) : qX5_faultPlace (h 19) (h 20) = some (endF L) := by
  have hL := T.1
  have q := fault_end T good L (599 - L) 0 (by omega)
  rw [show L + 1 + (599 - L) = 600 by omega] at q
  exact q
theorem figR_0 : (∀ v : Fin 256, (if nI v.val - (48 : Int32) < 0 then (0 : Int32) else if (3 : Int32) < nI v.val - 48 then 0 else 1) = fI (inF 0 3 v.val)) ∧ (∀ v : Fin 256, (if nI v.val - (48 : Int32) < 1 then (0 : Int32) else if (9 : Int32) < nI v.val - 48 then 0 else 1) = fI (inF 1 9 v.val)) ∧ (∀ v : Fin 256, (if nI v.val - (48 : Int32) < 1 then (0 : Int32) else if (2 : Int32) < nI v.val - 48 then 0 else 1) = fI (inF 1 2 v.val)) ∧ ∀ v : Fin 256, (if nI v.val - (48 : Int32) < 0 then (0 : Int32) else if (9 : Int32) < nI v.val - 48 then 0 else 1) = fI (inF 0 9 v.val) := by decide +kernel
/-- the reference reads at place p -/
def Good (m : Hp) (L p : Nat) (H : Hp) : Prop := Same m H ∧ H 33 2 = nI L ∧ H 34 = m 34 ∧ H 33 3 = nI p
theorem fig_eq {m H : Hp} {L p lo hi : Nat} (T : TxO m L) (hp : p ≤ L) (G : Good m L p H) (hF : (lo = 0 ∧ hi = 3) ∨ (lo = 1 ∧ hi = 9) ∨ (lo = 1 ∧ hi = 2) ∨ (lo = 0 ∧ hi = 9)) : (p < L ∧ inF lo hi (tx m p) = true ∧ ∃ H2, qX7_figure H (nI lo) (nI hi) = some (nI (tx m p) - 48, H2) ∧ Good m L (p + 1) H2 ∧ (∀ j, j ≠ 3 → H2 33 j = H 33 j) ∧ H2 37 = H 37) ∨ ((p < L → inF lo hi (tx m p) = false) ∧ qX7_figure H (nI lo) (nI hi) = some (-9, H)) := by
  have hL := T.1
  obtain ⟨g1, g2, g3, g4⟩ := G
  by_cases e : p = L
  · refine Or.inr ⟨fun q => absurd q (by omega), ?_⟩
    unfold qX7_figure
    rw [g4, g2, if_pos (by rw [e])]
  · have hpL : p < L := by omega
    obtain ⟨t1, -, t3⟩ := tx_t T hpL
    have ne : ¬ nI p = nI L := fun q => e ((nI_eq (by omega) (by omega)).mp q)
    have i32 : inb (nI p) 32 = true := inb_nI (by omega) (by decide)
    have inr : qX7_in (nI (tx m p) - 48).toInt64 (nI lo).toInt64 (nI hi).toInt64 = some (fI (inF lo hi (tx m p))) := by
      rw [in_R]
      rcases hF with ⟨rfl, rfl⟩ | ⟨rfl, rfl⟩ | ⟨rfl, rfl⟩ | ⟨rfl, rfl⟩
      · exact congrArg some (figR_0.1 ⟨tx m p, t1⟩)
      · exact congrArg some (figR_0.2.1 ⟨tx m p, t1⟩)
      · exact congrArg some (figR_0.2.2.1 ⟨tx m p, t1⟩)
      · exact congrArg some (figR_0.2.2.2 ⟨tx m p, t1⟩)
    cases hb : inF lo hi (tx m p) with
    | false =>
      refine Or.inr ⟨fun _ => rfl, ?_⟩
      unfold qX7_figure
      rw [g4, g2, if_neg ne, ck_t i32, cl_nI (by omega), g3, t3, bi1_t inr, hb, fI_f, if_pos rfl]
    | true =>
      have e34 : su H 33 (upd (H 33) 3 (nI (p + 1))) 34 = m 34 := by rw [su_ne (by decide)]; exact g3
      refine Or.inl ⟨hpL, rfl, su H 33 (upd (H 33) 3 (nI (p + 1))), ?_, ⟨g1.fld (by decide) _, by rw [su_same, upd_n _ (by decide)]; exact g2, e34, by rw [su_same, upd_s]⟩, fun j hj => by rw [su_same, upd_n _ hj], su_ne (by decide)⟩
      unfold qX7_figure
      rw [g4, g2, if_neg ne, ck_t i32, cl_nI (by omega), g3, t3, bi1_t inr, hb, fI_t, if_neg one_ne, nI_1, bd_t, su_same, upd_s, show nI (p + 1) - (1 : Int32) = nI p from pk_sub (a := p + 1) (b := 1) (by omega), ck_t i32, cl_nI (by omega), e34, t3]
