/-! the pure part: sets of children are numbers below 32 -/
theorem ck_t {β : Type} {p : Bool} {k : Option β} (h : p = true) : ck p k = k := by unfold ck; rw [if_pos h]
theorem bd_t {α β : Type} (a : α) (k : α → Option β) : bd a k = k a := rfl
theorem bi1_t {α β : Type} {a : Option α} {x : α} {k : α → Option β} (h : a = some x) : bi1 a k = k x := by rw [h]; rfl
theorem bi2_t {α β γ : Type} {a : Option (α × β)} {x : α} {y : β} {k : α → β → Option γ} (h : a = some (x, y)) : bi2 a k = k x y := by rw [h]; rfl
theorem bi3_t {α β γ δ : Type} {a : Option (α × β × γ)} {x : α} {y : β} {z : γ} {k : α → β → γ → Option δ} (h : a = some (x, y, z)) : bi3 a k = k x y z := by rw [h]; rfl
theorem inb_nI {c n : Nat} (h : c < n) (hn : n < 2 ^ 31) : inb (nI c) n = true := by
  unfold inb
  rw [Bool.and_eq_true, Bool.not_eq_true', decide_eq_false_iff_not, decide_eq_true_eq]
  exact ⟨nI_pos (by omega), by rw [nI_clamp (by omega)]; exact h⟩
theorem cl_nI {c : Nat} (h : c < 2 ^ 31) : (nI c).toNatClampNeg = c := nI_clamp h
theorem upd_s (f : Row) (k : Nat) (x : Int32) : upd f k x k = x := if_pos rfl
theorem upd_n {f : Row} {k j : Nat} (x : Int32) (h : j ≠ k) : upd f k x j = f j := if_neg h
theorem upd_c (f : Row) {i j : Nat} (h : i ≠ j) (x y : Int32) : upd (upd f i x) j y = upd (upd f j y) i x := by
  funext k
  unfold upd
  by_cases h1 : k = j
  · subst h1; rw [if_pos rfl, if_neg (by omega), if_pos rfl]
  · rw [if_neg h1]
    by_cases h2 : k = i
    · rw [if_pos h2, if_pos h2]
    · rw [if_neg h2, if_neg h2, if_neg h1]
theorem upd_i (f : Row) (k : Nat) : upd f k (f k) = f := by
  funext j
  unfold upd
  by_cases h : j = k
  · rw [if_pos h, h]
  · rw [if_neg h]
def clr (a c : Nat) : Nat := if a.testBit c then a - 2 ^ c else a
def stb (a c : Nat) : Nat := if a.testBit c then a else a + 2 ^ c
def pop (a : Nat) : Nat := (if a.testBit 0 then 1 else 0) + (if a.testBit 1 then 1 else 0) + (if a.testBit 2 then 1 else 0) + (if a.testBit 3 then 1 else 0) + (if a.testBit 4 then 1 else 0)
theorem has_C0 : ∀ a : Fin 32, ∀ c : Fin 5, qX6_has (nI a.val) (nI c.val) = some (if a.val.testBit c.val then 1 else 0) := by decide +kernel
theorem has_R0 : ∀ a : Fin 32, ∀ c : Fin 5, qX7_has (nI a.val) (nI c.val) = some (if a.val.testBit c.val then 1 else 0) := by decide +kernel
theorem off_0 : ∀ a : Fin 32, ∀ c : Fin 5, nI a.val &&& (((1 : Int32) <<< (nI c.val &&& 31)) ^^^ (-1 : Int32)) = nI (clr a.val c.val) ∧ clr a.val c.val < 32 := by decide +kernel
theorem on_0 : ∀ a : Fin 32, ∀ c : Fin 5, nI a.val ||| ((1 : Int32) <<< (nI c.val &&& 31)) = nI (stb a.val c.val) ∧ stb a.val c.val < 32 := by decide +kernel
theorem clr_0 : ∀ a : Fin 32, ∀ c d : Fin 5, (clr a.val c.val).testBit d.val = (a.val.testBit d.val && !decide (d.val = c.val)) := by decide +kernel
theorem stb_0 : ∀ a : Fin 32, ∀ c d : Fin 5, (stb a.val c.val).testBit d.val = (a.val.testBit d.val || decide (d.val = c.val)) := by decide +kernel
theorem bc_C0 : ∀ a : Fin 32, qJ6_bitCount (nI a.val) = some (nI (pop a.val)) := by decide +kernel
theorem bc_R0 : ∀ a : Fin 32, qX7_many (nI a.val) = some (nI (pop a.val)) := by decide +kernel
theorem pop_on0 : ∀ a : Fin 32, ∀ c : Fin 5, a.val.testBit c.val = false → pop (stb a.val c.val) = pop a.val + 1 := by decide +kernel
theorem pop_off0 : ∀ a : Fin 32, ∀ c : Fin 5, pop (clr a.val c.val) = if a.val.testBit c.val then pop a.val - 1 else pop a.val := by decide +kernel
theorem and_not0 : ∀ x a : Fin 32, nI x.val &&& (nI a.val ^^^ (-1 : Int32)) = nI (x.val &&& (31 ^^^ a.val)) ∧ x.val &&& (31 ^^^ a.val) < 32 := by decide +kernel
theorem tb_ext0 : ∀ a b : Fin 32, (∀ c : Fin 5, a.val.testBit c.val = b.val.testBit c.val) → a.val = b.val := by decide +kernel
theorem tb_ext {a b : Nat} (ha : a < 32) (hb : b < 32) (h : ∀ c, c < 5 → a.testBit c = b.testBit c) : a = b := tb_ext0 ⟨a, ha⟩ ⟨b, hb⟩ (fun c => h c.val c.isLt)
theorem has_C {a c : Nat} (ha : a < 32) (hc : c < 5) : qX6_has (nI a) (nI c) = some (if a.testBit c then 1 else 0) := has_C0 ⟨a, ha⟩ ⟨c, hc⟩
theorem has_R {a c : Nat} (ha : a < 32) (hc : c < 5) : qX7_has (nI a) (nI c) = some (if a.testBit c then 1 else 0) := has_R0 ⟨a, ha⟩ ⟨c, hc⟩
theorem off_b {a c : Nat} (ha : a < 32) (hc : c < 5) : nI a &&& (((1 : Int32) <<< (nI c &&& 31)) ^^^ (-1 : Int32)) = nI (clr a c) := (off_0 ⟨a, ha⟩ ⟨c, hc⟩).1
theorem clr_lt {a c : Nat} (ha : a < 32) (hc : c < 5) : clr a c < 32 := (off_0 ⟨a, ha⟩ ⟨c, hc⟩).2
theorem on_b {a c : Nat} (ha : a < 32) (hc : c < 5) : nI a ||| ((1 : Int32) <<< (nI c &&& 31)) = nI (stb a c) := (on_0 ⟨a, ha⟩ ⟨c, hc⟩).1
theorem stb_lt {a c : Nat} (ha : a < 32) (hc : c < 5) : stb a c < 32 := (on_0 ⟨a, ha⟩ ⟨c, hc⟩).2
theorem clr_b {a c d : Nat} (ha : a < 32) (hc : c < 5) (hd : d < 5) : (clr a c).testBit d = (a.testBit d && !decide (d = c)) := clr_0 ⟨a, ha⟩ ⟨c, hc⟩ ⟨d, hd⟩
theorem stb_b {a c d : Nat} (ha : a < 32) (hc : c < 5) (hd : d < 5) : (stb a c).testBit d = (a.testBit d || decide (d = c)) := stb_0 ⟨a, ha⟩ ⟨c, hc⟩ ⟨d, hd⟩
theorem bc_C {a : Nat} (ha : a < 32) : qJ6_bitCount (nI a) = some (nI (pop a)) := bc_C0 ⟨a, ha⟩
theorem bc_R {a : Nat} (ha : a < 32) : qX7_many (nI a) = some (nI (pop a)) := bc_R0 ⟨a, ha⟩
theorem pop_on {a c : Nat} (ha : a < 32) (hc : c < 5) (h : a.testBit c = false) : pop (stb a c) = pop a + 1 := pop_on0 ⟨a, ha⟩ ⟨c, hc⟩ h
theorem pop_off {a c : Nat} (ha : a < 32) (hc : c < 5) : pop (clr a c) = if a.testBit c then pop a - 1 else pop a := pop_off0 ⟨a, ha⟩ ⟨c, hc⟩
theorem and_not {x a : Nat} (hx : x < 32) (ha : a < 32) : nI x &&& (nI a ^^^ (-1 : Int32)) = nI (x &&& (31 ^^^ a)) := (and_not0 ⟨x, hx⟩ ⟨a, ha⟩).1
theorem and_nI0 : ∀ a b : Fin 32, nI a.val &&& nI b.val = nI (a.val &&& b.val) := by decide +kernel
theorem and_nI {a b : Nat} (ha : a < 32) (hb : b < 32) : nI a &&& nI b = nI (a &&& b) := and_nI0 ⟨a, ha⟩ ⟨b, hb⟩
theorem le5 {k : Nat} (h : 5 ≤ k) (hk : k < 2 ^ 31) : (5 : Int32) ≤ nI k := nI_le h hk
theorem nle5 {k : Nat} (h : k < 5) : ¬ (5 : Int32) ≤ nI k := nI_ge h (by decide)
theorem in5 {k : Nat} (h : k < 5) : inb (nI k) 5 = true := inb_nI h (by decide)
theorem and_lt {x a : Nat} (hx : x < 32) : x &&& a < 32 := Nat.lt_of_le_of_lt Nat.and_le_left hx
theorem testBit_and (a b c : Nat) : (a &&& b).testBit c = (a.testBit c && b.testBit c) := Nat.testBit_and a b c
theorem not31 : ∀ a : Fin 32, ∀ c : Fin 5, (31 ^^^ a.val).testBit c.val = !a.val.testBit c.val := by decide +kernel
theorem zero_tb0 : ∀ a : Fin 32, (a.val = 0 ↔ ∀ c : Fin 5, a.val.testBit c.val = false) := by decide +kernel
