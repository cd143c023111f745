theorem wd_code_X2_init : Cond.code yX2_init cX2_init 2 none ∈ lwA := lwA_1 58 (by rfl) (by rfl)
theorem wd_instanceMethod_OneTricycle_Play_init_LOneTricycle_Kids_V_ : Cond.instanceMethod yX2_init ∈ lwA := lwA_1 57 (by rfl) (by rfl)
theorem wd_classLink_OneTricycle_Acts_9_OneTricycle_Play_ : Cond.classLink RX0 9 RX2 ∈ lwA := lwA_1 122 (by rfl) (by rfl)
theorem wd_instantiable_OneTricycle_Play_14 : Cond.instantiable RX2 14 ∈ lwA := lwA_1 55 (by rfl) (by rfl)
theorem wd_methodLink_OneTricycle_Acts_3_java_lang_Object_init_V_ : Cond.methodLink RX0 3 objectInit ∈ lwA := lwA_1 121 (by rfl) (by rfl)
theorem wd_fieldLink_OneTricycle_Slots_11_OneTricycle_Slots_plays_LOneTricycle_Play_ : Cond.fieldLink RX4 11 "OneTricycle$Slots" "plays" "[LOneTricycle$Play;" ∈ lwA := lwA_1 144 (by rfl) (by rfl)
theorem wd_classLink_OneTricycle_Slots_9_OneTricycle_Play_ : Cond.classLink RX4 9 RX2 ∈ lwA := lwA_1 142 (by rfl) (by rfl)
theorem wd_methodLink_OneTricycle_Slots_3_java_lang_Object_init_V_ : Cond.methodLink RX4 3 objectInit ∈ lwA := lwA_1 141 (by rfl) (by rfl)
theorem wd_methodLink_OneTricycle_1_java_lang_Object_init_V_ : Cond.methodLink RX6 1 objectInit ∈ lwA := lwA_1 16 (by rfl) (by rfl)
theorem wd_classLink_OneTricycle_7_OneTricycle_Text_ : Cond.classLink RX6 7 RX5 ∈ lwA := lwA_1 19 (by rfl) (by rfl)
theorem wd_instantiable_OneTricycle_Text_2 : Cond.instantiable RX5 2 ∈ lwA := lwA_1 20 (by rfl) (by rfl)
theorem wd_code_X5_init : Cond.code yX5_init cX5_init 1 none ∈ lwA := lwA_1 23 (by rfl) (by rfl)
theorem wd_instanceMethod_OneTricycle_Text_init_V_ : Cond.instanceMethod yX5_init ∈ lwA := lwA_1 22 (by rfl) (by rfl)
theorem wd_classLink_OneTricycle_16_OneTricycle_Kids_ : Cond.classLink RX6 16 RX1 ∈ lwA := lwA_1 34 (by rfl) (by rfl)
theorem wd_instantiable_OneTricycle_Kids_3 : Cond.instantiable RX1 3 ∈ lwA := lwA_1 35 (by rfl) (by rfl)
theorem wd_code_X1_init : Cond.code yX1_init cX1_init 1 none ∈ lwA := lwA_1 38 (by rfl) (by rfl)
theorem wd_instanceMethod_OneTricycle_Kids_init_V_ : Cond.instanceMethod yX1_init ∈ lwA := lwA_1 37 (by rfl) (by rfl)
theorem wd_classLink_OneTricycle_23_OneTricycle_Play_ : Cond.classLink RX6 23 RX2 ∈ lwA := lwA_1 54 (by rfl) (by rfl)
theorem wd_classLink_OneTricycle_35_OneTricycle_Acts_ : Cond.classLink RX6 35 RX0 ∈ lwA := lwA_1 116 (by rfl) (by rfl)
theorem wd_instantiable_OneTricycle_Acts_3 : Cond.instantiable RX0 3 ∈ lwA := lwA_1 117 (by rfl) (by rfl)
theorem wd_code_X0_init : Cond.code yX0_init cX0_init 3 none ∈ lwA := lwA_1 120 (by rfl) (by rfl)
theorem wd_instanceMethod_OneTricycle_Acts_init_LOneTricycle_Kids_V_ : Cond.instanceMethod yX0_init ∈ lwA := lwA_1 119 (by rfl) (by rfl)
theorem wd_classLink_OneTricycle_42_OneTricycle_Slots_ : Cond.classLink RX6 42 RX4 ∈ lwA := lwA_1 136 (by rfl) (by rfl)
theorem wd_instantiable_OneTricycle_Slots_2 : Cond.instantiable RX4 2 ∈ lwA := lwA_1 137 (by rfl) (by rfl)
theorem wd_code_X4_init : Cond.code yX4_init cX4_init 3 none ∈ lwA := lwA_1 140 (by rfl) (by rfl)
theorem wd_instanceMethod_OneTricycle_Slots_init_LOneTricycle_Kids_V_ : Cond.instanceMethod yX4_init ∈ lwA := lwA_1 139 (by rfl) (by rfl)
theorem wd_classLink_OneTricycle_49_OneTricycle_Seen_ : Cond.classLink RX6 49 RX3 ∈ lwA := lwA_1 154 (by rfl) (by rfl)
theorem wd_instantiable_OneTricycle_Seen_3 : Cond.instantiable RX3 3 ∈ lwA := lwA_1 155 (by rfl) (by rfl)
theorem wd_code_X3_init : Cond.code yX3_init cX3_init 1 none ∈ lwA := lwA_1 158 (by rfl) (by rfl)
theorem wd_instanceMethod_OneTricycle_Seen_init_V_ : Cond.instanceMethod yX3_init ∈ lwA := lwA_1 157 (by rfl) (by rfl)
theorem mi_X2_init : MwY yX2_init cX2_init 2 none 1 := ⟨wd_code_X2_init, wd_initialized_OneTricycle_Play_, by decide +kernel, by decide +kernel, by decide +kernel⟩
theorem mi_X5_init : MwY yX5_init cX5_init 1 none 0 := ⟨wd_code_X5_init, wd_initialized_OneTricycle_Text_, by decide +kernel, by decide +kernel, by decide +kernel⟩
theorem mi_X1_init : MwY yX1_init cX1_init 1 none 0 := ⟨wd_code_X1_init, wd_initialized_OneTricycle_Kids_, by decide +kernel, by decide +kernel, by decide +kernel⟩
theorem mi_X0_init : MwY yX0_init cX0_init 3 none 1 := ⟨wd_code_X0_init, wd_initialized_OneTricycle_Acts_, by decide +kernel, by decide +kernel, by decide +kernel⟩
theorem mi_X4_init : MwY yX4_init cX4_init 3 none 1 := ⟨wd_code_X4_init, wd_initialized_OneTricycle_Slots_, by decide +kernel, by decide +kernel, by decide +kernel⟩
theorem mi_X3_init : MwY yX3_init cX3_init 1 none 0 := ⟨wd_code_X3_init, wd_initialized_OneTricycle_Seen_, by decide +kernel, by decide +kernel, by decide +kernel⟩
theorem ml_X0_24 : (RX0, 24, yX2_init, "OneTricycle") ∈ nestM := List.mem_of_getElem? (i := 4) (by rfl)
theorem ml_X4_21 : (RX4, 21, yX2_init, "OneTricycle") ∈ nestM := List.mem_of_getElem? (i := 6) (by rfl)
theorem ml_X6_9 : (RX6, 9, yX5_init, "OneTricycle") ∈ nestM := List.mem_of_getElem? (i := 0) (by rfl)
theorem ml_X6_18 : (RX6, 18, yX1_init, "OneTricycle") ∈ nestM := List.mem_of_getElem? (i := 1) (by rfl)
theorem ml_X6_25 : (RX6, 25, yX2_init, "OneTricycle") ∈ nestM := List.mem_of_getElem? (i := 2) (by rfl)
theorem ml_X6_37 : (RX6, 37, yX0_init, "OneTricycle") ∈ nestM := List.mem_of_getElem? (i := 3) (by rfl)
theorem ml_X6_44 : (RX6, 44, yX4_init, "OneTricycle") ∈ nestM := List.mem_of_getElem? (i := 5) (by rfl)
theorem ml_X6_51 : (RX6, 51, yX3_init, "OneTricycle") ∈ nestM := List.mem_of_getElem? (i := 7) (by rfl)
def PLs (E : Ev) (kid : Nat) (q : Nat → Nat → Nat) (n : Nat) : va_W := (List.range n).flatMap (fun k => plW E kid (q k 0) (q k))
def rfs (q : Nat → Nat → Nat) (n : Nat) : Nat → Option Nat := fun j => if j < n then some (q j 0) else none
def exq (q : Nat → Nat → Nat) (i x : Nat) (u : Nat → Nat) : Nat → Nat → Nat := fun k => if k = i then (fun s => if s = 0 then x else u s) else q k
theorem PLs_succ (E : Ev) (kid : Nat) (q : Nat → Nat → Nat) (i x : Nat) (u : Nat → Nat) : PLs E kid q i ++ plW E kid x u = PLs E kid (exq q i x u) (i + 1) := by
  unfold PLs
  rw [List.range_succ, List.flatMap_append, List.flatMap_singleton]
  have h1 : (List.range i).flatMap (fun k => plW E kid (q k 0) (q k)) = (List.range i).flatMap (fun k => plW E kid (exq q i x u k 0) (exq q i x u k)) := by
    rw [List.flatMap_def, List.flatMap_def]
    congr 1
    apply List.map_congr_left
    intro k hk
    have : k ≠ i := by have := List.mem_range.mp hk; omega
    unfold exq
    rw [if_neg this]
  have h2 : plW E kid x u = plW E kid (exq q i x u i 0) (exq q i x u i) := by
    simp [exq, plW]
  rw [h1, ← h2]
theorem PLs_len (E : Ev) (kid : Nat) (q : Nat → Nat → Nat) (n : Nat) : (PLs E kid q n).length = 7 * n := by
  induction n with
  | zero => rfl
  | succ n ih =>
    unfold PLs at ih ⊢
    rw [List.range_succ, List.flatMap_append, List.flatMap_singleton, List.length_append, ih]
    show 7 * n + 7 = 7 * (n + 1)
    omega
theorem rfs_succ (q : Nat → Nat → Nat) (i x : Nat) (u : Nat → Nat) : va_up (rfs q i) i (some x) = rfs (exq q i x u) (i + 1) := by
  funext j
  unfold va_up rfs exq
  by_cases h : j = i
  · subst h
    simp
  · rw [if_neg h]
    by_cases h2 : j < i
    · rw [if_pos h2, if_pos (by omega), if_neg h]
    · rw [if_neg h2, if_neg (by omega)]
def hdA (E : Ev) (o a : Nat) (f : Nat → Option Nat) (t : va_W) : va_W := (o, .inr (0, [.ref a, .int 0, .int 0])) :: (a, .inl (E.2.2.2, 14, .inr (.inr (.inr (.inr f))))) :: t
def hdS (E : Ev) (o a z : Nat) (f : Nat → Option Nat) (t : va_W) : va_W := (o, .inr (4, [.ref a, .ref z])) :: (a, .inl (E.2.2.2, 2, .inr (.inr (.inr (.inr f))))) :: (z, .inl (E.2.2.1, 2, .inl (fun _ => 0))) :: t
def acW (E : Ev) (kid o : Nat) (u : Nat × (Nat → Nat → Nat)) : va_W := hdA E o u.1 (rfs u.2 14) (PLs E kid u.2 14)
def slW (E : Ev) (kid o : Nat) (u : Nat × Nat × (Nat → Nat → Nat)) : va_W := hdS E o u.1 u.2.1 (rfs u.2.2 2) (PLs E kid u.2.2 2)
theorem at_len {ws w2 : va_W} {q : Nat × va_E} {n : Nat} (h : ws.length = n) : (ws ++ q :: w2)[n]? = some q := by subst h; simp

set_option maxHeartbeats 4000000 in
set_option maxRecDepth 100000 in
theorem loop_Acts {p : Program} {l : Launch} {e : Env} {s : State} {m : MethodId} {args : Array Value} {below : List Frame} {meth : Method} {c : Code} {E : Ev} {o kid a : Nat} (C : CallFix p m c cX0_init 3 s args lwA RX0) (hr : meth.sig.returnType = none) (hlk : meth.locks = false) (X : KX E s) (hA : ∀ x, s.heap.size ≤ x → (va_A [(o, .inr (0, [.null, .int 0, .int 0]))] s.heap.size) x) : ∀ (n i : Nat) (q : Nat → Nat → Nat) (H : Heap) (locs : List Loc) (ls : Array Slot), i ≤ 14 → 14 < i + n → lv_has ls 3 [(0, .ref o), (1, .ref kid), (2, .int (nI i))] → va_P E.1 vwCl (hdA E o a (rfs q i) (PLs E kid q i)) H → va_D (va_A [(o, .inr (0, [.null, .int 0, .int 0]))] s.heap.size) (hdA E o a (rfs q i) (PLs E kid q i)) → va_S (va_A [(o, .inr (0, [.null, .int 0, .int 0]))] s.heap.size) s.heap H locs → W p l e (RN 2 99 630 33) s m args below meth c H locs (1 + 7 * i) (14 + 44 * i) (MQ below (QcN E (o, .inr (0, [.null, .int 0, .int 0])) s.heap.size (acW E kid o)) args s 99 630 (va_A [(o, .inr (0, [.null, .int 0, .int 0]))] s.heap.size)) (F0 m 25 ls []) := by
  intro n
  induction n with
  | zero =>
    intro i q H locs ls h1 h2
    exact absurd h2 (by omega)
  | succ n ih =>
    intro i q H locs ls hi hn hl hP hD hS
    refine lv_iload_n C.1 C.2.1 dX0_init_25 rfl (lv_at hl 2 rfl) ?_
    refine lv_bipush (v := 14) C.1 C.2.1 dX0_init_26 (by decide) ?_
    refine lv_icmp_ge (tgt := 51) C.1 C.2.1 dX0_init_28 (by decide) (fun c1 => ?_) (fun c1 => ?_)
    · have e1 : i = 14 := by
        rcases Nat.lt_or_ge i 14 with h | h
        · exact absurd c1 (nI_ge h (by decide))
        · omega
      subst e1
      refine W.widen (k := 99) (n := 630) (Nat.le_of_ble_eq_true rfl) (Nat.le_of_ble_eq_true rfl) ?_
      exact x_nret (a, q) C hr hlk hP hD hS rfl dX0_init_51
    have hlt : i < 14 := by
      rcases Nat.lt_or_ge i 14 with h | h
      · exact h
      · exact absurd (nI_le h (by omega)) c1
    refine lv_aload_n C.1 C.2.1 dX0_init_31 rfl (lv_at hl 0 rfl) ?_
    refine va_get (D := E.1) (ci := 0) (v := .ref a) C.1 C.2.1 C.2.2.2.2 inA0 C.2.2.2.1 X.1 hP 0 rfl rfl 0 (by decide) (C.2.2.2.2 _ wd_fieldLink_OneTricycle_Acts_11_OneTricycle_Acts_before_LOneTricycle_Play_) (fun _ h9 => h9) rfl dX0_init_32 ?_
    refine lv_iload_n C.1 C.2.1 dX0_init_35 rfl (lv_at hl 2 rfl) ?_
    refine va_new (ci := 2) (fs := [.null, .int 0, .int 0, .int 0, .int 0, .int 0, .int 0, .int 0, .null, .null, .null, .null, .null, .null]) (C := RX2) (T := TX2) (N := 14) C.1 C.2.1 C.2.2.2.2 inA2 tyX2 tyX2_ok C.2.2.2.1 (C.2.2.2.2 _ wd_classLink_OneTricycle_Acts_9_OneTricycle_Play_) (C.2.2.2.2 _ wd_instantiable_OneTricycle_Play_14) (C.2.2.2.2 _ wd_initialized_OneTricycle_Play_) X.1 hP hD hS hA rfl (fun j hj => by rcases (show j = 0 ∨ j = 1 ∨ j = 2 ∨ j = 3 ∨ j = 4 ∨ j = 5 ∨ j = 6 ∨ j = 7 ∨ j = 8 ∨ j = 9 ∨ j = 10 ∨ j = 11 ∨ j = 12 ∨ j = 13 by omega) with rfl | rfl | rfl | rfl | rfl | rfl | rfl | rfl | rfl | rfl | rfl | rfl | rfl | rfl <;> rfl) (show 1 + 7 * i + 1 ≤ 99 by omega) (show 14 + 44 * i + 14 ≤ 630 by omega) dX0_init_36 (fun x H hP hD hS => ?_)
    refine lv_dup C.1 C.2.1 dX0_init_39 rfl ?_
    refine lv_aload_n C.1 C.2.1 dX0_init_40 rfl (lv_at hl 1 rfl) ?_
    refine x_initN (As := [.ref kid]) (rest := [.ref x, .int (nI i), .ref a]) C X hP hD hS hA (n_X2_init l E x H.size kid) mi_X2_init wd_instanceMethod_OneTricycle_Play_init_LOneTricycle_Kids_V_ rfl ml_X0_24 rfl hl.1 rfl (Nat.le_of_ble_eq_true rfl) ⟨⟨Nat.le_of_ble_eq_true rfl, Nat.le_of_ble_eq_true rfl⟩, show 1 + 7 * i + 1 + 6 ≤ 99 by omega, show 14 + 44 * i + 14 + 30 ≤ 630 by omega⟩ dX0_init_41 (fun u H locs hP hD hS => ?_)
    refine va_astq C.1 C.2.1 X.1 hP hD hS 1 2 (2 + 7 * i) 2 rfl rfl (at_len (by show (PLs E kid q i).length + 2 = _; rw [PLs_len]; omega)) rfl (vp_in_nI hlt (by decide)) dX0_init_44 (fun H locs hP hD hS => ?_)
    have ew : (hdA E o a (rfs q i) (PLs E kid q i) ++ plW E kid x u).set 1 (a, .inl (E.2.2.2, 14, .inr (.inr (.inr (.inr (va_up (rfs q i) (nI i).toNatClampNeg (some x))))))) = hdA E o a (rfs (exq q i x u) (i + 1)) (PLs E kid (exq q i x u) (i + 1)) := by
      rw [nI_clamp (by omega), rfs_succ q i x u, ← PLs_succ]
      rfl
    rw [ew] at hP hD
    refine lv_iinc (v := nI (i + 1)) (lv' := [(2, .int (nI (i + 1))), (0, .ref o), (1, .ref kid)]) C.1 C.2.1 dX0_init_45 hl (k := 2) rfl (nI_1 i) (by decide) rfl (fun ls hl => ?_)
    refine lv_goto (tgt := 25) C.1 C.2.1 dX0_init_48 (by decide) ?_
    refine W.widen (k := 1 + 7 * (i + 1)) (n := 14 + 44 * (i + 1)) (by omega) (by omega) ?_
    exact ih (i + 1) (exq q i x u) _ _ _ hlt (by omega) (lv_sub hl [1, 2, 0] rfl) hP hD hS

set_option maxHeartbeats 4000000 in
set_option maxRecDepth 100000 in
theorem n_X0_init (l : Launch) (E : Ev) (o sz kid : Nat) : CtN l yX0_init cX0_init 3 2 99 630 33 E (o, .inr (0, [.null, .int 0, .int 0])) sz [.ref o, .ref kid] (acW E kid o) := by
  refine x_beginN (by decide) (Nat.le_of_ble_eq_true rfl) ?_
  intro p e s m below meth c ls C hr hlk hin X hP hD hA hS hl
  replace hl : lv_has ls 3 [(0, .ref o), (1, .ref kid)] := hl
  replace C : CallFix p m c cX0_init 3 s ([.ref o, .ref kid] : List Value).toArray lwA RX0 := C
  replace hin : meth.name = "<init>" := hin
  refine lv_aload_n C.1 C.2.1 dX0_init_0 rfl (lv_at hl 0 rfl) ?_
  refine W.objInit C.1 C.2.1 C.2.2.2.1 (C.2.2.2.2 _ wd_methodLink_OneTricycle_Acts_3_java_lang_Object_init_V_) (C.2.2.2.2 _ wd_instanceMethod_java_lang_Object_init_V_) (C.2.2.2.2 _ wd_code_objectInit) rfl (by rw [C.2.2.1]; exact hl.1) rfl dX0_init_1 (Nat.le_of_ble_eq_true rfl) (Nat.le_of_ble_eq_true rfl) ?_
  refine W.eq (g2 := F0 m 4 ls []) rfl ?_
  refine lv_aload_n C.1 C.2.1 dX0_init_4 rfl (lv_at hl 0 rfl) ?_
  refine lv_bipush (v := 14) C.1 C.2.1 dX0_init_5 (by decide) ?_
  refine va_newq (C := "OneTricycle$Play") (N' := 14) C.1 C.2.1 C.2.2.2.1 (C.2.2.2.2 _ wd_classLink_OneTricycle_Acts_9_OneTricycle_Play_) X.2.2 X.1 hP hD hS hA (by decide) (by decide) (Nat.le_of_ble_eq_true rfl) (Nat.le_of_ble_eq_true rfl) (Nat.le_of_ble_eq_true rfl) dX0_init_7 (fun a cA H hK1 hP hD hS => ?_)
  have eA := arr_sameP X hK1
  subst eA
  refine va_putF (D := E.1) (ci := 0) (v := .ref a) C.1 C.2.1 C.2.2.2.2 inA0 tyX0 tyX0_ok nmX0 C.2.2.2.1 X.1 hP hD hS 0 rfl rfl 0 (by decide) (C.2.2.2.2 _ wd_fieldLink_OneTricycle_Acts_11_OneTricycle_Acts_before_LOneTricycle_Play_) (fun _ h9 => h9) rfl hin rfl (tyX0_ok 0 (by decide)) rfl rfl (Nat.le_of_ble_eq_true rfl) dX0_init_10 (fun H locs hP hD hS => ?_)
  refine lv_aload_n C.1 C.2.1 dX0_init_13 rfl (lv_at hl 0 rfl) ?_
  refine lv_iconst (v := 0) C.1 C.2.1 dX0_init_14 (by decide) ?_
  refine va_put (D := E.1) (ci := 0) (v := .int 0) C.1 C.2.1 C.2.2.2.2 inA0 tyX0 tyX0_ok nmX0 C.2.2.2.1 X.1 hP hD hS 0 rfl rfl 1 (by decide) (C.2.2.2.2 _ wd_fieldLink_OneTricycle_Acts_17_OneTricycle_Acts_count_I_) (fun _ h9 => h9) rfl (tyX0_ok 1 (by decide)) rfl rfl (Nat.le_of_ble_eq_true rfl) dX0_init_15 (fun H locs hP hD hS => ?_)
  refine lv_aload_n C.1 C.2.1 dX0_init_18 rfl (lv_at hl 0 rfl) ?_
  refine lv_iconst (v := 0) C.1 C.2.1 dX0_init_19 (by decide) ?_
  refine va_put (D := E.1) (ci := 0) (v := .int 0) C.1 C.2.1 C.2.2.2.2 inA0 tyX0 tyX0_ok nmX0 C.2.2.2.1 X.1 hP hD hS 0 rfl rfl 2 (by decide) (C.2.2.2.2 _ wd_fieldLink_OneTricycle_Acts_21_OneTricycle_Acts_end_I_) (fun _ h9 => h9) rfl (tyX0_ok 2 (by decide)) rfl rfl (Nat.le_of_ble_eq_true rfl) dX0_init_20 (fun H locs hP hD hS => ?_)
  refine lv_iconst (v := 0) C.1 C.2.1 dX0_init_23 (by decide) ?_
  refine lv_istore_n (lv' := [(2, .int 0), (0, .ref o), (1, .ref kid)]) C.1 C.2.1 dX0_init_24 rfl hl (by decide) rfl (fun ls hl => ?_)
  refine W.widen (k := 1 + 7 * 0) (n := 14 + 44 * 0) (Nat.le_of_ble_eq_true rfl) (Nat.le_of_ble_eq_true rfl) ?_
  exact loop_Acts C hr hlk X hA 15 0 (fun _ _ => 0) _ _ _ (by decide) (by decide) (lv_sub hl [1, 2, 0] rfl) hP hD hS

set_option maxHeartbeats 4000000 in
set_option maxRecDepth 100000 in
theorem loop_Slots {p : Program} {l : Launch} {e : Env} {s : State} {m : MethodId} {args : Array Value} {below : List Frame} {meth : Method} {c : Code} {E : Ev} {o kid a z : Nat} (C : CallFix p m c cX4_init 3 s args lwA RX4) (hr : meth.sig.returnType = none) (hlk : meth.locks = false) (X : KX E s) (hA : ∀ x, s.heap.size ≤ x → (va_A [(o, .inr (4, [.null, .null]))] s.heap.size) x) : ∀ (n i : Nat) (q : Nat → Nat → Nat) (H : Heap) (locs : List Loc) (ls : Array Slot), i ≤ 2 → 2 < i + n → lv_has ls 3 [(0, .ref o), (1, .ref kid), (2, .int (nI i))] → va_P E.1 vwCl (hdS E o a z (rfs q i) (PLs E kid q i)) H → va_D (va_A [(o, .inr (4, [.null, .null]))] s.heap.size) (hdS E o a z (rfs q i) (PLs E kid q i)) → va_S (va_A [(o, .inr (4, [.null, .null]))] s.heap.size) s.heap H locs → W p l e (RN 2 16 92 33) s m args below meth c H locs (2 + 7 * i) (4 + 44 * i) (MQ below (QcN E (o, .inr (4, [.null, .null])) s.heap.size (slW E kid o)) args s 16 92 (va_A [(o, .inr (4, [.null, .null]))] s.heap.size)) (F0 m 21 ls []) := by
  intro n
  induction n with
  | zero =>
    intro i q H locs ls h1 h2
    exact absurd h2 (by omega)
  | succ n ih =>
    intro i q H locs ls hi hn hl hP hD hS
    refine lv_iload_n C.1 C.2.1 dX4_init_21 rfl (lv_at hl 2 rfl) ?_
    refine lv_iconst (v := 2) C.1 C.2.1 dX4_init_22 (by decide) ?_
    refine lv_icmp_ge (tgt := 46) C.1 C.2.1 dX4_init_23 (by decide) (fun c1 => ?_) (fun c1 => ?_)
    · have e1 : i = 2 := by
        rcases Nat.lt_or_ge i 2 with h | h
        · exact absurd c1 (nI_ge h (by decide))
        · omega
      subst e1
      refine W.widen (k := 16) (n := 92) (Nat.le_of_ble_eq_true rfl) (Nat.le_of_ble_eq_true rfl) ?_
      exact x_nret (a, z, q) C hr hlk hP hD hS rfl dX4_init_46
    have hlt : i < 2 := by
      rcases Nat.lt_or_ge i 2 with h | h
      · exact h
      · exact absurd (nI_le h (by omega)) c1
    refine lv_aload_n C.1 C.2.1 dX4_init_26 rfl (lv_at hl 0 rfl) ?_
    refine va_get (D := E.1) (ci := 4) (v := .ref a) C.1 C.2.1 C.2.2.2.2 inA4 C.2.2.2.1 X.1 hP 0 rfl rfl 0 (by decide) (C.2.2.2.2 _ wd_fieldLink_OneTricycle_Slots_11_OneTricycle_Slots_plays_LOneTricycle_Play_) (fun _ h9 => h9) rfl dX4_init_27 ?_
    refine lv_iload_n C.1 C.2.1 dX4_init_30 rfl (lv_at hl 2 rfl) ?_
    refine va_new (ci := 2) (fs := [.null, .int 0, .int 0, .int 0, .int 0, .int 0, .int 0, .int 0, .null, .null, .null, .null, .null, .null]) (C := RX2) (T := TX2) (N := 14) C.1 C.2.1 C.2.2.2.2 inA2 tyX2 tyX2_ok C.2.2.2.1 (C.2.2.2.2 _ wd_classLink_OneTricycle_Slots_9_OneTricycle_Play_) (C.2.2.2.2 _ wd_instantiable_OneTricycle_Play_14) (C.2.2.2.2 _ wd_initialized_OneTricycle_Play_) X.1 hP hD hS hA rfl (fun j hj => by rcases (show j = 0 ∨ j = 1 ∨ j = 2 ∨ j = 3 ∨ j = 4 ∨ j = 5 ∨ j = 6 ∨ j = 7 ∨ j = 8 ∨ j = 9 ∨ j = 10 ∨ j = 11 ∨ j = 12 ∨ j = 13 by omega) with rfl | rfl | rfl | rfl | rfl | rfl | rfl | rfl | rfl | rfl | rfl | rfl | rfl | rfl <;> rfl) (show 2 + 7 * i + 1 ≤ 16 by omega) (show 4 + 44 * i + 14 ≤ 92 by omega) dX4_init_31 (fun x H hP hD hS => ?_)
    refine lv_dup C.1 C.2.1 dX4_init_34 rfl ?_
    refine lv_aload_n C.1 C.2.1 dX4_init_35 rfl (lv_at hl 1 rfl) ?_
    refine x_initN (As := [.ref kid]) (rest := [.ref x, .int (nI i), .ref a]) C X hP hD hS hA (n_X2_init l E x H.size kid) mi_X2_init wd_instanceMethod_OneTricycle_Play_init_LOneTricycle_Kids_V_ rfl ml_X4_21 rfl hl.1 rfl (Nat.le_of_ble_eq_true rfl) ⟨⟨Nat.le_of_ble_eq_true rfl, Nat.le_of_ble_eq_true rfl⟩, show 2 + 7 * i + 1 + 6 ≤ 16 by omega, show 4 + 44 * i + 14 + 30 ≤ 92 by omega⟩ dX4_init_36 (fun u H locs hP hD hS => ?_)
    refine va_astq C.1 C.2.1 X.1 hP hD hS 1 2 (3 + 7 * i) 2 rfl rfl (at_len (by show (PLs E kid q i).length + 3 = _; rw [PLs_len]; omega)) rfl (vp_in_nI hlt (by decide)) dX4_init_39 (fun H locs hP hD hS => ?_)
    have ew : (hdS E o a z (rfs q i) (PLs E kid q i) ++ plW E kid x u).set 1 (a, .inl (E.2.2.2, 2, .inr (.inr (.inr (.inr (va_up (rfs q i) (nI i).toNatClampNeg (some x))))))) = hdS E o a z (rfs (exq q i x u) (i + 1)) (PLs E kid (exq q i x u) (i + 1)) := by
      rw [nI_clamp (by omega), rfs_succ q i x u, ← PLs_succ]
      rfl
    rw [ew] at hP hD
    refine lv_iinc (v := nI (i + 1)) (lv' := [(2, .int (nI (i + 1))), (0, .ref o), (1, .ref kid)]) C.1 C.2.1 dX4_init_40 hl (k := 2) rfl (nI_1 i) (by decide) rfl (fun ls hl => ?_)
    refine lv_goto (tgt := 21) C.1 C.2.1 dX4_init_43 (by decide) ?_
    refine W.widen (k := 2 + 7 * (i + 1)) (n := 4 + 44 * (i + 1)) (by omega) (by omega) ?_
    exact ih (i + 1) (exq q i x u) _ _ _ hlt (by omega) (lv_sub hl [1, 2, 0] rfl) hP hD hS

set_option maxHeartbeats 4000000 in
set_option maxRecDepth 100000 in
theorem n_X4_init (l : Launch) (E : Ev) (o sz kid : Nat) : CtN l yX4_init cX4_init 3 2 16 92 33 E (o, .inr (4, [.null, .null])) sz [.ref o, .ref kid] (slW E kid o) := by
  refine x_beginN (by decide) (Nat.le_of_ble_eq_true rfl) ?_
  intro p e s m below meth c ls C hr hlk hin X hP hD hA hS hl
  replace hl : lv_has ls 3 [(0, .ref o), (1, .ref kid)] := hl
  replace C : CallFix p m c cX4_init 3 s ([.ref o, .ref kid] : List Value).toArray lwA RX4 := C
  replace hin : meth.name = "<init>" := hin
  refine lv_aload_n C.1 C.2.1 dX4_init_0 rfl (lv_at hl 0 rfl) ?_
  refine W.objInit C.1 C.2.1 C.2.2.2.1 (C.2.2.2.2 _ wd_methodLink_OneTricycle_Slots_3_java_lang_Object_init_V_) (C.2.2.2.2 _ wd_instanceMethod_java_lang_Object_init_V_) (C.2.2.2.2 _ wd_code_objectInit) rfl (by rw [C.2.2.1]; exact hl.1) rfl dX4_init_1 (Nat.le_of_ble_eq_true rfl) (Nat.le_of_ble_eq_true rfl) ?_
  refine W.eq (g2 := F0 m 4 ls []) rfl ?_
  refine lv_aload_n C.1 C.2.1 dX4_init_4 rfl (lv_at hl 0 rfl) ?_
  refine lv_iconst (v := 2) C.1 C.2.1 dX4_init_5 (by decide) ?_
  refine va_newq (C := "OneTricycle$Play") (N' := 2) C.1 C.2.1 C.2.2.2.1 (C.2.2.2.2 _ wd_classLink_OneTricycle_Slots_9_OneTricycle_Play_) X.2.2 X.1 hP hD hS hA (by decide) (by decide) (Nat.le_of_ble_eq_true rfl) (Nat.le_of_ble_eq_true rfl) (Nat.le_of_ble_eq_true rfl) dX4_init_6 (fun a cA H hK1 hP hD hS => ?_)
  have eA := arr_sameP X hK1
  subst eA
  refine va_putF (D := E.1) (ci := 4) (v := .ref a) C.1 C.2.1 C.2.2.2.2 inA4 tyX4 tyX4_ok nmX4 C.2.2.2.1 X.1 hP hD hS 0 rfl rfl 0 (by decide) (C.2.2.2.2 _ wd_fieldLink_OneTricycle_Slots_11_OneTricycle_Slots_plays_LOneTricycle_Play_) (fun _ h9 => h9) rfl hin rfl (tyX4_ok 0 (by decide)) rfl rfl (Nat.le_of_ble_eq_true rfl) dX4_init_9 (fun H locs hP hD hS => ?_)
  refine lv_aload_n C.1 C.2.1 dX4_init_12 rfl (lv_at hl 0 rfl) ?_
  refine lv_iconst (v := 2) C.1 C.2.1 dX4_init_13 (by decide) ?_
  refine va_newa (atype := .boolean) (ty := .boolean) (a0 := (2, .inl (fun _ => 0))) (N' := 2) C.1 C.2.1 (C.2.2.2.2 _ wd_arrayClass_FT_boolean) rfl X.1 hP hD hS hA (fun _ => rfl) (by decide) (by decide) (Nat.le_of_ble_eq_true rfl) (Nat.le_of_ble_eq_true rfl) (Nat.le_of_ble_eq_true rfl) dX4_init_14 (fun z cA H hK1 hP hD hS => ?_)
  have eA := arr_sameZ X hK1
  subst eA
  refine va_putF (D := E.1) (ci := 4) (v := .ref z) C.1 C.2.1 C.2.2.2.2 inA4 tyX4 tyX4_ok nmX4 C.2.2.2.1 X.1 hP hD hS 0 rfl rfl 1 (by decide) (C.2.2.2.2 _ wd_fieldLink_OneTricycle_Slots_17_OneTricycle_Slots_kept_Z_) (fun _ h9 => h9) rfl hin rfl (tyX4_ok 1 (by decide)) rfl rfl (Nat.le_of_ble_eq_true rfl) dX4_init_16 (fun H locs hP hD hS => ?_)
  refine lv_iconst (v := 0) C.1 C.2.1 dX4_init_19 (by decide) ?_
  refine lv_istore_n (lv' := [(2, .int 0), (0, .ref o), (1, .ref kid)]) C.1 C.2.1 dX4_init_20 rfl hl (by decide) rfl (fun ls hl => ?_)
  refine W.widen (k := 2 + 7 * 0) (n := 4 + 44 * 0) (Nat.le_of_ble_eq_true rfl) (Nat.le_of_ble_eq_true rfl) ?_
  exact loop_Slots C hr hlk X hA 3 0 (fun _ _ => 0) _ _ _ (by decide) (by decide) (lv_sub hl [1, 2, 0] rfl) hP hD hS

def otW (E : Ev) (o : Nat) (w : (Nat × (Nat → Nat)) × (Nat × (Nat → Nat)) × (Nat × (Nat → Nat)) × (Nat × (Nat → Nat)) × (Nat × Nat × (Nat → Nat → Nat)) × (Nat × Nat × Nat × (Nat → Nat → Nat)) × (Nat × (Nat → Nat)) × Nat) : va_W := (o, .inr (6, [.ref w.1.1, .ref w.2.1.1, .ref w.2.2.1.1, .ref w.2.2.2.1.1, .ref w.2.2.2.2.1.1, .ref w.2.2.2.2.2.1.1, .ref w.2.2.2.2.2.2.1.1, .ref w.2.2.2.2.2.2.2, .long 0])) :: (((((((txW E w.1.1 w.1.2 ++ kdW E w.2.1.1 w.2.1.2) ++ plW E w.2.1.1 w.2.2.1.1 w.2.2.1.2) ++ plW E w.2.1.1 w.2.2.2.1.1 w.2.2.2.1.2) ++ acW E w.2.1.1 w.2.2.2.2.1.1 w.2.2.2.2.1.2) ++ slW E w.2.1.1 w.2.2.2.2.2.1.1 w.2.2.2.2.2.1.2) ++ snW E w.2.2.2.2.2.2.1.1 w.2.2.2.2.2.2.1.2) ++ [(w.2.2.2.2.2.2.2, .inl (E.2.1, 32, .inl (fun _ => 0)))])
set_option maxHeartbeats 4000000 in
set_option maxRecDepth 100000 in
theorem n_X6_init (l : Launch) (E : Ev) (o sz : Nat) : CtN l yX6_init cX6_init 1 3 140 909 55 E (o, .inr (6, [.null, .null, .null, .null, .null, .null, .null, .null, .long 0])) sz [.ref o] (otW E o) := by
  refine x_beginN (by decide) (Nat.le_of_ble_eq_true rfl) ?_
  intro p e s m below meth c ls C hr hlk hin X hP hD hA hS hl
  replace hl : lv_has ls 1 [(0, .ref o)] := hl
  replace C : CallFix p m c cX6_init 1 s ([.ref o] : List Value).toArray lwA RX6 := C
  replace hin : meth.name = "<init>" := hin
  refine lv_aload_n C.1 C.2.1 dX6_init_0 rfl (lv_at hl 0 rfl) ?_
  refine W.objInit C.1 C.2.1 C.2.2.2.1 (C.2.2.2.2 _ wd_methodLink_OneTricycle_1_java_lang_Object_init_V_) (C.2.2.2.2 _ wd_instanceMethod_java_lang_Object_init_V_) (C.2.2.2.2 _ wd_code_objectInit) rfl (by rw [C.2.2.1]; exact hl.1) rfl dX6_init_1 (Nat.le_of_ble_eq_true rfl) (Nat.le_of_ble_eq_true rfl) ?_
  refine W.eq (g2 := F0 m 4 ls []) rfl ?_
  refine lv_aload_n C.1 C.2.1 dX6_init_4 rfl (lv_at hl 0 rfl) ?_
  refine va_new (ci := 5) (fs := [.null, .int 0]) (C := RX5) (T := TX5) (N := 2) C.1 C.2.1 C.2.2.2.2 inA5 tyX5 tyX5_ok C.2.2.2.1 (C.2.2.2.2 _ wd_classLink_OneTricycle_7_OneTricycle_Text_) (C.2.2.2.2 _ wd_instantiable_OneTricycle_Text_2) (C.2.2.2.2 _ wd_initialized_OneTricycle_Text_) X.1 hP hD hS hA rfl (fun j hj => by rcases (show j = 0 ∨ j = 1 by omega) with rfl | rfl <;> rfl) (Nat.le_of_ble_eq_true rfl) (Nat.le_of_ble_eq_true rfl) dX6_init_5 (fun q1 H hP hD hS => ?_)
  refine W.widen (k := 1) (n := 2) (Nat.le_of_ble_eq_true rfl) (Nat.le_of_ble_eq_true rfl) ?_
  refine lv_dup C.1 C.2.1 dX6_init_8 rfl ?_
  refine x_initN (As := []) (rest := [.ref q1, .ref o]) C X hP hD hS hA (n_X5_init l E q1 H.size) mi_X5_init wd_instanceMethod_OneTricycle_Text_init_V_ rfl ml_X6_9 rfl hl.1 rfl (Nat.le_of_ble_eq_true rfl) ⟨⟨Nat.le_of_ble_eq_true rfl, Nat.le_of_ble_eq_true rfl⟩, Nat.le_of_ble_eq_true rfl, Nat.le_of_ble_eq_true rfl⟩ dX6_init_9 (fun u1 H locs hP hD hS => ?_)
  refine W.widen (k := 2) (n := 34) (Nat.le_of_ble_eq_true rfl) (Nat.le_of_ble_eq_true rfl) ?_
  replace hP : va_P E.1 vwCl ((o, .inr (6, [.null, .null, .null, .null, .null, .null, .null, .null, .long 0])) :: txW E q1 u1) H := hP
  replace hD : va_D _ ((o, .inr (6, [.null, .null, .null, .null, .null, .null, .null, .null, .long 0])) :: txW E q1 u1) := hD
  refine va_putF (D := E.1) (ci := 6) (v := .ref q1) C.1 C.2.1 C.2.2.2.2 inA6 tyX6 tyX6_ok nmX6 C.2.2.2.1 X.1 hP hD hS 0 rfl rfl 0 (by decide) (C.2.2.2.2 _ wd_fieldLink_OneTricycle_10_OneTricycle_text_LOneTricycle_Text_) (fun _ h9 => h9) rfl hin rfl (tyX6_ok 0 (by decide)) rfl rfl (Nat.le_of_ble_eq_true rfl) dX6_init_12 (fun H locs hP hD hS => ?_)
  replace hP : va_P E.1 vwCl ((o, .inr (6, [.ref q1, .null, .null, .null, .null, .null, .null, .null, .long 0])) :: txW E q1 u1) H := hP
  replace hD : va_D _ ((o, .inr (6, [.ref q1, .null, .null, .null, .null, .null, .null, .null, .long 0])) :: txW E q1 u1) := hD
  refine lv_aload_n C.1 C.2.1 dX6_init_15 rfl (lv_at hl 0 rfl) ?_
  refine va_new (ci := 1) (fs := [.int 0, .null, .null]) (C := RX1) (T := TX1) (N := 3) C.1 C.2.1 C.2.2.2.2 inA1 tyX1 tyX1_ok C.2.2.2.1 (C.2.2.2.2 _ wd_classLink_OneTricycle_16_OneTricycle_Kids_) (C.2.2.2.2 _ wd_instantiable_OneTricycle_Kids_3) (C.2.2.2.2 _ wd_initialized_OneTricycle_Kids_) X.1 hP hD hS hA rfl (fun j hj => by rcases (show j = 0 ∨ j = 1 ∨ j = 2 by omega) with rfl | rfl | rfl <;> rfl) (Nat.le_of_ble_eq_true rfl) (Nat.le_of_ble_eq_true rfl) dX6_init_16 (fun q2 H hP hD hS => ?_)
  refine W.widen (k := 3) (n := 37) (Nat.le_of_ble_eq_true rfl) (Nat.le_of_ble_eq_true rfl) ?_
  refine lv_dup C.1 C.2.1 dX6_init_19 rfl ?_
  refine x_initN (As := []) (rest := [.ref q2, .ref o]) C X hP hD hS hA (n_X1_init l E q2 H.size) mi_X1_init wd_instanceMethod_OneTricycle_Kids_init_V_ rfl ml_X6_18 rfl hl.1 rfl (Nat.le_of_ble_eq_true rfl) ⟨⟨Nat.le_of_ble_eq_true rfl, Nat.le_of_ble_eq_true rfl⟩, Nat.le_of_ble_eq_true rfl, Nat.le_of_ble_eq_true rfl⟩ dX6_init_20 (fun u2 H locs hP hD hS => ?_)
  refine W.widen (k := 5) (n := 47) (Nat.le_of_ble_eq_true rfl) (Nat.le_of_ble_eq_true rfl) ?_
  replace hP : va_P E.1 vwCl ((o, .inr (6, [.ref q1, .null, .null, .null, .null, .null, .null, .null, .long 0])) :: (txW E q1 u1 ++ kdW E q2 u2)) H := hP
  replace hD : va_D _ ((o, .inr (6, [.ref q1, .null, .null, .null, .null, .null, .null, .null, .long 0])) :: (txW E q1 u1 ++ kdW E q2 u2)) := hD
  refine va_putF (D := E.1) (ci := 6) (v := .ref q2) C.1 C.2.1 C.2.2.2.2 inA6 tyX6 tyX6_ok nmX6 C.2.2.2.1 X.1 hP hD hS 0 rfl rfl 1 (by decide) (C.2.2.2.2 _ wd_fieldLink_OneTricycle_19_OneTricycle_kids_LOneTricycle_Kids_) (fun _ h9 => h9) rfl hin rfl (tyX6_ok 1 (by decide)) rfl rfl (Nat.le_of_ble_eq_true rfl) dX6_init_23 (fun H locs hP hD hS => ?_)
  replace hP : va_P E.1 vwCl ((o, .inr (6, [.ref q1, .ref q2, .null, .null, .null, .null, .null, .null, .long 0])) :: (txW E q1 u1 ++ kdW E q2 u2)) H := hP
  replace hD : va_D _ ((o, .inr (6, [.ref q1, .ref q2, .null, .null, .null, .null, .null, .null, .long 0])) :: (txW E q1 u1 ++ kdW E q2 u2)) := hD
  refine lv_aload_n C.1 C.2.1 dX6_init_26 rfl (lv_at hl 0 rfl) ?_
  refine va_new (ci := 2) (fs := [.null, .int 0, .int 0, .int 0, .int 0, .int 0, .int 0, .int 0, .null, .null, .null, .null, .null, .null]) (C := RX2) (T := TX2) (N := 14) C.1 C.2.1 C.2.2.2.2 inA2 tyX2 tyX2_ok C.2.2.2.1 (C.2.2.2.2 _ wd_classLink_OneTricycle_23_OneTricycle_Play_) (C.2.2.2.2 _ wd_instantiable_OneTricycle_Play_14) (C.2.2.2.2 _ wd_initialized_OneTricycle_Play_) X.1 hP hD hS hA rfl (fun j hj => by rcases (show j = 0 ∨ j = 1 ∨ j = 2 ∨ j = 3 ∨ j = 4 ∨ j = 5 ∨ j = 6 ∨ j = 7 ∨ j = 8 ∨ j = 9 ∨ j = 10 ∨ j = 11 ∨ j = 12 ∨ j = 13 by omega) with rfl | rfl | rfl | rfl | rfl | rfl | rfl | rfl | rfl | rfl | rfl | rfl | rfl | rfl <;> rfl) (Nat.le_of_ble_eq_true rfl) (Nat.le_of_ble_eq_true rfl) dX6_init_27 (fun q3 H hP hD hS => ?_)
  refine W.widen (k := 6) (n := 61) (Nat.le_of_ble_eq_true rfl) (Nat.le_of_ble_eq_true rfl) ?_
  refine lv_dup C.1 C.2.1 dX6_init_30 rfl ?_
  refine lv_aload_n C.1 C.2.1 dX6_init_31 rfl (lv_at hl 0 rfl) ?_
  refine va_get (D := E.1) (ci := 6) (v := .ref q2) C.1 C.2.1 C.2.2.2.2 inA6 C.2.2.2.1 X.1 hP 0 rfl rfl 1 (by decide) (C.2.2.2.2 _ wd_fieldLink_OneTricycle_19_OneTricycle_kids_LOneTricycle_Kids_) (fun _ h9 => h9) rfl dX6_init_32 ?_
  refine x_initN (As := [.ref q2]) (rest := [.ref q3, .ref o]) C X hP hD hS hA (n_X2_init l E q3 H.size q2) mi_X2_init wd_instanceMethod_OneTricycle_Play_init_LOneTricycle_Kids_V_ rfl ml_X6_25 rfl hl.1 rfl (Nat.le_of_ble_eq_true rfl) ⟨⟨Nat.le_of_ble_eq_true rfl, Nat.le_of_ble_eq_true rfl⟩, Nat.le_of_ble_eq_true rfl, Nat.le_of_ble_eq_true rfl⟩ dX6_init_35 (fun u3 H locs hP hD hS => ?_)
  refine W.widen (k := 12) (n := 91) (Nat.le_of_ble_eq_true rfl) (Nat.le_of_ble_eq_true rfl) ?_
  replace hP : va_P E.1 vwCl ((o, .inr (6, [.ref q1, .ref q2, .null, .null, .null, .null, .null, .null, .long 0])) :: ((txW E q1 u1 ++ kdW E q2 u2) ++ plW E q2 q3 u3)) H := hP
  replace hD : va_D _ ((o, .inr (6, [.ref q1, .ref q2, .null, .null, .null, .null, .null, .null, .long 0])) :: ((txW E q1 u1 ++ kdW E q2 u2) ++ plW E q2 q3 u3)) := hD
  refine va_putF (D := E.1) (ci := 6) (v := .ref q3) C.1 C.2.1 C.2.2.2.2 inA6 tyX6 tyX6_ok nmX6 C.2.2.2.1 X.1 hP hD hS 0 rfl rfl 2 (by decide) (C.2.2.2.2 _ wd_fieldLink_OneTricycle_28_OneTricycle_now_LOneTricycle_Play_) (fun _ h9 => h9) rfl hin rfl (tyX6_ok 2 (by decide)) rfl rfl (Nat.le_of_ble_eq_true rfl) dX6_init_38 (fun H locs hP hD hS => ?_)
  replace hP : va_P E.1 vwCl ((o, .inr (6, [.ref q1, .ref q2, .ref q3, .null, .null, .null, .null, .null, .long 0])) :: ((txW E q1 u1 ++ kdW E q2 u2) ++ plW E q2 q3 u3)) H := hP
  replace hD : va_D _ ((o, .inr (6, [.ref q1, .ref q2, .ref q3, .null, .null, .null, .null, .null, .long 0])) :: ((txW E q1 u1 ++ kdW E q2 u2) ++ plW E q2 q3 u3)) := hD
  refine lv_aload_n C.1 C.2.1 dX6_init_41 rfl (lv_at hl 0 rfl) ?_
  refine va_new (ci := 2) (fs := [.null, .int 0, .int 0, .int 0, .int 0, .int 0, .int 0, .int 0, .null, .null, .null, .null, .null, .null]) (C := RX2) (T := TX2) (N := 14) C.1 C.2.1 C.2.2.2.2 inA2 tyX2 tyX2_ok C.2.2.2.1 (C.2.2.2.2 _ wd_classLink_OneTricycle_23_OneTricycle_Play_) (C.2.2.2.2 _ wd_instantiable_OneTricycle_Play_14) (C.2.2.2.2 _ wd_initialized_OneTricycle_Play_) X.1 hP hD hS hA rfl (fun j hj => by rcases (show j = 0 ∨ j = 1 ∨ j = 2 ∨ j = 3 ∨ j = 4 ∨ j = 5 ∨ j = 6 ∨ j = 7 ∨ j = 8 ∨ j = 9 ∨ j = 10 ∨ j = 11 ∨ j = 12 ∨ j = 13 by omega) with rfl | rfl | rfl | rfl | rfl | rfl | rfl | rfl | rfl | rfl | rfl | rfl | rfl | rfl <;> rfl) (Nat.le_of_ble_eq_true rfl) (Nat.le_of_ble_eq_true rfl) dX6_init_42 (fun q4 H hP hD hS => ?_)
  refine W.widen (k := 13) (n := 105) (Nat.le_of_ble_eq_true rfl) (Nat.le_of_ble_eq_true rfl) ?_
  refine lv_dup C.1 C.2.1 dX6_init_45 rfl ?_
  refine lv_aload_n C.1 C.2.1 dX6_init_46 rfl (lv_at hl 0 rfl) ?_
  refine va_get (D := E.1) (ci := 6) (v := .ref q2) C.1 C.2.1 C.2.2.2.2 inA6 C.2.2.2.1 X.1 hP 0 rfl rfl 1 (by decide) (C.2.2.2.2 _ wd_fieldLink_OneTricycle_19_OneTricycle_kids_LOneTricycle_Kids_) (fun _ h9 => h9) rfl dX6_init_47 ?_
  refine x_initN (As := [.ref q2]) (rest := [.ref q4, .ref o]) C X hP hD hS hA (n_X2_init l E q4 H.size q2) mi_X2_init wd_instanceMethod_OneTricycle_Play_init_LOneTricycle_Kids_V_ rfl ml_X6_25 rfl hl.1 rfl (Nat.le_of_ble_eq_true rfl) ⟨⟨Nat.le_of_ble_eq_true rfl, Nat.le_of_ble_eq_true rfl⟩, Nat.le_of_ble_eq_true rfl, Nat.le_of_ble_eq_true rfl⟩ dX6_init_50 (fun u4 H locs hP hD hS => ?_)
  refine W.widen (k := 19) (n := 135) (Nat.le_of_ble_eq_true rfl) (Nat.le_of_ble_eq_true rfl) ?_
  replace hP : va_P E.1 vwCl ((o, .inr (6, [.ref q1, .ref q2, .ref q3, .null, .null, .null, .null, .null, .long 0])) :: (((txW E q1 u1 ++ kdW E q2 u2) ++ plW E q2 q3 u3) ++ plW E q2 q4 u4)) H := hP
  replace hD : va_D _ ((o, .inr (6, [.ref q1, .ref q2, .ref q3, .null, .null, .null, .null, .null, .long 0])) :: (((txW E q1 u1 ++ kdW E q2 u2) ++ plW E q2 q3 u3) ++ plW E q2 q4 u4)) := hD
  refine va_putF (D := E.1) (ci := 6) (v := .ref q4) C.1 C.2.1 C.2.2.2.2 inA6 tyX6 tyX6_ok nmX6 C.2.2.2.1 X.1 hP hD hS 0 rfl rfl 3 (by decide) (C.2.2.2.2 _ wd_fieldLink_OneTricycle_32_OneTricycle_then_LOneTricycle_Play_) (fun _ h9 => h9) rfl hin rfl (tyX6_ok 3 (by decide)) rfl rfl (Nat.le_of_ble_eq_true rfl) dX6_init_53 (fun H locs hP hD hS => ?_)
  replace hP : va_P E.1 vwCl ((o, .inr (6, [.ref q1, .ref q2, .ref q3, .ref q4, .null, .null, .null, .null, .long 0])) :: (((txW E q1 u1 ++ kdW E q2 u2) ++ plW E q2 q3 u3) ++ plW E q2 q4 u4)) H := hP
  replace hD : va_D _ ((o, .inr (6, [.ref q1, .ref q2, .ref q3, .ref q4, .null, .null, .null, .null, .long 0])) :: (((txW E q1 u1 ++ kdW E q2 u2) ++ plW E q2 q3 u3) ++ plW E q2 q4 u4)) := hD
  refine lv_aload_n C.1 C.2.1 dX6_init_56 rfl (lv_at hl 0 rfl) ?_
  refine va_new (ci := 0) (fs := [.null, .int 0, .int 0]) (C := RX0) (T := TX0) (N := 3) C.1 C.2.1 C.2.2.2.2 inA0 tyX0 tyX0_ok C.2.2.2.1 (C.2.2.2.2 _ wd_classLink_OneTricycle_35_OneTricycle_Acts_) (C.2.2.2.2 _ wd_instantiable_OneTricycle_Acts_3) (C.2.2.2.2 _ wd_initialized_OneTricycle_Acts_) X.1 hP hD hS hA rfl (fun j hj => by rcases (show j = 0 ∨ j = 1 ∨ j = 2 by omega) with rfl | rfl | rfl <;> rfl) (Nat.le_of_ble_eq_true rfl) (Nat.le_of_ble_eq_true rfl) dX6_init_57 (fun q5 H hP hD hS => ?_)
  refine W.widen (k := 20) (n := 138) (Nat.le_of_ble_eq_true rfl) (Nat.le_of_ble_eq_true rfl) ?_
  refine lv_dup C.1 C.2.1 dX6_init_60 rfl ?_
  refine lv_aload_n C.1 C.2.1 dX6_init_61 rfl (lv_at hl 0 rfl) ?_
  refine va_get (D := E.1) (ci := 6) (v := .ref q2) C.1 C.2.1 C.2.2.2.2 inA6 C.2.2.2.1 X.1 hP 0 rfl rfl 1 (by decide) (C.2.2.2.2 _ wd_fieldLink_OneTricycle_19_OneTricycle_kids_LOneTricycle_Kids_) (fun _ h9 => h9) rfl dX6_init_62 ?_
  refine x_initN (As := [.ref q2]) (rest := [.ref q5, .ref o]) C X hP hD hS hA (n_X0_init l E q5 H.size q2) mi_X0_init wd_instanceMethod_OneTricycle_Acts_init_LOneTricycle_Kids_V_ rfl ml_X6_37 rfl hl.1 rfl (Nat.le_of_ble_eq_true rfl) ⟨⟨Nat.le_of_ble_eq_true rfl, Nat.le_of_ble_eq_true rfl⟩, Nat.le_of_ble_eq_true rfl, Nat.le_of_ble_eq_true rfl⟩ dX6_init_65 (fun u5 H locs hP hD hS => ?_)
  refine W.widen (k := 119) (n := 768) (Nat.le_of_ble_eq_true rfl) (Nat.le_of_ble_eq_true rfl) ?_
  replace hP : va_P E.1 vwCl ((o, .inr (6, [.ref q1, .ref q2, .ref q3, .ref q4, .null, .null, .null, .null, .long 0])) :: ((((txW E q1 u1 ++ kdW E q2 u2) ++ plW E q2 q3 u3) ++ plW E q2 q4 u4) ++ acW E q2 q5 u5)) H := hP
  replace hD : va_D _ ((o, .inr (6, [.ref q1, .ref q2, .ref q3, .ref q4, .null, .null, .null, .null, .long 0])) :: ((((txW E q1 u1 ++ kdW E q2 u2) ++ plW E q2 q3 u3) ++ plW E q2 q4 u4) ++ acW E q2 q5 u5)) := hD
  refine va_putF (D := E.1) (ci := 6) (v := .ref q5) C.1 C.2.1 C.2.2.2.2 inA6 tyX6 tyX6_ok nmX6 C.2.2.2.1 X.1 hP hD hS 0 rfl rfl 4 (by decide) (C.2.2.2.2 _ wd_fieldLink_OneTricycle_38_OneTricycle_acts_LOneTricycle_Acts_) (fun _ h9 => h9) rfl hin rfl (tyX6_ok 4 (by decide)) rfl rfl (Nat.le_of_ble_eq_true rfl) dX6_init_68 (fun H locs hP hD hS => ?_)
  replace hP : va_P E.1 vwCl ((o, .inr (6, [.ref q1, .ref q2, .ref q3, .ref q4, .ref q5, .null, .null, .null, .long 0])) :: ((((txW E q1 u1 ++ kdW E q2 u2) ++ plW E q2 q3 u3) ++ plW E q2 q4 u4) ++ acW E q2 q5 u5)) H := hP
  replace hD : va_D _ ((o, .inr (6, [.ref q1, .ref q2, .ref q3, .ref q4, .ref q5, .null, .null, .null, .long 0])) :: ((((txW E q1 u1 ++ kdW E q2 u2) ++ plW E q2 q3 u3) ++ plW E q2 q4 u4) ++ acW E q2 q5 u5)) := hD
  refine lv_aload_n C.1 C.2.1 dX6_init_71 rfl (lv_at hl 0 rfl) ?_
  refine va_new (ci := 4) (fs := [.null, .null]) (C := RX4) (T := TX4) (N := 2) C.1 C.2.1 C.2.2.2.2 inA4 tyX4 tyX4_ok C.2.2.2.1 (C.2.2.2.2 _ wd_classLink_OneTricycle_42_OneTricycle_Slots_) (C.2.2.2.2 _ wd_instantiable_OneTricycle_Slots_2) (C.2.2.2.2 _ wd_initialized_OneTricycle_Slots_) X.1 hP hD hS hA rfl (fun j hj => by rcases (show j = 0 ∨ j = 1 by omega) with rfl | rfl <;> rfl) (Nat.le_of_ble_eq_true rfl) (Nat.le_of_ble_eq_true rfl) dX6_init_72 (fun q6 H hP hD hS => ?_)
  refine W.widen (k := 120) (n := 770) (Nat.le_of_ble_eq_true rfl) (Nat.le_of_ble_eq_true rfl) ?_
  refine lv_dup C.1 C.2.1 dX6_init_75 rfl ?_
  refine lv_aload_n C.1 C.2.1 dX6_init_76 rfl (lv_at hl 0 rfl) ?_
  refine va_get (D := E.1) (ci := 6) (v := .ref q2) C.1 C.2.1 C.2.2.2.2 inA6 C.2.2.2.1 X.1 hP 0 rfl rfl 1 (by decide) (C.2.2.2.2 _ wd_fieldLink_OneTricycle_19_OneTricycle_kids_LOneTricycle_Kids_) (fun _ h9 => h9) rfl dX6_init_77 ?_
  refine x_initN (As := [.ref q2]) (rest := [.ref q6, .ref o]) C X hP hD hS hA (n_X4_init l E q6 H.size q2) mi_X4_init wd_instanceMethod_OneTricycle_Slots_init_LOneTricycle_Kids_V_ rfl ml_X6_44 rfl hl.1 rfl (Nat.le_of_ble_eq_true rfl) ⟨⟨Nat.le_of_ble_eq_true rfl, Nat.le_of_ble_eq_true rfl⟩, Nat.le_of_ble_eq_true rfl, Nat.le_of_ble_eq_true rfl⟩ dX6_init_80 (fun u6 H locs hP hD hS => ?_)
  refine W.widen (k := 136) (n := 862) (Nat.le_of_ble_eq_true rfl) (Nat.le_of_ble_eq_true rfl) ?_
  replace hP : va_P E.1 vwCl ((o, .inr (6, [.ref q1, .ref q2, .ref q3, .ref q4, .ref q5, .null, .null, .null, .long 0])) :: (((((txW E q1 u1 ++ kdW E q2 u2) ++ plW E q2 q3 u3) ++ plW E q2 q4 u4) ++ acW E q2 q5 u5) ++ slW E q2 q6 u6)) H := hP
  replace hD : va_D _ ((o, .inr (6, [.ref q1, .ref q2, .ref q3, .ref q4, .ref q5, .null, .null, .null, .long 0])) :: (((((txW E q1 u1 ++ kdW E q2 u2) ++ plW E q2 q3 u3) ++ plW E q2 q4 u4) ++ acW E q2 q5 u5) ++ slW E q2 q6 u6)) := hD
  refine va_putF (D := E.1) (ci := 6) (v := .ref q6) C.1 C.2.1 C.2.2.2.2 inA6 tyX6 tyX6_ok nmX6 C.2.2.2.1 X.1 hP hD hS 0 rfl rfl 5 (by decide) (C.2.2.2.2 _ wd_fieldLink_OneTricycle_45_OneTricycle_slots_LOneTricycle_Slots_) (fun _ h9 => h9) rfl hin rfl (tyX6_ok 5 (by decide)) rfl rfl (Nat.le_of_ble_eq_true rfl) dX6_init_83 (fun H locs hP hD hS => ?_)
  replace hP : va_P E.1 vwCl ((o, .inr (6, [.ref q1, .ref q2, .ref q3, .ref q4, .ref q5, .ref q6, .null, .null, .long 0])) :: (((((txW E q1 u1 ++ kdW E q2 u2) ++ plW E q2 q3 u3) ++ plW E q2 q4 u4) ++ acW E q2 q5 u5) ++ slW E q2 q6 u6)) H := hP
  replace hD : va_D _ ((o, .inr (6, [.ref q1, .ref q2, .ref q3, .ref q4, .ref q5, .ref q6, .null, .null, .long 0])) :: (((((txW E q1 u1 ++ kdW E q2 u2) ++ plW E q2 q3 u3) ++ plW E q2 q4 u4) ++ acW E q2 q5 u5) ++ slW E q2 q6 u6)) := hD
  refine lv_aload_n C.1 C.2.1 dX6_init_86 rfl (lv_at hl 0 rfl) ?_
  refine va_new (ci := 3) (fs := [.null, .null, .int 0]) (C := RX3) (T := TX3) (N := 3) C.1 C.2.1 C.2.2.2.2 inA3 tyX3 tyX3_ok C.2.2.2.1 (C.2.2.2.2 _ wd_classLink_OneTricycle_49_OneTricycle_Seen_) (C.2.2.2.2 _ wd_instantiable_OneTricycle_Seen_3) (C.2.2.2.2 _ wd_initialized_OneTricycle_Seen_) X.1 hP hD hS hA rfl (fun j hj => by rcases (show j = 0 ∨ j = 1 ∨ j = 2 by omega) with rfl | rfl | rfl <;> rfl) (Nat.le_of_ble_eq_true rfl) (Nat.le_of_ble_eq_true rfl) dX6_init_87 (fun q7 H hP hD hS => ?_)
  refine W.widen (k := 137) (n := 865) (Nat.le_of_ble_eq_true rfl) (Nat.le_of_ble_eq_true rfl) ?_
  refine lv_dup C.1 C.2.1 dX6_init_90 rfl ?_
  refine x_initN (As := []) (rest := [.ref q7, .ref o]) C X hP hD hS hA (n_X3_init l E q7 H.size) mi_X3_init wd_instanceMethod_OneTricycle_Seen_init_V_ rfl ml_X6_51 rfl hl.1 rfl (Nat.le_of_ble_eq_true rfl) ⟨⟨Nat.le_of_ble_eq_true rfl, Nat.le_of_ble_eq_true rfl⟩, Nat.le_of_ble_eq_true rfl, Nat.le_of_ble_eq_true rfl⟩ dX6_init_91 (fun u7 H locs hP hD hS => ?_)
  refine W.widen (k := 139) (n := 877) (Nat.le_of_ble_eq_true rfl) (Nat.le_of_ble_eq_true rfl) ?_
  replace hP : va_P E.1 vwCl ((o, .inr (6, [.ref q1, .ref q2, .ref q3, .ref q4, .ref q5, .ref q6, .null, .null, .long 0])) :: ((((((txW E q1 u1 ++ kdW E q2 u2) ++ plW E q2 q3 u3) ++ plW E q2 q4 u4) ++ acW E q2 q5 u5) ++ slW E q2 q6 u6) ++ snW E q7 u7)) H := hP
  replace hD : va_D _ ((o, .inr (6, [.ref q1, .ref q2, .ref q3, .ref q4, .ref q5, .ref q6, .null, .null, .long 0])) :: ((((((txW E q1 u1 ++ kdW E q2 u2) ++ plW E q2 q3 u3) ++ plW E q2 q4 u4) ++ acW E q2 q5 u5) ++ slW E q2 q6 u6) ++ snW E q7 u7)) := hD
  refine va_putF (D := E.1) (ci := 6) (v := .ref q7) C.1 C.2.1 C.2.2.2.2 inA6 tyX6 tyX6_ok nmX6 C.2.2.2.1 X.1 hP hD hS 0 rfl rfl 6 (by decide) (C.2.2.2.2 _ wd_fieldLink_OneTricycle_52_OneTricycle_seen_LOneTricycle_Seen_) (fun _ h9 => h9) rfl hin rfl (tyX6_ok 6 (by decide)) rfl rfl (Nat.le_of_ble_eq_true rfl) dX6_init_94 (fun H locs hP hD hS => ?_)
  replace hP : va_P E.1 vwCl ((o, .inr (6, [.ref q1, .ref q2, .ref q3, .ref q4, .ref q5, .ref q6, .ref q7, .null, .long 0])) :: ((((((txW E q1 u1 ++ kdW E q2 u2) ++ plW E q2 q3 u3) ++ plW E q2 q4 u4) ++ acW E q2 q5 u5) ++ slW E q2 q6 u6) ++ snW E q7 u7)) H := hP
  replace hD : va_D _ ((o, .inr (6, [.ref q1, .ref q2, .ref q3, .ref q4, .ref q5, .ref q6, .ref q7, .null, .long 0])) :: ((((((txW E q1 u1 ++ kdW E q2 u2) ++ plW E q2 q3 u3) ++ plW E q2 q4 u4) ++ acW E q2 q5 u5) ++ slW E q2 q6 u6) ++ snW E q7 u7)) := hD
  refine lv_aload_n C.1 C.2.1 dX6_init_97 rfl (lv_at hl 0 rfl) ?_
  refine lv_bipush (v := 32) C.1 C.2.1 dX6_init_98 (by decide) ?_
  refine va_newa (atype := .int) (ty := .int) (a0 := (32, .inl (fun _ => 0))) (N' := 32) C.1 C.2.1 (C.2.2.2.2 _ wd_arrayClass_FT_int) rfl X.1 hP hD hS hA (fun _ => rfl) (by decide) (by decide) (Nat.le_of_ble_eq_true rfl) (Nat.le_of_ble_eq_true rfl) (Nat.le_of_ble_eq_true rfl) dX6_init_100 (fun q8 cA H hK1 hP hD hS => ?_)
  have eA := arr_same X hK1
  subst eA
  refine W.widen (k := 140) (n := 909) (Nat.le_of_ble_eq_true rfl) (Nat.le_of_ble_eq_true rfl) ?_
  refine va_putF (D := E.1) (ci := 6) (v := .ref q8) C.1 C.2.1 C.2.2.2.2 inA6 tyX6 tyX6_ok nmX6 C.2.2.2.1 X.1 hP hD hS 0 rfl rfl 7 (by decide) (C.2.2.2.2 _ wd_fieldLink_OneTricycle_56_OneTricycle_worths_I_) (fun _ h9 => h9) rfl hin rfl (tyX6_ok 7 (by decide)) rfl rfl (Nat.le_of_ble_eq_true rfl) dX6_init_102 (fun H locs hP hD hS => ?_)
  refine lv_aload_n C.1 C.2.1 dX6_init_105 rfl (lv_at hl 0 rfl) ?_
  refine lv_lconst (v := 0) C.1 C.2.1 dX6_init_106 (by decide) ?_
  refine va_put (D := E.1) (ci := 6) (v := .long 0) C.1 C.2.1 C.2.2.2.2 inA6 tyX6 tyX6_ok nmX6 C.2.2.2.1 X.1 hP hD hS 0 rfl rfl 8 (by decide) (C.2.2.2.2 _ wd_fieldLink_OneTricycle_60_OneTricycle_seed_J_) (fun _ h9 => h9) rfl (tyX6_ok 8 (by decide)) rfl rfl (Nat.le_of_ble_eq_true rfl) dX6_init_107 (fun H locs hP hD hS => ?_)
  replace hP : va_P E.1 vwCl ((o, .inr (6, [.ref q1, .ref q2, .ref q3, .ref q4, .ref q5, .ref q6, .ref q7, .ref q8, .long 0])) :: (((((((txW E q1 u1 ++ kdW E q2 u2) ++ plW E q2 q3 u3) ++ plW E q2 q4 u4) ++ acW E q2 q5 u5) ++ slW E q2 q6 u6) ++ snW E q7 u7) ++ [(q8, .inl (E.2.1, 32, .inl (fun _ => 0)))])) H := hP
  replace hD : va_D _ ((o, .inr (6, [.ref q1, .ref q2, .ref q3, .ref q4, .ref q5, .ref q6, .ref q7, .ref q8, .long 0])) :: (((((((txW E q1 u1 ++ kdW E q2 u2) ++ plW E q2 q3 u3) ++ plW E q2 q4 u4) ++ acW E q2 q5 u5) ++ slW E q2 q6 u6) ++ snW E q7 u7) ++ [(q8, .inl (E.2.1, 32, .inl (fun _ => 0)))])) := hD
  exact x_nret (((q1, u1), (q2, u2), (q3, u3), (q4, u4), (q5, u5), (q6, u6), (q7, u7), q8)) C hr hlk hP hD hS rfl dX6_init_110
