def txW (E : Ev) (o : Nat) (u : Nat → Nat) : va_W := [(o, .inr (5, [.ref (u 1), .int 0])), (u 1, .inl (E.2.1, 32, .inl (fun _ => 0)))]
def kdW (E : Ev) (o : Nat) (u : Nat → Nat) : va_W := [(o, .inr (1, [.int 0, .ref (u 1), .ref (u 2)])), (u 1, .inl (E.2.1, 5, .inl (fun _ => 0))), (u 2, .inl (E.2.1, 5, .inl (fun _ => 0)))]
def snW (E : Ev) (o : Nat) (u : Nat → Nat) : va_W := [(o, .inr (3, [.ref (u 1), .ref (u 2), .int 0])), (u 1, .inl (E.2.1, 6, .inl (fun _ => 0))), (u 2, .inl (E.2.1, 6, .inl (fun _ => 0)))]
def plW (E : Ev) (kid o : Nat) (u : Nat → Nat) : va_W := [(o, .inr (2, [.ref kid, .int 0, .int 0, .int (-9), .int 0, .int 1, .int 1, .int 0, .ref (u 1), .ref (u 2), .ref (u 3), .ref (u 4), .ref (u 5), .ref (u 6)])), (u 1, .inl (E.2.1, 5, .inl (fun _ => 0))), (u 2, .inl (E.2.1, 5, .inl (fun _ => 0))), (u 3, .inl (E.2.1, 5, .inl (fun _ => 0))), (u 4, .inl (E.2.1, 5, .inl (fun _ => 0))), (u 5, .inl (E.2.1, 5, .inl (fun _ => 0))), (u 6, .inl (E.2.1, 5, .inl (fun _ => 0)))]
def moW (E : Ev) (o : Nat) (u : Nat → Nat) : va_W := [(o, .inr (7, [.int 0, .ref (u 1), .int 0, .int 0, .int 0, .ref (u 2), .ref (u 3), .int 0, .int 0, .int 1, .int 0, .ref (u 4), .ref (u 5), .ref (u 6), .ref (u 7), .int 0, .ref (u 8), .ref (u 9), .int 0, .ref (u 10), .ref (u 11), .long 0, .int 0, .int 0, .ref (u 12), .int 0])), (u 1, .inl (E.2.1, 32, .inl (fun _ => 0))), (u 2, .inl (E.2.1, 5, .inl (fun _ => 0))), (u 3, .inl (E.2.1, 5, .inl (fun _ => 0))), (u 4, .inl (E.2.1, 15, .inl (fun _ => 0))), (u 5, .inl (E.2.1, 36, .inl (upd (upd (upd (fun _ => 0) 31 (-9)) 33 1) 34 1))), (u 6, .inl (E.2.1, 36, .inl (fun _ => 0))), (u 7, .inl (E.2.1, 504, .inl (fun _ => 0))), (u 8, .inl (E.2.1, 72, .inl (fun _ => 0))), (u 9, .inl (E.2.2.1, 2, .inl (fun _ => 0))), (u 10, .inl (E.2.1, 6, .inl (fun _ => 0))), (u 11, .inl (E.2.1, 6, .inl (fun _ => 0))), (u 12, .inl (E.2.1, 32, .inl (fun _ => 0)))]
set_option maxHeartbeats 4000000 in
set_option maxRecDepth 100000 in
theorem n_X5_init (l : Launch) (E : Ev) (o sz : Nat) : CtN l yX5_init cX5_init 1 1 1 32 12 E (o, .inr (5, [.null, .int 0])) sz [.ref o] (txW E o) := by
  refine x_beginN (by decide) (Nat.le_of_ble_eq_true rfl) ?_
  intro p e s m below meth c ls C hr hlk hin X hP hD hA hS hl
  replace hl : lv_has ls 1 [(0, .ref o)] := hl
  replace C : CallFix p m c cX5_init 1 s ([.ref o] : List Value).toArray lwA RX5 := C
  replace hin : meth.name = "<init>" := hin
  generalize hAe : va_A [(o, .inr (5, [.null, .int 0]))] s.heap.size = A at hD hA hS ⊢
  refine lv_aload_n C.1 C.2.1 dX5_init_0 rfl (lv_at hl 0 rfl) ?_
  refine W.objInit C.1 C.2.1 C.2.2.2.1 (C.2.2.2.2 _ wd_methodLink_OneTricycle_Text_3_java_lang_Object_init_V_) (C.2.2.2.2 _ wd_instanceMethod_java_lang_Object_init_V_) (C.2.2.2.2 _ wd_code_objectInit) rfl (by rw [C.2.2.1]; exact hl.1) rfl dX5_init_1 (Nat.le_of_ble_eq_true rfl) (Nat.le_of_ble_eq_true rfl) ?_
  refine W.eq (g2 := F0 m 4 ls []) rfl ?_
  refine lv_aload_n C.1 C.2.1 dX5_init_4 rfl (lv_at hl 0 rfl) ?_
  refine lv_bipush (v := 32) C.1 C.2.1 dX5_init_5 (by decide) ?_
  refine va_newa (atype := .int) (ty := .int) (a0 := (32, .inl (fun _ => 0))) (N' := 32) C.1 C.2.1 (C.2.2.2.2 _ wd_arrayClass_FT_int) rfl X.1 hP hD hS hA (fun _ => rfl) (by decide) (by decide) (Nat.le_of_ble_eq_true rfl) (Nat.le_of_ble_eq_true rfl) (Nat.le_of_ble_eq_true rfl) dX5_init_7 (fun q1 cA H hK1 hP hD hS => ?_)
  have eA := arr_same X hK1
  subst eA
  replace hP : va_P E.1 vwCl [(o, .inr (5, [.null, .int 0])), (q1, .inl (E.2.1, 32, .inl (fun _ => 0)))] H := hP
  replace hD : va_D A [(o, .inr (5, [.null, .int 0])), (q1, .inl (E.2.1, 32, .inl (fun _ => 0)))] := hD
  refine W.widen (k := 1) (n := 32) (Nat.le_of_ble_eq_true rfl) (Nat.le_of_ble_eq_true rfl) ?_
  refine va_putF (D := E.1) (ci := 5) (v := .ref q1) C.1 C.2.1 C.2.2.2.2 inA5 tyX5 tyX5_ok nmX5 C.2.2.2.1 X.1 hP hD hS 0 rfl rfl 0 (by decide) (C.2.2.2.2 _ wd_fieldLink_OneTricycle_Text_9_OneTricycle_Text_letters_I_) (fun _ h9 => h9) rfl hin rfl (tyX5_ok 0 (by decide)) rfl rfl (Nat.le_of_ble_eq_true rfl) dX5_init_9 (fun H locs hP hD hS => ?_)
  replace hP : va_P E.1 vwCl [(o, .inr (5, [.ref q1, .int 0])), (q1, .inl (E.2.1, 32, .inl (fun _ => 0)))] H := hP
  replace hD : va_D A [(o, .inr (5, [.ref q1, .int 0])), (q1, .inl (E.2.1, 32, .inl (fun _ => 0)))] := hD
  refine lv_aload_n C.1 C.2.1 dX5_init_12 rfl (lv_at hl 0 rfl) ?_
  refine lv_iconst (v := 0) C.1 C.2.1 dX5_init_13 (by decide) ?_
  refine va_put (D := E.1) (ci := 5) (v := .int 0) C.1 C.2.1 C.2.2.2.2 inA5 tyX5 tyX5_ok nmX5 C.2.2.2.1 X.1 hP hD hS 0 rfl rfl 1 (by decide) (C.2.2.2.2 _ wd_fieldLink_OneTricycle_Text_15_OneTricycle_Text_length_I_) (fun _ h9 => h9) rfl (tyX5_ok 1 (by decide)) rfl rfl (Nat.le_of_ble_eq_true rfl) dX5_init_14 (fun H locs hP hD hS => ?_)
  replace hP : va_P E.1 vwCl [(o, .inr (5, [.ref q1, .int 0])), (q1, .inl (E.2.1, 32, .inl (fun _ => 0)))] H := hP
  replace hD : va_D A [(o, .inr (5, [.ref q1, .int 0])), (q1, .inl (E.2.1, 32, .inl (fun _ => 0)))] := hD
  subst hAe
  exact x_nret (fun i => ([o, q1] : List Nat).getD i 0) C hr hlk hP hD hS rfl dX5_init_17

set_option maxHeartbeats 4000000 in
set_option maxRecDepth 100000 in
theorem n_X1_init (l : Launch) (E : Ev) (o sz : Nat) : CtN l yX1_init cX1_init 1 1 2 10 12 E (o, .inr (1, [.int 0, .null, .null])) sz [.ref o] (kdW E o) := by
  refine x_beginN (by decide) (Nat.le_of_ble_eq_true rfl) ?_
  intro p e s m below meth c ls C hr hlk hin X hP hD hA hS hl
  replace hl : lv_has ls 1 [(0, .ref o)] := hl
  replace C : CallFix p m c cX1_init 1 s ([.ref o] : List Value).toArray lwA RX1 := C
  replace hin : meth.name = "<init>" := hin
  generalize hAe : va_A [(o, .inr (1, [.int 0, .null, .null]))] s.heap.size = A at hD hA hS ⊢
  refine lv_aload_n C.1 C.2.1 dX1_init_0 rfl (lv_at hl 0 rfl) ?_
  refine W.objInit C.1 C.2.1 C.2.2.2.1 (C.2.2.2.2 _ wd_methodLink_OneTricycle_Kids_3_java_lang_Object_init_V_) (C.2.2.2.2 _ wd_instanceMethod_java_lang_Object_init_V_) (C.2.2.2.2 _ wd_code_objectInit) rfl (by rw [C.2.2.1]; exact hl.1) rfl dX1_init_1 (Nat.le_of_ble_eq_true rfl) (Nat.le_of_ble_eq_true rfl) ?_
  refine W.eq (g2 := F0 m 4 ls []) rfl ?_
  refine lv_aload_n C.1 C.2.1 dX1_init_4 rfl (lv_at hl 0 rfl) ?_
  refine lv_iconst (v := 0) C.1 C.2.1 dX1_init_5 (by decide) ?_
  refine va_put (D := E.1) (ci := 1) (v := .int 0) C.1 C.2.1 C.2.2.2.2 inA1 tyX1 tyX1_ok nmX1 C.2.2.2.1 X.1 hP hD hS 0 rfl rfl 0 (by decide) (C.2.2.2.2 _ wd_fieldLink_OneTricycle_Kids_9_OneTricycle_Kids_count_I_) (fun _ h9 => h9) rfl (tyX1_ok 0 (by decide)) rfl rfl (Nat.le_of_ble_eq_true rfl) dX1_init_6 (fun H locs hP hD hS => ?_)
  replace hP : va_P E.1 vwCl [(o, .inr (1, [.int 0, .null, .null]))] H := hP
  replace hD : va_D A [(o, .inr (1, [.int 0, .null, .null]))] := hD
  refine lv_aload_n C.1 C.2.1 dX1_init_9 rfl (lv_at hl 0 rfl) ?_
  refine lv_iconst (v := 5) C.1 C.2.1 dX1_init_10 (by decide) ?_
  refine va_newa (atype := .int) (ty := .int) (a0 := (5, .inl (fun _ => 0))) (N' := 5) C.1 C.2.1 (C.2.2.2.2 _ wd_arrayClass_FT_int) rfl X.1 hP hD hS hA (fun _ => rfl) (by decide) (by decide) (Nat.le_of_ble_eq_true rfl) (Nat.le_of_ble_eq_true rfl) (Nat.le_of_ble_eq_true rfl) dX1_init_11 (fun q1 cA H hK1 hP hD hS => ?_)
  have eA := arr_same X hK1
  subst eA
  replace hP : va_P E.1 vwCl [(o, .inr (1, [.int 0, .null, .null])), (q1, .inl (E.2.1, 5, .inl (fun _ => 0)))] H := hP
  replace hD : va_D A [(o, .inr (1, [.int 0, .null, .null])), (q1, .inl (E.2.1, 5, .inl (fun _ => 0)))] := hD
  refine W.widen (k := 1) (n := 5) (Nat.le_of_ble_eq_true rfl) (Nat.le_of_ble_eq_true rfl) ?_
  refine va_putF (D := E.1) (ci := 1) (v := .ref q1) C.1 C.2.1 C.2.2.2.2 inA1 tyX1 tyX1_ok nmX1 C.2.2.2.1 X.1 hP hD hS 0 rfl rfl 1 (by decide) (C.2.2.2.2 _ wd_fieldLink_OneTricycle_Kids_15_OneTricycle_Kids_strength_I_) (fun _ h9 => h9) rfl hin rfl (tyX1_ok 1 (by decide)) rfl rfl (Nat.le_of_ble_eq_true rfl) dX1_init_13 (fun H locs hP hD hS => ?_)
  replace hP : va_P E.1 vwCl [(o, .inr (1, [.int 0, .ref q1, .null])), (q1, .inl (E.2.1, 5, .inl (fun _ => 0)))] H := hP
  replace hD : va_D A [(o, .inr (1, [.int 0, .ref q1, .null])), (q1, .inl (E.2.1, 5, .inl (fun _ => 0)))] := hD
  refine lv_aload_n C.1 C.2.1 dX1_init_16 rfl (lv_at hl 0 rfl) ?_
  refine lv_iconst (v := 5) C.1 C.2.1 dX1_init_17 (by decide) ?_
  refine va_newa (atype := .int) (ty := .int) (a0 := (5, .inl (fun _ => 0))) (N' := 5) C.1 C.2.1 (C.2.2.2.2 _ wd_arrayClass_FT_int) rfl X.1 hP hD hS hA (fun _ => rfl) (by decide) (by decide) (Nat.le_of_ble_eq_true rfl) (Nat.le_of_ble_eq_true rfl) (Nat.le_of_ble_eq_true rfl) dX1_init_18 (fun q2 cA H hK1 hP hD hS => ?_)
  have eA := arr_same X hK1
  subst eA
  replace hP : va_P E.1 vwCl [(o, .inr (1, [.int 0, .ref q1, .null])), (q1, .inl (E.2.1, 5, .inl (fun _ => 0))), (q2, .inl (E.2.1, 5, .inl (fun _ => 0)))] H := hP
  replace hD : va_D A [(o, .inr (1, [.int 0, .ref q1, .null])), (q1, .inl (E.2.1, 5, .inl (fun _ => 0))), (q2, .inl (E.2.1, 5, .inl (fun _ => 0)))] := hD
  refine W.widen (k := 2) (n := 10) (Nat.le_of_ble_eq_true rfl) (Nat.le_of_ble_eq_true rfl) ?_
  refine va_putF (D := E.1) (ci := 1) (v := .ref q2) C.1 C.2.1 C.2.2.2.2 inA1 tyX1 tyX1_ok nmX1 C.2.2.2.1 X.1 hP hD hS 0 rfl rfl 2 (by decide) (C.2.2.2.2 _ wd_fieldLink_OneTricycle_Kids_19_OneTricycle_Kids_kind_I_) (fun _ h9 => h9) rfl hin rfl (tyX1_ok 2 (by decide)) rfl rfl (Nat.le_of_ble_eq_true rfl) dX1_init_20 (fun H locs hP hD hS => ?_)
  replace hP : va_P E.1 vwCl [(o, .inr (1, [.int 0, .ref q1, .ref q2])), (q1, .inl (E.2.1, 5, .inl (fun _ => 0))), (q2, .inl (E.2.1, 5, .inl (fun _ => 0)))] H := hP
  replace hD : va_D A [(o, .inr (1, [.int 0, .ref q1, .ref q2])), (q1, .inl (E.2.1, 5, .inl (fun _ => 0))), (q2, .inl (E.2.1, 5, .inl (fun _ => 0)))] := hD
  subst hAe
  exact x_nret (fun i => ([o, q1, q2] : List Nat).getD i 0) C hr hlk hP hD hS rfl dX1_init_23

set_option maxHeartbeats 4000000 in
set_option maxRecDepth 100000 in
theorem n_X3_init (l : Launch) (E : Ev) (o sz : Nat) : CtN l yX3_init cX3_init 1 1 2 12 12 E (o, .inr (3, [.null, .null, .int 0])) sz [.ref o] (snW E o) := by
  refine x_beginN (by decide) (Nat.le_of_ble_eq_true rfl) ?_
  intro p e s m below meth c ls C hr hlk hin X hP hD hA hS hl
  replace hl : lv_has ls 1 [(0, .ref o)] := hl
  replace C : CallFix p m c cX3_init 1 s ([.ref o] : List Value).toArray lwA RX3 := C
  replace hin : meth.name = "<init>" := hin
  generalize hAe : va_A [(o, .inr (3, [.null, .null, .int 0]))] s.heap.size = A at hD hA hS ⊢
  refine lv_aload_n C.1 C.2.1 dX3_init_0 rfl (lv_at hl 0 rfl) ?_
  refine W.objInit C.1 C.2.1 C.2.2.2.1 (C.2.2.2.2 _ wd_methodLink_OneTricycle_Seen_3_java_lang_Object_init_V_) (C.2.2.2.2 _ wd_instanceMethod_java_lang_Object_init_V_) (C.2.2.2.2 _ wd_code_objectInit) rfl (by rw [C.2.2.1]; exact hl.1) rfl dX3_init_1 (Nat.le_of_ble_eq_true rfl) (Nat.le_of_ble_eq_true rfl) ?_
  refine W.eq (g2 := F0 m 4 ls []) rfl ?_
  refine lv_aload_n C.1 C.2.1 dX3_init_4 rfl (lv_at hl 0 rfl) ?_
  refine lv_bipush (v := 6) C.1 C.2.1 dX3_init_5 (by decide) ?_
  refine va_newa (atype := .int) (ty := .int) (a0 := (6, .inl (fun _ => 0))) (N' := 6) C.1 C.2.1 (C.2.2.2.2 _ wd_arrayClass_FT_int) rfl X.1 hP hD hS hA (fun _ => rfl) (by decide) (by decide) (Nat.le_of_ble_eq_true rfl) (Nat.le_of_ble_eq_true rfl) (Nat.le_of_ble_eq_true rfl) dX3_init_7 (fun q1 cA H hK1 hP hD hS => ?_)
  have eA := arr_same X hK1
  subst eA
  replace hP : va_P E.1 vwCl [(o, .inr (3, [.null, .null, .int 0])), (q1, .inl (E.2.1, 6, .inl (fun _ => 0)))] H := hP
  replace hD : va_D A [(o, .inr (3, [.null, .null, .int 0])), (q1, .inl (E.2.1, 6, .inl (fun _ => 0)))] := hD
  refine W.widen (k := 1) (n := 6) (Nat.le_of_ble_eq_true rfl) (Nat.le_of_ble_eq_true rfl) ?_
  refine va_putF (D := E.1) (ci := 3) (v := .ref q1) C.1 C.2.1 C.2.2.2.2 inA3 tyX3 tyX3_ok nmX3 C.2.2.2.1 X.1 hP hD hS 0 rfl rfl 0 (by decide) (C.2.2.2.2 _ wd_fieldLink_OneTricycle_Seen_9_OneTricycle_Seen_child_I_) (fun _ h9 => h9) rfl hin rfl (tyX3_ok 0 (by decide)) rfl rfl (Nat.le_of_ble_eq_true rfl) dX3_init_9 (fun H locs hP hD hS => ?_)
  replace hP : va_P E.1 vwCl [(o, .inr (3, [.ref q1, .null, .int 0])), (q1, .inl (E.2.1, 6, .inl (fun _ => 0)))] H := hP
  replace hD : va_D A [(o, .inr (3, [.ref q1, .null, .int 0])), (q1, .inl (E.2.1, 6, .inl (fun _ => 0)))] := hD
  refine lv_aload_n C.1 C.2.1 dX3_init_12 rfl (lv_at hl 0 rfl) ?_
  refine lv_bipush (v := 6) C.1 C.2.1 dX3_init_13 (by decide) ?_
  refine va_newa (atype := .int) (ty := .int) (a0 := (6, .inl (fun _ => 0))) (N' := 6) C.1 C.2.1 (C.2.2.2.2 _ wd_arrayClass_FT_int) rfl X.1 hP hD hS hA (fun _ => rfl) (by decide) (by decide) (Nat.le_of_ble_eq_true rfl) (Nat.le_of_ble_eq_true rfl) (Nat.le_of_ble_eq_true rfl) dX3_init_15 (fun q2 cA H hK1 hP hD hS => ?_)
  have eA := arr_same X hK1
  subst eA
  replace hP : va_P E.1 vwCl [(o, .inr (3, [.ref q1, .null, .int 0])), (q1, .inl (E.2.1, 6, .inl (fun _ => 0))), (q2, .inl (E.2.1, 6, .inl (fun _ => 0)))] H := hP
  replace hD : va_D A [(o, .inr (3, [.ref q1, .null, .int 0])), (q1, .inl (E.2.1, 6, .inl (fun _ => 0))), (q2, .inl (E.2.1, 6, .inl (fun _ => 0)))] := hD
  refine W.widen (k := 2) (n := 12) (Nat.le_of_ble_eq_true rfl) (Nat.le_of_ble_eq_true rfl) ?_
  refine va_putF (D := E.1) (ci := 3) (v := .ref q2) C.1 C.2.1 C.2.2.2.2 inA3 tyX3 tyX3_ok nmX3 C.2.2.2.1 X.1 hP hD hS 0 rfl rfl 1 (by decide) (C.2.2.2.2 _ wd_fieldLink_OneTricycle_Seen_15_OneTricycle_Seen_minutes_I_) (fun _ h9 => h9) rfl hin rfl (tyX3_ok 1 (by decide)) rfl rfl (Nat.le_of_ble_eq_true rfl) dX3_init_17 (fun H locs hP hD hS => ?_)
  replace hP : va_P E.1 vwCl [(o, .inr (3, [.ref q1, .ref q2, .int 0])), (q1, .inl (E.2.1, 6, .inl (fun _ => 0))), (q2, .inl (E.2.1, 6, .inl (fun _ => 0)))] H := hP
  replace hD : va_D A [(o, .inr (3, [.ref q1, .ref q2, .int 0])), (q1, .inl (E.2.1, 6, .inl (fun _ => 0))), (q2, .inl (E.2.1, 6, .inl (fun _ => 0)))] := hD
  refine lv_aload_n C.1 C.2.1 dX3_init_20 rfl (lv_at hl 0 rfl) ?_
  refine lv_iconst (v := 0) C.1 C.2.1 dX3_init_21 (by decide) ?_
  refine va_put (D := E.1) (ci := 3) (v := .int 0) C.1 C.2.1 C.2.2.2.2 inA3 tyX3 tyX3_ok nmX3 C.2.2.2.1 X.1 hP hD hS 0 rfl rfl 2 (by decide) (C.2.2.2.2 _ wd_fieldLink_OneTricycle_Seen_18_OneTricycle_Seen_count_I_) (fun _ h9 => h9) rfl (tyX3_ok 2 (by decide)) rfl rfl (Nat.le_of_ble_eq_true rfl) dX3_init_22 (fun H locs hP hD hS => ?_)
  replace hP : va_P E.1 vwCl [(o, .inr (3, [.ref q1, .ref q2, .int 0])), (q1, .inl (E.2.1, 6, .inl (fun _ => 0))), (q2, .inl (E.2.1, 6, .inl (fun _ => 0)))] H := hP
  replace hD : va_D A [(o, .inr (3, [.ref q1, .ref q2, .int 0])), (q1, .inl (E.2.1, 6, .inl (fun _ => 0))), (q2, .inl (E.2.1, 6, .inl (fun _ => 0)))] := hD
  subst hAe
  exact x_nret (fun i => ([o, q1, q2] : List Nat).getD i 0) C hr hlk hP hD hS rfl dX3_init_25

set_option maxHeartbeats 4000000 in
set_option maxRecDepth 100000 in
theorem n_X2_init (l : Launch) (E : Ev) (o sz : Nat) (kid : Nat) : CtN l yX2_init cX2_init 2 1 6 30 12 E (o, .inr (2, [.null, .int 0, .int 0, .int 0, .int 0, .int 0, .int 0, .int 0, .null, .null, .null, .null, .null, .null])) sz [.ref o, .ref kid] (plW E kid o) := by
  refine x_beginN (by decide) (Nat.le_of_ble_eq_true rfl) ?_
  intro p e s m below meth c ls C hr hlk hin X hP hD hA hS hl
  replace hl : lv_has ls 2 [(0, .ref o), (1, .ref kid)] := hl
  replace C : CallFix p m c cX2_init 2 s ([.ref o, .ref kid] : List Value).toArray lwA RX2 := C
  replace hin : meth.name = "<init>" := hin
  generalize hAe : va_A [(o, .inr (2, [.null, .int 0, .int 0, .int 0, .int 0, .int 0, .int 0, .int 0, .null, .null, .null, .null, .null, .null]))] s.heap.size = A at hD hA hS ⊢
  refine lv_aload_n C.1 C.2.1 dX2_init_0 rfl (lv_at hl 0 rfl) ?_
  refine W.objInit C.1 C.2.1 C.2.2.2.1 (C.2.2.2.2 _ wd_methodLink_OneTricycle_Play_3_java_lang_Object_init_V_) (C.2.2.2.2 _ wd_instanceMethod_java_lang_Object_init_V_) (C.2.2.2.2 _ wd_code_objectInit) rfl (by rw [C.2.2.1]; exact hl.1) rfl dX2_init_1 (Nat.le_of_ble_eq_true rfl) (Nat.le_of_ble_eq_true rfl) ?_
  refine W.eq (g2 := F0 m 4 ls []) rfl ?_
  refine lv_aload_n C.1 C.2.1 dX2_init_4 rfl (lv_at hl 0 rfl) ?_
  refine lv_iconst (v := 0) C.1 C.2.1 dX2_init_5 (by decide) ?_
  refine va_put (D := E.1) (ci := 2) (v := .int 0) C.1 C.2.1 C.2.2.2.2 inA2 tyX2 tyX2_ok nmX2 C.2.2.2.1 X.1 hP hD hS 0 rfl rfl 1 (by decide) (C.2.2.2.2 _ wd_fieldLink_OneTricycle_Play_9_OneTricycle_Play_there_I_) (fun _ h9 => h9) rfl (tyX2_ok 1 (by decide)) rfl rfl (Nat.le_of_ble_eq_true rfl) dX2_init_6 (fun H locs hP hD hS => ?_)
  replace hP : va_P E.1 vwCl [(o, .inr (2, [.null, .int 0, .int 0, .int 0, .int 0, .int 0, .int 0, .int 0, .null, .null, .null, .null, .null, .null]))] H := hP
  replace hD : va_D A [(o, .inr (2, [.null, .int 0, .int 0, .int 0, .int 0, .int 0, .int 0, .int 0, .null, .null, .null, .null, .null, .null]))] := hD
  refine lv_aload_n C.1 C.2.1 dX2_init_9 rfl (lv_at hl 0 rfl) ?_
  refine lv_iconst (v := 0) C.1 C.2.1 dX2_init_10 (by decide) ?_
  refine va_put (D := E.1) (ci := 2) (v := .int 0) C.1 C.2.1 C.2.2.2.2 inA2 tyX2 tyX2_ok nmX2 C.2.2.2.1 X.1 hP hD hS 0 rfl rfl 2 (by decide) (C.2.2.2.2 _ wd_fieldLink_OneTricycle_Play_15_OneTricycle_Play_riders_I_) (fun _ h9 => h9) rfl (tyX2_ok 2 (by decide)) rfl rfl (Nat.le_of_ble_eq_true rfl) dX2_init_11 (fun H locs hP hD hS => ?_)
  replace hP : va_P E.1 vwCl [(o, .inr (2, [.null, .int 0, .int 0, .int 0, .int 0, .int 0, .int 0, .int 0, .null, .null, .null, .null, .null, .null]))] H := hP
  replace hD : va_D A [(o, .inr (2, [.null, .int 0, .int 0, .int 0, .int 0, .int 0, .int 0, .int 0, .null, .null, .null, .null, .null, .null]))] := hD
  refine lv_aload_n C.1 C.2.1 dX2_init_14 rfl (lv_at hl 0 rfl) ?_
  refine lv_bipush (v := -9) C.1 C.2.1 dX2_init_15 (by decide) ?_
  refine va_put (D := E.1) (ci := 2) (v := .int (-9)) C.1 C.2.1 C.2.2.2.2 inA2 tyX2 tyX2_ok nmX2 C.2.2.2.1 X.1 hP hD hS 0 rfl rfl 3 (by decide) (C.2.2.2.2 _ wd_fieldLink_OneTricycle_Play_18_OneTricycle_Play_last_I_) (fun _ h9 => h9) rfl (tyX2_ok 3 (by decide)) rfl rfl (Nat.le_of_ble_eq_true rfl) dX2_init_17 (fun H locs hP hD hS => ?_)
  replace hP : va_P E.1 vwCl [(o, .inr (2, [.null, .int 0, .int 0, .int (-9), .int 0, .int 0, .int 0, .int 0, .null, .null, .null, .null, .null, .null]))] H := hP
  replace hD : va_D A [(o, .inr (2, [.null, .int 0, .int 0, .int (-9), .int 0, .int 0, .int 0, .int 0, .null, .null, .null, .null, .null, .null]))] := hD
  refine lv_aload_n C.1 C.2.1 dX2_init_20 rfl (lv_at hl 0 rfl) ?_
  refine lv_iconst (v := 0) C.1 C.2.1 dX2_init_21 (by decide) ?_
  refine va_put (D := E.1) (ci := 2) (v := .int 0) C.1 C.2.1 C.2.2.2.2 inA2 tyX2 tyX2_ok nmX2 C.2.2.2.1 X.1 hP hD hS 0 rfl rfl 4 (by decide) (C.2.2.2.2 _ wd_fieldLink_OneTricycle_Play_21_OneTricycle_Play_rule_I_) (fun _ h9 => h9) rfl (tyX2_ok 4 (by decide)) rfl rfl (Nat.le_of_ble_eq_true rfl) dX2_init_22 (fun H locs hP hD hS => ?_)
  replace hP : va_P E.1 vwCl [(o, .inr (2, [.null, .int 0, .int 0, .int (-9), .int 0, .int 0, .int 0, .int 0, .null, .null, .null, .null, .null, .null]))] H := hP
  replace hD : va_D A [(o, .inr (2, [.null, .int 0, .int 0, .int (-9), .int 0, .int 0, .int 0, .int 0, .null, .null, .null, .null, .null, .null]))] := hD
  refine lv_aload_n C.1 C.2.1 dX2_init_25 rfl (lv_at hl 0 rfl) ?_
  refine lv_iconst (v := 1) C.1 C.2.1 dX2_init_26 (by decide) ?_
  refine va_put (D := E.1) (ci := 2) (v := .int 1) C.1 C.2.1 C.2.2.2.2 inA2 tyX2 tyX2_ok nmX2 C.2.2.2.1 X.1 hP hD hS 0 rfl rfl 5 (by decide) (C.2.2.2.2 _ wd_fieldLink_OneTricycle_Play_24_OneTricycle_Play_length_I_) (fun _ h9 => h9) rfl (tyX2_ok 5 (by decide)) rfl rfl (Nat.le_of_ble_eq_true rfl) dX2_init_27 (fun H locs hP hD hS => ?_)
  replace hP : va_P E.1 vwCl [(o, .inr (2, [.null, .int 0, .int 0, .int (-9), .int 0, .int 1, .int 0, .int 0, .null, .null, .null, .null, .null, .null]))] H := hP
  replace hD : va_D A [(o, .inr (2, [.null, .int 0, .int 0, .int (-9), .int 0, .int 1, .int 0, .int 0, .null, .null, .null, .null, .null, .null]))] := hD
  refine lv_aload_n C.1 C.2.1 dX2_init_30 rfl (lv_at hl 0 rfl) ?_
  refine lv_iconst (v := 1) C.1 C.2.1 dX2_init_31 (by decide) ?_
  refine va_put (D := E.1) (ci := 2) (v := .int 1) C.1 C.2.1 C.2.2.2.2 inA2 tyX2 tyX2_ok nmX2 C.2.2.2.1 X.1 hP hD hS 0 rfl rfl 6 (by decide) (C.2.2.2.2 _ wd_fieldLink_OneTricycle_Play_27_OneTricycle_Play_things_I_) (fun _ h9 => h9) rfl (tyX2_ok 6 (by decide)) rfl rfl (Nat.le_of_ble_eq_true rfl) dX2_init_32 (fun H locs hP hD hS => ?_)
  replace hP : va_P E.1 vwCl [(o, .inr (2, [.null, .int 0, .int 0, .int (-9), .int 0, .int 1, .int 1, .int 0, .null, .null, .null, .null, .null, .null]))] H := hP
  replace hD : va_D A [(o, .inr (2, [.null, .int 0, .int 0, .int (-9), .int 0, .int 1, .int 1, .int 0, .null, .null, .null, .null, .null, .null]))] := hD
  refine lv_aload_n C.1 C.2.1 dX2_init_35 rfl (lv_at hl 0 rfl) ?_
  refine lv_iconst (v := 0) C.1 C.2.1 dX2_init_36 (by decide) ?_
  refine va_put (D := E.1) (ci := 2) (v := .int 0) C.1 C.2.1 C.2.2.2.2 inA2 tyX2 tyX2_ok nmX2 C.2.2.2.1 X.1 hP hD hS 0 rfl rfl 7 (by decide) (C.2.2.2.2 _ wd_fieldLink_OneTricycle_Play_30_OneTricycle_Play_minutes_I_) (fun _ h9 => h9) rfl (tyX2_ok 7 (by decide)) rfl rfl (Nat.le_of_ble_eq_true rfl) dX2_init_37 (fun H locs hP hD hS => ?_)
  replace hP : va_P E.1 vwCl [(o, .inr (2, [.null, .int 0, .int 0, .int (-9), .int 0, .int 1, .int 1, .int 0, .null, .null, .null, .null, .null, .null]))] H := hP
  replace hD : va_D A [(o, .inr (2, [.null, .int 0, .int 0, .int (-9), .int 0, .int 1, .int 1, .int 0, .null, .null, .null, .null, .null, .null]))] := hD
  refine lv_aload_n C.1 C.2.1 dX2_init_40 rfl (lv_at hl 0 rfl) ?_
  refine lv_iconst (v := 5) C.1 C.2.1 dX2_init_41 (by decide) ?_
  refine va_newa (atype := .int) (ty := .int) (a0 := (5, .inl (fun _ => 0))) (N' := 5) C.1 C.2.1 (C.2.2.2.2 _ wd_arrayClass_FT_int) rfl X.1 hP hD hS hA (fun _ => rfl) (by decide) (by decide) (Nat.le_of_ble_eq_true rfl) (Nat.le_of_ble_eq_true rfl) (Nat.le_of_ble_eq_true rfl) dX2_init_42 (fun q1 cA H hK1 hP hD hS => ?_)
  have eA := arr_same X hK1
  subst eA
  replace hP : va_P E.1 vwCl [(o, .inr (2, [.null, .int 0, .int 0, .int (-9), .int 0, .int 1, .int 1, .int 0, .null, .null, .null, .null, .null, .null])), (q1, .inl (E.2.1, 5, .inl (fun _ => 0)))] H := hP
  replace hD : va_D A [(o, .inr (2, [.null, .int 0, .int 0, .int (-9), .int 0, .int 1, .int 1, .int 0, .null, .null, .null, .null, .null, .null])), (q1, .inl (E.2.1, 5, .inl (fun _ => 0)))] := hD
  refine W.widen (k := 1) (n := 5) (Nat.le_of_ble_eq_true rfl) (Nat.le_of_ble_eq_true rfl) ?_
  refine va_putF (D := E.1) (ci := 2) (v := .ref q1) C.1 C.2.1 C.2.2.2.2 inA2 tyX2 tyX2_ok nmX2 C.2.2.2.1 X.1 hP hD hS 0 rfl rfl 8 (by decide) (C.2.2.2.2 _ wd_fieldLink_OneTricycle_Play_33_OneTricycle_Play_wish_I_) (fun _ h9 => h9) rfl hin rfl (tyX2_ok 8 (by decide)) rfl rfl (Nat.le_of_ble_eq_true rfl) dX2_init_44 (fun H locs hP hD hS => ?_)
  replace hP : va_P E.1 vwCl [(o, .inr (2, [.null, .int 0, .int 0, .int (-9), .int 0, .int 1, .int 1, .int 0, .ref q1, .null, .null, .null, .null, .null])), (q1, .inl (E.2.1, 5, .inl (fun _ => 0)))] H := hP
  replace hD : va_D A [(o, .inr (2, [.null, .int 0, .int 0, .int (-9), .int 0, .int 1, .int 1, .int 0, .ref q1, .null, .null, .null, .null, .null])), (q1, .inl (E.2.1, 5, .inl (fun _ => 0)))] := hD
  refine lv_aload_n C.1 C.2.1 dX2_init_47 rfl (lv_at hl 0 rfl) ?_
  refine lv_iconst (v := 5) C.1 C.2.1 dX2_init_48 (by decide) ?_
  refine va_newa (atype := .int) (ty := .int) (a0 := (5, .inl (fun _ => 0))) (N' := 5) C.1 C.2.1 (C.2.2.2.2 _ wd_arrayClass_FT_int) rfl X.1 hP hD hS hA (fun _ => rfl) (by decide) (by decide) (Nat.le_of_ble_eq_true rfl) (Nat.le_of_ble_eq_true rfl) (Nat.le_of_ble_eq_true rfl) dX2_init_49 (fun q2 cA H hK1 hP hD hS => ?_)
  have eA := arr_same X hK1
  subst eA
  replace hP : va_P E.1 vwCl [(o, .inr (2, [.null, .int 0, .int 0, .int (-9), .int 0, .int 1, .int 1, .int 0, .ref q1, .null, .null, .null, .null, .null])), (q1, .inl (E.2.1, 5, .inl (fun _ => 0))), (q2, .inl (E.2.1, 5, .inl (fun _ => 0)))] H := hP
  replace hD : va_D A [(o, .inr (2, [.null, .int 0, .int 0, .int (-9), .int 0, .int 1, .int 1, .int 0, .ref q1, .null, .null, .null, .null, .null])), (q1, .inl (E.2.1, 5, .inl (fun _ => 0))), (q2, .inl (E.2.1, 5, .inl (fun _ => 0)))] := hD
  refine W.widen (k := 2) (n := 10) (Nat.le_of_ble_eq_true rfl) (Nat.le_of_ble_eq_true rfl) ?_
  refine va_putF (D := E.1) (ci := 2) (v := .ref q2) C.1 C.2.1 C.2.2.2.2 inA2 tyX2 tyX2_ok nmX2 C.2.2.2.1 X.1 hP hD hS 0 rfl rfl 9 (by decide) (C.2.2.2.2 _ wd_fieldLink_OneTricycle_Play_37_OneTricycle_Play_rode_I_) (fun _ h9 => h9) rfl hin rfl (tyX2_ok 9 (by decide)) rfl rfl (Nat.le_of_ble_eq_true rfl) dX2_init_51 (fun H locs hP hD hS => ?_)
  replace hP : va_P E.1 vwCl [(o, .inr (2, [.null, .int 0, .int 0, .int (-9), .int 0, .int 1, .int 1, .int 0, .ref q1, .ref q2, .null, .null, .null, .null])), (q1, .inl (E.2.1, 5, .inl (fun _ => 0))), (q2, .inl (E.2.1, 5, .inl (fun _ => 0)))] H := hP
  replace hD : va_D A [(o, .inr (2, [.null, .int 0, .int 0, .int (-9), .int 0, .int 1, .int 1, .int 0, .ref q1, .ref q2, .null, .null, .null, .null])), (q1, .inl (E.2.1, 5, .inl (fun _ => 0))), (q2, .inl (E.2.1, 5, .inl (fun _ => 0)))] := hD
  refine lv_aload_n C.1 C.2.1 dX2_init_54 rfl (lv_at hl 0 rfl) ?_
  refine lv_iconst (v := 5) C.1 C.2.1 dX2_init_55 (by decide) ?_
  refine va_newa (atype := .int) (ty := .int) (a0 := (5, .inl (fun _ => 0))) (N' := 5) C.1 C.2.1 (C.2.2.2.2 _ wd_arrayClass_FT_int) rfl X.1 hP hD hS hA (fun _ => rfl) (by decide) (by decide) (Nat.le_of_ble_eq_true rfl) (Nat.le_of_ble_eq_true rfl) (Nat.le_of_ble_eq_true rfl) dX2_init_56 (fun q3 cA H hK1 hP hD hS => ?_)
  have eA := arr_same X hK1
  subst eA
  replace hP : va_P E.1 vwCl [(o, .inr (2, [.null, .int 0, .int 0, .int (-9), .int 0, .int 1, .int 1, .int 0, .ref q1, .ref q2, .null, .null, .null, .null])), (q1, .inl (E.2.1, 5, .inl (fun _ => 0))), (q2, .inl (E.2.1, 5, .inl (fun _ => 0))), (q3, .inl (E.2.1, 5, .inl (fun _ => 0)))] H := hP
  replace hD : va_D A [(o, .inr (2, [.null, .int 0, .int 0, .int (-9), .int 0, .int 1, .int 1, .int 0, .ref q1, .ref q2, .null, .null, .null, .null])), (q1, .inl (E.2.1, 5, .inl (fun _ => 0))), (q2, .inl (E.2.1, 5, .inl (fun _ => 0))), (q3, .inl (E.2.1, 5, .inl (fun _ => 0)))] := hD
  refine W.widen (k := 3) (n := 15) (Nat.le_of_ble_eq_true rfl) (Nat.le_of_ble_eq_true rfl) ?_
  refine va_putF (D := E.1) (ci := 2) (v := .ref q3) C.1 C.2.1 C.2.2.2.2 inA2 tyX2 tyX2_ok nmX2 C.2.2.2.1 X.1 hP hD hS 0 rfl rfl 10 (by decide) (C.2.2.2.2 _ wd_fieldLink_OneTricycle_Play_40_OneTricycle_Play_ridden_I_) (fun _ h9 => h9) rfl hin rfl (tyX2_ok 10 (by decide)) rfl rfl (Nat.le_of_ble_eq_true rfl) dX2_init_58 (fun H locs hP hD hS => ?_)
  replace hP : va_P E.1 vwCl [(o, .inr (2, [.null, .int 0, .int 0, .int (-9), .int 0, .int 1, .int 1, .int 0, .ref q1, .ref q2, .ref q3, .null, .null, .null])), (q1, .inl (E.2.1, 5, .inl (fun _ => 0))), (q2, .inl (E.2.1, 5, .inl (fun _ => 0))), (q3, .inl (E.2.1, 5, .inl (fun _ => 0)))] H := hP
  replace hD : va_D A [(o, .inr (2, [.null, .int 0, .int 0, .int (-9), .int 0, .int 1, .int 1, .int 0, .ref q1, .ref q2, .ref q3, .null, .null, .null])), (q1, .inl (E.2.1, 5, .inl (fun _ => 0))), (q2, .inl (E.2.1, 5, .inl (fun _ => 0))), (q3, .inl (E.2.1, 5, .inl (fun _ => 0)))] := hD
  refine lv_aload_n C.1 C.2.1 dX2_init_61 rfl (lv_at hl 0 rfl) ?_
  refine lv_iconst (v := 5) C.1 C.2.1 dX2_init_62 (by decide) ?_
  refine va_newa (atype := .int) (ty := .int) (a0 := (5, .inl (fun _ => 0))) (N' := 5) C.1 C.2.1 (C.2.2.2.2 _ wd_arrayClass_FT_int) rfl X.1 hP hD hS hA (fun _ => rfl) (by decide) (by decide) (Nat.le_of_ble_eq_true rfl) (Nat.le_of_ble_eq_true rfl) (Nat.le_of_ble_eq_true rfl) dX2_init_63 (fun q4 cA H hK1 hP hD hS => ?_)
  have eA := arr_same X hK1
  subst eA
  replace hP : va_P E.1 vwCl [(o, .inr (2, [.null, .int 0, .int 0, .int (-9), .int 0, .int 1, .int 1, .int 0, .ref q1, .ref q2, .ref q3, .null, .null, .null])), (q1, .inl (E.2.1, 5, .inl (fun _ => 0))), (q2, .inl (E.2.1, 5, .inl (fun _ => 0))), (q3, .inl (E.2.1, 5, .inl (fun _ => 0))), (q4, .inl (E.2.1, 5, .inl (fun _ => 0)))] H := hP
  replace hD : va_D A [(o, .inr (2, [.null, .int 0, .int 0, .int (-9), .int 0, .int 1, .int 1, .int 0, .ref q1, .ref q2, .ref q3, .null, .null, .null])), (q1, .inl (E.2.1, 5, .inl (fun _ => 0))), (q2, .inl (E.2.1, 5, .inl (fun _ => 0))), (q3, .inl (E.2.1, 5, .inl (fun _ => 0))), (q4, .inl (E.2.1, 5, .inl (fun _ => 0)))] := hD
  refine W.widen (k := 4) (n := 20) (Nat.le_of_ble_eq_true rfl) (Nat.le_of_ble_eq_true rfl) ?_
  refine va_putF (D := E.1) (ci := 2) (v := .ref q4) C.1 C.2.1 C.2.2.2.2 inA2 tyX2 tyX2_ok nmX2 C.2.2.2.1 X.1 hP hD hS 0 rfl rfl 11 (by decide) (C.2.2.2.2 _ wd_fieldLink_OneTricycle_Play_43_OneTricycle_Play_stared_I_) (fun _ h9 => h9) rfl hin rfl (tyX2_ok 11 (by decide)) rfl rfl (Nat.le_of_ble_eq_true rfl) dX2_init_65 (fun H locs hP hD hS => ?_)
  replace hP : va_P E.1 vwCl [(o, .inr (2, [.null, .int 0, .int 0, .int (-9), .int 0, .int 1, .int 1, .int 0, .ref q1, .ref q2, .ref q3, .ref q4, .null, .null])), (q1, .inl (E.2.1, 5, .inl (fun _ => 0))), (q2, .inl (E.2.1, 5, .inl (fun _ => 0))), (q3, .inl (E.2.1, 5, .inl (fun _ => 0))), (q4, .inl (E.2.1, 5, .inl (fun _ => 0)))] H := hP
  replace hD : va_D A [(o, .inr (2, [.null, .int 0, .int 0, .int (-9), .int 0, .int 1, .int 1, .int 0, .ref q1, .ref q2, .ref q3, .ref q4, .null, .null])), (q1, .inl (E.2.1, 5, .inl (fun _ => 0))), (q2, .inl (E.2.1, 5, .inl (fun _ => 0))), (q3, .inl (E.2.1, 5, .inl (fun _ => 0))), (q4, .inl (E.2.1, 5, .inl (fun _ => 0)))] := hD
  refine lv_aload_n C.1 C.2.1 dX2_init_68 rfl (lv_at hl 0 rfl) ?_
  refine lv_iconst (v := 5) C.1 C.2.1 dX2_init_69 (by decide) ?_
  refine va_newa (atype := .int) (ty := .int) (a0 := (5, .inl (fun _ => 0))) (N' := 5) C.1 C.2.1 (C.2.2.2.2 _ wd_arrayClass_FT_int) rfl X.1 hP hD hS hA (fun _ => rfl) (by decide) (by decide) (Nat.le_of_ble_eq_true rfl) (Nat.le_of_ble_eq_true rfl) (Nat.le_of_ble_eq_true rfl) dX2_init_70 (fun q5 cA H hK1 hP hD hS => ?_)
  have eA := arr_same X hK1
  subst eA
  replace hP : va_P E.1 vwCl [(o, .inr (2, [.null, .int 0, .int 0, .int (-9), .int 0, .int 1, .int 1, .int 0, .ref q1, .ref q2, .ref q3, .ref q4, .null, .null])), (q1, .inl (E.2.1, 5, .inl (fun _ => 0))), (q2, .inl (E.2.1, 5, .inl (fun _ => 0))), (q3, .inl (E.2.1, 5, .inl (fun _ => 0))), (q4, .inl (E.2.1, 5, .inl (fun _ => 0))), (q5, .inl (E.2.1, 5, .inl (fun _ => 0)))] H := hP
  replace hD : va_D A [(o, .inr (2, [.null, .int 0, .int 0, .int (-9), .int 0, .int 1, .int 1, .int 0, .ref q1, .ref q2, .ref q3, .ref q4, .null, .null])), (q1, .inl (E.2.1, 5, .inl (fun _ => 0))), (q2, .inl (E.2.1, 5, .inl (fun _ => 0))), (q3, .inl (E.2.1, 5, .inl (fun _ => 0))), (q4, .inl (E.2.1, 5, .inl (fun _ => 0))), (q5, .inl (E.2.1, 5, .inl (fun _ => 0)))] := hD
  refine W.widen (k := 5) (n := 25) (Nat.le_of_ble_eq_true rfl) (Nat.le_of_ble_eq_true rfl) ?_
  refine va_putF (D := E.1) (ci := 2) (v := .ref q5) C.1 C.2.1 C.2.2.2.2 inA2 tyX2 tyX2_ok nmX2 C.2.2.2.1 X.1 hP hD hS 0 rfl rfl 12 (by decide) (C.2.2.2.2 _ wd_fieldLink_OneTricycle_Play_46_OneTricycle_Play_staredSince_I_) (fun _ h9 => h9) rfl hin rfl (tyX2_ok 12 (by decide)) rfl rfl (Nat.le_of_ble_eq_true rfl) dX2_init_72 (fun H locs hP hD hS => ?_)
  replace hP : va_P E.1 vwCl [(o, .inr (2, [.null, .int 0, .int 0, .int (-9), .int 0, .int 1, .int 1, .int 0, .ref q1, .ref q2, .ref q3, .ref q4, .ref q5, .null])), (q1, .inl (E.2.1, 5, .inl (fun _ => 0))), (q2, .inl (E.2.1, 5, .inl (fun _ => 0))), (q3, .inl (E.2.1, 5, .inl (fun _ => 0))), (q4, .inl (E.2.1, 5, .inl (fun _ => 0))), (q5, .inl (E.2.1, 5, .inl (fun _ => 0)))] H := hP
  replace hD : va_D A [(o, .inr (2, [.null, .int 0, .int 0, .int (-9), .int 0, .int 1, .int 1, .int 0, .ref q1, .ref q2, .ref q3, .ref q4, .ref q5, .null])), (q1, .inl (E.2.1, 5, .inl (fun _ => 0))), (q2, .inl (E.2.1, 5, .inl (fun _ => 0))), (q3, .inl (E.2.1, 5, .inl (fun _ => 0))), (q4, .inl (E.2.1, 5, .inl (fun _ => 0))), (q5, .inl (E.2.1, 5, .inl (fun _ => 0)))] := hD
  refine lv_aload_n C.1 C.2.1 dX2_init_75 rfl (lv_at hl 0 rfl) ?_
  refine lv_iconst (v := 5) C.1 C.2.1 dX2_init_76 (by decide) ?_
  refine va_newa (atype := .int) (ty := .int) (a0 := (5, .inl (fun _ => 0))) (N' := 5) C.1 C.2.1 (C.2.2.2.2 _ wd_arrayClass_FT_int) rfl X.1 hP hD hS hA (fun _ => rfl) (by decide) (by decide) (Nat.le_of_ble_eq_true rfl) (Nat.le_of_ble_eq_true rfl) (Nat.le_of_ble_eq_true rfl) dX2_init_77 (fun q6 cA H hK1 hP hD hS => ?_)
  have eA := arr_same X hK1
  subst eA
  replace hP : va_P E.1 vwCl [(o, .inr (2, [.null, .int 0, .int 0, .int (-9), .int 0, .int 1, .int 1, .int 0, .ref q1, .ref q2, .ref q3, .ref q4, .ref q5, .null])), (q1, .inl (E.2.1, 5, .inl (fun _ => 0))), (q2, .inl (E.2.1, 5, .inl (fun _ => 0))), (q3, .inl (E.2.1, 5, .inl (fun _ => 0))), (q4, .inl (E.2.1, 5, .inl (fun _ => 0))), (q5, .inl (E.2.1, 5, .inl (fun _ => 0))), (q6, .inl (E.2.1, 5, .inl (fun _ => 0)))] H := hP
  replace hD : va_D A [(o, .inr (2, [.null, .int 0, .int 0, .int (-9), .int 0, .int 1, .int 1, .int 0, .ref q1, .ref q2, .ref q3, .ref q4, .ref q5, .null])), (q1, .inl (E.2.1, 5, .inl (fun _ => 0))), (q2, .inl (E.2.1, 5, .inl (fun _ => 0))), (q3, .inl (E.2.1, 5, .inl (fun _ => 0))), (q4, .inl (E.2.1, 5, .inl (fun _ => 0))), (q5, .inl (E.2.1, 5, .inl (fun _ => 0))), (q6, .inl (E.2.1, 5, .inl (fun _ => 0)))] := hD
  refine W.widen (k := 6) (n := 30) (Nat.le_of_ble_eq_true rfl) (Nat.le_of_ble_eq_true rfl) ?_
  refine va_putF (D := E.1) (ci := 2) (v := .ref q6) C.1 C.2.1 C.2.2.2.2 inA2 tyX2 tyX2_ok nmX2 C.2.2.2.1 X.1 hP hD hS 0 rfl rfl 13 (by decide) (C.2.2.2.2 _ wd_fieldLink_OneTricycle_Play_49_OneTricycle_Play_howled_I_) (fun _ h9 => h9) rfl hin rfl (tyX2_ok 13 (by decide)) rfl rfl (Nat.le_of_ble_eq_true rfl) dX2_init_79 (fun H locs hP hD hS => ?_)
  replace hP : va_P E.1 vwCl [(o, .inr (2, [.null, .int 0, .int 0, .int (-9), .int 0, .int 1, .int 1, .int 0, .ref q1, .ref q2, .ref q3, .ref q4, .ref q5, .ref q6])), (q1, .inl (E.2.1, 5, .inl (fun _ => 0))), (q2, .inl (E.2.1, 5, .inl (fun _ => 0))), (q3, .inl (E.2.1, 5, .inl (fun _ => 0))), (q4, .inl (E.2.1, 5, .inl (fun _ => 0))), (q5, .inl (E.2.1, 5, .inl (fun _ => 0))), (q6, .inl (E.2.1, 5, .inl (fun _ => 0)))] H := hP
  replace hD : va_D A [(o, .inr (2, [.null, .int 0, .int 0, .int (-9), .int 0, .int 1, .int 1, .int 0, .ref q1, .ref q2, .ref q3, .ref q4, .ref q5, .ref q6])), (q1, .inl (E.2.1, 5, .inl (fun _ => 0))), (q2, .inl (E.2.1, 5, .inl (fun _ => 0))), (q3, .inl (E.2.1, 5, .inl (fun _ => 0))), (q4, .inl (E.2.1, 5, .inl (fun _ => 0))), (q5, .inl (E.2.1, 5, .inl (fun _ => 0))), (q6, .inl (E.2.1, 5, .inl (fun _ => 0)))] := hD
  refine lv_aload_n C.1 C.2.1 dX2_init_82 rfl (lv_at hl 0 rfl) ?_
  refine lv_aload_n C.1 C.2.1 dX2_init_83 rfl (lv_at hl 1 rfl) ?_
  refine va_putF (D := E.1) (ci := 2) (v := .ref kid) C.1 C.2.1 C.2.2.2.2 inA2 tyX2 tyX2_ok nmX2 C.2.2.2.1 X.1 hP hD hS 0 rfl rfl 0 (by decide) (C.2.2.2.2 _ wd_fieldLink_OneTricycle_Play_52_OneTricycle_Play_kids_LOneTricycle_Kids_) (fun _ h9 => h9) rfl hin rfl (tyX2_ok 0 (by decide)) rfl rfl (Nat.le_of_ble_eq_true rfl) dX2_init_84 (fun H locs hP hD hS => ?_)
  replace hP : va_P E.1 vwCl [(o, .inr (2, [.ref kid, .int 0, .int 0, .int (-9), .int 0, .int 1, .int 1, .int 0, .ref q1, .ref q2, .ref q3, .ref q4, .ref q5, .ref q6])), (q1, .inl (E.2.1, 5, .inl (fun _ => 0))), (q2, .inl (E.2.1, 5, .inl (fun _ => 0))), (q3, .inl (E.2.1, 5, .inl (fun _ => 0))), (q4, .inl (E.2.1, 5, .inl (fun _ => 0))), (q5, .inl (E.2.1, 5, .inl (fun _ => 0))), (q6, .inl (E.2.1, 5, .inl (fun _ => 0)))] H := hP
  replace hD : va_D A [(o, .inr (2, [.ref kid, .int 0, .int 0, .int (-9), .int 0, .int 1, .int 1, .int 0, .ref q1, .ref q2, .ref q3, .ref q4, .ref q5, .ref q6])), (q1, .inl (E.2.1, 5, .inl (fun _ => 0))), (q2, .inl (E.2.1, 5, .inl (fun _ => 0))), (q3, .inl (E.2.1, 5, .inl (fun _ => 0))), (q4, .inl (E.2.1, 5, .inl (fun _ => 0))), (q5, .inl (E.2.1, 5, .inl (fun _ => 0))), (q6, .inl (E.2.1, 5, .inl (fun _ => 0)))] := hD
  subst hAe
  exact x_nret (fun i => ([o, q1, q2, q3, q4, q5, q6] : List Nat).getD i 0) C hr hlk hP hD hS rfl dX2_init_87

set_option maxHeartbeats 4000000 in
set_option maxRecDepth 100000 in
theorem n_X7_init (l : Launch) (E : Ev) (o sz : Nat) : CtN l yX7_init cX7_init 1 1 12 751 12 E (o, .inr (7, [.int 0, .null, .int 0, .int 0, .int 0, .null, .null, .int 0, .int 0, .int 0, .int 0, .null, .null, .null, .null, .int 0, .null, .null, .int 0, .null, .null, .long 0, .int 0, .int 0, .null, .int 0])) sz [.ref o] (moW E o) := by
  refine x_beginN (by decide) (Nat.le_of_ble_eq_true rfl) ?_
  intro p e s m below meth c ls C hr hlk hin X hP hD hA hS hl
  replace hl : lv_has ls 1 [(0, .ref o)] := hl
  replace C : CallFix p m c cX7_init 1 s ([.ref o] : List Value).toArray lwA RX7 := C
  replace hin : meth.name = "<init>" := hin
  generalize hAe : va_A [(o, .inr (7, [.int 0, .null, .int 0, .int 0, .int 0, .null, .null, .int 0, .int 0, .int 0, .int 0, .null, .null, .null, .null, .int 0, .null, .null, .int 0, .null, .null, .long 0, .int 0, .int 0, .null, .int 0]))] s.heap.size = A at hD hA hS ⊢
  refine lv_aload_n C.1 C.2.1 dX7_init_0 rfl (lv_at hl 0 rfl) ?_
  refine W.objInit C.1 C.2.1 C.2.2.2.1 (C.2.2.2.2 _ wd_methodLink_OneTricycleModel_1_java_lang_Object_init_V_) (C.2.2.2.2 _ wd_instanceMethod_java_lang_Object_init_V_) (C.2.2.2.2 _ wd_code_objectInit) rfl (by rw [C.2.2.1]; exact hl.1) rfl dX7_init_1 (Nat.le_of_ble_eq_true rfl) (Nat.le_of_ble_eq_true rfl) ?_
  refine W.eq (g2 := F0 m 4 ls []) rfl ?_
  refine lv_aload_n C.1 C.2.1 dX7_init_4 rfl (lv_at hl 0 rfl) ?_
  refine lv_bipush (v := 32) C.1 C.2.1 dX7_init_5 (by decide) ?_
  refine va_newa (atype := .int) (ty := .int) (a0 := (32, .inl (fun _ => 0))) (N' := 32) C.1 C.2.1 (C.2.2.2.2 _ wd_arrayClass_FT_int) rfl X.1 hP hD hS hA (fun _ => rfl) (by decide) (by decide) (Nat.le_of_ble_eq_true rfl) (Nat.le_of_ble_eq_true rfl) (Nat.le_of_ble_eq_true rfl) dX7_init_7 (fun q1 cA H hK1 hP hD hS => ?_)
  have eA := arr_same X hK1
  subst eA
  replace hP : va_P E.1 vwCl [(o, .inr (7, [.int 0, .null, .int 0, .int 0, .int 0, .null, .null, .int 0, .int 0, .int 0, .int 0, .null, .null, .null, .null, .int 0, .null, .null, .int 0, .null, .null, .long 0, .int 0, .int 0, .null, .int 0])), (q1, .inl (E.2.1, 32, .inl (fun _ => 0)))] H := hP
  replace hD : va_D A [(o, .inr (7, [.int 0, .null, .int 0, .int 0, .int 0, .null, .null, .int 0, .int 0, .int 0, .int 0, .null, .null, .null, .null, .int 0, .null, .null, .int 0, .null, .null, .long 0, .int 0, .int 0, .null, .int 0])), (q1, .inl (E.2.1, 32, .inl (fun _ => 0)))] := hD
  refine W.widen (k := 1) (n := 32) (Nat.le_of_ble_eq_true rfl) (Nat.le_of_ble_eq_true rfl) ?_
  refine va_putF (D := E.1) (ci := 7) (v := .ref q1) C.1 C.2.1 C.2.2.2.2 inA7 tyX7 tyX7_ok nmX7 C.2.2.2.1 X.1 hP hD hS 0 rfl rfl 1 (by decide) (C.2.2.2.2 _ wd_fieldLink_OneTricycleModel_7_OneTricycleModel_text_I_) (fun _ h9 => h9) rfl hin rfl (tyX7_ok 1 (by decide)) rfl rfl (Nat.le_of_ble_eq_true rfl) dX7_init_9 (fun H locs hP hD hS => ?_)
  replace hP : va_P E.1 vwCl [(o, .inr (7, [.int 0, .ref q1, .int 0, .int 0, .int 0, .null, .null, .int 0, .int 0, .int 0, .int 0, .null, .null, .null, .null, .int 0, .null, .null, .int 0, .null, .null, .long 0, .int 0, .int 0, .null, .int 0])), (q1, .inl (E.2.1, 32, .inl (fun _ => 0)))] H := hP
  replace hD : va_D A [(o, .inr (7, [.int 0, .ref q1, .int 0, .int 0, .int 0, .null, .null, .int 0, .int 0, .int 0, .int 0, .null, .null, .null, .null, .int 0, .null, .null, .int 0, .null, .null, .long 0, .int 0, .int 0, .null, .int 0])), (q1, .inl (E.2.1, 32, .inl (fun _ => 0)))] := hD
  refine lv_aload_n C.1 C.2.1 dX7_init_12 rfl (lv_at hl 0 rfl) ?_
  refine lv_iconst (v := 5) C.1 C.2.1 dX7_init_13 (by decide) ?_
  refine va_newa (atype := .int) (ty := .int) (a0 := (5, .inl (fun _ => 0))) (N' := 5) C.1 C.2.1 (C.2.2.2.2 _ wd_arrayClass_FT_int) rfl X.1 hP hD hS hA (fun _ => rfl) (by decide) (by decide) (Nat.le_of_ble_eq_true rfl) (Nat.le_of_ble_eq_true rfl) (Nat.le_of_ble_eq_true rfl) dX7_init_14 (fun q2 cA H hK1 hP hD hS => ?_)
  have eA := arr_same X hK1
  subst eA
  replace hP : va_P E.1 vwCl [(o, .inr (7, [.int 0, .ref q1, .int 0, .int 0, .int 0, .null, .null, .int 0, .int 0, .int 0, .int 0, .null, .null, .null, .null, .int 0, .null, .null, .int 0, .null, .null, .long 0, .int 0, .int 0, .null, .int 0])), (q1, .inl (E.2.1, 32, .inl (fun _ => 0))), (q2, .inl (E.2.1, 5, .inl (fun _ => 0)))] H := hP
  replace hD : va_D A [(o, .inr (7, [.int 0, .ref q1, .int 0, .int 0, .int 0, .null, .null, .int 0, .int 0, .int 0, .int 0, .null, .null, .null, .null, .int 0, .null, .null, .int 0, .null, .null, .long 0, .int 0, .int 0, .null, .int 0])), (q1, .inl (E.2.1, 32, .inl (fun _ => 0))), (q2, .inl (E.2.1, 5, .inl (fun _ => 0)))] := hD
  refine W.widen (k := 2) (n := 37) (Nat.le_of_ble_eq_true rfl) (Nat.le_of_ble_eq_true rfl) ?_
  refine va_putF (D := E.1) (ci := 7) (v := .ref q2) C.1 C.2.1 C.2.2.2.2 inA7 tyX7 tyX7_ok nmX7 C.2.2.2.1 X.1 hP hD hS 0 rfl rfl 5 (by decide) (C.2.2.2.2 _ wd_fieldLink_OneTricycleModel_13_OneTricycleModel_strong_I_) (fun _ h9 => h9) rfl hin rfl (tyX7_ok 5 (by decide)) rfl rfl (Nat.le_of_ble_eq_true rfl) dX7_init_16 (fun H locs hP hD hS => ?_)
  replace hP : va_P E.1 vwCl [(o, .inr (7, [.int 0, .ref q1, .int 0, .int 0, .int 0, .ref q2, .null, .int 0, .int 0, .int 0, .int 0, .null, .null, .null, .null, .int 0, .null, .null, .int 0, .null, .null, .long 0, .int 0, .int 0, .null, .int 0])), (q1, .inl (E.2.1, 32, .inl (fun _ => 0))), (q2, .inl (E.2.1, 5, .inl (fun _ => 0)))] H := hP
  replace hD : va_D A [(o, .inr (7, [.int 0, .ref q1, .int 0, .int 0, .int 0, .ref q2, .null, .int 0, .int 0, .int 0, .int 0, .null, .null, .null, .null, .int 0, .null, .null, .int 0, .null, .null, .long 0, .int 0, .int 0, .null, .int 0])), (q1, .inl (E.2.1, 32, .inl (fun _ => 0))), (q2, .inl (E.2.1, 5, .inl (fun _ => 0)))] := hD
  refine lv_aload_n C.1 C.2.1 dX7_init_19 rfl (lv_at hl 0 rfl) ?_
  refine lv_iconst (v := 5) C.1 C.2.1 dX7_init_20 (by decide) ?_
  refine va_newa (atype := .int) (ty := .int) (a0 := (5, .inl (fun _ => 0))) (N' := 5) C.1 C.2.1 (C.2.2.2.2 _ wd_arrayClass_FT_int) rfl X.1 hP hD hS hA (fun _ => rfl) (by decide) (by decide) (Nat.le_of_ble_eq_true rfl) (Nat.le_of_ble_eq_true rfl) (Nat.le_of_ble_eq_true rfl) dX7_init_21 (fun q3 cA H hK1 hP hD hS => ?_)
  have eA := arr_same X hK1
  subst eA
  replace hP : va_P E.1 vwCl [(o, .inr (7, [.int 0, .ref q1, .int 0, .int 0, .int 0, .ref q2, .null, .int 0, .int 0, .int 0, .int 0, .null, .null, .null, .null, .int 0, .null, .null, .int 0, .null, .null, .long 0, .int 0, .int 0, .null, .int 0])), (q1, .inl (E.2.1, 32, .inl (fun _ => 0))), (q2, .inl (E.2.1, 5, .inl (fun _ => 0))), (q3, .inl (E.2.1, 5, .inl (fun _ => 0)))] H := hP
  replace hD : va_D A [(o, .inr (7, [.int 0, .ref q1, .int 0, .int 0, .int 0, .ref q2, .null, .int 0, .int 0, .int 0, .int 0, .null, .null, .null, .null, .int 0, .null, .null, .int 0, .null, .null, .long 0, .int 0, .int 0, .null, .int 0])), (q1, .inl (E.2.1, 32, .inl (fun _ => 0))), (q2, .inl (E.2.1, 5, .inl (fun _ => 0))), (q3, .inl (E.2.1, 5, .inl (fun _ => 0)))] := hD
  refine W.widen (k := 3) (n := 42) (Nat.le_of_ble_eq_true rfl) (Nat.le_of_ble_eq_true rfl) ?_
  refine va_putF (D := E.1) (ci := 7) (v := .ref q3) C.1 C.2.1 C.2.2.2.2 inA7 tyX7 tyX7_ok nmX7 C.2.2.2.1 X.1 hP hD hS 0 rfl rfl 6 (by decide) (C.2.2.2.2 _ wd_fieldLink_OneTricycleModel_16_OneTricycleModel_kind_I_) (fun _ h9 => h9) rfl hin rfl (tyX7_ok 6 (by decide)) rfl rfl (Nat.le_of_ble_eq_true rfl) dX7_init_23 (fun H locs hP hD hS => ?_)
  replace hP : va_P E.1 vwCl [(o, .inr (7, [.int 0, .ref q1, .int 0, .int 0, .int 0, .ref q2, .ref q3, .int 0, .int 0, .int 0, .int 0, .null, .null, .null, .null, .int 0, .null, .null, .int 0, .null, .null, .long 0, .int 0, .int 0, .null, .int 0])), (q1, .inl (E.2.1, 32, .inl (fun _ => 0))), (q2, .inl (E.2.1, 5, .inl (fun _ => 0))), (q3, .inl (E.2.1, 5, .inl (fun _ => 0)))] H := hP
  replace hD : va_D A [(o, .inr (7, [.int 0, .ref q1, .int 0, .int 0, .int 0, .ref q2, .ref q3, .int 0, .int 0, .int 0, .int 0, .null, .null, .null, .null, .int 0, .null, .null, .int 0, .null, .null, .long 0, .int 0, .int 0, .null, .int 0])), (q1, .inl (E.2.1, 32, .inl (fun _ => 0))), (q2, .inl (E.2.1, 5, .inl (fun _ => 0))), (q3, .inl (E.2.1, 5, .inl (fun _ => 0)))] := hD
  refine lv_aload_n C.1 C.2.1 dX7_init_26 rfl (lv_at hl 0 rfl) ?_
  refine lv_iconst (v := 1) C.1 C.2.1 dX7_init_27 (by decide) ?_
  refine va_put (D := E.1) (ci := 7) (v := .int 1) C.1 C.2.1 C.2.2.2.2 inA7 tyX7 tyX7_ok nmX7 C.2.2.2.1 X.1 hP hD hS 0 rfl rfl 9 (by decide) (C.2.2.2.2 _ wd_fieldLink_OneTricycleModel_19_OneTricycleModel_readThings_I_) (fun _ h9 => h9) rfl (tyX7_ok 9 (by decide)) rfl rfl (Nat.le_of_ble_eq_true rfl) dX7_init_28 (fun H locs hP hD hS => ?_)
  replace hP : va_P E.1 vwCl [(o, .inr (7, [.int 0, .ref q1, .int 0, .int 0, .int 0, .ref q2, .ref q3, .int 0, .int 0, .int 1, .int 0, .null, .null, .null, .null, .int 0, .null, .null, .int 0, .null, .null, .long 0, .int 0, .int 0, .null, .int 0])), (q1, .inl (E.2.1, 32, .inl (fun _ => 0))), (q2, .inl (E.2.1, 5, .inl (fun _ => 0))), (q3, .inl (E.2.1, 5, .inl (fun _ => 0)))] H := hP
  replace hD : va_D A [(o, .inr (7, [.int 0, .ref q1, .int 0, .int 0, .int 0, .ref q2, .ref q3, .int 0, .int 0, .int 1, .int 0, .null, .null, .null, .null, .int 0, .null, .null, .int 0, .null, .null, .long 0, .int 0, .int 0, .null, .int 0])), (q1, .inl (E.2.1, 32, .inl (fun _ => 0))), (q2, .inl (E.2.1, 5, .inl (fun _ => 0))), (q3, .inl (E.2.1, 5, .inl (fun _ => 0)))] := hD
  refine lv_aload_n C.1 C.2.1 dX7_init_31 rfl (lv_at hl 0 rfl) ?_
  refine lv_bipush (v := 15) C.1 C.2.1 dX7_init_32 (by decide) ?_
  refine va_newa (atype := .int) (ty := .int) (a0 := (15, .inl (fun _ => 0))) (N' := 15) C.1 C.2.1 (C.2.2.2.2 _ wd_arrayClass_FT_int) rfl X.1 hP hD hS hA (fun _ => rfl) (by decide) (by decide) (Nat.le_of_ble_eq_true rfl) (Nat.le_of_ble_eq_true rfl) (Nat.le_of_ble_eq_true rfl) dX7_init_34 (fun q4 cA H hK1 hP hD hS => ?_)
  have eA := arr_same X hK1
  subst eA
  replace hP : va_P E.1 vwCl [(o, .inr (7, [.int 0, .ref q1, .int 0, .int 0, .int 0, .ref q2, .ref q3, .int 0, .int 0, .int 1, .int 0, .null, .null, .null, .null, .int 0, .null, .null, .int 0, .null, .null, .long 0, .int 0, .int 0, .null, .int 0])), (q1, .inl (E.2.1, 32, .inl (fun _ => 0))), (q2, .inl (E.2.1, 5, .inl (fun _ => 0))), (q3, .inl (E.2.1, 5, .inl (fun _ => 0))), (q4, .inl (E.2.1, 15, .inl (fun _ => 0)))] H := hP
  replace hD : va_D A [(o, .inr (7, [.int 0, .ref q1, .int 0, .int 0, .int 0, .ref q2, .ref q3, .int 0, .int 0, .int 1, .int 0, .null, .null, .null, .null, .int 0, .null, .null, .int 0, .null, .null, .long 0, .int 0, .int 0, .null, .int 0])), (q1, .inl (E.2.1, 32, .inl (fun _ => 0))), (q2, .inl (E.2.1, 5, .inl (fun _ => 0))), (q3, .inl (E.2.1, 5, .inl (fun _ => 0))), (q4, .inl (E.2.1, 15, .inl (fun _ => 0)))] := hD
  refine W.widen (k := 4) (n := 57) (Nat.le_of_ble_eq_true rfl) (Nat.le_of_ble_eq_true rfl) ?_
  refine va_putF (D := E.1) (ci := 7) (v := .ref q4) C.1 C.2.1 C.2.2.2.2 inA7 tyX7 tyX7_ok nmX7 C.2.2.2.1 X.1 hP hD hS 0 rfl rfl 11 (by decide) (C.2.2.2.2 _ wd_fieldLink_OneTricycleModel_23_OneTricycleModel_readChild_I_) (fun _ h9 => h9) rfl hin rfl (tyX7_ok 11 (by decide)) rfl rfl (Nat.le_of_ble_eq_true rfl) dX7_init_36 (fun H locs hP hD hS => ?_)
  replace hP : va_P E.1 vwCl [(o, .inr (7, [.int 0, .ref q1, .int 0, .int 0, .int 0, .ref q2, .ref q3, .int 0, .int 0, .int 1, .int 0, .ref q4, .null, .null, .null, .int 0, .null, .null, .int 0, .null, .null, .long 0, .int 0, .int 0, .null, .int 0])), (q1, .inl (E.2.1, 32, .inl (fun _ => 0))), (q2, .inl (E.2.1, 5, .inl (fun _ => 0))), (q3, .inl (E.2.1, 5, .inl (fun _ => 0))), (q4, .inl (E.2.1, 15, .inl (fun _ => 0)))] H := hP
  replace hD : va_D A [(o, .inr (7, [.int 0, .ref q1, .int 0, .int 0, .int 0, .ref q2, .ref q3, .int 0, .int 0, .int 1, .int 0, .ref q4, .null, .null, .null, .int 0, .null, .null, .int 0, .null, .null, .long 0, .int 0, .int 0, .null, .int 0])), (q1, .inl (E.2.1, 32, .inl (fun _ => 0))), (q2, .inl (E.2.1, 5, .inl (fun _ => 0))), (q3, .inl (E.2.1, 5, .inl (fun _ => 0))), (q4, .inl (E.2.1, 15, .inl (fun _ => 0)))] := hD
  refine lv_aload_n C.1 C.2.1 dX7_init_39 rfl (lv_at hl 0 rfl) ?_
  refine lv_bipush (v := 36) C.1 C.2.1 dX7_init_40 (by decide) ?_
  refine va_newa (atype := .int) (ty := .int) (a0 := (36, .inl (fun _ => 0))) (N' := 36) C.1 C.2.1 (C.2.2.2.2 _ wd_arrayClass_FT_int) rfl X.1 hP hD hS hA (fun _ => rfl) (by decide) (by decide) (Nat.le_of_ble_eq_true rfl) (Nat.le_of_ble_eq_true rfl) (Nat.le_of_ble_eq_true rfl) dX7_init_42 (fun q5 cA H hK1 hP hD hS => ?_)
  have eA := arr_same X hK1
  subst eA
  replace hP : va_P E.1 vwCl [(o, .inr (7, [.int 0, .ref q1, .int 0, .int 0, .int 0, .ref q2, .ref q3, .int 0, .int 0, .int 1, .int 0, .ref q4, .null, .null, .null, .int 0, .null, .null, .int 0, .null, .null, .long 0, .int 0, .int 0, .null, .int 0])), (q1, .inl (E.2.1, 32, .inl (fun _ => 0))), (q2, .inl (E.2.1, 5, .inl (fun _ => 0))), (q3, .inl (E.2.1, 5, .inl (fun _ => 0))), (q4, .inl (E.2.1, 15, .inl (fun _ => 0))), (q5, .inl (E.2.1, 36, .inl (fun _ => 0)))] H := hP
  replace hD : va_D A [(o, .inr (7, [.int 0, .ref q1, .int 0, .int 0, .int 0, .ref q2, .ref q3, .int 0, .int 0, .int 1, .int 0, .ref q4, .null, .null, .null, .int 0, .null, .null, .int 0, .null, .null, .long 0, .int 0, .int 0, .null, .int 0])), (q1, .inl (E.2.1, 32, .inl (fun _ => 0))), (q2, .inl (E.2.1, 5, .inl (fun _ => 0))), (q3, .inl (E.2.1, 5, .inl (fun _ => 0))), (q4, .inl (E.2.1, 15, .inl (fun _ => 0))), (q5, .inl (E.2.1, 36, .inl (fun _ => 0)))] := hD
  refine W.widen (k := 5) (n := 93) (Nat.le_of_ble_eq_true rfl) (Nat.le_of_ble_eq_true rfl) ?_
  refine va_putF (D := E.1) (ci := 7) (v := .ref q5) C.1 C.2.1 C.2.2.2.2 inA7 tyX7 tyX7_ok nmX7 C.2.2.2.1 X.1 hP hD hS 0 rfl rfl 12 (by decide) (C.2.2.2.2 _ wd_fieldLink_OneTricycleModel_26_OneTricycleModel_page_I_) (fun _ h9 => h9) rfl hin rfl (tyX7_ok 12 (by decide)) rfl rfl (Nat.le_of_ble_eq_true rfl) dX7_init_44 (fun H locs hP hD hS => ?_)
  replace hP : va_P E.1 vwCl [(o, .inr (7, [.int 0, .ref q1, .int 0, .int 0, .int 0, .ref q2, .ref q3, .int 0, .int 0, .int 1, .int 0, .ref q4, .ref q5, .null, .null, .int 0, .null, .null, .int 0, .null, .null, .long 0, .int 0, .int 0, .null, .int 0])), (q1, .inl (E.2.1, 32, .inl (fun _ => 0))), (q2, .inl (E.2.1, 5, .inl (fun _ => 0))), (q3, .inl (E.2.1, 5, .inl (fun _ => 0))), (q4, .inl (E.2.1, 15, .inl (fun _ => 0))), (q5, .inl (E.2.1, 36, .inl (fun _ => 0)))] H := hP
  replace hD : va_D A [(o, .inr (7, [.int 0, .ref q1, .int 0, .int 0, .int 0, .ref q2, .ref q3, .int 0, .int 0, .int 1, .int 0, .ref q4, .ref q5, .null, .null, .int 0, .null, .null, .int 0, .null, .null, .long 0, .int 0, .int 0, .null, .int 0])), (q1, .inl (E.2.1, 32, .inl (fun _ => 0))), (q2, .inl (E.2.1, 5, .inl (fun _ => 0))), (q3, .inl (E.2.1, 5, .inl (fun _ => 0))), (q4, .inl (E.2.1, 15, .inl (fun _ => 0))), (q5, .inl (E.2.1, 36, .inl (fun _ => 0)))] := hD
  refine lv_aload_n C.1 C.2.1 dX7_init_47 rfl (lv_at hl 0 rfl) ?_
  refine lv_bipush (v := 36) C.1 C.2.1 dX7_init_48 (by decide) ?_
  refine va_newa (atype := .int) (ty := .int) (a0 := (36, .inl (fun _ => 0))) (N' := 36) C.1 C.2.1 (C.2.2.2.2 _ wd_arrayClass_FT_int) rfl X.1 hP hD hS hA (fun _ => rfl) (by decide) (by decide) (Nat.le_of_ble_eq_true rfl) (Nat.le_of_ble_eq_true rfl) (Nat.le_of_ble_eq_true rfl) dX7_init_50 (fun q6 cA H hK1 hP hD hS => ?_)
  have eA := arr_same X hK1
  subst eA
  replace hP : va_P E.1 vwCl [(o, .inr (7, [.int 0, .ref q1, .int 0, .int 0, .int 0, .ref q2, .ref q3, .int 0, .int 0, .int 1, .int 0, .ref q4, .ref q5, .null, .null, .int 0, .null, .null, .int 0, .null, .null, .long 0, .int 0, .int 0, .null, .int 0])), (q1, .inl (E.2.1, 32, .inl (fun _ => 0))), (q2, .inl (E.2.1, 5, .inl (fun _ => 0))), (q3, .inl (E.2.1, 5, .inl (fun _ => 0))), (q4, .inl (E.2.1, 15, .inl (fun _ => 0))), (q5, .inl (E.2.1, 36, .inl (fun _ => 0))), (q6, .inl (E.2.1, 36, .inl (fun _ => 0)))] H := hP
  replace hD : va_D A [(o, .inr (7, [.int 0, .ref q1, .int 0, .int 0, .int 0, .ref q2, .ref q3, .int 0, .int 0, .int 1, .int 0, .ref q4, .ref q5, .null, .null, .int 0, .null, .null, .int 0, .null, .null, .long 0, .int 0, .int 0, .null, .int 0])), (q1, .inl (E.2.1, 32, .inl (fun _ => 0))), (q2, .inl (E.2.1, 5, .inl (fun _ => 0))), (q3, .inl (E.2.1, 5, .inl (fun _ => 0))), (q4, .inl (E.2.1, 15, .inl (fun _ => 0))), (q5, .inl (E.2.1, 36, .inl (fun _ => 0))), (q6, .inl (E.2.1, 36, .inl (fun _ => 0)))] := hD
  refine W.widen (k := 6) (n := 129) (Nat.le_of_ble_eq_true rfl) (Nat.le_of_ble_eq_true rfl) ?_
  refine va_putF (D := E.1) (ci := 7) (v := .ref q6) C.1 C.2.1 C.2.2.2.2 inA7 tyX7 tyX7_ok nmX7 C.2.2.2.1 X.1 hP hD hS 0 rfl rfl 13 (by decide) (C.2.2.2.2 _ wd_fieldLink_OneTricycleModel_29_OneTricycleModel_trial_I_) (fun _ h9 => h9) rfl hin rfl (tyX7_ok 13 (by decide)) rfl rfl (Nat.le_of_ble_eq_true rfl) dX7_init_52 (fun H locs hP hD hS => ?_)
  replace hP : va_P E.1 vwCl [(o, .inr (7, [.int 0, .ref q1, .int 0, .int 0, .int 0, .ref q2, .ref q3, .int 0, .int 0, .int 1, .int 0, .ref q4, .ref q5, .ref q6, .null, .int 0, .null, .null, .int 0, .null, .null, .long 0, .int 0, .int 0, .null, .int 0])), (q1, .inl (E.2.1, 32, .inl (fun _ => 0))), (q2, .inl (E.2.1, 5, .inl (fun _ => 0))), (q3, .inl (E.2.1, 5, .inl (fun _ => 0))), (q4, .inl (E.2.1, 15, .inl (fun _ => 0))), (q5, .inl (E.2.1, 36, .inl (fun _ => 0))), (q6, .inl (E.2.1, 36, .inl (fun _ => 0)))] H := hP
  replace hD : va_D A [(o, .inr (7, [.int 0, .ref q1, .int 0, .int 0, .int 0, .ref q2, .ref q3, .int 0, .int 0, .int 1, .int 0, .ref q4, .ref q5, .ref q6, .null, .int 0, .null, .null, .int 0, .null, .null, .long 0, .int 0, .int 0, .null, .int 0])), (q1, .inl (E.2.1, 32, .inl (fun _ => 0))), (q2, .inl (E.2.1, 5, .inl (fun _ => 0))), (q3, .inl (E.2.1, 5, .inl (fun _ => 0))), (q4, .inl (E.2.1, 15, .inl (fun _ => 0))), (q5, .inl (E.2.1, 36, .inl (fun _ => 0))), (q6, .inl (E.2.1, 36, .inl (fun _ => 0)))] := hD
  refine lv_aload_n C.1 C.2.1 dX7_init_55 rfl (lv_at hl 0 rfl) ?_
  refine lv_sipush (v := 504) C.1 C.2.1 dX7_init_56 (by decide) ?_
  refine va_newa (atype := .int) (ty := .int) (a0 := (504, .inl (fun _ => 0))) (N' := 504) C.1 C.2.1 (C.2.2.2.2 _ wd_arrayClass_FT_int) rfl X.1 hP hD hS hA (fun _ => rfl) (by decide) (by decide) (Nat.le_of_ble_eq_true rfl) (Nat.le_of_ble_eq_true rfl) (Nat.le_of_ble_eq_true rfl) dX7_init_59 (fun q7 cA H hK1 hP hD hS => ?_)
  have eA := arr_same X hK1
  subst eA
  replace hP : va_P E.1 vwCl [(o, .inr (7, [.int 0, .ref q1, .int 0, .int 0, .int 0, .ref q2, .ref q3, .int 0, .int 0, .int 1, .int 0, .ref q4, .ref q5, .ref q6, .null, .int 0, .null, .null, .int 0, .null, .null, .long 0, .int 0, .int 0, .null, .int 0])), (q1, .inl (E.2.1, 32, .inl (fun _ => 0))), (q2, .inl (E.2.1, 5, .inl (fun _ => 0))), (q3, .inl (E.2.1, 5, .inl (fun _ => 0))), (q4, .inl (E.2.1, 15, .inl (fun _ => 0))), (q5, .inl (E.2.1, 36, .inl (fun _ => 0))), (q6, .inl (E.2.1, 36, .inl (fun _ => 0))), (q7, .inl (E.2.1, 504, .inl (fun _ => 0)))] H := hP
  replace hD : va_D A [(o, .inr (7, [.int 0, .ref q1, .int 0, .int 0, .int 0, .ref q2, .ref q3, .int 0, .int 0, .int 1, .int 0, .ref q4, .ref q5, .ref q6, .null, .int 0, .null, .null, .int 0, .null, .null, .long 0, .int 0, .int 0, .null, .int 0])), (q1, .inl (E.2.1, 32, .inl (fun _ => 0))), (q2, .inl (E.2.1, 5, .inl (fun _ => 0))), (q3, .inl (E.2.1, 5, .inl (fun _ => 0))), (q4, .inl (E.2.1, 15, .inl (fun _ => 0))), (q5, .inl (E.2.1, 36, .inl (fun _ => 0))), (q6, .inl (E.2.1, 36, .inl (fun _ => 0))), (q7, .inl (E.2.1, 504, .inl (fun _ => 0)))] := hD
  refine W.widen (k := 7) (n := 633) (Nat.le_of_ble_eq_true rfl) (Nat.le_of_ble_eq_true rfl) ?_
  refine va_putF (D := E.1) (ci := 7) (v := .ref q7) C.1 C.2.1 C.2.2.2.2 inA7 tyX7 tyX7_ok nmX7 C.2.2.2.1 X.1 hP hD hS 0 rfl rfl 14 (by decide) (C.2.2.2.2 _ wd_fieldLink_OneTricycleModel_32_OneTricycleModel_book_I_) (fun _ h9 => h9) rfl hin rfl (tyX7_ok 14 (by decide)) rfl rfl (Nat.le_of_ble_eq_true rfl) dX7_init_61 (fun H locs hP hD hS => ?_)
  replace hP : va_P E.1 vwCl [(o, .inr (7, [.int 0, .ref q1, .int 0, .int 0, .int 0, .ref q2, .ref q3, .int 0, .int 0, .int 1, .int 0, .ref q4, .ref q5, .ref q6, .ref q7, .int 0, .null, .null, .int 0, .null, .null, .long 0, .int 0, .int 0, .null, .int 0])), (q1, .inl (E.2.1, 32, .inl (fun _ => 0))), (q2, .inl (E.2.1, 5, .inl (fun _ => 0))), (q3, .inl (E.2.1, 5, .inl (fun _ => 0))), (q4, .inl (E.2.1, 15, .inl (fun _ => 0))), (q5, .inl (E.2.1, 36, .inl (fun _ => 0))), (q6, .inl (E.2.1, 36, .inl (fun _ => 0))), (q7, .inl (E.2.1, 504, .inl (fun _ => 0)))] H := hP
  replace hD : va_D A [(o, .inr (7, [.int 0, .ref q1, .int 0, .int 0, .int 0, .ref q2, .ref q3, .int 0, .int 0, .int 1, .int 0, .ref q4, .ref q5, .ref q6, .ref q7, .int 0, .null, .null, .int 0, .null, .null, .long 0, .int 0, .int 0, .null, .int 0])), (q1, .inl (E.2.1, 32, .inl (fun _ => 0))), (q2, .inl (E.2.1, 5, .inl (fun _ => 0))), (q3, .inl (E.2.1, 5, .inl (fun _ => 0))), (q4, .inl (E.2.1, 15, .inl (fun _ => 0))), (q5, .inl (E.2.1, 36, .inl (fun _ => 0))), (q6, .inl (E.2.1, 36, .inl (fun _ => 0))), (q7, .inl (E.2.1, 504, .inl (fun _ => 0)))] := hD
  refine lv_aload_n C.1 C.2.1 dX7_init_64 rfl (lv_at hl 0 rfl) ?_
  refine lv_bipush (v := 72) C.1 C.2.1 dX7_init_65 (by decide) ?_
  refine va_newa (atype := .int) (ty := .int) (a0 := (72, .inl (fun _ => 0))) (N' := 72) C.1 C.2.1 (C.2.2.2.2 _ wd_arrayClass_FT_int) rfl X.1 hP hD hS hA (fun _ => rfl) (by decide) (by decide) (Nat.le_of_ble_eq_true rfl) (Nat.le_of_ble_eq_true rfl) (Nat.le_of_ble_eq_true rfl) dX7_init_67 (fun q8 cA H hK1 hP hD hS => ?_)
  have eA := arr_same X hK1
  subst eA
  replace hP : va_P E.1 vwCl [(o, .inr (7, [.int 0, .ref q1, .int 0, .int 0, .int 0, .ref q2, .ref q3, .int 0, .int 0, .int 1, .int 0, .ref q4, .ref q5, .ref q6, .ref q7, .int 0, .null, .null, .int 0, .null, .null, .long 0, .int 0, .int 0, .null, .int 0])), (q1, .inl (E.2.1, 32, .inl (fun _ => 0))), (q2, .inl (E.2.1, 5, .inl (fun _ => 0))), (q3, .inl (E.2.1, 5, .inl (fun _ => 0))), (q4, .inl (E.2.1, 15, .inl (fun _ => 0))), (q5, .inl (E.2.1, 36, .inl (fun _ => 0))), (q6, .inl (E.2.1, 36, .inl (fun _ => 0))), (q7, .inl (E.2.1, 504, .inl (fun _ => 0))), (q8, .inl (E.2.1, 72, .inl (fun _ => 0)))] H := hP
  replace hD : va_D A [(o, .inr (7, [.int 0, .ref q1, .int 0, .int 0, .int 0, .ref q2, .ref q3, .int 0, .int 0, .int 1, .int 0, .ref q4, .ref q5, .ref q6, .ref q7, .int 0, .null, .null, .int 0, .null, .null, .long 0, .int 0, .int 0, .null, .int 0])), (q1, .inl (E.2.1, 32, .inl (fun _ => 0))), (q2, .inl (E.2.1, 5, .inl (fun _ => 0))), (q3, .inl (E.2.1, 5, .inl (fun _ => 0))), (q4, .inl (E.2.1, 15, .inl (fun _ => 0))), (q5, .inl (E.2.1, 36, .inl (fun _ => 0))), (q6, .inl (E.2.1, 36, .inl (fun _ => 0))), (q7, .inl (E.2.1, 504, .inl (fun _ => 0))), (q8, .inl (E.2.1, 72, .inl (fun _ => 0)))] := hD
  refine W.widen (k := 8) (n := 705) (Nat.le_of_ble_eq_true rfl) (Nat.le_of_ble_eq_true rfl) ?_
  refine va_putF (D := E.1) (ci := 7) (v := .ref q8) C.1 C.2.1 C.2.2.2.2 inA7 tyX7 tyX7_ok nmX7 C.2.2.2.1 X.1 hP hD hS 0 rfl rfl 16 (by decide) (C.2.2.2.2 _ wd_fieldLink_OneTricycleModel_35_OneTricycleModel_kept_I_) (fun _ h9 => h9) rfl hin rfl (tyX7_ok 16 (by decide)) rfl rfl (Nat.le_of_ble_eq_true rfl) dX7_init_69 (fun H locs hP hD hS => ?_)
  replace hP : va_P E.1 vwCl [(o, .inr (7, [.int 0, .ref q1, .int 0, .int 0, .int 0, .ref q2, .ref q3, .int 0, .int 0, .int 1, .int 0, .ref q4, .ref q5, .ref q6, .ref q7, .int 0, .ref q8, .null, .int 0, .null, .null, .long 0, .int 0, .int 0, .null, .int 0])), (q1, .inl (E.2.1, 32, .inl (fun _ => 0))), (q2, .inl (E.2.1, 5, .inl (fun _ => 0))), (q3, .inl (E.2.1, 5, .inl (fun _ => 0))), (q4, .inl (E.2.1, 15, .inl (fun _ => 0))), (q5, .inl (E.2.1, 36, .inl (fun _ => 0))), (q6, .inl (E.2.1, 36, .inl (fun _ => 0))), (q7, .inl (E.2.1, 504, .inl (fun _ => 0))), (q8, .inl (E.2.1, 72, .inl (fun _ => 0)))] H := hP
  replace hD : va_D A [(o, .inr (7, [.int 0, .ref q1, .int 0, .int 0, .int 0, .ref q2, .ref q3, .int 0, .int 0, .int 1, .int 0, .ref q4, .ref q5, .ref q6, .ref q7, .int 0, .ref q8, .null, .int 0, .null, .null, .long 0, .int 0, .int 0, .null, .int 0])), (q1, .inl (E.2.1, 32, .inl (fun _ => 0))), (q2, .inl (E.2.1, 5, .inl (fun _ => 0))), (q3, .inl (E.2.1, 5, .inl (fun _ => 0))), (q4, .inl (E.2.1, 15, .inl (fun _ => 0))), (q5, .inl (E.2.1, 36, .inl (fun _ => 0))), (q6, .inl (E.2.1, 36, .inl (fun _ => 0))), (q7, .inl (E.2.1, 504, .inl (fun _ => 0))), (q8, .inl (E.2.1, 72, .inl (fun _ => 0)))] := hD
  refine lv_aload_n C.1 C.2.1 dX7_init_72 rfl (lv_at hl 0 rfl) ?_
  refine lv_iconst (v := 2) C.1 C.2.1 dX7_init_73 (by decide) ?_
  refine va_newa (atype := .boolean) (ty := .boolean) (a0 := (2, .inl (fun _ => 0))) (N' := 2) C.1 C.2.1 (C.2.2.2.2 _ wd_arrayClass_FT_boolean) rfl X.1 hP hD hS hA (fun _ => rfl) (by decide) (by decide) (Nat.le_of_ble_eq_true rfl) (Nat.le_of_ble_eq_true rfl) (Nat.le_of_ble_eq_true rfl) dX7_init_74 (fun q9 cA H hK1 hP hD hS => ?_)
  have eA := arr_sameZ X hK1
  subst eA
  replace hP : va_P E.1 vwCl [(o, .inr (7, [.int 0, .ref q1, .int 0, .int 0, .int 0, .ref q2, .ref q3, .int 0, .int 0, .int 1, .int 0, .ref q4, .ref q5, .ref q6, .ref q7, .int 0, .ref q8, .null, .int 0, .null, .null, .long 0, .int 0, .int 0, .null, .int 0])), (q1, .inl (E.2.1, 32, .inl (fun _ => 0))), (q2, .inl (E.2.1, 5, .inl (fun _ => 0))), (q3, .inl (E.2.1, 5, .inl (fun _ => 0))), (q4, .inl (E.2.1, 15, .inl (fun _ => 0))), (q5, .inl (E.2.1, 36, .inl (fun _ => 0))), (q6, .inl (E.2.1, 36, .inl (fun _ => 0))), (q7, .inl (E.2.1, 504, .inl (fun _ => 0))), (q8, .inl (E.2.1, 72, .inl (fun _ => 0))), (q9, .inl (E.2.2.1, 2, .inl (fun _ => 0)))] H := hP
  replace hD : va_D A [(o, .inr (7, [.int 0, .ref q1, .int 0, .int 0, .int 0, .ref q2, .ref q3, .int 0, .int 0, .int 1, .int 0, .ref q4, .ref q5, .ref q6, .ref q7, .int 0, .ref q8, .null, .int 0, .null, .null, .long 0, .int 0, .int 0, .null, .int 0])), (q1, .inl (E.2.1, 32, .inl (fun _ => 0))), (q2, .inl (E.2.1, 5, .inl (fun _ => 0))), (q3, .inl (E.2.1, 5, .inl (fun _ => 0))), (q4, .inl (E.2.1, 15, .inl (fun _ => 0))), (q5, .inl (E.2.1, 36, .inl (fun _ => 0))), (q6, .inl (E.2.1, 36, .inl (fun _ => 0))), (q7, .inl (E.2.1, 504, .inl (fun _ => 0))), (q8, .inl (E.2.1, 72, .inl (fun _ => 0))), (q9, .inl (E.2.2.1, 2, .inl (fun _ => 0)))] := hD
  refine W.widen (k := 9) (n := 707) (Nat.le_of_ble_eq_true rfl) (Nat.le_of_ble_eq_true rfl) ?_
  refine va_putF (D := E.1) (ci := 7) (v := .ref q9) C.1 C.2.1 C.2.2.2.2 inA7 tyX7 tyX7_ok nmX7 C.2.2.2.1 X.1 hP hD hS 0 rfl rfl 17 (by decide) (C.2.2.2.2 _ wd_fieldLink_OneTricycleModel_38_OneTricycleModel_isKept_Z_) (fun _ h9 => h9) rfl hin rfl (tyX7_ok 17 (by decide)) rfl rfl (Nat.le_of_ble_eq_true rfl) dX7_init_76 (fun H locs hP hD hS => ?_)
  replace hP : va_P E.1 vwCl [(o, .inr (7, [.int 0, .ref q1, .int 0, .int 0, .int 0, .ref q2, .ref q3, .int 0, .int 0, .int 1, .int 0, .ref q4, .ref q5, .ref q6, .ref q7, .int 0, .ref q8, .ref q9, .int 0, .null, .null, .long 0, .int 0, .int 0, .null, .int 0])), (q1, .inl (E.2.1, 32, .inl (fun _ => 0))), (q2, .inl (E.2.1, 5, .inl (fun _ => 0))), (q3, .inl (E.2.1, 5, .inl (fun _ => 0))), (q4, .inl (E.2.1, 15, .inl (fun _ => 0))), (q5, .inl (E.2.1, 36, .inl (fun _ => 0))), (q6, .inl (E.2.1, 36, .inl (fun _ => 0))), (q7, .inl (E.2.1, 504, .inl (fun _ => 0))), (q8, .inl (E.2.1, 72, .inl (fun _ => 0))), (q9, .inl (E.2.2.1, 2, .inl (fun _ => 0)))] H := hP
  replace hD : va_D A [(o, .inr (7, [.int 0, .ref q1, .int 0, .int 0, .int 0, .ref q2, .ref q3, .int 0, .int 0, .int 1, .int 0, .ref q4, .ref q5, .ref q6, .ref q7, .int 0, .ref q8, .ref q9, .int 0, .null, .null, .long 0, .int 0, .int 0, .null, .int 0])), (q1, .inl (E.2.1, 32, .inl (fun _ => 0))), (q2, .inl (E.2.1, 5, .inl (fun _ => 0))), (q3, .inl (E.2.1, 5, .inl (fun _ => 0))), (q4, .inl (E.2.1, 15, .inl (fun _ => 0))), (q5, .inl (E.2.1, 36, .inl (fun _ => 0))), (q6, .inl (E.2.1, 36, .inl (fun _ => 0))), (q7, .inl (E.2.1, 504, .inl (fun _ => 0))), (q8, .inl (E.2.1, 72, .inl (fun _ => 0))), (q9, .inl (E.2.2.1, 2, .inl (fun _ => 0)))] := hD
  refine lv_aload_n C.1 C.2.1 dX7_init_79 rfl (lv_at hl 0 rfl) ?_
  refine lv_bipush (v := 6) C.1 C.2.1 dX7_init_80 (by decide) ?_
  refine va_newa (atype := .int) (ty := .int) (a0 := (6, .inl (fun _ => 0))) (N' := 6) C.1 C.2.1 (C.2.2.2.2 _ wd_arrayClass_FT_int) rfl X.1 hP hD hS hA (fun _ => rfl) (by decide) (by decide) (Nat.le_of_ble_eq_true rfl) (Nat.le_of_ble_eq_true rfl) (Nat.le_of_ble_eq_true rfl) dX7_init_82 (fun q10 cA H hK1 hP hD hS => ?_)
  have eA := arr_same X hK1
  subst eA
  replace hP : va_P E.1 vwCl [(o, .inr (7, [.int 0, .ref q1, .int 0, .int 0, .int 0, .ref q2, .ref q3, .int 0, .int 0, .int 1, .int 0, .ref q4, .ref q5, .ref q6, .ref q7, .int 0, .ref q8, .ref q9, .int 0, .null, .null, .long 0, .int 0, .int 0, .null, .int 0])), (q1, .inl (E.2.1, 32, .inl (fun _ => 0))), (q2, .inl (E.2.1, 5, .inl (fun _ => 0))), (q3, .inl (E.2.1, 5, .inl (fun _ => 0))), (q4, .inl (E.2.1, 15, .inl (fun _ => 0))), (q5, .inl (E.2.1, 36, .inl (fun _ => 0))), (q6, .inl (E.2.1, 36, .inl (fun _ => 0))), (q7, .inl (E.2.1, 504, .inl (fun _ => 0))), (q8, .inl (E.2.1, 72, .inl (fun _ => 0))), (q9, .inl (E.2.2.1, 2, .inl (fun _ => 0))), (q10, .inl (E.2.1, 6, .inl (fun _ => 0)))] H := hP
  replace hD : va_D A [(o, .inr (7, [.int 0, .ref q1, .int 0, .int 0, .int 0, .ref q2, .ref q3, .int 0, .int 0, .int 1, .int 0, .ref q4, .ref q5, .ref q6, .ref q7, .int 0, .ref q8, .ref q9, .int 0, .null, .null, .long 0, .int 0, .int 0, .null, .int 0])), (q1, .inl (E.2.1, 32, .inl (fun _ => 0))), (q2, .inl (E.2.1, 5, .inl (fun _ => 0))), (q3, .inl (E.2.1, 5, .inl (fun _ => 0))), (q4, .inl (E.2.1, 15, .inl (fun _ => 0))), (q5, .inl (E.2.1, 36, .inl (fun _ => 0))), (q6, .inl (E.2.1, 36, .inl (fun _ => 0))), (q7, .inl (E.2.1, 504, .inl (fun _ => 0))), (q8, .inl (E.2.1, 72, .inl (fun _ => 0))), (q9, .inl (E.2.2.1, 2, .inl (fun _ => 0))), (q10, .inl (E.2.1, 6, .inl (fun _ => 0)))] := hD
  refine W.widen (k := 10) (n := 713) (Nat.le_of_ble_eq_true rfl) (Nat.le_of_ble_eq_true rfl) ?_
  refine va_putF (D := E.1) (ci := 7) (v := .ref q10) C.1 C.2.1 C.2.2.2.2 inA7 tyX7 tyX7_ok nmX7 C.2.2.2.1 X.1 hP hD hS 0 rfl rfl 19 (by decide) (C.2.2.2.2 _ wd_fieldLink_OneTricycleModel_42_OneTricycleModel_seenChild_I_) (fun _ h9 => h9) rfl hin rfl (tyX7_ok 19 (by decide)) rfl rfl (Nat.le_of_ble_eq_true rfl) dX7_init_84 (fun H locs hP hD hS => ?_)
  replace hP : va_P E.1 vwCl [(o, .inr (7, [.int 0, .ref q1, .int 0, .int 0, .int 0, .ref q2, .ref q3, .int 0, .int 0, .int 1, .int 0, .ref q4, .ref q5, .ref q6, .ref q7, .int 0, .ref q8, .ref q9, .int 0, .ref q10, .null, .long 0, .int 0, .int 0, .null, .int 0])), (q1, .inl (E.2.1, 32, .inl (fun _ => 0))), (q2, .inl (E.2.1, 5, .inl (fun _ => 0))), (q3, .inl (E.2.1, 5, .inl (fun _ => 0))), (q4, .inl (E.2.1, 15, .inl (fun _ => 0))), (q5, .inl (E.2.1, 36, .inl (fun _ => 0))), (q6, .inl (E.2.1, 36, .inl (fun _ => 0))), (q7, .inl (E.2.1, 504, .inl (fun _ => 0))), (q8, .inl (E.2.1, 72, .inl (fun _ => 0))), (q9, .inl (E.2.2.1, 2, .inl (fun _ => 0))), (q10, .inl (E.2.1, 6, .inl (fun _ => 0)))] H := hP
  replace hD : va_D A [(o, .inr (7, [.int 0, .ref q1, .int 0, .int 0, .int 0, .ref q2, .ref q3, .int 0, .int 0, .int 1, .int 0, .ref q4, .ref q5, .ref q6, .ref q7, .int 0, .ref q8, .ref q9, .int 0, .ref q10, .null, .long 0, .int 0, .int 0, .null, .int 0])), (q1, .inl (E.2.1, 32, .inl (fun _ => 0))), (q2, .inl (E.2.1, 5, .inl (fun _ => 0))), (q3, .inl (E.2.1, 5, .inl (fun _ => 0))), (q4, .inl (E.2.1, 15, .inl (fun _ => 0))), (q5, .inl (E.2.1, 36, .inl (fun _ => 0))), (q6, .inl (E.2.1, 36, .inl (fun _ => 0))), (q7, .inl (E.2.1, 504, .inl (fun _ => 0))), (q8, .inl (E.2.1, 72, .inl (fun _ => 0))), (q9, .inl (E.2.2.1, 2, .inl (fun _ => 0))), (q10, .inl (E.2.1, 6, .inl (fun _ => 0)))] := hD
  refine lv_aload_n C.1 C.2.1 dX7_init_87 rfl (lv_at hl 0 rfl) ?_
  refine lv_bipush (v := 6) C.1 C.2.1 dX7_init_88 (by decide) ?_
  refine va_newa (atype := .int) (ty := .int) (a0 := (6, .inl (fun _ => 0))) (N' := 6) C.1 C.2.1 (C.2.2.2.2 _ wd_arrayClass_FT_int) rfl X.1 hP hD hS hA (fun _ => rfl) (by decide) (by decide) (Nat.le_of_ble_eq_true rfl) (Nat.le_of_ble_eq_true rfl) (Nat.le_of_ble_eq_true rfl) dX7_init_90 (fun q11 cA H hK1 hP hD hS => ?_)
  have eA := arr_same X hK1
  subst eA
  replace hP : va_P E.1 vwCl [(o, .inr (7, [.int 0, .ref q1, .int 0, .int 0, .int 0, .ref q2, .ref q3, .int 0, .int 0, .int 1, .int 0, .ref q4, .ref q5, .ref q6, .ref q7, .int 0, .ref q8, .ref q9, .int 0, .ref q10, .null, .long 0, .int 0, .int 0, .null, .int 0])), (q1, .inl (E.2.1, 32, .inl (fun _ => 0))), (q2, .inl (E.2.1, 5, .inl (fun _ => 0))), (q3, .inl (E.2.1, 5, .inl (fun _ => 0))), (q4, .inl (E.2.1, 15, .inl (fun _ => 0))), (q5, .inl (E.2.1, 36, .inl (fun _ => 0))), (q6, .inl (E.2.1, 36, .inl (fun _ => 0))), (q7, .inl (E.2.1, 504, .inl (fun _ => 0))), (q8, .inl (E.2.1, 72, .inl (fun _ => 0))), (q9, .inl (E.2.2.1, 2, .inl (fun _ => 0))), (q10, .inl (E.2.1, 6, .inl (fun _ => 0))), (q11, .inl (E.2.1, 6, .inl (fun _ => 0)))] H := hP
  replace hD : va_D A [(o, .inr (7, [.int 0, .ref q1, .int 0, .int 0, .int 0, .ref q2, .ref q3, .int 0, .int 0, .int 1, .int 0, .ref q4, .ref q5, .ref q6, .ref q7, .int 0, .ref q8, .ref q9, .int 0, .ref q10, .null, .long 0, .int 0, .int 0, .null, .int 0])), (q1, .inl (E.2.1, 32, .inl (fun _ => 0))), (q2, .inl (E.2.1, 5, .inl (fun _ => 0))), (q3, .inl (E.2.1, 5, .inl (fun _ => 0))), (q4, .inl (E.2.1, 15, .inl (fun _ => 0))), (q5, .inl (E.2.1, 36, .inl (fun _ => 0))), (q6, .inl (E.2.1, 36, .inl (fun _ => 0))), (q7, .inl (E.2.1, 504, .inl (fun _ => 0))), (q8, .inl (E.2.1, 72, .inl (fun _ => 0))), (q9, .inl (E.2.2.1, 2, .inl (fun _ => 0))), (q10, .inl (E.2.1, 6, .inl (fun _ => 0))), (q11, .inl (E.2.1, 6, .inl (fun _ => 0)))] := hD
  refine W.widen (k := 11) (n := 719) (Nat.le_of_ble_eq_true rfl) (Nat.le_of_ble_eq_true rfl) ?_
  refine va_putF (D := E.1) (ci := 7) (v := .ref q11) C.1 C.2.1 C.2.2.2.2 inA7 tyX7 tyX7_ok nmX7 C.2.2.2.1 X.1 hP hD hS 0 rfl rfl 20 (by decide) (C.2.2.2.2 _ wd_fieldLink_OneTricycleModel_45_OneTricycleModel_seenMinute_I_) (fun _ h9 => h9) rfl hin rfl (tyX7_ok 20 (by decide)) rfl rfl (Nat.le_of_ble_eq_true rfl) dX7_init_92 (fun H locs hP hD hS => ?_)
  replace hP : va_P E.1 vwCl [(o, .inr (7, [.int 0, .ref q1, .int 0, .int 0, .int 0, .ref q2, .ref q3, .int 0, .int 0, .int 1, .int 0, .ref q4, .ref q5, .ref q6, .ref q7, .int 0, .ref q8, .ref q9, .int 0, .ref q10, .ref q11, .long 0, .int 0, .int 0, .null, .int 0])), (q1, .inl (E.2.1, 32, .inl (fun _ => 0))), (q2, .inl (E.2.1, 5, .inl (fun _ => 0))), (q3, .inl (E.2.1, 5, .inl (fun _ => 0))), (q4, .inl (E.2.1, 15, .inl (fun _ => 0))), (q5, .inl (E.2.1, 36, .inl (fun _ => 0))), (q6, .inl (E.2.1, 36, .inl (fun _ => 0))), (q7, .inl (E.2.1, 504, .inl (fun _ => 0))), (q8, .inl (E.2.1, 72, .inl (fun _ => 0))), (q9, .inl (E.2.2.1, 2, .inl (fun _ => 0))), (q10, .inl (E.2.1, 6, .inl (fun _ => 0))), (q11, .inl (E.2.1, 6, .inl (fun _ => 0)))] H := hP
  replace hD : va_D A [(o, .inr (7, [.int 0, .ref q1, .int 0, .int 0, .int 0, .ref q2, .ref q3, .int 0, .int 0, .int 1, .int 0, .ref q4, .ref q5, .ref q6, .ref q7, .int 0, .ref q8, .ref q9, .int 0, .ref q10, .ref q11, .long 0, .int 0, .int 0, .null, .int 0])), (q1, .inl (E.2.1, 32, .inl (fun _ => 0))), (q2, .inl (E.2.1, 5, .inl (fun _ => 0))), (q3, .inl (E.2.1, 5, .inl (fun _ => 0))), (q4, .inl (E.2.1, 15, .inl (fun _ => 0))), (q5, .inl (E.2.1, 36, .inl (fun _ => 0))), (q6, .inl (E.2.1, 36, .inl (fun _ => 0))), (q7, .inl (E.2.1, 504, .inl (fun _ => 0))), (q8, .inl (E.2.1, 72, .inl (fun _ => 0))), (q9, .inl (E.2.2.1, 2, .inl (fun _ => 0))), (q10, .inl (E.2.1, 6, .inl (fun _ => 0))), (q11, .inl (E.2.1, 6, .inl (fun _ => 0)))] := hD
  refine lv_aload_n C.1 C.2.1 dX7_init_95 rfl (lv_at hl 0 rfl) ?_
  refine lv_bipush (v := 32) C.1 C.2.1 dX7_init_96 (by decide) ?_
  refine va_newa (atype := .int) (ty := .int) (a0 := (32, .inl (fun _ => 0))) (N' := 32) C.1 C.2.1 (C.2.2.2.2 _ wd_arrayClass_FT_int) rfl X.1 hP hD hS hA (fun _ => rfl) (by decide) (by decide) (Nat.le_of_ble_eq_true rfl) (Nat.le_of_ble_eq_true rfl) (Nat.le_of_ble_eq_true rfl) dX7_init_98 (fun q12 cA H hK1 hP hD hS => ?_)
  have eA := arr_same X hK1
  subst eA
  replace hP : va_P E.1 vwCl [(o, .inr (7, [.int 0, .ref q1, .int 0, .int 0, .int 0, .ref q2, .ref q3, .int 0, .int 0, .int 1, .int 0, .ref q4, .ref q5, .ref q6, .ref q7, .int 0, .ref q8, .ref q9, .int 0, .ref q10, .ref q11, .long 0, .int 0, .int 0, .null, .int 0])), (q1, .inl (E.2.1, 32, .inl (fun _ => 0))), (q2, .inl (E.2.1, 5, .inl (fun _ => 0))), (q3, .inl (E.2.1, 5, .inl (fun _ => 0))), (q4, .inl (E.2.1, 15, .inl (fun _ => 0))), (q5, .inl (E.2.1, 36, .inl (fun _ => 0))), (q6, .inl (E.2.1, 36, .inl (fun _ => 0))), (q7, .inl (E.2.1, 504, .inl (fun _ => 0))), (q8, .inl (E.2.1, 72, .inl (fun _ => 0))), (q9, .inl (E.2.2.1, 2, .inl (fun _ => 0))), (q10, .inl (E.2.1, 6, .inl (fun _ => 0))), (q11, .inl (E.2.1, 6, .inl (fun _ => 0))), (q12, .inl (E.2.1, 32, .inl (fun _ => 0)))] H := hP
  replace hD : va_D A [(o, .inr (7, [.int 0, .ref q1, .int 0, .int 0, .int 0, .ref q2, .ref q3, .int 0, .int 0, .int 1, .int 0, .ref q4, .ref q5, .ref q6, .ref q7, .int 0, .ref q8, .ref q9, .int 0, .ref q10, .ref q11, .long 0, .int 0, .int 0, .null, .int 0])), (q1, .inl (E.2.1, 32, .inl (fun _ => 0))), (q2, .inl (E.2.1, 5, .inl (fun _ => 0))), (q3, .inl (E.2.1, 5, .inl (fun _ => 0))), (q4, .inl (E.2.1, 15, .inl (fun _ => 0))), (q5, .inl (E.2.1, 36, .inl (fun _ => 0))), (q6, .inl (E.2.1, 36, .inl (fun _ => 0))), (q7, .inl (E.2.1, 504, .inl (fun _ => 0))), (q8, .inl (E.2.1, 72, .inl (fun _ => 0))), (q9, .inl (E.2.2.1, 2, .inl (fun _ => 0))), (q10, .inl (E.2.1, 6, .inl (fun _ => 0))), (q11, .inl (E.2.1, 6, .inl (fun _ => 0))), (q12, .inl (E.2.1, 32, .inl (fun _ => 0)))] := hD
  refine W.widen (k := 12) (n := 751) (Nat.le_of_ble_eq_true rfl) (Nat.le_of_ble_eq_true rfl) ?_
  refine va_putF (D := E.1) (ci := 7) (v := .ref q12) C.1 C.2.1 C.2.2.2.2 inA7 tyX7 tyX7_ok nmX7 C.2.2.2.1 X.1 hP hD hS 0 rfl rfl 24 (by decide) (C.2.2.2.2 _ wd_fieldLink_OneTricycleModel_48_OneTricycleModel_value_I_) (fun _ h9 => h9) rfl hin rfl (tyX7_ok 24 (by decide)) rfl rfl (Nat.le_of_ble_eq_true rfl) dX7_init_100 (fun H locs hP hD hS => ?_)
  replace hP : va_P E.1 vwCl [(o, .inr (7, [.int 0, .ref q1, .int 0, .int 0, .int 0, .ref q2, .ref q3, .int 0, .int 0, .int 1, .int 0, .ref q4, .ref q5, .ref q6, .ref q7, .int 0, .ref q8, .ref q9, .int 0, .ref q10, .ref q11, .long 0, .int 0, .int 0, .ref q12, .int 0])), (q1, .inl (E.2.1, 32, .inl (fun _ => 0))), (q2, .inl (E.2.1, 5, .inl (fun _ => 0))), (q3, .inl (E.2.1, 5, .inl (fun _ => 0))), (q4, .inl (E.2.1, 15, .inl (fun _ => 0))), (q5, .inl (E.2.1, 36, .inl (fun _ => 0))), (q6, .inl (E.2.1, 36, .inl (fun _ => 0))), (q7, .inl (E.2.1, 504, .inl (fun _ => 0))), (q8, .inl (E.2.1, 72, .inl (fun _ => 0))), (q9, .inl (E.2.2.1, 2, .inl (fun _ => 0))), (q10, .inl (E.2.1, 6, .inl (fun _ => 0))), (q11, .inl (E.2.1, 6, .inl (fun _ => 0))), (q12, .inl (E.2.1, 32, .inl (fun _ => 0)))] H := hP
  replace hD : va_D A [(o, .inr (7, [.int 0, .ref q1, .int 0, .int 0, .int 0, .ref q2, .ref q3, .int 0, .int 0, .int 1, .int 0, .ref q4, .ref q5, .ref q6, .ref q7, .int 0, .ref q8, .ref q9, .int 0, .ref q10, .ref q11, .long 0, .int 0, .int 0, .ref q12, .int 0])), (q1, .inl (E.2.1, 32, .inl (fun _ => 0))), (q2, .inl (E.2.1, 5, .inl (fun _ => 0))), (q3, .inl (E.2.1, 5, .inl (fun _ => 0))), (q4, .inl (E.2.1, 15, .inl (fun _ => 0))), (q5, .inl (E.2.1, 36, .inl (fun _ => 0))), (q6, .inl (E.2.1, 36, .inl (fun _ => 0))), (q7, .inl (E.2.1, 504, .inl (fun _ => 0))), (q8, .inl (E.2.1, 72, .inl (fun _ => 0))), (q9, .inl (E.2.2.1, 2, .inl (fun _ => 0))), (q10, .inl (E.2.1, 6, .inl (fun _ => 0))), (q11, .inl (E.2.1, 6, .inl (fun _ => 0))), (q12, .inl (E.2.1, 32, .inl (fun _ => 0)))] := hD
  refine lv_aload_n C.1 C.2.1 dX7_init_103 rfl (lv_at hl 0 rfl) ?_
  refine va_get (D := E.1) (ci := 7) (v := .ref q5) C.1 C.2.1 C.2.2.2.2 inA7 C.2.2.2.1 X.1 hP 0 rfl rfl 12 (by decide) (C.2.2.2.2 _ wd_fieldLink_OneTricycleModel_26_OneTricycleModel_page_I_) (fun _ h9 => h9) rfl dX7_init_104 ?_
  refine lv_bipush (v := 31) C.1 C.2.1 dX7_init_107 (by decide) ?_
  refine lv_bipush (v := -9) C.1 C.2.1 dX7_init_109 (by decide) ?_
  refine va_iast C.1 C.2.1 X.1 hP hD hS 5 0 rfl rfl (inb_in (by decide)) dX7_init_111 (fun H locs hP hD hS => ?_)
  replace hP : va_P E.1 vwCl [(o, .inr (7, [.int 0, .ref q1, .int 0, .int 0, .int 0, .ref q2, .ref q3, .int 0, .int 0, .int 1, .int 0, .ref q4, .ref q5, .ref q6, .ref q7, .int 0, .ref q8, .ref q9, .int 0, .ref q10, .ref q11, .long 0, .int 0, .int 0, .ref q12, .int 0])), (q1, .inl (E.2.1, 32, .inl (fun _ => 0))), (q2, .inl (E.2.1, 5, .inl (fun _ => 0))), (q3, .inl (E.2.1, 5, .inl (fun _ => 0))), (q4, .inl (E.2.1, 15, .inl (fun _ => 0))), (q5, .inl (E.2.1, 36, .inl (upd (fun _ => 0) 31 (-9)))), (q6, .inl (E.2.1, 36, .inl (fun _ => 0))), (q7, .inl (E.2.1, 504, .inl (fun _ => 0))), (q8, .inl (E.2.1, 72, .inl (fun _ => 0))), (q9, .inl (E.2.2.1, 2, .inl (fun _ => 0))), (q10, .inl (E.2.1, 6, .inl (fun _ => 0))), (q11, .inl (E.2.1, 6, .inl (fun _ => 0))), (q12, .inl (E.2.1, 32, .inl (fun _ => 0)))] H := hP
  replace hD : va_D A [(o, .inr (7, [.int 0, .ref q1, .int 0, .int 0, .int 0, .ref q2, .ref q3, .int 0, .int 0, .int 1, .int 0, .ref q4, .ref q5, .ref q6, .ref q7, .int 0, .ref q8, .ref q9, .int 0, .ref q10, .ref q11, .long 0, .int 0, .int 0, .ref q12, .int 0])), (q1, .inl (E.2.1, 32, .inl (fun _ => 0))), (q2, .inl (E.2.1, 5, .inl (fun _ => 0))), (q3, .inl (E.2.1, 5, .inl (fun _ => 0))), (q4, .inl (E.2.1, 15, .inl (fun _ => 0))), (q5, .inl (E.2.1, 36, .inl (upd (fun _ => 0) 31 (-9)))), (q6, .inl (E.2.1, 36, .inl (fun _ => 0))), (q7, .inl (E.2.1, 504, .inl (fun _ => 0))), (q8, .inl (E.2.1, 72, .inl (fun _ => 0))), (q9, .inl (E.2.2.1, 2, .inl (fun _ => 0))), (q10, .inl (E.2.1, 6, .inl (fun _ => 0))), (q11, .inl (E.2.1, 6, .inl (fun _ => 0))), (q12, .inl (E.2.1, 32, .inl (fun _ => 0)))] := hD
  refine lv_aload_n C.1 C.2.1 dX7_init_112 rfl (lv_at hl 0 rfl) ?_
  refine va_get (D := E.1) (ci := 7) (v := .ref q5) C.1 C.2.1 C.2.2.2.2 inA7 C.2.2.2.1 X.1 hP 0 rfl rfl 12 (by decide) (C.2.2.2.2 _ wd_fieldLink_OneTricycleModel_26_OneTricycleModel_page_I_) (fun _ h9 => h9) rfl dX7_init_113 ?_
  refine lv_bipush (v := 33) C.1 C.2.1 dX7_init_116 (by decide) ?_
  refine lv_iconst (v := 1) C.1 C.2.1 dX7_init_118 (by decide) ?_
  refine va_iast C.1 C.2.1 X.1 hP hD hS 5 0 rfl rfl (inb_in (by decide)) dX7_init_119 (fun H locs hP hD hS => ?_)
  replace hP : va_P E.1 vwCl [(o, .inr (7, [.int 0, .ref q1, .int 0, .int 0, .int 0, .ref q2, .ref q3, .int 0, .int 0, .int 1, .int 0, .ref q4, .ref q5, .ref q6, .ref q7, .int 0, .ref q8, .ref q9, .int 0, .ref q10, .ref q11, .long 0, .int 0, .int 0, .ref q12, .int 0])), (q1, .inl (E.2.1, 32, .inl (fun _ => 0))), (q2, .inl (E.2.1, 5, .inl (fun _ => 0))), (q3, .inl (E.2.1, 5, .inl (fun _ => 0))), (q4, .inl (E.2.1, 15, .inl (fun _ => 0))), (q5, .inl (E.2.1, 36, .inl (upd (upd (fun _ => 0) 31 (-9)) 33 1))), (q6, .inl (E.2.1, 36, .inl (fun _ => 0))), (q7, .inl (E.2.1, 504, .inl (fun _ => 0))), (q8, .inl (E.2.1, 72, .inl (fun _ => 0))), (q9, .inl (E.2.2.1, 2, .inl (fun _ => 0))), (q10, .inl (E.2.1, 6, .inl (fun _ => 0))), (q11, .inl (E.2.1, 6, .inl (fun _ => 0))), (q12, .inl (E.2.1, 32, .inl (fun _ => 0)))] H := hP
  replace hD : va_D A [(o, .inr (7, [.int 0, .ref q1, .int 0, .int 0, .int 0, .ref q2, .ref q3, .int 0, .int 0, .int 1, .int 0, .ref q4, .ref q5, .ref q6, .ref q7, .int 0, .ref q8, .ref q9, .int 0, .ref q10, .ref q11, .long 0, .int 0, .int 0, .ref q12, .int 0])), (q1, .inl (E.2.1, 32, .inl (fun _ => 0))), (q2, .inl (E.2.1, 5, .inl (fun _ => 0))), (q3, .inl (E.2.1, 5, .inl (fun _ => 0))), (q4, .inl (E.2.1, 15, .inl (fun _ => 0))), (q5, .inl (E.2.1, 36, .inl (upd (upd (fun _ => 0) 31 (-9)) 33 1))), (q6, .inl (E.2.1, 36, .inl (fun _ => 0))), (q7, .inl (E.2.1, 504, .inl (fun _ => 0))), (q8, .inl (E.2.1, 72, .inl (fun _ => 0))), (q9, .inl (E.2.2.1, 2, .inl (fun _ => 0))), (q10, .inl (E.2.1, 6, .inl (fun _ => 0))), (q11, .inl (E.2.1, 6, .inl (fun _ => 0))), (q12, .inl (E.2.1, 32, .inl (fun _ => 0)))] := hD
  refine lv_aload_n C.1 C.2.1 dX7_init_120 rfl (lv_at hl 0 rfl) ?_
  refine va_get (D := E.1) (ci := 7) (v := .ref q5) C.1 C.2.1 C.2.2.2.2 inA7 C.2.2.2.1 X.1 hP 0 rfl rfl 12 (by decide) (C.2.2.2.2 _ wd_fieldLink_OneTricycleModel_26_OneTricycleModel_page_I_) (fun _ h9 => h9) rfl dX7_init_121 ?_
  refine lv_bipush (v := 34) C.1 C.2.1 dX7_init_124 (by decide) ?_
  refine lv_iconst (v := 1) C.1 C.2.1 dX7_init_126 (by decide) ?_
  refine va_iast C.1 C.2.1 X.1 hP hD hS 5 0 rfl rfl (inb_in (by decide)) dX7_init_127 (fun H locs hP hD hS => ?_)
  replace hP : va_P E.1 vwCl [(o, .inr (7, [.int 0, .ref q1, .int 0, .int 0, .int 0, .ref q2, .ref q3, .int 0, .int 0, .int 1, .int 0, .ref q4, .ref q5, .ref q6, .ref q7, .int 0, .ref q8, .ref q9, .int 0, .ref q10, .ref q11, .long 0, .int 0, .int 0, .ref q12, .int 0])), (q1, .inl (E.2.1, 32, .inl (fun _ => 0))), (q2, .inl (E.2.1, 5, .inl (fun _ => 0))), (q3, .inl (E.2.1, 5, .inl (fun _ => 0))), (q4, .inl (E.2.1, 15, .inl (fun _ => 0))), (q5, .inl (E.2.1, 36, .inl (upd (upd (upd (fun _ => 0) 31 (-9)) 33 1) 34 1))), (q6, .inl (E.2.1, 36, .inl (fun _ => 0))), (q7, .inl (E.2.1, 504, .inl (fun _ => 0))), (q8, .inl (E.2.1, 72, .inl (fun _ => 0))), (q9, .inl (E.2.2.1, 2, .inl (fun _ => 0))), (q10, .inl (E.2.1, 6, .inl (fun _ => 0))), (q11, .inl (E.2.1, 6, .inl (fun _ => 0))), (q12, .inl (E.2.1, 32, .inl (fun _ => 0)))] H := hP
  replace hD : va_D A [(o, .inr (7, [.int 0, .ref q1, .int 0, .int 0, .int 0, .ref q2, .ref q3, .int 0, .int 0, .int 1, .int 0, .ref q4, .ref q5, .ref q6, .ref q7, .int 0, .ref q8, .ref q9, .int 0, .ref q10, .ref q11, .long 0, .int 0, .int 0, .ref q12, .int 0])), (q1, .inl (E.2.1, 32, .inl (fun _ => 0))), (q2, .inl (E.2.1, 5, .inl (fun _ => 0))), (q3, .inl (E.2.1, 5, .inl (fun _ => 0))), (q4, .inl (E.2.1, 15, .inl (fun _ => 0))), (q5, .inl (E.2.1, 36, .inl (upd (upd (upd (fun _ => 0) 31 (-9)) 33 1) 34 1))), (q6, .inl (E.2.1, 36, .inl (fun _ => 0))), (q7, .inl (E.2.1, 504, .inl (fun _ => 0))), (q8, .inl (E.2.1, 72, .inl (fun _ => 0))), (q9, .inl (E.2.2.1, 2, .inl (fun _ => 0))), (q10, .inl (E.2.1, 6, .inl (fun _ => 0))), (q11, .inl (E.2.1, 6, .inl (fun _ => 0))), (q12, .inl (E.2.1, 32, .inl (fun _ => 0)))] := hD
  subst hAe
  exact x_nret (fun i => ([o, q1, q2, q3, q4, q5, q6, q7, q8, q9, q10, q11, q12] : List Nat).getD i 0) C hr hlk hP hD hS rfl dX7_init_128
