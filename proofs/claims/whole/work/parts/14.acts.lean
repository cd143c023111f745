def qX0_forgetAll (h : Hp) : Option (Hp) :=
(bd (su h 24 (upd (h 24) 1 (0 : Int32))) (fun h21 =>
(some h21)))
set_option maxHeartbeats 4000000 in
set_option maxRecDepth 100000 in
theorem c_X0_forgetAll {l : Launch} {E : Ev} {ad : Nat → Nat} {g : Gp} {h : Hp} {h9 : Hp} (hI : Inj ad) (hf : qX0_forgetAll h = some h9) : CtV l yX0_forgetAll cX0_forgetAll 1 none 0 0 E ad g g [.ref (ad 132)] h h9 := by
  refine x_begin (by decide) (Nat.le_of_ble_eq_true rfl) ?_
  intro p e s m below meth c ls C hr hlk X w hl
  replace hl : lv_has ls 1 [(0, .ref (ad 132))] := hl
  replace C : CallFix p m c cX0_forgetAll 1 s ([.ref (ad 132)] : List Value).toArray lwA RX0 := C
  unfold qX0_forgetAll at hf
  refine lv_aload_n C.1 C.2.1 dX0_forgetAll_0 rfl (lv_at hl 0 rfl) ?_
  refine lv_iconst (v := 0) C.1 C.2.1 dX0_forgetAll_1 (by decide) ?_
  obtain ⟨h21, eh21, hf⟩ := bd_e hf
  refine pf_X0_17 C X hI w dX0_forgetAll_2 (fun H locs w => ?_)
  replace w := at_eq eh21 w
  cases hf
  exact x_vret C hr hlk w dX0_forgetAll_5

def qX0_remember (h : Hp) : Option (Hp) :=
(ck (inb ((h 24) 2) 14) ((bi1 (qX2_copyFrom (h 0) (h (2 + (((h 24) 2)).toNatClampNeg))) (fun P25 =>
(bd (su h (2 + (((h 24) 2)).toNatClampNeg) P25) (fun h26 =>
(bd (su h26 24 (upd (h26 24) 2 ((((h26 24) 2) + (1 : Int32)) - (((h26 24) 2) + (1 : Int32)) / (14 : Int32) * (14 : Int32)))) (fun h27 =>
(bd (su h27 24 (upd (h27 24) 1 (if (((h27 24) 1) + (1 : Int32)) < (14 : Int32) then (((h27 24) 1) + (1 : Int32)) else (14 : Int32)))) (fun h28 =>
(some h28)))))))))))
set_option maxHeartbeats 4000000 in
set_option maxRecDepth 100000 in
theorem c_X0_remember {l : Launch} {E : Ev} {ad : Nat → Nat} {g : Gp} {h : Hp} {h9 : Hp} (hI : Inj ad) (hf : qX0_remember h = some h9) : CtV l yX0_remember cX0_remember 2 none 1 22 E ad g g [.ref (ad 132), .ref (ad (7 * 0))] h h9 := by
  refine x_begin (by decide) (Nat.le_of_ble_eq_true rfl) ?_
  intro p e s m below meth c ls C hr hlk X w hl
  replace hl : lv_has ls 2 [(0, .ref (ad 132)), (1, .ref (ad (7 * 0)))] := hl
  replace C : CallFix p m c cX0_remember 2 s ([.ref (ad 132), .ref (ad (7 * 0))] : List Value).toArray lwA RX0 := C
  unfold qX0_remember at hf
  refine lv_aload_n C.1 C.2.1 dX0_remember_0 rfl (lv_at hl 0 rfl) ?_
  refine gf_X0_11 C X w rfl dX0_remember_1 ?_
  refine lv_aload_n C.1 C.2.1 dX0_remember_4 rfl (lv_at hl 0 rfl) ?_
  refine gf_X0_21 C X w (rfl) dX0_remember_5 ?_
  obtain ⟨i21, hf⟩ := ck_e hf
  have hb22 : (2 + (((h 24) 2)).toNatClampNeg) < 18 := by have := inb_lt i21; omega
  refine x_ald (q := ad (7 * (2 + (((h 24) 2)).toNatClampNeg))) C X w wl_r25 i21 rfl dX0_remember_8 ?_
  refine lv_aload_n C.1 C.2.1 dX0_remember_9 rfl (lv_at hl 1 rfl) ?_
  obtain ⟨P25, eq23, hf⟩ := bi1_e hf
  obtain ⟨h26, eh26, hf⟩ := bd_e hf
  refine x_cVvN (As := [.ref (ad (7 * 0))]) (rest := []) C X (at_su (2 + (((h 24) 2)).toNatClampNeg) w) (c_X2_copyFrom hI (hb22) (by decide) (by first | decide | omega) eq23) mw_X2_copyFrom ml_X0_27 (rcv_P (b := (2 + (((h 24) 2)).toNatClampNeg)) (su_same _ _ _) (hb22)) rfl hl.1 rfl (Nat.le_of_ble_eq_true rfl) ⟨⟨Nat.le_of_ble_eq_true rfl, Nat.le_of_ble_eq_true rfl⟩, Nat.le_of_ble_eq_true rfl, Nat.le_of_ble_eq_true rfl⟩ dX0_remember_10 (fun H locs w => ?_)
  replace w := at_eq eh26 w
  refine lv_aload_n C.1 C.2.1 dX0_remember_13 rfl (lv_at hl 0 rfl) ?_
  refine lv_aload_n C.1 C.2.1 dX0_remember_14 rfl (lv_at hl 0 rfl) ?_
  refine gf_X0_21 C X w (rfl) dX0_remember_15 ?_
  refine lv_iconst (v := 1) C.1 C.2.1 dX0_remember_18 (by decide) ?_
  refine lv_iadd C.1 C.2.1 dX0_remember_19 ?_
  refine lv_bipush (v := 14) C.1 C.2.1 dX0_remember_20 (by decide) ?_
  refine lv_irem C.1 C.2.1 dX0_remember_22 (by decide) ?_
  obtain ⟨h27, eh27, hf⟩ := bd_e hf
  refine pf_X0_21 C X hI w dX0_remember_23 (fun H locs w => ?_)
  replace w := at_eq eh27 w
  refine lv_aload_n C.1 C.2.1 dX0_remember_26 rfl (lv_at hl 0 rfl) ?_
  refine lv_bipush (v := 14) C.1 C.2.1 dX0_remember_27 (by decide) ?_
  refine lv_aload_n C.1 C.2.1 dX0_remember_29 rfl (lv_at hl 0 rfl) ?_
  refine gf_X0_17 C X w (rfl) dX0_remember_30 ?_
  refine lv_iconst (v := 1) C.1 C.2.1 dX0_remember_33 (by decide) ?_
  refine lv_iadd C.1 C.2.1 dX0_remember_34 ?_
  refine va_mmin C.1 C.2.1 (C.2.2.1.trans hl.1.symm) C.2.2.2.1 (C.2.2.2.2 _ wd_methodLink_OneTricycle_Acts_31_java_lang_Math_min_II_I_) (C.2.2.2.2 _ wd_static_java_lang_Math_min_II_I_) (C.2.2.2.2 _ wd_initialized_java_lang_Math_) (C.2.2.2.2 _ wd_code_Math_min) (Nat.le_of_ble_eq_true rfl) (Nat.le_of_ble_eq_true rfl) (Nat.le_of_ble_eq_true rfl) (Nat.le_of_ble_eq_true rfl) dX0_remember_35 ?_
  obtain ⟨h28, eh28, hf⟩ := bd_e hf
  refine pf_X0_17 C X hI w dX0_remember_38 (fun H locs w => ?_)
  replace w := at_eq eh28 w
  cases hf
  exact x_vret C hr hlk w dX0_remember_41

def qX0_takeBack (h : Hp) : Option (Hp) :=
(bd (su h 24 (upd (h 24) 2 (((((h 24) 2) + (14 : Int32)) - (1 : Int32)) - ((((h 24) 2) + (14 : Int32)) - (1 : Int32)) / (14 : Int32) * (14 : Int32)))) (fun h21 =>
(ck (inb ((h21 24) 2) 14) ((bi1 (qX2_copyFrom (h21 (2 + (((h21 24) 2)).toNatClampNeg)) (h21 0)) (fun P26 =>
(bd (su h21 0 P26) (fun h27 =>
(bd (su h27 24 (upd (h27 24) 1 (((h27 24) 1) - (1 : Int32)))) (fun h28 =>
(some h28)))))))))))
set_option maxHeartbeats 4000000 in
set_option maxRecDepth 100000 in
theorem c_X0_takeBack {l : Launch} {E : Ev} {ad : Nat → Nat} {g : Gp} {h : Hp} {h9 : Hp} (hI : Inj ad) (hf : qX0_takeBack h = some h9) : CtV l yX0_takeBack cX0_takeBack 2 none 1 22 E ad g g [.ref (ad 132), .ref (ad (7 * 0))] h h9 := by
  refine x_begin (by decide) (Nat.le_of_ble_eq_true rfl) ?_
  intro p e s m below meth c ls C hr hlk X w hl
  replace hl : lv_has ls 2 [(0, .ref (ad 132)), (1, .ref (ad (7 * 0)))] := hl
  replace C : CallFix p m c cX0_takeBack 2 s ([.ref (ad 132), .ref (ad (7 * 0))] : List Value).toArray lwA RX0 := C
  unfold qX0_takeBack at hf
  refine lv_aload_n C.1 C.2.1 dX0_takeBack_0 rfl (lv_at hl 0 rfl) ?_
  refine lv_aload_n C.1 C.2.1 dX0_takeBack_1 rfl (lv_at hl 0 rfl) ?_
  refine gf_X0_21 C X w (rfl) dX0_takeBack_2 ?_
  refine lv_bipush (v := 14) C.1 C.2.1 dX0_takeBack_5 (by decide) ?_
  refine lv_iadd C.1 C.2.1 dX0_takeBack_7 ?_
  refine lv_iconst (v := 1) C.1 C.2.1 dX0_takeBack_8 (by decide) ?_
  refine lv_isub C.1 C.2.1 dX0_takeBack_9 ?_
  refine lv_bipush (v := 14) C.1 C.2.1 dX0_takeBack_10 (by decide) ?_
  refine lv_irem C.1 C.2.1 dX0_takeBack_12 (by decide) ?_
  obtain ⟨h21, eh21, hf⟩ := bd_e hf
  refine pf_X0_21 C X hI w dX0_takeBack_13 (fun H locs w => ?_)
  replace w := at_eq eh21 w
  refine lv_aload_n C.1 C.2.1 dX0_takeBack_16 rfl (lv_at hl 1 rfl) ?_
  refine lv_aload_n C.1 C.2.1 dX0_takeBack_17 rfl (lv_at hl 0 rfl) ?_
  refine gf_X0_11 C X w rfl dX0_takeBack_18 ?_
  refine lv_aload_n C.1 C.2.1 dX0_takeBack_21 rfl (lv_at hl 0 rfl) ?_
  refine gf_X0_21 C X w (rfl) dX0_takeBack_22 ?_
  obtain ⟨i22, hf⟩ := ck_e hf
  have hb23 : (2 + (((h21 24) 2)).toNatClampNeg) < 18 := by have := inb_lt i22; omega
  refine x_ald (q := ad (7 * (2 + (((h21 24) 2)).toNatClampNeg))) C X w wl_r25 i22 rfl dX0_takeBack_25 ?_
  obtain ⟨P26, eq24, hf⟩ := bi1_e hf
  obtain ⟨h27, eh27, hf⟩ := bd_e hf
  refine x_cVvN (As := [.ref (ad (7 * (2 + (((h21 24) 2)).toNatClampNeg)))]) (rest := []) C X (at_su 0 w) (c_X2_copyFrom hI (by decide) (hb23) (by first | decide | omega) eq24) mw_X2_copyFrom ml_X0_27 (rcv_P (b := 0) (su_same _ _ _) (by decide)) rfl hl.1 rfl (Nat.le_of_ble_eq_true rfl) ⟨⟨Nat.le_of_ble_eq_true rfl, Nat.le_of_ble_eq_true rfl⟩, Nat.le_of_ble_eq_true rfl, Nat.le_of_ble_eq_true rfl⟩ dX0_takeBack_26 (fun H locs w => ?_)
  replace w := at_eq eh27 w
  refine lv_aload_n C.1 C.2.1 dX0_takeBack_29 rfl (lv_at hl 0 rfl) ?_
  refine lv_dup C.1 C.2.1 dX0_takeBack_30 rfl ?_
  refine gf_X0_17 C X w (rfl) dX0_takeBack_31 ?_
  refine lv_iconst (v := 1) C.1 C.2.1 dX0_takeBack_34 (by decide) ?_
  refine lv_isub C.1 C.2.1 dX0_takeBack_35 ?_
  obtain ⟨h28, eh28, hf⟩ := bd_e hf
  refine pf_X0_17 C X hI w dX0_takeBack_36 (fun H locs w => ?_)
  replace w := at_eq eh28 w
  cases hf
  exact x_vret C hr hlk w dX0_takeBack_39
