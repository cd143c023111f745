def qX5_append (h : Hp) (x1 : Int32) : Option (Hp) :=
(if (32 : Int32) ≤ ((h 19) 1) then (some h)
else (ck (inb ((h 19) 1) 32) (bd (su h 20 (upd (h 20) (((h 19) 1)).toNatClampNeg x1)) (fun h23 =>
(bd (su h23 19 (upd (h23 19) 1 (((h23 19) 1) + (1 : Int32)))) (fun h24 =>
(some h24)))))))
set_option maxHeartbeats 4000000 in
set_option maxRecDepth 100000 in
theorem c_X5_append {l : Launch} {E : Ev} {ad : Nat → Nat} {g : Gp} {h : Hp} {x1 : Int32} {h9 : Hp} (hI : Inj ad) (hf : qX5_append h x1 = some h9) : CtV l yX5_append cX5_append 2 none 0 0 E ad g g [.ref (ad 127), .int x1] h h9 := by
  refine x_begin (by decide) (Nat.le_of_ble_eq_true rfl) ?_
  intro p e s m below meth c ls C hr hlk X w hl
  replace hl : lv_has ls 2 [(0, .ref (ad 127)), (1, .int x1)] := hl
  replace C : CallFix p m c cX5_append 2 s ([.ref (ad 127), .int x1] : List Value).toArray lwA RX5 := C
  unfold qX5_append at hf
  refine lv_aload_n C.1 C.2.1 dX5_append_0 rfl (lv_at hl 0 rfl) ?_
  refine gf_X5_15 C X w (rfl) dX5_append_1 ?_
  refine lv_bipush (v := 32) C.1 C.2.1 dX5_append_4 (by decide) ?_
  refine lv_icmp_ge (tgt := 29) C.1 C.2.1 dX5_append_6 (by decide) (fun c21 => ?_) (fun c21 => ?_)
  · rw [if_pos c21] at hf
    cases hf
    exact x_vret C hr hlk w dX5_append_29
  · rw [if_neg c21] at hf
    refine lv_aload_n C.1 C.2.1 dX5_append_9 rfl (lv_at hl 0 rfl) ?_
    refine gf_X5_9 C X w rfl dX5_append_10 ?_
    refine lv_aload_n C.1 C.2.1 dX5_append_13 rfl (lv_at hl 0 rfl) ?_
    refine gf_X5_15 C X w (rfl) dX5_append_14 ?_
    refine lv_iload_n C.1 C.2.1 dX5_append_17 rfl (lv_at hl 1 rfl) ?_
    obtain ⟨i22, hf⟩ := ck_e hf
    obtain ⟨h23, eh23, hf⟩ := bd_e hf
    refine x_ist (h2 := su h 20 (upd (h 20) (((h 19) 1)).toNatClampNeg x1)) C X hI w (wl_r20 rfl) i22 ws_r20 dX5_append_18 (fun H locs w => ?_)
    replace w := at_eq eh23 w
    refine lv_aload_n C.1 C.2.1 dX5_append_19 rfl (lv_at hl 0 rfl) ?_
    refine lv_dup C.1 C.2.1 dX5_append_20 rfl ?_
    refine gf_X5_15 C X w (rfl) dX5_append_21 ?_
    refine lv_iconst (v := 1) C.1 C.2.1 dX5_append_24 (by decide) ?_
    refine lv_iadd C.1 C.2.1 dX5_append_25 ?_
    obtain ⟨h24, eh24, hf⟩ := bd_e hf
    refine pf_X5_15 C X hI w dX5_append_26 (fun H locs w => ?_)
    replace w := at_eq eh24 w
    cases hf
    exact x_vret C hr hlk w dX5_append_29

def qX5_isFigure (x0 : Int32) (x1 : Int32) (x2 : Int32) : Option (Int32) :=
(if x0 < ((48 : Int32) + x1) then (some (0 : Int32))
else (if ((48 : Int32) + x2) < x0 then (some (0 : Int32))
else (some (1 : Int32))))
set_option maxHeartbeats 4000000 in
set_option maxRecDepth 100000 in
theorem c_X5_isFigure {l : Launch} {E : Ev} {ad : Nat → Nat} {g : Gp} {h : Hp} {x0 : Int32} {x1 : Int32} {x2 : Int32} {r : Int32} (hI : Inj ad) (hf : qX5_isFigure x0 x1 x2 = some r) : CtI l yX5_isFigure cX5_isFigure 3 (some .boolean) 0 0 E ad g g [.int x0, .int x1, .int x2] h h r := by
  refine x_begin (by decide) (Nat.le_of_ble_eq_true rfl) ?_
  intro p e s m below meth c ls C hr hlk X w hl
  replace hl : lv_has ls 3 [(0, .int x0), (1, .int x1), (2, .int x2)] := hl
  replace C : CallFix p m c cX5_isFigure 3 s ([.int x0, .int x1, .int x2] : List Value).toArray lwA RX5 := C
  unfold qX5_isFigure at hf
  refine lv_iload_n C.1 C.2.1 dX5_isFigure_0 rfl (lv_at hl 0 rfl) ?_
  refine lv_bipush (v := 48) C.1 C.2.1 dX5_isFigure_1 (by decide) ?_
  refine lv_iload_n C.1 C.2.1 dX5_isFigure_3 rfl (lv_at hl 1 rfl) ?_
  refine lv_iadd C.1 C.2.1 dX5_isFigure_4 ?_
  refine lv_icmp_lt (tgt := 20) C.1 C.2.1 dX5_isFigure_5 (by decide) (fun c21 => ?_) (fun c21 => ?_)
  · rw [if_pos c21] at hf
    refine lv_iconst (v := 0) C.1 C.2.1 dX5_isFigure_20 (by decide) ?_
    cases hf
    exact x_zret C hr hlk w rfl dX5_isFigure_21
  · rw [if_neg c21] at hf
    refine lv_iload_n C.1 C.2.1 dX5_isFigure_8 rfl (lv_at hl 0 rfl) ?_
    refine lv_bipush (v := 48) C.1 C.2.1 dX5_isFigure_9 (by decide) ?_
    refine lv_iload_n C.1 C.2.1 dX5_isFigure_11 rfl (lv_at hl 2 rfl) ?_
    refine lv_iadd C.1 C.2.1 dX5_isFigure_12 ?_
    refine lv_icmp_gt (tgt := 20) C.1 C.2.1 dX5_isFigure_13 (by decide) (fun c22 => ?_) (fun c22 => ?_)
    · rw [if_pos c22] at hf
      refine lv_iconst (v := 0) C.1 C.2.1 dX5_isFigure_20 (by decide) ?_
      cases hf
      exact x_zret C hr hlk w rfl dX5_isFigure_21
    · rw [if_neg c22] at hf
      refine lv_iconst (v := 1) C.1 C.2.1 dX5_isFigure_16 (by decide) ?_
      refine lv_goto (tgt := 21) C.1 C.2.1 dX5_isFigure_17 (by decide) ?_
      cases hf
      exact x_zret C hr hlk w rfl dX5_isFigure_21

def qX5_fitsChild (x0 : Int32) (x1 : Int32) : Option (Int32) :=
(if x0 = 0 then (if x1 = (67 : Int32) then (some (1 : Int32))
else (some (0 : Int32)))
else (if x0 = 1 then (bi1 (qX5_isFigure x1 (0 : Int32) (9 : Int32)) (fun r25 =>
(ck (bz r25) (some r25))))
else (if x0 = 2 then (bi1 (qX5_isFigure x1 (1 : Int32) (9 : Int32)) (fun r29 =>
(ck (bz r29) (some r29))))
else (bi1 (qX5_isFigure x1 (0 : Int32) (3 : Int32)) (fun r32 =>
(ck (bz r32) (some r32)))))))
set_option maxHeartbeats 4000000 in
set_option maxRecDepth 100000 in
theorem c_X5_fitsChild {l : Launch} {E : Ev} {ad : Nat → Nat} {g : Gp} {h : Hp} {x0 : Int32} {x1 : Int32} {r : Int32} (hI : Inj ad) (hf : qX5_fitsChild x0 x1 = some r) : CtI l yX5_fitsChild cX5_fitsChild 2 (some .boolean) 1 22 E ad g g [.int x0, .int x1] h h r := by
  refine x_begin (by decide) (Nat.le_of_ble_eq_true rfl) ?_
  intro p e s m below meth c ls C hr hlk X w hl
  replace hl : lv_has ls 2 [(0, .int x0), (1, .int x1)] := hl
  replace C : CallFix p m c cX5_fitsChild 2 s ([.int x0, .int x1] : List Value).toArray lwA RX5 := C
  unfold qX5_fitsChild at hf
  refine lv_iload_n C.1 C.2.1 dX5_fitsChild_0 rfl (lv_at hl 0 rfl) ?_
  by_cases c21 : x0 = 0
  · rw [if_pos c21] at hf
    refine lv_tableIn (off := 27) (tgt := 28) C.1 C.2.1 dX5_fitsChild_1 (by rw [c21]; decide) (by rw [c21]; decide) (by rw [c21]; rfl) (by decide) ?_
    refine lv_iload_n C.1 C.2.1 dX5_fitsChild_28 rfl (lv_at hl 1 rfl) ?_
    refine lv_bipush (v := 67) C.1 C.2.1 dX5_fitsChild_29 (by decide) ?_
    refine lv_icmp_ne (tgt := 38) C.1 C.2.1 dX5_fitsChild_31 (by decide) (fun c22 => ?_) (fun c22 => ?_)
    · rw [if_neg c22] at hf
      refine lv_iconst (v := 0) C.1 C.2.1 dX5_fitsChild_38 (by decide) ?_
      cases hf
      exact x_zret C hr hlk w rfl dX5_fitsChild_39
    · rw [if_pos c22] at hf
      refine lv_iconst (v := 1) C.1 C.2.1 dX5_fitsChild_34 (by decide) ?_
      refine lv_goto (tgt := 39) C.1 C.2.1 dX5_fitsChild_35 (by decide) ?_
      cases hf
      exact x_zret C hr hlk w rfl dX5_fitsChild_39
  · rw [if_neg c21] at hf
    by_cases c23 : x0 = 1
    · rw [if_pos c23] at hf
      refine lv_tableIn (off := 39) (tgt := 40) C.1 C.2.1 dX5_fitsChild_1 (by rw [c23]; decide) (by rw [c23]; decide) (by rw [c23]; rfl) (by decide) ?_
      refine lv_iload_n C.1 C.2.1 dX5_fitsChild_40 rfl (lv_at hl 1 rfl) ?_
      refine lv_iconst (v := 0) C.1 C.2.1 dX5_fitsChild_41 (by decide) ?_
      refine lv_bipush (v := 9) C.1 C.2.1 dX5_fitsChild_42 (by decide) ?_
      obtain ⟨r25, eq24, hf⟩ := bi1_e hf
      refine x_cSi (As := [.int x1, .int (0 : Int32), .int (9 : Int32)]) (rest := []) C X w (c_X5_isFigure hI  eq24) mw_X5_isFigure ml_X5_23 rfl hl.1 rfl (Nat.le_of_ble_eq_true rfl) ⟨⟨Nat.le_of_ble_eq_true rfl, Nat.le_of_ble_eq_true rfl⟩, Nat.le_of_ble_eq_true rfl, Nat.le_of_ble_eq_true rfl⟩ dX5_fitsChild_44 (fun H locs w => ?_)
      obtain ⟨z26, hf⟩ := ck_e hf
      cases hf
      exact x_zret C hr hlk w (bz_e z26) dX5_fitsChild_47
    · rw [if_neg c23] at hf
      by_cases c27 : x0 = 2
      · rw [if_pos c27] at hf
        refine lv_tableIn (off := 47) (tgt := 48) C.1 C.2.1 dX5_fitsChild_1 (by rw [c27]; decide) (by rw [c27]; decide) (by rw [c27]; rfl) (by decide) ?_
        refine lv_iload_n C.1 C.2.1 dX5_fitsChild_48 rfl (lv_at hl 1 rfl) ?_
        refine lv_iconst (v := 1) C.1 C.2.1 dX5_fitsChild_49 (by decide) ?_
        refine lv_bipush (v := 9) C.1 C.2.1 dX5_fitsChild_50 (by decide) ?_
        obtain ⟨r29, eq28, hf⟩ := bi1_e hf
        refine x_cSi (As := [.int x1, .int (1 : Int32), .int (9 : Int32)]) (rest := []) C X w (c_X5_isFigure hI  eq28) mw_X5_isFigure ml_X5_23 rfl hl.1 rfl (Nat.le_of_ble_eq_true rfl) ⟨⟨Nat.le_of_ble_eq_true rfl, Nat.le_of_ble_eq_true rfl⟩, Nat.le_of_ble_eq_true rfl, Nat.le_of_ble_eq_true rfl⟩ dX5_fitsChild_52 (fun H locs w => ?_)
        obtain ⟨z30, hf⟩ := ck_e hf
        cases hf
        exact x_zret C hr hlk w (bz_e z30) dX5_fitsChild_55
      · rw [if_neg c27] at hf
        have c21n := ti_ne c21 (show (0 : Int32).toInt = 0 by decide)
        have c23n := ti_ne c23 (show (1 : Int32).toInt = 1 by decide)
        have c27n := ti_ne c27 (show (2 : Int32).toInt = 2 by decide)
        refine lv_tableOut (tgt := 56) C.1 C.2.1 dX5_fitsChild_1 (by omega) (by decide) ?_
        refine lv_iload_n C.1 C.2.1 dX5_fitsChild_56 rfl (lv_at hl 1 rfl) ?_
        refine lv_iconst (v := 0) C.1 C.2.1 dX5_fitsChild_57 (by decide) ?_
        refine lv_iconst (v := 3) C.1 C.2.1 dX5_fitsChild_58 (by decide) ?_
        obtain ⟨r32, eq31, hf⟩ := bi1_e hf
        refine x_cSi (As := [.int x1, .int (0 : Int32), .int (3 : Int32)]) (rest := []) C X w (c_X5_isFigure hI  eq31) mw_X5_isFigure ml_X5_23 rfl hl.1 rfl (Nat.le_of_ble_eq_true rfl) ⟨⟨Nat.le_of_ble_eq_true rfl, Nat.le_of_ble_eq_true rfl⟩, Nat.le_of_ble_eq_true rfl, Nat.le_of_ble_eq_true rfl⟩ dX5_fitsChild_59 (fun H locs w => ?_)
        obtain ⟨z33, hf⟩ := ck_e hf
        cases hf
        exact x_zret C hr hlk w (bz_e z33) dX5_fitsChild_62

def qX5_fits (x0 : Int32) (x1 : Int32) : Option (Int32) :=
(if x0 = 0 then (if x1 = (84 : Int32) then (some (1 : Int32))
else (some (0 : Int32)))
else (if x0 = 1 then (bi1 (qX5_isFigure x1 (0 : Int32) (3 : Int32)) (fun r25 =>
(ck (bz r25) (some r25))))
else (if x0 = 2 then (bi1 (qX5_isFigure x1 (1 : Int32) (9 : Int32)) (fun r29 =>
(ck (bz r29) (some r29))))
else (if x0 = 3 then (bi1 (qX5_isFigure x1 (1 : Int32) (2 : Int32)) (fun r33 =>
(ck (bz r33) (some r33))))
else (if (24 : Int32) ≤ x0 then (some (0 : Int32))
else (bi1 (qX5_fitsChild ((x0 - (4 : Int32)) - (x0 - (4 : Int32)) / (4 : Int32) * (4 : Int32)) x1) (fun r37 =>
(if r37 = 0 then (some (0 : Int32))
else (some (1 : Int32))))))))))
set_option maxHeartbeats 4000000 in
set_option maxRecDepth 100000 in
theorem c_X5_fits {l : Launch} {E : Ev} {ad : Nat → Nat} {g : Gp} {h : Hp} {x0 : Int32} {x1 : Int32} {r : Int32} (hI : Inj ad) (hf : qX5_fits x0 x1 = some r) : CtI l yX5_fits cX5_fits 2 (some .boolean) 2 43 E ad g g [.int x0, .int x1] h h r := by
  refine x_begin (by decide) (Nat.le_of_ble_eq_true rfl) ?_
  intro p e s m below meth c ls C hr hlk X w hl
  replace hl : lv_has ls 2 [(0, .int x0), (1, .int x1)] := hl
  replace C : CallFix p m c cX5_fits 2 s ([.int x0, .int x1] : List Value).toArray lwA RX5 := C
  unfold qX5_fits at hf
  refine lv_iload_n C.1 C.2.1 dX5_fits_0 rfl (lv_at hl 0 rfl) ?_
  by_cases c21 : x0 = 0
  · rw [if_pos c21] at hf
    refine lv_tableIn (off := 31) (tgt := 32) C.1 C.2.1 dX5_fits_1 (by rw [c21]; decide) (by rw [c21]; decide) (by rw [c21]; rfl) (by decide) ?_
    refine lv_iload_n C.1 C.2.1 dX5_fits_32 rfl (lv_at hl 1 rfl) ?_
    refine lv_bipush (v := 84) C.1 C.2.1 dX5_fits_33 (by decide) ?_
    refine lv_icmp_ne (tgt := 42) C.1 C.2.1 dX5_fits_35 (by decide) (fun c22 => ?_) (fun c22 => ?_)
    · rw [if_neg c22] at hf
      refine lv_iconst (v := 0) C.1 C.2.1 dX5_fits_42 (by decide) ?_
      cases hf
      exact x_zret C hr hlk w rfl dX5_fits_43
    · rw [if_pos c22] at hf
      refine lv_iconst (v := 1) C.1 C.2.1 dX5_fits_38 (by decide) ?_
      refine lv_goto (tgt := 43) C.1 C.2.1 dX5_fits_39 (by decide) ?_
      cases hf
      exact x_zret C hr hlk w rfl dX5_fits_43
  · rw [if_neg c21] at hf
    by_cases c23 : x0 = 1
    · rw [if_pos c23] at hf
      refine lv_tableIn (off := 43) (tgt := 44) C.1 C.2.1 dX5_fits_1 (by rw [c23]; decide) (by rw [c23]; decide) (by rw [c23]; rfl) (by decide) ?_
      refine lv_iload_n C.1 C.2.1 dX5_fits_44 rfl (lv_at hl 1 rfl) ?_
      refine lv_iconst (v := 0) C.1 C.2.1 dX5_fits_45 (by decide) ?_
      refine lv_iconst (v := 3) C.1 C.2.1 dX5_fits_46 (by decide) ?_
      obtain ⟨r25, eq24, hf⟩ := bi1_e hf
      refine x_cSi (As := [.int x1, .int (0 : Int32), .int (3 : Int32)]) (rest := []) C X w (c_X5_isFigure hI  eq24) mw_X5_isFigure ml_X5_23 rfl hl.1 rfl (Nat.le_of_ble_eq_true rfl) ⟨⟨Nat.le_of_ble_eq_true rfl, Nat.le_of_ble_eq_true rfl⟩, Nat.le_of_ble_eq_true rfl, Nat.le_of_ble_eq_true rfl⟩ dX5_fits_47 (fun H locs w => ?_)
      obtain ⟨z26, hf⟩ := ck_e hf
      cases hf
      exact x_zret C hr hlk w (bz_e z26) dX5_fits_50
    · rw [if_neg c23] at hf
      by_cases c27 : x0 = 2
      · rw [if_pos c27] at hf
        refine lv_tableIn (off := 50) (tgt := 51) C.1 C.2.1 dX5_fits_1 (by rw [c27]; decide) (by rw [c27]; decide) (by rw [c27]; rfl) (by decide) ?_
        refine lv_iload_n C.1 C.2.1 dX5_fits_51 rfl (lv_at hl 1 rfl) ?_
        refine lv_iconst (v := 1) C.1 C.2.1 dX5_fits_52 (by decide) ?_
        refine lv_bipush (v := 9) C.1 C.2.1 dX5_fits_53 (by decide) ?_
        obtain ⟨r29, eq28, hf⟩ := bi1_e hf
        refine x_cSi (As := [.int x1, .int (1 : Int32), .int (9 : Int32)]) (rest := []) C X w (c_X5_isFigure hI  eq28) mw_X5_isFigure ml_X5_23 rfl hl.1 rfl (Nat.le_of_ble_eq_true rfl) ⟨⟨Nat.le_of_ble_eq_true rfl, Nat.le_of_ble_eq_true rfl⟩, Nat.le_of_ble_eq_true rfl, Nat.le_of_ble_eq_true rfl⟩ dX5_fits_55 (fun H locs w => ?_)
        obtain ⟨z30, hf⟩ := ck_e hf
        cases hf
        exact x_zret C hr hlk w (bz_e z30) dX5_fits_58
      · rw [if_neg c27] at hf
        by_cases c31 : x0 = 3
        · rw [if_pos c31] at hf
          refine lv_tableIn (off := 58) (tgt := 59) C.1 C.2.1 dX5_fits_1 (by rw [c31]; decide) (by rw [c31]; decide) (by rw [c31]; rfl) (by decide) ?_
          refine lv_iload_n C.1 C.2.1 dX5_fits_59 rfl (lv_at hl 1 rfl) ?_
          refine lv_iconst (v := 1) C.1 C.2.1 dX5_fits_60 (by decide) ?_
          refine lv_iconst (v := 2) C.1 C.2.1 dX5_fits_61 (by decide) ?_
          obtain ⟨r33, eq32, hf⟩ := bi1_e hf
          refine x_cSi (As := [.int x1, .int (1 : Int32), .int (2 : Int32)]) (rest := []) C X w (c_X5_isFigure hI  eq32) mw_X5_isFigure ml_X5_23 rfl hl.1 rfl (Nat.le_of_ble_eq_true rfl) ⟨⟨Nat.le_of_ble_eq_true rfl, Nat.le_of_ble_eq_true rfl⟩, Nat.le_of_ble_eq_true rfl, Nat.le_of_ble_eq_true rfl⟩ dX5_fits_62 (fun H locs w => ?_)
          obtain ⟨z34, hf⟩ := ck_e hf
          cases hf
          exact x_zret C hr hlk w (bz_e z34) dX5_fits_65
        · rw [if_neg c31] at hf
          have c21n := ti_ne c21 (show (0 : Int32).toInt = 0 by decide)
          have c23n := ti_ne c23 (show (1 : Int32).toInt = 1 by decide)
          have c27n := ti_ne c27 (show (2 : Int32).toInt = 2 by decide)
          have c31n := ti_ne c31 (show (3 : Int32).toInt = 3 by decide)
          refine lv_tableOut (tgt := 66) C.1 C.2.1 dX5_fits_1 (by omega) (by decide) ?_
          refine lv_iload_n C.1 C.2.1 dX5_fits_66 rfl (lv_at hl 0 rfl) ?_
          refine lv_bipush (v := 24) C.1 C.2.1 dX5_fits_67 (by decide) ?_
          refine lv_icmp_ge (tgt := 88) C.1 C.2.1 dX5_fits_69 (by decide) (fun c35 => ?_) (fun c35 => ?_)
          · rw [if_pos c35] at hf
            refine lv_iconst (v := 0) C.1 C.2.1 dX5_fits_88 (by decide) ?_
            cases hf
            exact x_zret C hr hlk w rfl dX5_fits_89
          · rw [if_neg c35] at hf
            refine lv_iload_n C.1 C.2.1 dX5_fits_72 rfl (lv_at hl 0 rfl) ?_
            refine lv_iconst (v := 4) C.1 C.2.1 dX5_fits_73 (by decide) ?_
            refine lv_isub C.1 C.2.1 dX5_fits_74 ?_
            refine lv_iconst (v := 4) C.1 C.2.1 dX5_fits_75 (by decide) ?_
            refine lv_irem C.1 C.2.1 dX5_fits_76 (by decide) ?_
            refine lv_iload_n C.1 C.2.1 dX5_fits_77 rfl (lv_at hl 1 rfl) ?_
            obtain ⟨r37, eq36, hf⟩ := bi1_e hf
            refine x_cSi (As := [.int ((x0 - (4 : Int32)) - (x0 - (4 : Int32)) / (4 : Int32) * (4 : Int32)), .int x1]) (rest := []) C X w (c_X5_fitsChild hI  eq36) mw_X5_fitsChild ml_X5_27 rfl hl.1 rfl (Nat.le_of_ble_eq_true rfl) ⟨⟨Nat.le_of_ble_eq_true rfl, Nat.le_of_ble_eq_true rfl⟩, Nat.le_of_ble_eq_true rfl, Nat.le_of_ble_eq_true rfl⟩ dX5_fits_78 (fun H locs w => ?_)
            refine lv_if_eq (tgt := 88) C.1 C.2.1 dX5_fits_81 (by decide) (fun c38 => ?_) (fun c38 => ?_)
            · rw [if_pos c38] at hf
              refine lv_iconst (v := 0) C.1 C.2.1 dX5_fits_88 (by decide) ?_
              cases hf
              exact x_zret C hr hlk w rfl dX5_fits_89
            · rw [if_neg c38] at hf
              refine lv_iconst (v := 1) C.1 C.2.1 dX5_fits_84 (by decide) ?_
              refine lv_goto (tgt := 89) C.1 C.2.1 dX5_fits_85 (by decide) ?_
              cases hf
              exact x_zret C hr hlk w rfl dX5_fits_89

def qX5_faultPlace_55 (R19 : Row) (R20 : Row) (s0 : Int32) : Option (Int32) :=
(if s0 = 0 then (some (R19 1))
else (some (-9 : Int32)))
set_option maxHeartbeats 4000000 in
set_option maxRecDepth 100000 in
theorem w_X5_faultPlace_55 {p : Program} {l : Launch} {e : Env} {s : State} {m : MethodId} {args : Array Value} {below : List Frame} {meth : Method} {c : Code} {E : Ev} {ad : Nat → Nat} {g : Gp} {h : Hp} {R19 : Row} {R20 : Row} {r : Int32} (C : CallFix p m c cX5_faultPlace 2 s args lwA RX5) (hr : meth.sig.returnType = (some .int)) (hlk : meth.locks = false) (X : Sx E ad s) (hI : Inj ad) (e19 : h 19 = R19) (e20 : h 20 = R20)  : ∀ (s0 : Int32) (H : Heap) (locs : List Loc) (ls : Array Slot), At E ad h g s H locs → lv_has ls 2 [(0, .ref (ad 127))] → qX5_faultPlace_55 R19 R20 s0 = some r → W p l e (RM 3 64) s m args below meth c H locs 0 0 (QI E ad h g r below args s) (F0 m 55 ls [.int s0]) := by
  intro s0 H locs ls w hl hf
  unfold qX5_faultPlace_55 at hf
  refine lv_istore_n (lv' := [(1, .int s0), (0, .ref (ad 127))]) C.1 C.2.1 dX5_faultPlace_55 rfl hl (by decide) rfl (fun ls hl => ?_)
  refine lv_iload_n C.1 C.2.1 dX5_faultPlace_56 rfl (lv_at hl 0 rfl) ?_
  refine lv_if_eq (tgt := 65) C.1 C.2.1 dX5_faultPlace_57 (by decide) (fun c28 => ?_) (fun c28 => ?_)
  · rw [if_pos c28] at hf
    refine lv_aload_n C.1 C.2.1 dX5_faultPlace_65 rfl (lv_at hl 1 rfl) ?_
    refine gf_X5_15 C X w (e19) dX5_faultPlace_66 ?_
    cases hf
    exact x_iret C hr hlk w dX5_faultPlace_69
  · rw [if_neg c28] at hf
    refine lv_bipush (v := -9) C.1 C.2.1 dX5_faultPlace_60 (by decide) ?_
    refine lv_goto (tgt := 69) C.1 C.2.1 dX5_faultPlace_62 (by decide) ?_
    cases hf
    exact x_iret C hr hlk w dX5_faultPlace_69
def qX5_faultPlace_54 (R19 : Row) (R20 : Row) : Option (Int32) :=
(qX5_faultPlace_55 R19 R20 (0 : Int32))
set_option maxHeartbeats 4000000 in
set_option maxRecDepth 100000 in
theorem w_X5_faultPlace_54 {p : Program} {l : Launch} {e : Env} {s : State} {m : MethodId} {args : Array Value} {below : List Frame} {meth : Method} {c : Code} {E : Ev} {ad : Nat → Nat} {g : Gp} {h : Hp} {R19 : Row} {R20 : Row} {r : Int32} (C : CallFix p m c cX5_faultPlace 2 s args lwA RX5) (hr : meth.sig.returnType = (some .int)) (hlk : meth.locks = false) (X : Sx E ad s) (hI : Inj ad) (e19 : h 19 = R19) (e20 : h 20 = R20)  : ∀ (H : Heap) (locs : List Loc) (ls : Array Slot), At E ad h g s H locs → lv_has ls 2 [(0, .ref (ad 127))] → qX5_faultPlace_54 R19 R20 = some r → W p l e (RM 3 64) s m args below meth c H locs 0 0 (QI E ad h g r below args s) (F0 m 54 ls []) := by
  intro H locs ls w hl hf
  unfold qX5_faultPlace_54 at hf
  refine lv_iconst (v := 0) C.1 C.2.1 dX5_faultPlace_54 (by decide) ?_
  exact w_X5_faultPlace_55 C hr hlk X hI e19 e20 _ _ _ _ w (lv_sub hl [0] rfl) hf
def qX5_faultPlace_2 (R19 : Row) (R20 : Row) : Nat → Int32 → Option (Int32)
  | 0, _ => none
  | n + 1, v1 =>
    (if (R19 1) ≤ v1 then (if (R19 1) < (4 : Int32) then (qX5_faultPlace_54 R19 R20 )
    else (if (((R19 1) - (4 : Int32)) - ((R19 1) - (4 : Int32)) / (4 : Int32) * (4 : Int32)) = 0 then (qX5_faultPlace_55 R19 R20 (1 : Int32))
    else (qX5_faultPlace_54 R19 R20 )))
    else (ck (inb v1 32) ((bi1 (qX5_fits v1 (R20 v1.toNatClampNeg)) (fun r26 =>
    (if r26 = 0 then (some v1)
    else (qX5_faultPlace_2 R19 R20 n (v1 + 1))))))))
set_option maxHeartbeats 4000000 in
set_option maxRecDepth 100000 in
theorem w_X5_faultPlace_2 {p : Program} {l : Launch} {e : Env} {s : State} {m : MethodId} {args : Array Value} {below : List Frame} {meth : Method} {c : Code} {E : Ev} {ad : Nat → Nat} {g : Gp} {h : Hp} {R19 : Row} {R20 : Row} {r : Int32} (C : CallFix p m c cX5_faultPlace 2 s args lwA RX5) (hr : meth.sig.returnType = (some .int)) (hlk : meth.locks = false) (X : Sx E ad s) (hI : Inj ad) (e19 : h 19 = R19) (e20 : h 20 = R20)  : ∀ (n : Nat), ∀ (v1 : Int32) (H : Heap) (locs : List Loc) (ls : Array Slot), At E ad h g s H locs → lv_has ls 2 [(0, .ref (ad 127)), (1, .int v1)] → qX5_faultPlace_2 R19 R20 n v1 = some r → W p l e (RM 3 64) s m args below meth c H locs 0 0 (QI E ad h g r below args s) (F0 m 2 ls []) := by
  intro n
  induction n with
  | zero =>
    intro v1 H locs ls w hl hf
    cases hf
  | succ n ih =>
    intro v1 H locs ls w hl hf
    rw [qX5_faultPlace_2] at hf
    refine lv_iload_n C.1 C.2.1 dX5_faultPlace_2 rfl (lv_at hl 1 rfl) ?_
    refine lv_aload_n C.1 C.2.1 dX5_faultPlace_3 rfl (lv_at hl 0 rfl) ?_
    refine gf_X5_15 C X w (e19) dX5_faultPlace_4 ?_
    refine lv_icmp_ge (tgt := 31) C.1 C.2.1 dX5_faultPlace_7 (by decide) (fun c21 => ?_) (fun c21 => ?_)
    · rw [if_pos c21] at hf
      refine lv_aload_n C.1 C.2.1 dX5_faultPlace_31 rfl (lv_at hl 0 rfl) ?_
      refine gf_X5_15 C X w (e19) dX5_faultPlace_32 ?_
      refine lv_iconst (v := 4) C.1 C.2.1 dX5_faultPlace_35 (by decide) ?_
      refine lv_icmp_lt (tgt := 54) C.1 C.2.1 dX5_faultPlace_36 (by decide) (fun c22 => ?_) (fun c22 => ?_)
      · rw [if_pos c22] at hf
        exact w_X5_faultPlace_54 C hr hlk X hI e19 e20  _ _ _ w (lv_sub hl [0] rfl) hf
      · rw [if_neg c22] at hf
        refine lv_aload_n C.1 C.2.1 dX5_faultPlace_39 rfl (lv_at hl 0 rfl) ?_
        refine gf_X5_15 C X w (e19) dX5_faultPlace_40 ?_
        refine lv_iconst (v := 4) C.1 C.2.1 dX5_faultPlace_43 (by decide) ?_
        refine lv_isub C.1 C.2.1 dX5_faultPlace_44 ?_
        refine lv_iconst (v := 4) C.1 C.2.1 dX5_faultPlace_45 (by decide) ?_
        refine lv_irem C.1 C.2.1 dX5_faultPlace_46 (by decide) ?_
        refine lv_if_ne (tgt := 54) C.1 C.2.1 dX5_faultPlace_47 (by decide) (fun c23 => ?_) (fun c23 => ?_)
        · rw [if_neg c23] at hf
          exact w_X5_faultPlace_54 C hr hlk X hI e19 e20  _ _ _ w (lv_sub hl [0] rfl) hf
        · rw [if_pos c23] at hf
          refine lv_iconst (v := 1) C.1 C.2.1 dX5_faultPlace_50 (by decide) ?_
          refine lv_goto (tgt := 55) C.1 C.2.1 dX5_faultPlace_51 (by decide) ?_
          exact w_X5_faultPlace_55 C hr hlk X hI e19 e20 _ _ _ _ w (lv_sub hl [0] rfl) hf
    · rw [if_neg c21] at hf
      refine lv_iload_n C.1 C.2.1 dX5_faultPlace_10 rfl (lv_at hl 1 rfl) ?_
      refine lv_aload_n C.1 C.2.1 dX5_faultPlace_11 rfl (lv_at hl 0 rfl) ?_
      refine gf_X5_9 C X w rfl dX5_faultPlace_12 ?_
      refine lv_iload_n C.1 C.2.1 dX5_faultPlace_15 rfl (lv_at hl 1 rfl) ?_
      obtain ⟨i24, hf⟩ := ck_e hf
      refine x_ild (v := R20 v1.toNatClampNeg) C X w (wl_r20 (e20)) i24 (rfl) dX5_faultPlace_16 ?_
      obtain ⟨r26, eq25, hf⟩ := bi1_e hf
      refine x_cSi (As := [.int v1, .int (R20 v1.toNatClampNeg)]) (rest := []) C X w (c_X5_fits hI  eq25) mw_X5_fits ml_X5_19 rfl hl.1 rfl (Nat.le_of_ble_eq_true rfl) ⟨⟨Nat.le_of_ble_eq_true rfl, Nat.le_of_ble_eq_true rfl⟩, Nat.le_of_ble_eq_true rfl, Nat.le_of_ble_eq_true rfl⟩ dX5_faultPlace_17 (fun H locs w => ?_)
      refine lv_if_ne (tgt := 25) C.1 C.2.1 dX5_faultPlace_20 (by decide) (fun c27 => ?_) (fun c27 => ?_)
      · rw [if_neg c27] at hf
        refine lv_iinc (v := (v1 + 1)) (lv' := [(1, .int (v1 + 1)), (0, .ref (ad 127))]) C.1 C.2.1 dX5_faultPlace_25 hl (k := 1) rfl (congrArg (fun z => v1 + z) (by decide)) (by decide) rfl (fun ls hl => ?_)
        refine lv_goto (tgt := 2) C.1 C.2.1 dX5_faultPlace_28 (by decide) ?_
        exact ih _ _ _ _ w (lv_sub hl [1, 0] rfl) hf
      · rw [if_pos c27] at hf
        refine lv_iload_n C.1 C.2.1 dX5_faultPlace_23 rfl (lv_at hl 1 rfl) ?_
        cases hf
        exact x_iret C hr hlk w dX5_faultPlace_24
def qX5_faultPlace (R19 : Row) (R20 : Row) : Option (Int32) :=
(qX5_faultPlace_2 R19 R20 600 (0 : Int32))
set_option maxHeartbeats 4000000 in
set_option maxRecDepth 100000 in
theorem c_X5_faultPlace {l : Launch} {E : Ev} {ad : Nat → Nat} {g : Gp} {h : Hp} {R19 : Row} {R20 : Row} {r : Int32} (hI : Inj ad) (e19 : h 19 = R19) (e20 : h 20 = R20) (hf : qX5_faultPlace R19 R20 = some r) : CtI l yX5_faultPlace cX5_faultPlace 2 (some .int) 3 64 E ad g g [.ref (ad 127)] h h r := by
  refine x_begin (by decide) (Nat.le_of_ble_eq_true rfl) ?_
  intro p e s m below meth c ls C hr hlk X w hl
  replace hl : lv_has ls 2 [(0, .ref (ad 127))] := hl
  replace C : CallFix p m c cX5_faultPlace 2 s ([.ref (ad 127)] : List Value).toArray lwA RX5 := C
  unfold qX5_faultPlace at hf
  refine lv_iconst (v := 0) C.1 C.2.1 dX5_faultPlace_0 (by decide) ?_
  refine lv_istore_n (lv' := [(1, .int (0 : Int32)), (0, .ref (ad 127))]) C.1 C.2.1 dX5_faultPlace_1 rfl hl (by decide) rfl (fun ls hl => ?_)
  exact w_X5_faultPlace_2 C hr hlk X hI e19 e20 600 _ _ _ _ w (lv_sub hl [1, 0] rfl) hf

def qX5_countChildren (R19 : Row) : Option (Int32) :=
(some (if (0 : Int32) < (if (((R19 1) - (4 : Int32)) / (4 : Int32)) < (5 : Int32) then (((R19 1) - (4 : Int32)) / (4 : Int32)) else (5 : Int32)) then (if (((R19 1) - (4 : Int32)) / (4 : Int32)) < (5 : Int32) then (((R19 1) - (4 : Int32)) / (4 : Int32)) else (5 : Int32)) else (0 : Int32)))
set_option maxHeartbeats 4000000 in
set_option maxRecDepth 100000 in
theorem c_X5_countChildren {l : Launch} {E : Ev} {ad : Nat → Nat} {g : Gp} {h : Hp} {R19 : Row} {r : Int32} (hI : Inj ad) (e19 : h 19 = R19) (hf : qX5_countChildren R19 = some r) : CtI l yX5_countChildren cX5_countChildren 1 (some .int) 1 21 E ad g g [.ref (ad 127)] h h r := by
  refine x_begin (by decide) (Nat.le_of_ble_eq_true rfl) ?_
  intro p e s m below meth c ls C hr hlk X w hl
  replace hl : lv_has ls 1 [(0, .ref (ad 127))] := hl
  replace C : CallFix p m c cX5_countChildren 1 s ([.ref (ad 127)] : List Value).toArray lwA RX5 := C
  unfold qX5_countChildren at hf
  refine lv_iconst (v := 0) C.1 C.2.1 dX5_countChildren_0 (by decide) ?_
  refine lv_iconst (v := 5) C.1 C.2.1 dX5_countChildren_1 (by decide) ?_
  refine lv_aload_n C.1 C.2.1 dX5_countChildren_2 rfl (lv_at hl 0 rfl) ?_
  refine gf_X5_15 C X w (e19) dX5_countChildren_3 ?_
  refine lv_iconst (v := 4) C.1 C.2.1 dX5_countChildren_6 (by decide) ?_
  refine lv_isub C.1 C.2.1 dX5_countChildren_7 ?_
  refine lv_iconst (v := 4) C.1 C.2.1 dX5_countChildren_8 (by decide) ?_
  refine lv_idiv C.1 C.2.1 dX5_countChildren_9 (by decide) ?_
  refine va_mmin C.1 C.2.1 (C.2.2.1.trans hl.1.symm) C.2.2.2.1 (C.2.2.2.2 _ wd_methodLink_OneTricycle_Text_34_java_lang_Math_min_II_I_) (C.2.2.2.2 _ wd_static_java_lang_Math_min_II_I_) (C.2.2.2.2 _ wd_initialized_java_lang_Math_) (C.2.2.2.2 _ wd_code_Math_min) (Nat.le_of_ble_eq_true rfl) (Nat.le_of_ble_eq_true rfl) (Nat.le_of_ble_eq_true rfl) (Nat.le_of_ble_eq_true rfl) dX5_countChildren_10 ?_
  refine va_mmax C.1 C.2.1 (C.2.2.1.trans hl.1.symm) C.2.2.2.1 (C.2.2.2.2 _ wd_methodLink_OneTricycle_Text_40_java_lang_Math_max_II_I_) (C.2.2.2.2 _ wd_static_java_lang_Math_max_II_I_) (C.2.2.2.2 _ wd_initialized_java_lang_Math_) (C.2.2.2.2 _ wd_code_Math_max) (Nat.le_of_ble_eq_true rfl) (Nat.le_of_ble_eq_true rfl) (Nat.le_of_ble_eq_true rfl) (Nat.le_of_ble_eq_true rfl) dX5_countChildren_13 ?_
  cases hf
  exact x_iret C hr hlk w dX5_countChildren_16

def qX5_figure (R19 : Row) (R20 : Row) (x1 : Int32) : Option (Int32) :=
(if x1 < 0 then (some (0 : Int32))
else (if (R19 1) ≤ x1 then (some (0 : Int32))
else (ck (inb x1 32) ((some ((R20 x1.toNatClampNeg) - (48 : Int32)))))))
set_option maxHeartbeats 4000000 in
set_option maxRecDepth 100000 in
theorem c_X5_figure {l : Launch} {E : Ev} {ad : Nat → Nat} {g : Gp} {h : Hp} {R19 : Row} {R20 : Row} {x1 : Int32} {r : Int32} (hI : Inj ad) (e19 : h 19 = R19) (e20 : h 20 = R20) (hf : qX5_figure R19 R20 x1 = some r) : CtI l yX5_figure cX5_figure 2 (some .int) 0 0 E ad g g [.ref (ad 127), .int x1] h h r := by
  refine x_begin (by decide) (Nat.le_of_ble_eq_true rfl) ?_
  intro p e s m below meth c ls C hr hlk X w hl
  replace hl : lv_has ls 2 [(0, .ref (ad 127)), (1, .int x1)] := hl
  replace C : CallFix p m c cX5_figure 2 s ([.ref (ad 127), .int x1] : List Value).toArray lwA RX5 := C
  unfold qX5_figure at hf
  refine lv_iload_n C.1 C.2.1 dX5_figure_0 rfl (lv_at hl 1 rfl) ?_
  refine lv_if_lt (tgt := 24) C.1 C.2.1 dX5_figure_1 (by decide) (fun c21 => ?_) (fun c21 => ?_)
  · rw [if_pos c21] at hf
    refine lv_iconst (v := 0) C.1 C.2.1 dX5_figure_24 (by decide) ?_
    cases hf
    exact x_iret C hr hlk w dX5_figure_25
  · rw [if_neg c21] at hf
    refine lv_iload_n C.1 C.2.1 dX5_figure_4 rfl (lv_at hl 1 rfl) ?_
    refine lv_aload_n C.1 C.2.1 dX5_figure_5 rfl (lv_at hl 0 rfl) ?_
    refine gf_X5_15 C X w (e19) dX5_figure_6 ?_
    refine lv_icmp_ge (tgt := 24) C.1 C.2.1 dX5_figure_9 (by decide) (fun c22 => ?_) (fun c22 => ?_)
    · rw [if_pos c22] at hf
      refine lv_iconst (v := 0) C.1 C.2.1 dX5_figure_24 (by decide) ?_
      cases hf
      exact x_iret C hr hlk w dX5_figure_25
    · rw [if_neg c22] at hf
      refine lv_aload_n C.1 C.2.1 dX5_figure_12 rfl (lv_at hl 0 rfl) ?_
      refine gf_X5_9 C X w rfl dX5_figure_13 ?_
      refine lv_iload_n C.1 C.2.1 dX5_figure_16 rfl (lv_at hl 1 rfl) ?_
      obtain ⟨i23, hf⟩ := ck_e hf
      refine x_ild (v := R20 x1.toNatClampNeg) C X w (wl_r20 (e20)) i23 (rfl) dX5_figure_17 ?_
      refine lv_bipush (v := 48) C.1 C.2.1 dX5_figure_18 (by decide) ?_
      refine lv_isub C.1 C.2.1 dX5_figure_20 ?_
      refine lv_goto (tgt := 25) C.1 C.2.1 dX5_figure_21 (by decide) ?_
      cases hf
      exact x_iret C hr hlk w dX5_figure_25

def qX5_figureOfChild (R19 : Row) (R20 : Row) (x1 : Int32) (x2 : Int32) : Option (Int32) :=
(bi1 (qX5_figure R19 R20 (((4 : Int32) + ((4 : Int32) * x1)) + x2)) (fun r22 =>
(some r22)))
set_option maxHeartbeats 4000000 in
set_option maxRecDepth 100000 in
theorem c_X5_figureOfChild {l : Launch} {E : Ev} {ad : Nat → Nat} {g : Gp} {h : Hp} {R19 : Row} {R20 : Row} {x1 : Int32} {x2 : Int32} {r : Int32} (hI : Inj ad) (e19 : h 19 = R19) (e20 : h 20 = R20) (hf : qX5_figureOfChild R19 R20 x1 x2 = some r) : CtI l yX5_figureOfChild cX5_figureOfChild 3 (some .int) 1 21 E ad g g [.ref (ad 127), .int x1, .int x2] h h r := by
  refine x_begin (by decide) (Nat.le_of_ble_eq_true rfl) ?_
  intro p e s m below meth c ls C hr hlk X w hl
  replace hl : lv_has ls 3 [(0, .ref (ad 127)), (1, .int x1), (2, .int x2)] := hl
  replace C : CallFix p m c cX5_figureOfChild 3 s ([.ref (ad 127), .int x1, .int x2] : List Value).toArray lwA RX5 := C
  unfold qX5_figureOfChild at hf
  refine lv_aload_n C.1 C.2.1 dX5_figureOfChild_0 rfl (lv_at hl 0 rfl) ?_
  refine lv_iconst (v := 4) C.1 C.2.1 dX5_figureOfChild_1 (by decide) ?_
  refine lv_iconst (v := 4) C.1 C.2.1 dX5_figureOfChild_2 (by decide) ?_
  refine lv_iload_n C.1 C.2.1 dX5_figureOfChild_3 rfl (lv_at hl 1 rfl) ?_
  refine lv_imul C.1 C.2.1 dX5_figureOfChild_4 ?_
  refine lv_iadd C.1 C.2.1 dX5_figureOfChild_5 ?_
  refine lv_iload_n C.1 C.2.1 dX5_figureOfChild_6 rfl (lv_at hl 2 rfl) ?_
  refine lv_iadd C.1 C.2.1 dX5_figureOfChild_7 ?_
  obtain ⟨r22, eq21, hf⟩ := bi1_e hf
  refine x_cVi (As := [.int (((4 : Int32) + ((4 : Int32) * x1)) + x2)]) (rest := []) C X w (c_X5_figure hI (e19) (e20) eq21) mw_X5_figure ml_X5_30 rcv_r19 rfl hl.1 rfl (Nat.le_of_ble_eq_true rfl) ⟨⟨Nat.le_of_ble_eq_true rfl, Nat.le_of_ble_eq_true rfl⟩, Nat.le_of_ble_eq_true rfl, Nat.le_of_ble_eq_true rfl⟩ dX5_figureOfChild_8 (fun H locs w => ?_)
  cases hf
  exact x_iret C hr hlk w dX5_figureOfChild_11
