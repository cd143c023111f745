def qX6_write (h : Hp) (x1 : Int32) : Option (Int32 × Hp) :=
(if x1 < 0 then (some ((-2 : Int32), h))
else (if x1 ≤ (255 : Int32) then (if ((h 19) 1) < (32 : Int32) then (bi1 (qX5_append h x1) (fun h26 =>
(some (((h26 19) 1), h26))))
else (some ((-4 : Int32), h)))
else (some ((-2 : Int32), h))))
set_option maxHeartbeats 4000000 in
set_option maxRecDepth 100000 in
theorem c_X6_write {l : Launch} {E : Ev} {ad : Nat → Nat} {g : Gp} {h : Hp} {x1 : Int32} {r : Int32} {h9 : Hp} (hI : Inj ad) (hf : qX6_write h x1 = some (r, h9)) : CtI l yX6_write cX6_write 2 (some .int) 1 21 E ad g g [.ref (ad 126), .int x1] h h9 r := by
  refine x_begin (by decide) (Nat.le_of_ble_eq_true rfl) ?_
  intro p e s m below meth c ls C hr hlk X w hl
  replace hl : lv_has ls 2 [(0, .ref (ad 126)), (1, .int x1)] := hl
  replace C : CallFix p m c cX6_write 2 s ([.ref (ad 126), .int x1] : List Value).toArray lwA RX6 := C
  unfold qX6_write at hf
  refine lv_iload_n C.1 C.2.1 dX6_write_0 rfl (lv_at hl 1 rfl) ?_
  refine lv_if_lt (tgt := 11) C.1 C.2.1 dX6_write_1 (by decide) (fun c21 => ?_) (fun c21 => ?_)
  · rw [if_pos c21] at hf
    refine lv_bipush (v := -2) C.1 C.2.1 dX6_write_11 (by decide) ?_
    cases hf
    exact x_iret C hr hlk w dX6_write_13
  · rw [if_neg c21] at hf
    refine lv_iload_n C.1 C.2.1 dX6_write_4 rfl (lv_at hl 1 rfl) ?_
    refine lv_sipush (v := 255) C.1 C.2.1 dX6_write_5 (by decide) ?_
    refine lv_icmp_le (tgt := 14) C.1 C.2.1 dX6_write_8 (by decide) (fun c22 => ?_) (fun c22 => ?_)
    · rw [if_pos c22] at hf
      refine lv_aload_n C.1 C.2.1 dX6_write_14 rfl (lv_at hl 0 rfl) ?_
      refine gf_X6_10 C X w rfl dX6_write_15 ?_
      refine gf_X6_64 C X w (rfl) dX6_write_18 ?_
      refine lv_bipush (v := 32) C.1 C.2.1 dX6_write_21 (by decide) ?_
      refine lv_icmp_lt (tgt := 29) C.1 C.2.1 dX6_write_23 (by decide) (fun c23 => ?_) (fun c23 => ?_)
      · rw [if_pos c23] at hf
        refine lv_aload_n C.1 C.2.1 dX6_write_29 rfl (lv_at hl 0 rfl) ?_
        refine gf_X6_10 C X w rfl dX6_write_30 ?_
        refine lv_iload_n C.1 C.2.1 dX6_write_33 rfl (lv_at hl 1 rfl) ?_
        obtain ⟨h26, eq24, hf⟩ := bi1_e hf
        refine x_cVvN (As := [.int x1]) (rest := []) C X w (c_X5_append hI eq24) mw_X5_append ml_X6_68 rcv_r19 rfl hl.1 rfl (Nat.le_of_ble_eq_true rfl) ⟨⟨Nat.le_of_ble_eq_true rfl, Nat.le_of_ble_eq_true rfl⟩, Nat.le_of_ble_eq_true rfl, Nat.le_of_ble_eq_true rfl⟩ dX6_write_34 (fun H locs w => ?_)
        refine lv_aload_n C.1 C.2.1 dX6_write_37 rfl (lv_at hl 0 rfl) ?_
        refine gf_X6_10 C X w rfl dX6_write_38 ?_
        refine gf_X6_64 C X w (rfl) dX6_write_41 ?_
        cases hf
        exact x_iret C hr hlk w dX6_write_44
      · rw [if_neg c23] at hf
        refine lv_bipush (v := -4) C.1 C.2.1 dX6_write_26 (by decide) ?_
        cases hf
        exact x_iret C hr hlk w dX6_write_28
    · rw [if_neg c22] at hf
      refine lv_bipush (v := -2) C.1 C.2.1 dX6_write_11 (by decide) ?_
      cases hf
      exact x_iret C hr hlk w dX6_write_13

def qX6_wipe (h : Hp) : Option (Int32 × Hp) :=
(bd (su h 19 (upd (h 19) 1 (0 : Int32))) (fun h21 =>
(some (((h 19) 1), h21))))
set_option maxHeartbeats 4000000 in
set_option maxRecDepth 100000 in
theorem c_X6_wipe {l : Launch} {E : Ev} {ad : Nat → Nat} {g : Gp} {h : Hp} {r : Int32} {h9 : Hp} (hI : Inj ad) (hf : qX6_wipe h = some (r, h9)) : CtI l yX6_wipe cX6_wipe 2 (some .int) 0 0 E ad g g [.ref (ad 126)] h h9 r := by
  refine x_begin (by decide) (Nat.le_of_ble_eq_true rfl) ?_
  intro p e s m below meth c ls C hr hlk X w hl
  replace hl : lv_has ls 2 [(0, .ref (ad 126))] := hl
  replace C : CallFix p m c cX6_wipe 2 s ([.ref (ad 126)] : List Value).toArray lwA RX6 := C
  unfold qX6_wipe at hf
  refine lv_aload_n C.1 C.2.1 dX6_wipe_0 rfl (lv_at hl 0 rfl) ?_
  refine gf_X6_10 C X w rfl dX6_wipe_1 ?_
  refine gf_X6_64 C X w (rfl) dX6_wipe_4 ?_
  refine lv_istore_n (lv' := [(1, .int ((h 19) 1)), (0, .ref (ad 126))]) C.1 C.2.1 dX6_wipe_7 rfl hl (by decide) rfl (fun ls hl => ?_)
  refine lv_aload_n C.1 C.2.1 dX6_wipe_8 rfl (lv_at hl 1 rfl) ?_
  refine gf_X6_10 C X w rfl dX6_wipe_9 ?_
  refine lv_iconst (v := 0) C.1 C.2.1 dX6_wipe_12 (by decide) ?_
  obtain ⟨h21, eh21, hf⟩ := bd_e hf
  refine pf_X6_64 C X hI w dX6_wipe_13 (fun H locs w => ?_)
  replace w := at_eq eh21 w
  refine lv_iload_n C.1 C.2.1 dX6_wipe_16 rfl (lv_at hl 0 rfl) ?_
  cases hf
  exact x_iret C hr hlk w dX6_wipe_17

def qX6_fault (h : Hp) : Option (Int32) :=
(bi1 (qX5_faultPlace (h 19) (h 20)) (fun r22 =>
(some r22)))
set_option maxHeartbeats 4000000 in
set_option maxRecDepth 100000 in
theorem c_X6_fault {l : Launch} {E : Ev} {ad : Nat → Nat} {g : Gp} {h : Hp} {r : Int32} (hI : Inj ad) (hf : qX6_fault h = some r) : CtI l yX6_fault cX6_fault 1 (some .int) 4 85 E ad g g [.ref (ad 126)] h h r := by
  refine x_begin (by decide) (Nat.le_of_ble_eq_true rfl) ?_
  intro p e s m below meth c ls C hr hlk X w hl
  replace hl : lv_has ls 1 [(0, .ref (ad 126))] := hl
  replace C : CallFix p m c cX6_fault 1 s ([.ref (ad 126)] : List Value).toArray lwA RX6 := C
  unfold qX6_fault at hf
  refine lv_aload_n C.1 C.2.1 dX6_fault_0 rfl (lv_at hl 0 rfl) ?_
  refine gf_X6_10 C X w rfl dX6_fault_1 ?_
  obtain ⟨r22, eq21, hf⟩ := bi1_e hf
  refine x_cViN (As := []) (rest := []) C X w (c_X5_faultPlace hI (rfl) (rfl) eq21) mw_X5_faultPlace ml_X6_72 rcv_r19 rfl hl.1 rfl (Nat.le_of_ble_eq_true rfl) ⟨⟨Nat.le_of_ble_eq_true rfl, Nat.le_of_ble_eq_true rfl⟩, Nat.le_of_ble_eq_true rfl, Nat.le_of_ble_eq_true rfl⟩ dX6_fault_4 (fun H locs w => ?_)
  cases hf
  exact x_iret C hr hlk w dX6_fault_7

def qX6_garden (h : Hp) : Option (Int32 × Hp) :=
(bi1 (qX5_faultPlace (h 19) (h 20)) (fun r22 =>
(if r22 = (-9 : Int32) then (bi1 (qX1_tellFrom h) (fun h26 =>
(bi1 (qX2_startFrom (h26 19) (h26 20) (h26 0)) (fun P29 =>
(bd (su h26 0 P29) (fun h30 =>
(bi1 (qX0_forgetAll h30) (fun h33 =>
(bi1 (qX4_forgetAll h33) (fun h36 =>
(some (((h36 21) 0), h36))))))))))))
else (some ((-3 : Int32), h)))))
set_option maxHeartbeats 4000000 in
set_option maxRecDepth 100000 in
theorem c_X6_garden {l : Launch} {E : Ev} {ad : Nat → Nat} {g : Gp} {h : Hp} {r : Int32} {h9 : Hp} (hI : Inj ad) (hf : qX6_garden h = some (r, h9)) : CtI l yX6_garden cX6_garden 1 (some .int) 4 85 E ad g g [.ref (ad 126)] h h9 r := by
  refine x_begin (by decide) (Nat.le_of_ble_eq_true rfl) ?_
  intro p e s m below meth c ls C hr hlk X w hl
  replace hl : lv_has ls 1 [(0, .ref (ad 126))] := hl
  replace C : CallFix p m c cX6_garden 1 s ([.ref (ad 126)] : List Value).toArray lwA RX6 := C
  unfold qX6_garden at hf
  refine lv_aload_n C.1 C.2.1 dX6_garden_0 rfl (lv_at hl 0 rfl) ?_
  refine gf_X6_10 C X w rfl dX6_garden_1 ?_
  obtain ⟨r22, eq21, hf⟩ := bi1_e hf
  refine x_cViN (As := []) (rest := []) C X w (c_X5_faultPlace hI (rfl) (rfl) eq21) mw_X5_faultPlace ml_X6_72 rcv_r19 rfl hl.1 rfl (Nat.le_of_ble_eq_true rfl) ⟨⟨Nat.le_of_ble_eq_true rfl, Nat.le_of_ble_eq_true rfl⟩, Nat.le_of_ble_eq_true rfl, Nat.le_of_ble_eq_true rfl⟩ dX6_garden_4 (fun H locs w => ?_)
  refine lv_bipush (v := -9) C.1 C.2.1 dX6_garden_7 (by decide) ?_
  refine lv_icmp_eq (tgt := 15) C.1 C.2.1 dX6_garden_9 (by decide) (fun c23 => ?_) (fun c23 => ?_)
  · rw [if_pos c23] at hf
    refine lv_aload_n C.1 C.2.1 dX6_garden_15 rfl (lv_at hl 0 rfl) ?_
    refine gf_X6_19 C X w rfl dX6_garden_16 ?_
    refine lv_aload_n C.1 C.2.1 dX6_garden_19 rfl (lv_at hl 0 rfl) ?_
    refine gf_X6_10 C X w rfl dX6_garden_20 ?_
    obtain ⟨h26, eq24, hf⟩ := bi1_e hf
    refine x_cVvN (As := [.ref (ad 127)]) (rest := []) C X w (c_X1_tellFrom hI eq24) mw_X1_tellFrom ml_X6_76 rcv_r21 rfl hl.1 rfl (Nat.le_of_ble_eq_true rfl) ⟨⟨Nat.le_of_ble_eq_true rfl, Nat.le_of_ble_eq_true rfl⟩, Nat.le_of_ble_eq_true rfl, Nat.le_of_ble_eq_true rfl⟩ dX6_garden_23 (fun H locs w => ?_)
    refine lv_aload_n C.1 C.2.1 dX6_garden_26 rfl (lv_at hl 0 rfl) ?_
    refine gf_X6_28 C X w rfl dX6_garden_27 ?_
    refine lv_aload_n C.1 C.2.1 dX6_garden_30 rfl (lv_at hl 0 rfl) ?_
    refine gf_X6_10 C X w rfl dX6_garden_31 ?_
    obtain ⟨P29, eq27, hf⟩ := bi1_e hf
    obtain ⟨h30, eh30, hf⟩ := bd_e hf
    refine x_cVvN (As := [.ref (ad 127)]) (rest := []) C X (at_su 0 w) (c_X2_startFrom hI (by decide) eq27) mw_X2_startFrom ml_X6_80 (rcv_P (b := 0) (su_same _ _ _) (by decide)) rfl hl.1 rfl (Nat.le_of_ble_eq_true rfl) ⟨⟨Nat.le_of_ble_eq_true rfl, Nat.le_of_ble_eq_true rfl⟩, Nat.le_of_ble_eq_true rfl, Nat.le_of_ble_eq_true rfl⟩ dX6_garden_34 (fun H locs w => ?_)
    replace w := at_eq eh30 w
    refine lv_aload_n C.1 C.2.1 dX6_garden_37 rfl (lv_at hl 0 rfl) ?_
    refine gf_X6_38 C X w rfl dX6_garden_38 ?_
    obtain ⟨h33, eq31, hf⟩ := bi1_e hf
    refine x_cVvN (As := []) (rest := []) C X w (c_X0_forgetAll hI eq31) mw_X0_forgetAll ml_X6_83 rcv_r24 rfl hl.1 rfl (Nat.le_of_ble_eq_true rfl) ⟨⟨Nat.le_of_ble_eq_true rfl, Nat.le_of_ble_eq_true rfl⟩, Nat.le_of_ble_eq_true rfl, Nat.le_of_ble_eq_true rfl⟩ dX6_garden_41 (fun H locs w => ?_)
    refine lv_aload_n C.1 C.2.1 dX6_garden_44 rfl (lv_at hl 0 rfl) ?_
    refine gf_X6_45 C X w rfl dX6_garden_45 ?_
    obtain ⟨h36, eq34, hf⟩ := bi1_e hf
    refine x_cVvN (As := []) (rest := []) C X w (c_X4_forgetAll hI eq34) mw_X4_forgetAll ml_X6_86 rcv_r26 rfl hl.1 rfl (Nat.le_of_ble_eq_true rfl) ⟨⟨Nat.le_of_ble_eq_true rfl, Nat.le_of_ble_eq_true rfl⟩, Nat.le_of_ble_eq_true rfl, Nat.le_of_ble_eq_true rfl⟩ dX6_garden_48 (fun H locs w => ?_)
    refine lv_aload_n C.1 C.2.1 dX6_garden_51 rfl (lv_at hl 0 rfl) ?_
    refine gf_X6_19 C X w rfl dX6_garden_52 ?_
    refine gf_X6_87 C X w (rfl) dX6_garden_55 ?_
    cases hf
    exact x_iret C hr hlk w dX6_garden_58
  · rw [if_neg c23] at hf
    refine lv_bipush (v := -3) C.1 C.2.1 dX6_garden_12 (by decide) ?_
    cases hf
    exact x_iret C hr hlk w dX6_garden_14

def qX6_about (h : Hp) (x1 : Int32) : Option (Int32) :=
(if x1 = 0 then (some ((h 21) 0))
else (if x1 = 1 then (some ((h 0) 32))
else (if x1 = 2 then (some ((h 0) 33))
else (if x1 = 3 then (some ((h 0) 34))
else (if x1 = 4 then (some ((h 0) 30))
else (if x1 = 5 then (bi1 (qX2_wanting (h 0)) (fun r28 =>
(some r28)))
else (if x1 = 6 then (bi1 (qX2_asking (h 23) (h 0)) (fun r31 =>
(some r31)))
else (if x1 = 7 then (bi1 (qX2_next (h 22) (h 23) (h 0)) (fun r34 =>
(some r34)))
else (if x1 = 8 then (some ((h 0) 31))
else (if x1 = 9 then (some ((h 0) 35))
else (if x1 = 10 then (some ((h 24) 1))
else (if x1 = 11 then (some ((h 29) 2))
else (if x1 = 12 then (some ((h 19) 1))
else (some (-2 : Int32)))))))))))))))
set_option maxHeartbeats 4000000 in
set_option maxRecDepth 100000 in
theorem c_X6_about {l : Launch} {E : Ev} {ad : Nat → Nat} {g : Gp} {h : Hp} {x1 : Int32} {r : Int32} (hI : Inj ad) (hf : qX6_about h x1 = some r) : CtI l yX6_about cX6_about 2 (some .int) 3 69 E ad g g [.ref (ad 126), .int x1] h h r := by
  refine x_begin (by decide) (Nat.le_of_ble_eq_true rfl) ?_
  intro p e s m below meth c ls C hr hlk X w hl
  replace hl : lv_has ls 2 [(0, .ref (ad 126)), (1, .int x1)] := hl
  replace C : CallFix p m c cX6_about 2 s ([.ref (ad 126), .int x1] : List Value).toArray lwA RX6 := C
  unfold qX6_about at hf
  refine lv_iload_n C.1 C.2.1 dX6_about_0 rfl (lv_at hl 1 rfl) ?_
  by_cases c21 : x1 = 0
  · rw [if_pos c21] at hf
    refine lv_tableIn (off := 67) (tgt := 68) C.1 C.2.1 dX6_about_1 (by rw [c21]; decide) (by rw [c21]; decide) (by rw [c21]; rfl) (by decide) ?_
    refine lv_aload_n C.1 C.2.1 dX6_about_68 rfl (lv_at hl 0 rfl) ?_
    refine gf_X6_19 C X w rfl dX6_about_69 ?_
    refine gf_X6_87 C X w (rfl) dX6_about_72 ?_
    cases hf
    exact x_iret C hr hlk w dX6_about_75
  · rw [if_neg c21] at hf
    by_cases c22 : x1 = 1
    · rw [if_pos c22] at hf
      refine lv_tableIn (off := 75) (tgt := 76) C.1 C.2.1 dX6_about_1 (by rw [c22]; decide) (by rw [c22]; decide) (by rw [c22]; rfl) (by decide) ?_
      refine lv_aload_n C.1 C.2.1 dX6_about_76 rfl (lv_at hl 0 rfl) ?_
      refine gf_X6_28 C X w rfl dX6_about_77 ?_
      refine gf_X6_90 (b := 0) C X w rfl (by decide) dX6_about_80 ?_
      cases hf
      exact x_iret C hr hlk w dX6_about_83
    · rw [if_neg c22] at hf
      by_cases c23 : x1 = 2
      · rw [if_pos c23] at hf
        refine lv_tableIn (off := 83) (tgt := 84) C.1 C.2.1 dX6_about_1 (by rw [c23]; decide) (by rw [c23]; decide) (by rw [c23]; rfl) (by decide) ?_
        refine lv_aload_n C.1 C.2.1 dX6_about_84 rfl (lv_at hl 0 rfl) ?_
        refine gf_X6_28 C X w rfl dX6_about_85 ?_
        refine gf_X6_93 (b := 0) C X w rfl (by decide) dX6_about_88 ?_
        cases hf
        exact x_iret C hr hlk w dX6_about_91
      · rw [if_neg c23] at hf
        by_cases c24 : x1 = 3
        · rw [if_pos c24] at hf
          refine lv_tableIn (off := 91) (tgt := 92) C.1 C.2.1 dX6_about_1 (by rw [c24]; decide) (by rw [c24]; decide) (by rw [c24]; rfl) (by decide) ?_
          refine lv_aload_n C.1 C.2.1 dX6_about_92 rfl (lv_at hl 0 rfl) ?_
          refine gf_X6_28 C X w rfl dX6_about_93 ?_
          refine gf_X6_94 (b := 0) C X w rfl (by decide) dX6_about_96 ?_
          cases hf
          exact x_iret C hr hlk w dX6_about_99
        · rw [if_neg c24] at hf
          by_cases c25 : x1 = 4
          · rw [if_pos c25] at hf
            refine lv_tableIn (off := 99) (tgt := 100) C.1 C.2.1 dX6_about_1 (by rw [c25]; decide) (by rw [c25]; decide) (by rw [c25]; rfl) (by decide) ?_
            refine lv_aload_n C.1 C.2.1 dX6_about_100 rfl (lv_at hl 0 rfl) ?_
            refine gf_X6_28 C X w rfl dX6_about_101 ?_
            refine gf_X6_97 (b := 0) C X w rfl (by decide) dX6_about_104 ?_
            cases hf
            exact x_iret C hr hlk w dX6_about_107
          · rw [if_neg c25] at hf
            by_cases c26 : x1 = 5
            · rw [if_pos c26] at hf
              refine lv_tableIn (off := 107) (tgt := 108) C.1 C.2.1 dX6_about_1 (by rw [c26]; decide) (by rw [c26]; decide) (by rw [c26]; rfl) (by decide) ?_
              refine lv_aload_n C.1 C.2.1 dX6_about_108 rfl (lv_at hl 0 rfl) ?_
              refine gf_X6_28 C X w rfl dX6_about_109 ?_
              obtain ⟨r28, eq27, hf⟩ := bi1_e hf
              refine x_cViN (As := []) (rest := []) C X (at_su 0 w) (c_X2_wanting hI (by decide) eq27) mw_X2_wanting ml_X6_100 (rcv_P (b := 0) (su_same _ _ _) (by decide)) rfl hl.1 rfl (Nat.le_of_ble_eq_true rfl) ⟨⟨Nat.le_of_ble_eq_true rfl, Nat.le_of_ble_eq_true rfl⟩, Nat.le_of_ble_eq_true rfl, Nat.le_of_ble_eq_true rfl⟩ dX6_about_112 (fun H locs w => ?_)
              replace w := at_us w
              cases hf
              exact x_iret C hr hlk w dX6_about_115
            · rw [if_neg c26] at hf
              by_cases c29 : x1 = 6
              · rw [if_pos c29] at hf
                refine lv_tableIn (off := 115) (tgt := 116) C.1 C.2.1 dX6_about_1 (by rw [c29]; decide) (by rw [c29]; decide) (by rw [c29]; rfl) (by decide) ?_
                refine lv_aload_n C.1 C.2.1 dX6_about_116 rfl (lv_at hl 0 rfl) ?_
                refine gf_X6_28 C X w rfl dX6_about_117 ?_
                obtain ⟨r31, eq30, hf⟩ := bi1_e hf
                refine x_cViN (As := []) (rest := []) C X (at_su 0 w) (c_X2_asking hI (by decide) eq30) mw_X2_asking ml_X6_103 (rcv_P (b := 0) (su_same _ _ _) (by decide)) rfl hl.1 rfl (Nat.le_of_ble_eq_true rfl) ⟨⟨Nat.le_of_ble_eq_true rfl, Nat.le_of_ble_eq_true rfl⟩, Nat.le_of_ble_eq_true rfl, Nat.le_of_ble_eq_true rfl⟩ dX6_about_120 (fun H locs w => ?_)
                replace w := at_us w
                cases hf
                exact x_iret C hr hlk w dX6_about_123
              · rw [if_neg c29] at hf
                by_cases c32 : x1 = 7
                · rw [if_pos c32] at hf
                  refine lv_tableIn (off := 123) (tgt := 124) C.1 C.2.1 dX6_about_1 (by rw [c32]; decide) (by rw [c32]; decide) (by rw [c32]; rfl) (by decide) ?_
                  refine lv_aload_n C.1 C.2.1 dX6_about_124 rfl (lv_at hl 0 rfl) ?_
                  refine gf_X6_28 C X w rfl dX6_about_125 ?_
                  obtain ⟨r34, eq33, hf⟩ := bi1_e hf
                  refine x_cViN (As := []) (rest := []) C X (at_su 0 w) (c_X2_next hI (by decide) eq33) mw_X2_next ml_X6_106 (rcv_P (b := 0) (su_same _ _ _) (by decide)) rfl hl.1 rfl (Nat.le_of_ble_eq_true rfl) ⟨⟨Nat.le_of_ble_eq_true rfl, Nat.le_of_ble_eq_true rfl⟩, Nat.le_of_ble_eq_true rfl, Nat.le_of_ble_eq_true rfl⟩ dX6_about_128 (fun H locs w => ?_)
                  replace w := at_us w
                  cases hf
                  exact x_iret C hr hlk w dX6_about_131
                · rw [if_neg c32] at hf
                  by_cases c35 : x1 = 8
                  · rw [if_pos c35] at hf
                    refine lv_tableIn (off := 131) (tgt := 132) C.1 C.2.1 dX6_about_1 (by rw [c35]; decide) (by rw [c35]; decide) (by rw [c35]; rfl) (by decide) ?_
                    refine lv_aload_n C.1 C.2.1 dX6_about_132 rfl (lv_at hl 0 rfl) ?_
                    refine gf_X6_28 C X w rfl dX6_about_133 ?_
                    refine gf_X6_109 (b := 0) C X w rfl (by decide) dX6_about_136 ?_
                    cases hf
                    exact x_iret C hr hlk w dX6_about_139
                  · rw [if_neg c35] at hf
                    by_cases c36 : x1 = 9
                    · rw [if_pos c36] at hf
                      refine lv_tableIn (off := 139) (tgt := 140) C.1 C.2.1 dX6_about_1 (by rw [c36]; decide) (by rw [c36]; decide) (by rw [c36]; rfl) (by decide) ?_
                      refine lv_aload_n C.1 C.2.1 dX6_about_140 rfl (lv_at hl 0 rfl) ?_
                      refine gf_X6_28 C X w rfl dX6_about_141 ?_
                      refine gf_X6_112 (b := 0) C X w rfl (by decide) dX6_about_144 ?_
                      cases hf
                      exact x_iret C hr hlk w dX6_about_147
                    · rw [if_neg c36] at hf
                      by_cases c37 : x1 = 10
                      · rw [if_pos c37] at hf
                        refine lv_tableIn (off := 147) (tgt := 148) C.1 C.2.1 dX6_about_1 (by rw [c37]; decide) (by rw [c37]; decide) (by rw [c37]; rfl) (by decide) ?_
                        refine lv_aload_n C.1 C.2.1 dX6_about_148 rfl (lv_at hl 0 rfl) ?_
                        refine gf_X6_38 C X w rfl dX6_about_149 ?_
                        refine gf_X6_115 C X w (rfl) dX6_about_152 ?_
                        cases hf
                        exact x_iret C hr hlk w dX6_about_155
                      · rw [if_neg c37] at hf
                        by_cases c38 : x1 = 11
                        · rw [if_pos c38] at hf
                          refine lv_tableIn (off := 155) (tgt := 156) C.1 C.2.1 dX6_about_1 (by rw [c38]; decide) (by rw [c38]; decide) (by rw [c38]; rfl) (by decide) ?_
                          refine lv_aload_n C.1 C.2.1 dX6_about_156 rfl (lv_at hl 0 rfl) ?_
                          refine gf_X6_52 C X w rfl dX6_about_157 ?_
                          refine gf_X6_116 C X w (rfl) dX6_about_160 ?_
                          cases hf
                          exact x_iret C hr hlk w dX6_about_163
                        · rw [if_neg c38] at hf
                          by_cases c39 : x1 = 12
                          · rw [if_pos c39] at hf
                            refine lv_tableIn (off := 163) (tgt := 164) C.1 C.2.1 dX6_about_1 (by rw [c39]; decide) (by rw [c39]; decide) (by rw [c39]; rfl) (by decide) ?_
                            refine lv_aload_n C.1 C.2.1 dX6_about_164 rfl (lv_at hl 0 rfl) ?_
                            refine gf_X6_10 C X w rfl dX6_about_165 ?_
                            refine gf_X6_64 C X w (rfl) dX6_about_168 ?_
                            cases hf
                            exact x_iret C hr hlk w dX6_about_171
                          · rw [if_neg c39] at hf
                            have c21n := ti_ne c21 (show (0 : Int32).toInt = 0 by decide)
                            have c22n := ti_ne c22 (show (1 : Int32).toInt = 1 by decide)
                            have c23n := ti_ne c23 (show (2 : Int32).toInt = 2 by decide)
                            have c24n := ti_ne c24 (show (3 : Int32).toInt = 3 by decide)
                            have c25n := ti_ne c25 (show (4 : Int32).toInt = 4 by decide)
                            have c26n := ti_ne c26 (show (5 : Int32).toInt = 5 by decide)
                            have c29n := ti_ne c29 (show (6 : Int32).toInt = 6 by decide)
                            have c32n := ti_ne c32 (show (7 : Int32).toInt = 7 by decide)
                            have c35n := ti_ne c35 (show (8 : Int32).toInt = 8 by decide)
                            have c36n := ti_ne c36 (show (9 : Int32).toInt = 9 by decide)
                            have c37n := ti_ne c37 (show (10 : Int32).toInt = 10 by decide)
                            have c38n := ti_ne c38 (show (11 : Int32).toInt = 11 by decide)
                            have c39n := ti_ne c39 (show (12 : Int32).toInt = 12 by decide)
                            refine lv_tableOut (tgt := 172) C.1 C.2.1 dX6_about_1 (by omega) (by decide) ?_
                            refine lv_bipush (v := -2) C.1 C.2.1 dX6_about_172 (by decide) ?_
                            cases hf
                            exact x_iret C hr hlk w dX6_about_174

def qX6_child (h : Hp) (x1 : Int32) (x2 : Int32) : Option (Int32) :=
(bi1 (qX2_isThere (h 0) x1) (fun r22 =>
(if r22 = 0 then (some (-1 : Int32))
else (if x2 = 0 then (ck (inb x1 5) ((some ((h 0) (0 + x1.toNatClampNeg)))))
else (if x2 = 1 then (ck (inb x1 5) ((some ((h 22) x1.toNatClampNeg))))
else (if x2 = 2 then (ck (inb x1 5) ((some ((h 23) x1.toNatClampNeg))))
else (if x2 = 3 then (bi1 (qX1_might (h 22) (h 23) x1) (fun r32 =>
(some r32)))
else (if x2 = 4 then (ck (inb x1 5) ((some ((h 0) (5 + x1.toNatClampNeg)))))
else (if x2 = 5 then (ck (inb x1 5) ((some ((h 0) (10 + x1.toNatClampNeg)))))
else (if x2 = 6 then (ck (inb x1 5) ((some ((h 0) (15 + x1.toNatClampNeg)))))
else (if x2 = 7 then (ck (inb x1 5) ((some ((h 0) (20 + x1.toNatClampNeg)))))
else (if x2 = 8 then (ck (inb x1 5) ((some ((h 0) (25 + x1.toNatClampNeg)))))
else (some (-2 : Int32))))))))))))))
set_option maxHeartbeats 4000000 in
set_option maxRecDepth 100000 in
theorem c_X6_child {l : Launch} {E : Ev} {ad : Nat → Nat} {g : Gp} {h : Hp} {x1 : Int32} {x2 : Int32} {r : Int32} (hI : Inj ad) (hf : qX6_child h x1 x2 = some r) : CtI l yX6_child cX6_child 3 (some .int) 2 42 E ad g g [.ref (ad 126), .int x1, .int x2] h h r := by
  refine x_begin (by decide) (Nat.le_of_ble_eq_true rfl) ?_
  intro p e s m below meth c ls C hr hlk X w hl
  replace hl : lv_has ls 3 [(0, .ref (ad 126)), (1, .int x1), (2, .int x2)] := hl
  replace C : CallFix p m c cX6_child 3 s ([.ref (ad 126), .int x1, .int x2] : List Value).toArray lwA RX6 := C
  unfold qX6_child at hf
  refine lv_aload_n C.1 C.2.1 dX6_child_0 rfl (lv_at hl 0 rfl) ?_
  refine gf_X6_28 C X w rfl dX6_child_1 ?_
  refine lv_iload_n C.1 C.2.1 dX6_child_4 rfl (lv_at hl 1 rfl) ?_
  obtain ⟨r22, eq21, hf⟩ := bi1_e hf
  refine x_cViN (As := [.int x1]) (rest := []) C X (at_su 0 w) (c_X2_isThere hI (by decide) eq21) mw_X2_isThere ml_X6_117 (rcv_P (b := 0) (su_same _ _ _) (by decide)) rfl hl.1 rfl (Nat.le_of_ble_eq_true rfl) ⟨⟨Nat.le_of_ble_eq_true rfl, Nat.le_of_ble_eq_true rfl⟩, Nat.le_of_ble_eq_true rfl, Nat.le_of_ble_eq_true rfl⟩ dX6_child_5 (fun H locs w => ?_)
  replace w := at_us w
  refine lv_if_ne (tgt := 13) C.1 C.2.1 dX6_child_8 (by decide) (fun c23 => ?_) (fun c23 => ?_)
  · rw [if_neg c23] at hf
    refine lv_iload_n C.1 C.2.1 dX6_child_13 rfl (lv_at hl 2 rfl) ?_
    by_cases c24 : x2 = 0
    · rw [if_pos c24] at hf
      refine lv_tableIn (off := 50) (tgt := 64) C.1 C.2.1 dX6_child_14 (by rw [c24]; decide) (by rw [c24]; decide) (by rw [c24]; rfl) (by decide) ?_
      refine lv_aload_n C.1 C.2.1 dX6_child_64 rfl (lv_at hl 0 rfl) ?_
      refine gf_X6_28 C X w rfl dX6_child_65 ?_
      refine gf_X6_121 (b := 0) C X w rfl (by decide) dX6_child_68 ?_
      refine lv_iload_n C.1 C.2.1 dX6_child_71 rfl (lv_at hl 1 rfl) ?_
      obtain ⟨i25, hf⟩ := ck_e hf
      refine x_pld (b := 0) (k := 1) (o := 0) (j := x1.toNatClampNeg) C X w rfl (by decide) (by decide) (by decide) rfl i25 rfl dX6_child_72 ?_
      cases hf
      exact x_iret C hr hlk w dX6_child_73
    · rw [if_neg c24] at hf
      by_cases c26 : x2 = 1
      · rw [if_pos c26] at hf
        refine lv_tableIn (off := 60) (tgt := 74) C.1 C.2.1 dX6_child_14 (by rw [c26]; decide) (by rw [c26]; decide) (by rw [c26]; rfl) (by decide) ?_
        refine lv_aload_n C.1 C.2.1 dX6_child_74 rfl (lv_at hl 0 rfl) ?_
        refine gf_X6_19 C X w rfl dX6_child_75 ?_
        refine gf_X6_124 C X w rfl dX6_child_78 ?_
        refine lv_iload_n C.1 C.2.1 dX6_child_81 rfl (lv_at hl 1 rfl) ?_
        obtain ⟨i27, hf⟩ := ck_e hf
        refine x_ild (v := (h 22) x1.toNatClampNeg) C X w (wl_r22 (rfl)) i27 (rfl) dX6_child_82 ?_
        cases hf
        exact x_iret C hr hlk w dX6_child_83
      · rw [if_neg c26] at hf
        by_cases c28 : x2 = 2
        · rw [if_pos c28] at hf
          refine lv_tableIn (off := 70) (tgt := 84) C.1 C.2.1 dX6_child_14 (by rw [c28]; decide) (by rw [c28]; decide) (by rw [c28]; rfl) (by decide) ?_
          refine lv_aload_n C.1 C.2.1 dX6_child_84 rfl (lv_at hl 0 rfl) ?_
          refine gf_X6_19 C X w rfl dX6_child_85 ?_
          refine gf_X6_127 C X w rfl dX6_child_88 ?_
          refine lv_iload_n C.1 C.2.1 dX6_child_91 rfl (lv_at hl 1 rfl) ?_
          obtain ⟨i29, hf⟩ := ck_e hf
          refine x_ild (v := (h 23) x1.toNatClampNeg) C X w (wl_r23 (rfl)) i29 (rfl) dX6_child_92 ?_
          cases hf
          exact x_iret C hr hlk w dX6_child_93
        · rw [if_neg c28] at hf
          by_cases c30 : x2 = 3
          · rw [if_pos c30] at hf
            refine lv_tableIn (off := 80) (tgt := 94) C.1 C.2.1 dX6_child_14 (by rw [c30]; decide) (by rw [c30]; decide) (by rw [c30]; rfl) (by decide) ?_
            refine lv_aload_n C.1 C.2.1 dX6_child_94 rfl (lv_at hl 0 rfl) ?_
            refine gf_X6_19 C X w rfl dX6_child_95 ?_
            refine lv_iload_n C.1 C.2.1 dX6_child_98 rfl (lv_at hl 1 rfl) ?_
            obtain ⟨r32, eq31, hf⟩ := bi1_e hf
            refine x_cViN (As := [.int x1]) (rest := []) C X w (c_X1_might hI (rfl) (rfl) eq31) mw_X1_might ml_X6_130 rcv_r21 rfl hl.1 rfl (Nat.le_of_ble_eq_true rfl) ⟨⟨Nat.le_of_ble_eq_true rfl, Nat.le_of_ble_eq_true rfl⟩, Nat.le_of_ble_eq_true rfl, Nat.le_of_ble_eq_true rfl⟩ dX6_child_99 (fun H locs w => ?_)
            cases hf
            exact x_iret C hr hlk w dX6_child_102
          · rw [if_neg c30] at hf
            by_cases c33 : x2 = 4
            · rw [if_pos c33] at hf
              refine lv_tableIn (off := 89) (tgt := 103) C.1 C.2.1 dX6_child_14 (by rw [c33]; decide) (by rw [c33]; decide) (by rw [c33]; rfl) (by decide) ?_
              refine lv_aload_n C.1 C.2.1 dX6_child_103 rfl (lv_at hl 0 rfl) ?_
              refine gf_X6_28 C X w rfl dX6_child_104 ?_
              refine gf_X6_134 (b := 0) C X w rfl (by decide) dX6_child_107 ?_
              refine lv_iload_n C.1 C.2.1 dX6_child_110 rfl (lv_at hl 1 rfl) ?_
              obtain ⟨i34, hf⟩ := ck_e hf
              refine x_pld (b := 0) (k := 2) (o := 5) (j := x1.toNatClampNeg) C X w rfl (by decide) (by decide) (by decide) rfl i34 rfl dX6_child_111 ?_
              cases hf
              exact x_iret C hr hlk w dX6_child_112
            · rw [if_neg c33] at hf
              by_cases c35 : x2 = 5
              · rw [if_pos c35] at hf
                refine lv_tableIn (off := 99) (tgt := 113) C.1 C.2.1 dX6_child_14 (by rw [c35]; decide) (by rw [c35]; decide) (by rw [c35]; rfl) (by decide) ?_
                refine lv_aload_n C.1 C.2.1 dX6_child_113 rfl (lv_at hl 0 rfl) ?_
                refine gf_X6_28 C X w rfl dX6_child_114 ?_
                refine gf_X6_137 (b := 0) C X w rfl (by decide) dX6_child_117 ?_
                refine lv_iload_n C.1 C.2.1 dX6_child_120 rfl (lv_at hl 1 rfl) ?_
                obtain ⟨i36, hf⟩ := ck_e hf
                refine x_pld (b := 0) (k := 3) (o := 10) (j := x1.toNatClampNeg) C X w rfl (by decide) (by decide) (by decide) rfl i36 rfl dX6_child_121 ?_
                cases hf
                exact x_iret C hr hlk w dX6_child_122
              · rw [if_neg c35] at hf
                by_cases c37 : x2 = 6
                · rw [if_pos c37] at hf
                  refine lv_tableIn (off := 109) (tgt := 123) C.1 C.2.1 dX6_child_14 (by rw [c37]; decide) (by rw [c37]; decide) (by rw [c37]; rfl) (by decide) ?_
                  refine lv_aload_n C.1 C.2.1 dX6_child_123 rfl (lv_at hl 0 rfl) ?_
                  refine gf_X6_28 C X w rfl dX6_child_124 ?_
                  refine gf_X6_140 (b := 0) C X w rfl (by decide) dX6_child_127 ?_
                  refine lv_iload_n C.1 C.2.1 dX6_child_130 rfl (lv_at hl 1 rfl) ?_
                  obtain ⟨i38, hf⟩ := ck_e hf
                  refine x_pld (b := 0) (k := 4) (o := 15) (j := x1.toNatClampNeg) C X w rfl (by decide) (by decide) (by decide) rfl i38 rfl dX6_child_131 ?_
                  cases hf
                  exact x_iret C hr hlk w dX6_child_132
                · rw [if_neg c37] at hf
                  by_cases c39 : x2 = 7
                  · rw [if_pos c39] at hf
                    refine lv_tableIn (off := 119) (tgt := 133) C.1 C.2.1 dX6_child_14 (by rw [c39]; decide) (by rw [c39]; decide) (by rw [c39]; rfl) (by decide) ?_
                    refine lv_aload_n C.1 C.2.1 dX6_child_133 rfl (lv_at hl 0 rfl) ?_
                    refine gf_X6_28 C X w rfl dX6_child_134 ?_
                    refine gf_X6_143 (b := 0) C X w rfl (by decide) dX6_child_137 ?_
                    refine lv_iload_n C.1 C.2.1 dX6_child_140 rfl (lv_at hl 1 rfl) ?_
                    obtain ⟨i40, hf⟩ := ck_e hf
                    refine x_pld (b := 0) (k := 5) (o := 20) (j := x1.toNatClampNeg) C X w rfl (by decide) (by decide) (by decide) rfl i40 rfl dX6_child_141 ?_
                    cases hf
                    exact x_iret C hr hlk w dX6_child_142
                  · rw [if_neg c39] at hf
                    by_cases c41 : x2 = 8
                    · rw [if_pos c41] at hf
                      refine lv_tableIn (off := 129) (tgt := 143) C.1 C.2.1 dX6_child_14 (by rw [c41]; decide) (by rw [c41]; decide) (by rw [c41]; rfl) (by decide) ?_
                      refine lv_aload_n C.1 C.2.1 dX6_child_143 rfl (lv_at hl 0 rfl) ?_
                      refine gf_X6_28 C X w rfl dX6_child_144 ?_
                      refine gf_X6_146 (b := 0) C X w rfl (by decide) dX6_child_147 ?_
                      refine lv_iload_n C.1 C.2.1 dX6_child_150 rfl (lv_at hl 1 rfl) ?_
                      obtain ⟨i42, hf⟩ := ck_e hf
                      refine x_pld (b := 0) (k := 6) (o := 25) (j := x1.toNatClampNeg) C X w rfl (by decide) (by decide) (by decide) rfl i42 rfl dX6_child_151 ?_
                      cases hf
                      exact x_iret C hr hlk w dX6_child_152
                    · rw [if_neg c41] at hf
                      have c24n := ti_ne c24 (show (0 : Int32).toInt = 0 by decide)
                      have c26n := ti_ne c26 (show (1 : Int32).toInt = 1 by decide)
                      have c28n := ti_ne c28 (show (2 : Int32).toInt = 2 by decide)
                      have c30n := ti_ne c30 (show (3 : Int32).toInt = 3 by decide)
                      have c33n := ti_ne c33 (show (4 : Int32).toInt = 4 by decide)
                      have c35n := ti_ne c35 (show (5 : Int32).toInt = 5 by decide)
                      have c37n := ti_ne c37 (show (6 : Int32).toInt = 6 by decide)
                      have c39n := ti_ne c39 (show (7 : Int32).toInt = 7 by decide)
                      have c41n := ti_ne c41 (show (8 : Int32).toInt = 8 by decide)
                      refine lv_tableOut (tgt := 153) C.1 C.2.1 dX6_child_14 (by omega) (by decide) ?_
                      refine lv_bipush (v := -2) C.1 C.2.1 dX6_child_153 (by decide) ?_
                      cases hf
                      exact x_iret C hr hlk w dX6_child_155
  · rw [if_pos c23] at hf
    refine lv_iconst (v := -1) C.1 C.2.1 dX6_child_11 (by decide) ?_
    cases hf
    exact x_iret C hr hlk w dX6_child_12

def qX6_minute (h : Hp) : Option (Int32 × Hp) :=
(bi1 (qX0_remember h) (fun h23 =>
(bi1 (qX2_passMinute (h23 22) (h23 23) (h23 0)) (fun P26 =>
(bd (su h23 0 P26) (fun h27 =>
(some (((h27 0) 30), h27))))))))
set_option maxHeartbeats 4000000 in
set_option maxRecDepth 100000 in
theorem c_X6_minute {l : Launch} {E : Ev} {ad : Nat → Nat} {g : Gp} {h : Hp} {r : Int32} {h9 : Hp} (hI : Inj ad) (hf : qX6_minute h = some (r, h9)) : CtI l yX6_minute cX6_minute 1 (some .int) 5 113 E ad g g [.ref (ad 126)] h h9 r := by
  refine x_begin (by decide) (Nat.le_of_ble_eq_true rfl) ?_
  intro p e s m below meth c ls C hr hlk X w hl
  replace hl : lv_has ls 1 [(0, .ref (ad 126))] := hl
  replace C : CallFix p m c cX6_minute 1 s ([.ref (ad 126)] : List Value).toArray lwA RX6 := C
  unfold qX6_minute at hf
  refine lv_aload_n C.1 C.2.1 dX6_minute_0 rfl (lv_at hl 0 rfl) ?_
  refine gf_X6_38 C X w rfl dX6_minute_1 ?_
  refine lv_aload_n C.1 C.2.1 dX6_minute_4 rfl (lv_at hl 0 rfl) ?_
  refine gf_X6_28 C X w rfl dX6_minute_5 ?_
  obtain ⟨h23, eq21, hf⟩ := bi1_e hf
  refine x_cVvN (As := [.ref (ad (7 * 0))]) (rest := []) C X w (c_X0_remember hI eq21) mw_X0_remember ml_X6_149 rcv_r24 rfl hl.1 rfl (Nat.le_of_ble_eq_true rfl) ⟨⟨Nat.le_of_ble_eq_true rfl, Nat.le_of_ble_eq_true rfl⟩, Nat.le_of_ble_eq_true rfl, Nat.le_of_ble_eq_true rfl⟩ dX6_minute_8 (fun H locs w => ?_)
  refine lv_aload_n C.1 C.2.1 dX6_minute_11 rfl (lv_at hl 0 rfl) ?_
  refine gf_X6_28 C X w rfl dX6_minute_12 ?_
  obtain ⟨P26, eq24, hf⟩ := bi1_e hf
  obtain ⟨h27, eh27, hf⟩ := bd_e hf
  refine x_cVvN (As := []) (rest := []) C X (at_su 0 w) (c_X2_passMinute hI (by decide) eq24) mw_X2_passMinute ml_X6_153 (rcv_P (b := 0) (su_same _ _ _) (by decide)) rfl hl.1 rfl (Nat.le_of_ble_eq_true rfl) ⟨⟨Nat.le_of_ble_eq_true rfl, Nat.le_of_ble_eq_true rfl⟩, Nat.le_of_ble_eq_true rfl, Nat.le_of_ble_eq_true rfl⟩ dX6_minute_15 (fun H locs w => ?_)
  replace w := at_eq eh27 w
  refine lv_aload_n C.1 C.2.1 dX6_minute_18 rfl (lv_at hl 0 rfl) ?_
  refine gf_X6_28 C X w rfl dX6_minute_19 ?_
  refine gf_X6_97 (b := 0) C X w rfl (by decide) dX6_minute_22 ?_
  cases hf
  exact x_iret C hr hlk w dX6_minute_25

def qX6_give (h : Hp) (x1 : Int32) (x2 : Int32) : Option (Int32 × Hp) :=
(bi1 (qX2_isThere (h 0) x1) (fun r22 =>
(if r22 = 0 then (some ((-1 : Int32), h))
else (bi1 (qX2_isThere (h 0) x2) (fun r25 =>
(if r25 = 0 then (some ((-1 : Int32), h))
else (if x1 = x2 then (some ((-2 : Int32), h))
else (bi1 (qX2_rides (h 0) x1) (fun r29 =>
(if r29 = 0 then (some ((-3 : Int32), h))
else (bi1 (qX2_rides (h 0) x2) (fun r32 =>
(if r32 = 0 then (bi1 (qX0_remember h) (fun h36 =>
(ck (inb x1 5) ((bi1 (qX2_getOff (h36 0) x1) (fun P40 =>
(bd (su h36 0 P40) (fun h41 =>
(bi1 (qX2_getOn (h41 0) x2) (fun P44 =>
(bd (su h41 0 P44) (fun h45 =>
(some (((h36 0) (5 + x1.toNatClampNeg)), h45))))))))))))))
else (some ((-3 : Int32), h)))))))))))))))
set_option maxHeartbeats 4000000 in
set_option maxRecDepth 100000 in
theorem c_X6_give {l : Launch} {E : Ev} {ad : Nat → Nat} {g : Gp} {h : Hp} {x1 : Int32} {x2 : Int32} {r : Int32} {h9 : Hp} (hI : Inj ad) (hf : qX6_give h x1 x2 = some (r, h9)) : CtI l yX6_give cX6_give 4 (some .int) 2 43 E ad g g [.ref (ad 126), .int x1, .int x2] h h9 r := by
  refine x_begin (by decide) (Nat.le_of_ble_eq_true rfl) ?_
  intro p e s m below meth c ls C hr hlk X w hl
  replace hl : lv_has ls 4 [(0, .ref (ad 126)), (1, .int x1), (2, .int x2)] := hl
  replace C : CallFix p m c cX6_give 4 s ([.ref (ad 126), .int x1, .int x2] : List Value).toArray lwA RX6 := C
  unfold qX6_give at hf
  refine lv_aload_n C.1 C.2.1 dX6_give_0 rfl (lv_at hl 0 rfl) ?_
  refine gf_X6_28 C X w rfl dX6_give_1 ?_
  refine lv_iload_n C.1 C.2.1 dX6_give_4 rfl (lv_at hl 1 rfl) ?_
  obtain ⟨r22, eq21, hf⟩ := bi1_e hf
  refine x_cViN (As := [.int x1]) (rest := []) C X (at_su 0 w) (c_X2_isThere hI (by decide) eq21) mw_X2_isThere ml_X6_117 (rcv_P (b := 0) (su_same _ _ _) (by decide)) rfl hl.1 rfl (Nat.le_of_ble_eq_true rfl) ⟨⟨Nat.le_of_ble_eq_true rfl, Nat.le_of_ble_eq_true rfl⟩, Nat.le_of_ble_eq_true rfl, Nat.le_of_ble_eq_true rfl⟩ dX6_give_5 (fun H locs w => ?_)
  replace w := at_us w
  refine lv_if_eq (tgt := 22) C.1 C.2.1 dX6_give_8 (by decide) (fun c23 => ?_) (fun c23 => ?_)
  · rw [if_pos c23] at hf
    refine lv_iconst (v := -1) C.1 C.2.1 dX6_give_22 (by decide) ?_
    cases hf
    exact x_iret C hr hlk w dX6_give_23
  · rw [if_neg c23] at hf
    refine lv_aload_n C.1 C.2.1 dX6_give_11 rfl (lv_at hl 0 rfl) ?_
    refine gf_X6_28 C X w rfl dX6_give_12 ?_
    refine lv_iload_n C.1 C.2.1 dX6_give_15 rfl (lv_at hl 2 rfl) ?_
    obtain ⟨r25, eq24, hf⟩ := bi1_e hf
    refine x_cViN (As := [.int x2]) (rest := []) C X (at_su 0 w) (c_X2_isThere hI (by decide) eq24) mw_X2_isThere ml_X6_117 (rcv_P (b := 0) (su_same _ _ _) (by decide)) rfl hl.1 rfl (Nat.le_of_ble_eq_true rfl) ⟨⟨Nat.le_of_ble_eq_true rfl, Nat.le_of_ble_eq_true rfl⟩, Nat.le_of_ble_eq_true rfl, Nat.le_of_ble_eq_true rfl⟩ dX6_give_16 (fun H locs w => ?_)
    replace w := at_us w
    refine lv_if_ne (tgt := 24) C.1 C.2.1 dX6_give_19 (by decide) (fun c26 => ?_) (fun c26 => ?_)
    · rw [if_neg c26] at hf
      refine lv_iload_n C.1 C.2.1 dX6_give_24 rfl (lv_at hl 1 rfl) ?_
      refine lv_iload_n C.1 C.2.1 dX6_give_25 rfl (lv_at hl 2 rfl) ?_
      refine lv_icmp_ne (tgt := 32) C.1 C.2.1 dX6_give_26 (by decide) (fun c27 => ?_) (fun c27 => ?_)
      · rw [if_neg c27] at hf
        refine lv_aload_n C.1 C.2.1 dX6_give_32 rfl (lv_at hl 0 rfl) ?_
        refine gf_X6_28 C X w rfl dX6_give_33 ?_
        refine lv_iload_n C.1 C.2.1 dX6_give_36 rfl (lv_at hl 1 rfl) ?_
        obtain ⟨r29, eq28, hf⟩ := bi1_e hf
        refine x_cViN (As := [.int x1]) (rest := []) C X (at_su 0 w) (c_X2_rides hI (by decide) eq28) mw_X2_rides ml_X6_156 (rcv_P (b := 0) (su_same _ _ _) (by decide)) rfl hl.1 rfl (Nat.le_of_ble_eq_true rfl) ⟨⟨Nat.le_of_ble_eq_true rfl, Nat.le_of_ble_eq_true rfl⟩, Nat.le_of_ble_eq_true rfl, Nat.le_of_ble_eq_true rfl⟩ dX6_give_37 (fun H locs w => ?_)
        replace w := at_us w
        refine lv_if_eq (tgt := 54) C.1 C.2.1 dX6_give_40 (by decide) (fun c30 => ?_) (fun c30 => ?_)
        · rw [if_pos c30] at hf
          refine lv_bipush (v := -3) C.1 C.2.1 dX6_give_54 (by decide) ?_
          cases hf
          exact x_iret C hr hlk w dX6_give_56
        · rw [if_neg c30] at hf
          refine lv_aload_n C.1 C.2.1 dX6_give_43 rfl (lv_at hl 0 rfl) ?_
          refine gf_X6_28 C X w rfl dX6_give_44 ?_
          refine lv_iload_n C.1 C.2.1 dX6_give_47 rfl (lv_at hl 2 rfl) ?_
          obtain ⟨r32, eq31, hf⟩ := bi1_e hf
          refine x_cViN (As := [.int x2]) (rest := []) C X (at_su 0 w) (c_X2_rides hI (by decide) eq31) mw_X2_rides ml_X6_156 (rcv_P (b := 0) (su_same _ _ _) (by decide)) rfl hl.1 rfl (Nat.le_of_ble_eq_true rfl) ⟨⟨Nat.le_of_ble_eq_true rfl, Nat.le_of_ble_eq_true rfl⟩, Nat.le_of_ble_eq_true rfl, Nat.le_of_ble_eq_true rfl⟩ dX6_give_48 (fun H locs w => ?_)
          replace w := at_us w
          refine lv_if_eq (tgt := 57) C.1 C.2.1 dX6_give_51 (by decide) (fun c33 => ?_) (fun c33 => ?_)
          · rw [if_pos c33] at hf
            refine lv_aload_n C.1 C.2.1 dX6_give_57 rfl (lv_at hl 0 rfl) ?_
            refine gf_X6_38 C X w rfl dX6_give_58 ?_
            refine lv_aload_n C.1 C.2.1 dX6_give_61 rfl (lv_at hl 0 rfl) ?_
            refine gf_X6_28 C X w rfl dX6_give_62 ?_
            obtain ⟨h36, eq34, hf⟩ := bi1_e hf
            refine x_cVvN (As := [.ref (ad (7 * 0))]) (rest := []) C X w (c_X0_remember hI eq34) mw_X0_remember ml_X6_149 rcv_r24 rfl hl.1 rfl (Nat.le_of_ble_eq_true rfl) ⟨⟨Nat.le_of_ble_eq_true rfl, Nat.le_of_ble_eq_true rfl⟩, Nat.le_of_ble_eq_true rfl, Nat.le_of_ble_eq_true rfl⟩ dX6_give_65 (fun H locs w => ?_)
            refine lv_aload_n C.1 C.2.1 dX6_give_68 rfl (lv_at hl 0 rfl) ?_
            refine gf_X6_28 C X w rfl dX6_give_69 ?_
            refine gf_X6_134 (b := 0) C X w rfl (by decide) dX6_give_72 ?_
            refine lv_iload_n C.1 C.2.1 dX6_give_75 rfl (lv_at hl 1 rfl) ?_
            obtain ⟨i37, hf⟩ := ck_e hf
            refine x_pld (b := 0) (k := 2) (o := 5) (j := x1.toNatClampNeg) C X w rfl (by decide) (by decide) (by decide) rfl i37 rfl dX6_give_76 ?_
            refine lv_istore_n (lv' := [(3, .int ((h36 0) (5 + x1.toNatClampNeg))), (0, .ref (ad 126)), (1, .int x1), (2, .int x2)]) C.1 C.2.1 dX6_give_77 rfl hl (by decide) rfl (fun ls hl => ?_)
            refine lv_aload_n C.1 C.2.1 dX6_give_78 rfl (lv_at hl 1 rfl) ?_
            refine gf_X6_28 C X w rfl dX6_give_79 ?_
            refine lv_iload_n C.1 C.2.1 dX6_give_82 rfl (lv_at hl 2 rfl) ?_
            obtain ⟨P40, eq38, hf⟩ := bi1_e hf
            obtain ⟨h41, eh41, hf⟩ := bd_e hf
            refine x_cVvN (As := [.int x1]) (rest := []) C X (at_su 0 w) (c_X2_getOff hI (by decide) eq38) mw_X2_getOff ml_X6_159 (rcv_P (b := 0) (su_same _ _ _) (by decide)) rfl hl.1 rfl (Nat.le_of_ble_eq_true rfl) ⟨⟨Nat.le_of_ble_eq_true rfl, Nat.le_of_ble_eq_true rfl⟩, Nat.le_of_ble_eq_true rfl, Nat.le_of_ble_eq_true rfl⟩ dX6_give_83 (fun H locs w => ?_)
            replace w := at_eq eh41 w
            refine lv_aload_n C.1 C.2.1 dX6_give_86 rfl (lv_at hl 1 rfl) ?_
            refine gf_X6_28 C X w rfl dX6_give_87 ?_
            refine lv_iload_n C.1 C.2.1 dX6_give_90 rfl (lv_at hl 3 rfl) ?_
            obtain ⟨P44, eq42, hf⟩ := bi1_e hf
            obtain ⟨h45, eh45, hf⟩ := bd_e hf
            refine x_cVvN (As := [.int x2]) (rest := []) C X (at_su 0 w) (c_X2_getOn hI (by decide) eq42) mw_X2_getOn ml_X6_162 (rcv_P (b := 0) (su_same _ _ _) (by decide)) rfl hl.1 rfl (Nat.le_of_ble_eq_true rfl) ⟨⟨Nat.le_of_ble_eq_true rfl, Nat.le_of_ble_eq_true rfl⟩, Nat.le_of_ble_eq_true rfl, Nat.le_of_ble_eq_true rfl⟩ dX6_give_91 (fun H locs w => ?_)
            replace w := at_eq eh45 w
            refine lv_iload_n C.1 C.2.1 dX6_give_94 rfl (lv_at hl 0 rfl) ?_
            cases hf
            exact x_iret C hr hlk w dX6_give_95
          · rw [if_neg c33] at hf
            refine lv_bipush (v := -3) C.1 C.2.1 dX6_give_54 (by decide) ?_
            cases hf
            exact x_iret C hr hlk w dX6_give_56
      · rw [if_pos c27] at hf
        refine lv_bipush (v := -2) C.1 C.2.1 dX6_give_29 (by decide) ?_
        cases hf
        exact x_iret C hr hlk w dX6_give_31
    · rw [if_pos c26] at hf
      refine lv_iconst (v := -1) C.1 C.2.1 dX6_give_22 (by decide) ?_
      cases hf
      exact x_iret C hr hlk w dX6_give_23

def qX6_push (h : Hp) (x1 : Int32) : Option (Int32 × Hp) :=
(bi1 (qX2_isThere (h 0) x1) (fun r22 =>
(if r22 = 0 then (some ((-1 : Int32), h))
else (bi1 (qX2_canBePushed (h 0) x1) (fun r25 =>
(if r25 = 0 then (some ((-3 : Int32), h))
else (bi1 (qX0_remember h) (fun h29 =>
(bi1 (qX2_pushOff (h29 0) x1) (fun P32 =>
(bd (su h29 0 P32) (fun h33 =>
(ck (inb x1 5) ((some (((h33 0) (25 + x1.toNatClampNeg)), h33))))))))))))))))
set_option maxHeartbeats 4000000 in
set_option maxRecDepth 100000 in
theorem c_X6_push {l : Launch} {E : Ev} {ad : Nat → Nat} {g : Gp} {h : Hp} {x1 : Int32} {r : Int32} {h9 : Hp} (hI : Inj ad) (hf : qX6_push h x1 = some (r, h9)) : CtI l yX6_push cX6_push 2 (some .int) 3 63 E ad g g [.ref (ad 126), .int x1] h h9 r := by
  refine x_begin (by decide) (Nat.le_of_ble_eq_true rfl) ?_
  intro p e s m below meth c ls C hr hlk X w hl
  replace hl : lv_has ls 2 [(0, .ref (ad 126)), (1, .int x1)] := hl
  replace C : CallFix p m c cX6_push 2 s ([.ref (ad 126), .int x1] : List Value).toArray lwA RX6 := C
  unfold qX6_push at hf
  refine lv_aload_n C.1 C.2.1 dX6_push_0 rfl (lv_at hl 0 rfl) ?_
  refine gf_X6_28 C X w rfl dX6_push_1 ?_
  refine lv_iload_n C.1 C.2.1 dX6_push_4 rfl (lv_at hl 1 rfl) ?_
  obtain ⟨r22, eq21, hf⟩ := bi1_e hf
  refine x_cViN (As := [.int x1]) (rest := []) C X (at_su 0 w) (c_X2_isThere hI (by decide) eq21) mw_X2_isThere ml_X6_117 (rcv_P (b := 0) (su_same _ _ _) (by decide)) rfl hl.1 rfl (Nat.le_of_ble_eq_true rfl) ⟨⟨Nat.le_of_ble_eq_true rfl, Nat.le_of_ble_eq_true rfl⟩, Nat.le_of_ble_eq_true rfl, Nat.le_of_ble_eq_true rfl⟩ dX6_push_5 (fun H locs w => ?_)
  replace w := at_us w
  refine lv_if_ne (tgt := 13) C.1 C.2.1 dX6_push_8 (by decide) (fun c23 => ?_) (fun c23 => ?_)
  · rw [if_neg c23] at hf
    refine lv_aload_n C.1 C.2.1 dX6_push_13 rfl (lv_at hl 0 rfl) ?_
    refine gf_X6_28 C X w rfl dX6_push_14 ?_
    refine lv_iload_n C.1 C.2.1 dX6_push_17 rfl (lv_at hl 1 rfl) ?_
    obtain ⟨r25, eq24, hf⟩ := bi1_e hf
    refine x_cViN (As := [.int x1]) (rest := []) C X (at_su 0 w) (c_X2_canBePushed hI (by decide) eq24) mw_X2_canBePushed ml_X6_165 (rcv_P (b := 0) (su_same _ _ _) (by decide)) rfl hl.1 rfl (Nat.le_of_ble_eq_true rfl) ⟨⟨Nat.le_of_ble_eq_true rfl, Nat.le_of_ble_eq_true rfl⟩, Nat.le_of_ble_eq_true rfl, Nat.le_of_ble_eq_true rfl⟩ dX6_push_18 (fun H locs w => ?_)
    replace w := at_us w
    refine lv_if_ne (tgt := 27) C.1 C.2.1 dX6_push_21 (by decide) (fun c26 => ?_) (fun c26 => ?_)
    · rw [if_neg c26] at hf
      refine lv_aload_n C.1 C.2.1 dX6_push_27 rfl (lv_at hl 0 rfl) ?_
      refine gf_X6_38 C X w rfl dX6_push_28 ?_
      refine lv_aload_n C.1 C.2.1 dX6_push_31 rfl (lv_at hl 0 rfl) ?_
      refine gf_X6_28 C X w rfl dX6_push_32 ?_
      obtain ⟨h29, eq27, hf⟩ := bi1_e hf
      refine x_cVvN (As := [.ref (ad (7 * 0))]) (rest := []) C X w (c_X0_remember hI eq27) mw_X0_remember ml_X6_149 rcv_r24 rfl hl.1 rfl (Nat.le_of_ble_eq_true rfl) ⟨⟨Nat.le_of_ble_eq_true rfl, Nat.le_of_ble_eq_true rfl⟩, Nat.le_of_ble_eq_true rfl, Nat.le_of_ble_eq_true rfl⟩ dX6_push_35 (fun H locs w => ?_)
      refine lv_aload_n C.1 C.2.1 dX6_push_38 rfl (lv_at hl 0 rfl) ?_
      refine gf_X6_28 C X w rfl dX6_push_39 ?_
      refine lv_iload_n C.1 C.2.1 dX6_push_42 rfl (lv_at hl 1 rfl) ?_
      obtain ⟨P32, eq30, hf⟩ := bi1_e hf
      obtain ⟨h33, eh33, hf⟩ := bd_e hf
      refine x_cVvN (As := [.int x1]) (rest := []) C X (at_su 0 w) (c_X2_pushOff hI (by decide) eq30) mw_X2_pushOff ml_X6_168 (rcv_P (b := 0) (su_same _ _ _) (by decide)) rfl hl.1 rfl (Nat.le_of_ble_eq_true rfl) ⟨⟨Nat.le_of_ble_eq_true rfl, Nat.le_of_ble_eq_true rfl⟩, Nat.le_of_ble_eq_true rfl, Nat.le_of_ble_eq_true rfl⟩ dX6_push_43 (fun H locs w => ?_)
      replace w := at_eq eh33 w
      refine lv_aload_n C.1 C.2.1 dX6_push_46 rfl (lv_at hl 0 rfl) ?_
      refine gf_X6_28 C X w rfl dX6_push_47 ?_
      refine gf_X6_146 (b := 0) C X w rfl (by decide) dX6_push_50 ?_
      refine lv_iload_n C.1 C.2.1 dX6_push_53 rfl (lv_at hl 1 rfl) ?_
      obtain ⟨i34, hf⟩ := ck_e hf
      refine x_pld (b := 0) (k := 6) (o := 25) (j := x1.toNatClampNeg) C X w rfl (by decide) (by decide) (by decide) rfl i34 rfl dX6_push_54 ?_
      cases hf
      exact x_iret C hr hlk w dX6_push_55
    · rw [if_pos c26] at hf
      refine lv_bipush (v := -3) C.1 C.2.1 dX6_push_24 (by decide) ?_
      cases hf
      exact x_iret C hr hlk w dX6_push_26
  · rw [if_pos c23] at hf
    refine lv_iconst (v := -1) C.1 C.2.1 dX6_push_11 (by decide) ?_
    cases hf
    exact x_iret C hr hlk w dX6_push_12

def qX6_call (h : Hp) (x1 : Int32) : Option (Int32 × Hp) :=
(bi1 (qX2_isThere (h 0) x1) (fun r22 =>
(if r22 = 0 then (some ((-1 : Int32), h))
else (bi1 (qX2_canBeCalled (h 0) x1) (fun r25 =>
(if r25 = 0 then (some ((-3 : Int32), h))
else (bi1 (qX0_remember h) (fun h29 =>
(ck (inb x1 5) ((bi1 (qX2_callAway (h29 0) x1) (fun P33 =>
(bd (su h29 0 P33) (fun h34 =>
(some (((h29 0) (0 + x1.toNatClampNeg)), h34))))))))))))))))
set_option maxHeartbeats 4000000 in
set_option maxRecDepth 100000 in
theorem c_X6_call {l : Launch} {E : Ev} {ad : Nat → Nat} {g : Gp} {h : Hp} {x1 : Int32} {r : Int32} {h9 : Hp} (hI : Inj ad) (hf : qX6_call h x1 = some (r, h9)) : CtI l yX6_call cX6_call 3 (some .int) 3 63 E ad g g [.ref (ad 126), .int x1] h h9 r := by
  refine x_begin (by decide) (Nat.le_of_ble_eq_true rfl) ?_
  intro p e s m below meth c ls C hr hlk X w hl
  replace hl : lv_has ls 3 [(0, .ref (ad 126)), (1, .int x1)] := hl
  replace C : CallFix p m c cX6_call 3 s ([.ref (ad 126), .int x1] : List Value).toArray lwA RX6 := C
  unfold qX6_call at hf
  refine lv_aload_n C.1 C.2.1 dX6_call_0 rfl (lv_at hl 0 rfl) ?_
  refine gf_X6_28 C X w rfl dX6_call_1 ?_
  refine lv_iload_n C.1 C.2.1 dX6_call_4 rfl (lv_at hl 1 rfl) ?_
  obtain ⟨r22, eq21, hf⟩ := bi1_e hf
  refine x_cViN (As := [.int x1]) (rest := []) C X (at_su 0 w) (c_X2_isThere hI (by decide) eq21) mw_X2_isThere ml_X6_117 (rcv_P (b := 0) (su_same _ _ _) (by decide)) rfl hl.1 rfl (Nat.le_of_ble_eq_true rfl) ⟨⟨Nat.le_of_ble_eq_true rfl, Nat.le_of_ble_eq_true rfl⟩, Nat.le_of_ble_eq_true rfl, Nat.le_of_ble_eq_true rfl⟩ dX6_call_5 (fun H locs w => ?_)
  replace w := at_us w
  refine lv_if_ne (tgt := 13) C.1 C.2.1 dX6_call_8 (by decide) (fun c23 => ?_) (fun c23 => ?_)
  · rw [if_neg c23] at hf
    refine lv_aload_n C.1 C.2.1 dX6_call_13 rfl (lv_at hl 0 rfl) ?_
    refine gf_X6_28 C X w rfl dX6_call_14 ?_
    refine lv_iload_n C.1 C.2.1 dX6_call_17 rfl (lv_at hl 1 rfl) ?_
    obtain ⟨r25, eq24, hf⟩ := bi1_e hf
    refine x_cViN (As := [.int x1]) (rest := []) C X (at_su 0 w) (c_X2_canBeCalled hI (by decide) eq24) mw_X2_canBeCalled ml_X6_171 (rcv_P (b := 0) (su_same _ _ _) (by decide)) rfl hl.1 rfl (Nat.le_of_ble_eq_true rfl) ⟨⟨Nat.le_of_ble_eq_true rfl, Nat.le_of_ble_eq_true rfl⟩, Nat.le_of_ble_eq_true rfl, Nat.le_of_ble_eq_true rfl⟩ dX6_call_18 (fun H locs w => ?_)
    replace w := at_us w
    refine lv_if_ne (tgt := 27) C.1 C.2.1 dX6_call_21 (by decide) (fun c26 => ?_) (fun c26 => ?_)
    · rw [if_neg c26] at hf
      refine lv_aload_n C.1 C.2.1 dX6_call_27 rfl (lv_at hl 0 rfl) ?_
      refine gf_X6_38 C X w rfl dX6_call_28 ?_
      refine lv_aload_n C.1 C.2.1 dX6_call_31 rfl (lv_at hl 0 rfl) ?_
      refine gf_X6_28 C X w rfl dX6_call_32 ?_
      obtain ⟨h29, eq27, hf⟩ := bi1_e hf
      refine x_cVvN (As := [.ref (ad (7 * 0))]) (rest := []) C X w (c_X0_remember hI eq27) mw_X0_remember ml_X6_149 rcv_r24 rfl hl.1 rfl (Nat.le_of_ble_eq_true rfl) ⟨⟨Nat.le_of_ble_eq_true rfl, Nat.le_of_ble_eq_true rfl⟩, Nat.le_of_ble_eq_true rfl, Nat.le_of_ble_eq_true rfl⟩ dX6_call_35 (fun H locs w => ?_)
      refine lv_aload_n C.1 C.2.1 dX6_call_38 rfl (lv_at hl 0 rfl) ?_
      refine gf_X6_28 C X w rfl dX6_call_39 ?_
      refine gf_X6_121 (b := 0) C X w rfl (by decide) dX6_call_42 ?_
      refine lv_iload_n C.1 C.2.1 dX6_call_45 rfl (lv_at hl 1 rfl) ?_
      obtain ⟨i30, hf⟩ := ck_e hf
      refine x_pld (b := 0) (k := 1) (o := 0) (j := x1.toNatClampNeg) C X w rfl (by decide) (by decide) (by decide) rfl i30 rfl dX6_call_46 ?_
      refine lv_istore_n (lv' := [(2, .int ((h29 0) (0 + x1.toNatClampNeg))), (0, .ref (ad 126)), (1, .int x1)]) C.1 C.2.1 dX6_call_47 rfl hl (by decide) rfl (fun ls hl => ?_)
      refine lv_aload_n C.1 C.2.1 dX6_call_48 rfl (lv_at hl 1 rfl) ?_
      refine gf_X6_28 C X w rfl dX6_call_49 ?_
      refine lv_iload_n C.1 C.2.1 dX6_call_52 rfl (lv_at hl 2 rfl) ?_
      obtain ⟨P33, eq31, hf⟩ := bi1_e hf
      obtain ⟨h34, eh34, hf⟩ := bd_e hf
      refine x_cVvN (As := [.int x1]) (rest := []) C X (at_su 0 w) (c_X2_callAway hI (by decide) eq31) mw_X2_callAway ml_X6_174 (rcv_P (b := 0) (su_same _ _ _) (by decide)) rfl hl.1 rfl (Nat.le_of_ble_eq_true rfl) ⟨⟨Nat.le_of_ble_eq_true rfl, Nat.le_of_ble_eq_true rfl⟩, Nat.le_of_ble_eq_true rfl, Nat.le_of_ble_eq_true rfl⟩ dX6_call_53 (fun H locs w => ?_)
      replace w := at_eq eh34 w
      refine lv_iload_n C.1 C.2.1 dX6_call_56 rfl (lv_at hl 0 rfl) ?_
      cases hf
      exact x_iret C hr hlk w dX6_call_57
    · rw [if_pos c26] at hf
      refine lv_bipush (v := -3) C.1 C.2.1 dX6_call_24 (by decide) ?_
      cases hf
      exact x_iret C hr hlk w dX6_call_26
  · rw [if_pos c23] at hf
    refine lv_iconst (v := -1) C.1 C.2.1 dX6_call_11 (by decide) ?_
    cases hf
    exact x_iret C hr hlk w dX6_call_12

def qX6_rule_42 (h : Hp) (v1 : Int32) (v2 : Int32) : Option (Int32 × Hp) :=
(bi1 (qX0_remember h) (fun h31 =>
(bi1 (qX2_setRule (h31 0) v1 v2) (fun P34 =>
(bd (su h31 0 P34) (fun h35 =>
(some (((h31 0) 32), h35))))))))
set_option maxHeartbeats 4000000 in
set_option maxRecDepth 100000 in
theorem w_X6_rule_42 {p : Program} {l : Launch} {e : Env} {s : State} {m : MethodId} {args : Array Value} {below : List Frame} {meth : Method} {c : Code} {E : Ev} {ad : Nat → Nat} {g : Gp} {r : Int32} {h9 : Hp} (C : CallFix p m c cX6_rule 4 s args lwA RX6) (hr : meth.sig.returnType = (some .int)) (hlk : meth.locks = false) (X : Sx E ad s) (hI : Inj ad)  : ∀ (h : Hp) (v1 : Int32) (v2 : Int32) (H : Heap) (locs : List Loc) (ls : Array Slot), At E ad h g s H locs → lv_has ls 4 [(0, .ref (ad 126)), (1, .int v1), (2, .int v2)] → qX6_rule_42 h v1 v2 = some (r, h9) → W p l e (RM 2 43) s m args below meth c H locs 0 0 (QI E ad h9 g r below args s) (F0 m 42 ls []) := by
  intro h v1 v2 H locs ls w hl hf
  unfold qX6_rule_42 at hf
  refine lv_aload_n C.1 C.2.1 dX6_rule_42 rfl (lv_at hl 0 rfl) ?_
  refine gf_X6_38 C X w rfl dX6_rule_43 ?_
  refine lv_aload_n C.1 C.2.1 dX6_rule_46 rfl (lv_at hl 0 rfl) ?_
  refine gf_X6_28 C X w rfl dX6_rule_47 ?_
  obtain ⟨h31, eq29, hf⟩ := bi1_e hf
  refine x_cVvN (As := [.ref (ad (7 * 0))]) (rest := []) C X w (c_X0_remember hI eq29) mw_X0_remember ml_X6_149 rcv_r24 rfl hl.1 rfl (Nat.le_of_ble_eq_true rfl) ⟨⟨Nat.le_of_ble_eq_true rfl, Nat.le_of_ble_eq_true rfl⟩, Nat.le_of_ble_eq_true rfl, Nat.le_of_ble_eq_true rfl⟩ dX6_rule_50 (fun H locs w => ?_)
  refine lv_aload_n C.1 C.2.1 dX6_rule_53 rfl (lv_at hl 0 rfl) ?_
  refine gf_X6_28 C X w rfl dX6_rule_54 ?_
  refine gf_X6_90 (b := 0) C X w rfl (by decide) dX6_rule_57 ?_
  refine lv_istore_n (lv' := [(3, .int ((h31 0) 32)), (0, .ref (ad 126)), (1, .int v1), (2, .int v2)]) C.1 C.2.1 dX6_rule_60 rfl hl (by decide) rfl (fun ls hl => ?_)
  refine lv_aload_n C.1 C.2.1 dX6_rule_61 rfl (lv_at hl 1 rfl) ?_
  refine gf_X6_28 C X w rfl dX6_rule_62 ?_
  refine lv_iload_n C.1 C.2.1 dX6_rule_65 rfl (lv_at hl 2 rfl) ?_
  refine lv_iload_n C.1 C.2.1 dX6_rule_66 rfl (lv_at hl 3 rfl) ?_
  obtain ⟨P34, eq32, hf⟩ := bi1_e hf
  obtain ⟨h35, eh35, hf⟩ := bd_e hf
  refine x_cVvN (As := [.int v1, .int v2]) (rest := []) C X (at_su 0 w) (c_X2_setRule hI (by decide) eq32) mw_X2_setRule ml_X6_183 (rcv_P (b := 0) (su_same _ _ _) (by decide)) rfl hl.1 rfl (Nat.le_of_ble_eq_true rfl) ⟨⟨Nat.le_of_ble_eq_true rfl, Nat.le_of_ble_eq_true rfl⟩, Nat.le_of_ble_eq_true rfl, Nat.le_of_ble_eq_true rfl⟩ dX6_rule_67 (fun H locs w => ?_)
  replace w := at_eq eh35 w
  refine lv_iload_n C.1 C.2.1 dX6_rule_70 rfl (lv_at hl 0 rfl) ?_
  cases hf
  exact x_iret C hr hlk w dX6_rule_71
def qX6_rule (h : Hp) (x1 : Int32) (x2 : Int32) : Option (Int32 × Hp) :=
(bi1 (qX6_isRule x1) (fun r22 =>
(if r22 = 0 then (some ((-2 : Int32), h))
else (bi1 (qX6_isLength x2) (fun r25 =>
(if r25 = 0 then (some ((-2 : Int32), h))
else (if x1 = ((h 0) 32) then (if x2 = ((h 0) 33) then (some ((-3 : Int32), h))
else (qX6_rule_42 h x1 x2))
else (qX6_rule_42 h x1 x2))))))))
set_option maxHeartbeats 4000000 in
set_option maxRecDepth 100000 in
theorem c_X6_rule {l : Launch} {E : Ev} {ad : Nat → Nat} {g : Gp} {h : Hp} {x1 : Int32} {x2 : Int32} {r : Int32} {h9 : Hp} (hI : Inj ad) (hf : qX6_rule h x1 x2 = some (r, h9)) : CtI l yX6_rule cX6_rule 4 (some .int) 2 43 E ad g g [.ref (ad 126), .int x1, .int x2] h h9 r := by
  refine x_begin (by decide) (Nat.le_of_ble_eq_true rfl) ?_
  intro p e s m below meth c ls C hr hlk X w hl
  replace hl : lv_has ls 4 [(0, .ref (ad 126)), (1, .int x1), (2, .int x2)] := hl
  replace C : CallFix p m c cX6_rule 4 s ([.ref (ad 126), .int x1, .int x2] : List Value).toArray lwA RX6 := C
  unfold qX6_rule at hf
  refine lv_iload_n C.1 C.2.1 dX6_rule_0 rfl (lv_at hl 1 rfl) ?_
  obtain ⟨r22, eq21, hf⟩ := bi1_e hf
  refine x_cSi (As := [.int x1]) (rest := []) C X w (c_X6_isRule hI  eq21) mw_X6_isRule ml_X6_177 rfl hl.1 rfl (Nat.le_of_ble_eq_true rfl) ⟨⟨Nat.le_of_ble_eq_true rfl, Nat.le_of_ble_eq_true rfl⟩, Nat.le_of_ble_eq_true rfl, Nat.le_of_ble_eq_true rfl⟩ dX6_rule_1 (fun H locs w => ?_)
  refine lv_if_eq (tgt := 14) C.1 C.2.1 dX6_rule_4 (by decide) (fun c23 => ?_) (fun c23 => ?_)
  · rw [if_pos c23] at hf
    refine lv_bipush (v := -2) C.1 C.2.1 dX6_rule_14 (by decide) ?_
    cases hf
    exact x_iret C hr hlk w dX6_rule_16
  · rw [if_neg c23] at hf
    refine lv_iload_n C.1 C.2.1 dX6_rule_7 rfl (lv_at hl 2 rfl) ?_
    obtain ⟨r25, eq24, hf⟩ := bi1_e hf
    refine x_cSi (As := [.int x2]) (rest := []) C X w (c_X6_isLength hI  eq24) mw_X6_isLength ml_X6_180 rfl hl.1 rfl (Nat.le_of_ble_eq_true rfl) ⟨⟨Nat.le_of_ble_eq_true rfl, Nat.le_of_ble_eq_true rfl⟩, Nat.le_of_ble_eq_true rfl, Nat.le_of_ble_eq_true rfl⟩ dX6_rule_8 (fun H locs w => ?_)
    refine lv_if_ne (tgt := 17) C.1 C.2.1 dX6_rule_11 (by decide) (fun c26 => ?_) (fun c26 => ?_)
    · rw [if_neg c26] at hf
      refine lv_iload_n C.1 C.2.1 dX6_rule_17 rfl (lv_at hl 1 rfl) ?_
      refine lv_aload_n C.1 C.2.1 dX6_rule_18 rfl (lv_at hl 0 rfl) ?_
      refine gf_X6_28 C X w rfl dX6_rule_19 ?_
      refine gf_X6_90 (b := 0) C X w rfl (by decide) dX6_rule_22 ?_
      refine lv_icmp_ne (tgt := 42) C.1 C.2.1 dX6_rule_25 (by decide) (fun c27 => ?_) (fun c27 => ?_)
      · rw [if_neg c27] at hf
        exact w_X6_rule_42 C hr hlk X hI _ _ _ _ _ _ w (lv_sub hl [0, 1, 2] rfl) hf
      · rw [if_pos c27] at hf
        refine lv_iload_n C.1 C.2.1 dX6_rule_28 rfl (lv_at hl 2 rfl) ?_
        refine lv_aload_n C.1 C.2.1 dX6_rule_29 rfl (lv_at hl 0 rfl) ?_
        refine gf_X6_28 C X w rfl dX6_rule_30 ?_
        refine gf_X6_93 (b := 0) C X w rfl (by decide) dX6_rule_33 ?_
        refine lv_icmp_ne (tgt := 42) C.1 C.2.1 dX6_rule_36 (by decide) (fun c28 => ?_) (fun c28 => ?_)
        · rw [if_neg c28] at hf
          exact w_X6_rule_42 C hr hlk X hI _ _ _ _ _ _ w (lv_sub hl [0, 1, 2] rfl) hf
        · rw [if_pos c28] at hf
          refine lv_bipush (v := -3) C.1 C.2.1 dX6_rule_39 (by decide) ?_
          cases hf
          exact x_iret C hr hlk w dX6_rule_41
    · rw [if_pos c26] at hf
      refine lv_bipush (v := -2) C.1 C.2.1 dX6_rule_14 (by decide) ?_
      cases hf
      exact x_iret C hr hlk w dX6_rule_16

def qX6_put (h : Hp) : Option (Int32 × Hp) :=
(bi1 (qX0_remember h) (fun h23 =>
(bi1 (qX2_putOrTakeAway (h23 0)) (fun P26 =>
(bd (su h23 0 P26) (fun h27 =>
(some (((h27 0) 34), h27))))))))
set_option maxHeartbeats 4000000 in
set_option maxRecDepth 100000 in
theorem c_X6_put {l : Launch} {E : Ev} {ad : Nat → Nat} {g : Gp} {h : Hp} {r : Int32} {h9 : Hp} (hI : Inj ad) (hf : qX6_put h = some (r, h9)) : CtI l yX6_put cX6_put 1 (some .int) 4 85 E ad g g [.ref (ad 126)] h h9 r := by
  refine x_begin (by decide) (Nat.le_of_ble_eq_true rfl) ?_
  intro p e s m below meth c ls C hr hlk X w hl
  replace hl : lv_has ls 1 [(0, .ref (ad 126))] := hl
  replace C : CallFix p m c cX6_put 1 s ([.ref (ad 126)] : List Value).toArray lwA RX6 := C
  unfold qX6_put at hf
  refine lv_aload_n C.1 C.2.1 dX6_put_0 rfl (lv_at hl 0 rfl) ?_
  refine gf_X6_38 C X w rfl dX6_put_1 ?_
  refine lv_aload_n C.1 C.2.1 dX6_put_4 rfl (lv_at hl 0 rfl) ?_
  refine gf_X6_28 C X w rfl dX6_put_5 ?_
  obtain ⟨h23, eq21, hf⟩ := bi1_e hf
  refine x_cVvN (As := [.ref (ad (7 * 0))]) (rest := []) C X w (c_X0_remember hI eq21) mw_X0_remember ml_X6_149 rcv_r24 rfl hl.1 rfl (Nat.le_of_ble_eq_true rfl) ⟨⟨Nat.le_of_ble_eq_true rfl, Nat.le_of_ble_eq_true rfl⟩, Nat.le_of_ble_eq_true rfl, Nat.le_of_ble_eq_true rfl⟩ dX6_put_8 (fun H locs w => ?_)
  refine lv_aload_n C.1 C.2.1 dX6_put_11 rfl (lv_at hl 0 rfl) ?_
  refine gf_X6_28 C X w rfl dX6_put_12 ?_
  obtain ⟨P26, eq24, hf⟩ := bi1_e hf
  obtain ⟨h27, eh27, hf⟩ := bd_e hf
  refine x_cVvN (As := []) (rest := []) C X (at_su 0 w) (c_X2_putOrTakeAway hI (by decide) eq24) mw_X2_putOrTakeAway ml_X6_187 (rcv_P (b := 0) (su_same _ _ _) (by decide)) rfl hl.1 rfl (Nat.le_of_ble_eq_true rfl) ⟨⟨Nat.le_of_ble_eq_true rfl, Nat.le_of_ble_eq_true rfl⟩, Nat.le_of_ble_eq_true rfl, Nat.le_of_ble_eq_true rfl⟩ dX6_put_15 (fun H locs w => ?_)
  replace w := at_eq eh27 w
  refine lv_aload_n C.1 C.2.1 dX6_put_18 rfl (lv_at hl 0 rfl) ?_
  refine gf_X6_28 C X w rfl dX6_put_19 ?_
  refine gf_X6_94 (b := 0) C X w rfl (by decide) dX6_put_22 ?_
  cases hf
  exact x_iret C hr hlk w dX6_put_25

def qX6_undo (h : Hp) : Option (Int32 × Hp) :=
(if ((h 24) 1) = 0 then (some ((-3 : Int32), h))
else (bi1 (qX0_takeBack h) (fun h24 =>
(some (((h24 24) 1), h24)))))
set_option maxHeartbeats 4000000 in
set_option maxRecDepth 100000 in
theorem c_X6_undo {l : Launch} {E : Ev} {ad : Nat → Nat} {g : Gp} {h : Hp} {r : Int32} {h9 : Hp} (hI : Inj ad) (hf : qX6_undo h = some (r, h9)) : CtI l yX6_undo cX6_undo 1 (some .int) 2 43 E ad g g [.ref (ad 126)] h h9 r := by
  refine x_begin (by decide) (Nat.le_of_ble_eq_true rfl) ?_
  intro p e s m below meth c ls C hr hlk X w hl
  replace hl : lv_has ls 1 [(0, .ref (ad 126))] := hl
  replace C : CallFix p m c cX6_undo 1 s ([.ref (ad 126)] : List Value).toArray lwA RX6 := C
  unfold qX6_undo at hf
  refine lv_aload_n C.1 C.2.1 dX6_undo_0 rfl (lv_at hl 0 rfl) ?_
  refine gf_X6_38 C X w rfl dX6_undo_1 ?_
  refine gf_X6_115 C X w (rfl) dX6_undo_4 ?_
  refine lv_if_ne (tgt := 13) C.1 C.2.1 dX6_undo_7 (by decide) (fun c21 => ?_) (fun c21 => ?_)
  · rw [if_neg c21] at hf
    refine lv_aload_n C.1 C.2.1 dX6_undo_13 rfl (lv_at hl 0 rfl) ?_
    refine gf_X6_38 C X w rfl dX6_undo_14 ?_
    refine lv_aload_n C.1 C.2.1 dX6_undo_17 rfl (lv_at hl 0 rfl) ?_
    refine gf_X6_28 C X w rfl dX6_undo_18 ?_
    obtain ⟨h24, eq22, hf⟩ := bi1_e hf
    refine x_cVvN (As := [.ref (ad (7 * 0))]) (rest := []) C X w (c_X0_takeBack hI eq22) mw_X0_takeBack ml_X6_190 rcv_r24 rfl hl.1 rfl (Nat.le_of_ble_eq_true rfl) ⟨⟨Nat.le_of_ble_eq_true rfl, Nat.le_of_ble_eq_true rfl⟩, Nat.le_of_ble_eq_true rfl, Nat.le_of_ble_eq_true rfl⟩ dX6_undo_21 (fun H locs w => ?_)
    refine lv_aload_n C.1 C.2.1 dX6_undo_24 rfl (lv_at hl 0 rfl) ?_
    refine gf_X6_38 C X w rfl dX6_undo_25 ?_
    refine gf_X6_115 C X w (rfl) dX6_undo_28 ?_
    cases hf
    exact x_iret C hr hlk w dX6_undo_31
  · rw [if_pos c21] at hf
    refine lv_bipush (v := -3) C.1 C.2.1 dX6_undo_10 (by decide) ?_
    cases hf
    exact x_iret C hr hlk w dX6_undo_12

def qX6_look_31 : Nat → Hp → Int32 → Int32 → Option (Hp)
  | 0, _, _, _ => none
  | n + 1, h, v4, v5 =>
    (if v4 ≤ v5 then (some h)
    else (bi1 (qX2_passMinute (h 22) (h 23) (h 1)) (fun P33 =>
    (bd (su h 1 P33) (fun h34 =>
    (qX6_look_31 n h34 v4 (v5 + 1)))))))
set_option maxHeartbeats 4000000 in
set_option maxRecDepth 100000 in
theorem w_X6_look_31 {p : Program} {l : Launch} {e : Env} {s : State} {m : MethodId} {args : Array Value} {below : List Frame} {meth : Method} {c : Code} {E : Ev} {ad : Nat → Nat} {g : Gp} {h9 : Hp} (C : CallFix p m c cX6_look 6 s args lwA RX6) (hr : meth.sig.returnType = none) (hlk : meth.locks = false) (X : Sx E ad s) (hI : Inj ad)  : ∀ (n : Nat), ∀ (h : Hp) (v4 : Int32) (v5 : Int32) (H : Heap) (locs : List Loc) (ls : Array Slot), At E ad h g s H locs → lv_has ls 6 [(0, .ref (ad 126)), (4, .int v4), (5, .int v5)] → qX6_look_31 n h v4 v5 = some h9 → W p l e (RM 5 113) s m args below meth c H locs 0 0 (QV E ad h9 g below args s) (F0 m 31 ls []) := by
  intro n
  induction n with
  | zero =>
    intro h v4 v5 H locs ls w hl hf
    cases hf
  | succ n ih =>
    intro h v4 v5 H locs ls w hl hf
    rw [qX6_look_31] at hf
    refine lv_iload C.1 C.2.1 dX6_look_31 (lv_at hl 2 rfl) ?_
    refine lv_iload C.1 C.2.1 dX6_look_33 (lv_at hl 1 rfl) ?_
    refine lv_icmp_ge (tgt := 51) C.1 C.2.1 dX6_look_35 (by decide) (fun c30 => ?_) (fun c30 => ?_)
    · rw [if_pos c30] at hf
      cases hf
      exact x_vret C hr hlk w dX6_look_51
    · rw [if_neg c30] at hf
      refine lv_aload_n C.1 C.2.1 dX6_look_38 rfl (lv_at hl 0 rfl) ?_
      refine gf_X6_32 C X w rfl dX6_look_39 ?_
      obtain ⟨P33, eq31, hf⟩ := bi1_e hf
      obtain ⟨h34, eh34, hf⟩ := bd_e hf
      refine x_cVvN (As := []) (rest := []) C X (at_su 1 w) (c_X2_passMinute hI (by decide) eq31) mw_X2_passMinute ml_X6_153 (rcv_P (b := 1) (su_same _ _ _) (by decide)) rfl hl.1 rfl (Nat.le_of_ble_eq_true rfl) ⟨⟨Nat.le_of_ble_eq_true rfl, Nat.le_of_ble_eq_true rfl⟩, Nat.le_of_ble_eq_true rfl, Nat.le_of_ble_eq_true rfl⟩ dX6_look_42 (fun H locs w => ?_)
      replace w := at_eq eh34 w
      refine lv_iinc (v := (v5 + 1)) (lv' := [(5, .int (v5 + 1)), (0, .ref (ad 126)), (4, .int v4)]) C.1 C.2.1 dX6_look_45 hl (k := 2) rfl (congrArg (fun z => v5 + z) (by decide)) (by decide) rfl (fun ls hl => ?_)
      refine lv_goto (tgt := 31) C.1 C.2.1 dX6_look_48 (by decide) ?_
      exact ih _ _ _ _ _ _ w (lv_sub hl [1, 2, 0] rfl) hf
def qX6_look (h : Hp) (x1 : Int32) (x2 : Int32) (x3 : Int32) (x4 : Int32) : Option (Hp) :=
(bi1 (qX2_copyFrom (h 0) (h 1)) (fun P23 =>
(bd (su h 1 P23) (fun h24 =>
(bi1 (qX2_setRule (h24 1) x1 x2) (fun P27 =>
(bd (su h24 1 P27) (fun h28 =>
(bd (su h28 1 (upd (h28 1) 34 x3)) (fun h29 =>
(qX6_look_31 600 h29 x4 (0 : Int32))))))))))))
set_option maxHeartbeats 4000000 in
set_option maxRecDepth 100000 in
theorem c_X6_look {l : Launch} {E : Ev} {ad : Nat → Nat} {g : Gp} {h : Hp} {x1 : Int32} {x2 : Int32} {x3 : Int32} {x4 : Int32} {h9 : Hp} (hI : Inj ad) (hf : qX6_look h x1 x2 x3 x4 = some h9) : CtV l yX6_look cX6_look 6 none 5 113 E ad g g [.ref (ad 126), .int x1, .int x2, .int x3, .int x4] h h9 := by
  refine x_begin (by decide) (Nat.le_of_ble_eq_true rfl) ?_
  intro p e s m below meth c ls C hr hlk X w hl
  replace hl : lv_has ls 6 [(0, .ref (ad 126)), (1, .int x1), (2, .int x2), (3, .int x3), (4, .int x4)] := hl
  replace C : CallFix p m c cX6_look 6 s ([.ref (ad 126), .int x1, .int x2, .int x3, .int x4] : List Value).toArray lwA RX6 := C
  unfold qX6_look at hf
  refine lv_aload_n C.1 C.2.1 dX6_look_0 rfl (lv_at hl 0 rfl) ?_
  refine gf_X6_32 C X w rfl dX6_look_1 ?_
  refine lv_aload_n C.1 C.2.1 dX6_look_4 rfl (lv_at hl 0 rfl) ?_
  refine gf_X6_28 C X w rfl dX6_look_5 ?_
  obtain ⟨P23, eq21, hf⟩ := bi1_e hf
  obtain ⟨h24, eh24, hf⟩ := bd_e hf
  refine x_cVvN (As := [.ref (ad (7 * 0))]) (rest := []) C X (at_su 1 w) (c_X2_copyFrom hI (by decide) (by decide) (by first | decide | omega) eq21) mw_X2_copyFrom ml_X6_209 (rcv_P (b := 1) (su_same _ _ _) (by decide)) rfl hl.1 rfl (Nat.le_of_ble_eq_true rfl) ⟨⟨Nat.le_of_ble_eq_true rfl, Nat.le_of_ble_eq_true rfl⟩, Nat.le_of_ble_eq_true rfl, Nat.le_of_ble_eq_true rfl⟩ dX6_look_8 (fun H locs w => ?_)
  replace w := at_eq eh24 w
  refine lv_aload_n C.1 C.2.1 dX6_look_11 rfl (lv_at hl 0 rfl) ?_
  refine gf_X6_32 C X w rfl dX6_look_12 ?_
  refine lv_iload_n C.1 C.2.1 dX6_look_15 rfl (lv_at hl 1 rfl) ?_
  refine lv_iload_n C.1 C.2.1 dX6_look_16 rfl (lv_at hl 2 rfl) ?_
  obtain ⟨P27, eq25, hf⟩ := bi1_e hf
  obtain ⟨h28, eh28, hf⟩ := bd_e hf
  refine x_cVvN (As := [.int x1, .int x2]) (rest := []) C X (at_su 1 w) (c_X2_setRule hI (by decide) eq25) mw_X2_setRule ml_X6_183 (rcv_P (b := 1) (su_same _ _ _) (by decide)) rfl hl.1 rfl (Nat.le_of_ble_eq_true rfl) ⟨⟨Nat.le_of_ble_eq_true rfl, Nat.le_of_ble_eq_true rfl⟩, Nat.le_of_ble_eq_true rfl, Nat.le_of_ble_eq_true rfl⟩ dX6_look_17 (fun H locs w => ?_)
  replace w := at_eq eh28 w
  refine lv_aload_n C.1 C.2.1 dX6_look_20 rfl (lv_at hl 0 rfl) ?_
  refine gf_X6_32 C X w rfl dX6_look_21 ?_
  refine lv_iload_n C.1 C.2.1 dX6_look_24 rfl (lv_at hl 3 rfl) ?_
  obtain ⟨h29, eh29, hf⟩ := bd_e hf
  refine pf_X6_94 C X hI (at_su 1 w) (by decide) dX6_look_25 (fun H locs w => ?_)
  replace w := at_eq eh29 w
  refine lv_iconst (v := 0) C.1 C.2.1 dX6_look_28 (by decide) ?_
  refine lv_istore (lv' := [(5, .int (0 : Int32)), (0, .ref (ad 126)), (1, .int x1), (2, .int x2), (3, .int x3), (4, .int x4)]) C.1 C.2.1 dX6_look_29 hl (by decide) rfl (fun ls hl => ?_)
  exact w_X6_look_31 C hr hlk X hI 600 _ _ _ _ _ _ w (lv_sub hl [1, 5, 0] rfl) hf

def qX6_outlook (h : Hp) (x1 : Int32) : Option (Int32) :=
(if x1 = 0 then (some ((h 1) 30))
else (if x1 = 1 then (bi1 (qX2_staredByAll (h 1)) (fun r24 =>
(some r24)))
else (if x1 = 2 then (bi1 (qX2_gap (h 1)) (fun r27 =>
(some r27)))
else (bi1 (qX2_neverRidden (h 1)) (fun r29 =>
(some r29))))))
set_option maxHeartbeats 4000000 in
set_option maxRecDepth 100000 in
theorem c_X6_outlook {l : Launch} {E : Ev} {ad : Nat → Nat} {g : Gp} {h : Hp} {x1 : Int32} {r : Int32} (hI : Inj ad) (hf : qX6_outlook h x1 = some r) : CtI l yX6_outlook cX6_outlook 2 (some .int) 2 44 E ad g g [.ref (ad 126), .int x1] h h r := by
  refine x_begin (by decide) (Nat.le_of_ble_eq_true rfl) ?_
  intro p e s m below meth c ls C hr hlk X w hl
  replace hl : lv_has ls 2 [(0, .ref (ad 126)), (1, .int x1)] := hl
  replace C : CallFix p m c cX6_outlook 2 s ([.ref (ad 126), .int x1] : List Value).toArray lwA RX6 := C
  unfold qX6_outlook at hf
  refine lv_iload_n C.1 C.2.1 dX6_outlook_0 rfl (lv_at hl 1 rfl) ?_
  by_cases c21 : x1 = 0
  · rw [if_pos c21] at hf
    refine lv_tableIn (off := 27) (tgt := 28) C.1 C.2.1 dX6_outlook_1 (by rw [c21]; decide) (by rw [c21]; decide) (by rw [c21]; rfl) (by decide) ?_
    refine lv_aload_n C.1 C.2.1 dX6_outlook_28 rfl (lv_at hl 0 rfl) ?_
    refine gf_X6_32 C X w rfl dX6_outlook_29 ?_
    refine gf_X6_97 (b := 1) C X w rfl (by decide) dX6_outlook_32 ?_
    cases hf
    exact x_iret C hr hlk w dX6_outlook_35
  · rw [if_neg c21] at hf
    by_cases c22 : x1 = 1
    · rw [if_pos c22] at hf
      refine lv_tableIn (off := 35) (tgt := 36) C.1 C.2.1 dX6_outlook_1 (by rw [c22]; decide) (by rw [c22]; decide) (by rw [c22]; rfl) (by decide) ?_
      refine lv_aload_n C.1 C.2.1 dX6_outlook_36 rfl (lv_at hl 0 rfl) ?_
      refine gf_X6_32 C X w rfl dX6_outlook_37 ?_
      obtain ⟨r24, eq23, hf⟩ := bi1_e hf
      refine x_cViN (As := []) (rest := []) C X (at_su 1 w) (c_X2_staredByAll hI (by decide) eq23) mw_X2_staredByAll ml_X6_206 (rcv_P (b := 1) (su_same _ _ _) (by decide)) rfl hl.1 rfl (Nat.le_of_ble_eq_true rfl) ⟨⟨Nat.le_of_ble_eq_true rfl, Nat.le_of_ble_eq_true rfl⟩, Nat.le_of_ble_eq_true rfl, Nat.le_of_ble_eq_true rfl⟩ dX6_outlook_40 (fun H locs w => ?_)
      replace w := at_us w
      cases hf
      exact x_iret C hr hlk w dX6_outlook_43
    · rw [if_neg c22] at hf
      by_cases c25 : x1 = 2
      · rw [if_pos c25] at hf
        refine lv_tableIn (off := 43) (tgt := 44) C.1 C.2.1 dX6_outlook_1 (by rw [c25]; decide) (by rw [c25]; decide) (by rw [c25]; rfl) (by decide) ?_
        refine lv_aload_n C.1 C.2.1 dX6_outlook_44 rfl (lv_at hl 0 rfl) ?_
        refine gf_X6_32 C X w rfl dX6_outlook_45 ?_
        obtain ⟨r27, eq26, hf⟩ := bi1_e hf
        refine x_cViN (As := []) (rest := []) C X (at_su 1 w) (c_X2_gap hI (by decide) eq26) mw_X2_gap ml_X6_203 (rcv_P (b := 1) (su_same _ _ _) (by decide)) rfl hl.1 rfl (Nat.le_of_ble_eq_true rfl) ⟨⟨Nat.le_of_ble_eq_true rfl, Nat.le_of_ble_eq_true rfl⟩, Nat.le_of_ble_eq_true rfl, Nat.le_of_ble_eq_true rfl⟩ dX6_outlook_48 (fun H locs w => ?_)
        replace w := at_us w
        cases hf
        exact x_iret C hr hlk w dX6_outlook_51
      · rw [if_neg c25] at hf
        have c21n := ti_ne c21 (show (0 : Int32).toInt = 0 by decide)
        have c22n := ti_ne c22 (show (1 : Int32).toInt = 1 by decide)
        have c25n := ti_ne c25 (show (2 : Int32).toInt = 2 by decide)
        refine lv_tableOut (tgt := 52) C.1 C.2.1 dX6_outlook_1 (by omega) (by decide) ?_
        refine lv_aload_n C.1 C.2.1 dX6_outlook_52 rfl (lv_at hl 0 rfl) ?_
        refine gf_X6_32 C X w rfl dX6_outlook_53 ?_
        obtain ⟨r29, eq28, hf⟩ := bi1_e hf
        refine x_cViN (As := []) (rest := []) C X (at_su 1 w) (c_X2_neverRidden hI (by decide) eq28) mw_X2_neverRidden ml_X6_271 (rcv_P (b := 1) (su_same _ _ _) (by decide)) rfl hl.1 rfl (Nat.le_of_ble_eq_true rfl) ⟨⟨Nat.le_of_ble_eq_true rfl, Nat.le_of_ble_eq_true rfl⟩, Nat.le_of_ble_eq_true rfl, Nat.le_of_ble_eq_true rfl⟩ dX6_outlook_56 (fun H locs w => ?_)
        replace w := at_us w
        cases hf
        exact x_iret C hr hlk w dX6_outlook_59

def qX6_ahead (h : Hp) (x1 : Int32) (x2 : Int32) : Option (Int32 × Hp) :=
(if x1 < 0 then (some ((-2 : Int32), h))
else (if (60 : Int32) < x1 then (some ((-2 : Int32), h))
else (bi1 (qX6_isOutlook x2) (fun r24 =>
(if r24 = 0 then (some ((-2 : Int32), h))
else (bi1 (qX6_look h ((h 0) 32) ((h 0) 33) ((h 0) 34) x1) (fun h28 =>
(bi1 (qX6_outlook h28 x2) (fun r30 =>
(some (r30, h28)))))))))))
set_option maxHeartbeats 4000000 in
set_option maxRecDepth 100000 in
theorem c_X6_ahead {l : Launch} {E : Ev} {ad : Nat → Nat} {g : Gp} {h : Hp} {x1 : Int32} {x2 : Int32} {r : Int32} {h9 : Hp} (hI : Inj ad) (hf : qX6_ahead h x1 x2 = some (r, h9)) : CtI l yX6_ahead cX6_ahead 3 (some .int) 6 138 E ad g g [.ref (ad 126), .int x1, .int x2] h h9 r := by
  refine x_begin (by decide) (Nat.le_of_ble_eq_true rfl) ?_
  intro p e s m below meth c ls C hr hlk X w hl
  replace hl : lv_has ls 3 [(0, .ref (ad 126)), (1, .int x1), (2, .int x2)] := hl
  replace C : CallFix p m c cX6_ahead 3 s ([.ref (ad 126), .int x1, .int x2] : List Value).toArray lwA RX6 := C
  unfold qX6_ahead at hf
  refine lv_iload_n C.1 C.2.1 dX6_ahead_0 rfl (lv_at hl 1 rfl) ?_
  refine lv_if_lt (tgt := 17) C.1 C.2.1 dX6_ahead_1 (by decide) (fun c21 => ?_) (fun c21 => ?_)
  · rw [if_pos c21] at hf
    refine lv_bipush (v := -2) C.1 C.2.1 dX6_ahead_17 (by decide) ?_
    cases hf
    exact x_iret C hr hlk w dX6_ahead_19
  · rw [if_neg c21] at hf
    refine lv_iload_n C.1 C.2.1 dX6_ahead_4 rfl (lv_at hl 1 rfl) ?_
    refine lv_bipush (v := 60) C.1 C.2.1 dX6_ahead_5 (by decide) ?_
    refine lv_icmp_gt (tgt := 17) C.1 C.2.1 dX6_ahead_7 (by decide) (fun c22 => ?_) (fun c22 => ?_)
    · rw [if_pos c22] at hf
      refine lv_bipush (v := -2) C.1 C.2.1 dX6_ahead_17 (by decide) ?_
      cases hf
      exact x_iret C hr hlk w dX6_ahead_19
    · rw [if_neg c22] at hf
      refine lv_iload_n C.1 C.2.1 dX6_ahead_10 rfl (lv_at hl 2 rfl) ?_
      obtain ⟨r24, eq23, hf⟩ := bi1_e hf
      refine x_cSi (As := [.int x2]) (rest := []) C X w (c_X6_isOutlook hI  eq23) mw_X6_isOutlook ml_X6_193 rfl hl.1 rfl (Nat.le_of_ble_eq_true rfl) ⟨⟨Nat.le_of_ble_eq_true rfl, Nat.le_of_ble_eq_true rfl⟩, Nat.le_of_ble_eq_true rfl, Nat.le_of_ble_eq_true rfl⟩ dX6_ahead_11 (fun H locs w => ?_)
      refine lv_if_ne (tgt := 20) C.1 C.2.1 dX6_ahead_14 (by decide) (fun c25 => ?_) (fun c25 => ?_)
      · rw [if_neg c25] at hf
        refine lv_aload_n C.1 C.2.1 dX6_ahead_20 rfl (lv_at hl 0 rfl) ?_
        refine lv_aload_n C.1 C.2.1 dX6_ahead_21 rfl (lv_at hl 0 rfl) ?_
        refine gf_X6_28 C X w rfl dX6_ahead_22 ?_
        refine gf_X6_90 (b := 0) C X w rfl (by decide) dX6_ahead_25 ?_
        refine lv_aload_n C.1 C.2.1 dX6_ahead_28 rfl (lv_at hl 0 rfl) ?_
        refine gf_X6_28 C X w rfl dX6_ahead_29 ?_
        refine gf_X6_93 (b := 0) C X w rfl (by decide) dX6_ahead_32 ?_
        refine lv_aload_n C.1 C.2.1 dX6_ahead_35 rfl (lv_at hl 0 rfl) ?_
        refine gf_X6_28 C X w rfl dX6_ahead_36 ?_
        refine gf_X6_94 (b := 0) C X w rfl (by decide) dX6_ahead_39 ?_
        refine lv_iload_n C.1 C.2.1 dX6_ahead_42 rfl (lv_at hl 1 rfl) ?_
        obtain ⟨h28, eq26, hf⟩ := bi1_e hf
        refine x_cVv (As := [.int ((h 0) 32), .int ((h 0) 33), .int ((h 0) 34), .int x1]) (rest := []) C X w (c_X6_look hI eq26) mw_X6_look ml_X6_196 rcv_r18 rfl hl.1 rfl (Nat.le_of_ble_eq_true rfl) ⟨⟨Nat.le_of_ble_eq_true rfl, Nat.le_of_ble_eq_true rfl⟩, Nat.le_of_ble_eq_true rfl, Nat.le_of_ble_eq_true rfl⟩ dX6_ahead_43 (fun H locs w => ?_)
        refine lv_aload_n C.1 C.2.1 dX6_ahead_46 rfl (lv_at hl 0 rfl) ?_
        refine lv_iload_n C.1 C.2.1 dX6_ahead_47 rfl (lv_at hl 2 rfl) ?_
        obtain ⟨r30, eq29, hf⟩ := bi1_e hf
        refine x_cVi (As := [.int x2]) (rest := []) C X w (c_X6_outlook hI eq29) mw_X6_outlook ml_X6_200 rcv_r18 rfl hl.1 rfl (Nat.le_of_ble_eq_true rfl) ⟨⟨Nat.le_of_ble_eq_true rfl, Nat.le_of_ble_eq_true rfl⟩, Nat.le_of_ble_eq_true rfl, Nat.le_of_ble_eq_true rfl⟩ dX6_ahead_48 (fun H locs w => ?_)
        cases hf
        exact x_iret C hr hlk w dX6_ahead_51
      · rw [if_pos c25] at hf
        refine lv_bipush (v := -2) C.1 C.2.1 dX6_ahead_17 (by decide) ?_
        cases hf
        exact x_iret C hr hlk w dX6_ahead_19

def qX6_by (h : Hp) (x1 : Int32) (x2 : Int32) (x3 : Int32) (x4 : Int32) : Option (Int32 × Hp) :=
(bi1 (qX6_isRule x1) (fun r22 =>
(if r22 = 0 then (some ((-2 : Int32), h))
else (bi1 (qX6_isLength x2) (fun r25 =>
(if r25 = 0 then (some ((-2 : Int32), h))
else (if x3 < 0 then (some ((-2 : Int32), h))
else (if (60 : Int32) < x3 then (some ((-2 : Int32), h))
else (bi1 (qX6_isOutlook x4) (fun r30 =>
(if r30 = 0 then (some ((-2 : Int32), h))
else (bi1 (qX6_look h x1 x2 ((h 0) 34) x3) (fun h34 =>
(bi1 (qX6_outlook h34 x4) (fun r36 =>
(some (r36, h34)))))))))))))))))
set_option maxHeartbeats 4000000 in
set_option maxRecDepth 100000 in
theorem c_X6_by {l : Launch} {E : Ev} {ad : Nat → Nat} {g : Gp} {h : Hp} {x1 : Int32} {x2 : Int32} {x3 : Int32} {x4 : Int32} {r : Int32} {h9 : Hp} (hI : Inj ad) (hf : qX6_by h x1 x2 x3 x4 = some (r, h9)) : CtI l yX6_by cX6_by 5 (some .int) 6 138 E ad g g [.ref (ad 126), .int x1, .int x2, .int x3, .int x4] h h9 r := by
  refine x_begin (by decide) (Nat.le_of_ble_eq_true rfl) ?_
  intro p e s m below meth c ls C hr hlk X w hl
  replace hl : lv_has ls 5 [(0, .ref (ad 126)), (1, .int x1), (2, .int x2), (3, .int x3), (4, .int x4)] := hl
  replace C : CallFix p m c cX6_by 5 s ([.ref (ad 126), .int x1, .int x2, .int x3, .int x4] : List Value).toArray lwA RX6 := C
  unfold qX6_by at hf
  refine lv_iload_n C.1 C.2.1 dX6_by_0 rfl (lv_at hl 1 rfl) ?_
  obtain ⟨r22, eq21, hf⟩ := bi1_e hf
  refine x_cSi (As := [.int x1]) (rest := []) C X w (c_X6_isRule hI  eq21) mw_X6_isRule ml_X6_177 rfl hl.1 rfl (Nat.le_of_ble_eq_true rfl) ⟨⟨Nat.le_of_ble_eq_true rfl, Nat.le_of_ble_eq_true rfl⟩, Nat.le_of_ble_eq_true rfl, Nat.le_of_ble_eq_true rfl⟩ dX6_by_1 (fun H locs w => ?_)
  refine lv_if_eq (tgt := 32) C.1 C.2.1 dX6_by_4 (by decide) (fun c23 => ?_) (fun c23 => ?_)
  · rw [if_pos c23] at hf
    refine lv_bipush (v := -2) C.1 C.2.1 dX6_by_32 (by decide) ?_
    cases hf
    exact x_iret C hr hlk w dX6_by_34
  · rw [if_neg c23] at hf
    refine lv_iload_n C.1 C.2.1 dX6_by_7 rfl (lv_at hl 2 rfl) ?_
    obtain ⟨r25, eq24, hf⟩ := bi1_e hf
    refine x_cSi (As := [.int x2]) (rest := []) C X w (c_X6_isLength hI  eq24) mw_X6_isLength ml_X6_180 rfl hl.1 rfl (Nat.le_of_ble_eq_true rfl) ⟨⟨Nat.le_of_ble_eq_true rfl, Nat.le_of_ble_eq_true rfl⟩, Nat.le_of_ble_eq_true rfl, Nat.le_of_ble_eq_true rfl⟩ dX6_by_8 (fun H locs w => ?_)
    refine lv_if_eq (tgt := 32) C.1 C.2.1 dX6_by_11 (by decide) (fun c26 => ?_) (fun c26 => ?_)
    · rw [if_pos c26] at hf
      refine lv_bipush (v := -2) C.1 C.2.1 dX6_by_32 (by decide) ?_
      cases hf
      exact x_iret C hr hlk w dX6_by_34
    · rw [if_neg c26] at hf
      refine lv_iload_n C.1 C.2.1 dX6_by_14 rfl (lv_at hl 3 rfl) ?_
      refine lv_if_lt (tgt := 32) C.1 C.2.1 dX6_by_15 (by decide) (fun c27 => ?_) (fun c27 => ?_)
      · rw [if_pos c27] at hf
        refine lv_bipush (v := -2) C.1 C.2.1 dX6_by_32 (by decide) ?_
        cases hf
        exact x_iret C hr hlk w dX6_by_34
      · rw [if_neg c27] at hf
        refine lv_iload_n C.1 C.2.1 dX6_by_18 rfl (lv_at hl 3 rfl) ?_
        refine lv_bipush (v := 60) C.1 C.2.1 dX6_by_19 (by decide) ?_
        refine lv_icmp_gt (tgt := 32) C.1 C.2.1 dX6_by_21 (by decide) (fun c28 => ?_) (fun c28 => ?_)
        · rw [if_pos c28] at hf
          refine lv_bipush (v := -2) C.1 C.2.1 dX6_by_32 (by decide) ?_
          cases hf
          exact x_iret C hr hlk w dX6_by_34
        · rw [if_neg c28] at hf
          refine lv_iload C.1 C.2.1 dX6_by_24 (lv_at hl 4 rfl) ?_
          obtain ⟨r30, eq29, hf⟩ := bi1_e hf
          refine x_cSi (As := [.int x4]) (rest := []) C X w (c_X6_isOutlook hI  eq29) mw_X6_isOutlook ml_X6_193 rfl hl.1 rfl (Nat.le_of_ble_eq_true rfl) ⟨⟨Nat.le_of_ble_eq_true rfl, Nat.le_of_ble_eq_true rfl⟩, Nat.le_of_ble_eq_true rfl, Nat.le_of_ble_eq_true rfl⟩ dX6_by_26 (fun H locs w => ?_)
          refine lv_if_ne (tgt := 35) C.1 C.2.1 dX6_by_29 (by decide) (fun c31 => ?_) (fun c31 => ?_)
          · rw [if_neg c31] at hf
            refine lv_aload_n C.1 C.2.1 dX6_by_35 rfl (lv_at hl 0 rfl) ?_
            refine lv_iload_n C.1 C.2.1 dX6_by_36 rfl (lv_at hl 1 rfl) ?_
            refine lv_iload_n C.1 C.2.1 dX6_by_37 rfl (lv_at hl 2 rfl) ?_
            refine lv_aload_n C.1 C.2.1 dX6_by_38 rfl (lv_at hl 0 rfl) ?_
            refine gf_X6_28 C X w rfl dX6_by_39 ?_
            refine gf_X6_94 (b := 0) C X w rfl (by decide) dX6_by_42 ?_
            refine lv_iload_n C.1 C.2.1 dX6_by_45 rfl (lv_at hl 3 rfl) ?_
            obtain ⟨h34, eq32, hf⟩ := bi1_e hf
            refine x_cVv (As := [.int x1, .int x2, .int ((h 0) 34), .int x3]) (rest := []) C X w (c_X6_look hI eq32) mw_X6_look ml_X6_196 rcv_r18 rfl hl.1 rfl (Nat.le_of_ble_eq_true rfl) ⟨⟨Nat.le_of_ble_eq_true rfl, Nat.le_of_ble_eq_true rfl⟩, Nat.le_of_ble_eq_true rfl, Nat.le_of_ble_eq_true rfl⟩ dX6_by_46 (fun H locs w => ?_)
            refine lv_aload_n C.1 C.2.1 dX6_by_49 rfl (lv_at hl 0 rfl) ?_
            refine lv_iload C.1 C.2.1 dX6_by_50 (lv_at hl 4 rfl) ?_
            obtain ⟨r36, eq35, hf⟩ := bi1_e hf
            refine x_cVi (As := [.int x4]) (rest := []) C X w (c_X6_outlook hI eq35) mw_X6_outlook ml_X6_200 rcv_r18 rfl hl.1 rfl (Nat.le_of_ble_eq_true rfl) ⟨⟨Nat.le_of_ble_eq_true rfl, Nat.le_of_ble_eq_true rfl⟩, Nat.le_of_ble_eq_true rfl, Nat.le_of_ble_eq_true rfl⟩ dX6_by_52 (fun H locs w => ?_)
            cases hf
            exact x_iret C hr hlk w dX6_by_55
          · rw [if_pos c31] at hf
            refine lv_bipush (v := -2) C.1 C.2.1 dX6_by_32 (by decide) ?_
            cases hf
            exact x_iret C hr hlk w dX6_by_34

def qX6_bestLength_78 (k29 : Hp → Int32 → Int32 → Int32 → Int32 → Int32 → Option (Int32 × Hp)) (h : Hp) (v1 : Int32) (v2 : Int32) (v3 : Int32) (v4 : Int32) (v5 : Int32) : Option (Int32 × Hp) :=
(k29 h v1 v2 v3 v4 (v5 + 1))
set_option maxHeartbeats 4000000 in
set_option maxRecDepth 100000 in
theorem w_X6_bestLength_78 {p : Program} {l : Launch} {e : Env} {s : State} {m : MethodId} {args : Array Value} {below : List Frame} {meth : Method} {c : Code} {E : Ev} {ad : Nat → Nat} {g : Gp} {r : Int32} {h9 : Hp} {k29 : Hp → Int32 → Int32 → Int32 → Int32 → Int32 → Option (Int32 × Hp)} (C : CallFix p m c cX6_bestLength 7 s args lwA RX6) (hr : meth.sig.returnType = (some .int)) (hlk : meth.locks = false) (X : Sx E ad s) (hI : Inj ad) (hk29 : ∀ (h : Hp) (v1 : Int32) (v2 : Int32) (v3 : Int32) (v4 : Int32) (v5 : Int32) (H : Heap) (locs : List Loc) (ls : Array Slot), At E ad h g s H locs → lv_has ls 7 [(0, .ref (ad 126)), (1, .int v1), (2, .int v2), (3, .int v3), (4, .int v4), (5, .int v5)] → k29 h v1 v2 v3 v4 v5 = some (r, h9) → W p l e (RM 6 138) s m args below meth c H locs 0 0 (QI E ad h9 g r below args s) (F0 m 29 ls [])) : ∀ (h : Hp) (v1 : Int32) (v2 : Int32) (v3 : Int32) (v4 : Int32) (v5 : Int32) (H : Heap) (locs : List Loc) (ls : Array Slot), At E ad h g s H locs → lv_has ls 7 [(0, .ref (ad 126)), (1, .int v1), (2, .int v2), (3, .int v3), (4, .int v4), (5, .int v5)] → qX6_bestLength_78 k29 h v1 v2 v3 v4 v5 = some (r, h9) → W p l e (RM 6 138) s m args below meth c H locs 0 0 (QI E ad h9 g r below args s) (F0 m 78 ls []) := by
  intro h v1 v2 v3 v4 v5 H locs ls w hl hf
  unfold qX6_bestLength_78 at hf
  refine lv_iinc (v := (v5 + 1)) (lv' := [(5, .int (v5 + 1)), (0, .ref (ad 126)), (1, .int v1), (2, .int v2), (3, .int v3), (4, .int v4)]) C.1 C.2.1 dX6_bestLength_78 hl (k := 5) rfl (congrArg (fun z => v5 + z) (by decide)) (by decide) rfl (fun ls hl => ?_)
  refine lv_goto (tgt := 29) C.1 C.2.1 dX6_bestLength_81 (by decide) ?_
  exact hk29 _ _ _ _ _ _ _ _ _ w (lv_sub hl [1, 2, 3, 4, 5, 0] rfl) hf
def qX6_bestLength_71 (k29 : Hp → Int32 → Int32 → Int32 → Int32 → Int32 → Option (Int32 × Hp)) (h : Hp) (v1 : Int32) (v2 : Int32) (v5 : Int32) (v6 : Int32) : Option (Int32 × Hp) :=
(qX6_bestLength_78 k29 h v1 v2 v5 v6 v5)
set_option maxHeartbeats 4000000 in
set_option maxRecDepth 100000 in
theorem w_X6_bestLength_71 {p : Program} {l : Launch} {e : Env} {s : State} {m : MethodId} {args : Array Value} {below : List Frame} {meth : Method} {c : Code} {E : Ev} {ad : Nat → Nat} {g : Gp} {r : Int32} {h9 : Hp} {k29 : Hp → Int32 → Int32 → Int32 → Int32 → Int32 → Option (Int32 × Hp)} (C : CallFix p m c cX6_bestLength 7 s args lwA RX6) (hr : meth.sig.returnType = (some .int)) (hlk : meth.locks = false) (X : Sx E ad s) (hI : Inj ad) (hk29 : ∀ (h : Hp) (v1 : Int32) (v2 : Int32) (v3 : Int32) (v4 : Int32) (v5 : Int32) (H : Heap) (locs : List Loc) (ls : Array Slot), At E ad h g s H locs → lv_has ls 7 [(0, .ref (ad 126)), (1, .int v1), (2, .int v2), (3, .int v3), (4, .int v4), (5, .int v5)] → k29 h v1 v2 v3 v4 v5 = some (r, h9) → W p l e (RM 6 138) s m args below meth c H locs 0 0 (QI E ad h9 g r below args s) (F0 m 29 ls [])) : ∀ (h : Hp) (v1 : Int32) (v2 : Int32) (v5 : Int32) (v6 : Int32) (H : Heap) (locs : List Loc) (ls : Array Slot), At E ad h g s H locs → lv_has ls 7 [(0, .ref (ad 126)), (1, .int v1), (2, .int v2), (5, .int v5), (6, .int v6)] → qX6_bestLength_71 k29 h v1 v2 v5 v6 = some (r, h9) → W p l e (RM 6 138) s m args below meth c H locs 0 0 (QI E ad h9 g r below args s) (F0 m 71 ls []) := by
  intro h v1 v2 v5 v6 H locs ls w hl hf
  unfold qX6_bestLength_71 at hf
  refine lv_iload C.1 C.2.1 dX6_bestLength_71 (lv_at hl 3 rfl) ?_
  refine lv_istore_n (lv' := [(3, .int v5), (0, .ref (ad 126)), (1, .int v1), (2, .int v2), (5, .int v5), (6, .int v6)]) C.1 C.2.1 dX6_bestLength_73 rfl hl (by decide) rfl (fun ls hl => ?_)
  refine lv_iload C.1 C.2.1 dX6_bestLength_74 (lv_at hl 5 rfl) ?_
  refine lv_istore (lv' := [(4, .int v6), (3, .int v5), (0, .ref (ad 126)), (1, .int v1), (2, .int v2), (5, .int v5), (6, .int v6)]) C.1 C.2.1 dX6_bestLength_76 hl (by decide) rfl (fun ls hl => ?_)
  exact w_X6_bestLength_78 C hr hlk X hI hk29 _ _ _ _ _ _ _ _ _ w (lv_sub hl [2, 3, 4, 1, 0, 5] rfl) hf
def qX6_bestLength_29 : Nat → Hp → Int32 → Int32 → Int32 → Int32 → Int32 → Option (Int32 × Hp)
  | 0, _, _, _, _, _, _ => none
  | n + 1, h, v1, v2, v3, v4, v5 =>
    (if (9 : Int32) < v5 then (some (v3, h))
    else (bi1 (qX6_look h v1 v5 ((h 0) 34) v2) (fun h29 =>
    (bi1 (qX2_gap (h29 1)) (fun r31 =>
    (if v3 = 0 then (qX6_bestLength_71 (qX6_bestLength_29 n) h29 v1 v2 v5 r31)
    else (if v4 ≤ r31 then (qX6_bestLength_78 (qX6_bestLength_29 n) h29 v1 v2 v3 v4 v5)
    else (qX6_bestLength_71 (qX6_bestLength_29 n) h29 v1 v2 v5 r31))))))))
set_option maxHeartbeats 4000000 in
set_option maxRecDepth 100000 in
theorem w_X6_bestLength_29 {p : Program} {l : Launch} {e : Env} {s : State} {m : MethodId} {args : Array Value} {below : List Frame} {meth : Method} {c : Code} {E : Ev} {ad : Nat → Nat} {g : Gp} {r : Int32} {h9 : Hp} (C : CallFix p m c cX6_bestLength 7 s args lwA RX6) (hr : meth.sig.returnType = (some .int)) (hlk : meth.locks = false) (X : Sx E ad s) (hI : Inj ad)  : ∀ (n : Nat), ∀ (h : Hp) (v1 : Int32) (v2 : Int32) (v3 : Int32) (v4 : Int32) (v5 : Int32) (H : Heap) (locs : List Loc) (ls : Array Slot), At E ad h g s H locs → lv_has ls 7 [(0, .ref (ad 126)), (1, .int v1), (2, .int v2), (3, .int v3), (4, .int v4), (5, .int v5)] → qX6_bestLength_29 n h v1 v2 v3 v4 v5 = some (r, h9) → W p l e (RM 6 138) s m args below meth c H locs 0 0 (QI E ad h9 g r below args s) (F0 m 29 ls []) := by
  intro n
  induction n with
  | zero =>
    intro h v1 v2 v3 v4 v5 H locs ls w hl hf
    cases hf
  | succ n ih =>
    intro h v1 v2 v3 v4 v5 H locs ls w hl hf
    rw [qX6_bestLength_29] at hf
    refine lv_iload C.1 C.2.1 dX6_bestLength_29 (lv_at hl 5 rfl) ?_
    refine lv_bipush (v := 9) C.1 C.2.1 dX6_bestLength_31 (by decide) ?_
    refine lv_icmp_gt (tgt := 84) C.1 C.2.1 dX6_bestLength_33 (by decide) (fun c26 => ?_) (fun c26 => ?_)
    · rw [if_pos c26] at hf
      refine lv_iload_n C.1 C.2.1 dX6_bestLength_84 rfl (lv_at hl 3 rfl) ?_
      cases hf
      exact x_iret C hr hlk w dX6_bestLength_85
    · rw [if_neg c26] at hf
      refine lv_aload_n C.1 C.2.1 dX6_bestLength_36 rfl (lv_at hl 0 rfl) ?_
      refine lv_iload_n C.1 C.2.1 dX6_bestLength_37 rfl (lv_at hl 1 rfl) ?_
      refine lv_iload C.1 C.2.1 dX6_bestLength_38 (lv_at hl 5 rfl) ?_
      refine lv_aload_n C.1 C.2.1 dX6_bestLength_40 rfl (lv_at hl 0 rfl) ?_
      refine gf_X6_28 C X w rfl dX6_bestLength_41 ?_
      refine gf_X6_94 (b := 0) C X w rfl (by decide) dX6_bestLength_44 ?_
      refine lv_iload_n C.1 C.2.1 dX6_bestLength_47 rfl (lv_at hl 2 rfl) ?_
      obtain ⟨h29, eq27, hf⟩ := bi1_e hf
      refine x_cVv (As := [.int v1, .int v5, .int ((h 0) 34), .int v2]) (rest := []) C X w (c_X6_look hI eq27) mw_X6_look ml_X6_196 rcv_r18 rfl hl.1 rfl (Nat.le_of_ble_eq_true rfl) ⟨⟨Nat.le_of_ble_eq_true rfl, Nat.le_of_ble_eq_true rfl⟩, Nat.le_of_ble_eq_true rfl, Nat.le_of_ble_eq_true rfl⟩ dX6_bestLength_48 (fun H locs w => ?_)
      refine lv_aload_n C.1 C.2.1 dX6_bestLength_51 rfl (lv_at hl 0 rfl) ?_
      refine gf_X6_32 C X w rfl dX6_bestLength_52 ?_
      obtain ⟨r31, eq30, hf⟩ := bi1_e hf
      refine x_cViN (As := []) (rest := []) C X (at_su 1 w) (c_X2_gap hI (by decide) eq30) mw_X2_gap ml_X6_203 (rcv_P (b := 1) (su_same _ _ _) (by decide)) rfl hl.1 rfl (Nat.le_of_ble_eq_true rfl) ⟨⟨Nat.le_of_ble_eq_true rfl, Nat.le_of_ble_eq_true rfl⟩, Nat.le_of_ble_eq_true rfl, Nat.le_of_ble_eq_true rfl⟩ dX6_bestLength_55 (fun H locs w => ?_)
      replace w := at_us w
      refine lv_istore (lv' := [(6, .int r31), (0, .ref (ad 126)), (1, .int v1), (2, .int v2), (3, .int v3), (4, .int v4), (5, .int v5)]) C.1 C.2.1 dX6_bestLength_58 hl (by decide) rfl (fun ls hl => ?_)
      refine lv_iload_n C.1 C.2.1 dX6_bestLength_60 rfl (lv_at hl 4 rfl) ?_
      refine lv_if_eq (tgt := 71) C.1 C.2.1 dX6_bestLength_61 (by decide) (fun c32 => ?_) (fun c32 => ?_)
      · rw [if_pos c32] at hf
        exact w_X6_bestLength_71 C hr hlk X hI ih _ _ _ _ _ _ _ _ w (lv_sub hl [1, 2, 3, 6, 0] rfl) hf
      · rw [if_neg c32] at hf
        refine lv_iload C.1 C.2.1 dX6_bestLength_64 (lv_at hl 0 rfl) ?_
        refine lv_iload C.1 C.2.1 dX6_bestLength_66 (lv_at hl 5 rfl) ?_
        refine lv_icmp_ge (tgt := 78) C.1 C.2.1 dX6_bestLength_68 (by decide) (fun c33 => ?_) (fun c33 => ?_)
        · rw [if_pos c33] at hf
          exact w_X6_bestLength_78 C hr hlk X hI ih _ _ _ _ _ _ _ _ _ w (lv_sub hl [1, 2, 3, 4, 5, 6] rfl) hf
        · rw [if_neg c33] at hf
          exact w_X6_bestLength_71 C hr hlk X hI ih _ _ _ _ _ _ _ _ w (lv_sub hl [1, 2, 3, 6, 0] rfl) hf
def qX6_bestLength (h : Hp) (x1 : Int32) (x2 : Int32) : Option (Int32 × Hp) :=
(bi1 (qX6_isRule x1) (fun r22 =>
(if r22 = 0 then (some ((-2 : Int32), h))
else (if x2 < (1 : Int32) then (some ((-2 : Int32), h))
else (if x2 ≤ (30 : Int32) then (qX6_bestLength_29 600 h x1 x2 (0 : Int32) (0 : Int32) (1 : Int32))
else (some ((-2 : Int32), h)))))))
set_option maxHeartbeats 4000000 in
set_option maxRecDepth 100000 in
theorem c_X6_bestLength {l : Launch} {E : Ev} {ad : Nat → Nat} {g : Gp} {h : Hp} {x1 : Int32} {x2 : Int32} {r : Int32} {h9 : Hp} (hI : Inj ad) (hf : qX6_bestLength h x1 x2 = some (r, h9)) : CtI l yX6_bestLength cX6_bestLength 7 (some .int) 6 138 E ad g g [.ref (ad 126), .int x1, .int x2] h h9 r := by
  refine x_begin (by decide) (Nat.le_of_ble_eq_true rfl) ?_
  intro p e s m below meth c ls C hr hlk X w hl
  replace hl : lv_has ls 7 [(0, .ref (ad 126)), (1, .int x1), (2, .int x2)] := hl
  replace C : CallFix p m c cX6_bestLength 7 s ([.ref (ad 126), .int x1, .int x2] : List Value).toArray lwA RX6 := C
  unfold qX6_bestLength at hf
  refine lv_iload_n C.1 C.2.1 dX6_bestLength_0 rfl (lv_at hl 1 rfl) ?_
  obtain ⟨r22, eq21, hf⟩ := bi1_e hf
  refine x_cSi (As := [.int x1]) (rest := []) C X w (c_X6_isRule hI  eq21) mw_X6_isRule ml_X6_177 rfl hl.1 rfl (Nat.le_of_ble_eq_true rfl) ⟨⟨Nat.le_of_ble_eq_true rfl, Nat.le_of_ble_eq_true rfl⟩, Nat.le_of_ble_eq_true rfl, Nat.le_of_ble_eq_true rfl⟩ dX6_bestLength_1 (fun H locs w => ?_)
  refine lv_if_eq (tgt := 18) C.1 C.2.1 dX6_bestLength_4 (by decide) (fun c23 => ?_) (fun c23 => ?_)
  · rw [if_pos c23] at hf
    refine lv_bipush (v := -2) C.1 C.2.1 dX6_bestLength_18 (by decide) ?_
    cases hf
    exact x_iret C hr hlk w dX6_bestLength_20
  · rw [if_neg c23] at hf
    refine lv_iload_n C.1 C.2.1 dX6_bestLength_7 rfl (lv_at hl 2 rfl) ?_
    refine lv_iconst (v := 1) C.1 C.2.1 dX6_bestLength_8 (by decide) ?_
    refine lv_icmp_lt (tgt := 18) C.1 C.2.1 dX6_bestLength_9 (by decide) (fun c24 => ?_) (fun c24 => ?_)
    · rw [if_pos c24] at hf
      refine lv_bipush (v := -2) C.1 C.2.1 dX6_bestLength_18 (by decide) ?_
      cases hf
      exact x_iret C hr hlk w dX6_bestLength_20
    · rw [if_neg c24] at hf
      refine lv_iload_n C.1 C.2.1 dX6_bestLength_12 rfl (lv_at hl 2 rfl) ?_
      refine lv_bipush (v := 30) C.1 C.2.1 dX6_bestLength_13 (by decide) ?_
      refine lv_icmp_le (tgt := 21) C.1 C.2.1 dX6_bestLength_15 (by decide) (fun c25 => ?_) (fun c25 => ?_)
      · rw [if_pos c25] at hf
        refine lv_iconst (v := 0) C.1 C.2.1 dX6_bestLength_21 (by decide) ?_
        refine lv_istore_n (lv' := [(3, .int (0 : Int32)), (0, .ref (ad 126)), (1, .int x1), (2, .int x2)]) C.1 C.2.1 dX6_bestLength_22 rfl hl (by decide) rfl (fun ls hl => ?_)
        refine lv_iconst (v := 0) C.1 C.2.1 dX6_bestLength_23 (by decide) ?_
        refine lv_istore (lv' := [(4, .int (0 : Int32)), (3, .int (0 : Int32)), (0, .ref (ad 126)), (1, .int x1), (2, .int x2)]) C.1 C.2.1 dX6_bestLength_24 hl (by decide) rfl (fun ls hl => ?_)
        refine lv_iconst (v := 1) C.1 C.2.1 dX6_bestLength_26 (by decide) ?_
        refine lv_istore (lv' := [(5, .int (1 : Int32)), (4, .int (0 : Int32)), (3, .int (0 : Int32)), (0, .ref (ad 126)), (1, .int x1), (2, .int x2)]) C.1 C.2.1 dX6_bestLength_27 hl (by decide) rfl (fun ls hl => ?_)
        exact w_X6_bestLength_29 C hr hlk X hI 600 _ _ _ _ _ _ _ _ _ w (lv_sub hl [3, 4, 5, 2, 1, 0] rfl) hf
      · rw [if_neg c25] at hf
        refine lv_bipush (v := -2) C.1 C.2.1 dX6_bestLength_18 (by decide) ?_
        cases hf
        exact x_iret C hr hlk w dX6_bestLength_20

def qX6_bestRule_76 (k22 : Hp → Int32 → Int32 → Int32 → Int32 → Option (Int32 × Hp)) (h : Hp) (v1 : Int32) (v2 : Int32) (v3 : Int32) (v4 : Int32) : Option (Int32 × Hp) :=
(k22 h v1 v2 v3 (v4 + 1))
set_option maxHeartbeats 4000000 in
set_option maxRecDepth 100000 in
theorem w_X6_bestRule_76 {p : Program} {l : Launch} {e : Env} {s : State} {m : MethodId} {args : Array Value} {below : List Frame} {meth : Method} {c : Code} {E : Ev} {ad : Nat → Nat} {g : Gp} {r : Int32} {h9 : Hp} {k22 : Hp → Int32 → Int32 → Int32 → Int32 → Option (Int32 × Hp)} (C : CallFix p m c cX6_bestRule 6 s args lwA RX6) (hr : meth.sig.returnType = (some .int)) (hlk : meth.locks = false) (X : Sx E ad s) (hI : Inj ad) (hk22 : ∀ (h : Hp) (v1 : Int32) (v2 : Int32) (v3 : Int32) (v4 : Int32) (H : Heap) (locs : List Loc) (ls : Array Slot), At E ad h g s H locs → lv_has ls 6 [(0, .ref (ad 126)), (1, .int v1), (2, .int v2), (3, .int v3), (4, .int v4)] → k22 h v1 v2 v3 v4 = some (r, h9) → W p l e (RM 6 138) s m args below meth c H locs 0 0 (QI E ad h9 g r below args s) (F0 m 22 ls [])) : ∀ (h : Hp) (v1 : Int32) (v2 : Int32) (v3 : Int32) (v4 : Int32) (H : Heap) (locs : List Loc) (ls : Array Slot), At E ad h g s H locs → lv_has ls 6 [(0, .ref (ad 126)), (1, .int v1), (2, .int v2), (3, .int v3), (4, .int v4)] → qX6_bestRule_76 k22 h v1 v2 v3 v4 = some (r, h9) → W p l e (RM 6 138) s m args below meth c H locs 0 0 (QI E ad h9 g r below args s) (F0 m 76 ls []) := by
  intro h v1 v2 v3 v4 H locs ls w hl hf
  unfold qX6_bestRule_76 at hf
  refine lv_iinc (v := (v4 + 1)) (lv' := [(4, .int (v4 + 1)), (0, .ref (ad 126)), (1, .int v1), (2, .int v2), (3, .int v3)]) C.1 C.2.1 dX6_bestRule_76 hl (k := 4) rfl (congrArg (fun z => v4 + z) (by decide)) (by decide) rfl (fun ls hl => ?_)
  refine lv_goto (tgt := 22) C.1 C.2.1 dX6_bestRule_79 (by decide) ?_
  exact hk22 _ _ _ _ _ _ _ _ w (lv_sub hl [1, 2, 3, 4, 0] rfl) hf
def qX6_bestRule_70 (k22 : Hp → Int32 → Int32 → Int32 → Int32 → Option (Int32 × Hp)) (h : Hp) (v1 : Int32) (v4 : Int32) (v5 : Int32) : Option (Int32 × Hp) :=
(qX6_bestRule_76 k22 h v1 v4 v5 v4)
set_option maxHeartbeats 4000000 in
set_option maxRecDepth 100000 in
theorem w_X6_bestRule_70 {p : Program} {l : Launch} {e : Env} {s : State} {m : MethodId} {args : Array Value} {below : List Frame} {meth : Method} {c : Code} {E : Ev} {ad : Nat → Nat} {g : Gp} {r : Int32} {h9 : Hp} {k22 : Hp → Int32 → Int32 → Int32 → Int32 → Option (Int32 × Hp)} (C : CallFix p m c cX6_bestRule 6 s args lwA RX6) (hr : meth.sig.returnType = (some .int)) (hlk : meth.locks = false) (X : Sx E ad s) (hI : Inj ad) (hk22 : ∀ (h : Hp) (v1 : Int32) (v2 : Int32) (v3 : Int32) (v4 : Int32) (H : Heap) (locs : List Loc) (ls : Array Slot), At E ad h g s H locs → lv_has ls 6 [(0, .ref (ad 126)), (1, .int v1), (2, .int v2), (3, .int v3), (4, .int v4)] → k22 h v1 v2 v3 v4 = some (r, h9) → W p l e (RM 6 138) s m args below meth c H locs 0 0 (QI E ad h9 g r below args s) (F0 m 22 ls [])) : ∀ (h : Hp) (v1 : Int32) (v4 : Int32) (v5 : Int32) (H : Heap) (locs : List Loc) (ls : Array Slot), At E ad h g s H locs → lv_has ls 6 [(0, .ref (ad 126)), (1, .int v1), (4, .int v4), (5, .int v5)] → qX6_bestRule_70 k22 h v1 v4 v5 = some (r, h9) → W p l e (RM 6 138) s m args below meth c H locs 0 0 (QI E ad h9 g r below args s) (F0 m 70 ls []) := by
  intro h v1 v4 v5 H locs ls w hl hf
  unfold qX6_bestRule_70 at hf
  refine lv_iload C.1 C.2.1 dX6_bestRule_70 (lv_at hl 2 rfl) ?_
  refine lv_istore_n (lv' := [(2, .int v4), (0, .ref (ad 126)), (1, .int v1), (4, .int v4), (5, .int v5)]) C.1 C.2.1 dX6_bestRule_72 rfl hl (by decide) rfl (fun ls hl => ?_)
  refine lv_iload C.1 C.2.1 dX6_bestRule_73 (lv_at hl 4 rfl) ?_
  refine lv_istore_n (lv' := [(3, .int v5), (2, .int v4), (0, .ref (ad 126)), (1, .int v1), (4, .int v4), (5, .int v5)]) C.1 C.2.1 dX6_bestRule_75 rfl hl (by decide) rfl (fun ls hl => ?_)
  exact w_X6_bestRule_76 C hr hlk X hI hk22 _ _ _ _ _ _ _ _ w (lv_sub hl [2, 3, 1, 0, 4] rfl) hf
def qX6_bestRule_22 : Nat → Hp → Int32 → Int32 → Int32 → Int32 → Option (Int32 × Hp)
  | 0, _, _, _, _, _ => none
  | n + 1, h, v1, v2, v3, v4 =>
    (if (4 : Int32) ≤ v4 then (some (v2, h))
    else (bi1 (qX6_look h v4 ((h 0) 33) ((h 0) 34) v1) (fun h26 =>
    (bi1 (qX2_staredByAll (h26 1)) (fun r28 =>
    (if v2 = (-9 : Int32) then (qX6_bestRule_70 (qX6_bestRule_22 n) h26 v1 v4 r28)
    else (if v3 ≤ r28 then (qX6_bestRule_76 (qX6_bestRule_22 n) h26 v1 v2 v3 v4)
    else (qX6_bestRule_70 (qX6_bestRule_22 n) h26 v1 v4 r28))))))))
set_option maxHeartbeats 4000000 in
set_option maxRecDepth 100000 in
theorem w_X6_bestRule_22 {p : Program} {l : Launch} {e : Env} {s : State} {m : MethodId} {args : Array Value} {below : List Frame} {meth : Method} {c : Code} {E : Ev} {ad : Nat → Nat} {g : Gp} {r : Int32} {h9 : Hp} (C : CallFix p m c cX6_bestRule 6 s args lwA RX6) (hr : meth.sig.returnType = (some .int)) (hlk : meth.locks = false) (X : Sx E ad s) (hI : Inj ad)  : ∀ (n : Nat), ∀ (h : Hp) (v1 : Int32) (v2 : Int32) (v3 : Int32) (v4 : Int32) (H : Heap) (locs : List Loc) (ls : Array Slot), At E ad h g s H locs → lv_has ls 6 [(0, .ref (ad 126)), (1, .int v1), (2, .int v2), (3, .int v3), (4, .int v4)] → qX6_bestRule_22 n h v1 v2 v3 v4 = some (r, h9) → W p l e (RM 6 138) s m args below meth c H locs 0 0 (QI E ad h9 g r below args s) (F0 m 22 ls []) := by
  intro n
  induction n with
  | zero =>
    intro h v1 v2 v3 v4 H locs ls w hl hf
    cases hf
  | succ n ih =>
    intro h v1 v2 v3 v4 H locs ls w hl hf
    rw [qX6_bestRule_22] at hf
    refine lv_iload C.1 C.2.1 dX6_bestRule_22 (lv_at hl 4 rfl) ?_
    refine lv_iconst (v := 4) C.1 C.2.1 dX6_bestRule_24 (by decide) ?_
    refine lv_icmp_ge (tgt := 82) C.1 C.2.1 dX6_bestRule_25 (by decide) (fun c23 => ?_) (fun c23 => ?_)
    · rw [if_pos c23] at hf
      refine lv_iload_n C.1 C.2.1 dX6_bestRule_82 rfl (lv_at hl 2 rfl) ?_
      cases hf
      exact x_iret C hr hlk w dX6_bestRule_83
    · rw [if_neg c23] at hf
      refine lv_aload_n C.1 C.2.1 dX6_bestRule_28 rfl (lv_at hl 0 rfl) ?_
      refine lv_iload C.1 C.2.1 dX6_bestRule_29 (lv_at hl 4 rfl) ?_
      refine lv_aload_n C.1 C.2.1 dX6_bestRule_31 rfl (lv_at hl 0 rfl) ?_
      refine gf_X6_28 C X w rfl dX6_bestRule_32 ?_
      refine gf_X6_93 (b := 0) C X w rfl (by decide) dX6_bestRule_35 ?_
      refine lv_aload_n C.1 C.2.1 dX6_bestRule_38 rfl (lv_at hl 0 rfl) ?_
      refine gf_X6_28 C X w rfl dX6_bestRule_39 ?_
      refine gf_X6_94 (b := 0) C X w rfl (by decide) dX6_bestRule_42 ?_
      refine lv_iload_n C.1 C.2.1 dX6_bestRule_45 rfl (lv_at hl 1 rfl) ?_
      obtain ⟨h26, eq24, hf⟩ := bi1_e hf
      refine x_cVv (As := [.int v4, .int ((h 0) 33), .int ((h 0) 34), .int v1]) (rest := []) C X w (c_X6_look hI eq24) mw_X6_look ml_X6_196 rcv_r18 rfl hl.1 rfl (Nat.le_of_ble_eq_true rfl) ⟨⟨Nat.le_of_ble_eq_true rfl, Nat.le_of_ble_eq_true rfl⟩, Nat.le_of_ble_eq_true rfl, Nat.le_of_ble_eq_true rfl⟩ dX6_bestRule_46 (fun H locs w => ?_)
      refine lv_aload_n C.1 C.2.1 dX6_bestRule_49 rfl (lv_at hl 0 rfl) ?_
      refine gf_X6_32 C X w rfl dX6_bestRule_50 ?_
      obtain ⟨r28, eq27, hf⟩ := bi1_e hf
      refine x_cViN (As := []) (rest := []) C X (at_su 1 w) (c_X2_staredByAll hI (by decide) eq27) mw_X2_staredByAll ml_X6_206 (rcv_P (b := 1) (su_same _ _ _) (by decide)) rfl hl.1 rfl (Nat.le_of_ble_eq_true rfl) ⟨⟨Nat.le_of_ble_eq_true rfl, Nat.le_of_ble_eq_true rfl⟩, Nat.le_of_ble_eq_true rfl, Nat.le_of_ble_eq_true rfl⟩ dX6_bestRule_53 (fun H locs w => ?_)
      replace w := at_us w
      refine lv_istore (lv' := [(5, .int r28), (0, .ref (ad 126)), (1, .int v1), (2, .int v2), (3, .int v3), (4, .int v4)]) C.1 C.2.1 dX6_bestRule_56 hl (by decide) rfl (fun ls hl => ?_)
      refine lv_iload_n C.1 C.2.1 dX6_bestRule_58 rfl (lv_at hl 3 rfl) ?_
      refine lv_bipush (v := -9) C.1 C.2.1 dX6_bestRule_59 (by decide) ?_
      refine lv_icmp_eq (tgt := 70) C.1 C.2.1 dX6_bestRule_61 (by decide) (fun c29 => ?_) (fun c29 => ?_)
      · rw [if_pos c29] at hf
        exact w_X6_bestRule_70 C hr hlk X hI ih _ _ _ _ _ _ _ w (lv_sub hl [1, 2, 5, 0] rfl) hf
      · rw [if_neg c29] at hf
        refine lv_iload C.1 C.2.1 dX6_bestRule_64 (lv_at hl 0 rfl) ?_
        refine lv_iload_n C.1 C.2.1 dX6_bestRule_66 rfl (lv_at hl 4 rfl) ?_
        refine lv_icmp_ge (tgt := 76) C.1 C.2.1 dX6_bestRule_67 (by decide) (fun c30 => ?_) (fun c30 => ?_)
        · rw [if_pos c30] at hf
          exact w_X6_bestRule_76 C hr hlk X hI ih _ _ _ _ _ _ _ _ w (lv_sub hl [1, 2, 3, 4, 5] rfl) hf
        · rw [if_neg c30] at hf
          exact w_X6_bestRule_70 C hr hlk X hI ih _ _ _ _ _ _ _ w (lv_sub hl [1, 2, 5, 0] rfl) hf
def qX6_bestRule (h : Hp) (x1 : Int32) : Option (Int32 × Hp) :=
(if x1 < (1 : Int32) then (some ((-2 : Int32), h))
else (if x1 ≤ (30 : Int32) then (qX6_bestRule_22 600 h x1 (-9 : Int32) (0 : Int32) (0 : Int32))
else (some ((-2 : Int32), h))))
set_option maxHeartbeats 4000000 in
set_option maxRecDepth 100000 in
theorem c_X6_bestRule {l : Launch} {E : Ev} {ad : Nat → Nat} {g : Gp} {h : Hp} {x1 : Int32} {r : Int32} {h9 : Hp} (hI : Inj ad) (hf : qX6_bestRule h x1 = some (r, h9)) : CtI l yX6_bestRule cX6_bestRule 6 (some .int) 6 138 E ad g g [.ref (ad 126), .int x1] h h9 r := by
  refine x_begin (by decide) (Nat.le_of_ble_eq_true rfl) ?_
  intro p e s m below meth c ls C hr hlk X w hl
  replace hl : lv_has ls 6 [(0, .ref (ad 126)), (1, .int x1)] := hl
  replace C : CallFix p m c cX6_bestRule 6 s ([.ref (ad 126), .int x1] : List Value).toArray lwA RX6 := C
  unfold qX6_bestRule at hf
  refine lv_iload_n C.1 C.2.1 dX6_bestRule_0 rfl (lv_at hl 1 rfl) ?_
  refine lv_iconst (v := 1) C.1 C.2.1 dX6_bestRule_1 (by decide) ?_
  refine lv_icmp_lt (tgt := 11) C.1 C.2.1 dX6_bestRule_2 (by decide) (fun c21 => ?_) (fun c21 => ?_)
  · rw [if_pos c21] at hf
    refine lv_bipush (v := -2) C.1 C.2.1 dX6_bestRule_11 (by decide) ?_
    cases hf
    exact x_iret C hr hlk w dX6_bestRule_13
  · rw [if_neg c21] at hf
    refine lv_iload_n C.1 C.2.1 dX6_bestRule_5 rfl (lv_at hl 1 rfl) ?_
    refine lv_bipush (v := 30) C.1 C.2.1 dX6_bestRule_6 (by decide) ?_
    refine lv_icmp_le (tgt := 14) C.1 C.2.1 dX6_bestRule_8 (by decide) (fun c22 => ?_) (fun c22 => ?_)
    · rw [if_pos c22] at hf
      refine lv_bipush (v := -9) C.1 C.2.1 dX6_bestRule_14 (by decide) ?_
      refine lv_istore_n (lv' := [(2, .int (-9 : Int32)), (0, .ref (ad 126)), (1, .int x1)]) C.1 C.2.1 dX6_bestRule_16 rfl hl (by decide) rfl (fun ls hl => ?_)
      refine lv_iconst (v := 0) C.1 C.2.1 dX6_bestRule_17 (by decide) ?_
      refine lv_istore_n (lv' := [(3, .int (0 : Int32)), (2, .int (-9 : Int32)), (0, .ref (ad 126)), (1, .int x1)]) C.1 C.2.1 dX6_bestRule_18 rfl hl (by decide) rfl (fun ls hl => ?_)
      refine lv_iconst (v := 0) C.1 C.2.1 dX6_bestRule_19 (by decide) ?_
      refine lv_istore (lv' := [(4, .int (0 : Int32)), (3, .int (0 : Int32)), (2, .int (-9 : Int32)), (0, .ref (ad 126)), (1, .int x1)]) C.1 C.2.1 dX6_bestRule_20 hl (by decide) rfl (fun ls hl => ?_)
      exact w_X6_bestRule_22 C hr hlk X hI 600 _ _ _ _ _ _ _ _ w (lv_sub hl [3, 4, 2, 1, 0] rfl) hf
    · rw [if_neg c22] at hf
      refine lv_bipush (v := -2) C.1 C.2.1 dX6_bestRule_11 (by decide) ?_
      cases hf
      exact x_iret C hr hlk w dX6_bestRule_13

def qX6_first_26 : Nat → Hp → Int32 → Int32 → Option (Int32 × Hp)
  | 0, _, _, _ => none
  | n + 1, h, v1, v2 =>
    (if (60 : Int32) < v2 then (some ((-9 : Int32), h))
    else (bi1 (qX2_rides (h 1) v1) (fun r30 =>
    (if r30 = 0 then (bi1 (qX2_passMinute (h 22) (h 23) (h 1)) (fun P34 =>
    (bd (su h 1 P34) (fun h35 =>
    (qX6_first_26 n h35 v1 (v2 + 1))))))
    else (some (v2, h))))))
set_option maxHeartbeats 4000000 in
set_option maxRecDepth 100000 in
theorem w_X6_first_26 {p : Program} {l : Launch} {e : Env} {s : State} {m : MethodId} {args : Array Value} {below : List Frame} {meth : Method} {c : Code} {E : Ev} {ad : Nat → Nat} {g : Gp} {r : Int32} {h9 : Hp} (C : CallFix p m c cX6_first 3 s args lwA RX6) (hr : meth.sig.returnType = (some .int)) (hlk : meth.locks = false) (X : Sx E ad s) (hI : Inj ad)  : ∀ (n : Nat), ∀ (h : Hp) (v1 : Int32) (v2 : Int32) (H : Heap) (locs : List Loc) (ls : Array Slot), At E ad h g s H locs → lv_has ls 3 [(0, .ref (ad 126)), (1, .int v1), (2, .int v2)] → qX6_first_26 n h v1 v2 = some (r, h9) → W p l e (RM 5 113) s m args below meth c H locs 0 0 (QI E ad h9 g r below args s) (F0 m 26 ls []) := by
  intro n
  induction n with
  | zero =>
    intro h v1 v2 H locs ls w hl hf
    cases hf
  | succ n ih =>
    intro h v1 v2 H locs ls w hl hf
    rw [qX6_first_26] at hf
    refine lv_iload_n C.1 C.2.1 dX6_first_26 rfl (lv_at hl 2 rfl) ?_
    refine lv_bipush (v := 60) C.1 C.2.1 dX6_first_27 (by decide) ?_
    refine lv_icmp_gt (tgt := 58) C.1 C.2.1 dX6_first_29 (by decide) (fun c28 => ?_) (fun c28 => ?_)
    · rw [if_pos c28] at hf
      refine lv_bipush (v := -9) C.1 C.2.1 dX6_first_58 (by decide) ?_
      cases hf
      exact x_iret C hr hlk w dX6_first_60
    · rw [if_neg c28] at hf
      refine lv_aload_n C.1 C.2.1 dX6_first_32 rfl (lv_at hl 0 rfl) ?_
      refine gf_X6_32 C X w rfl dX6_first_33 ?_
      refine lv_iload_n C.1 C.2.1 dX6_first_36 rfl (lv_at hl 1 rfl) ?_
      obtain ⟨r30, eq29, hf⟩ := bi1_e hf
      refine x_cViN (As := [.int v1]) (rest := []) C X (at_su 1 w) (c_X2_rides hI (by decide) eq29) mw_X2_rides ml_X6_156 (rcv_P (b := 1) (su_same _ _ _) (by decide)) rfl hl.1 rfl (Nat.le_of_ble_eq_true rfl) ⟨⟨Nat.le_of_ble_eq_true rfl, Nat.le_of_ble_eq_true rfl⟩, Nat.le_of_ble_eq_true rfl, Nat.le_of_ble_eq_true rfl⟩ dX6_first_37 (fun H locs w => ?_)
      replace w := at_us w
      refine lv_if_eq (tgt := 45) C.1 C.2.1 dX6_first_40 (by decide) (fun c31 => ?_) (fun c31 => ?_)
      · rw [if_pos c31] at hf
        refine lv_aload_n C.1 C.2.1 dX6_first_45 rfl (lv_at hl 0 rfl) ?_
        refine gf_X6_32 C X w rfl dX6_first_46 ?_
        obtain ⟨P34, eq32, hf⟩ := bi1_e hf
        obtain ⟨h35, eh35, hf⟩ := bd_e hf
        refine x_cVvN (As := []) (rest := []) C X (at_su 1 w) (c_X2_passMinute hI (by decide) eq32) mw_X2_passMinute ml_X6_153 (rcv_P (b := 1) (su_same _ _ _) (by decide)) rfl hl.1 rfl (Nat.le_of_ble_eq_true rfl) ⟨⟨Nat.le_of_ble_eq_true rfl, Nat.le_of_ble_eq_true rfl⟩, Nat.le_of_ble_eq_true rfl, Nat.le_of_ble_eq_true rfl⟩ dX6_first_49 (fun H locs w => ?_)
        replace w := at_eq eh35 w
        refine lv_iinc (v := (v2 + 1)) (lv' := [(2, .int (v2 + 1)), (0, .ref (ad 126)), (1, .int v1)]) C.1 C.2.1 dX6_first_52 hl (k := 2) rfl (congrArg (fun z => v2 + z) (by decide)) (by decide) rfl (fun ls hl => ?_)
        refine lv_goto (tgt := 26) C.1 C.2.1 dX6_first_55 (by decide) ?_
        exact ih _ _ _ _ _ _ w (lv_sub hl [1, 2, 0] rfl) hf
      · rw [if_neg c31] at hf
        refine lv_iload_n C.1 C.2.1 dX6_first_43 rfl (lv_at hl 2 rfl) ?_
        cases hf
        exact x_iret C hr hlk w dX6_first_44
def qX6_first (h : Hp) (x1 : Int32) : Option (Int32 × Hp) :=
(bi1 (qX2_isThere (h 0) x1) (fun r22 =>
(if r22 = 0 then (some ((-1 : Int32), h))
else (bi1 (qX2_copyFrom (h 0) (h 1)) (fun P26 =>
(bd (su h 1 P26) (fun h27 =>
(qX6_first_26 600 h27 x1 (0 : Int32)))))))))
set_option maxHeartbeats 4000000 in
set_option maxRecDepth 100000 in
theorem c_X6_first {l : Launch} {E : Ev} {ad : Nat → Nat} {g : Gp} {h : Hp} {x1 : Int32} {r : Int32} {h9 : Hp} (hI : Inj ad) (hf : qX6_first h x1 = some (r, h9)) : CtI l yX6_first cX6_first 3 (some .int) 5 113 E ad g g [.ref (ad 126), .int x1] h h9 r := by
  refine x_begin (by decide) (Nat.le_of_ble_eq_true rfl) ?_
  intro p e s m below meth c ls C hr hlk X w hl
  replace hl : lv_has ls 3 [(0, .ref (ad 126)), (1, .int x1)] := hl
  replace C : CallFix p m c cX6_first 3 s ([.ref (ad 126), .int x1] : List Value).toArray lwA RX6 := C
  unfold qX6_first at hf
  refine lv_aload_n C.1 C.2.1 dX6_first_0 rfl (lv_at hl 0 rfl) ?_
  refine gf_X6_28 C X w rfl dX6_first_1 ?_
  refine lv_iload_n C.1 C.2.1 dX6_first_4 rfl (lv_at hl 1 rfl) ?_
  obtain ⟨r22, eq21, hf⟩ := bi1_e hf
  refine x_cViN (As := [.int x1]) (rest := []) C X (at_su 0 w) (c_X2_isThere hI (by decide) eq21) mw_X2_isThere ml_X6_117 (rcv_P (b := 0) (su_same _ _ _) (by decide)) rfl hl.1 rfl (Nat.le_of_ble_eq_true rfl) ⟨⟨Nat.le_of_ble_eq_true rfl, Nat.le_of_ble_eq_true rfl⟩, Nat.le_of_ble_eq_true rfl, Nat.le_of_ble_eq_true rfl⟩ dX6_first_5 (fun H locs w => ?_)
  replace w := at_us w
  refine lv_if_ne (tgt := 13) C.1 C.2.1 dX6_first_8 (by decide) (fun c23 => ?_) (fun c23 => ?_)
  · rw [if_neg c23] at hf
    refine lv_aload_n C.1 C.2.1 dX6_first_13 rfl (lv_at hl 0 rfl) ?_
    refine gf_X6_32 C X w rfl dX6_first_14 ?_
    refine lv_aload_n C.1 C.2.1 dX6_first_17 rfl (lv_at hl 0 rfl) ?_
    refine gf_X6_28 C X w rfl dX6_first_18 ?_
    obtain ⟨P26, eq24, hf⟩ := bi1_e hf
    obtain ⟨h27, eh27, hf⟩ := bd_e hf
    refine x_cVvN (As := [.ref (ad (7 * 0))]) (rest := []) C X (at_su 1 w) (c_X2_copyFrom hI (by decide) (by decide) (by first | decide | omega) eq24) mw_X2_copyFrom ml_X6_209 (rcv_P (b := 1) (su_same _ _ _) (by decide)) rfl hl.1 rfl (Nat.le_of_ble_eq_true rfl) ⟨⟨Nat.le_of_ble_eq_true rfl, Nat.le_of_ble_eq_true rfl⟩, Nat.le_of_ble_eq_true rfl, Nat.le_of_ble_eq_true rfl⟩ dX6_first_21 (fun H locs w => ?_)
    replace w := at_eq eh27 w
    refine lv_iconst (v := 0) C.1 C.2.1 dX6_first_24 (by decide) ?_
    refine lv_istore_n (lv' := [(2, .int (0 : Int32)), (0, .ref (ad 126)), (1, .int x1)]) C.1 C.2.1 dX6_first_25 rfl hl (by decide) rfl (fun ls hl => ?_)
    exact w_X6_first_26 C hr hlk X hI 600 _ _ _ _ _ _ w (lv_sub hl [1, 2, 0] rfl) hf
  · rw [if_pos c23] at hf
    refine lv_iconst (v := -1) C.1 C.2.1 dX6_first_11 (by decide) ?_
    cases hf
    exact x_iret C hr hlk w dX6_first_12

def qX6_second (h : Hp) (x1 : Int32) : Option (Int32 × Hp) :=
(if x1 < (1 : Int32) then (some ((-2 : Int32), h))
else (if x1 ≤ (30 : Int32) then (bi1 (qX6_look h ((h 0) 32) ((h 0) 33) ((h 0) 34) x1) (fun h25 =>
(bi1 (qX2_staredByAll (h25 1)) (fun r27 =>
(bi1 (qX6_look h25 ((h25 0) 32) ((h25 0) 33) (2 : Int32) x1) (fun h30 =>
(bi1 (qX2_staredByAll (h30 1)) (fun r32 =>
(some ((r27 - r32), h30))))))))))
else (some ((-2 : Int32), h))))
set_option maxHeartbeats 4000000 in
set_option maxRecDepth 100000 in
theorem c_X6_second {l : Launch} {E : Ev} {ad : Nat → Nat} {g : Gp} {h : Hp} {x1 : Int32} {r : Int32} {h9 : Hp} (hI : Inj ad) (hf : qX6_second h x1 = some (r, h9)) : CtI l yX6_second cX6_second 3 (some .int) 6 138 E ad g g [.ref (ad 126), .int x1] h h9 r := by
  refine x_begin (by decide) (Nat.le_of_ble_eq_true rfl) ?_
  intro p e s m below meth c ls C hr hlk X w hl
  replace hl : lv_has ls 3 [(0, .ref (ad 126)), (1, .int x1)] := hl
  replace C : CallFix p m c cX6_second 3 s ([.ref (ad 126), .int x1] : List Value).toArray lwA RX6 := C
  unfold qX6_second at hf
  refine lv_iload_n C.1 C.2.1 dX6_second_0 rfl (lv_at hl 1 rfl) ?_
  refine lv_iconst (v := 1) C.1 C.2.1 dX6_second_1 (by decide) ?_
  refine lv_icmp_lt (tgt := 11) C.1 C.2.1 dX6_second_2 (by decide) (fun c21 => ?_) (fun c21 => ?_)
  · rw [if_pos c21] at hf
    refine lv_bipush (v := -2) C.1 C.2.1 dX6_second_11 (by decide) ?_
    cases hf
    exact x_iret C hr hlk w dX6_second_13
  · rw [if_neg c21] at hf
    refine lv_iload_n C.1 C.2.1 dX6_second_5 rfl (lv_at hl 1 rfl) ?_
    refine lv_bipush (v := 30) C.1 C.2.1 dX6_second_6 (by decide) ?_
    refine lv_icmp_le (tgt := 14) C.1 C.2.1 dX6_second_8 (by decide) (fun c22 => ?_) (fun c22 => ?_)
    · rw [if_pos c22] at hf
      refine lv_aload_n C.1 C.2.1 dX6_second_14 rfl (lv_at hl 0 rfl) ?_
      refine lv_aload_n C.1 C.2.1 dX6_second_15 rfl (lv_at hl 0 rfl) ?_
      refine gf_X6_28 C X w rfl dX6_second_16 ?_
      refine gf_X6_90 (b := 0) C X w rfl (by decide) dX6_second_19 ?_
      refine lv_aload_n C.1 C.2.1 dX6_second_22 rfl (lv_at hl 0 rfl) ?_
      refine gf_X6_28 C X w rfl dX6_second_23 ?_
      refine gf_X6_93 (b := 0) C X w rfl (by decide) dX6_second_26 ?_
      refine lv_aload_n C.1 C.2.1 dX6_second_29 rfl (lv_at hl 0 rfl) ?_
      refine gf_X6_28 C X w rfl dX6_second_30 ?_
      refine gf_X6_94 (b := 0) C X w rfl (by decide) dX6_second_33 ?_
      refine lv_iload_n C.1 C.2.1 dX6_second_36 rfl (lv_at hl 1 rfl) ?_
      obtain ⟨h25, eq23, hf⟩ := bi1_e hf
      refine x_cVv (As := [.int ((h 0) 32), .int ((h 0) 33), .int ((h 0) 34), .int x1]) (rest := []) C X w (c_X6_look hI eq23) mw_X6_look ml_X6_196 rcv_r18 rfl hl.1 rfl (Nat.le_of_ble_eq_true rfl) ⟨⟨Nat.le_of_ble_eq_true rfl, Nat.le_of_ble_eq_true rfl⟩, Nat.le_of_ble_eq_true rfl, Nat.le_of_ble_eq_true rfl⟩ dX6_second_37 (fun H locs w => ?_)
      refine lv_aload_n C.1 C.2.1 dX6_second_40 rfl (lv_at hl 0 rfl) ?_
      refine gf_X6_32 C X w rfl dX6_second_41 ?_
      obtain ⟨r27, eq26, hf⟩ := bi1_e hf
      refine x_cViN (As := []) (rest := []) C X (at_su 1 w) (c_X2_staredByAll hI (by decide) eq26) mw_X2_staredByAll ml_X6_206 (rcv_P (b := 1) (su_same _ _ _) (by decide)) rfl hl.1 rfl (Nat.le_of_ble_eq_true rfl) ⟨⟨Nat.le_of_ble_eq_true rfl, Nat.le_of_ble_eq_true rfl⟩, Nat.le_of_ble_eq_true rfl, Nat.le_of_ble_eq_true rfl⟩ dX6_second_44 (fun H locs w => ?_)
      replace w := at_us w
      refine lv_istore_n (lv' := [(2, .int r27), (0, .ref (ad 126)), (1, .int x1)]) C.1 C.2.1 dX6_second_47 rfl hl (by decide) rfl (fun ls hl => ?_)
      refine lv_aload_n C.1 C.2.1 dX6_second_48 rfl (lv_at hl 1 rfl) ?_
      refine lv_aload_n C.1 C.2.1 dX6_second_49 rfl (lv_at hl 1 rfl) ?_
      refine gf_X6_28 C X w rfl dX6_second_50 ?_
      refine gf_X6_90 (b := 0) C X w rfl (by decide) dX6_second_53 ?_
      refine lv_aload_n C.1 C.2.1 dX6_second_56 rfl (lv_at hl 1 rfl) ?_
      refine gf_X6_28 C X w rfl dX6_second_57 ?_
      refine gf_X6_93 (b := 0) C X w rfl (by decide) dX6_second_60 ?_
      refine lv_iconst (v := 2) C.1 C.2.1 dX6_second_63 (by decide) ?_
      refine lv_iload_n C.1 C.2.1 dX6_second_64 rfl (lv_at hl 2 rfl) ?_
      obtain ⟨h30, eq28, hf⟩ := bi1_e hf
      refine x_cVv (As := [.int ((h25 0) 32), .int ((h25 0) 33), .int (2 : Int32), .int x1]) (rest := []) C X w (c_X6_look hI eq28) mw_X6_look ml_X6_196 rcv_r18 rfl hl.1 rfl (Nat.le_of_ble_eq_true rfl) ⟨⟨Nat.le_of_ble_eq_true rfl, Nat.le_of_ble_eq_true rfl⟩, Nat.le_of_ble_eq_true rfl, Nat.le_of_ble_eq_true rfl⟩ dX6_second_65 (fun H locs w => ?_)
      refine lv_iload_n C.1 C.2.1 dX6_second_68 rfl (lv_at hl 0 rfl) ?_
      refine lv_aload_n C.1 C.2.1 dX6_second_69 rfl (lv_at hl 1 rfl) ?_
      refine gf_X6_32 C X w rfl dX6_second_70 ?_
      obtain ⟨r32, eq31, hf⟩ := bi1_e hf
      refine x_cViN (As := []) (rest := [.int r27]) C X (at_su 1 w) (c_X2_staredByAll hI (by decide) eq31) mw_X2_staredByAll ml_X6_206 (rcv_P (b := 1) (su_same _ _ _) (by decide)) rfl hl.1 rfl (Nat.le_of_ble_eq_true rfl) ⟨⟨Nat.le_of_ble_eq_true rfl, Nat.le_of_ble_eq_true rfl⟩, Nat.le_of_ble_eq_true rfl, Nat.le_of_ble_eq_true rfl⟩ dX6_second_73 (fun H locs w => ?_)
      replace w := at_us w
      refine lv_isub C.1 C.2.1 dX6_second_76 ?_
      cases hf
      exact x_iret C hr hlk w dX6_second_77
    · rw [if_neg c22] at hf
      refine lv_bipush (v := -2) C.1 C.2.1 dX6_second_11 (by decide) ?_
      cases hf
      exact x_iret C hr hlk w dX6_second_13

def qX6_judge_44 : Nat → Hp → Int32 → Int32 → Int32 → Option (Int32 × Hp)
  | 0, _, _, _, _ => none
  | n + 1, h, v1, v2, v3 =>
    (if v1 ≤ v3 then (some ((-9 : Int32), h))
    else (ck (inb ((v1 - (1 : Int32)) - v3) 4) ((ck (nz (hunR (((v1 - (1 : Int32)) - v3)).toNatClampNeg)) ((bd ((v2 / (hunR (((v1 - (1 : Int32)) - v3)).toNatClampNeg)) - (v2 / (hunR (((v1 - (1 : Int32)) - v3)).toNatClampNeg)) / (100 : Int32) * (100 : Int32)) (fun x35 =>
    (bi2 (qX2_doIfItCanBe (h 22) (h 23) (h 1) (x35 / (10 : Int32)) (x35 - x35 / (10 : Int32) * (10 : Int32))) (fun r37 P38 =>
    (bd (su h 1 P38) (fun h39 =>
    (if r37 = 0 then (some (v3, h39))
    else (qX6_judge_44 n h39 v1 v2 (v3 + 1))))))))))))))
set_option maxHeartbeats 4000000 in
set_option maxRecDepth 100000 in
theorem w_X6_judge_44 {p : Program} {l : Launch} {e : Env} {s : State} {m : MethodId} {args : Array Value} {below : List Frame} {meth : Method} {c : Code} {E : Ev} {ad : Nat → Nat} {g : Gp} {r : Int32} {h9 : Hp} (C : CallFix p m c cX6_judge 5 s args lwA RX6) (hr : meth.sig.returnType = (some .int)) (hlk : meth.locks = false) (X : Sx E ad s) (hI : Inj ad)  : ∀ (n : Nat), ∀ (h : Hp) (v1 : Int32) (v2 : Int32) (v3 : Int32) (H : Heap) (locs : List Loc) (ls : Array Slot), At E ad h g s H locs → lv_has ls 5 [(0, .ref (ad 126)), (1, .int v1), (2, .int v2), (3, .int v3)] → qX6_judge_44 n h v1 v2 v3 = some (r, h9) → W p l e (RM 6 135) s m args below meth c H locs 0 0 (QI E ad h9 g r below args s) (F0 m 44 ls []) := by
  intro n
  induction n with
  | zero =>
    intro h v1 v2 v3 H locs ls w hl hf
    cases hf
  | succ n ih =>
    intro h v1 v2 v3 H locs ls w hl hf
    rw [qX6_judge_44] at hf
    refine lv_iload_n C.1 C.2.1 dX6_judge_44 rfl (lv_at hl 3 rfl) ?_
    refine lv_iload_n C.1 C.2.1 dX6_judge_45 rfl (lv_at hl 1 rfl) ?_
    refine lv_icmp_ge (tgt := 93) C.1 C.2.1 dX6_judge_46 (by decide) (fun c32 => ?_) (fun c32 => ?_)
    · rw [if_pos c32] at hf
      refine lv_bipush (v := -9) C.1 C.2.1 dX6_judge_93 (by decide) ?_
      cases hf
      exact x_iret C hr hlk w dX6_judge_95
    · rw [if_neg c32] at hf
      refine lv_iload_n C.1 C.2.1 dX6_judge_49 rfl (lv_at hl 2 rfl) ?_
      obtain ⟨t33, hZt33, hTt33⟩ := X.2.2.1
      refine va_gets C.1 C.2.1 hZt33 w.2 C.2.2.2.1 (C.2.2.2.2 _ wd_fieldLink_OneTricycle_212_OneTricycle_HUNDREDS_I_) (fun _ h9 => h9) dX6_judge_50 ?_
      refine lv_iload_n C.1 C.2.1 dX6_judge_53 rfl (lv_at hl 1 rfl) ?_
      refine lv_iconst (v := 1) C.1 C.2.1 dX6_judge_54 (by decide) ?_
      refine lv_isub C.1 C.2.1 dX6_judge_55 ?_
      refine lv_iload_n C.1 C.2.1 dX6_judge_56 rfl (lv_at hl 3 rfl) ?_
      refine lv_isub C.1 C.2.1 dX6_judge_57 ?_
      obtain ⟨i34, hf⟩ := ck_e hf
      refine va_ti C.1 C.2.1 hTt33 w.2 (inb_in i34) (v := .int (hunR (((v1 - (1 : Int32)) - v3)).toNatClampNeg)) rfl dX6_judge_58 ?_
      obtain ⟨z41, hf⟩ := ck_e hf
      refine lv_idiv C.1 C.2.1 dX6_judge_59 (nz_e z41) ?_
      refine lv_bipush (v := 100) C.1 C.2.1 dX6_judge_60 (by decide) ?_
      refine lv_irem C.1 C.2.1 dX6_judge_62 (by decide) ?_
      obtain ⟨x35, ex35, hf⟩ := bd_e hf
      refine x_tp ex35 ?_
      refine lv_istore (lv' := [(4, .int x35), (0, .ref (ad 126)), (1, .int v1), (2, .int v2), (3, .int v3)]) C.1 C.2.1 dX6_judge_63 hl (by decide) rfl (fun ls hl => ?_)
      refine lv_aload_n C.1 C.2.1 dX6_judge_65 rfl (lv_at hl 1 rfl) ?_
      refine gf_X6_32 C X w rfl dX6_judge_66 ?_
      refine lv_iload C.1 C.2.1 dX6_judge_69 (lv_at hl 0 rfl) ?_
      refine lv_bipush (v := 10) C.1 C.2.1 dX6_judge_71 (by decide) ?_
      refine lv_idiv C.1 C.2.1 dX6_judge_73 (by decide) ?_
      refine lv_iload C.1 C.2.1 dX6_judge_74 (lv_at hl 0 rfl) ?_
      refine lv_bipush (v := 10) C.1 C.2.1 dX6_judge_76 (by decide) ?_
      refine lv_irem C.1 C.2.1 dX6_judge_78 (by decide) ?_
      obtain ⟨r37, P38, eq36, hf⟩ := bi2_e hf
      obtain ⟨h39, eh39, hf⟩ := bd_e hf
      refine x_cViN (As := [.int (x35 / (10 : Int32)), .int (x35 - x35 / (10 : Int32) * (10 : Int32))]) (rest := []) C X (at_su 1 w) (c_X2_doIfItCanBe hI (by decide) eq36) mw_X2_doIfItCanBe ml_X6_215 (rcv_P (b := 1) (su_same _ _ _) (by decide)) rfl hl.1 rfl (Nat.le_of_ble_eq_true rfl) ⟨⟨Nat.le_of_ble_eq_true rfl, Nat.le_of_ble_eq_true rfl⟩, Nat.le_of_ble_eq_true rfl, Nat.le_of_ble_eq_true rfl⟩ dX6_judge_79 (fun H locs w => ?_)
      replace w := at_eq eh39 w
      refine lv_if_ne (tgt := 87) C.1 C.2.1 dX6_judge_82 (by decide) (fun c40 => ?_) (fun c40 => ?_)
      · rw [if_neg c40] at hf
        refine lv_iinc (v := (v3 + 1)) (lv' := [(3, .int (v3 + 1)), (4, .int x35), (0, .ref (ad 126)), (1, .int v1), (2, .int v2)]) C.1 C.2.1 dX6_judge_87 hl (k := 4) rfl (congrArg (fun z => v3 + z) (by decide)) (by decide) rfl (fun ls hl => ?_)
        refine lv_goto (tgt := 44) C.1 C.2.1 dX6_judge_90 (by decide) ?_
        exact ih _ _ _ _ _ _ _ w (lv_sub hl [2, 3, 4, 0] rfl) hf
      · rw [if_pos c40] at hf
        refine lv_iload_n C.1 C.2.1 dX6_judge_85 rfl (lv_at hl 4 rfl) ?_
        cases hf
        exact x_iret C hr hlk w dX6_judge_86
def qX6_judge (h : Hp) (x1 : Int32) (x2 : Int32) : Option (Int32 × Hp) :=
(if x1 < (1 : Int32) then (some ((-2 : Int32), h))
else (if (4 : Int32) < x1 then (some ((-2 : Int32), h))
else (if x2 < 0 then (some ((-2 : Int32), h))
else (ck (inb (x1 - (1 : Int32)) 4) ((ck (nz (hunR ((x1 - (1 : Int32))).toNatClampNeg)) ((if (x2 / (hunR ((x1 - (1 : Int32))).toNatClampNeg)) ≤ (99 : Int32) then (bi1 (qX2_copyFrom (h 0) (h 1)) (fun P29 =>
(bd (su h 1 P29) (fun h30 =>
(qX6_judge_44 600 h30 x1 x2 (0 : Int32))))))
else (some ((-2 : Int32), h))))))))))
set_option maxHeartbeats 4000000 in
set_option maxRecDepth 100000 in
theorem c_X6_judge {l : Launch} {E : Ev} {ad : Nat → Nat} {g : Gp} {h : Hp} {x1 : Int32} {x2 : Int32} {r : Int32} {h9 : Hp} (hI : Inj ad) (hf : qX6_judge h x1 x2 = some (r, h9)) : CtI l yX6_judge cX6_judge 5 (some .int) 6 135 E ad g g [.ref (ad 126), .int x1, .int x2] h h9 r := by
  refine x_begin (by decide) (Nat.le_of_ble_eq_true rfl) ?_
  intro p e s m below meth c ls C hr hlk X w hl
  replace hl : lv_has ls 5 [(0, .ref (ad 126)), (1, .int x1), (2, .int x2)] := hl
  replace C : CallFix p m c cX6_judge 5 s ([.ref (ad 126), .int x1, .int x2] : List Value).toArray lwA RX6 := C
  unfold qX6_judge at hf
  refine lv_iload_n C.1 C.2.1 dX6_judge_0 rfl (lv_at hl 1 rfl) ?_
  refine lv_iconst (v := 1) C.1 C.2.1 dX6_judge_1 (by decide) ?_
  refine lv_icmp_lt (tgt := 28) C.1 C.2.1 dX6_judge_2 (by decide) (fun c21 => ?_) (fun c21 => ?_)
  · rw [if_pos c21] at hf
    refine lv_bipush (v := -2) C.1 C.2.1 dX6_judge_28 (by decide) ?_
    cases hf
    exact x_iret C hr hlk w dX6_judge_30
  · rw [if_neg c21] at hf
    refine lv_iload_n C.1 C.2.1 dX6_judge_5 rfl (lv_at hl 1 rfl) ?_
    refine lv_iconst (v := 4) C.1 C.2.1 dX6_judge_6 (by decide) ?_
    refine lv_icmp_gt (tgt := 28) C.1 C.2.1 dX6_judge_7 (by decide) (fun c22 => ?_) (fun c22 => ?_)
    · rw [if_pos c22] at hf
      refine lv_bipush (v := -2) C.1 C.2.1 dX6_judge_28 (by decide) ?_
      cases hf
      exact x_iret C hr hlk w dX6_judge_30
    · rw [if_neg c22] at hf
      refine lv_iload_n C.1 C.2.1 dX6_judge_10 rfl (lv_at hl 2 rfl) ?_
      refine lv_if_lt (tgt := 28) C.1 C.2.1 dX6_judge_11 (by decide) (fun c23 => ?_) (fun c23 => ?_)
      · rw [if_pos c23] at hf
        refine lv_bipush (v := -2) C.1 C.2.1 dX6_judge_28 (by decide) ?_
        cases hf
        exact x_iret C hr hlk w dX6_judge_30
      · rw [if_neg c23] at hf
        refine lv_iload_n C.1 C.2.1 dX6_judge_14 rfl (lv_at hl 2 rfl) ?_
        obtain ⟨t24, hZt24, hTt24⟩ := X.2.2.1
        refine va_gets C.1 C.2.1 hZt24 w.2 C.2.2.2.1 (C.2.2.2.2 _ wd_fieldLink_OneTricycle_212_OneTricycle_HUNDREDS_I_) (fun _ h9 => h9) dX6_judge_15 ?_
        refine lv_iload_n C.1 C.2.1 dX6_judge_18 rfl (lv_at hl 1 rfl) ?_
        refine lv_iconst (v := 1) C.1 C.2.1 dX6_judge_19 (by decide) ?_
        refine lv_isub C.1 C.2.1 dX6_judge_20 ?_
        obtain ⟨i25, hf⟩ := ck_e hf
        refine va_ti C.1 C.2.1 hTt24 w.2 (inb_in i25) (v := .int (hunR ((x1 - (1 : Int32))).toNatClampNeg)) rfl dX6_judge_21 ?_
        obtain ⟨z31, hf⟩ := ck_e hf
        refine lv_idiv C.1 C.2.1 dX6_judge_22 (nz_e z31) ?_
        refine lv_bipush (v := 99) C.1 C.2.1 dX6_judge_23 (by decide) ?_
        refine lv_icmp_le (tgt := 31) C.1 C.2.1 dX6_judge_25 (by decide) (fun c26 => ?_) (fun c26 => ?_)
        · rw [if_pos c26] at hf
          refine lv_aload_n C.1 C.2.1 dX6_judge_31 rfl (lv_at hl 0 rfl) ?_
          refine gf_X6_32 C X w rfl dX6_judge_32 ?_
          refine lv_aload_n C.1 C.2.1 dX6_judge_35 rfl (lv_at hl 0 rfl) ?_
          refine gf_X6_28 C X w rfl dX6_judge_36 ?_
          obtain ⟨P29, eq27, hf⟩ := bi1_e hf
          obtain ⟨h30, eh30, hf⟩ := bd_e hf
          refine x_cVvN (As := [.ref (ad (7 * 0))]) (rest := []) C X (at_su 1 w) (c_X2_copyFrom hI (by decide) (by decide) (by first | decide | omega) eq27) mw_X2_copyFrom ml_X6_209 (rcv_P (b := 1) (su_same _ _ _) (by decide)) rfl hl.1 rfl (Nat.le_of_ble_eq_true rfl) ⟨⟨Nat.le_of_ble_eq_true rfl, Nat.le_of_ble_eq_true rfl⟩, Nat.le_of_ble_eq_true rfl, Nat.le_of_ble_eq_true rfl⟩ dX6_judge_39 (fun H locs w => ?_)
          replace w := at_eq eh30 w
          refine lv_iconst (v := 0) C.1 C.2.1 dX6_judge_42 (by decide) ?_
          refine lv_istore_n (lv' := [(3, .int (0 : Int32)), (0, .ref (ad 126)), (1, .int x1), (2, .int x2)]) C.1 C.2.1 dX6_judge_43 rfl hl (by decide) rfl (fun ls hl => ?_)
          exact w_X6_judge_44 C hr hlk X hI 600 _ _ _ _ _ _ _ w (lv_sub hl [1, 2, 3, 0] rfl) hf
        · rw [if_neg c26] at hf
          refine lv_bipush (v := -2) C.1 C.2.1 dX6_judge_28 (by decide) ?_
          cases hf
          exact x_iret C hr hlk w dX6_judge_30

def qX6_riddenByGroup_23 : Nat → Hp → Int32 → Int32 → Option (Int32 × Hp)
  | 0, _, _, _ => none
  | n + 1, h, v2, v3 =>
    (if (6 : Int32) ≤ v3 then (some (v2, h))
    else (bi1 (qX2_passMinute (h 22) (h 23) (h 1)) (fun P32 =>
    (bd (su h 1 P32) (fun h33 =>
    (bi1 (qJ6_bitCount ((h33 1) 30)) (fun r35 =>
    (qX6_riddenByGroup_23 n h33 (v2 + r35) (v3 + 1)))))))))
set_option maxHeartbeats 4000000 in
set_option maxRecDepth 100000 in
theorem w_X6_riddenByGroup_23 {p : Program} {l : Launch} {e : Env} {s : State} {m : MethodId} {args : Array Value} {below : List Frame} {meth : Method} {c : Code} {E : Ev} {ad : Nat → Nat} {g : Gp} {r : Int32} {h9 : Hp} (C : CallFix p m c cX6_riddenByGroup 4 s args lwA RX6) (hr : meth.sig.returnType = (some .int)) (hlk : meth.locks = false) (X : Sx E ad s) (hI : Inj ad)  : ∀ (n : Nat), ∀ (h : Hp) (v2 : Int32) (v3 : Int32) (H : Heap) (locs : List Loc) (ls : Array Slot), At E ad h g s H locs → lv_has ls 4 [(0, .ref (ad 126)), (2, .int v2), (3, .int v3)] → qX6_riddenByGroup_23 n h v2 v3 = some (r, h9) → W p l e (RM 5 113) s m args below meth c H locs 0 0 (QI E ad h9 g r below args s) (F0 m 23 ls []) := by
  intro n
  induction n with
  | zero =>
    intro h v2 v3 H locs ls w hl hf
    cases hf
  | succ n ih =>
    intro h v2 v3 H locs ls w hl hf
    rw [qX6_riddenByGroup_23] at hf
    refine lv_iload_n C.1 C.2.1 dX6_riddenByGroup_23 rfl (lv_at hl 2 rfl) ?_
    refine lv_bipush (v := 6) C.1 C.2.1 dX6_riddenByGroup_24 (by decide) ?_
    refine lv_icmp_ge (tgt := 55) C.1 C.2.1 dX6_riddenByGroup_26 (by decide) (fun c29 => ?_) (fun c29 => ?_)
    · rw [if_pos c29] at hf
      refine lv_iload_n C.1 C.2.1 dX6_riddenByGroup_55 rfl (lv_at hl 1 rfl) ?_
      cases hf
      exact x_iret C hr hlk w dX6_riddenByGroup_56
    · rw [if_neg c29] at hf
      refine lv_aload_n C.1 C.2.1 dX6_riddenByGroup_29 rfl (lv_at hl 0 rfl) ?_
      refine gf_X6_32 C X w rfl dX6_riddenByGroup_30 ?_
      obtain ⟨P32, eq30, hf⟩ := bi1_e hf
      obtain ⟨h33, eh33, hf⟩ := bd_e hf
      refine x_cVvN (As := []) (rest := []) C X (at_su 1 w) (c_X2_passMinute hI (by decide) eq30) mw_X2_passMinute ml_X6_153 (rcv_P (b := 1) (su_same _ _ _) (by decide)) rfl hl.1 rfl (Nat.le_of_ble_eq_true rfl) ⟨⟨Nat.le_of_ble_eq_true rfl, Nat.le_of_ble_eq_true rfl⟩, Nat.le_of_ble_eq_true rfl, Nat.le_of_ble_eq_true rfl⟩ dX6_riddenByGroup_33 (fun H locs w => ?_)
      replace w := at_eq eh33 w
      refine lv_iload_n C.1 C.2.1 dX6_riddenByGroup_36 rfl (lv_at hl 1 rfl) ?_
      refine lv_aload_n C.1 C.2.1 dX6_riddenByGroup_37 rfl (lv_at hl 0 rfl) ?_
      refine gf_X6_32 C X w rfl dX6_riddenByGroup_38 ?_
      refine gf_X6_97 (b := 1) C X w rfl (by decide) dX6_riddenByGroup_41 ?_
      obtain ⟨r35, eq34, hf⟩ := bi1_e hf
      refine x_cSi (As := [.int ((h33 1) 30)]) (rest := [.int v2]) C X w (c_J6_bitCount hI  eq34) mw_J6_bitCount ml_X6_225 rfl hl.1 rfl (Nat.le_of_ble_eq_true rfl) ⟨⟨Nat.le_of_ble_eq_true rfl, Nat.le_of_ble_eq_true rfl⟩, Nat.le_of_ble_eq_true rfl, Nat.le_of_ble_eq_true rfl⟩ dX6_riddenByGroup_44 (fun H locs w => ?_)
      refine lv_iadd C.1 C.2.1 dX6_riddenByGroup_47 ?_
      refine lv_istore_n (lv' := [(2, .int (v2 + r35)), (0, .ref (ad 126)), (3, .int v3)]) C.1 C.2.1 dX6_riddenByGroup_48 rfl hl (by decide) rfl (fun ls hl => ?_)
      refine lv_iinc (v := (v3 + 1)) (lv' := [(3, .int (v3 + 1)), (2, .int (v2 + r35)), (0, .ref (ad 126))]) C.1 C.2.1 dX6_riddenByGroup_49 hl (k := 2) rfl (congrArg (fun z => v3 + z) (by decide)) (by decide) rfl (fun ls hl => ?_)
      refine lv_goto (tgt := 23) C.1 C.2.1 dX6_riddenByGroup_52 (by decide) ?_
      exact ih _ _ _ _ _ _ w (lv_sub hl [2, 1, 0] rfl) hf
def qX6_riddenByGroup (h : Hp) (x1 : Int32) : Option (Int32 × Hp) :=
(bi1 (qX2_copyFrom (h 0) (h 1)) (fun P23 =>
(bd (su h 1 P23) (fun h24 =>
(bi1 (qX2_leaveOnly (h24 1) x1) (fun P27 =>
(bd (su h24 1 P27) (fun h28 =>
(qX6_riddenByGroup_23 600 h28 (0 : Int32) (0 : Int32))))))))))
set_option maxHeartbeats 4000000 in
set_option maxRecDepth 100000 in
theorem c_X6_riddenByGroup {l : Launch} {E : Ev} {ad : Nat → Nat} {g : Gp} {h : Hp} {x1 : Int32} {r : Int32} {h9 : Hp} (hI : Inj ad) (hf : qX6_riddenByGroup h x1 = some (r, h9)) : CtI l yX6_riddenByGroup cX6_riddenByGroup 4 (some .int) 5 113 E ad g g [.ref (ad 126), .int x1] h h9 r := by
  refine x_begin (by decide) (Nat.le_of_ble_eq_true rfl) ?_
  intro p e s m below meth c ls C hr hlk X w hl
  replace hl : lv_has ls 4 [(0, .ref (ad 126)), (1, .int x1)] := hl
  replace C : CallFix p m c cX6_riddenByGroup 4 s ([.ref (ad 126), .int x1] : List Value).toArray lwA RX6 := C
  unfold qX6_riddenByGroup at hf
  refine lv_aload_n C.1 C.2.1 dX6_riddenByGroup_0 rfl (lv_at hl 0 rfl) ?_
  refine gf_X6_32 C X w rfl dX6_riddenByGroup_1 ?_
  refine lv_aload_n C.1 C.2.1 dX6_riddenByGroup_4 rfl (lv_at hl 0 rfl) ?_
  refine gf_X6_28 C X w rfl dX6_riddenByGroup_5 ?_
  obtain ⟨P23, eq21, hf⟩ := bi1_e hf
  obtain ⟨h24, eh24, hf⟩ := bd_e hf
  refine x_cVvN (As := [.ref (ad (7 * 0))]) (rest := []) C X (at_su 1 w) (c_X2_copyFrom hI (by decide) (by decide) (by first | decide | omega) eq21) mw_X2_copyFrom ml_X6_209 (rcv_P (b := 1) (su_same _ _ _) (by decide)) rfl hl.1 rfl (Nat.le_of_ble_eq_true rfl) ⟨⟨Nat.le_of_ble_eq_true rfl, Nat.le_of_ble_eq_true rfl⟩, Nat.le_of_ble_eq_true rfl, Nat.le_of_ble_eq_true rfl⟩ dX6_riddenByGroup_8 (fun H locs w => ?_)
  replace w := at_eq eh24 w
  refine lv_aload_n C.1 C.2.1 dX6_riddenByGroup_11 rfl (lv_at hl 0 rfl) ?_
  refine gf_X6_32 C X w rfl dX6_riddenByGroup_12 ?_
  refine lv_iload_n C.1 C.2.1 dX6_riddenByGroup_15 rfl (lv_at hl 1 rfl) ?_
  obtain ⟨P27, eq25, hf⟩ := bi1_e hf
  obtain ⟨h28, eh28, hf⟩ := bd_e hf
  refine x_cVvN (As := [.int x1]) (rest := []) C X (at_su 1 w) (c_X2_leaveOnly hI (by decide) eq25) mw_X2_leaveOnly ml_X6_274 (rcv_P (b := 1) (su_same _ _ _) (by decide)) rfl hl.1 rfl (Nat.le_of_ble_eq_true rfl) ⟨⟨Nat.le_of_ble_eq_true rfl, Nat.le_of_ble_eq_true rfl⟩, Nat.le_of_ble_eq_true rfl, Nat.le_of_ble_eq_true rfl⟩ dX6_riddenByGroup_16 (fun H locs w => ?_)
  replace w := at_eq eh28 w
  refine lv_iconst (v := 0) C.1 C.2.1 dX6_riddenByGroup_19 (by decide) ?_
  refine lv_istore_n (lv' := [(2, .int (0 : Int32)), (0, .ref (ad 126)), (1, .int x1)]) C.1 C.2.1 dX6_riddenByGroup_20 rfl hl (by decide) rfl (fun ls hl => ?_)
  refine lv_iconst (v := 0) C.1 C.2.1 dX6_riddenByGroup_21 (by decide) ?_
  refine lv_istore_n (lv' := [(3, .int (0 : Int32)), (2, .int (0 : Int32)), (0, .ref (ad 126)), (1, .int x1)]) C.1 C.2.1 dX6_riddenByGroup_22 rfl hl (by decide) rfl (fun ls hl => ?_)
  exact w_X6_riddenByGroup_23 C hr hlk X hI 600 _ _ _ _ _ _ w (lv_sub hl [2, 1, 0] rfl) hf

def qX6_share_131 (k57 : Hp → Int32 → Int32 → Int32 → Int32 → Int32 → Option (Int32 × Hp)) (h : Hp) (v1 : Int32) (v2 : Int32) (v3 : Int32) (v4 : Int32) (v5 : Int32) : Option (Int32 × Hp) :=
(k57 h v1 v2 v3 v4 (v5 + 1))
set_option maxHeartbeats 4000000 in
set_option maxRecDepth 100000 in
theorem w_X6_share_131 {p : Program} {l : Launch} {e : Env} {s : State} {m : MethodId} {args : Array Value} {below : List Frame} {meth : Method} {c : Code} {E : Ev} {ad : Nat → Nat} {g : Gp} {r : Int32} {h9 : Hp} {k57 : Hp → Int32 → Int32 → Int32 → Int32 → Int32 → Option (Int32 × Hp)} (C : CallFix p m c cX6_share 8 s args lwA RX6) (hr : meth.sig.returnType = (some .int)) (hlk : meth.locks = false) (X : Sx E ad s) (hI : Inj ad) (hk57 : ∀ (h : Hp) (v1 : Int32) (v2 : Int32) (v3 : Int32) (v4 : Int32) (v5 : Int32) (H : Heap) (locs : List Loc) (ls : Array Slot), At E ad h g s H locs → lv_has ls 8 [(0, .ref (ad 126)), (1, .int v1), (2, .int v2), (3, .int v3), (4, .int v4), (5, .int v5)] → k57 h v1 v2 v3 v4 v5 = some (r, h9) → W p l e (RM 6 136) s m args below meth c H locs 0 0 (QI E ad h9 g r below args s) (F0 m 57 ls [])) : ∀ (h : Hp) (v1 : Int32) (v2 : Int32) (v3 : Int32) (v4 : Int32) (v5 : Int32) (H : Heap) (locs : List Loc) (ls : Array Slot), At E ad h g s H locs → lv_has ls 8 [(0, .ref (ad 126)), (1, .int v1), (2, .int v2), (3, .int v3), (4, .int v4), (5, .int v5)] → qX6_share_131 k57 h v1 v2 v3 v4 v5 = some (r, h9) → W p l e (RM 6 136) s m args below meth c H locs 0 0 (QI E ad h9 g r below args s) (F0 m 131 ls []) := by
  intro h v1 v2 v3 v4 v5 H locs ls w hl hf
  unfold qX6_share_131 at hf
  refine lv_iinc (v := (v5 + 1)) (lv' := [(5, .int (v5 + 1)), (0, .ref (ad 126)), (1, .int v1), (2, .int v2), (3, .int v3), (4, .int v4)]) C.1 C.2.1 dX6_share_131 hl (k := 5) rfl (congrArg (fun z => v5 + z) (by decide)) (by decide) rfl (fun ls hl => ?_)
  refine lv_goto (tgt := 57) C.1 C.2.1 dX6_share_134 (by decide) ?_
  exact hk57 _ _ _ _ _ _ _ _ _ w (lv_sub hl [1, 2, 3, 4, 5, 0] rfl) hf
def qX6_share_57 : Nat → Hp → Int32 → Int32 → Int32 → Int32 → Int32 → Option (Int32 × Hp)
  | 0, _, _, _, _, _, _ => none
  | n + 1, h, v1, v2, v3, v4, v5 =>
    (if v3 ≤ v5 then (ck (inb ((h 21) 0) 6) ((bi1 (qX6_fraction v4 (ordR (((h 21) 0)).toNatClampNeg) v2) (fun r34 =>
    (some (r34, h))))))
    else (bi1 (qX6_has v5 v1) (fun r36 =>
    (if r36 = 0 then (bi1 (qJ6_bitCount v5) (fun r39 =>
    (ck (inb r39 6) ((ck (inb ((((h 21) 0) - (1 : Int32)) - r39) 6) ((bd ((ordR r39.toNatClampNeg) * (ordR (((((h 21) 0) - (1 : Int32)) - r39)).toNatClampNeg)) (fun x44 =>
    (ck (inb (v5 ||| ((1 : Int32) <<< (v1 &&& 31))) 32) ((ck (inb v5 32) ((bd (v4 + (x44 * (((h 32) ((v5 ||| ((1 : Int32) <<< (v1 &&& 31)))).toNatClampNeg) - ((h 32) v5.toNatClampNeg)))) (fun x47 =>
    (qX6_share_131 (qX6_share_57 n) h v1 v2 v3 x47 v5)))))))))))))))
    else (qX6_share_131 (qX6_share_57 n) h v1 v2 v3 v4 v5)))))
set_option maxHeartbeats 4000000 in
set_option maxRecDepth 100000 in
theorem w_X6_share_57 {p : Program} {l : Launch} {e : Env} {s : State} {m : MethodId} {args : Array Value} {below : List Frame} {meth : Method} {c : Code} {E : Ev} {ad : Nat → Nat} {g : Gp} {r : Int32} {h9 : Hp} (C : CallFix p m c cX6_share 8 s args lwA RX6) (hr : meth.sig.returnType = (some .int)) (hlk : meth.locks = false) (X : Sx E ad s) (hI : Inj ad)  : ∀ (n : Nat), ∀ (h : Hp) (v1 : Int32) (v2 : Int32) (v3 : Int32) (v4 : Int32) (v5 : Int32) (H : Heap) (locs : List Loc) (ls : Array Slot), At E ad h g s H locs → lv_has ls 8 [(0, .ref (ad 126)), (1, .int v1), (2, .int v2), (3, .int v3), (4, .int v4), (5, .int v5)] → qX6_share_57 n h v1 v2 v3 v4 v5 = some (r, h9) → W p l e (RM 6 136) s m args below meth c H locs 0 0 (QI E ad h9 g r below args s) (F0 m 57 ls []) := by
  intro n
  induction n with
  | zero =>
    intro h v1 v2 v3 v4 v5 H locs ls w hl hf
    cases hf
  | succ n ih =>
    intro h v1 v2 v3 v4 v5 H locs ls w hl hf
    rw [qX6_share_57] at hf
    refine lv_iload C.1 C.2.1 dX6_share_57 (lv_at hl 5 rfl) ?_
    refine lv_iload_n C.1 C.2.1 dX6_share_59 rfl (lv_at hl 3 rfl) ?_
    refine lv_icmp_ge (tgt := 137) C.1 C.2.1 dX6_share_60 (by decide) (fun c30 => ?_) (fun c30 => ?_)
    · rw [if_pos c30] at hf
      refine lv_iload C.1 C.2.1 dX6_share_137 (lv_at hl 4 rfl) ?_
      obtain ⟨t31, hZt31, hTt31⟩ := X.2.2.2
      refine va_gets C.1 C.2.1 hZt31 w.2 C.2.2.2.1 (C.2.2.2.2 _ wd_fieldLink_OneTricycle_230_OneTricycle_ORDERS_I_) (fun _ h9 => h9) dX6_share_139 ?_
      refine lv_aload_n C.1 C.2.1 dX6_share_142 rfl (lv_at hl 0 rfl) ?_
      refine gf_X6_19 C X w rfl dX6_share_143 ?_
      refine gf_X6_87 C X w (rfl) dX6_share_146 ?_
      obtain ⟨i32, hf⟩ := ck_e hf
      refine va_ti C.1 C.2.1 hTt31 w.2 (inb_in i32) (v := .int (ordR (((h 21) 0)).toNatClampNeg)) rfl dX6_share_149 ?_
      refine lv_iload_n C.1 C.2.1 dX6_share_150 rfl (lv_at hl 2 rfl) ?_
      obtain ⟨r34, eq33, hf⟩ := bi1_e hf
      refine x_cSi (As := [.int v4, .int (ordR (((h 21) 0)).toNatClampNeg), .int v2]) (rest := []) C X w (c_X6_fraction hI  eq33) mw_X6_fraction ml_X6_233 rfl hl.1 rfl (Nat.le_of_ble_eq_true rfl) ⟨⟨Nat.le_of_ble_eq_true rfl, Nat.le_of_ble_eq_true rfl⟩, Nat.le_of_ble_eq_true rfl, Nat.le_of_ble_eq_true rfl⟩ dX6_share_151 (fun H locs w => ?_)
      cases hf
      exact x_iret C hr hlk w dX6_share_154
    · rw [if_neg c30] at hf
      refine lv_iload C.1 C.2.1 dX6_share_63 (lv_at hl 5 rfl) ?_
      refine lv_iload_n C.1 C.2.1 dX6_share_65 rfl (lv_at hl 1 rfl) ?_
      obtain ⟨r36, eq35, hf⟩ := bi1_e hf
      refine x_cSi (As := [.int v5, .int v1]) (rest := []) C X w (c_X6_has hI  eq35) mw_X6_has ml_X6_222 rfl hl.1 rfl (Nat.le_of_ble_eq_true rfl) ⟨⟨Nat.le_of_ble_eq_true rfl, Nat.le_of_ble_eq_true rfl⟩, Nat.le_of_ble_eq_true rfl, Nat.le_of_ble_eq_true rfl⟩ dX6_share_66 (fun H locs w => ?_)
      refine lv_if_ne (tgt := 131) C.1 C.2.1 dX6_share_69 (by decide) (fun c37 => ?_) (fun c37 => ?_)
      · rw [if_neg c37] at hf
        exact w_X6_share_131 C hr hlk X hI ih _ _ _ _ _ _ _ _ _ w (lv_sub hl [0, 1, 2, 3, 4, 5] rfl) hf
      · rw [if_pos c37] at hf
        refine lv_iload C.1 C.2.1 dX6_share_72 (lv_at hl 5 rfl) ?_
        obtain ⟨r39, eq38, hf⟩ := bi1_e hf
        refine x_cSi (As := [.int v5]) (rest := []) C X w (c_J6_bitCount hI  eq38) mw_J6_bitCount ml_X6_225 rfl hl.1 rfl (Nat.le_of_ble_eq_true rfl) ⟨⟨Nat.le_of_ble_eq_true rfl, Nat.le_of_ble_eq_true rfl⟩, Nat.le_of_ble_eq_true rfl, Nat.le_of_ble_eq_true rfl⟩ dX6_share_74 (fun H locs w => ?_)
        refine lv_istore (lv' := [(6, .int r39), (0, .ref (ad 126)), (1, .int v1), (2, .int v2), (3, .int v3), (4, .int v4), (5, .int v5)]) C.1 C.2.1 dX6_share_77 hl (by decide) rfl (fun ls hl => ?_)
        obtain ⟨t40, hZt40, hTt40⟩ := X.2.2.2
        refine va_gets C.1 C.2.1 hZt40 w.2 C.2.2.2.1 (C.2.2.2.2 _ wd_fieldLink_OneTricycle_230_OneTricycle_ORDERS_I_) (fun _ h9 => h9) dX6_share_79 ?_
        refine lv_iload C.1 C.2.1 dX6_share_82 (lv_at hl 0 rfl) ?_
        obtain ⟨i41, hf⟩ := ck_e hf
        refine va_ti C.1 C.2.1 hTt40 w.2 (inb_in i41) (v := .int (ordR r39.toNatClampNeg)) rfl dX6_share_84 ?_
        obtain ⟨t42, hZt42, hTt42⟩ := X.2.2.2
        refine va_gets C.1 C.2.1 hZt42 w.2 C.2.2.2.1 (C.2.2.2.2 _ wd_fieldLink_OneTricycle_230_OneTricycle_ORDERS_I_) (fun _ h9 => h9) dX6_share_85 ?_
        refine lv_aload_n C.1 C.2.1 dX6_share_88 rfl (lv_at hl 1 rfl) ?_
        refine gf_X6_19 C X w rfl dX6_share_89 ?_
        refine gf_X6_87 C X w (rfl) dX6_share_92 ?_
        refine lv_iconst (v := 1) C.1 C.2.1 dX6_share_95 (by decide) ?_
        refine lv_isub C.1 C.2.1 dX6_share_96 ?_
        refine lv_iload C.1 C.2.1 dX6_share_97 (lv_at hl 0 rfl) ?_
        refine lv_isub C.1 C.2.1 dX6_share_99 ?_
        obtain ⟨i43, hf⟩ := ck_e hf
        refine va_ti C.1 C.2.1 hTt42 w.2 (inb_in i43) (v := .int (ordR (((((h 21) 0) - (1 : Int32)) - r39)).toNatClampNeg)) rfl dX6_share_100 ?_
        refine lv_imul C.1 C.2.1 dX6_share_101 ?_
        obtain ⟨x44, ex44, hf⟩ := bd_e hf
        refine x_tp ex44 ?_
        refine lv_istore (lv' := [(7, .int x44), (6, .int r39), (0, .ref (ad 126)), (1, .int v1), (2, .int v2), (3, .int v3), (4, .int v4), (5, .int v5)]) C.1 C.2.1 dX6_share_102 hl (by decide) rfl (fun ls hl => ?_)
        refine lv_iload C.1 C.2.1 dX6_share_104 (lv_at hl 6 rfl) ?_
        refine lv_iload C.1 C.2.1 dX6_share_106 (lv_at hl 0 rfl) ?_
        refine lv_aload_n C.1 C.2.1 dX6_share_108 rfl (lv_at hl 2 rfl) ?_
        refine gf_X6_56 C X w rfl dX6_share_109 ?_
        refine lv_iload C.1 C.2.1 dX6_share_112 (lv_at hl 7 rfl) ?_
        refine lv_iconst (v := 1) C.1 C.2.1 dX6_share_114 (by decide) ?_
        refine lv_iload_n C.1 C.2.1 dX6_share_115 rfl (lv_at hl 3 rfl) ?_
        refine lv_ishl C.1 C.2.1 dX6_share_116 ?_
        refine lv_ior C.1 C.2.1 dX6_share_117 ?_
        obtain ⟨i45, hf⟩ := ck_e hf
        refine x_ild (v := (h 32) ((v5 ||| ((1 : Int32) <<< (v1 &&& 31)))).toNatClampNeg) C X w (wl_r32 (rfl)) i45 (rfl) dX6_share_118 ?_
        refine lv_aload_n C.1 C.2.1 dX6_share_119 rfl (lv_at hl 2 rfl) ?_
        refine gf_X6_56 C X w rfl dX6_share_120 ?_
        refine lv_iload C.1 C.2.1 dX6_share_123 (lv_at hl 7 rfl) ?_
        obtain ⟨i46, hf⟩ := ck_e hf
        refine x_ild (v := (h 32) v5.toNatClampNeg) C X w (wl_r32 (rfl)) i46 (rfl) dX6_share_125 ?_
        refine lv_isub C.1 C.2.1 dX6_share_126 ?_
        refine lv_imul C.1 C.2.1 dX6_share_127 ?_
        refine lv_iadd C.1 C.2.1 dX6_share_128 ?_
        obtain ⟨x47, ex47, hf⟩ := bd_e hf
        refine x_tp ex47 ?_
        refine lv_istore (lv' := [(4, .int x47), (7, .int x44), (6, .int r39), (0, .ref (ad 126)), (1, .int v1), (2, .int v2), (3, .int v3), (5, .int v5)]) C.1 C.2.1 dX6_share_129 hl (by decide) rfl (fun ls hl => ?_)
        exact w_X6_share_131 C hr hlk X hI ih _ _ _ _ _ _ _ _ _ w (lv_sub hl [3, 4, 5, 6, 0, 7] rfl) hf
def qX6_share_26 : Nat → Hp → Int32 → Int32 → Int32 → Int32 → Option (Int32 × Hp)
  | 0, _, _, _, _, _ => none
  | n + 1, h, v1, v2, v3, v4 =>
    (if v3 ≤ v4 then (qX6_share_57 600 h v1 v2 v3 (0 : Int32) (0 : Int32))
    else (bi2 (qX6_riddenByGroup h v4) (fun r26 h27 =>
    (ck (inb v4 32) (bd (su h27 32 (upd (h27 32) v4.toNatClampNeg r26)) (fun h29 =>
    (qX6_share_26 n h29 v1 v2 v3 (v4 + 1))))))))
set_option maxHeartbeats 4000000 in
set_option maxRecDepth 100000 in
theorem w_X6_share_26 {p : Program} {l : Launch} {e : Env} {s : State} {m : MethodId} {args : Array Value} {below : List Frame} {meth : Method} {c : Code} {E : Ev} {ad : Nat → Nat} {g : Gp} {r : Int32} {h9 : Hp} (C : CallFix p m c cX6_share 8 s args lwA RX6) (hr : meth.sig.returnType = (some .int)) (hlk : meth.locks = false) (X : Sx E ad s) (hI : Inj ad)  : ∀ (n : Nat), ∀ (h : Hp) (v1 : Int32) (v2 : Int32) (v3 : Int32) (v4 : Int32) (H : Heap) (locs : List Loc) (ls : Array Slot), At E ad h g s H locs → lv_has ls 8 [(0, .ref (ad 126)), (1, .int v1), (2, .int v2), (3, .int v3), (4, .int v4)] → qX6_share_26 n h v1 v2 v3 v4 = some (r, h9) → W p l e (RM 6 136) s m args below meth c H locs 0 0 (QI E ad h9 g r below args s) (F0 m 26 ls []) := by
  intro n
  induction n with
  | zero =>
    intro h v1 v2 v3 v4 H locs ls w hl hf
    cases hf
  | succ n ih =>
    intro h v1 v2 v3 v4 H locs ls w hl hf
    rw [qX6_share_26] at hf
    refine lv_iload C.1 C.2.1 dX6_share_26 (lv_at hl 4 rfl) ?_
    refine lv_iload_n C.1 C.2.1 dX6_share_28 rfl (lv_at hl 3 rfl) ?_
    refine lv_icmp_ge (tgt := 51) C.1 C.2.1 dX6_share_29 (by decide) (fun c24 => ?_) (fun c24 => ?_)
    · rw [if_pos c24] at hf
      refine lv_iconst (v := 0) C.1 C.2.1 dX6_share_51 (by decide) ?_
      refine lv_istore (lv' := [(4, .int (0 : Int32)), (0, .ref (ad 126)), (1, .int v1), (2, .int v2), (3, .int v3)]) C.1 C.2.1 dX6_share_52 hl (by decide) rfl (fun ls hl => ?_)
      refine lv_iconst (v := 0) C.1 C.2.1 dX6_share_54 (by decide) ?_
      refine lv_istore (lv' := [(5, .int (0 : Int32)), (4, .int (0 : Int32)), (0, .ref (ad 126)), (1, .int v1), (2, .int v2), (3, .int v3)]) C.1 C.2.1 dX6_share_55 hl (by decide) rfl (fun ls hl => ?_)
      exact w_X6_share_57 C hr hlk X hI 600 _ _ _ _ _ _ _ _ _ w (lv_sub hl [2, 3, 4, 5, 1, 0] rfl) hf
    · rw [if_neg c24] at hf
      refine lv_aload_n C.1 C.2.1 dX6_share_32 rfl (lv_at hl 0 rfl) ?_
      refine gf_X6_56 C X w rfl dX6_share_33 ?_
      refine lv_iload C.1 C.2.1 dX6_share_36 (lv_at hl 4 rfl) ?_
      refine lv_aload_n C.1 C.2.1 dX6_share_38 rfl (lv_at hl 0 rfl) ?_
      refine lv_iload C.1 C.2.1 dX6_share_39 (lv_at hl 4 rfl) ?_
      obtain ⟨r26, h27, eq25, hf⟩ := bi2_e hf
      refine x_cVi (As := [.int v4]) (rest := [.int v4, .ref (ad 140)]) C X w (c_X6_riddenByGroup hI eq25) mw_X6_riddenByGroup ml_X6_219 rcv_r18 rfl hl.1 rfl (Nat.le_of_ble_eq_true rfl) ⟨⟨Nat.le_of_ble_eq_true rfl, Nat.le_of_ble_eq_true rfl⟩, Nat.le_of_ble_eq_true rfl, Nat.le_of_ble_eq_true rfl⟩ dX6_share_41 (fun H locs w => ?_)
      obtain ⟨i28, hf⟩ := ck_e hf
      obtain ⟨h29, eh29, hf⟩ := bd_e hf
      refine x_ist (h2 := su h27 32 (upd (h27 32) v4.toNatClampNeg r26)) C X hI w (wl_r32 rfl) i28 ws_r32 dX6_share_44 (fun H locs w => ?_)
      replace w := at_eq eh29 w
      refine lv_iinc (v := (v4 + 1)) (lv' := [(4, .int (v4 + 1)), (0, .ref (ad 126)), (1, .int v1), (2, .int v2), (3, .int v3)]) C.1 C.2.1 dX6_share_45 hl (k := 4) rfl (congrArg (fun z => v4 + z) (by decide)) (by decide) rfl (fun ls hl => ?_)
      refine lv_goto (tgt := 26) C.1 C.2.1 dX6_share_48 (by decide) ?_
      exact ih _ _ _ _ _ _ _ _ w (lv_sub hl [1, 2, 3, 4, 0] rfl) hf
def qX6_share (h : Hp) (x1 : Int32) (x2 : Int32) : Option (Int32 × Hp) :=
(bi1 (qX2_isThere (h 0) x1) (fun r22 =>
(if r22 = 0 then (some ((-1 : Int32), h))
else (qX6_share_26 600 h x1 x2 ((1 : Int32) <<< (((h 21) 0) &&& 31)) (0 : Int32)))))
set_option maxHeartbeats 4000000 in
set_option maxRecDepth 100000 in
theorem c_X6_share {l : Launch} {E : Ev} {ad : Nat → Nat} {g : Gp} {h : Hp} {x1 : Int32} {x2 : Int32} {r : Int32} {h9 : Hp} (hI : Inj ad) (hf : qX6_share h x1 x2 = some (r, h9)) : CtI l yX6_share cX6_share 8 (some .int) 6 136 E ad g g [.ref (ad 126), .int x1, .int x2] h h9 r := by
  refine x_begin (by decide) (Nat.le_of_ble_eq_true rfl) ?_
  intro p e s m below meth c ls C hr hlk X w hl
  replace hl : lv_has ls 8 [(0, .ref (ad 126)), (1, .int x1), (2, .int x2)] := hl
  replace C : CallFix p m c cX6_share 8 s ([.ref (ad 126), .int x1, .int x2] : List Value).toArray lwA RX6 := C
  unfold qX6_share at hf
  refine lv_aload_n C.1 C.2.1 dX6_share_0 rfl (lv_at hl 0 rfl) ?_
  refine gf_X6_28 C X w rfl dX6_share_1 ?_
  refine lv_iload_n C.1 C.2.1 dX6_share_4 rfl (lv_at hl 1 rfl) ?_
  obtain ⟨r22, eq21, hf⟩ := bi1_e hf
  refine x_cViN (As := [.int x1]) (rest := []) C X (at_su 0 w) (c_X2_isThere hI (by decide) eq21) mw_X2_isThere ml_X6_117 (rcv_P (b := 0) (su_same _ _ _) (by decide)) rfl hl.1 rfl (Nat.le_of_ble_eq_true rfl) ⟨⟨Nat.le_of_ble_eq_true rfl, Nat.le_of_ble_eq_true rfl⟩, Nat.le_of_ble_eq_true rfl, Nat.le_of_ble_eq_true rfl⟩ dX6_share_5 (fun H locs w => ?_)
  replace w := at_us w
  refine lv_if_ne (tgt := 13) C.1 C.2.1 dX6_share_8 (by decide) (fun c23 => ?_) (fun c23 => ?_)
  · rw [if_neg c23] at hf
    refine lv_iconst (v := 1) C.1 C.2.1 dX6_share_13 (by decide) ?_
    refine lv_aload_n C.1 C.2.1 dX6_share_14 rfl (lv_at hl 0 rfl) ?_
    refine gf_X6_19 C X w rfl dX6_share_15 ?_
    refine gf_X6_87 C X w (rfl) dX6_share_18 ?_
    refine lv_ishl C.1 C.2.1 dX6_share_21 ?_
    refine lv_istore_n (lv' := [(3, .int ((1 : Int32) <<< (((h 21) 0) &&& 31))), (0, .ref (ad 126)), (1, .int x1), (2, .int x2)]) C.1 C.2.1 dX6_share_22 rfl hl (by decide) rfl (fun ls hl => ?_)
    refine lv_iconst (v := 0) C.1 C.2.1 dX6_share_23 (by decide) ?_
    refine lv_istore (lv' := [(4, .int (0 : Int32)), (3, .int ((1 : Int32) <<< (((h 21) 0) &&& 31))), (0, .ref (ad 126)), (1, .int x1), (2, .int x2)]) C.1 C.2.1 dX6_share_24 hl (by decide) rfl (fun ls hl => ?_)
    exact w_X6_share_26 C hr hlk X hI 600 _ _ _ _ _ _ _ _ w (lv_sub hl [2, 3, 4, 1, 0] rfl) hf
  · rw [if_pos c23] at hf
    refine lv_iconst (v := -1) C.1 C.2.1 dX6_share_11 (by decide) ?_
    cases hf
    exact x_iret C hr hlk w dX6_share_12

def qX6_see (h : Hp) (x1 : Int32) (x2 : Int32) : Option (Int32 × Hp) :=
(bi1 (qX2_isThere (h 0) x1) (fun r22 =>
(if r22 = 0 then (some ((-1 : Int32), h))
else (if x2 < (1 : Int32) then (some ((-2 : Int32), h))
else (if x2 ≤ (20 : Int32) then (if ((h 29) 2) < (6 : Int32) then (bi1 (qX3_append h x1 x2) (fun h29 =>
(some (((h29 29) 2), h29))))
else (some ((-4 : Int32), h)))
else (some ((-2 : Int32), h)))))))
set_option maxHeartbeats 4000000 in
set_option maxRecDepth 100000 in
theorem c_X6_see {l : Launch} {E : Ev} {ad : Nat → Nat} {g : Gp} {h : Hp} {x1 : Int32} {x2 : Int32} {r : Int32} {h9 : Hp} (hI : Inj ad) (hf : qX6_see h x1 x2 = some (r, h9)) : CtI l yX6_see cX6_see 3 (some .int) 2 42 E ad g g [.ref (ad 126), .int x1, .int x2] h h9 r := by
  refine x_begin (by decide) (Nat.le_of_ble_eq_true rfl) ?_
  intro p e s m below meth c ls C hr hlk X w hl
  replace hl : lv_has ls 3 [(0, .ref (ad 126)), (1, .int x1), (2, .int x2)] := hl
  replace C : CallFix p m c cX6_see 3 s ([.ref (ad 126), .int x1, .int x2] : List Value).toArray lwA RX6 := C
  unfold qX6_see at hf
  refine lv_aload_n C.1 C.2.1 dX6_see_0 rfl (lv_at hl 0 rfl) ?_
  refine gf_X6_28 C X w rfl dX6_see_1 ?_
  refine lv_iload_n C.1 C.2.1 dX6_see_4 rfl (lv_at hl 1 rfl) ?_
  obtain ⟨r22, eq21, hf⟩ := bi1_e hf
  refine x_cViN (As := [.int x1]) (rest := []) C X (at_su 0 w) (c_X2_isThere hI (by decide) eq21) mw_X2_isThere ml_X6_117 (rcv_P (b := 0) (su_same _ _ _) (by decide)) rfl hl.1 rfl (Nat.le_of_ble_eq_true rfl) ⟨⟨Nat.le_of_ble_eq_true rfl, Nat.le_of_ble_eq_true rfl⟩, Nat.le_of_ble_eq_true rfl, Nat.le_of_ble_eq_true rfl⟩ dX6_see_5 (fun H locs w => ?_)
  replace w := at_us w
  refine lv_if_ne (tgt := 13) C.1 C.2.1 dX6_see_8 (by decide) (fun c23 => ?_) (fun c23 => ?_)
  · rw [if_neg c23] at hf
    refine lv_iload_n C.1 C.2.1 dX6_see_13 rfl (lv_at hl 2 rfl) ?_
    refine lv_iconst (v := 1) C.1 C.2.1 dX6_see_14 (by decide) ?_
    refine lv_icmp_lt (tgt := 24) C.1 C.2.1 dX6_see_15 (by decide) (fun c24 => ?_) (fun c24 => ?_)
    · rw [if_pos c24] at hf
      refine lv_bipush (v := -2) C.1 C.2.1 dX6_see_24 (by decide) ?_
      cases hf
      exact x_iret C hr hlk w dX6_see_26
    · rw [if_neg c24] at hf
      refine lv_iload_n C.1 C.2.1 dX6_see_18 rfl (lv_at hl 2 rfl) ?_
      refine lv_bipush (v := 20) C.1 C.2.1 dX6_see_19 (by decide) ?_
      refine lv_icmp_le (tgt := 27) C.1 C.2.1 dX6_see_21 (by decide) (fun c25 => ?_) (fun c25 => ?_)
      · rw [if_pos c25] at hf
        refine lv_aload_n C.1 C.2.1 dX6_see_27 rfl (lv_at hl 0 rfl) ?_
        refine gf_X6_52 C X w rfl dX6_see_28 ?_
        refine gf_X6_116 C X w (rfl) dX6_see_31 ?_
        refine lv_bipush (v := 6) C.1 C.2.1 dX6_see_34 (by decide) ?_
        refine lv_icmp_lt (tgt := 42) C.1 C.2.1 dX6_see_36 (by decide) (fun c26 => ?_) (fun c26 => ?_)
        · rw [if_pos c26] at hf
          refine lv_aload_n C.1 C.2.1 dX6_see_42 rfl (lv_at hl 0 rfl) ?_
          refine gf_X6_52 C X w rfl dX6_see_43 ?_
          refine lv_iload_n C.1 C.2.1 dX6_see_46 rfl (lv_at hl 1 rfl) ?_
          refine lv_iload_n C.1 C.2.1 dX6_see_47 rfl (lv_at hl 2 rfl) ?_
          obtain ⟨h29, eq27, hf⟩ := bi1_e hf
          refine x_cVvN (As := [.int x1, .int x2]) (rest := []) C X w (c_X3_append hI eq27) mw_X3_append ml_X6_237 rcv_r29 rfl hl.1 rfl (Nat.le_of_ble_eq_true rfl) ⟨⟨Nat.le_of_ble_eq_true rfl, Nat.le_of_ble_eq_true rfl⟩, Nat.le_of_ble_eq_true rfl, Nat.le_of_ble_eq_true rfl⟩ dX6_see_48 (fun H locs w => ?_)
          refine lv_aload_n C.1 C.2.1 dX6_see_51 rfl (lv_at hl 0 rfl) ?_
          refine gf_X6_52 C X w rfl dX6_see_52 ?_
          refine gf_X6_116 C X w (rfl) dX6_see_55 ?_
          cases hf
          exact x_iret C hr hlk w dX6_see_58
        · rw [if_neg c26] at hf
          refine lv_bipush (v := -4) C.1 C.2.1 dX6_see_39 (by decide) ?_
          cases hf
          exact x_iret C hr hlk w dX6_see_41
      · rw [if_neg c25] at hf
        refine lv_bipush (v := -2) C.1 C.2.1 dX6_see_24 (by decide) ?_
        cases hf
        exact x_iret C hr hlk w dX6_see_26
  · rw [if_pos c23] at hf
    refine lv_iconst (v := -1) C.1 C.2.1 dX6_see_11 (by decide) ?_
    cases hf
    exact x_iret C hr hlk w dX6_see_12

def qX6_unsee (h : Hp) : Option (Int32 × Hp) :=
(bd (su h 29 (upd (h 29) 2 (0 : Int32))) (fun h21 =>
(some (((h 29) 2), h21))))
set_option maxHeartbeats 4000000 in
set_option maxRecDepth 100000 in
theorem c_X6_unsee {l : Launch} {E : Ev} {ad : Nat → Nat} {g : Gp} {h : Hp} {r : Int32} {h9 : Hp} (hI : Inj ad) (hf : qX6_unsee h = some (r, h9)) : CtI l yX6_unsee cX6_unsee 2 (some .int) 0 0 E ad g g [.ref (ad 126)] h h9 r := by
  refine x_begin (by decide) (Nat.le_of_ble_eq_true rfl) ?_
  intro p e s m below meth c ls C hr hlk X w hl
  replace hl : lv_has ls 2 [(0, .ref (ad 126))] := hl
  replace C : CallFix p m c cX6_unsee 2 s ([.ref (ad 126)] : List Value).toArray lwA RX6 := C
  unfold qX6_unsee at hf
  refine lv_aload_n C.1 C.2.1 dX6_unsee_0 rfl (lv_at hl 0 rfl) ?_
  refine gf_X6_52 C X w rfl dX6_unsee_1 ?_
  refine gf_X6_116 C X w (rfl) dX6_unsee_4 ?_
  refine lv_istore_n (lv' := [(1, .int ((h 29) 2)), (0, .ref (ad 126))]) C.1 C.2.1 dX6_unsee_7 rfl hl (by decide) rfl (fun ls hl => ?_)
  refine lv_aload_n C.1 C.2.1 dX6_unsee_8 rfl (lv_at hl 1 rfl) ?_
  refine gf_X6_52 C X w rfl dX6_unsee_9 ?_
  refine lv_iconst (v := 0) C.1 C.2.1 dX6_unsee_12 (by decide) ?_
  obtain ⟨h21, eh21, hf⟩ := bd_e hf
  refine pf_X6_116 C X hI w dX6_unsee_13 (fun H locs w => ?_)
  replace w := at_eq eh21 w
  refine lv_iload_n C.1 C.2.1 dX6_unsee_16 rfl (lv_at hl 0 rfl) ?_
  cases hf
  exact x_iret C hr hlk w dX6_unsee_17

def qX6_allSeenIsSoBy_28 : Nat → Hp → Int32 → Option (Int32 × Hp)
  | 0, _, _ => none
  | n + 1, h, v2 =>
    (if (20 : Int32) < v2 then (some ((1 : Int32), h))
    else (bi1 (qX2_passMinute (h 22) (h 23) (h 1)) (fun P32 =>
    (bd (su h 1 P32) (fun h33 =>
    (bi1 (qX3_ridersIn (h33 29) (h33 30) (h33 31) v2) (fun r35 =>
    (if ((r35 &&& ((h33 1) 36)) &&& (((h33 1) 30) ^^^ (-1 : Int32))) = 0 then (qX6_allSeenIsSoBy_28 n h33 (v2 + 1))
    else (some ((0 : Int32), h33))))))))))
set_option maxHeartbeats 4000000 in
set_option maxRecDepth 100000 in
theorem w_X6_allSeenIsSoBy_28 {p : Program} {l : Launch} {e : Env} {s : State} {m : MethodId} {args : Array Value} {below : List Frame} {meth : Method} {c : Code} {E : Ev} {ad : Nat → Nat} {g : Gp} {r : Int32} {h9 : Hp} (C : CallFix p m c cX6_allSeenIsSoBy 3 s args lwA RX6) (hr : meth.sig.returnType = (some .boolean)) (hlk : meth.locks = false) (X : Sx E ad s) (hI : Inj ad)  : ∀ (n : Nat), ∀ (h : Hp) (v2 : Int32) (H : Heap) (locs : List Loc) (ls : Array Slot), At E ad h g s H locs → lv_has ls 3 [(0, .ref (ad 126)), (2, .int v2)] → qX6_allSeenIsSoBy_28 n h v2 = some (r, h9) → W p l e (RM 5 113) s m args below meth c H locs 0 0 (QI E ad h9 g r below args s) (F0 m 28 ls []) := by
  intro n
  induction n with
  | zero =>
    intro h v2 H locs ls w hl hf
    cases hf
  | succ n ih =>
    intro h v2 H locs ls w hl hf
    rw [qX6_allSeenIsSoBy_28] at hf
    refine lv_iload_n C.1 C.2.1 dX6_allSeenIsSoBy_28 rfl (lv_at hl 1 rfl) ?_
    refine lv_bipush (v := 20) C.1 C.2.1 dX6_allSeenIsSoBy_29 (by decide) ?_
    refine lv_icmp_gt (tgt := 78) C.1 C.2.1 dX6_allSeenIsSoBy_31 (by decide) (fun c29 => ?_) (fun c29 => ?_)
    · rw [if_pos c29] at hf
      refine lv_iconst (v := 1) C.1 C.2.1 dX6_allSeenIsSoBy_78 (by decide) ?_
      cases hf
      exact x_zret C hr hlk w rfl dX6_allSeenIsSoBy_79
    · rw [if_neg c29] at hf
      refine lv_aload_n C.1 C.2.1 dX6_allSeenIsSoBy_34 rfl (lv_at hl 0 rfl) ?_
      refine gf_X6_32 C X w rfl dX6_allSeenIsSoBy_35 ?_
      obtain ⟨P32, eq30, hf⟩ := bi1_e hf
      obtain ⟨h33, eh33, hf⟩ := bd_e hf
      refine x_cVvN (As := []) (rest := []) C X (at_su 1 w) (c_X2_passMinute hI (by decide) eq30) mw_X2_passMinute ml_X6_153 (rcv_P (b := 1) (su_same _ _ _) (by decide)) rfl hl.1 rfl (Nat.le_of_ble_eq_true rfl) ⟨⟨Nat.le_of_ble_eq_true rfl, Nat.le_of_ble_eq_true rfl⟩, Nat.le_of_ble_eq_true rfl, Nat.le_of_ble_eq_true rfl⟩ dX6_allSeenIsSoBy_38 (fun H locs w => ?_)
      replace w := at_eq eh33 w
      refine lv_aload_n C.1 C.2.1 dX6_allSeenIsSoBy_41 rfl (lv_at hl 0 rfl) ?_
      refine gf_X6_52 C X w rfl dX6_allSeenIsSoBy_42 ?_
      refine lv_iload_n C.1 C.2.1 dX6_allSeenIsSoBy_45 rfl (lv_at hl 1 rfl) ?_
      obtain ⟨r35, eq34, hf⟩ := bi1_e hf
      refine x_cViN (As := [.int v2]) (rest := []) C X w (c_X3_ridersIn hI (rfl) (rfl) (rfl) eq34) mw_X3_ridersIn ml_X6_277 rcv_r29 rfl hl.1 rfl (Nat.le_of_ble_eq_true rfl) ⟨⟨Nat.le_of_ble_eq_true rfl, Nat.le_of_ble_eq_true rfl⟩, Nat.le_of_ble_eq_true rfl, Nat.le_of_ble_eq_true rfl⟩ dX6_allSeenIsSoBy_46 (fun H locs w => ?_)
      refine lv_aload_n C.1 C.2.1 dX6_allSeenIsSoBy_49 rfl (lv_at hl 0 rfl) ?_
      refine gf_X6_32 C X w rfl dX6_allSeenIsSoBy_50 ?_
      refine gf_X6_280 (b := 1) C X w rfl (by decide) dX6_allSeenIsSoBy_53 ?_
      refine lv_iand C.1 C.2.1 dX6_allSeenIsSoBy_56 ?_
      refine lv_aload_n C.1 C.2.1 dX6_allSeenIsSoBy_57 rfl (lv_at hl 0 rfl) ?_
      refine gf_X6_32 C X w rfl dX6_allSeenIsSoBy_58 ?_
      refine gf_X6_97 (b := 1) C X w rfl (by decide) dX6_allSeenIsSoBy_61 ?_
      refine lv_iconst (v := -1) C.1 C.2.1 dX6_allSeenIsSoBy_64 (by decide) ?_
      refine lv_ixor C.1 C.2.1 dX6_allSeenIsSoBy_65 ?_
      refine lv_iand C.1 C.2.1 dX6_allSeenIsSoBy_66 ?_
      refine lv_if_eq (tgt := 72) C.1 C.2.1 dX6_allSeenIsSoBy_67 (by decide) (fun c36 => ?_) (fun c36 => ?_)
      · rw [if_pos c36] at hf
        refine lv_iinc (v := (v2 + 1)) (lv' := [(2, .int (v2 + 1)), (0, .ref (ad 126))]) C.1 C.2.1 dX6_allSeenIsSoBy_72 hl (k := 1) rfl (congrArg (fun z => v2 + z) (by decide)) (by decide) rfl (fun ls hl => ?_)
        refine lv_goto (tgt := 28) C.1 C.2.1 dX6_allSeenIsSoBy_75 (by decide) ?_
        exact ih _ _ _ _ _ w (lv_sub hl [1, 0] rfl) hf
      · rw [if_neg c36] at hf
        refine lv_iconst (v := 0) C.1 C.2.1 dX6_allSeenIsSoBy_70 (by decide) ?_
        cases hf
        exact x_zret C hr hlk w rfl dX6_allSeenIsSoBy_71
def qX6_allSeenIsSoBy (h : Hp) (x1 : Int32) : Option (Int32 × Hp) :=
(bi1 (qX2_copyFrom (h 0) (h 1)) (fun P23 =>
(bd (su h 1 P23) (fun h24 =>
(bi1 (qX2_setRule (h24 1) x1 ((h24 0) 33)) (fun P27 =>
(bd (su h24 1 P27) (fun h28 =>
(qX6_allSeenIsSoBy_28 600 h28 (1 : Int32))))))))))
set_option maxHeartbeats 4000000 in
set_option maxRecDepth 100000 in
theorem c_X6_allSeenIsSoBy {l : Launch} {E : Ev} {ad : Nat → Nat} {g : Gp} {h : Hp} {x1 : Int32} {r : Int32} {h9 : Hp} (hI : Inj ad) (hf : qX6_allSeenIsSoBy h x1 = some (r, h9)) : CtI l yX6_allSeenIsSoBy cX6_allSeenIsSoBy 3 (some .boolean) 5 113 E ad g g [.ref (ad 126), .int x1] h h9 r := by
  refine x_begin (by decide) (Nat.le_of_ble_eq_true rfl) ?_
  intro p e s m below meth c ls C hr hlk X w hl
  replace hl : lv_has ls 3 [(0, .ref (ad 126)), (1, .int x1)] := hl
  replace C : CallFix p m c cX6_allSeenIsSoBy 3 s ([.ref (ad 126), .int x1] : List Value).toArray lwA RX6 := C
  unfold qX6_allSeenIsSoBy at hf
  refine lv_aload_n C.1 C.2.1 dX6_allSeenIsSoBy_0 rfl (lv_at hl 0 rfl) ?_
  refine gf_X6_32 C X w rfl dX6_allSeenIsSoBy_1 ?_
  refine lv_aload_n C.1 C.2.1 dX6_allSeenIsSoBy_4 rfl (lv_at hl 0 rfl) ?_
  refine gf_X6_28 C X w rfl dX6_allSeenIsSoBy_5 ?_
  obtain ⟨P23, eq21, hf⟩ := bi1_e hf
  obtain ⟨h24, eh24, hf⟩ := bd_e hf
  refine x_cVvN (As := [.ref (ad (7 * 0))]) (rest := []) C X (at_su 1 w) (c_X2_copyFrom hI (by decide) (by decide) (by first | decide | omega) eq21) mw_X2_copyFrom ml_X6_209 (rcv_P (b := 1) (su_same _ _ _) (by decide)) rfl hl.1 rfl (Nat.le_of_ble_eq_true rfl) ⟨⟨Nat.le_of_ble_eq_true rfl, Nat.le_of_ble_eq_true rfl⟩, Nat.le_of_ble_eq_true rfl, Nat.le_of_ble_eq_true rfl⟩ dX6_allSeenIsSoBy_8 (fun H locs w => ?_)
  replace w := at_eq eh24 w
  refine lv_aload_n C.1 C.2.1 dX6_allSeenIsSoBy_11 rfl (lv_at hl 0 rfl) ?_
  refine gf_X6_32 C X w rfl dX6_allSeenIsSoBy_12 ?_
  refine lv_iload_n C.1 C.2.1 dX6_allSeenIsSoBy_15 rfl (lv_at hl 1 rfl) ?_
  refine lv_aload_n C.1 C.2.1 dX6_allSeenIsSoBy_16 rfl (lv_at hl 0 rfl) ?_
  refine gf_X6_28 C X w rfl dX6_allSeenIsSoBy_17 ?_
  refine gf_X6_93 (b := 0) C X w rfl (by decide) dX6_allSeenIsSoBy_20 ?_
  obtain ⟨P27, eq25, hf⟩ := bi1_e hf
  obtain ⟨h28, eh28, hf⟩ := bd_e hf
  refine x_cVvN (As := [.int x1, .int ((h24 0) 33)]) (rest := []) C X (at_su 1 w) (c_X2_setRule hI (by decide) eq25) mw_X2_setRule ml_X6_183 (rcv_P (b := 1) (su_same _ _ _) (by decide)) rfl hl.1 rfl (Nat.le_of_ble_eq_true rfl) ⟨⟨Nat.le_of_ble_eq_true rfl, Nat.le_of_ble_eq_true rfl⟩, Nat.le_of_ble_eq_true rfl, Nat.le_of_ble_eq_true rfl⟩ dX6_allSeenIsSoBy_23 (fun H locs w => ?_)
  replace w := at_eq eh28 w
  refine lv_iconst (v := 1) C.1 C.2.1 dX6_allSeenIsSoBy_26 (by decide) ?_
  refine lv_istore_n (lv' := [(2, .int (1 : Int32)), (0, .ref (ad 126)), (1, .int x1)]) C.1 C.2.1 dX6_allSeenIsSoBy_27 rfl hl (by decide) rfl (fun ls hl => ?_)
  exact w_X6_allSeenIsSoBy_28 C hr hlk X hI 600 _ _ _ _ _ w (lv_sub hl [1, 0] rfl) hf

def qX6_may_23 (k4 : Hp → Int32 → Int32 → Option (Int32 × Hp)) (h : Hp) (v1 : Int32) (v2 : Int32) : Option (Int32 × Hp) :=
(k4 h v1 (v2 + 1))
set_option maxHeartbeats 4000000 in
set_option maxRecDepth 100000 in
theorem w_X6_may_23 {p : Program} {l : Launch} {e : Env} {s : State} {m : MethodId} {args : Array Value} {below : List Frame} {meth : Method} {c : Code} {E : Ev} {ad : Nat → Nat} {g : Gp} {r : Int32} {h9 : Hp} {k4 : Hp → Int32 → Int32 → Option (Int32 × Hp)} (C : CallFix p m c cX6_may 3 s args lwA RX6) (hr : meth.sig.returnType = (some .int)) (hlk : meth.locks = false) (X : Sx E ad s) (hI : Inj ad) (hk4 : ∀ (h : Hp) (v1 : Int32) (v2 : Int32) (H : Heap) (locs : List Loc) (ls : Array Slot), At E ad h g s H locs → lv_has ls 3 [(0, .ref (ad 126)), (1, .int v1), (2, .int v2)] → k4 h v1 v2 = some (r, h9) → W p l e (RM 6 135) s m args below meth c H locs 0 0 (QI E ad h9 g r below args s) (F0 m 4 ls [])) : ∀ (h : Hp) (v1 : Int32) (v2 : Int32) (H : Heap) (locs : List Loc) (ls : Array Slot), At E ad h g s H locs → lv_has ls 3 [(0, .ref (ad 126)), (1, .int v1), (2, .int v2)] → qX6_may_23 k4 h v1 v2 = some (r, h9) → W p l e (RM 6 135) s m args below meth c H locs 0 0 (QI E ad h9 g r below args s) (F0 m 23 ls []) := by
  intro h v1 v2 H locs ls w hl hf
  unfold qX6_may_23 at hf
  refine lv_iinc (v := (v2 + 1)) (lv' := [(2, .int (v2 + 1)), (0, .ref (ad 126)), (1, .int v1)]) C.1 C.2.1 dX6_may_23 hl (k := 2) rfl (congrArg (fun z => v2 + z) (by decide)) (by decide) rfl (fun ls hl => ?_)
  refine lv_goto (tgt := 4) C.1 C.2.1 dX6_may_26 (by decide) ?_
  exact hk4 _ _ _ _ _ _ w (lv_sub hl [1, 2, 0] rfl) hf
def qX6_may_4 : Nat → Hp → Int32 → Int32 → Option (Int32 × Hp)
  | 0, _, _, _ => none
  | n + 1, h, v1, v2 =>
    (if (4 : Int32) ≤ v2 then (some (v1, h))
    else (bi2 (qX6_allSeenIsSoBy h v2) (fun r23 h24 =>
    (if r23 = 0 then (qX6_may_23 (qX6_may_4 n) h24 v1 v2)
    else (qX6_may_23 (qX6_may_4 n) h24 (v1 ||| ((1 : Int32) <<< (v2 &&& 31))) v2)))))
set_option maxHeartbeats 4000000 in
set_option maxRecDepth 100000 in
theorem w_X6_may_4 {p : Program} {l : Launch} {e : Env} {s : State} {m : MethodId} {args : Array Value} {below : List Frame} {meth : Method} {c : Code} {E : Ev} {ad : Nat → Nat} {g : Gp} {r : Int32} {h9 : Hp} (C : CallFix p m c cX6_may 3 s args lwA RX6) (hr : meth.sig.returnType = (some .int)) (hlk : meth.locks = false) (X : Sx E ad s) (hI : Inj ad)  : ∀ (n : Nat), ∀ (h : Hp) (v1 : Int32) (v2 : Int32) (H : Heap) (locs : List Loc) (ls : Array Slot), At E ad h g s H locs → lv_has ls 3 [(0, .ref (ad 126)), (1, .int v1), (2, .int v2)] → qX6_may_4 n h v1 v2 = some (r, h9) → W p l e (RM 6 135) s m args below meth c H locs 0 0 (QI E ad h9 g r below args s) (F0 m 4 ls []) := by
  intro n
  induction n with
  | zero =>
    intro h v1 v2 H locs ls w hl hf
    cases hf
  | succ n ih =>
    intro h v1 v2 H locs ls w hl hf
    rw [qX6_may_4] at hf
    refine lv_iload_n C.1 C.2.1 dX6_may_4 rfl (lv_at hl 2 rfl) ?_
    refine lv_iconst (v := 4) C.1 C.2.1 dX6_may_5 (by decide) ?_
    refine lv_icmp_ge (tgt := 29) C.1 C.2.1 dX6_may_6 (by decide) (fun c21 => ?_) (fun c21 => ?_)
    · rw [if_pos c21] at hf
      refine lv_iload_n C.1 C.2.1 dX6_may_29 rfl (lv_at hl 1 rfl) ?_
      cases hf
      exact x_iret C hr hlk w dX6_may_30
    · rw [if_neg c21] at hf
      refine lv_aload_n C.1 C.2.1 dX6_may_9 rfl (lv_at hl 0 rfl) ?_
      refine lv_iload_n C.1 C.2.1 dX6_may_10 rfl (lv_at hl 2 rfl) ?_
      obtain ⟨r23, h24, eq22, hf⟩ := bi2_e hf
      refine x_cVi (As := [.int v2]) (rest := []) C X w (c_X6_allSeenIsSoBy hI eq22) mw_X6_allSeenIsSoBy ml_X6_239 rcv_r18 rfl hl.1 rfl (Nat.le_of_ble_eq_true rfl) ⟨⟨Nat.le_of_ble_eq_true rfl, Nat.le_of_ble_eq_true rfl⟩, Nat.le_of_ble_eq_true rfl, Nat.le_of_ble_eq_true rfl⟩ dX6_may_11 (fun H locs w => ?_)
      refine lv_if_eq (tgt := 23) C.1 C.2.1 dX6_may_14 (by decide) (fun c25 => ?_) (fun c25 => ?_)
      · rw [if_pos c25] at hf
        exact w_X6_may_23 C hr hlk X hI ih _ _ _ _ _ _ w (lv_sub hl [0, 1, 2] rfl) hf
      · rw [if_neg c25] at hf
        refine lv_iload_n C.1 C.2.1 dX6_may_17 rfl (lv_at hl 1 rfl) ?_
        refine lv_iconst (v := 1) C.1 C.2.1 dX6_may_18 (by decide) ?_
        refine lv_iload_n C.1 C.2.1 dX6_may_19 rfl (lv_at hl 2 rfl) ?_
        refine lv_ishl C.1 C.2.1 dX6_may_20 ?_
        refine lv_ior C.1 C.2.1 dX6_may_21 ?_
        refine lv_istore_n (lv' := [(1, .int (v1 ||| ((1 : Int32) <<< (v2 &&& 31)))), (0, .ref (ad 126)), (2, .int v2)]) C.1 C.2.1 dX6_may_22 rfl hl (by decide) rfl (fun ls hl => ?_)
        exact w_X6_may_23 C hr hlk X hI ih _ _ _ _ _ _ w (lv_sub hl [1, 0, 2] rfl) hf
def qX6_may (h : Hp) : Option (Int32 × Hp) :=
(qX6_may_4 600 h (0 : Int32) (0 : Int32))
set_option maxHeartbeats 4000000 in
set_option maxRecDepth 100000 in
theorem c_X6_may {l : Launch} {E : Ev} {ad : Nat → Nat} {g : Gp} {h : Hp} {r : Int32} {h9 : Hp} (hI : Inj ad) (hf : qX6_may h = some (r, h9)) : CtI l yX6_may cX6_may 3 (some .int) 6 135 E ad g g [.ref (ad 126)] h h9 r := by
  refine x_begin (by decide) (Nat.le_of_ble_eq_true rfl) ?_
  intro p e s m below meth c ls C hr hlk X w hl
  replace hl : lv_has ls 3 [(0, .ref (ad 126))] := hl
  replace C : CallFix p m c cX6_may 3 s ([.ref (ad 126)] : List Value).toArray lwA RX6 := C
  unfold qX6_may at hf
  refine lv_iconst (v := 0) C.1 C.2.1 dX6_may_0 (by decide) ?_
  refine lv_istore_n (lv' := [(1, .int (0 : Int32)), (0, .ref (ad 126))]) C.1 C.2.1 dX6_may_1 rfl hl (by decide) rfl (fun ls hl => ?_)
  refine lv_iconst (v := 0) C.1 C.2.1 dX6_may_2 (by decide) ?_
  refine lv_istore_n (lv' := [(2, .int (0 : Int32)), (1, .int (0 : Int32)), (0, .ref (ad 126))]) C.1 C.2.1 dX6_may_3 rfl hl (by decide) rfl (fun ls hl => ?_)
  exact w_X6_may_4 C hr hlk X hI 600 _ _ _ _ _ _ w (lv_sub hl [2, 1, 0] rfl) hf

def qX6_gain (h : Hp) (x1 : Int32) (x2 : Int32) (x3 : Int32) (x4 : Int32) : Option (Int32) :=
(if x2 = (1 : Int32) then (if x4 = (1 : Int32) then (some (3 : Int32))
else (some (0 : Int32)))
else (if x4 = (1 : Int32) then (ck (inb x1 5) ((some ((3 : Int32) + (((h 0) (0 + x1.toNatClampNeg)) / (2 : Int32))))))
else (bi1 (qX1_might (h 22) (h 23) x1) (fun r24 =>
(bi1 (qX1_might (h 22) (h 23) x3) (fun r26 =>
(if (r24 - r26) = 0 then (some (-1 : Int32))
else (if (r24 - r26) ≤ 0 then (some (-2 : Int32))
else (ck (inb x1 5) ((some (((h 0) (0 + x1.toNatClampNeg)) / (3 : Int32)))))))))))))
set_option maxHeartbeats 4000000 in
set_option maxRecDepth 100000 in
theorem c_X6_gain {l : Launch} {E : Ev} {ad : Nat → Nat} {g : Gp} {h : Hp} {x1 : Int32} {x2 : Int32} {x3 : Int32} {x4 : Int32} {r : Int32} (hI : Inj ad) (hf : qX6_gain h x1 x2 x3 x4 = some r) : CtI l yX6_gain cX6_gain 6 (some .int) 1 21 E ad g g [.ref (ad 126), .int x1, .int x2, .int x3, .int x4] h h r := by
  refine x_begin (by decide) (Nat.le_of_ble_eq_true rfl) ?_
  intro p e s m below meth c ls C hr hlk X w hl
  replace hl : lv_has ls 6 [(0, .ref (ad 126)), (1, .int x1), (2, .int x2), (3, .int x3), (4, .int x4)] := hl
  replace C : CallFix p m c cX6_gain 6 s ([.ref (ad 126), .int x1, .int x2, .int x3, .int x4] : List Value).toArray lwA RX6 := C
  unfold qX6_gain at hf
  refine lv_iload_n C.1 C.2.1 dX6_gain_0 rfl (lv_at hl 2 rfl) ?_
  refine lv_iconst (v := 1) C.1 C.2.1 dX6_gain_1 (by decide) ?_
  refine lv_icmp_ne (tgt := 17) C.1 C.2.1 dX6_gain_2 (by decide) (fun c21 => ?_) (fun c21 => ?_)
  · rw [if_neg c21] at hf
    refine lv_iload C.1 C.2.1 dX6_gain_17 (lv_at hl 4 rfl) ?_
    refine lv_iconst (v := 1) C.1 C.2.1 dX6_gain_19 (by decide) ?_
    refine lv_icmp_ne (tgt := 37) C.1 C.2.1 dX6_gain_20 (by decide) (fun c22 => ?_) (fun c22 => ?_)
    · rw [if_neg c22] at hf
      refine lv_aload_n C.1 C.2.1 dX6_gain_37 rfl (lv_at hl 0 rfl) ?_
      refine gf_X6_19 C X w rfl dX6_gain_38 ?_
      refine lv_iload_n C.1 C.2.1 dX6_gain_41 rfl (lv_at hl 1 rfl) ?_
      obtain ⟨r24, eq23, hf⟩ := bi1_e hf
      refine x_cViN (As := [.int x1]) (rest := []) C X w (c_X1_might hI (rfl) (rfl) eq23) mw_X1_might ml_X6_130 rcv_r21 rfl hl.1 rfl (Nat.le_of_ble_eq_true rfl) ⟨⟨Nat.le_of_ble_eq_true rfl, Nat.le_of_ble_eq_true rfl⟩, Nat.le_of_ble_eq_true rfl, Nat.le_of_ble_eq_true rfl⟩ dX6_gain_42 (fun H locs w => ?_)
      refine lv_aload_n C.1 C.2.1 dX6_gain_45 rfl (lv_at hl 0 rfl) ?_
      refine gf_X6_19 C X w rfl dX6_gain_46 ?_
      refine lv_iload_n C.1 C.2.1 dX6_gain_49 rfl (lv_at hl 3 rfl) ?_
      obtain ⟨r26, eq25, hf⟩ := bi1_e hf
      refine x_cViN (As := [.int x3]) (rest := [.int r24]) C X w (c_X1_might hI (rfl) (rfl) eq25) mw_X1_might ml_X6_130 rcv_r21 rfl hl.1 rfl (Nat.le_of_ble_eq_true rfl) ⟨⟨Nat.le_of_ble_eq_true rfl, Nat.le_of_ble_eq_true rfl⟩, Nat.le_of_ble_eq_true rfl, Nat.le_of_ble_eq_true rfl⟩ dX6_gain_50 (fun H locs w => ?_)
      refine lv_isub C.1 C.2.1 dX6_gain_53 ?_
      refine lv_istore (lv' := [(5, .int (r24 - r26)), (0, .ref (ad 126)), (1, .int x1), (2, .int x2), (3, .int x3), (4, .int x4)]) C.1 C.2.1 dX6_gain_54 hl (by decide) rfl (fun ls hl => ?_)
      refine lv_iload C.1 C.2.1 dX6_gain_56 (lv_at hl 0 rfl) ?_
      refine lv_if_ne (tgt := 63) C.1 C.2.1 dX6_gain_58 (by decide) (fun c27 => ?_) (fun c27 => ?_)
      · rw [if_neg c27] at hf
        refine lv_iload C.1 C.2.1 dX6_gain_63 (lv_at hl 0 rfl) ?_
        refine lv_if_le (tgt := 82) C.1 C.2.1 dX6_gain_65 (by decide) (fun c28 => ?_) (fun c28 => ?_)
        · rw [if_pos c28] at hf
          refine lv_bipush (v := -2) C.1 C.2.1 dX6_gain_82 (by decide) ?_
          cases hf
          exact x_iret C hr hlk w dX6_gain_84
        · rw [if_neg c28] at hf
          refine lv_aload_n C.1 C.2.1 dX6_gain_68 rfl (lv_at hl 1 rfl) ?_
          refine gf_X6_28 C X w rfl dX6_gain_69 ?_
          refine gf_X6_121 (b := 0) C X w rfl (by decide) dX6_gain_72 ?_
          refine lv_iload_n C.1 C.2.1 dX6_gain_75 rfl (lv_at hl 2 rfl) ?_
          obtain ⟨i29, hf⟩ := ck_e hf
          refine x_pld (b := 0) (k := 1) (o := 0) (j := x1.toNatClampNeg) C X w rfl (by decide) (by decide) (by decide) rfl i29 rfl dX6_gain_76 ?_
          refine lv_iconst (v := 3) C.1 C.2.1 dX6_gain_77 (by decide) ?_
          refine lv_idiv C.1 C.2.1 dX6_gain_78 (by decide) ?_
          refine lv_goto (tgt := 84) C.1 C.2.1 dX6_gain_79 (by decide) ?_
          cases hf
          exact x_iret C hr hlk w dX6_gain_84
      · rw [if_pos c27] at hf
        refine lv_iconst (v := -1) C.1 C.2.1 dX6_gain_61 (by decide) ?_
        cases hf
        exact x_iret C hr hlk w dX6_gain_62
    · rw [if_pos c22] at hf
      refine lv_iconst (v := 3) C.1 C.2.1 dX6_gain_23 (by decide) ?_
      refine lv_aload_n C.1 C.2.1 dX6_gain_24 rfl (lv_at hl 0 rfl) ?_
      refine gf_X6_28 C X w rfl dX6_gain_25 ?_
      refine gf_X6_121 (b := 0) C X w rfl (by decide) dX6_gain_28 ?_
      refine lv_iload_n C.1 C.2.1 dX6_gain_31 rfl (lv_at hl 1 rfl) ?_
      obtain ⟨i30, hf⟩ := ck_e hf
      refine x_pld (b := 0) (k := 1) (o := 0) (j := x1.toNatClampNeg) C X w rfl (by decide) (by decide) (by decide) rfl i30 rfl dX6_gain_32 ?_
      refine lv_iconst (v := 2) C.1 C.2.1 dX6_gain_33 (by decide) ?_
      refine lv_idiv C.1 C.2.1 dX6_gain_34 (by decide) ?_
      refine lv_iadd C.1 C.2.1 dX6_gain_35 ?_
      cases hf
      exact x_iret C hr hlk w dX6_gain_36
  · rw [if_pos c21] at hf
    refine lv_iload C.1 C.2.1 dX6_gain_5 (lv_at hl 4 rfl) ?_
    refine lv_iconst (v := 1) C.1 C.2.1 dX6_gain_7 (by decide) ?_
    refine lv_icmp_ne (tgt := 15) C.1 C.2.1 dX6_gain_8 (by decide) (fun c31 => ?_) (fun c31 => ?_)
    · rw [if_neg c31] at hf
      refine lv_iconst (v := 0) C.1 C.2.1 dX6_gain_15 (by decide) ?_
      cases hf
      exact x_iret C hr hlk w dX6_gain_16
    · rw [if_pos c31] at hf
      refine lv_iconst (v := 3) C.1 C.2.1 dX6_gain_11 (by decide) ?_
      refine lv_goto (tgt := 16) C.1 C.2.1 dX6_gain_12 (by decide) ?_
      cases hf
      exact x_iret C hr hlk w dX6_gain_16

def qX6_staysWith (h : Hp) (x1 : Int32) (x2 : Int32) (x3 : Int32) (x4 : Int32) : Option (Int32) :=
(bi1 (qX6_gain h x1 x2 x3 x4) (fun r22 =>
(bi1 (qX6_gain h x1 ((1 : Int32) - x2) x3 x4) (fun r24 =>
(if r22 < r24 then (some (0 : Int32))
else (some (1 : Int32)))))))
set_option maxHeartbeats 4000000 in
set_option maxRecDepth 100000 in
theorem c_X6_staysWith {l : Launch} {E : Ev} {ad : Nat → Nat} {g : Gp} {h : Hp} {x1 : Int32} {x2 : Int32} {x3 : Int32} {x4 : Int32} {r : Int32} (hI : Inj ad) (hf : qX6_staysWith h x1 x2 x3 x4 = some r) : CtI l yX6_staysWith cX6_staysWith 5 (some .boolean) 2 46 E ad g g [.ref (ad 126), .int x1, .int x2, .int x3, .int x4] h h r := by
  refine x_begin (by decide) (Nat.le_of_ble_eq_true rfl) ?_
  intro p e s m below meth c ls C hr hlk X w hl
  replace hl : lv_has ls 5 [(0, .ref (ad 126)), (1, .int x1), (2, .int x2), (3, .int x3), (4, .int x4)] := hl
  replace C : CallFix p m c cX6_staysWith 5 s ([.ref (ad 126), .int x1, .int x2, .int x3, .int x4] : List Value).toArray lwA RX6 := C
  unfold qX6_staysWith at hf
  refine lv_aload_n C.1 C.2.1 dX6_staysWith_0 rfl (lv_at hl 0 rfl) ?_
  refine lv_iload_n C.1 C.2.1 dX6_staysWith_1 rfl (lv_at hl 1 rfl) ?_
  refine lv_iload_n C.1 C.2.1 dX6_staysWith_2 rfl (lv_at hl 2 rfl) ?_
  refine lv_iload_n C.1 C.2.1 dX6_staysWith_3 rfl (lv_at hl 3 rfl) ?_
  refine lv_iload C.1 C.2.1 dX6_staysWith_4 (lv_at hl 4 rfl) ?_
  obtain ⟨r22, eq21, hf⟩ := bi1_e hf
  refine x_cVi (As := [.int x1, .int x2, .int x3, .int x4]) (rest := []) C X w (c_X6_gain hI eq21) mw_X6_gain ml_X6_283 rcv_r18 rfl hl.1 rfl (Nat.le_of_ble_eq_true rfl) ⟨⟨Nat.le_of_ble_eq_true rfl, Nat.le_of_ble_eq_true rfl⟩, Nat.le_of_ble_eq_true rfl, Nat.le_of_ble_eq_true rfl⟩ dX6_staysWith_6 (fun H locs w => ?_)
  refine lv_aload_n C.1 C.2.1 dX6_staysWith_9 rfl (lv_at hl 0 rfl) ?_
  refine lv_iload_n C.1 C.2.1 dX6_staysWith_10 rfl (lv_at hl 1 rfl) ?_
  refine lv_iconst (v := 1) C.1 C.2.1 dX6_staysWith_11 (by decide) ?_
  refine lv_iload_n C.1 C.2.1 dX6_staysWith_12 rfl (lv_at hl 2 rfl) ?_
  refine lv_isub C.1 C.2.1 dX6_staysWith_13 ?_
  refine lv_iload_n C.1 C.2.1 dX6_staysWith_14 rfl (lv_at hl 3 rfl) ?_
  refine lv_iload C.1 C.2.1 dX6_staysWith_15 (lv_at hl 4 rfl) ?_
  obtain ⟨r24, eq23, hf⟩ := bi1_e hf
  refine x_cVi (As := [.int x1, .int ((1 : Int32) - x2), .int x3, .int x4]) (rest := [.int r22]) C X w (c_X6_gain hI eq23) mw_X6_gain ml_X6_283 rcv_r18 rfl hl.1 rfl (Nat.le_of_ble_eq_true rfl) ⟨⟨Nat.le_of_ble_eq_true rfl, Nat.le_of_ble_eq_true rfl⟩, Nat.le_of_ble_eq_true rfl, Nat.le_of_ble_eq_true rfl⟩ dX6_staysWith_17 (fun H locs w => ?_)
  refine lv_icmp_lt (tgt := 27) C.1 C.2.1 dX6_staysWith_20 (by decide) (fun c25 => ?_) (fun c25 => ?_)
  · rw [if_pos c25] at hf
    refine lv_iconst (v := 0) C.1 C.2.1 dX6_staysWith_27 (by decide) ?_
    cases hf
    exact x_zret C hr hlk w rfl dX6_staysWith_28
  · rw [if_neg c25] at hf
    refine lv_iconst (v := 1) C.1 C.2.1 dX6_staysWith_23 (by decide) ?_
    refine lv_goto (tgt := 28) C.1 C.2.1 dX6_staysWith_24 (by decide) ?_
    cases hf
    exact x_zret C hr hlk w rfl dX6_staysWith_28

def qX6_rests_117 (h : Hp) (k60 : Int32 → Int32 → Int32 → Int32 → Int32 → Int32 → Int32 → Option (Int32)) (k51 : Int32 → Int32 → Int32 → Int32 → Int32 → Int32 → Option (Int32)) (v1 : Int32) (v2 : Int32) (v3 : Int32) (v4 : Int32) (v5 : Int32) (v6 : Int32) (v7 : Int32) : Option (Int32) :=
(k60 v1 v2 v3 v4 v5 v6 (v7 + 1))
set_option maxHeartbeats 4000000 in
set_option maxRecDepth 100000 in
theorem w_X6_rests_117 {p : Program} {l : Launch} {e : Env} {s : State} {m : MethodId} {args : Array Value} {below : List Frame} {meth : Method} {c : Code} {E : Ev} {ad : Nat → Nat} {g : Gp} {h : Hp} {r : Int32} {k60 : Int32 → Int32 → Int32 → Int32 → Int32 → Int32 → Int32 → Option (Int32)} {k51 : Int32 → Int32 → Int32 → Int32 → Int32 → Int32 → Option (Int32)} (C : CallFix p m c cX6_rests 8 s args lwA RX6) (hr : meth.sig.returnType = (some .int)) (hlk : meth.locks = false) (X : Sx E ad s) (hI : Inj ad) (hk60 : ∀ (v1 : Int32) (v2 : Int32) (v3 : Int32) (v4 : Int32) (v5 : Int32) (v6 : Int32) (v7 : Int32) (H : Heap) (locs : List Loc) (ls : Array Slot), At E ad h g s H locs → lv_has ls 8 [(0, .ref (ad 126)), (1, .int v1), (2, .int v2), (3, .int v3), (4, .int v4), (5, .int v5), (6, .int v6), (7, .int v7)] → k60  v1 v2 v3 v4 v5 v6 v7 = some r → W p l e (RM 3 70) s m args below meth c H locs 0 0 (QI E ad h g r below args s) (F0 m 60 ls [])) (hk51 : ∀ (v1 : Int32) (v2 : Int32) (v3 : Int32) (v4 : Int32) (v5 : Int32) (v6 : Int32) (H : Heap) (locs : List Loc) (ls : Array Slot), At E ad h g s H locs → lv_has ls 8 [(0, .ref (ad 126)), (1, .int v1), (2, .int v2), (3, .int v3), (4, .int v4), (5, .int v5), (6, .int v6)] → k51  v1 v2 v3 v4 v5 v6 = some r → W p l e (RM 3 70) s m args below meth c H locs 0 0 (QI E ad h g r below args s) (F0 m 51 ls [])) : ∀ (v1 : Int32) (v2 : Int32) (v3 : Int32) (v4 : Int32) (v5 : Int32) (v6 : Int32) (v7 : Int32) (H : Heap) (locs : List Loc) (ls : Array Slot), At E ad h g s H locs → lv_has ls 8 [(0, .ref (ad 126)), (1, .int v1), (2, .int v2), (3, .int v3), (4, .int v4), (5, .int v5), (6, .int v6), (7, .int v7)] → qX6_rests_117 h k60 k51 v1 v2 v3 v4 v5 v6 v7 = some r → W p l e (RM 3 70) s m args below meth c H locs 0 0 (QI E ad h g r below args s) (F0 m 117 ls []) := by
  intro v1 v2 v3 v4 v5 v6 v7 H locs ls w hl hf
  unfold qX6_rests_117 at hf
  refine lv_iinc (v := (v7 + 1)) (lv' := [(7, .int (v7 + 1)), (0, .ref (ad 126)), (1, .int v1), (2, .int v2), (3, .int v3), (4, .int v4), (5, .int v5), (6, .int v6)]) C.1 C.2.1 dX6_rests_117 hl (k := 7) rfl (congrArg (fun z => v7 + z) (by decide)) (by decide) rfl (fun ls hl => ?_)
  refine lv_goto (tgt := 60) C.1 C.2.1 dX6_rests_120 (by decide) ?_
  exact hk60 _ _ _ _ _ _ _ _ _ _ w (lv_sub hl [1, 2, 3, 4, 5, 6, 7, 0] rfl) hf
def qX6_rests_115 (h : Hp) (k60 : Int32 → Int32 → Int32 → Int32 → Int32 → Int32 → Int32 → Option (Int32)) (k51 : Int32 → Int32 → Int32 → Int32 → Int32 → Int32 → Option (Int32)) (v1 : Int32) (v2 : Int32) (v3 : Int32) (v4 : Int32) (v6 : Int32) (v7 : Int32) (s0 : Int32) : Option (Int32) :=
(qX6_rests_117 h k60 k51 v1 v2 v3 v4 s0 v6 v7)
set_option maxHeartbeats 4000000 in
set_option maxRecDepth 100000 in
theorem w_X6_rests_115 {p : Program} {l : Launch} {e : Env} {s : State} {m : MethodId} {args : Array Value} {below : List Frame} {meth : Method} {c : Code} {E : Ev} {ad : Nat → Nat} {g : Gp} {h : Hp} {r : Int32} {k60 : Int32 → Int32 → Int32 → Int32 → Int32 → Int32 → Int32 → Option (Int32)} {k51 : Int32 → Int32 → Int32 → Int32 → Int32 → Int32 → Option (Int32)} (C : CallFix p m c cX6_rests 8 s args lwA RX6) (hr : meth.sig.returnType = (some .int)) (hlk : meth.locks = false) (X : Sx E ad s) (hI : Inj ad) (hk60 : ∀ (v1 : Int32) (v2 : Int32) (v3 : Int32) (v4 : Int32) (v5 : Int32) (v6 : Int32) (v7 : Int32) (H : Heap) (locs : List Loc) (ls : Array Slot), At E ad h g s H locs → lv_has ls 8 [(0, .ref (ad 126)), (1, .int v1), (2, .int v2), (3, .int v3), (4, .int v4), (5, .int v5), (6, .int v6), (7, .int v7)] → k60  v1 v2 v3 v4 v5 v6 v7 = some r → W p l e (RM 3 70) s m args below meth c H locs 0 0 (QI E ad h g r below args s) (F0 m 60 ls [])) (hk51 : ∀ (v1 : Int32) (v2 : Int32) (v3 : Int32) (v4 : Int32) (v5 : Int32) (v6 : Int32) (H : Heap) (locs : List Loc) (ls : Array Slot), At E ad h g s H locs → lv_has ls 8 [(0, .ref (ad 126)), (1, .int v1), (2, .int v2), (3, .int v3), (4, .int v4), (5, .int v5), (6, .int v6)] → k51  v1 v2 v3 v4 v5 v6 = some r → W p l e (RM 3 70) s m args below meth c H locs 0 0 (QI E ad h g r below args s) (F0 m 51 ls [])) : ∀ (v1 : Int32) (v2 : Int32) (v3 : Int32) (v4 : Int32) (v6 : Int32) (v7 : Int32) (s0 : Int32) (H : Heap) (locs : List Loc) (ls : Array Slot), At E ad h g s H locs → lv_has ls 8 [(0, .ref (ad 126)), (1, .int v1), (2, .int v2), (3, .int v3), (4, .int v4), (6, .int v6), (7, .int v7)] → qX6_rests_115 h k60 k51 v1 v2 v3 v4 v6 v7 s0 = some r → W p l e (RM 3 70) s m args below meth c H locs 0 0 (QI E ad h g r below args s) (F0 m 115 ls [.int s0]) := by
  intro v1 v2 v3 v4 v6 v7 s0 H locs ls w hl hf
  unfold qX6_rests_115 at hf
  refine lv_istore (lv' := [(5, .int s0), (0, .ref (ad 126)), (1, .int v1), (2, .int v2), (3, .int v3), (4, .int v4), (6, .int v6), (7, .int v7)]) C.1 C.2.1 dX6_rests_115 hl (by decide) rfl (fun ls hl => ?_)
  exact w_X6_rests_117 C hr hlk X hI hk60 hk51 _ _ _ _ _ _ _ _ _ _ w (lv_sub hl [1, 2, 3, 4, 5, 0, 6, 7] rfl) hf
def qX6_rests_60 (h : Hp) (k51 : Int32 → Int32 → Int32 → Int32 → Int32 → Int32 → Option (Int32)) : Nat → Int32 → Int32 → Int32 → Int32 → Int32 → Int32 → Int32 → Option (Int32)
  | 0, _, _, _, _, _, _, _ => none
  | n + 1, v1, v2, v3, v4, v5, v6, v7 =>
    (if (1 : Int32) < v7 then (k51 v1 v2 v3 v4 v5 (v6 + 1))
    else (bi1 (qX6_staysWith h v1 v6 v2 v7) (fun r34 =>
    (if r34 = 0 then (qX6_rests_117 h (qX6_rests_60 h k51 n) k51 v1 v2 v3 v4 v5 v6 v7)
    else (bi1 (qX6_staysWith h v2 v7 v1 v6) (fun r37 =>
    (if r37 = 0 then (qX6_rests_117 h (qX6_rests_60 h k51 n) k51 v1 v2 v3 v4 v5 v6 v7)
    else (if v5 = (-9 : Int32) then (qX6_rests_115 h (qX6_rests_60 h k51 n) k51 v1 v2 v3 (v4 + 1) v6 v7 (((10 : Int32) * v6) + v7))
    else (qX6_rests_115 h (qX6_rests_60 h k51 n) k51 v1 v2 v3 (v4 + 1) v6 v7 v5)))))))))
set_option maxHeartbeats 4000000 in
set_option maxRecDepth 100000 in
theorem w_X6_rests_60 {p : Program} {l : Launch} {e : Env} {s : State} {m : MethodId} {args : Array Value} {below : List Frame} {meth : Method} {c : Code} {E : Ev} {ad : Nat → Nat} {g : Gp} {h : Hp} {r : Int32} {k51 : Int32 → Int32 → Int32 → Int32 → Int32 → Int32 → Option (Int32)} (C : CallFix p m c cX6_rests 8 s args lwA RX6) (hr : meth.sig.returnType = (some .int)) (hlk : meth.locks = false) (X : Sx E ad s) (hI : Inj ad) (hk51 : ∀ (v1 : Int32) (v2 : Int32) (v3 : Int32) (v4 : Int32) (v5 : Int32) (v6 : Int32) (H : Heap) (locs : List Loc) (ls : Array Slot), At E ad h g s H locs → lv_has ls 8 [(0, .ref (ad 126)), (1, .int v1), (2, .int v2), (3, .int v3), (4, .int v4), (5, .int v5), (6, .int v6)] → k51  v1 v2 v3 v4 v5 v6 = some r → W p l e (RM 3 70) s m args below meth c H locs 0 0 (QI E ad h g r below args s) (F0 m 51 ls [])) : ∀ (n : Nat), ∀ (v1 : Int32) (v2 : Int32) (v3 : Int32) (v4 : Int32) (v5 : Int32) (v6 : Int32) (v7 : Int32) (H : Heap) (locs : List Loc) (ls : Array Slot), At E ad h g s H locs → lv_has ls 8 [(0, .ref (ad 126)), (1, .int v1), (2, .int v2), (3, .int v3), (4, .int v4), (5, .int v5), (6, .int v6), (7, .int v7)] → qX6_rests_60 h k51 n v1 v2 v3 v4 v5 v6 v7 = some r → W p l e (RM 3 70) s m args below meth c H locs 0 0 (QI E ad h g r below args s) (F0 m 60 ls []) := by
  intro n
  induction n with
  | zero =>
    intro v1 v2 v3 v4 v5 v6 v7 H locs ls w hl hf
    cases hf
  | succ n ih =>
    intro v1 v2 v3 v4 v5 v6 v7 H locs ls w hl hf
    rw [qX6_rests_60] at hf
    refine lv_iload C.1 C.2.1 dX6_rests_60 (lv_at hl 7 rfl) ?_
    refine lv_iconst (v := 1) C.1 C.2.1 dX6_rests_62 (by decide) ?_
    refine lv_icmp_gt (tgt := 123) C.1 C.2.1 dX6_rests_63 (by decide) (fun c32 => ?_) (fun c32 => ?_)
    · rw [if_pos c32] at hf
      refine lv_iinc (v := (v6 + 1)) (lv' := [(6, .int (v6 + 1)), (0, .ref (ad 126)), (1, .int v1), (2, .int v2), (3, .int v3), (4, .int v4), (5, .int v5), (7, .int v7)]) C.1 C.2.1 dX6_rests_123 hl (k := 6) rfl (congrArg (fun z => v6 + z) (by decide)) (by decide) rfl (fun ls hl => ?_)
      refine lv_goto (tgt := 51) C.1 C.2.1 dX6_rests_126 (by decide) ?_
      exact hk51 _ _ _ _ _ _ _ _ _ w (lv_sub hl [1, 2, 3, 4, 5, 6, 0] rfl) hf
    · rw [if_neg c32] at hf
      refine lv_aload_n C.1 C.2.1 dX6_rests_66 rfl (lv_at hl 0 rfl) ?_
      refine lv_iload_n C.1 C.2.1 dX6_rests_67 rfl (lv_at hl 1 rfl) ?_
      refine lv_iload C.1 C.2.1 dX6_rests_68 (lv_at hl 6 rfl) ?_
      refine lv_iload_n C.1 C.2.1 dX6_rests_70 rfl (lv_at hl 2 rfl) ?_
      refine lv_iload C.1 C.2.1 dX6_rests_71 (lv_at hl 7 rfl) ?_
      obtain ⟨r34, eq33, hf⟩ := bi1_e hf
      refine x_cVi (As := [.int v1, .int v6, .int v2, .int v7]) (rest := []) C X w (c_X6_staysWith hI eq33) mw_X6_staysWith ml_X6_242 rcv_r18 rfl hl.1 rfl (Nat.le_of_ble_eq_true rfl) ⟨⟨Nat.le_of_ble_eq_true rfl, Nat.le_of_ble_eq_true rfl⟩, Nat.le_of_ble_eq_true rfl, Nat.le_of_ble_eq_true rfl⟩ dX6_rests_73 (fun H locs w => ?_)
      refine lv_if_eq (tgt := 117) C.1 C.2.1 dX6_rests_76 (by decide) (fun c35 => ?_) (fun c35 => ?_)
      · rw [if_pos c35] at hf
        exact w_X6_rests_117 C hr hlk X hI ih hk51 _ _ _ _ _ _ _ _ _ _ w (lv_sub hl [0, 1, 2, 3, 4, 5, 6, 7] rfl) hf
      · rw [if_neg c35] at hf
        refine lv_aload_n C.1 C.2.1 dX6_rests_79 rfl (lv_at hl 0 rfl) ?_
        refine lv_iload_n C.1 C.2.1 dX6_rests_80 rfl (lv_at hl 2 rfl) ?_
        refine lv_iload C.1 C.2.1 dX6_rests_81 (lv_at hl 7 rfl) ?_
        refine lv_iload_n C.1 C.2.1 dX6_rests_83 rfl (lv_at hl 1 rfl) ?_
        refine lv_iload C.1 C.2.1 dX6_rests_84 (lv_at hl 6 rfl) ?_
        obtain ⟨r37, eq36, hf⟩ := bi1_e hf
        refine x_cVi (As := [.int v2, .int v7, .int v1, .int v6]) (rest := []) C X w (c_X6_staysWith hI eq36) mw_X6_staysWith ml_X6_242 rcv_r18 rfl hl.1 rfl (Nat.le_of_ble_eq_true rfl) ⟨⟨Nat.le_of_ble_eq_true rfl, Nat.le_of_ble_eq_true rfl⟩, Nat.le_of_ble_eq_true rfl, Nat.le_of_ble_eq_true rfl⟩ dX6_rests_86 (fun H locs w => ?_)
        refine lv_if_eq (tgt := 117) C.1 C.2.1 dX6_rests_89 (by decide) (fun c38 => ?_) (fun c38 => ?_)
        · rw [if_pos c38] at hf
          exact w_X6_rests_117 C hr hlk X hI ih hk51 _ _ _ _ _ _ _ _ _ _ w (lv_sub hl [0, 1, 2, 3, 4, 5, 6, 7] rfl) hf
        · rw [if_neg c38] at hf
          refine lv_iinc (v := (v4 + 1)) (lv' := [(4, .int (v4 + 1)), (0, .ref (ad 126)), (1, .int v1), (2, .int v2), (3, .int v3), (5, .int v5), (6, .int v6), (7, .int v7)]) C.1 C.2.1 dX6_rests_92 hl (k := 4) rfl (congrArg (fun z => v4 + z) (by decide)) (by decide) rfl (fun ls hl => ?_)
          refine lv_iload C.1 C.2.1 dX6_rests_95 (lv_at hl 5 rfl) ?_
          refine lv_bipush (v := -9) C.1 C.2.1 dX6_rests_97 (by decide) ?_
          refine lv_icmp_ne (tgt := 113) C.1 C.2.1 dX6_rests_99 (by decide) (fun c39 => ?_) (fun c39 => ?_)
          · rw [if_neg c39] at hf
            refine lv_iload C.1 C.2.1 dX6_rests_113 (lv_at hl 5 rfl) ?_
            exact w_X6_rests_115 C hr hlk X hI ih hk51 _ _ _ _ _ _ _ _ _ _ w (lv_sub hl [1, 2, 3, 4, 0, 6, 7] rfl) hf
          · rw [if_pos c39] at hf
            refine lv_bipush (v := 10) C.1 C.2.1 dX6_rests_102 (by decide) ?_
            refine lv_iload C.1 C.2.1 dX6_rests_104 (lv_at hl 6 rfl) ?_
            refine lv_imul C.1 C.2.1 dX6_rests_106 ?_
            refine lv_iload C.1 C.2.1 dX6_rests_107 (lv_at hl 7 rfl) ?_
            refine lv_iadd C.1 C.2.1 dX6_rests_109 ?_
            refine lv_goto (tgt := 115) C.1 C.2.1 dX6_rests_110 (by decide) ?_
            exact w_X6_rests_115 C hr hlk X hI ih hk51 _ _ _ _ _ _ _ _ _ _ w (lv_sub hl [1, 2, 3, 4, 0, 6, 7] rfl) hf
def qX6_rests_51 (h : Hp) : Nat → Int32 → Int32 → Int32 → Int32 → Int32 → Int32 → Option (Int32)
  | 0, _, _, _, _, _, _ => none
  | n + 1, v1, v2, v3, v4, v5, v6 =>
    (if (1 : Int32) < v6 then (if v3 = 0 then (some v4)
    else (some v5))
    else (qX6_rests_60 h (qX6_rests_51 h n) 600 v1 v2 v3 v4 v5 v6 (0 : Int32)))
set_option maxHeartbeats 4000000 in
set_option maxRecDepth 100000 in
theorem w_X6_rests_51 {p : Program} {l : Launch} {e : Env} {s : State} {m : MethodId} {args : Array Value} {below : List Frame} {meth : Method} {c : Code} {E : Ev} {ad : Nat → Nat} {g : Gp} {h : Hp} {r : Int32} (C : CallFix p m c cX6_rests 8 s args lwA RX6) (hr : meth.sig.returnType = (some .int)) (hlk : meth.locks = false) (X : Sx E ad s) (hI : Inj ad)  : ∀ (n : Nat), ∀ (v1 : Int32) (v2 : Int32) (v3 : Int32) (v4 : Int32) (v5 : Int32) (v6 : Int32) (H : Heap) (locs : List Loc) (ls : Array Slot), At E ad h g s H locs → lv_has ls 8 [(0, .ref (ad 126)), (1, .int v1), (2, .int v2), (3, .int v3), (4, .int v4), (5, .int v5), (6, .int v6)] → qX6_rests_51 h n v1 v2 v3 v4 v5 v6 = some r → W p l e (RM 3 70) s m args below meth c H locs 0 0 (QI E ad h g r below args s) (F0 m 51 ls []) := by
  intro n
  induction n with
  | zero =>
    intro v1 v2 v3 v4 v5 v6 H locs ls w hl hf
    cases hf
  | succ n ih =>
    intro v1 v2 v3 v4 v5 v6 H locs ls w hl hf
    rw [qX6_rests_51] at hf
    refine lv_iload C.1 C.2.1 dX6_rests_51 (lv_at hl 6 rfl) ?_
    refine lv_iconst (v := 1) C.1 C.2.1 dX6_rests_53 (by decide) ?_
    refine lv_icmp_gt (tgt := 129) C.1 C.2.1 dX6_rests_54 (by decide) (fun c30 => ?_) (fun c30 => ?_)
    · rw [if_pos c30] at hf
      refine lv_iload_n C.1 C.2.1 dX6_rests_129 rfl (lv_at hl 3 rfl) ?_
      refine lv_if_ne (tgt := 138) C.1 C.2.1 dX6_rests_130 (by decide) (fun c31 => ?_) (fun c31 => ?_)
      · rw [if_neg c31] at hf
        refine lv_iload C.1 C.2.1 dX6_rests_138 (lv_at hl 5 rfl) ?_
        cases hf
        exact x_iret C hr hlk w dX6_rests_140
      · rw [if_pos c31] at hf
        refine lv_iload C.1 C.2.1 dX6_rests_133 (lv_at hl 4 rfl) ?_
        refine lv_goto (tgt := 140) C.1 C.2.1 dX6_rests_135 (by decide) ?_
        cases hf
        exact x_iret C hr hlk w dX6_rests_140
    · rw [if_neg c30] at hf
      refine lv_iconst (v := 0) C.1 C.2.1 dX6_rests_57 (by decide) ?_
      refine lv_istore (lv' := [(7, .int (0 : Int32)), (0, .ref (ad 126)), (1, .int v1), (2, .int v2), (3, .int v3), (4, .int v4), (5, .int v5), (6, .int v6)]) C.1 C.2.1 dX6_rests_58 hl (by decide) rfl (fun ls hl => ?_)
      exact w_X6_rests_60 C hr hlk X hI ih 600 _ _ _ _ _ _ _ _ _ _ w (lv_sub hl [1, 2, 3, 4, 5, 6, 7, 0] rfl) hf
def qX6_rests (h : Hp) (x1 : Int32) (x2 : Int32) (x3 : Int32) : Option (Int32) :=
(bi1 (qX2_isThere (h 0) x1) (fun r22 =>
(if r22 = 0 then (some (-1 : Int32))
else (bi1 (qX2_isThere (h 0) x2) (fun r25 =>
(if r25 = 0 then (some (-1 : Int32))
else (if x1 = x2 then (some (-2 : Int32))
else (if x3 < 0 then (some (-2 : Int32))
else (if x3 ≤ (1 : Int32) then (qX6_rests_51 h 600 x1 x2 x3 (0 : Int32) (-9 : Int32) (0 : Int32))
else (some (-2 : Int32)))))))))))
set_option maxHeartbeats 4000000 in
set_option maxRecDepth 100000 in
theorem c_X6_rests {l : Launch} {E : Ev} {ad : Nat → Nat} {g : Gp} {h : Hp} {x1 : Int32} {x2 : Int32} {x3 : Int32} {r : Int32} (hI : Inj ad) (hf : qX6_rests h x1 x2 x3 = some r) : CtI l yX6_rests cX6_rests 8 (some .int) 3 70 E ad g g [.ref (ad 126), .int x1, .int x2, .int x3] h h r := by
  refine x_begin (by decide) (Nat.le_of_ble_eq_true rfl) ?_
  intro p e s m below meth c ls C hr hlk X w hl
  replace hl : lv_has ls 8 [(0, .ref (ad 126)), (1, .int x1), (2, .int x2), (3, .int x3)] := hl
  replace C : CallFix p m c cX6_rests 8 s ([.ref (ad 126), .int x1, .int x2, .int x3] : List Value).toArray lwA RX6 := C
  unfold qX6_rests at hf
  refine lv_aload_n C.1 C.2.1 dX6_rests_0 rfl (lv_at hl 0 rfl) ?_
  refine gf_X6_28 C X w rfl dX6_rests_1 ?_
  refine lv_iload_n C.1 C.2.1 dX6_rests_4 rfl (lv_at hl 1 rfl) ?_
  obtain ⟨r22, eq21, hf⟩ := bi1_e hf
  refine x_cViN (As := [.int x1]) (rest := []) C X (at_su 0 w) (c_X2_isThere hI (by decide) eq21) mw_X2_isThere ml_X6_117 (rcv_P (b := 0) (su_same _ _ _) (by decide)) rfl hl.1 rfl (Nat.le_of_ble_eq_true rfl) ⟨⟨Nat.le_of_ble_eq_true rfl, Nat.le_of_ble_eq_true rfl⟩, Nat.le_of_ble_eq_true rfl, Nat.le_of_ble_eq_true rfl⟩ dX6_rests_5 (fun H locs w => ?_)
  replace w := at_us w
  refine lv_if_eq (tgt := 22) C.1 C.2.1 dX6_rests_8 (by decide) (fun c23 => ?_) (fun c23 => ?_)
  · rw [if_pos c23] at hf
    refine lv_iconst (v := -1) C.1 C.2.1 dX6_rests_22 (by decide) ?_
    cases hf
    exact x_iret C hr hlk w dX6_rests_23
  · rw [if_neg c23] at hf
    refine lv_aload_n C.1 C.2.1 dX6_rests_11 rfl (lv_at hl 0 rfl) ?_
    refine gf_X6_28 C X w rfl dX6_rests_12 ?_
    refine lv_iload_n C.1 C.2.1 dX6_rests_15 rfl (lv_at hl 2 rfl) ?_
    obtain ⟨r25, eq24, hf⟩ := bi1_e hf
    refine x_cViN (As := [.int x2]) (rest := []) C X (at_su 0 w) (c_X2_isThere hI (by decide) eq24) mw_X2_isThere ml_X6_117 (rcv_P (b := 0) (su_same _ _ _) (by decide)) rfl hl.1 rfl (Nat.le_of_ble_eq_true rfl) ⟨⟨Nat.le_of_ble_eq_true rfl, Nat.le_of_ble_eq_true rfl⟩, Nat.le_of_ble_eq_true rfl, Nat.le_of_ble_eq_true rfl⟩ dX6_rests_16 (fun H locs w => ?_)
    replace w := at_us w
    refine lv_if_ne (tgt := 24) C.1 C.2.1 dX6_rests_19 (by decide) (fun c26 => ?_) (fun c26 => ?_)
    · rw [if_neg c26] at hf
      refine lv_iload_n C.1 C.2.1 dX6_rests_24 rfl (lv_at hl 1 rfl) ?_
      refine lv_iload_n C.1 C.2.1 dX6_rests_25 rfl (lv_at hl 2 rfl) ?_
      refine lv_icmp_eq (tgt := 38) C.1 C.2.1 dX6_rests_26 (by decide) (fun c27 => ?_) (fun c27 => ?_)
      · rw [if_pos c27] at hf
        refine lv_bipush (v := -2) C.1 C.2.1 dX6_rests_38 (by decide) ?_
        cases hf
        exact x_iret C hr hlk w dX6_rests_40
      · rw [if_neg c27] at hf
        refine lv_iload_n C.1 C.2.1 dX6_rests_29 rfl (lv_at hl 3 rfl) ?_
        refine lv_if_lt (tgt := 38) C.1 C.2.1 dX6_rests_30 (by decide) (fun c28 => ?_) (fun c28 => ?_)
        · rw [if_pos c28] at hf
          refine lv_bipush (v := -2) C.1 C.2.1 dX6_rests_38 (by decide) ?_
          cases hf
          exact x_iret C hr hlk w dX6_rests_40
        · rw [if_neg c28] at hf
          refine lv_iload_n C.1 C.2.1 dX6_rests_33 rfl (lv_at hl 3 rfl) ?_
          refine lv_iconst (v := 1) C.1 C.2.1 dX6_rests_34 (by decide) ?_
          refine lv_icmp_le (tgt := 41) C.1 C.2.1 dX6_rests_35 (by decide) (fun c29 => ?_) (fun c29 => ?_)
          · rw [if_pos c29] at hf
            refine lv_iconst (v := 0) C.1 C.2.1 dX6_rests_41 (by decide) ?_
            refine lv_istore (lv' := [(4, .int (0 : Int32)), (0, .ref (ad 126)), (1, .int x1), (2, .int x2), (3, .int x3)]) C.1 C.2.1 dX6_rests_42 hl (by decide) rfl (fun ls hl => ?_)
            refine lv_bipush (v := -9) C.1 C.2.1 dX6_rests_44 (by decide) ?_
            refine lv_istore (lv' := [(5, .int (-9 : Int32)), (4, .int (0 : Int32)), (0, .ref (ad 126)), (1, .int x1), (2, .int x2), (3, .int x3)]) C.1 C.2.1 dX6_rests_46 hl (by decide) rfl (fun ls hl => ?_)
            refine lv_iconst (v := 0) C.1 C.2.1 dX6_rests_48 (by decide) ?_
            refine lv_istore (lv' := [(6, .int (0 : Int32)), (5, .int (-9 : Int32)), (4, .int (0 : Int32)), (0, .ref (ad 126)), (1, .int x1), (2, .int x2), (3, .int x3)]) C.1 C.2.1 dX6_rests_49 hl (by decide) rfl (fun ls hl => ?_)
            exact w_X6_rests_51 C hr hlk X hI 600 _ _ _ _ _ _ _ _ _ w (lv_sub hl [3, 4, 5, 6, 2, 1, 0] rfl) hf
          · rw [if_neg c29] at hf
            refine lv_bipush (v := -2) C.1 C.2.1 dX6_rests_38 (by decide) ?_
            cases hf
            exact x_iret C hr hlk w dX6_rests_40
    · rw [if_pos c26] at hf
      refine lv_iconst (v := -1) C.1 C.2.1 dX6_rests_22 (by decide) ?_
      cases hf
      exact x_iret C hr hlk w dX6_rests_23

def qX6_ridesAfterWorms_37 (k14 : Hp → Int32 → Int32 → Int32 → Int32 → Option (Int32 × Hp)) (h : Hp) (v1 : Int32) (v2 : Int32) (v3 : Int32) (v4 : Int32) : Option (Int32 × Hp) :=
(bi1 (qX2_passMinute (h 22) (h 23) (h 1)) (fun P38 =>
(bd (su h 1 P38) (fun h39 =>
(k14 h39 v1 v2 v3 (v4 + 1))))))
set_option maxHeartbeats 4000000 in
set_option maxRecDepth 100000 in
theorem w_X6_ridesAfterWorms_37 {p : Program} {l : Launch} {e : Env} {s : State} {m : MethodId} {args : Array Value} {below : List Frame} {meth : Method} {c : Code} {E : Ev} {ad : Nat → Nat} {g : Gp} {r : Int32} {h9 : Hp} {k14 : Hp → Int32 → Int32 → Int32 → Int32 → Option (Int32 × Hp)} (C : CallFix p m c cX6_ridesAfterWorms 5 s args lwA RX6) (hr : meth.sig.returnType = (some .boolean)) (hlk : meth.locks = false) (X : Sx E ad s) (hI : Inj ad) (hk14 : ∀ (h : Hp) (v1 : Int32) (v2 : Int32) (v3 : Int32) (v4 : Int32) (H : Heap) (locs : List Loc) (ls : Array Slot), At E ad h g s H locs → lv_has ls 5 [(0, .ref (ad 126)), (1, .int v1), (2, .int v2), (3, .int v3), (4, .int v4)] → k14 h v1 v2 v3 v4 = some (r, h9) → W p l e (RM 5 113) s m args below meth c H locs 0 0 (QI E ad h9 g r below args s) (F0 m 14 ls [])) : ∀ (h : Hp) (v1 : Int32) (v2 : Int32) (v3 : Int32) (v4 : Int32) (H : Heap) (locs : List Loc) (ls : Array Slot), At E ad h g s H locs → lv_has ls 5 [(0, .ref (ad 126)), (1, .int v1), (2, .int v2), (3, .int v3), (4, .int v4)] → qX6_ridesAfterWorms_37 k14 h v1 v2 v3 v4 = some (r, h9) → W p l e (RM 5 113) s m args below meth c H locs 0 0 (QI E ad h9 g r below args s) (F0 m 37 ls []) := by
  intro h v1 v2 v3 v4 H locs ls w hl hf
  unfold qX6_ridesAfterWorms_37 at hf
  refine lv_aload_n C.1 C.2.1 dX6_ridesAfterWorms_37 rfl (lv_at hl 0 rfl) ?_
  refine gf_X6_32 C X w rfl dX6_ridesAfterWorms_38 ?_
  obtain ⟨P38, eq36, hf⟩ := bi1_e hf
  obtain ⟨h39, eh39, hf⟩ := bd_e hf
  refine x_cVvN (As := []) (rest := []) C X (at_su 1 w) (c_X2_passMinute hI (by decide) eq36) mw_X2_passMinute ml_X6_153 (rcv_P (b := 1) (su_same _ _ _) (by decide)) rfl hl.1 rfl (Nat.le_of_ble_eq_true rfl) ⟨⟨Nat.le_of_ble_eq_true rfl, Nat.le_of_ble_eq_true rfl⟩, Nat.le_of_ble_eq_true rfl, Nat.le_of_ble_eq_true rfl⟩ dX6_ridesAfterWorms_41 (fun H locs w => ?_)
  replace w := at_eq eh39 w
  refine lv_iinc (v := (v4 + 1)) (lv' := [(4, .int (v4 + 1)), (0, .ref (ad 126)), (1, .int v1), (2, .int v2), (3, .int v3)]) C.1 C.2.1 dX6_ridesAfterWorms_44 hl (k := 4) rfl (congrArg (fun z => v4 + z) (by decide)) (by decide) rfl (fun ls hl => ?_)
  refine lv_goto (tgt := 14) C.1 C.2.1 dX6_ridesAfterWorms_47 (by decide) ?_
  exact hk14 _ _ _ _ _ _ _ _ w (lv_sub hl [1, 2, 3, 4, 0] rfl) hf
def qX6_ridesAfterWorms_14 : Nat → Hp → Int32 → Int32 → Int32 → Int32 → Option (Int32 × Hp)
  | 0, _, _, _, _, _ => none
  | n + 1, h, v1, v2, v3, v4 =>
    (if v3 ≤ v4 then (bi1 (qX2_rides (h 1) v1) (fun r27 =>
    (ck (bz r27) (some (r27, h)))))
    else (bi1 (qX6_has v2 v4) (fun r30 =>
    (if r30 = 0 then (qX6_ridesAfterWorms_37 (qX6_ridesAfterWorms_14 n) h v1 v2 v3 v4)
    else (bi1 (qX2_leaveRiding (h 1) (0 : Int32)) (fun P34 =>
    (bd (su h 1 P34) (fun h35 =>
    (qX6_ridesAfterWorms_37 (qX6_ridesAfterWorms_14 n) h35 v1 v2 v3 v4)))))))))
set_option maxHeartbeats 4000000 in
set_option maxRecDepth 100000 in
theorem w_X6_ridesAfterWorms_14 {p : Program} {l : Launch} {e : Env} {s : State} {m : MethodId} {args : Array Value} {below : List Frame} {meth : Method} {c : Code} {E : Ev} {ad : Nat → Nat} {g : Gp} {r : Int32} {h9 : Hp} (C : CallFix p m c cX6_ridesAfterWorms 5 s args lwA RX6) (hr : meth.sig.returnType = (some .boolean)) (hlk : meth.locks = false) (X : Sx E ad s) (hI : Inj ad)  : ∀ (n : Nat), ∀ (h : Hp) (v1 : Int32) (v2 : Int32) (v3 : Int32) (v4 : Int32) (H : Heap) (locs : List Loc) (ls : Array Slot), At E ad h g s H locs → lv_has ls 5 [(0, .ref (ad 126)), (1, .int v1), (2, .int v2), (3, .int v3), (4, .int v4)] → qX6_ridesAfterWorms_14 n h v1 v2 v3 v4 = some (r, h9) → W p l e (RM 5 113) s m args below meth c H locs 0 0 (QI E ad h9 g r below args s) (F0 m 14 ls []) := by
  intro n
  induction n with
  | zero =>
    intro h v1 v2 v3 v4 H locs ls w hl hf
    cases hf
  | succ n ih =>
    intro h v1 v2 v3 v4 H locs ls w hl hf
    rw [qX6_ridesAfterWorms_14] at hf
    refine lv_iload C.1 C.2.1 dX6_ridesAfterWorms_14 (lv_at hl 4 rfl) ?_
    refine lv_iload_n C.1 C.2.1 dX6_ridesAfterWorms_16 rfl (lv_at hl 3 rfl) ?_
    refine lv_icmp_ge (tgt := 50) C.1 C.2.1 dX6_ridesAfterWorms_17 (by decide) (fun c25 => ?_) (fun c25 => ?_)
    · rw [if_pos c25] at hf
      refine lv_aload_n C.1 C.2.1 dX6_ridesAfterWorms_50 rfl (lv_at hl 0 rfl) ?_
      refine gf_X6_32 C X w rfl dX6_ridesAfterWorms_51 ?_
      refine lv_iload_n C.1 C.2.1 dX6_ridesAfterWorms_54 rfl (lv_at hl 1 rfl) ?_
      obtain ⟨r27, eq26, hf⟩ := bi1_e hf
      refine x_cViN (As := [.int v1]) (rest := []) C X (at_su 1 w) (c_X2_rides hI (by decide) eq26) mw_X2_rides ml_X6_156 (rcv_P (b := 1) (su_same _ _ _) (by decide)) rfl hl.1 rfl (Nat.le_of_ble_eq_true rfl) ⟨⟨Nat.le_of_ble_eq_true rfl, Nat.le_of_ble_eq_true rfl⟩, Nat.le_of_ble_eq_true rfl, Nat.le_of_ble_eq_true rfl⟩ dX6_ridesAfterWorms_55 (fun H locs w => ?_)
      replace w := at_us w
      obtain ⟨z28, hf⟩ := ck_e hf
      cases hf
      exact x_zret C hr hlk w (bz_e z28) dX6_ridesAfterWorms_58
    · rw [if_neg c25] at hf
      refine lv_iload_n C.1 C.2.1 dX6_ridesAfterWorms_20 rfl (lv_at hl 2 rfl) ?_
      refine lv_iload C.1 C.2.1 dX6_ridesAfterWorms_21 (lv_at hl 4 rfl) ?_
      obtain ⟨r30, eq29, hf⟩ := bi1_e hf
      refine x_cSi (As := [.int v2, .int v4]) (rest := []) C X w (c_X6_has hI  eq29) mw_X6_has ml_X6_222 rfl hl.1 rfl (Nat.le_of_ble_eq_true rfl) ⟨⟨Nat.le_of_ble_eq_true rfl, Nat.le_of_ble_eq_true rfl⟩, Nat.le_of_ble_eq_true rfl, Nat.le_of_ble_eq_true rfl⟩ dX6_ridesAfterWorms_23 (fun H locs w => ?_)
      refine lv_if_eq (tgt := 37) C.1 C.2.1 dX6_ridesAfterWorms_26 (by decide) (fun c31 => ?_) (fun c31 => ?_)
      · rw [if_pos c31] at hf
        exact w_X6_ridesAfterWorms_37 C hr hlk X hI ih _ _ _ _ _ _ _ _ w (lv_sub hl [0, 1, 2, 3, 4] rfl) hf
      · rw [if_neg c31] at hf
        refine lv_aload_n C.1 C.2.1 dX6_ridesAfterWorms_29 rfl (lv_at hl 0 rfl) ?_
        refine gf_X6_32 C X w rfl dX6_ridesAfterWorms_30 ?_
        refine lv_iconst (v := 0) C.1 C.2.1 dX6_ridesAfterWorms_33 (by decide) ?_
        obtain ⟨P34, eq32, hf⟩ := bi1_e hf
        obtain ⟨h35, eh35, hf⟩ := bd_e hf
        refine x_cVvN (As := [.int (0 : Int32)]) (rest := []) C X (at_su 1 w) (c_X2_leaveRiding hI (by decide) eq32) mw_X2_leaveRiding ml_X6_287 (rcv_P (b := 1) (su_same _ _ _) (by decide)) rfl hl.1 rfl (Nat.le_of_ble_eq_true rfl) ⟨⟨Nat.le_of_ble_eq_true rfl, Nat.le_of_ble_eq_true rfl⟩, Nat.le_of_ble_eq_true rfl, Nat.le_of_ble_eq_true rfl⟩ dX6_ridesAfterWorms_34 (fun H locs w => ?_)
        replace w := at_eq eh35 w
        exact w_X6_ridesAfterWorms_37 C hr hlk X hI ih _ _ _ _ _ _ _ _ w (lv_sub hl [0, 1, 2, 3, 4] rfl) hf
def qX6_ridesAfterWorms (h : Hp) (x1 : Int32) (x2 : Int32) (x3 : Int32) : Option (Int32 × Hp) :=
(bi1 (qX2_copyFrom (h 0) (h 1)) (fun P23 =>
(bd (su h 1 P23) (fun h24 =>
(qX6_ridesAfterWorms_14 600 h24 x1 x2 x3 (0 : Int32))))))
set_option maxHeartbeats 4000000 in
set_option maxRecDepth 100000 in
theorem c_X6_ridesAfterWorms {l : Launch} {E : Ev} {ad : Nat → Nat} {g : Gp} {h : Hp} {x1 : Int32} {x2 : Int32} {x3 : Int32} {r : Int32} {h9 : Hp} (hI : Inj ad) (hf : qX6_ridesAfterWorms h x1 x2 x3 = some (r, h9)) : CtI l yX6_ridesAfterWorms cX6_ridesAfterWorms 5 (some .boolean) 5 113 E ad g g [.ref (ad 126), .int x1, .int x2, .int x3] h h9 r := by
  refine x_begin (by decide) (Nat.le_of_ble_eq_true rfl) ?_
  intro p e s m below meth c ls C hr hlk X w hl
  replace hl : lv_has ls 5 [(0, .ref (ad 126)), (1, .int x1), (2, .int x2), (3, .int x3)] := hl
  replace C : CallFix p m c cX6_ridesAfterWorms 5 s ([.ref (ad 126), .int x1, .int x2, .int x3] : List Value).toArray lwA RX6 := C
  unfold qX6_ridesAfterWorms at hf
  refine lv_aload_n C.1 C.2.1 dX6_ridesAfterWorms_0 rfl (lv_at hl 0 rfl) ?_
  refine gf_X6_32 C X w rfl dX6_ridesAfterWorms_1 ?_
  refine lv_aload_n C.1 C.2.1 dX6_ridesAfterWorms_4 rfl (lv_at hl 0 rfl) ?_
  refine gf_X6_28 C X w rfl dX6_ridesAfterWorms_5 ?_
  obtain ⟨P23, eq21, hf⟩ := bi1_e hf
  obtain ⟨h24, eh24, hf⟩ := bd_e hf
  refine x_cVvN (As := [.ref (ad (7 * 0))]) (rest := []) C X (at_su 1 w) (c_X2_copyFrom hI (by decide) (by decide) (by first | decide | omega) eq21) mw_X2_copyFrom ml_X6_209 (rcv_P (b := 1) (su_same _ _ _) (by decide)) rfl hl.1 rfl (Nat.le_of_ble_eq_true rfl) ⟨⟨Nat.le_of_ble_eq_true rfl, Nat.le_of_ble_eq_true rfl⟩, Nat.le_of_ble_eq_true rfl, Nat.le_of_ble_eq_true rfl⟩ dX6_ridesAfterWorms_8 (fun H locs w => ?_)
  replace w := at_eq eh24 w
  refine lv_iconst (v := 0) C.1 C.2.1 dX6_ridesAfterWorms_11 (by decide) ?_
  refine lv_istore (lv' := [(4, .int (0 : Int32)), (0, .ref (ad 126)), (1, .int x1), (2, .int x2), (3, .int x3)]) C.1 C.2.1 dX6_ridesAfterWorms_12 hl (by decide) rfl (fun ls hl => ?_)
  exact w_X6_ridesAfterWorms_14 C hr hlk X hI 600 _ _ _ _ _ _ _ _ w (lv_sub hl [1, 2, 3, 4, 0] rfl) hf

def qX6_chance_108 (k68 : Hp → Int32 → Int32 → Int32 → Int32 → Int32 → Int32 → Int32 → Option (Int32 × Hp)) (h : Hp) (v1 : Int32) (v2 : Int32) (v3 : Int32) (v4 : Int32) (v5 : Int32) (v6 : Int32) (v7 : Int32) : Option (Int32 × Hp) :=
(k68 h v1 v2 v3 v4 v5 v6 (v7 + 1))
set_option maxHeartbeats 4000000 in
set_option maxRecDepth 100000 in
theorem w_X6_chance_108 {p : Program} {l : Launch} {e : Env} {s : State} {m : MethodId} {args : Array Value} {below : List Frame} {meth : Method} {c : Code} {E : Ev} {ad : Nat → Nat} {g : Gp} {r : Int32} {h9 : Hp} {k68 : Hp → Int32 → Int32 → Int32 → Int32 → Int32 → Int32 → Int32 → Option (Int32 × Hp)} (C : CallFix p m c cX6_chance 9 s args lwA RX6) (hr : meth.sig.returnType = (some .int)) (hlk : meth.locks = false) (X : Sx E ad s) (hI : Inj ad) (hk68 : ∀ (h : Hp) (v1 : Int32) (v2 : Int32) (v3 : Int32) (v4 : Int32) (v5 : Int32) (v6 : Int32) (v7 : Int32) (H : Heap) (locs : List Loc) (ls : Array Slot), At E ad h g s H locs → lv_has ls 9 [(0, .ref (ad 126)), (1, .int v1), (2, .int v2), (3, .int v3), (4, .int v4), (5, .int v5), (6, .int v6), (7, .int v7)] → k68 h v1 v2 v3 v4 v5 v6 v7 = some (r, h9) → W p l e (RM 6 137) s m args below meth c H locs 0 0 (QI E ad h9 g r below args s) (F0 m 68 ls [])) : ∀ (h : Hp) (v1 : Int32) (v2 : Int32) (v3 : Int32) (v4 : Int32) (v5 : Int32) (v6 : Int32) (v7 : Int32) (H : Heap) (locs : List Loc) (ls : Array Slot), At E ad h g s H locs → lv_has ls 9 [(0, .ref (ad 126)), (1, .int v1), (2, .int v2), (3, .int v3), (4, .int v4), (5, .int v5), (6, .int v6), (7, .int v7)] → qX6_chance_108 k68 h v1 v2 v3 v4 v5 v6 v7 = some (r, h9) → W p l e (RM 6 137) s m args below meth c H locs 0 0 (QI E ad h9 g r below args s) (F0 m 108 ls []) := by
  intro h v1 v2 v3 v4 v5 v6 v7 H locs ls w hl hf
  unfold qX6_chance_108 at hf
  refine lv_iinc (v := (v7 + 1)) (lv' := [(7, .int (v7 + 1)), (0, .ref (ad 126)), (1, .int v1), (2, .int v2), (3, .int v3), (4, .int v4), (5, .int v5), (6, .int v6)]) C.1 C.2.1 dX6_chance_108 hl (k := 7) rfl (congrArg (fun z => v7 + z) (by decide)) (by decide) rfl (fun ls hl => ?_)
  refine lv_goto (tgt := 68) C.1 C.2.1 dX6_chance_111 (by decide) ?_
  exact hk68 _ _ _ _ _ _ _ _ _ _ _ w (lv_sub hl [1, 2, 3, 4, 5, 6, 7, 0] rfl) hf
def qX6_chance_68 : Nat → Hp → Int32 → Int32 → Int32 → Int32 → Int32 → Int32 → Int32 → Option (Int32 × Hp)
  | 0, _, _, _, _, _, _, _, _ => none
  | n + 1, h, v1, v2, v3, v4, v5, v6, v7 =>
    (if ((1 : Int32) <<< (v2 &&& 31)) ≤ v7 then (bi1 (qX6_fraction v5 v6 v4) (fun r31 =>
    (some (r31, h))))
    else (bi1 (qX6_weightOfWorms v7 v2 v3) (fun r33 =>
    (if r33 ≤ 0 then (qX6_chance_108 (qX6_chance_68 n) h v1 v2 v3 v4 v5 v6 v7)
    else (bi2 (qX6_ridesAfterWorms h v1 v7 v2) (fun r36 h37 =>
    (if r36 = 0 then (qX6_chance_108 (qX6_chance_68 n) h37 v1 v2 v3 v4 v5 v6 v7)
    else (qX6_chance_108 (qX6_chance_68 n) h37 v1 v2 v3 v4 (v5 + r33) v6 v7))))))))
set_option maxHeartbeats 4000000 in
set_option maxRecDepth 100000 in
theorem w_X6_chance_68 {p : Program} {l : Launch} {e : Env} {s : State} {m : MethodId} {args : Array Value} {below : List Frame} {meth : Method} {c : Code} {E : Ev} {ad : Nat → Nat} {g : Gp} {r : Int32} {h9 : Hp} (C : CallFix p m c cX6_chance 9 s args lwA RX6) (hr : meth.sig.returnType = (some .int)) (hlk : meth.locks = false) (X : Sx E ad s) (hI : Inj ad)  : ∀ (n : Nat), ∀ (h : Hp) (v1 : Int32) (v2 : Int32) (v3 : Int32) (v4 : Int32) (v5 : Int32) (v6 : Int32) (v7 : Int32) (H : Heap) (locs : List Loc) (ls : Array Slot), At E ad h g s H locs → lv_has ls 9 [(0, .ref (ad 126)), (1, .int v1), (2, .int v2), (3, .int v3), (4, .int v4), (5, .int v5), (6, .int v6), (7, .int v7)] → qX6_chance_68 n h v1 v2 v3 v4 v5 v6 v7 = some (r, h9) → W p l e (RM 6 137) s m args below meth c H locs 0 0 (QI E ad h9 g r below args s) (F0 m 68 ls []) := by
  intro n
  induction n with
  | zero =>
    intro h v1 v2 v3 v4 v5 v6 v7 H locs ls w hl hf
    cases hf
  | succ n ih =>
    intro h v1 v2 v3 v4 v5 v6 v7 H locs ls w hl hf
    rw [qX6_chance_68] at hf
    refine lv_iload C.1 C.2.1 dX6_chance_68 (lv_at hl 7 rfl) ?_
    refine lv_iconst (v := 1) C.1 C.2.1 dX6_chance_70 (by decide) ?_
    refine lv_iload_n C.1 C.2.1 dX6_chance_71 rfl (lv_at hl 2 rfl) ?_
    refine lv_ishl C.1 C.2.1 dX6_chance_72 ?_
    refine lv_icmp_ge (tgt := 114) C.1 C.2.1 dX6_chance_73 (by decide) (fun c29 => ?_) (fun c29 => ?_)
    · rw [if_pos c29] at hf
      refine lv_iload C.1 C.2.1 dX6_chance_114 (lv_at hl 5 rfl) ?_
      refine lv_iload C.1 C.2.1 dX6_chance_116 (lv_at hl 6 rfl) ?_
      refine lv_iload C.1 C.2.1 dX6_chance_118 (lv_at hl 4 rfl) ?_
      obtain ⟨r31, eq30, hf⟩ := bi1_e hf
      refine x_cSi (As := [.int v5, .int v6, .int v4]) (rest := []) C X w (c_X6_fraction hI  eq30) mw_X6_fraction ml_X6_233 rfl hl.1 rfl (Nat.le_of_ble_eq_true rfl) ⟨⟨Nat.le_of_ble_eq_true rfl, Nat.le_of_ble_eq_true rfl⟩, Nat.le_of_ble_eq_true rfl, Nat.le_of_ble_eq_true rfl⟩ dX6_chance_120 (fun H locs w => ?_)
      cases hf
      exact x_iret C hr hlk w dX6_chance_123
    · rw [if_neg c29] at hf
      refine lv_iload C.1 C.2.1 dX6_chance_76 (lv_at hl 7 rfl) ?_
      refine lv_iload_n C.1 C.2.1 dX6_chance_78 rfl (lv_at hl 2 rfl) ?_
      refine lv_iload_n C.1 C.2.1 dX6_chance_79 rfl (lv_at hl 3 rfl) ?_
      obtain ⟨r33, eq32, hf⟩ := bi1_e hf
      refine x_cSi (As := [.int v7, .int v2, .int v3]) (rest := []) C X w (c_X6_weightOfWorms hI  eq32) mw_X6_weightOfWorms ml_X6_246 rfl hl.1 rfl (Nat.le_of_ble_eq_true rfl) ⟨⟨Nat.le_of_ble_eq_true rfl, Nat.le_of_ble_eq_true rfl⟩, Nat.le_of_ble_eq_true rfl, Nat.le_of_ble_eq_true rfl⟩ dX6_chance_80 (fun H locs w => ?_)
      refine lv_istore (lv' := [(8, .int r33), (0, .ref (ad 126)), (1, .int v1), (2, .int v2), (3, .int v3), (4, .int v4), (5, .int v5), (6, .int v6), (7, .int v7)]) C.1 C.2.1 dX6_chance_83 hl (by decide) rfl (fun ls hl => ?_)
      refine lv_iload C.1 C.2.1 dX6_chance_85 (lv_at hl 0 rfl) ?_
      refine lv_if_le (tgt := 108) C.1 C.2.1 dX6_chance_87 (by decide) (fun c34 => ?_) (fun c34 => ?_)
      · rw [if_pos c34] at hf
        exact w_X6_chance_108 C hr hlk X hI ih _ _ _ _ _ _ _ _ _ _ _ w (lv_sub hl [1, 2, 3, 4, 5, 6, 7, 8] rfl) hf
      · rw [if_neg c34] at hf
        refine lv_aload_n C.1 C.2.1 dX6_chance_90 rfl (lv_at hl 1 rfl) ?_
        refine lv_iload_n C.1 C.2.1 dX6_chance_91 rfl (lv_at hl 2 rfl) ?_
        refine lv_iload C.1 C.2.1 dX6_chance_92 (lv_at hl 8 rfl) ?_
        refine lv_iload_n C.1 C.2.1 dX6_chance_94 rfl (lv_at hl 3 rfl) ?_
        obtain ⟨r36, h37, eq35, hf⟩ := bi2_e hf
        refine x_cVi (As := [.int v1, .int v7, .int v2]) (rest := []) C X w (c_X6_ridesAfterWorms hI eq35) mw_X6_ridesAfterWorms ml_X6_250 rcv_r18 rfl hl.1 rfl (Nat.le_of_ble_eq_true rfl) ⟨⟨Nat.le_of_ble_eq_true rfl, Nat.le_of_ble_eq_true rfl⟩, Nat.le_of_ble_eq_true rfl, Nat.le_of_ble_eq_true rfl⟩ dX6_chance_95 (fun H locs w => ?_)
        refine lv_if_eq (tgt := 108) C.1 C.2.1 dX6_chance_98 (by decide) (fun c38 => ?_) (fun c38 => ?_)
        · rw [if_pos c38] at hf
          exact w_X6_chance_108 C hr hlk X hI ih _ _ _ _ _ _ _ _ _ _ _ w (lv_sub hl [1, 2, 3, 4, 5, 6, 7, 8] rfl) hf
        · rw [if_neg c38] at hf
          refine lv_iload C.1 C.2.1 dX6_chance_101 (lv_at hl 6 rfl) ?_
          refine lv_iload C.1 C.2.1 dX6_chance_103 (lv_at hl 0 rfl) ?_
          refine lv_iadd C.1 C.2.1 dX6_chance_105 ?_
          refine lv_istore (lv' := [(5, .int (v5 + r33)), (8, .int r33), (0, .ref (ad 126)), (1, .int v1), (2, .int v2), (3, .int v3), (4, .int v4), (6, .int v6), (7, .int v7)]) C.1 C.2.1 dX6_chance_106 hl (by decide) rfl (fun ls hl => ?_)
          exact w_X6_chance_108 C hr hlk X hI ih _ _ _ _ _ _ _ _ _ _ _ w (lv_sub hl [2, 3, 4, 5, 6, 0, 7, 8] rfl) hf
def qX6_chance_46 : Nat → Hp → Int32 → Int32 → Int32 → Int32 → Int32 → Int32 → Int32 → Option (Int32 × Hp)
  | 0, _, _, _, _, _, _, _, _ => none
  | n + 1, h, v1, v2, v3, v4, v5, v6, v7 =>
    (if v2 ≤ v7 then (qX6_chance_68 600 h v1 v2 v3 v4 v5 v6 (0 : Int32))
    else (qX6_chance_46 n h v1 v2 v3 v4 v5 (v6 * (10 : Int32)) (v7 + 1)))
set_option maxHeartbeats 4000000 in
set_option maxRecDepth 100000 in
theorem w_X6_chance_46 {p : Program} {l : Launch} {e : Env} {s : State} {m : MethodId} {args : Array Value} {below : List Frame} {meth : Method} {c : Code} {E : Ev} {ad : Nat → Nat} {g : Gp} {r : Int32} {h9 : Hp} (C : CallFix p m c cX6_chance 9 s args lwA RX6) (hr : meth.sig.returnType = (some .int)) (hlk : meth.locks = false) (X : Sx E ad s) (hI : Inj ad)  : ∀ (n : Nat), ∀ (h : Hp) (v1 : Int32) (v2 : Int32) (v3 : Int32) (v4 : Int32) (v5 : Int32) (v6 : Int32) (v7 : Int32) (H : Heap) (locs : List Loc) (ls : Array Slot), At E ad h g s H locs → lv_has ls 9 [(0, .ref (ad 126)), (1, .int v1), (2, .int v2), (3, .int v3), (4, .int v4), (5, .int v5), (6, .int v6), (7, .int v7)] → qX6_chance_46 n h v1 v2 v3 v4 v5 v6 v7 = some (r, h9) → W p l e (RM 6 137) s m args below meth c H locs 0 0 (QI E ad h9 g r below args s) (F0 m 46 ls []) := by
  intro n
  induction n with
  | zero =>
    intro h v1 v2 v3 v4 v5 v6 v7 H locs ls w hl hf
    cases hf
  | succ n ih =>
    intro h v1 v2 v3 v4 v5 v6 v7 H locs ls w hl hf
    rw [qX6_chance_46] at hf
    refine lv_iload C.1 C.2.1 dX6_chance_46 (lv_at hl 7 rfl) ?_
    refine lv_iload_n C.1 C.2.1 dX6_chance_48 rfl (lv_at hl 2 rfl) ?_
    refine lv_icmp_ge (tgt := 65) C.1 C.2.1 dX6_chance_49 (by decide) (fun c28 => ?_) (fun c28 => ?_)
    · rw [if_pos c28] at hf
      refine lv_iconst (v := 0) C.1 C.2.1 dX6_chance_65 (by decide) ?_
      refine lv_istore (lv' := [(7, .int (0 : Int32)), (0, .ref (ad 126)), (1, .int v1), (2, .int v2), (3, .int v3), (4, .int v4), (5, .int v5), (6, .int v6)]) C.1 C.2.1 dX6_chance_66 hl (by decide) rfl (fun ls hl => ?_)
      exact w_X6_chance_68 C hr hlk X hI 600 _ _ _ _ _ _ _ _ _ _ _ w (lv_sub hl [1, 2, 3, 4, 5, 6, 7, 0] rfl) hf
    · rw [if_neg c28] at hf
      refine lv_iload C.1 C.2.1 dX6_chance_52 (lv_at hl 6 rfl) ?_
      refine lv_bipush (v := 10) C.1 C.2.1 dX6_chance_54 (by decide) ?_
      refine lv_imul C.1 C.2.1 dX6_chance_56 ?_
      refine lv_istore (lv' := [(6, .int (v6 * (10 : Int32))), (0, .ref (ad 126)), (1, .int v1), (2, .int v2), (3, .int v3), (4, .int v4), (5, .int v5), (7, .int v7)]) C.1 C.2.1 dX6_chance_57 hl (by decide) rfl (fun ls hl => ?_)
      refine lv_iinc (v := (v7 + 1)) (lv' := [(7, .int (v7 + 1)), (6, .int (v6 * (10 : Int32))), (0, .ref (ad 126)), (1, .int v1), (2, .int v2), (3, .int v3), (4, .int v4), (5, .int v5)]) C.1 C.2.1 dX6_chance_59 hl (k := 7) rfl (congrArg (fun z => v7 + z) (by decide)) (by decide) rfl (fun ls hl => ?_)
      refine lv_goto (tgt := 46) C.1 C.2.1 dX6_chance_62 (by decide) ?_
      exact ih _ _ _ _ _ _ _ _ _ _ _ w (lv_sub hl [2, 3, 4, 5, 6, 7, 1, 0] rfl) hf
def qX6_chance (h : Hp) (x1 : Int32) (x2 : Int32) (x3 : Int32) (x4 : Int32) : Option (Int32 × Hp) :=
(bi1 (qX2_isThere (h 0) x1) (fun r22 =>
(if r22 = 0 then (some ((-1 : Int32), h))
else (if x2 < (1 : Int32) then (some ((-2 : Int32), h))
else (if (6 : Int32) < x2 then (some ((-2 : Int32), h))
else (if x3 < 0 then (some ((-2 : Int32), h))
else (if x3 ≤ (10 : Int32) then (qX6_chance_46 600 h x1 x2 x3 x4 (0 : Int32) (1 : Int32) (0 : Int32))
else (some ((-2 : Int32), h)))))))))
set_option maxHeartbeats 4000000 in
set_option maxRecDepth 100000 in
theorem c_X6_chance {l : Launch} {E : Ev} {ad : Nat → Nat} {g : Gp} {h : Hp} {x1 : Int32} {x2 : Int32} {x3 : Int32} {x4 : Int32} {r : Int32} {h9 : Hp} (hI : Inj ad) (hf : qX6_chance h x1 x2 x3 x4 = some (r, h9)) : CtI l yX6_chance cX6_chance 9 (some .int) 6 137 E ad g g [.ref (ad 126), .int x1, .int x2, .int x3, .int x4] h h9 r := by
  refine x_begin (by decide) (Nat.le_of_ble_eq_true rfl) ?_
  intro p e s m below meth c ls C hr hlk X w hl
  replace hl : lv_has ls 9 [(0, .ref (ad 126)), (1, .int x1), (2, .int x2), (3, .int x3), (4, .int x4)] := hl
  replace C : CallFix p m c cX6_chance 9 s ([.ref (ad 126), .int x1, .int x2, .int x3, .int x4] : List Value).toArray lwA RX6 := C
  unfold qX6_chance at hf
  refine lv_aload_n C.1 C.2.1 dX6_chance_0 rfl (lv_at hl 0 rfl) ?_
  refine gf_X6_28 C X w rfl dX6_chance_1 ?_
  refine lv_iload_n C.1 C.2.1 dX6_chance_4 rfl (lv_at hl 1 rfl) ?_
  obtain ⟨r22, eq21, hf⟩ := bi1_e hf
  refine x_cViN (As := [.int x1]) (rest := []) C X (at_su 0 w) (c_X2_isThere hI (by decide) eq21) mw_X2_isThere ml_X6_117 (rcv_P (b := 0) (su_same _ _ _) (by decide)) rfl hl.1 rfl (Nat.le_of_ble_eq_true rfl) ⟨⟨Nat.le_of_ble_eq_true rfl, Nat.le_of_ble_eq_true rfl⟩, Nat.le_of_ble_eq_true rfl, Nat.le_of_ble_eq_true rfl⟩ dX6_chance_5 (fun H locs w => ?_)
  replace w := at_us w
  refine lv_if_ne (tgt := 13) C.1 C.2.1 dX6_chance_8 (by decide) (fun c23 => ?_) (fun c23 => ?_)
  · rw [if_neg c23] at hf
    refine lv_iload_n C.1 C.2.1 dX6_chance_13 rfl (lv_at hl 2 rfl) ?_
    refine lv_iconst (v := 1) C.1 C.2.1 dX6_chance_14 (by decide) ?_
    refine lv_icmp_lt (tgt := 34) C.1 C.2.1 dX6_chance_15 (by decide) (fun c24 => ?_) (fun c24 => ?_)
    · rw [if_pos c24] at hf
      refine lv_bipush (v := -2) C.1 C.2.1 dX6_chance_34 (by decide) ?_
      cases hf
      exact x_iret C hr hlk w dX6_chance_36
    · rw [if_neg c24] at hf
      refine lv_iload_n C.1 C.2.1 dX6_chance_18 rfl (lv_at hl 2 rfl) ?_
      refine lv_bipush (v := 6) C.1 C.2.1 dX6_chance_19 (by decide) ?_
      refine lv_icmp_gt (tgt := 34) C.1 C.2.1 dX6_chance_21 (by decide) (fun c25 => ?_) (fun c25 => ?_)
      · rw [if_pos c25] at hf
        refine lv_bipush (v := -2) C.1 C.2.1 dX6_chance_34 (by decide) ?_
        cases hf
        exact x_iret C hr hlk w dX6_chance_36
      · rw [if_neg c25] at hf
        refine lv_iload_n C.1 C.2.1 dX6_chance_24 rfl (lv_at hl 3 rfl) ?_
        refine lv_if_lt (tgt := 34) C.1 C.2.1 dX6_chance_25 (by decide) (fun c26 => ?_) (fun c26 => ?_)
        · rw [if_pos c26] at hf
          refine lv_bipush (v := -2) C.1 C.2.1 dX6_chance_34 (by decide) ?_
          cases hf
          exact x_iret C hr hlk w dX6_chance_36
        · rw [if_neg c26] at hf
          refine lv_iload_n C.1 C.2.1 dX6_chance_28 rfl (lv_at hl 3 rfl) ?_
          refine lv_bipush (v := 10) C.1 C.2.1 dX6_chance_29 (by decide) ?_
          refine lv_icmp_le (tgt := 37) C.1 C.2.1 dX6_chance_31 (by decide) (fun c27 => ?_) (fun c27 => ?_)
          · rw [if_pos c27] at hf
            refine lv_iconst (v := 0) C.1 C.2.1 dX6_chance_37 (by decide) ?_
            refine lv_istore (lv' := [(5, .int (0 : Int32)), (0, .ref (ad 126)), (1, .int x1), (2, .int x2), (3, .int x3), (4, .int x4)]) C.1 C.2.1 dX6_chance_38 hl (by decide) rfl (fun ls hl => ?_)
            refine lv_iconst (v := 1) C.1 C.2.1 dX6_chance_40 (by decide) ?_
            refine lv_istore (lv' := [(6, .int (1 : Int32)), (5, .int (0 : Int32)), (0, .ref (ad 126)), (1, .int x1), (2, .int x2), (3, .int x3), (4, .int x4)]) C.1 C.2.1 dX6_chance_41 hl (by decide) rfl (fun ls hl => ?_)
            refine lv_iconst (v := 0) C.1 C.2.1 dX6_chance_43 (by decide) ?_
            refine lv_istore (lv' := [(7, .int (0 : Int32)), (6, .int (1 : Int32)), (5, .int (0 : Int32)), (0, .ref (ad 126)), (1, .int x1), (2, .int x2), (3, .int x3), (4, .int x4)]) C.1 C.2.1 dX6_chance_44 hl (by decide) rfl (fun ls hl => ?_)
            exact w_X6_chance_46 C hr hlk X hI 600 _ _ _ _ _ _ _ _ _ _ _ w (lv_sub hl [3, 4, 5, 6, 7, 2, 1, 0] rfl) hf
          · rw [if_neg c27] at hf
            refine lv_bipush (v := -2) C.1 C.2.1 dX6_chance_34 (by decide) ?_
            cases hf
            exact x_iret C hr hlk w dX6_chance_36
  · rw [if_pos c23] at hf
    refine lv_iconst (v := -1) C.1 C.2.1 dX6_chance_11 (by decide) ?_
    cases hf
    exact x_iret C hr hlk w dX6_chance_12

def qX6_seed (h : Hp) (g : Gp) (x1 : Int64) : Option (Int64 × Gp) :=
(bd (sg g 18 x1) (fun g21 =>
(some ((g 18), g21))))
set_option maxHeartbeats 4000000 in
set_option maxRecDepth 100000 in
theorem c_X6_seed {l : Launch} {E : Ev} {ad : Nat → Nat} {g : Gp} {h : Hp} {x1 : Int64} {r : Int64} {g9 : Gp} (hI : Inj ad) (hf : qX6_seed h g x1 = some (r, g9)) : CtL l yX6_seed cX6_seed 5 (some .long) 0 0 E ad g g9 [.ref (ad 126), .long x1] h h r := by
  refine x_begin (by decide) (Nat.le_of_ble_eq_true rfl) ?_
  intro p e s m below meth c ls C hr hlk X w hl
  replace hl : lv_has ls 5 [(0, .ref (ad 126)), (1, .long x1)] := hl
  replace C : CallFix p m c cX6_seed 5 s ([.ref (ad 126), .long x1] : List Value).toArray lwA RX6 := C
  unfold qX6_seed at hf
  refine lv_aload_n C.1 C.2.1 dX6_seed_0 rfl (lv_at hl 0 rfl) ?_
  refine gf_X6_60 C X w rfl dX6_seed_1 ?_
  refine lv_lstore_n (lv' := [(3, .long (g 18)), (0, .ref (ad 126)), (1, .long x1)]) C.1 C.2.1 dX6_seed_4 rfl hl (by decide) rfl (fun ls hl => ?_)
  refine lv_aload_n C.1 C.2.1 dX6_seed_5 rfl (lv_at hl 1 rfl) ?_
  refine lv_lload_n C.1 C.2.1 dX6_seed_6 rfl (lv_at hl 2 rfl) ?_
  obtain ⟨g21, eg21, hf⟩ := bd_e hf
  refine pf_X6_60 C X hI w dX6_seed_7 (fun H locs w => ?_)
  replace w := at_eqG eg21 w
  refine lv_lload_n C.1 C.2.1 dX6_seed_10 rfl (lv_at hl 0 rfl) ?_
  cases hf
  exact x_lret C hr hlk w dX6_seed_11

def qX6_days_95 (k27 : Hp → Gp → Int32 → Int32 → Option (Int32 × Hp × Gp)) (h : Hp) (g : Gp) (v1 : Int32) (v2 : Int32) : Option (Int32 × Hp × Gp) :=
(k27 h g v1 (v2 + 1))
set_option maxHeartbeats 4000000 in
set_option maxRecDepth 100000 in
theorem w_X6_days_95 {p : Program} {l : Launch} {e : Env} {s : State} {m : MethodId} {args : Array Value} {below : List Frame} {meth : Method} {c : Code} {E : Ev} {ad : Nat → Nat} {r : Int32} {h9 : Hp} {g9 : Gp} {k27 : Hp → Gp → Int32 → Int32 → Option (Int32 × Hp × Gp)} (C : CallFix p m c cX6_days 4 s args lwA RX6) (hr : meth.sig.returnType = (some .int)) (hlk : meth.locks = false) (X : Sx E ad s) (hI : Inj ad) (hk27 : ∀ (h : Hp) (g : Gp) (v1 : Int32) (v2 : Int32) (H : Heap) (locs : List Loc) (ls : Array Slot), At E ad h g s H locs → lv_has ls 4 [(0, .ref (ad 126)), (1, .int v1), (2, .int v2)] → k27 h g v1 v2 = some (r, h9, g9) → W p l e (RM 5 113) s m args below meth c H locs 0 0 (QI E ad h9 g9 r below args s) (F0 m 27 ls [])) : ∀ (h : Hp) (g : Gp) (v1 : Int32) (v2 : Int32) (H : Heap) (locs : List Loc) (ls : Array Slot), At E ad h g s H locs → lv_has ls 4 [(0, .ref (ad 126)), (1, .int v1), (2, .int v2)] → qX6_days_95 k27 h g v1 v2 = some (r, h9, g9) → W p l e (RM 5 113) s m args below meth c H locs 0 0 (QI E ad h9 g9 r below args s) (F0 m 95 ls []) := by
  intro h g v1 v2 H locs ls w hl hf
  unfold qX6_days_95 at hf
  refine lv_iinc (v := (v2 + 1)) (lv' := [(2, .int (v2 + 1)), (0, .ref (ad 126)), (1, .int v1)]) C.1 C.2.1 dX6_days_95 hl (k := 2) rfl (congrArg (fun z => v2 + z) (by decide)) (by decide) rfl (fun ls hl => ?_)
  refine lv_goto (tgt := 27) C.1 C.2.1 dX6_days_98 (by decide) ?_
  exact hk27 _ _ _ _ _ _ _ w (lv_sub hl [1, 2, 0] rfl) hf
def qX6_days_27 : Nat → Hp → Gp → Int32 → Int32 → Option (Int32 × Hp × Gp)
  | 0, _, _, _, _ => none
  | n + 1, h, g, v1, v2 =>
    (if v1 ≤ v2 then (bi1 (qX2_staredByAll (h 1)) (fun r29 =>
    (bi1 (qX2_staredByAll (h 0)) (fun r31 =>
    (some ((r29 - r31), h, g))))))
    else (bd (sg g 18 (((g 18) * (6364136223846793005 : Int64)) + (1442695040888963407 : Int64))) (fun g32 =>
    (bd (((((((g32 18)).toUInt64 >>> (((33 : Int32)).toInt64.toUInt64 &&& Int64.toUInt64 63)).toInt64) - ((((g32 18)).toUInt64 >>> (((33 : Int32)).toInt64.toUInt64 &&& Int64.toUInt64 63)).toInt64) / (10 : Int64) * (10 : Int64))).toInt32) (fun x33 =>
    (if x33 < (5 : Int32) then (bi1 (qX2_canBeCalled (h 1) x33) (fun r36 =>
    (if r36 = 0 then (qX6_days_95 (qX6_days_27 n) h g32 v1 v2)
    else (bi1 (qX2_callAway (h 1) x33) (fun P40 =>
    (bd (su h 1 P40) (fun h41 =>
    (qX6_days_95 (qX6_days_27 n) h41 g32 v1 v2))))))))
    else (bi1 (qX2_passMinute (h 22) (h 23) (h 1)) (fun P44 =>
    (bd (su h 1 P44) (fun h45 =>
    (qX6_days_95 (qX6_days_27 n) h45 g32 v1 v2)))))))))))
set_option maxHeartbeats 4000000 in
set_option maxRecDepth 100000 in
theorem w_X6_days_27 {p : Program} {l : Launch} {e : Env} {s : State} {m : MethodId} {args : Array Value} {below : List Frame} {meth : Method} {c : Code} {E : Ev} {ad : Nat → Nat} {r : Int32} {h9 : Hp} {g9 : Gp} (C : CallFix p m c cX6_days 4 s args lwA RX6) (hr : meth.sig.returnType = (some .int)) (hlk : meth.locks = false) (X : Sx E ad s) (hI : Inj ad)  : ∀ (n : Nat), ∀ (h : Hp) (g : Gp) (v1 : Int32) (v2 : Int32) (H : Heap) (locs : List Loc) (ls : Array Slot), At E ad h g s H locs → lv_has ls 4 [(0, .ref (ad 126)), (1, .int v1), (2, .int v2)] → qX6_days_27 n h g v1 v2 = some (r, h9, g9) → W p l e (RM 5 113) s m args below meth c H locs 0 0 (QI E ad h9 g9 r below args s) (F0 m 27 ls []) := by
  intro n
  induction n with
  | zero =>
    intro h g v1 v2 H locs ls w hl hf
    cases hf
  | succ n ih =>
    intro h g v1 v2 H locs ls w hl hf
    rw [qX6_days_27] at hf
    refine lv_iload_n C.1 C.2.1 dX6_days_27 rfl (lv_at hl 2 rfl) ?_
    refine lv_iload_n C.1 C.2.1 dX6_days_28 rfl (lv_at hl 1 rfl) ?_
    refine lv_icmp_ge (tgt := 101) C.1 C.2.1 dX6_days_29 (by decide) (fun c27 => ?_) (fun c27 => ?_)
    · rw [if_pos c27] at hf
      refine lv_aload_n C.1 C.2.1 dX6_days_101 rfl (lv_at hl 0 rfl) ?_
      refine gf_X6_32 C X w rfl dX6_days_102 ?_
      obtain ⟨r29, eq28, hf⟩ := bi1_e hf
      refine x_cViN (As := []) (rest := []) C X (at_su 1 w) (c_X2_staredByAll hI (by decide) eq28) mw_X2_staredByAll ml_X6_206 (rcv_P (b := 1) (su_same _ _ _) (by decide)) rfl hl.1 rfl (Nat.le_of_ble_eq_true rfl) ⟨⟨Nat.le_of_ble_eq_true rfl, Nat.le_of_ble_eq_true rfl⟩, Nat.le_of_ble_eq_true rfl, Nat.le_of_ble_eq_true rfl⟩ dX6_days_105 (fun H locs w => ?_)
      replace w := at_us w
      refine lv_aload_n C.1 C.2.1 dX6_days_108 rfl (lv_at hl 0 rfl) ?_
      refine gf_X6_28 C X w rfl dX6_days_109 ?_
      obtain ⟨r31, eq30, hf⟩ := bi1_e hf
      refine x_cViN (As := []) (rest := [.int r29]) C X (at_su 0 w) (c_X2_staredByAll hI (by decide) eq30) mw_X2_staredByAll ml_X6_206 (rcv_P (b := 0) (su_same _ _ _) (by decide)) rfl hl.1 rfl (Nat.le_of_ble_eq_true rfl) ⟨⟨Nat.le_of_ble_eq_true rfl, Nat.le_of_ble_eq_true rfl⟩, Nat.le_of_ble_eq_true rfl, Nat.le_of_ble_eq_true rfl⟩ dX6_days_112 (fun H locs w => ?_)
      replace w := at_us w
      refine lv_isub C.1 C.2.1 dX6_days_115 ?_
      cases hf
      exact x_iret C hr hlk w dX6_days_116
    · rw [if_neg c27] at hf
      refine lv_aload_n C.1 C.2.1 dX6_days_32 rfl (lv_at hl 0 rfl) ?_
      refine lv_aload_n C.1 C.2.1 dX6_days_33 rfl (lv_at hl 0 rfl) ?_
      refine gf_X6_60 C X w rfl dX6_days_34 ?_
      refine lv_ldc2 (v := 6364136223846793005) C.1 C.2.1 C.2.2.2.1 (C.2.2.2.2 _ wd_constantLong_OneTricycle_254_6364136223846793005_Int64_) dX6_days_37 ?_
      refine lv_lmul C.1 C.2.1 dX6_days_40 ?_
      refine lv_ldc2 (v := 1442695040888963407) C.1 C.2.1 C.2.2.2.1 (C.2.2.2.2 _ wd_constantLong_OneTricycle_256_1442695040888963407_Int64_) dX6_days_41 ?_
      refine lv_ladd C.1 C.2.1 dX6_days_44 ?_
      obtain ⟨g32, eg32, hf⟩ := bd_e hf
      refine pf_X6_60 C X hI w dX6_days_45 (fun H locs w => ?_)
      replace w := at_eqG eg32 w
      refine lv_aload_n C.1 C.2.1 dX6_days_48 rfl (lv_at hl 0 rfl) ?_
      refine gf_X6_60 C X w rfl dX6_days_49 ?_
      refine lv_bipush (v := 33) C.1 C.2.1 dX6_days_52 (by decide) ?_
      refine lv_lushr (v := (((g32 18)).toUInt64 >>> (((33 : Int32)).toInt64.toUInt64 &&& Int64.toUInt64 63)).toInt64) C.1 C.2.1 dX6_days_54 rfl ?_
      refine lv_ldc2 (v := 10) C.1 C.2.1 C.2.2.2.1 (C.2.2.2.2 _ wd_constantLong_OneTricycle_258_10_Int64_) dX6_days_55 ?_
      refine lv_lrem C.1 C.2.1 dX6_days_58 (by decide) ?_
      refine lv_l2i (v := ((((((g32 18)).toUInt64 >>> (((33 : Int32)).toInt64.toUInt64 &&& Int64.toUInt64 63)).toInt64) - ((((g32 18)).toUInt64 >>> (((33 : Int32)).toInt64.toUInt64 &&& Int64.toUInt64 63)).toInt64) / (10 : Int64) * (10 : Int64))).toInt32) C.1 C.2.1 dX6_days_59 rfl ?_
      obtain ⟨x33, ex33, hf⟩ := bd_e hf
      refine x_tp ex33 ?_
      refine lv_istore_n (lv' := [(3, .int x33), (0, .ref (ad 126)), (1, .int v1), (2, .int v2)]) C.1 C.2.1 dX6_days_60 rfl hl (by decide) rfl (fun ls hl => ?_)
      refine lv_iload_n C.1 C.2.1 dX6_days_61 rfl (lv_at hl 0 rfl) ?_
      refine lv_iconst (v := 5) C.1 C.2.1 dX6_days_62 (by decide) ?_
      refine lv_icmp_lt (tgt := 76) C.1 C.2.1 dX6_days_63 (by decide) (fun c34 => ?_) (fun c34 => ?_)
      · rw [if_pos c34] at hf
        refine lv_aload_n C.1 C.2.1 dX6_days_76 rfl (lv_at hl 1 rfl) ?_
        refine gf_X6_32 C X w rfl dX6_days_77 ?_
        refine lv_iload_n C.1 C.2.1 dX6_days_80 rfl (lv_at hl 0 rfl) ?_
        obtain ⟨r36, eq35, hf⟩ := bi1_e hf
        refine x_cViN (As := [.int x33]) (rest := []) C X (at_su 1 w) (c_X2_canBeCalled hI (by decide) eq35) mw_X2_canBeCalled ml_X6_171 (rcv_P (b := 1) (su_same _ _ _) (by decide)) rfl hl.1 rfl (Nat.le_of_ble_eq_true rfl) ⟨⟨Nat.le_of_ble_eq_true rfl, Nat.le_of_ble_eq_true rfl⟩, Nat.le_of_ble_eq_true rfl, Nat.le_of_ble_eq_true rfl⟩ dX6_days_81 (fun H locs w => ?_)
        replace w := at_us w
        refine lv_if_eq (tgt := 95) C.1 C.2.1 dX6_days_84 (by decide) (fun c37 => ?_) (fun c37 => ?_)
        · rw [if_pos c37] at hf
          exact w_X6_days_95 C hr hlk X hI ih _ _ _ _ _ _ _ w (lv_sub hl [1, 2, 3] rfl) hf
        · rw [if_neg c37] at hf
          refine lv_aload_n C.1 C.2.1 dX6_days_87 rfl (lv_at hl 1 rfl) ?_
          refine gf_X6_32 C X w rfl dX6_days_88 ?_
          refine lv_iload_n C.1 C.2.1 dX6_days_91 rfl (lv_at hl 0 rfl) ?_
          obtain ⟨P40, eq38, hf⟩ := bi1_e hf
          obtain ⟨h41, eh41, hf⟩ := bd_e hf
          refine x_cVvN (As := [.int x33]) (rest := []) C X (at_su 1 w) (c_X2_callAway hI (by decide) eq38) mw_X2_callAway ml_X6_174 (rcv_P (b := 1) (su_same _ _ _) (by decide)) rfl hl.1 rfl (Nat.le_of_ble_eq_true rfl) ⟨⟨Nat.le_of_ble_eq_true rfl, Nat.le_of_ble_eq_true rfl⟩, Nat.le_of_ble_eq_true rfl, Nat.le_of_ble_eq_true rfl⟩ dX6_days_92 (fun H locs w => ?_)
          replace w := at_eq eh41 w
          exact w_X6_days_95 C hr hlk X hI ih _ _ _ _ _ _ _ w (lv_sub hl [1, 2, 3] rfl) hf
      · rw [if_neg c34] at hf
        refine lv_aload_n C.1 C.2.1 dX6_days_66 rfl (lv_at hl 1 rfl) ?_
        refine gf_X6_32 C X w rfl dX6_days_67 ?_
        obtain ⟨P44, eq42, hf⟩ := bi1_e hf
        obtain ⟨h45, eh45, hf⟩ := bd_e hf
        refine x_cVvN (As := []) (rest := []) C X (at_su 1 w) (c_X2_passMinute hI (by decide) eq42) mw_X2_passMinute ml_X6_153 (rcv_P (b := 1) (su_same _ _ _) (by decide)) rfl hl.1 rfl (Nat.le_of_ble_eq_true rfl) ⟨⟨Nat.le_of_ble_eq_true rfl, Nat.le_of_ble_eq_true rfl⟩, Nat.le_of_ble_eq_true rfl, Nat.le_of_ble_eq_true rfl⟩ dX6_days_70 (fun H locs w => ?_)
        replace w := at_eq eh45 w
        refine lv_goto (tgt := 95) C.1 C.2.1 dX6_days_73 (by decide) ?_
        exact w_X6_days_95 C hr hlk X hI ih _ _ _ _ _ _ _ w (lv_sub hl [1, 2, 3] rfl) hf
def qX6_days (h : Hp) (g : Gp) (x1 : Int32) : Option (Int32 × Hp × Gp) :=
(if x1 < (1 : Int32) then (some ((-2 : Int32), h, g))
else (if x1 ≤ (30 : Int32) then (bi1 (qX2_copyFrom (h 0) (h 1)) (fun P25 =>
(bd (su h 1 P25) (fun h26 =>
(qX6_days_27 600 h26 g x1 (0 : Int32))))))
else (some ((-2 : Int32), h, g))))
set_option maxHeartbeats 4000000 in
set_option maxRecDepth 100000 in
theorem c_X6_days {l : Launch} {E : Ev} {ad : Nat → Nat} {g : Gp} {h : Hp} {x1 : Int32} {r : Int32} {h9 : Hp} {g9 : Gp} (hI : Inj ad) (hf : qX6_days h g x1 = some (r, h9, g9)) : CtI l yX6_days cX6_days 4 (some .int) 5 113 E ad g g9 [.ref (ad 126), .int x1] h h9 r := by
  refine x_begin (by decide) (Nat.le_of_ble_eq_true rfl) ?_
  intro p e s m below meth c ls C hr hlk X w hl
  replace hl : lv_has ls 4 [(0, .ref (ad 126)), (1, .int x1)] := hl
  replace C : CallFix p m c cX6_days 4 s ([.ref (ad 126), .int x1] : List Value).toArray lwA RX6 := C
  unfold qX6_days at hf
  refine lv_iload_n C.1 C.2.1 dX6_days_0 rfl (lv_at hl 1 rfl) ?_
  refine lv_iconst (v := 1) C.1 C.2.1 dX6_days_1 (by decide) ?_
  refine lv_icmp_lt (tgt := 11) C.1 C.2.1 dX6_days_2 (by decide) (fun c21 => ?_) (fun c21 => ?_)
  · rw [if_pos c21] at hf
    refine lv_bipush (v := -2) C.1 C.2.1 dX6_days_11 (by decide) ?_
    cases hf
    exact x_iret C hr hlk w dX6_days_13
  · rw [if_neg c21] at hf
    refine lv_iload_n C.1 C.2.1 dX6_days_5 rfl (lv_at hl 1 rfl) ?_
    refine lv_bipush (v := 30) C.1 C.2.1 dX6_days_6 (by decide) ?_
    refine lv_icmp_le (tgt := 14) C.1 C.2.1 dX6_days_8 (by decide) (fun c22 => ?_) (fun c22 => ?_)
    · rw [if_pos c22] at hf
      refine lv_aload_n C.1 C.2.1 dX6_days_14 rfl (lv_at hl 0 rfl) ?_
      refine gf_X6_32 C X w rfl dX6_days_15 ?_
      refine lv_aload_n C.1 C.2.1 dX6_days_18 rfl (lv_at hl 0 rfl) ?_
      refine gf_X6_28 C X w rfl dX6_days_19 ?_
      obtain ⟨P25, eq23, hf⟩ := bi1_e hf
      obtain ⟨h26, eh26, hf⟩ := bd_e hf
      refine x_cVvN (As := [.ref (ad (7 * 0))]) (rest := []) C X (at_su 1 w) (c_X2_copyFrom hI (by decide) (by decide) (by first | decide | omega) eq23) mw_X2_copyFrom ml_X6_209 (rcv_P (b := 1) (su_same _ _ _) (by decide)) rfl hl.1 rfl (Nat.le_of_ble_eq_true rfl) ⟨⟨Nat.le_of_ble_eq_true rfl, Nat.le_of_ble_eq_true rfl⟩, Nat.le_of_ble_eq_true rfl, Nat.le_of_ble_eq_true rfl⟩ dX6_days_22 (fun H locs w => ?_)
      replace w := at_eq eh26 w
      refine lv_iconst (v := 0) C.1 C.2.1 dX6_days_25 (by decide) ?_
      refine lv_istore_n (lv' := [(2, .int (0 : Int32)), (0, .ref (ad 126)), (1, .int x1)]) C.1 C.2.1 dX6_days_26 rfl hl (by decide) rfl (fun ls hl => ?_)
      exact w_X6_days_27 C hr hlk X hI 600 _ _ _ _ _ _ _ w (lv_sub hl [1, 2, 0] rfl) hf
    · rw [if_neg c22] at hf
      refine lv_bipush (v := -2) C.1 C.2.1 dX6_days_11 (by decide) ?_
      cases hf
      exact x_iret C hr hlk w dX6_days_13

def qX6_keep (h : Hp) (x1 : Int32) : Option (Int32 × Hp) :=
(bi1 (qX6_isSlot x1) (fun r22 =>
(if r22 = 0 then (some ((-1 : Int32), h))
else (ck (inb x1 2) ((bi1 (qX2_copyFrom (h 0) (h (16 + x1.toNatClampNeg))) (fun P28 =>
(bd (su h (16 + x1.toNatClampNeg) P28) (fun h29 =>
(ck (inb x1 2) (bd (su h29 28 (upd (h29 28) x1.toNatClampNeg (1 : Int32))) (fun h31 =>
(some (((h31 0) 35), h31))))))))))))))
set_option maxHeartbeats 4000000 in
set_option maxRecDepth 100000 in
theorem c_X6_keep {l : Launch} {E : Ev} {ad : Nat → Nat} {g : Gp} {h : Hp} {x1 : Int32} {r : Int32} {h9 : Hp} (hI : Inj ad) (hf : qX6_keep h x1 = some (r, h9)) : CtI l yX6_keep cX6_keep 2 (some .int) 1 22 E ad g g [.ref (ad 126), .int x1] h h9 r := by
  refine x_begin (by decide) (Nat.le_of_ble_eq_true rfl) ?_
  intro p e s m below meth c ls C hr hlk X w hl
  replace hl : lv_has ls 2 [(0, .ref (ad 126)), (1, .int x1)] := hl
  replace C : CallFix p m c cX6_keep 2 s ([.ref (ad 126), .int x1] : List Value).toArray lwA RX6 := C
  unfold qX6_keep at hf
  refine lv_iload_n C.1 C.2.1 dX6_keep_0 rfl (lv_at hl 1 rfl) ?_
  obtain ⟨r22, eq21, hf⟩ := bi1_e hf
  refine x_cSi (As := [.int x1]) (rest := []) C X w (c_X6_isSlot hI  eq21) mw_X6_isSlot ml_X6_260 rfl hl.1 rfl (Nat.le_of_ble_eq_true rfl) ⟨⟨Nat.le_of_ble_eq_true rfl, Nat.le_of_ble_eq_true rfl⟩, Nat.le_of_ble_eq_true rfl, Nat.le_of_ble_eq_true rfl⟩ dX6_keep_1 (fun H locs w => ?_)
  refine lv_if_ne (tgt := 9) C.1 C.2.1 dX6_keep_4 (by decide) (fun c23 => ?_) (fun c23 => ?_)
  · rw [if_neg c23] at hf
    refine lv_aload_n C.1 C.2.1 dX6_keep_9 rfl (lv_at hl 0 rfl) ?_
    refine gf_X6_45 C X w rfl dX6_keep_10 ?_
    refine gf_X6_263 C X w rfl dX6_keep_13 ?_
    refine lv_iload_n C.1 C.2.1 dX6_keep_16 rfl (lv_at hl 1 rfl) ?_
    obtain ⟨i24, hf⟩ := ck_e hf
    have hb25 : (16 + x1.toNatClampNeg) < 18 := by have := inb_lt i24; omega
    refine x_ald (q := ad (7 * (16 + x1.toNatClampNeg))) C X w wl_r27 i24 rfl dX6_keep_17 ?_
    refine lv_aload_n C.1 C.2.1 dX6_keep_18 rfl (lv_at hl 0 rfl) ?_
    refine gf_X6_28 C X w rfl dX6_keep_19 ?_
    obtain ⟨P28, eq26, hf⟩ := bi1_e hf
    obtain ⟨h29, eh29, hf⟩ := bd_e hf
    refine x_cVvN (As := [.ref (ad (7 * 0))]) (rest := []) C X (at_su (16 + x1.toNatClampNeg) w) (c_X2_copyFrom hI (hb25) (by decide) (by first | decide | omega) eq26) mw_X2_copyFrom ml_X6_209 (rcv_P (b := (16 + x1.toNatClampNeg)) (su_same _ _ _) (hb25)) rfl hl.1 rfl (Nat.le_of_ble_eq_true rfl) ⟨⟨Nat.le_of_ble_eq_true rfl, Nat.le_of_ble_eq_true rfl⟩, Nat.le_of_ble_eq_true rfl, Nat.le_of_ble_eq_true rfl⟩ dX6_keep_22 (fun H locs w => ?_)
    replace w := at_eq eh29 w
    refine lv_aload_n C.1 C.2.1 dX6_keep_25 rfl (lv_at hl 0 rfl) ?_
    refine gf_X6_45 C X w rfl dX6_keep_26 ?_
    refine gf_X6_267 C X w rfl dX6_keep_29 ?_
    refine lv_iload_n C.1 C.2.1 dX6_keep_32 rfl (lv_at hl 1 rfl) ?_
    refine lv_iconst (v := 1) C.1 C.2.1 dX6_keep_33 (by decide) ?_
    obtain ⟨i30, hf⟩ := ck_e hf
    obtain ⟨h31, eh31, hf⟩ := bd_e hf
    refine x_zst (h2 := su h29 28 (upd (h29 28) x1.toNatClampNeg (1 : Int32))) C X hI w (wl_r28 rfl) i30 (by decide) ws_r28 dX6_keep_34 (fun H locs w => ?_)
    replace w := at_eq eh31 w
    refine lv_aload_n C.1 C.2.1 dX6_keep_35 rfl (lv_at hl 0 rfl) ?_
    refine gf_X6_28 C X w rfl dX6_keep_36 ?_
    refine gf_X6_112 (b := 0) C X w rfl (by decide) dX6_keep_39 ?_
    cases hf
    exact x_iret C hr hlk w dX6_keep_42
  · rw [if_pos c23] at hf
    refine lv_iconst (v := -1) C.1 C.2.1 dX6_keep_7 (by decide) ?_
    cases hf
    exact x_iret C hr hlk w dX6_keep_8

def qX6_again (h : Hp) (x1 : Int32) : Option (Int32 × Hp) :=
(bi1 (qX6_isSlot x1) (fun r22 =>
(if r22 = 0 then (some ((-1 : Int32), h))
else (ck (inb x1 2) ((if ((h 28) x1.toNatClampNeg) = 0 then (some ((-3 : Int32), h))
else (ck (inb x1 2) ((bi1 (qX2_copyFrom (h (16 + x1.toNatClampNeg)) (h 0)) (fun P30 =>
(bd (su h 0 P30) (fun h31 =>
(bi1 (qX0_forgetAll h31) (fun h34 =>
(some (((h34 0) 35), h34))))))))))))))))
set_option maxHeartbeats 4000000 in
set_option maxRecDepth 100000 in
theorem c_X6_again {l : Launch} {E : Ev} {ad : Nat → Nat} {g : Gp} {h : Hp} {x1 : Int32} {r : Int32} {h9 : Hp} (hI : Inj ad) (hf : qX6_again h x1 = some (r, h9)) : CtI l yX6_again cX6_again 2 (some .int) 1 22 E ad g g [.ref (ad 126), .int x1] h h9 r := by
  refine x_begin (by decide) (Nat.le_of_ble_eq_true rfl) ?_
  intro p e s m below meth c ls C hr hlk X w hl
  replace hl : lv_has ls 2 [(0, .ref (ad 126)), (1, .int x1)] := hl
  replace C : CallFix p m c cX6_again 2 s ([.ref (ad 126), .int x1] : List Value).toArray lwA RX6 := C
  unfold qX6_again at hf
  refine lv_iload_n C.1 C.2.1 dX6_again_0 rfl (lv_at hl 1 rfl) ?_
  obtain ⟨r22, eq21, hf⟩ := bi1_e hf
  refine x_cSi (As := [.int x1]) (rest := []) C X w (c_X6_isSlot hI  eq21) mw_X6_isSlot ml_X6_260 rfl hl.1 rfl (Nat.le_of_ble_eq_true rfl) ⟨⟨Nat.le_of_ble_eq_true rfl, Nat.le_of_ble_eq_true rfl⟩, Nat.le_of_ble_eq_true rfl, Nat.le_of_ble_eq_true rfl⟩ dX6_again_1 (fun H locs w => ?_)
  refine lv_if_ne (tgt := 9) C.1 C.2.1 dX6_again_4 (by decide) (fun c23 => ?_) (fun c23 => ?_)
  · rw [if_neg c23] at hf
    refine lv_aload_n C.1 C.2.1 dX6_again_9 rfl (lv_at hl 0 rfl) ?_
    refine gf_X6_45 C X w rfl dX6_again_10 ?_
    refine gf_X6_267 C X w rfl dX6_again_13 ?_
    refine lv_iload_n C.1 C.2.1 dX6_again_16 rfl (lv_at hl 1 rfl) ?_
    obtain ⟨i24, hf⟩ := ck_e hf
    refine x_zld (v := (h 28) x1.toNatClampNeg) C X w (wl_r28 (rfl)) i24 (rfl) dX6_again_17 ?_
    refine lv_if_ne (tgt := 24) C.1 C.2.1 dX6_again_18 (by decide) (fun c25 => ?_) (fun c25 => ?_)
    · rw [if_neg c25] at hf
      refine lv_aload_n C.1 C.2.1 dX6_again_24 rfl (lv_at hl 0 rfl) ?_
      refine gf_X6_28 C X w rfl dX6_again_25 ?_
      refine lv_aload_n C.1 C.2.1 dX6_again_28 rfl (lv_at hl 0 rfl) ?_
      refine gf_X6_45 C X w rfl dX6_again_29 ?_
      refine gf_X6_263 C X w rfl dX6_again_32 ?_
      refine lv_iload_n C.1 C.2.1 dX6_again_35 rfl (lv_at hl 1 rfl) ?_
      obtain ⟨i26, hf⟩ := ck_e hf
      have hb27 : (16 + x1.toNatClampNeg) < 18 := by have := inb_lt i26; omega
      refine x_ald (q := ad (7 * (16 + x1.toNatClampNeg))) C X w wl_r27 i26 rfl dX6_again_36 ?_
      obtain ⟨P30, eq28, hf⟩ := bi1_e hf
      obtain ⟨h31, eh31, hf⟩ := bd_e hf
      refine x_cVvN (As := [.ref (ad (7 * (16 + x1.toNatClampNeg)))]) (rest := []) C X (at_su 0 w) (c_X2_copyFrom hI (by decide) (hb27) (by first | decide | omega) eq28) mw_X2_copyFrom ml_X6_209 (rcv_P (b := 0) (su_same _ _ _) (by decide)) rfl hl.1 rfl (Nat.le_of_ble_eq_true rfl) ⟨⟨Nat.le_of_ble_eq_true rfl, Nat.le_of_ble_eq_true rfl⟩, Nat.le_of_ble_eq_true rfl, Nat.le_of_ble_eq_true rfl⟩ dX6_again_37 (fun H locs w => ?_)
      replace w := at_eq eh31 w
      refine lv_aload_n C.1 C.2.1 dX6_again_40 rfl (lv_at hl 0 rfl) ?_
      refine gf_X6_38 C X w rfl dX6_again_41 ?_
      obtain ⟨h34, eq32, hf⟩ := bi1_e hf
      refine x_cVvN (As := []) (rest := []) C X w (c_X0_forgetAll hI eq32) mw_X0_forgetAll ml_X6_83 rcv_r24 rfl hl.1 rfl (Nat.le_of_ble_eq_true rfl) ⟨⟨Nat.le_of_ble_eq_true rfl, Nat.le_of_ble_eq_true rfl⟩, Nat.le_of_ble_eq_true rfl, Nat.le_of_ble_eq_true rfl⟩ dX6_again_44 (fun H locs w => ?_)
      refine lv_aload_n C.1 C.2.1 dX6_again_47 rfl (lv_at hl 0 rfl) ?_
      refine gf_X6_28 C X w rfl dX6_again_48 ?_
      refine gf_X6_112 (b := 0) C X w rfl (by decide) dX6_again_51 ?_
      cases hf
      exact x_iret C hr hlk w dX6_again_54
    · rw [if_pos c25] at hf
      refine lv_bipush (v := -3) C.1 C.2.1 dX6_again_21 (by decide) ?_
      cases hf
      exact x_iret C hr hlk w dX6_again_23
  · rw [if_pos c23] at hf
    refine lv_iconst (v := -1) C.1 C.2.1 dX6_again_7 (by decide) ?_
    cases hf
    exact x_iret C hr hlk w dX6_again_8
