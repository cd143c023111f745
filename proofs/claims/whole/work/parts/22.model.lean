def qX7_write (h : Hp) (x1 : Int32) : Option (Int32 × Hp) :=
(bd (su h 33 (upd (h 33) 0 (0 : Int32))) (fun h21 =>
(bi1 (qX7_in ((x1).toInt64) (0 : Int64) (255 : Int64)) (fun r23 =>
(if r23 = 0 then (some ((-2 : Int32), h21))
else (if ((h21 33) 2) = (32 : Int32) then (some ((-4 : Int32), h21))
else (ck (inb ((h21 33) 2) 32) (bd (su h21 34 (upd (h21 34) (((h21 33) 2)).toNatClampNeg x1)) (fun h27 =>
(bd (su h27 33 (upd (h27 33) 2 (((h27 33) 2) + (1 : Int32)))) (fun h28 =>
(some (((h28 33) 2), h28)))))))))))))
set_option maxHeartbeats 4000000 in
set_option maxRecDepth 100000 in
theorem c_X7_write {l : Launch} {E : Ev} {ad : Nat → Nat} {g : Gp} {h : Hp} {x1 : Int32} {r : Int32} {h9 : Hp} (hI : Inj ad) (hf : qX7_write h x1 = some (r, h9)) : CtI l yX7_write cX7_write 2 (some .int) 1 25 E ad g g [.ref (ad 141), .int x1] h h9 r := by
  refine x_begin (by decide) (Nat.le_of_ble_eq_true rfl) ?_
  intro p e s m below meth c ls C hr hlk X w hl
  replace hl : lv_has ls 2 [(0, .ref (ad 141)), (1, .int x1)] := hl
  replace C : CallFix p m c cX7_write 2 s ([.ref (ad 141), .int x1] : List Value).toArray lwA RX7 := C
  unfold qX7_write at hf
  refine lv_aload_n C.1 C.2.1 dX7_write_0 rfl (lv_at hl 0 rfl) ?_
  refine lv_iconst (v := 0) C.1 C.2.1 dX7_write_1 (by decide) ?_
  obtain ⟨h21, eh21, hf⟩ := bd_e hf
  refine pf_X7_51 C X hI w dX7_write_2 (fun H locs w => ?_)
  replace w := at_eq eh21 w
  refine lv_iload_n C.1 C.2.1 dX7_write_5 rfl (lv_at hl 1 rfl) ?_
  refine lv_i2l (v := (x1).toInt64) C.1 C.2.1 dX7_write_6 rfl ?_
  refine lv_lconst (v := 0) C.1 C.2.1 dX7_write_7 (by decide) ?_
  refine lv_ldc2 (v := 255) C.1 C.2.1 C.2.2.2.1 (C.2.2.2.2 _ wd_constantLong_OneTricycleModel_61_255_Int64_) dX7_write_8 ?_
  obtain ⟨r23, eq22, hf⟩ := bi1_e hf
  refine x_cSi (As := [.long ((x1).toInt64), .long (0 : Int64), .long (255 : Int64)]) (rest := []) C X w (c_X7_in hI  eq22) mw_X7_in ml_X7_57 rfl hl.1 rfl (Nat.le_of_ble_eq_true rfl) ⟨⟨Nat.le_of_ble_eq_true rfl, Nat.le_of_ble_eq_true rfl⟩, Nat.le_of_ble_eq_true rfl, Nat.le_of_ble_eq_true rfl⟩ dX7_write_11 (fun H locs w => ?_)
  refine lv_if_ne (tgt := 20) C.1 C.2.1 dX7_write_14 (by decide) (fun c24 => ?_) (fun c24 => ?_)
  · rw [if_neg c24] at hf
    refine lv_aload_n C.1 C.2.1 dX7_write_20 rfl (lv_at hl 0 rfl) ?_
    refine gf_X7_63 C X w (rfl) dX7_write_21 ?_
    refine lv_bipush (v := 32) C.1 C.2.1 dX7_write_24 (by decide) ?_
    refine lv_icmp_ne (tgt := 32) C.1 C.2.1 dX7_write_26 (by decide) (fun c25 => ?_) (fun c25 => ?_)
    · rw [if_neg c25] at hf
      refine lv_aload_n C.1 C.2.1 dX7_write_32 rfl (lv_at hl 0 rfl) ?_
      refine gf_X7_7 C X w rfl dX7_write_33 ?_
      refine lv_aload_n C.1 C.2.1 dX7_write_36 rfl (lv_at hl 0 rfl) ?_
      refine gf_X7_63 C X w (rfl) dX7_write_37 ?_
      refine lv_iload_n C.1 C.2.1 dX7_write_40 rfl (lv_at hl 1 rfl) ?_
      obtain ⟨i26, hf⟩ := ck_e hf
      obtain ⟨h27, eh27, hf⟩ := bd_e hf
      refine x_ist (h2 := su h21 34 (upd (h21 34) (((h21 33) 2)).toNatClampNeg x1)) C X hI w (wl_r34 rfl) i26 ws_r34 dX7_write_41 (fun H locs w => ?_)
      replace w := at_eq eh27 w
      refine lv_aload_n C.1 C.2.1 dX7_write_42 rfl (lv_at hl 0 rfl) ?_
      refine lv_dup C.1 C.2.1 dX7_write_43 rfl ?_
      refine gf_X7_63 C X w (rfl) dX7_write_44 ?_
      refine lv_iconst (v := 1) C.1 C.2.1 dX7_write_47 (by decide) ?_
      refine lv_iadd C.1 C.2.1 dX7_write_48 ?_
      obtain ⟨h28, eh28, hf⟩ := bd_e hf
      refine pf_X7_63 C X hI w dX7_write_49 (fun H locs w => ?_)
      replace w := at_eq eh28 w
      refine lv_aload_n C.1 C.2.1 dX7_write_52 rfl (lv_at hl 0 rfl) ?_
      refine gf_X7_63 C X w (rfl) dX7_write_53 ?_
      cases hf
      exact x_iret C hr hlk w dX7_write_56
    · rw [if_pos c25] at hf
      refine lv_bipush (v := -4) C.1 C.2.1 dX7_write_29 (by decide) ?_
      cases hf
      exact x_iret C hr hlk w dX7_write_31
  · rw [if_pos c24] at hf
    refine lv_bipush (v := -2) C.1 C.2.1 dX7_write_17 (by decide) ?_
    cases hf
    exact x_iret C hr hlk w dX7_write_19

def qX7_wipe (h : Hp) : Option (Int32 × Hp) :=
(bd (su h 33 (upd (h 33) 0 (0 : Int32))) (fun h21 =>
(bd (su h21 33 (upd (h21 33) 2 (0 : Int32))) (fun h22 =>
(some (((h21 33) 2), h22))))))
set_option maxHeartbeats 4000000 in
set_option maxRecDepth 100000 in
theorem c_X7_wipe {l : Launch} {E : Ev} {ad : Nat → Nat} {g : Gp} {h : Hp} {r : Int32} {h9 : Hp} (hI : Inj ad) (hf : qX7_wipe h = some (r, h9)) : CtI l yX7_wipe cX7_wipe 2 (some .int) 0 0 E ad g g [.ref (ad 141)] h h9 r := by
  refine x_begin (by decide) (Nat.le_of_ble_eq_true rfl) ?_
  intro p e s m below meth c ls C hr hlk X w hl
  replace hl : lv_has ls 2 [(0, .ref (ad 141))] := hl
  replace C : CallFix p m c cX7_wipe 2 s ([.ref (ad 141)] : List Value).toArray lwA RX7 := C
  unfold qX7_wipe at hf
  refine lv_aload_n C.1 C.2.1 dX7_wipe_0 rfl (lv_at hl 0 rfl) ?_
  refine lv_iconst (v := 0) C.1 C.2.1 dX7_wipe_1 (by decide) ?_
  obtain ⟨h21, eh21, hf⟩ := bd_e hf
  refine pf_X7_51 C X hI w dX7_wipe_2 (fun H locs w => ?_)
  replace w := at_eq eh21 w
  refine lv_aload_n C.1 C.2.1 dX7_wipe_5 rfl (lv_at hl 0 rfl) ?_
  refine gf_X7_63 C X w (rfl) dX7_wipe_6 ?_
  refine lv_istore_n (lv' := [(1, .int ((h21 33) 2)), (0, .ref (ad 141))]) C.1 C.2.1 dX7_wipe_9 rfl hl (by decide) rfl (fun ls hl => ?_)
  refine lv_aload_n C.1 C.2.1 dX7_wipe_10 rfl (lv_at hl 1 rfl) ?_
  refine lv_iconst (v := 0) C.1 C.2.1 dX7_wipe_11 (by decide) ?_
  obtain ⟨h22, eh22, hf⟩ := bd_e hf
  refine pf_X7_63 C X hI w dX7_wipe_12 (fun H locs w => ?_)
  replace w := at_eq eh22 w
  refine lv_iload_n C.1 C.2.1 dX7_wipe_15 rfl (lv_at hl 0 rfl) ?_
  cases hf
  exact x_iret C hr hlk w dX7_wipe_16

def qX7_figure (h : Hp) (x1 : Int32) (x2 : Int32) : Option (Int32 × Hp) :=
(if ((h 33) 3) = ((h 33) 2) then (some ((-9 : Int32), h))
else (ck (inb ((h 33) 3) 32) ((bi1 (qX7_in (((((h 34) (((h 33) 3)).toNatClampNeg) - (48 : Int32))).toInt64) ((x1).toInt64) ((x2).toInt64)) (fun r24 =>
(if r24 = 0 then (some ((-9 : Int32), h))
else (bd (su h 33 (upd (h 33) 3 (((h 33) 3) + (1 : Int32)))) (fun h26 =>
(ck (inb (((h26 33) 3) - (1 : Int32)) 32) ((some ((((h26 34) ((((h26 33) 3) - (1 : Int32))).toNatClampNeg) - (48 : Int32)), h26))))))))))))
set_option maxHeartbeats 4000000 in
set_option maxRecDepth 100000 in
theorem c_X7_figure {l : Launch} {E : Ev} {ad : Nat → Nat} {g : Gp} {h : Hp} {x1 : Int32} {x2 : Int32} {r : Int32} {h9 : Hp} (hI : Inj ad) (hf : qX7_figure h x1 x2 = some (r, h9)) : CtI l yX7_figure cX7_figure 3 (some .int) 1 25 E ad g g [.ref (ad 141), .int x1, .int x2] h h9 r := by
  refine x_begin (by decide) (Nat.le_of_ble_eq_true rfl) ?_
  intro p e s m below meth c ls C hr hlk X w hl
  replace hl : lv_has ls 3 [(0, .ref (ad 141)), (1, .int x1), (2, .int x2)] := hl
  replace C : CallFix p m c cX7_figure 3 s ([.ref (ad 141), .int x1, .int x2] : List Value).toArray lwA RX7 := C
  unfold qX7_figure at hf
  refine lv_aload_n C.1 C.2.1 dX7_figure_0 rfl (lv_at hl 0 rfl) ?_
  refine gf_X7_66 C X w (rfl) dX7_figure_1 ?_
  refine lv_aload_n C.1 C.2.1 dX7_figure_4 rfl (lv_at hl 0 rfl) ?_
  refine gf_X7_63 C X w (rfl) dX7_figure_5 ?_
  refine lv_icmp_eq (tgt := 34) C.1 C.2.1 dX7_figure_8 (by decide) (fun c21 => ?_) (fun c21 => ?_)
  · rw [if_pos c21] at hf
    refine lv_bipush (v := -9) C.1 C.2.1 dX7_figure_34 (by decide) ?_
    cases hf
    exact x_iret C hr hlk w dX7_figure_36
  · rw [if_neg c21] at hf
    refine lv_aload_n C.1 C.2.1 dX7_figure_11 rfl (lv_at hl 0 rfl) ?_
    refine gf_X7_7 C X w rfl dX7_figure_12 ?_
    refine lv_aload_n C.1 C.2.1 dX7_figure_15 rfl (lv_at hl 0 rfl) ?_
    refine gf_X7_66 C X w (rfl) dX7_figure_16 ?_
    obtain ⟨i22, hf⟩ := ck_e hf
    refine x_ild (v := (h 34) (((h 33) 3)).toNatClampNeg) C X w (wl_r34 (rfl)) i22 (rfl) dX7_figure_19 ?_
    refine lv_bipush (v := 48) C.1 C.2.1 dX7_figure_20 (by decide) ?_
    refine lv_isub C.1 C.2.1 dX7_figure_22 ?_
    refine lv_i2l (v := ((((h 34) (((h 33) 3)).toNatClampNeg) - (48 : Int32))).toInt64) C.1 C.2.1 dX7_figure_23 rfl ?_
    refine lv_iload_n C.1 C.2.1 dX7_figure_24 rfl (lv_at hl 1 rfl) ?_
    refine lv_i2l (v := (x1).toInt64) C.1 C.2.1 dX7_figure_25 rfl ?_
    refine lv_iload_n C.1 C.2.1 dX7_figure_26 rfl (lv_at hl 2 rfl) ?_
    refine lv_i2l (v := (x2).toInt64) C.1 C.2.1 dX7_figure_27 rfl ?_
    obtain ⟨r24, eq23, hf⟩ := bi1_e hf
    refine x_cSi (As := [.long (((((h 34) (((h 33) 3)).toNatClampNeg) - (48 : Int32))).toInt64), .long ((x1).toInt64), .long ((x2).toInt64)]) (rest := []) C X w (c_X7_in hI  eq23) mw_X7_in ml_X7_57 rfl hl.1 rfl (Nat.le_of_ble_eq_true rfl) ⟨⟨Nat.le_of_ble_eq_true rfl, Nat.le_of_ble_eq_true rfl⟩, Nat.le_of_ble_eq_true rfl, Nat.le_of_ble_eq_true rfl⟩ dX7_figure_28 (fun H locs w => ?_)
    refine lv_if_ne (tgt := 37) C.1 C.2.1 dX7_figure_31 (by decide) (fun c25 => ?_) (fun c25 => ?_)
    · rw [if_neg c25] at hf
      refine lv_aload_n C.1 C.2.1 dX7_figure_37 rfl (lv_at hl 0 rfl) ?_
      refine lv_dup C.1 C.2.1 dX7_figure_38 rfl ?_
      refine gf_X7_66 C X w (rfl) dX7_figure_39 ?_
      refine lv_iconst (v := 1) C.1 C.2.1 dX7_figure_42 (by decide) ?_
      refine lv_iadd C.1 C.2.1 dX7_figure_43 ?_
      obtain ⟨h26, eh26, hf⟩ := bd_e hf
      refine pf_X7_66 C X hI w dX7_figure_44 (fun H locs w => ?_)
      replace w := at_eq eh26 w
      refine lv_aload_n C.1 C.2.1 dX7_figure_47 rfl (lv_at hl 0 rfl) ?_
      refine gf_X7_7 C X w rfl dX7_figure_48 ?_
      refine lv_aload_n C.1 C.2.1 dX7_figure_51 rfl (lv_at hl 0 rfl) ?_
      refine gf_X7_66 C X w (rfl) dX7_figure_52 ?_
      refine lv_iconst (v := 1) C.1 C.2.1 dX7_figure_55 (by decide) ?_
      refine lv_isub C.1 C.2.1 dX7_figure_56 ?_
      obtain ⟨i27, hf⟩ := ck_e hf
      refine x_ild (v := (h26 34) ((((h26 33) 3) - (1 : Int32))).toNatClampNeg) C X w (wl_r34 (rfl)) i27 (rfl) dX7_figure_57 ?_
      refine lv_bipush (v := 48) C.1 C.2.1 dX7_figure_58 (by decide) ?_
      refine lv_isub C.1 C.2.1 dX7_figure_60 ?_
      cases hf
      exact x_iret C hr hlk w dX7_figure_61
    · rw [if_pos c25] at hf
      refine lv_bipush (v := -9) C.1 C.2.1 dX7_figure_34 (by decide) ?_
      cases hf
      exact x_iret C hr hlk w dX7_figure_36

def qX7_readHead_56 (h : Hp) (s1 : Int32) : Option (Int32 × Hp) :=
(bd (su h 33 (upd (h 33) 9 s1)) (fun h34 =>
(if ((h34 33) 9) = (-9 : Int32) then (some ((0 : Int32), h34))
else (some ((1 : Int32), h34)))))
set_option maxHeartbeats 4000000 in
set_option maxRecDepth 100000 in
theorem w_X7_readHead_56 {p : Program} {l : Launch} {e : Env} {s : State} {m : MethodId} {args : Array Value} {below : List Frame} {meth : Method} {c : Code} {E : Ev} {ad : Nat → Nat} {g : Gp} {r : Int32} {h9 : Hp} (C : CallFix p m c cX7_readHead 1 s args lwA RX7) (hr : meth.sig.returnType = (some .boolean)) (hlk : meth.locks = false) (X : Sx E ad s) (hI : Inj ad)  : ∀ (h : Hp) (s1 : Int32) (H : Heap) (locs : List Loc) (ls : Array Slot), At E ad h g s H locs → lv_has ls 1 [(0, .ref (ad 141))] → qX7_readHead_56 h s1 = some (r, h9) → W p l e (RM 2 47) s m args below meth c H locs 0 0 (QI E ad h9 g r below args s) (F0 m 56 ls [.int s1, .ref (ad 141)]) := by
  intro h s1 H locs ls w hl hf
  unfold qX7_readHead_56 at hf
  obtain ⟨h34, eh34, hf⟩ := bd_e hf
  refine pf_X7_19 C X hI w dX7_readHead_56 (fun H locs w => ?_)
  replace w := at_eq eh34 w
  refine lv_aload_n C.1 C.2.1 dX7_readHead_59 rfl (lv_at hl 0 rfl) ?_
  refine gf_X7_19 C X w (rfl) dX7_readHead_60 ?_
  refine lv_bipush (v := -9) C.1 C.2.1 dX7_readHead_63 (by decide) ?_
  refine lv_icmp_eq (tgt := 72) C.1 C.2.1 dX7_readHead_65 (by decide) (fun c35 => ?_) (fun c35 => ?_)
  · rw [if_pos c35] at hf
    refine lv_iconst (v := 0) C.1 C.2.1 dX7_readHead_72 (by decide) ?_
    cases hf
    exact x_zret C hr hlk w rfl dX7_readHead_73
  · rw [if_neg c35] at hf
    refine lv_iconst (v := 1) C.1 C.2.1 dX7_readHead_68 (by decide) ?_
    refine lv_goto (tgt := 73) C.1 C.2.1 dX7_readHead_69 (by decide) ?_
    cases hf
    exact x_zret C hr hlk w rfl dX7_readHead_73
def qX7_readHead_32 (h : Hp) (s1 : Int32) : Option (Int32 × Hp) :=
(bd (su h 33 (upd (h 33) 8 s1)) (fun h29 =>
(if ((h29 33) 8) = (-9 : Int32) then (qX7_readHead_56 h29 (-9 : Int32))
else (bi2 (qX7_figure h29 (1 : Int32) (2 : Int32)) (fun r32 h33 =>
(qX7_readHead_56 h33 r32))))))
set_option maxHeartbeats 4000000 in
set_option maxRecDepth 100000 in
theorem w_X7_readHead_32 {p : Program} {l : Launch} {e : Env} {s : State} {m : MethodId} {args : Array Value} {below : List Frame} {meth : Method} {c : Code} {E : Ev} {ad : Nat → Nat} {g : Gp} {r : Int32} {h9 : Hp} (C : CallFix p m c cX7_readHead 1 s args lwA RX7) (hr : meth.sig.returnType = (some .boolean)) (hlk : meth.locks = false) (X : Sx E ad s) (hI : Inj ad)  : ∀ (h : Hp) (s1 : Int32) (H : Heap) (locs : List Loc) (ls : Array Slot), At E ad h g s H locs → lv_has ls 1 [(0, .ref (ad 141))] → qX7_readHead_32 h s1 = some (r, h9) → W p l e (RM 2 47) s m args below meth c H locs 0 0 (QI E ad h9 g r below args s) (F0 m 32 ls [.int s1, .ref (ad 141)]) := by
  intro h s1 H locs ls w hl hf
  unfold qX7_readHead_32 at hf
  obtain ⟨h29, eh29, hf⟩ := bd_e hf
  refine pf_X7_76 C X hI w dX7_readHead_32 (fun H locs w => ?_)
  replace w := at_eq eh29 w
  refine lv_aload_n C.1 C.2.1 dX7_readHead_35 rfl (lv_at hl 0 rfl) ?_
  refine lv_aload_n C.1 C.2.1 dX7_readHead_36 rfl (lv_at hl 0 rfl) ?_
  refine gf_X7_76 C X w (rfl) dX7_readHead_37 ?_
  refine lv_bipush (v := -9) C.1 C.2.1 dX7_readHead_40 (by decide) ?_
  refine lv_icmp_ne (tgt := 50) C.1 C.2.1 dX7_readHead_42 (by decide) (fun c30 => ?_) (fun c30 => ?_)
  · rw [if_neg c30] at hf
    refine lv_aload_n C.1 C.2.1 dX7_readHead_50 rfl (lv_at hl 0 rfl) ?_
    refine lv_iconst (v := 1) C.1 C.2.1 dX7_readHead_51 (by decide) ?_
    refine lv_iconst (v := 2) C.1 C.2.1 dX7_readHead_52 (by decide) ?_
    obtain ⟨r32, h33, eq31, hf⟩ := bi2_e hf
    refine x_cVi (As := [.int (1 : Int32), .int (2 : Int32)]) (rest := [.ref (ad 141)]) C X w (c_X7_figure hI eq31) mw_X7_figure ml_X7_69 rcv_r33 rfl hl.1 rfl (Nat.le_of_ble_eq_true rfl) ⟨⟨Nat.le_of_ble_eq_true rfl, Nat.le_of_ble_eq_true rfl⟩, Nat.le_of_ble_eq_true rfl, Nat.le_of_ble_eq_true rfl⟩ dX7_readHead_53 (fun H locs w => ?_)
    exact w_X7_readHead_56 C hr hlk X hI _ _ _ _ _ w (lv_sub hl [0] rfl) hf
  · rw [if_pos c30] at hf
    refine lv_bipush (v := -9) C.1 C.2.1 dX7_readHead_45 (by decide) ?_
    refine lv_goto (tgt := 56) C.1 C.2.1 dX7_readHead_47 (by decide) ?_
    exact w_X7_readHead_56 C hr hlk X hI _ _ _ _ _ w (lv_sub hl [0] rfl) hf
def qX7_readHead (h : Hp) : Option (Int32 × Hp) :=
(bi2 (qX7_figure h (0 : Int32) (3 : Int32)) (fun r22 h23 =>
(bd (su h23 33 (upd (h23 33) 7 r22)) (fun h24 =>
(if ((h24 33) 7) = (-9 : Int32) then (qX7_readHead_32 h24 (-9 : Int32))
else (bi2 (qX7_figure h24 (1 : Int32) (9 : Int32)) (fun r27 h28 =>
(qX7_readHead_32 h28 r27))))))))
set_option maxHeartbeats 4000000 in
set_option maxRecDepth 100000 in
theorem c_X7_readHead {l : Launch} {E : Ev} {ad : Nat → Nat} {g : Gp} {h : Hp} {r : Int32} {h9 : Hp} (hI : Inj ad) (hf : qX7_readHead h = some (r, h9)) : CtI l yX7_readHead cX7_readHead 1 (some .boolean) 2 47 E ad g g [.ref (ad 141)] h h9 r := by
  refine x_begin (by decide) (Nat.le_of_ble_eq_true rfl) ?_
  intro p e s m below meth c ls C hr hlk X w hl
  replace hl : lv_has ls 1 [(0, .ref (ad 141))] := hl
  replace C : CallFix p m c cX7_readHead 1 s ([.ref (ad 141)] : List Value).toArray lwA RX7 := C
  unfold qX7_readHead at hf
  refine lv_aload_n C.1 C.2.1 dX7_readHead_0 rfl (lv_at hl 0 rfl) ?_
  refine lv_aload_n C.1 C.2.1 dX7_readHead_1 rfl (lv_at hl 0 rfl) ?_
  refine lv_iconst (v := 0) C.1 C.2.1 dX7_readHead_2 (by decide) ?_
  refine lv_iconst (v := 3) C.1 C.2.1 dX7_readHead_3 (by decide) ?_
  obtain ⟨r22, h23, eq21, hf⟩ := bi2_e hf
  refine x_cVi (As := [.int (0 : Int32), .int (3 : Int32)]) (rest := [.ref (ad 141)]) C X w (c_X7_figure hI eq21) mw_X7_figure ml_X7_69 rcv_r33 rfl hl.1 rfl (Nat.le_of_ble_eq_true rfl) ⟨⟨Nat.le_of_ble_eq_true rfl, Nat.le_of_ble_eq_true rfl⟩, Nat.le_of_ble_eq_true rfl, Nat.le_of_ble_eq_true rfl⟩ dX7_readHead_4 (fun H locs w => ?_)
  obtain ⟨h24, eh24, hf⟩ := bd_e hf
  refine pf_X7_73 C X hI w dX7_readHead_7 (fun H locs w => ?_)
  replace w := at_eq eh24 w
  refine lv_aload_n C.1 C.2.1 dX7_readHead_10 rfl (lv_at hl 0 rfl) ?_
  refine lv_aload_n C.1 C.2.1 dX7_readHead_11 rfl (lv_at hl 0 rfl) ?_
  refine gf_X7_73 C X w (rfl) dX7_readHead_12 ?_
  refine lv_bipush (v := -9) C.1 C.2.1 dX7_readHead_15 (by decide) ?_
  refine lv_icmp_ne (tgt := 25) C.1 C.2.1 dX7_readHead_17 (by decide) (fun c25 => ?_) (fun c25 => ?_)
  · rw [if_neg c25] at hf
    refine lv_aload_n C.1 C.2.1 dX7_readHead_25 rfl (lv_at hl 0 rfl) ?_
    refine lv_iconst (v := 1) C.1 C.2.1 dX7_readHead_26 (by decide) ?_
    refine lv_bipush (v := 9) C.1 C.2.1 dX7_readHead_27 (by decide) ?_
    obtain ⟨r27, h28, eq26, hf⟩ := bi2_e hf
    refine x_cVi (As := [.int (1 : Int32), .int (9 : Int32)]) (rest := [.ref (ad 141)]) C X w (c_X7_figure hI eq26) mw_X7_figure ml_X7_69 rcv_r33 rfl hl.1 rfl (Nat.le_of_ble_eq_true rfl) ⟨⟨Nat.le_of_ble_eq_true rfl, Nat.le_of_ble_eq_true rfl⟩, Nat.le_of_ble_eq_true rfl, Nat.le_of_ble_eq_true rfl⟩ dX7_readHead_29 (fun H locs w => ?_)
    exact w_X7_readHead_32 C hr hlk X hI _ _ _ _ _ w (lv_sub hl [0] rfl) hf
  · rw [if_pos c25] at hf
    refine lv_bipush (v := -9) C.1 C.2.1 dX7_readHead_20 (by decide) ?_
    refine lv_goto (tgt := 32) C.1 C.2.1 dX7_readHead_22 (by decide) ?_
    exact w_X7_readHead_32 C hr hlk X hI _ _ _ _ _ w (lv_sub hl [0] rfl) hf

def qX7_readOne_44 (h : Hp) (v1 : Int32) (v2 : Int32) (s0 : Int32) : Option (Int32 × Hp) :=
(if s0 = (-9 : Int32) then (some ((0 : Int32), h))
else (ck (inb ((3 : Int32) * ((h 33) 10)) 15) (bd (su h 37 (upd (h 37) (((3 : Int32) * ((h 33) 10))).toNatClampNeg v1)) (fun h34 =>
(ck (inb (((3 : Int32) * ((h34 33) 10)) + (1 : Int32)) 15) (bd (su h34 37 (upd (h34 37) ((((3 : Int32) * ((h34 33) 10)) + (1 : Int32))).toNatClampNeg v2)) (fun h36 =>
(ck (inb (((3 : Int32) * ((h36 33) 10)) + (2 : Int32)) 15) (bd (su h36 37 (upd (h36 37) ((((3 : Int32) * ((h36 33) 10)) + (2 : Int32))).toNatClampNeg s0)) (fun h38 =>
(bd (su h38 33 (upd (h38 33) 10 (((h38 33) 10) + (1 : Int32)))) (fun h39 =>
(some ((1 : Int32), h39))))))))))))))
set_option maxHeartbeats 4000000 in
set_option maxRecDepth 100000 in
theorem w_X7_readOne_44 {p : Program} {l : Launch} {e : Env} {s : State} {m : MethodId} {args : Array Value} {below : List Frame} {meth : Method} {c : Code} {E : Ev} {ad : Nat → Nat} {g : Gp} {r : Int32} {h9 : Hp} (C : CallFix p m c cX7_readOne 4 s args lwA RX7) (hr : meth.sig.returnType = (some .boolean)) (hlk : meth.locks = false) (X : Sx E ad s) (hI : Inj ad)  : ∀ (h : Hp) (v1 : Int32) (v2 : Int32) (s0 : Int32) (H : Heap) (locs : List Loc) (ls : Array Slot), At E ad h g s H locs → lv_has ls 4 [(0, .ref (ad 141)), (1, .int v1), (2, .int v2)] → qX7_readOne_44 h v1 v2 s0 = some (r, h9) → W p l e (RM 2 47) s m args below meth c H locs 0 0 (QI E ad h9 g r below args s) (F0 m 44 ls [.int s0]) := by
  intro h v1 v2 s0 H locs ls w hl hf
  unfold qX7_readOne_44 at hf
  refine lv_istore_n (lv' := [(3, .int s0), (0, .ref (ad 141)), (1, .int v1), (2, .int v2)]) C.1 C.2.1 dX7_readOne_44 rfl hl (by decide) rfl (fun ls hl => ?_)
  refine lv_iload_n C.1 C.2.1 dX7_readOne_45 rfl (lv_at hl 0 rfl) ?_
  refine lv_bipush (v := -9) C.1 C.2.1 dX7_readOne_46 (by decide) ?_
  refine lv_icmp_ne (tgt := 53) C.1 C.2.1 dX7_readOne_48 (by decide) (fun c32 => ?_) (fun c32 => ?_)
  · rw [if_neg c32] at hf
    refine lv_aload_n C.1 C.2.1 dX7_readOne_53 rfl (lv_at hl 1 rfl) ?_
    refine gf_X7_23 C X w rfl dX7_readOne_54 ?_
    refine lv_iconst (v := 3) C.1 C.2.1 dX7_readOne_57 (by decide) ?_
    refine lv_aload_n C.1 C.2.1 dX7_readOne_58 rfl (lv_at hl 1 rfl) ?_
    refine gf_X7_79 C X w (rfl) dX7_readOne_59 ?_
    refine lv_imul C.1 C.2.1 dX7_readOne_62 ?_
    refine lv_iload_n C.1 C.2.1 dX7_readOne_63 rfl (lv_at hl 2 rfl) ?_
    obtain ⟨i33, hf⟩ := ck_e hf
    obtain ⟨h34, eh34, hf⟩ := bd_e hf
    refine x_ist (h2 := su h 37 (upd (h 37) (((3 : Int32) * ((h 33) 10))).toNatClampNeg v1)) C X hI w (wl_r37 rfl) i33 ws_r37 dX7_readOne_64 (fun H locs w => ?_)
    replace w := at_eq eh34 w
    refine lv_aload_n C.1 C.2.1 dX7_readOne_65 rfl (lv_at hl 1 rfl) ?_
    refine gf_X7_23 C X w rfl dX7_readOne_66 ?_
    refine lv_iconst (v := 3) C.1 C.2.1 dX7_readOne_69 (by decide) ?_
    refine lv_aload_n C.1 C.2.1 dX7_readOne_70 rfl (lv_at hl 1 rfl) ?_
    refine gf_X7_79 C X w (rfl) dX7_readOne_71 ?_
    refine lv_imul C.1 C.2.1 dX7_readOne_74 ?_
    refine lv_iconst (v := 1) C.1 C.2.1 dX7_readOne_75 (by decide) ?_
    refine lv_iadd C.1 C.2.1 dX7_readOne_76 ?_
    refine lv_iload_n C.1 C.2.1 dX7_readOne_77 rfl (lv_at hl 3 rfl) ?_
    obtain ⟨i35, hf⟩ := ck_e hf
    obtain ⟨h36, eh36, hf⟩ := bd_e hf
    refine x_ist (h2 := su h34 37 (upd (h34 37) ((((3 : Int32) * ((h34 33) 10)) + (1 : Int32))).toNatClampNeg v2)) C X hI w (wl_r37 rfl) i35 ws_r37 dX7_readOne_78 (fun H locs w => ?_)
    replace w := at_eq eh36 w
    refine lv_aload_n C.1 C.2.1 dX7_readOne_79 rfl (lv_at hl 1 rfl) ?_
    refine gf_X7_23 C X w rfl dX7_readOne_80 ?_
    refine lv_iconst (v := 3) C.1 C.2.1 dX7_readOne_83 (by decide) ?_
    refine lv_aload_n C.1 C.2.1 dX7_readOne_84 rfl (lv_at hl 1 rfl) ?_
    refine gf_X7_79 C X w (rfl) dX7_readOne_85 ?_
    refine lv_imul C.1 C.2.1 dX7_readOne_88 ?_
    refine lv_iconst (v := 2) C.1 C.2.1 dX7_readOne_89 (by decide) ?_
    refine lv_iadd C.1 C.2.1 dX7_readOne_90 ?_
    refine lv_iload_n C.1 C.2.1 dX7_readOne_91 rfl (lv_at hl 0 rfl) ?_
    obtain ⟨i37, hf⟩ := ck_e hf
    obtain ⟨h38, eh38, hf⟩ := bd_e hf
    refine x_ist (h2 := su h36 37 (upd (h36 37) ((((3 : Int32) * ((h36 33) 10)) + (2 : Int32))).toNatClampNeg s0)) C X hI w (wl_r37 rfl) i37 ws_r37 dX7_readOne_92 (fun H locs w => ?_)
    replace w := at_eq eh38 w
    refine lv_aload_n C.1 C.2.1 dX7_readOne_93 rfl (lv_at hl 1 rfl) ?_
    refine lv_dup C.1 C.2.1 dX7_readOne_94 rfl ?_
    refine gf_X7_79 C X w (rfl) dX7_readOne_95 ?_
    refine lv_iconst (v := 1) C.1 C.2.1 dX7_readOne_98 (by decide) ?_
    refine lv_iadd C.1 C.2.1 dX7_readOne_99 ?_
    obtain ⟨h39, eh39, hf⟩ := bd_e hf
    refine pf_X7_79 C X hI w dX7_readOne_100 (fun H locs w => ?_)
    replace w := at_eq eh39 w
    refine lv_iconst (v := 1) C.1 C.2.1 dX7_readOne_103 (by decide) ?_
    cases hf
    exact x_zret C hr hlk w rfl dX7_readOne_104
  · rw [if_pos c32] at hf
    refine lv_iconst (v := 0) C.1 C.2.1 dX7_readOne_51 (by decide) ?_
    cases hf
    exact x_zret C hr hlk w rfl dX7_readOne_52
def qX7_readOne_26 (h : Hp) (v1 : Int32) (s0 : Int32) : Option (Int32 × Hp) :=
(if s0 = (-9 : Int32) then (qX7_readOne_44 h v1 s0 (-9 : Int32))
else (bi2 (qX7_figure h (0 : Int32) (3 : Int32)) (fun r30 h31 =>
(qX7_readOne_44 h31 v1 s0 r30))))
set_option maxHeartbeats 4000000 in
set_option maxRecDepth 100000 in
theorem w_X7_readOne_26 {p : Program} {l : Launch} {e : Env} {s : State} {m : MethodId} {args : Array Value} {below : List Frame} {meth : Method} {c : Code} {E : Ev} {ad : Nat → Nat} {g : Gp} {r : Int32} {h9 : Hp} (C : CallFix p m c cX7_readOne 4 s args lwA RX7) (hr : meth.sig.returnType = (some .boolean)) (hlk : meth.locks = false) (X : Sx E ad s) (hI : Inj ad)  : ∀ (h : Hp) (v1 : Int32) (s0 : Int32) (H : Heap) (locs : List Loc) (ls : Array Slot), At E ad h g s H locs → lv_has ls 4 [(0, .ref (ad 141)), (1, .int v1)] → qX7_readOne_26 h v1 s0 = some (r, h9) → W p l e (RM 2 47) s m args below meth c H locs 0 0 (QI E ad h9 g r below args s) (F0 m 26 ls [.int s0]) := by
  intro h v1 s0 H locs ls w hl hf
  unfold qX7_readOne_26 at hf
  refine lv_istore_n (lv' := [(2, .int s0), (0, .ref (ad 141)), (1, .int v1)]) C.1 C.2.1 dX7_readOne_26 rfl hl (by decide) rfl (fun ls hl => ?_)
  refine lv_iload_n C.1 C.2.1 dX7_readOne_27 rfl (lv_at hl 0 rfl) ?_
  refine lv_bipush (v := -9) C.1 C.2.1 dX7_readOne_28 (by decide) ?_
  refine lv_icmp_ne (tgt := 38) C.1 C.2.1 dX7_readOne_30 (by decide) (fun c28 => ?_) (fun c28 => ?_)
  · rw [if_neg c28] at hf
    refine lv_aload_n C.1 C.2.1 dX7_readOne_38 rfl (lv_at hl 1 rfl) ?_
    refine lv_iconst (v := 0) C.1 C.2.1 dX7_readOne_39 (by decide) ?_
    refine lv_iconst (v := 3) C.1 C.2.1 dX7_readOne_40 (by decide) ?_
    obtain ⟨r30, h31, eq29, hf⟩ := bi2_e hf
    refine x_cVi (As := [.int (0 : Int32), .int (3 : Int32)]) (rest := []) C X w (c_X7_figure hI eq29) mw_X7_figure ml_X7_69 rcv_r33 rfl hl.1 rfl (Nat.le_of_ble_eq_true rfl) ⟨⟨Nat.le_of_ble_eq_true rfl, Nat.le_of_ble_eq_true rfl⟩, Nat.le_of_ble_eq_true rfl, Nat.le_of_ble_eq_true rfl⟩ dX7_readOne_41 (fun H locs w => ?_)
    exact w_X7_readOne_44 C hr hlk X hI _ _ _ _ _ _ _ w (lv_sub hl [1, 2, 0] rfl) hf
  · rw [if_pos c28] at hf
    refine lv_bipush (v := -9) C.1 C.2.1 dX7_readOne_33 (by decide) ?_
    refine lv_goto (tgt := 44) C.1 C.2.1 dX7_readOne_35 (by decide) ?_
    exact w_X7_readOne_44 C hr hlk X hI _ _ _ _ _ _ _ w (lv_sub hl [1, 2, 0] rfl) hf
def qX7_readOne (h : Hp) : Option (Int32 × Hp) :=
(bi2 (qX7_figure h (0 : Int32) (9 : Int32)) (fun r22 h23 =>
(if r22 = (-9 : Int32) then (qX7_readOne_26 h23 r22 (-9 : Int32))
else (bi2 (qX7_figure h23 (1 : Int32) (9 : Int32)) (fun r26 h27 =>
(qX7_readOne_26 h27 r22 r26))))))
set_option maxHeartbeats 4000000 in
set_option maxRecDepth 100000 in
theorem c_X7_readOne {l : Launch} {E : Ev} {ad : Nat → Nat} {g : Gp} {h : Hp} {r : Int32} {h9 : Hp} (hI : Inj ad) (hf : qX7_readOne h = some (r, h9)) : CtI l yX7_readOne cX7_readOne 4 (some .boolean) 2 47 E ad g g [.ref (ad 141)] h h9 r := by
  refine x_begin (by decide) (Nat.le_of_ble_eq_true rfl) ?_
  intro p e s m below meth c ls C hr hlk X w hl
  replace hl : lv_has ls 4 [(0, .ref (ad 141))] := hl
  replace C : CallFix p m c cX7_readOne 4 s ([.ref (ad 141)] : List Value).toArray lwA RX7 := C
  unfold qX7_readOne at hf
  refine lv_aload_n C.1 C.2.1 dX7_readOne_0 rfl (lv_at hl 0 rfl) ?_
  refine lv_iconst (v := 0) C.1 C.2.1 dX7_readOne_1 (by decide) ?_
  refine lv_bipush (v := 9) C.1 C.2.1 dX7_readOne_2 (by decide) ?_
  obtain ⟨r22, h23, eq21, hf⟩ := bi2_e hf
  refine x_cVi (As := [.int (0 : Int32), .int (9 : Int32)]) (rest := []) C X w (c_X7_figure hI eq21) mw_X7_figure ml_X7_69 rcv_r33 rfl hl.1 rfl (Nat.le_of_ble_eq_true rfl) ⟨⟨Nat.le_of_ble_eq_true rfl, Nat.le_of_ble_eq_true rfl⟩, Nat.le_of_ble_eq_true rfl, Nat.le_of_ble_eq_true rfl⟩ dX7_readOne_4 (fun H locs w => ?_)
  refine lv_istore_n (lv' := [(1, .int r22), (0, .ref (ad 141))]) C.1 C.2.1 dX7_readOne_7 rfl hl (by decide) rfl (fun ls hl => ?_)
  refine lv_iload_n C.1 C.2.1 dX7_readOne_8 rfl (lv_at hl 0 rfl) ?_
  refine lv_bipush (v := -9) C.1 C.2.1 dX7_readOne_9 (by decide) ?_
  refine lv_icmp_ne (tgt := 19) C.1 C.2.1 dX7_readOne_11 (by decide) (fun c24 => ?_) (fun c24 => ?_)
  · rw [if_neg c24] at hf
    refine lv_aload_n C.1 C.2.1 dX7_readOne_19 rfl (lv_at hl 1 rfl) ?_
    refine lv_iconst (v := 1) C.1 C.2.1 dX7_readOne_20 (by decide) ?_
    refine lv_bipush (v := 9) C.1 C.2.1 dX7_readOne_21 (by decide) ?_
    obtain ⟨r26, h27, eq25, hf⟩ := bi2_e hf
    refine x_cVi (As := [.int (1 : Int32), .int (9 : Int32)]) (rest := []) C X w (c_X7_figure hI eq25) mw_X7_figure ml_X7_69 rcv_r33 rfl hl.1 rfl (Nat.le_of_ble_eq_true rfl) ⟨⟨Nat.le_of_ble_eq_true rfl, Nat.le_of_ble_eq_true rfl⟩, Nat.le_of_ble_eq_true rfl, Nat.le_of_ble_eq_true rfl⟩ dX7_readOne_23 (fun H locs w => ?_)
    exact w_X7_readOne_26 C hr hlk X hI _ _ _ _ _ _ w (lv_sub hl [1, 0] rfl) hf
  · rw [if_pos c24] at hf
    refine lv_bipush (v := -9) C.1 C.2.1 dX7_readOne_14 (by decide) ?_
    refine lv_goto (tgt := 26) C.1 C.2.1 dX7_readOne_16 (by decide) ?_
    exact w_X7_readOne_26 C hr hlk X hI _ _ _ _ _ _ w (lv_sub hl [1, 0] rfl) hf

def qX7_readGarden_47 : Nat → Hp → Option (Int32 × Hp)
  | 0, _ => none
  | n + 1, h =>
    (if ((h 33) 2) ≤ ((h 33) 3) then (some ((-9 : Int32), h))
    else (ck (inb ((h 33) 3) 32) ((if ((h 34) (((h 33) 3)).toNatClampNeg) = (67 : Int32) then (if ((h 33) 10) = (5 : Int32) then (some (((h 33) 3), h))
    else (bd (su h 33 (upd (h 33) 3 (((h 33) 3) + (1 : Int32)))) (fun h34 =>
    (bi2 (qX7_readOne h34) (fun r36 h37 =>
    (if r36 = 0 then (some (((h37 33) 3), h37))
    else (qX7_readGarden_47 n h37)))))))
    else (some (((h 33) 3), h))))))
set_option maxHeartbeats 4000000 in
set_option maxRecDepth 100000 in
theorem w_X7_readGarden_47 {p : Program} {l : Launch} {e : Env} {s : State} {m : MethodId} {args : Array Value} {below : List Frame} {meth : Method} {c : Code} {E : Ev} {ad : Nat → Nat} {g : Gp} {r : Int32} {h9 : Hp} (C : CallFix p m c cX7_readGarden 1 s args lwA RX7) (hr : meth.sig.returnType = (some .int)) (hlk : meth.locks = false) (X : Sx E ad s) (hI : Inj ad)  : ∀ (n : Nat), ∀ (h : Hp) (H : Heap) (locs : List Loc) (ls : Array Slot), At E ad h g s H locs → lv_has ls 1 [(0, .ref (ad 141))] → qX7_readGarden_47 n h = some (r, h9) → W p l e (RM 3 70) s m args below meth c H locs 0 0 (QI E ad h9 g r below args s) (F0 m 47 ls []) := by
  intro n
  induction n with
  | zero =>
    intro h H locs ls w hl hf
    cases hf
  | succ n ih =>
    intro h H locs ls w hl hf
    rw [qX7_readGarden_47] at hf
    refine lv_aload_n C.1 C.2.1 dX7_readGarden_47 rfl (lv_at hl 0 rfl) ?_
    refine gf_X7_66 C X w (rfl) dX7_readGarden_48 ?_
    refine lv_aload_n C.1 C.2.1 dX7_readGarden_51 rfl (lv_at hl 0 rfl) ?_
    refine gf_X7_63 C X w (rfl) dX7_readGarden_52 ?_
    refine lv_icmp_ge (tgt := 107) C.1 C.2.1 dX7_readGarden_55 (by decide) (fun c30 => ?_) (fun c30 => ?_)
    · rw [if_pos c30] at hf
      refine lv_bipush (v := -9) C.1 C.2.1 dX7_readGarden_107 (by decide) ?_
      cases hf
      exact x_iret C hr hlk w dX7_readGarden_109
    · rw [if_neg c30] at hf
      refine lv_aload_n C.1 C.2.1 dX7_readGarden_58 rfl (lv_at hl 0 rfl) ?_
      refine gf_X7_7 C X w rfl dX7_readGarden_59 ?_
      refine lv_aload_n C.1 C.2.1 dX7_readGarden_62 rfl (lv_at hl 0 rfl) ?_
      refine gf_X7_66 C X w (rfl) dX7_readGarden_63 ?_
      obtain ⟨i31, hf⟩ := ck_e hf
      refine x_ild (v := (h 34) (((h 33) 3)).toNatClampNeg) C X w (wl_r34 (rfl)) i31 (rfl) dX7_readGarden_66 ?_
      refine lv_bipush (v := 67) C.1 C.2.1 dX7_readGarden_67 (by decide) ?_
      refine lv_icmp_ne (tgt := 80) C.1 C.2.1 dX7_readGarden_69 (by decide) (fun c32 => ?_) (fun c32 => ?_)
      · rw [if_neg c32] at hf
        refine lv_aload_n C.1 C.2.1 dX7_readGarden_80 rfl (lv_at hl 0 rfl) ?_
        refine gf_X7_66 C X w (rfl) dX7_readGarden_81 ?_
        cases hf
        exact x_iret C hr hlk w dX7_readGarden_84
      · rw [if_pos c32] at hf
        refine lv_aload_n C.1 C.2.1 dX7_readGarden_72 rfl (lv_at hl 0 rfl) ?_
        refine gf_X7_79 C X w (rfl) dX7_readGarden_73 ?_
        refine lv_iconst (v := 5) C.1 C.2.1 dX7_readGarden_76 (by decide) ?_
        refine lv_icmp_ne (tgt := 85) C.1 C.2.1 dX7_readGarden_77 (by decide) (fun c33 => ?_) (fun c33 => ?_)
        · rw [if_neg c33] at hf
          refine lv_aload_n C.1 C.2.1 dX7_readGarden_85 rfl (lv_at hl 0 rfl) ?_
          refine lv_dup C.1 C.2.1 dX7_readGarden_86 rfl ?_
          refine gf_X7_66 C X w (rfl) dX7_readGarden_87 ?_
          refine lv_iconst (v := 1) C.1 C.2.1 dX7_readGarden_90 (by decide) ?_
          refine lv_iadd C.1 C.2.1 dX7_readGarden_91 ?_
          obtain ⟨h34, eh34, hf⟩ := bd_e hf
          refine pf_X7_66 C X hI w dX7_readGarden_92 (fun H locs w => ?_)
          replace w := at_eq eh34 w
          refine lv_aload_n C.1 C.2.1 dX7_readGarden_95 rfl (lv_at hl 0 rfl) ?_
          obtain ⟨r36, h37, eq35, hf⟩ := bi2_e hf
          refine x_cVi (As := []) (rest := []) C X w (c_X7_readOne hI eq35) mw_X7_readOne ml_X7_86 rcv_r33 rfl hl.1 rfl (Nat.le_of_ble_eq_true rfl) ⟨⟨Nat.le_of_ble_eq_true rfl, Nat.le_of_ble_eq_true rfl⟩, Nat.le_of_ble_eq_true rfl, Nat.le_of_ble_eq_true rfl⟩ dX7_readGarden_96 (fun H locs w => ?_)
          refine lv_if_ne (tgt := 47) C.1 C.2.1 dX7_readGarden_99 (by decide) (fun c38 => ?_) (fun c38 => ?_)
          · rw [if_neg c38] at hf
            exact ih _ _ _ _ w (lv_sub hl [0] rfl) hf
          · rw [if_pos c38] at hf
            refine lv_aload_n C.1 C.2.1 dX7_readGarden_102 rfl (lv_at hl 0 rfl) ?_
            refine gf_X7_66 C X w (rfl) dX7_readGarden_103 ?_
            cases hf
            exact x_iret C hr hlk w dX7_readGarden_106
        · rw [if_pos c33] at hf
          refine lv_aload_n C.1 C.2.1 dX7_readGarden_80 rfl (lv_at hl 0 rfl) ?_
          refine gf_X7_66 C X w (rfl) dX7_readGarden_81 ?_
          cases hf
          exact x_iret C hr hlk w dX7_readGarden_84
def qX7_readGarden (h : Hp) : Option (Int32 × Hp) :=
(bd (su h 33 (upd (h 33) 3 (0 : Int32))) (fun h21 =>
(bd (su h21 33 (upd (h21 33) 10 (0 : Int32))) (fun h22 =>
(if ((h22 33) 2) = 0 then (some ((0 : Int32), h22))
else (if ((h22 34) 0) = (84 : Int32) then (bd (su h22 33 (upd (h22 33) 3 (1 : Int32))) (fun h25 =>
(bi2 (qX7_readHead h25) (fun r27 h28 =>
(if r27 = 0 then (some (((h28 33) 3), h28))
else (qX7_readGarden_47 600 h28))))))
else (some ((0 : Int32), h22))))))))
set_option maxHeartbeats 4000000 in
set_option maxRecDepth 100000 in
theorem c_X7_readGarden {l : Launch} {E : Ev} {ad : Nat → Nat} {g : Gp} {h : Hp} {r : Int32} {h9 : Hp} (hI : Inj ad) (hf : qX7_readGarden h = some (r, h9)) : CtI l yX7_readGarden cX7_readGarden 1 (some .int) 3 70 E ad g g [.ref (ad 141)] h h9 r := by
  refine x_begin (by decide) (Nat.le_of_ble_eq_true rfl) ?_
  intro p e s m below meth c ls C hr hlk X w hl
  replace hl : lv_has ls 1 [(0, .ref (ad 141))] := hl
  replace C : CallFix p m c cX7_readGarden 1 s ([.ref (ad 141)] : List Value).toArray lwA RX7 := C
  unfold qX7_readGarden at hf
  refine lv_aload_n C.1 C.2.1 dX7_readGarden_0 rfl (lv_at hl 0 rfl) ?_
  refine lv_iconst (v := 0) C.1 C.2.1 dX7_readGarden_1 (by decide) ?_
  obtain ⟨h21, eh21, hf⟩ := bd_e hf
  refine pf_X7_66 C X hI w dX7_readGarden_2 (fun H locs w => ?_)
  replace w := at_eq eh21 w
  refine lv_aload_n C.1 C.2.1 dX7_readGarden_5 rfl (lv_at hl 0 rfl) ?_
  refine lv_iconst (v := 0) C.1 C.2.1 dX7_readGarden_6 (by decide) ?_
  obtain ⟨h22, eh22, hf⟩ := bd_e hf
  refine pf_X7_79 C X hI w dX7_readGarden_7 (fun H locs w => ?_)
  replace w := at_eq eh22 w
  refine lv_aload_n C.1 C.2.1 dX7_readGarden_10 rfl (lv_at hl 0 rfl) ?_
  refine gf_X7_63 C X w (rfl) dX7_readGarden_11 ?_
  refine lv_if_eq (tgt := 28) C.1 C.2.1 dX7_readGarden_14 (by decide) (fun c23 => ?_) (fun c23 => ?_)
  · rw [if_pos c23] at hf
    refine lv_iconst (v := 0) C.1 C.2.1 dX7_readGarden_28 (by decide) ?_
    cases hf
    exact x_iret C hr hlk w dX7_readGarden_29
  · rw [if_neg c23] at hf
    refine lv_aload_n C.1 C.2.1 dX7_readGarden_17 rfl (lv_at hl 0 rfl) ?_
    refine gf_X7_7 C X w rfl dX7_readGarden_18 ?_
    refine lv_iconst (v := 0) C.1 C.2.1 dX7_readGarden_21 (by decide) ?_
    refine x_ild (v := (h22 34) 0) C X w (wl_r34 (rfl)) (by decide) (congrArg _ (show (0 : Int32).toNatClampNeg = 0 by decide)) dX7_readGarden_22 ?_
    refine lv_bipush (v := 84) C.1 C.2.1 dX7_readGarden_23 (by decide) ?_
    refine lv_icmp_eq (tgt := 30) C.1 C.2.1 dX7_readGarden_25 (by decide) (fun c24 => ?_) (fun c24 => ?_)
    · rw [if_pos c24] at hf
      refine lv_aload_n C.1 C.2.1 dX7_readGarden_30 rfl (lv_at hl 0 rfl) ?_
      refine lv_iconst (v := 1) C.1 C.2.1 dX7_readGarden_31 (by decide) ?_
      obtain ⟨h25, eh25, hf⟩ := bd_e hf
      refine pf_X7_66 C X hI w dX7_readGarden_32 (fun H locs w => ?_)
      replace w := at_eq eh25 w
      refine lv_aload_n C.1 C.2.1 dX7_readGarden_35 rfl (lv_at hl 0 rfl) ?_
      obtain ⟨r27, h28, eq26, hf⟩ := bi2_e hf
      refine x_cVi (As := []) (rest := []) C X w (c_X7_readHead hI eq26) mw_X7_readHead ml_X7_82 rcv_r33 rfl hl.1 rfl (Nat.le_of_ble_eq_true rfl) ⟨⟨Nat.le_of_ble_eq_true rfl, Nat.le_of_ble_eq_true rfl⟩, Nat.le_of_ble_eq_true rfl, Nat.le_of_ble_eq_true rfl⟩ dX7_readGarden_36 (fun H locs w => ?_)
      refine lv_if_ne (tgt := 47) C.1 C.2.1 dX7_readGarden_39 (by decide) (fun c29 => ?_) (fun c29 => ?_)
      · rw [if_neg c29] at hf
        exact w_X7_readGarden_47 C hr hlk X hI 600 _ _ _ _ w (lv_sub hl [0] rfl) hf
      · rw [if_pos c29] at hf
        refine lv_aload_n C.1 C.2.1 dX7_readGarden_42 rfl (lv_at hl 0 rfl) ?_
        refine gf_X7_66 C X w (rfl) dX7_readGarden_43 ?_
        cases hf
        exact x_iret C hr hlk w dX7_readGarden_46
    · rw [if_neg c24] at hf
      refine lv_iconst (v := 0) C.1 C.2.1 dX7_readGarden_28 (by decide) ?_
      cases hf
      exact x_iret C hr hlk w dX7_readGarden_29

def qX7_fault (h : Hp) : Option (Int32 × Hp) :=
(bd (su h 33 (upd (h 33) 0 (0 : Int32))) (fun h21 =>
(bi2 (qX7_readGarden h21) (fun r23 h24 =>
(some (r23, h24))))))
set_option maxHeartbeats 4000000 in
set_option maxRecDepth 100000 in
theorem c_X7_fault {l : Launch} {E : Ev} {ad : Nat → Nat} {g : Gp} {h : Hp} {r : Int32} {h9 : Hp} (hI : Inj ad) (hf : qX7_fault h = some (r, h9)) : CtI l yX7_fault cX7_fault 1 (some .int) 4 90 E ad g g [.ref (ad 141)] h h9 r := by
  refine x_begin (by decide) (Nat.le_of_ble_eq_true rfl) ?_
  intro p e s m below meth c ls C hr hlk X w hl
  replace hl : lv_has ls 1 [(0, .ref (ad 141))] := hl
  replace C : CallFix p m c cX7_fault 1 s ([.ref (ad 141)] : List Value).toArray lwA RX7 := C
  unfold qX7_fault at hf
  refine lv_aload_n C.1 C.2.1 dX7_fault_0 rfl (lv_at hl 0 rfl) ?_
  refine lv_iconst (v := 0) C.1 C.2.1 dX7_fault_1 (by decide) ?_
  obtain ⟨h21, eh21, hf⟩ := bd_e hf
  refine pf_X7_51 C X hI w dX7_fault_2 (fun H locs w => ?_)
  replace w := at_eq eh21 w
  refine lv_aload_n C.1 C.2.1 dX7_fault_5 rfl (lv_at hl 0 rfl) ?_
  obtain ⟨r23, h24, eq22, hf⟩ := bi2_e hf
  refine x_cVi (As := []) (rest := []) C X w (c_X7_readGarden hI eq22) mw_X7_readGarden ml_X7_89 rcv_r33 rfl hl.1 rfl (Nat.le_of_ble_eq_true rfl) ⟨⟨Nat.le_of_ble_eq_true rfl, Nat.le_of_ble_eq_true rfl⟩, Nat.le_of_ble_eq_true rfl, Nat.le_of_ble_eq_true rfl⟩ dX7_fault_6 (fun H locs w => ?_)
  cases hf
  exact x_iret C hr hlk w dX7_fault_9

def qX7_garden_48 : Nat → Hp → Int32 → Option (Int32 × Hp)
  | 0, _, _ => none
  | n + 1, h, v1 =>
    (if ((h 33) 4) ≤ v1 then (bd (su h 38 (upd (h 38) 31 (-9 : Int32))) (fun h31 =>
    (bd (su h31 38 (upd (h31 38) 32 ((h31 33) 7))) (fun h32 =>
    (bd (su h32 38 (upd (h32 38) 33 ((h32 33) 8))) (fun h33 =>
    (bd (su h33 38 (upd (h33 38) 34 ((h33 33) 9))) (fun h34 =>
    (bd (su h34 33 (upd (h34 33) 15 (0 : Int32))) (fun h35 =>
    (bd (su h35 42 (upd (h35 42) 0 (0 : Int32))) (fun h36 =>
    (bd (su h36 42 (upd (h36 42) 1 (0 : Int32))) (fun h37 =>
    (some (((h37 33) 4), h37))))))))))))))))
    else (ck (inb ((3 : Int32) * v1) 15) ((ck (inb ((0 : Int32) + v1) 36) (bd (su h 38 (upd (h 38) (((0 : Int32) + v1)).toNatClampNeg ((h 37) (((3 : Int32) * v1)).toNatClampNeg))) (fun h40 =>
    (ck (inb (((3 : Int32) * v1) + (1 : Int32)) 15) ((ck (inb v1 5) (bd (su h40 35 (upd (h40 35) v1.toNatClampNeg ((h40 37) ((((3 : Int32) * v1) + (1 : Int32))).toNatClampNeg))) (fun h43 =>
    (ck (inb (((3 : Int32) * v1) + (2 : Int32)) 15) ((ck (inb v1 5) (bd (su h43 36 (upd (h43 36) v1.toNatClampNeg ((h43 37) ((((3 : Int32) * v1) + (2 : Int32))).toNatClampNeg))) (fun h46 =>
    (qX7_garden_48 n h46 (v1 + 1))))))))))))))))))
set_option maxHeartbeats 4000000 in
set_option maxRecDepth 100000 in
theorem w_X7_garden_48 {p : Program} {l : Launch} {e : Env} {s : State} {m : MethodId} {args : Array Value} {below : List Frame} {meth : Method} {c : Code} {E : Ev} {ad : Nat → Nat} {g : Gp} {r : Int32} {h9 : Hp} (C : CallFix p m c cX7_garden 2 s args lwA RX7) (hr : meth.sig.returnType = (some .int)) (hlk : meth.locks = false) (X : Sx E ad s) (hI : Inj ad)  : ∀ (n : Nat), ∀ (h : Hp) (v1 : Int32) (H : Heap) (locs : List Loc) (ls : Array Slot), At E ad h g s H locs → lv_has ls 2 [(0, .ref (ad 141)), (1, .int v1)] → qX7_garden_48 n h v1 = some (r, h9) → W p l e (RM 4 90) s m args below meth c H locs 0 0 (QI E ad h9 g r below args s) (F0 m 48 ls []) := by
  intro n
  induction n with
  | zero =>
    intro h v1 H locs ls w hl hf
    cases hf
  | succ n ih =>
    intro h v1 H locs ls w hl hf
    rw [qX7_garden_48] at hf
    refine lv_iload_n C.1 C.2.1 dX7_garden_48 rfl (lv_at hl 1 rfl) ?_
    refine lv_aload_n C.1 C.2.1 dX7_garden_49 rfl (lv_at hl 0 rfl) ?_
    refine gf_X7_54 C X w (rfl) dX7_garden_50 ?_
    refine lv_icmp_ge (tgt := 110) C.1 C.2.1 dX7_garden_53 (by decide) (fun c30 => ?_) (fun c30 => ?_)
    · rw [if_pos c30] at hf
      refine lv_aload_n C.1 C.2.1 dX7_garden_110 rfl (lv_at hl 0 rfl) ?_
      refine gf_X7_26 C X w rfl dX7_garden_111 ?_
      refine lv_bipush (v := 31) C.1 C.2.1 dX7_garden_114 (by decide) ?_
      refine lv_bipush (v := -9) C.1 C.2.1 dX7_garden_116 (by decide) ?_
      obtain ⟨h31, eh31, hf⟩ := bd_e hf
      refine x_ist (h2 := su h 38 (upd (h 38) 31 (-9 : Int32))) C X hI w (wl_r38 rfl) (by decide) (by rw [show (31 : Int32).toNatClampNeg = 31 by decide]; exact ws_r38) dX7_garden_118 (fun H locs w => ?_)
      replace w := at_eq eh31 w
      refine lv_aload_n C.1 C.2.1 dX7_garden_119 rfl (lv_at hl 0 rfl) ?_
      refine gf_X7_26 C X w rfl dX7_garden_120 ?_
      refine lv_bipush (v := 32) C.1 C.2.1 dX7_garden_123 (by decide) ?_
      refine lv_aload_n C.1 C.2.1 dX7_garden_125 rfl (lv_at hl 0 rfl) ?_
      refine gf_X7_73 C X w (rfl) dX7_garden_126 ?_
      obtain ⟨h32, eh32, hf⟩ := bd_e hf
      refine x_ist (h2 := su h31 38 (upd (h31 38) 32 ((h31 33) 7))) C X hI w (wl_r38 rfl) (by decide) (by rw [show (32 : Int32).toNatClampNeg = 32 by decide]; exact ws_r38) dX7_garden_129 (fun H locs w => ?_)
      replace w := at_eq eh32 w
      refine lv_aload_n C.1 C.2.1 dX7_garden_130 rfl (lv_at hl 0 rfl) ?_
      refine gf_X7_26 C X w rfl dX7_garden_131 ?_
      refine lv_bipush (v := 33) C.1 C.2.1 dX7_garden_134 (by decide) ?_
      refine lv_aload_n C.1 C.2.1 dX7_garden_136 rfl (lv_at hl 0 rfl) ?_
      refine gf_X7_76 C X w (rfl) dX7_garden_137 ?_
      obtain ⟨h33, eh33, hf⟩ := bd_e hf
      refine x_ist (h2 := su h32 38 (upd (h32 38) 33 ((h32 33) 8))) C X hI w (wl_r38 rfl) (by decide) (by rw [show (33 : Int32).toNatClampNeg = 33 by decide]; exact ws_r38) dX7_garden_140 (fun H locs w => ?_)
      replace w := at_eq eh33 w
      refine lv_aload_n C.1 C.2.1 dX7_garden_141 rfl (lv_at hl 0 rfl) ?_
      refine gf_X7_26 C X w rfl dX7_garden_142 ?_
      refine lv_bipush (v := 34) C.1 C.2.1 dX7_garden_145 (by decide) ?_
      refine lv_aload_n C.1 C.2.1 dX7_garden_147 rfl (lv_at hl 0 rfl) ?_
      refine gf_X7_19 C X w (rfl) dX7_garden_148 ?_
      obtain ⟨h34, eh34, hf⟩ := bd_e hf
      refine x_ist (h2 := su h33 38 (upd (h33 38) 34 ((h33 33) 9))) C X hI w (wl_r38 rfl) (by decide) (by rw [show (34 : Int32).toNatClampNeg = 34 by decide]; exact ws_r38) dX7_garden_151 (fun H locs w => ?_)
      replace w := at_eq eh34 w
      refine lv_aload_n C.1 C.2.1 dX7_garden_152 rfl (lv_at hl 0 rfl) ?_
      refine lv_iconst (v := 0) C.1 C.2.1 dX7_garden_153 (by decide) ?_
      obtain ⟨h35, eh35, hf⟩ := bd_e hf
      refine pf_X7_93 C X hI w dX7_garden_154 (fun H locs w => ?_)
      replace w := at_eq eh35 w
      refine lv_aload_n C.1 C.2.1 dX7_garden_157 rfl (lv_at hl 0 rfl) ?_
      refine gf_X7_38 C X w rfl dX7_garden_158 ?_
      refine lv_iconst (v := 0) C.1 C.2.1 dX7_garden_161 (by decide) ?_
      refine lv_iconst (v := 0) C.1 C.2.1 dX7_garden_162 (by decide) ?_
      obtain ⟨h36, eh36, hf⟩ := bd_e hf
      refine x_zst (h2 := su h35 42 (upd (h35 42) 0 (0 : Int32))) C X hI w (wl_r42 rfl) (by decide) (by decide) (by rw [show (0 : Int32).toNatClampNeg = 0 by decide]; exact ws_r42) dX7_garden_163 (fun H locs w => ?_)
      replace w := at_eq eh36 w
      refine lv_aload_n C.1 C.2.1 dX7_garden_164 rfl (lv_at hl 0 rfl) ?_
      refine gf_X7_38 C X w rfl dX7_garden_165 ?_
      refine lv_iconst (v := 1) C.1 C.2.1 dX7_garden_168 (by decide) ?_
      refine lv_iconst (v := 0) C.1 C.2.1 dX7_garden_169 (by decide) ?_
      obtain ⟨h37, eh37, hf⟩ := bd_e hf
      refine x_zst (h2 := su h36 42 (upd (h36 42) 1 (0 : Int32))) C X hI w (wl_r42 rfl) (by decide) (by decide) (by rw [show (1 : Int32).toNatClampNeg = 1 by decide]; exact ws_r42) dX7_garden_170 (fun H locs w => ?_)
      replace w := at_eq eh37 w
      refine lv_aload_n C.1 C.2.1 dX7_garden_171 rfl (lv_at hl 0 rfl) ?_
      refine gf_X7_54 C X w (rfl) dX7_garden_172 ?_
      cases hf
      exact x_iret C hr hlk w dX7_garden_175
    · rw [if_neg c30] at hf
      refine lv_aload_n C.1 C.2.1 dX7_garden_56 rfl (lv_at hl 0 rfl) ?_
      refine gf_X7_26 C X w rfl dX7_garden_57 ?_
      refine lv_iconst (v := 0) C.1 C.2.1 dX7_garden_60 (by decide) ?_
      refine lv_iload_n C.1 C.2.1 dX7_garden_61 rfl (lv_at hl 1 rfl) ?_
      refine lv_iadd C.1 C.2.1 dX7_garden_62 ?_
      refine lv_aload_n C.1 C.2.1 dX7_garden_63 rfl (lv_at hl 0 rfl) ?_
      refine gf_X7_23 C X w rfl dX7_garden_64 ?_
      refine lv_iconst (v := 3) C.1 C.2.1 dX7_garden_67 (by decide) ?_
      refine lv_iload_n C.1 C.2.1 dX7_garden_68 rfl (lv_at hl 1 rfl) ?_
      refine lv_imul C.1 C.2.1 dX7_garden_69 ?_
      obtain ⟨i38, hf⟩ := ck_e hf
      refine x_ild (v := (h 37) (((3 : Int32) * v1)).toNatClampNeg) C X w (wl_r37 (rfl)) i38 (rfl) dX7_garden_70 ?_
      obtain ⟨i39, hf⟩ := ck_e hf
      obtain ⟨h40, eh40, hf⟩ := bd_e hf
      refine x_ist (h2 := su h 38 (upd (h 38) (((0 : Int32) + v1)).toNatClampNeg ((h 37) (((3 : Int32) * v1)).toNatClampNeg))) C X hI w (wl_r38 rfl) i39 ws_r38 dX7_garden_71 (fun H locs w => ?_)
      replace w := at_eq eh40 w
      refine lv_aload_n C.1 C.2.1 dX7_garden_72 rfl (lv_at hl 0 rfl) ?_
      refine gf_X7_13 C X w rfl dX7_garden_73 ?_
      refine lv_iload_n C.1 C.2.1 dX7_garden_76 rfl (lv_at hl 1 rfl) ?_
      refine lv_aload_n C.1 C.2.1 dX7_garden_77 rfl (lv_at hl 0 rfl) ?_
      refine gf_X7_23 C X w rfl dX7_garden_78 ?_
      refine lv_iconst (v := 3) C.1 C.2.1 dX7_garden_81 (by decide) ?_
      refine lv_iload_n C.1 C.2.1 dX7_garden_82 rfl (lv_at hl 1 rfl) ?_
      refine lv_imul C.1 C.2.1 dX7_garden_83 ?_
      refine lv_iconst (v := 1) C.1 C.2.1 dX7_garden_84 (by decide) ?_
      refine lv_iadd C.1 C.2.1 dX7_garden_85 ?_
      obtain ⟨i41, hf⟩ := ck_e hf
      refine x_ild (v := (h40 37) ((((3 : Int32) * v1) + (1 : Int32))).toNatClampNeg) C X w (wl_r37 (rfl)) i41 (rfl) dX7_garden_86 ?_
      obtain ⟨i42, hf⟩ := ck_e hf
      obtain ⟨h43, eh43, hf⟩ := bd_e hf
      refine x_ist (h2 := su h40 35 (upd (h40 35) v1.toNatClampNeg ((h40 37) ((((3 : Int32) * v1) + (1 : Int32))).toNatClampNeg))) C X hI w (wl_r35 rfl) i42 ws_r35 dX7_garden_87 (fun H locs w => ?_)
      replace w := at_eq eh43 w
      refine lv_aload_n C.1 C.2.1 dX7_garden_88 rfl (lv_at hl 0 rfl) ?_
      refine gf_X7_16 C X w rfl dX7_garden_89 ?_
      refine lv_iload_n C.1 C.2.1 dX7_garden_92 rfl (lv_at hl 1 rfl) ?_
      refine lv_aload_n C.1 C.2.1 dX7_garden_93 rfl (lv_at hl 0 rfl) ?_
      refine gf_X7_23 C X w rfl dX7_garden_94 ?_
      refine lv_iconst (v := 3) C.1 C.2.1 dX7_garden_97 (by decide) ?_
      refine lv_iload_n C.1 C.2.1 dX7_garden_98 rfl (lv_at hl 1 rfl) ?_
      refine lv_imul C.1 C.2.1 dX7_garden_99 ?_
      refine lv_iconst (v := 2) C.1 C.2.1 dX7_garden_100 (by decide) ?_
      refine lv_iadd C.1 C.2.1 dX7_garden_101 ?_
      obtain ⟨i44, hf⟩ := ck_e hf
      refine x_ild (v := (h43 37) ((((3 : Int32) * v1) + (2 : Int32))).toNatClampNeg) C X w (wl_r37 (rfl)) i44 (rfl) dX7_garden_102 ?_
      obtain ⟨i45, hf⟩ := ck_e hf
      obtain ⟨h46, eh46, hf⟩ := bd_e hf
      refine x_ist (h2 := su h43 36 (upd (h43 36) v1.toNatClampNeg ((h43 37) ((((3 : Int32) * v1) + (2 : Int32))).toNatClampNeg))) C X hI w (wl_r36 rfl) i45 ws_r36 dX7_garden_103 (fun H locs w => ?_)
      replace w := at_eq eh46 w
      refine lv_iinc (v := (v1 + 1)) (lv' := [(1, .int (v1 + 1)), (0, .ref (ad 141))]) C.1 C.2.1 dX7_garden_104 hl (k := 1) rfl (congrArg (fun z => v1 + z) (by decide)) (by decide) rfl (fun ls hl => ?_)
      refine lv_goto (tgt := 48) C.1 C.2.1 dX7_garden_107 (by decide) ?_
      exact ih _ _ _ _ _ w (lv_sub hl [1, 0] rfl) hf
def qX7_garden_27 : Nat → Hp → Int32 → Option (Int32 × Hp)
  | 0, _, _ => none
  | n + 1, h, v1 =>
    (if (36 : Int32) ≤ v1 then (qX7_garden_48 600 h (0 : Int32))
    else (ck (inb v1 36) (bd (su h 38 (upd (h 38) v1.toNatClampNeg (0 : Int32))) (fun h29 =>
    (qX7_garden_27 n h29 (v1 + 1))))))
set_option maxHeartbeats 4000000 in
set_option maxRecDepth 100000 in
theorem w_X7_garden_27 {p : Program} {l : Launch} {e : Env} {s : State} {m : MethodId} {args : Array Value} {below : List Frame} {meth : Method} {c : Code} {E : Ev} {ad : Nat → Nat} {g : Gp} {r : Int32} {h9 : Hp} (C : CallFix p m c cX7_garden 2 s args lwA RX7) (hr : meth.sig.returnType = (some .int)) (hlk : meth.locks = false) (X : Sx E ad s) (hI : Inj ad)  : ∀ (n : Nat), ∀ (h : Hp) (v1 : Int32) (H : Heap) (locs : List Loc) (ls : Array Slot), At E ad h g s H locs → lv_has ls 2 [(0, .ref (ad 141)), (1, .int v1)] → qX7_garden_27 n h v1 = some (r, h9) → W p l e (RM 4 90) s m args below meth c H locs 0 0 (QI E ad h9 g r below args s) (F0 m 27 ls []) := by
  intro n
  induction n with
  | zero =>
    intro h v1 H locs ls w hl hf
    cases hf
  | succ n ih =>
    intro h v1 H locs ls w hl hf
    rw [qX7_garden_27] at hf
    refine lv_iload_n C.1 C.2.1 dX7_garden_27 rfl (lv_at hl 1 rfl) ?_
    refine lv_bipush (v := 36) C.1 C.2.1 dX7_garden_28 (by decide) ?_
    refine lv_icmp_ge (tgt := 46) C.1 C.2.1 dX7_garden_30 (by decide) (fun c27 => ?_) (fun c27 => ?_)
    · rw [if_pos c27] at hf
      refine lv_iconst (v := 0) C.1 C.2.1 dX7_garden_46 (by decide) ?_
      refine lv_istore_n (lv' := [(1, .int (0 : Int32)), (0, .ref (ad 141))]) C.1 C.2.1 dX7_garden_47 rfl hl (by decide) rfl (fun ls hl => ?_)
      exact w_X7_garden_48 C hr hlk X hI 600 _ _ _ _ _ w (lv_sub hl [1, 0] rfl) hf
    · rw [if_neg c27] at hf
      refine lv_aload_n C.1 C.2.1 dX7_garden_33 rfl (lv_at hl 0 rfl) ?_
      refine gf_X7_26 C X w rfl dX7_garden_34 ?_
      refine lv_iload_n C.1 C.2.1 dX7_garden_37 rfl (lv_at hl 1 rfl) ?_
      refine lv_iconst (v := 0) C.1 C.2.1 dX7_garden_38 (by decide) ?_
      obtain ⟨i28, hf⟩ := ck_e hf
      obtain ⟨h29, eh29, hf⟩ := bd_e hf
      refine x_ist (h2 := su h 38 (upd (h 38) v1.toNatClampNeg (0 : Int32))) C X hI w (wl_r38 rfl) i28 ws_r38 dX7_garden_39 (fun H locs w => ?_)
      replace w := at_eq eh29 w
      refine lv_iinc (v := (v1 + 1)) (lv' := [(1, .int (v1 + 1)), (0, .ref (ad 141))]) C.1 C.2.1 dX7_garden_40 hl (k := 1) rfl (congrArg (fun z => v1 + z) (by decide)) (by decide) rfl (fun ls hl => ?_)
      refine lv_goto (tgt := 27) C.1 C.2.1 dX7_garden_43 (by decide) ?_
      exact ih _ _ _ _ _ w (lv_sub hl [1, 0] rfl) hf
def qX7_garden (h : Hp) : Option (Int32 × Hp) :=
(bd (su h 33 (upd (h 33) 0 (0 : Int32))) (fun h21 =>
(bi2 (qX7_readGarden h21) (fun r23 h24 =>
(if r23 = (-9 : Int32) then (bd (su h24 33 (upd (h24 33) 4 ((h24 33) 10))) (fun h26 =>
(qX7_garden_27 600 h26 (0 : Int32))))
else (some ((-3 : Int32), h24)))))))
set_option maxHeartbeats 4000000 in
set_option maxRecDepth 100000 in
theorem c_X7_garden {l : Launch} {E : Ev} {ad : Nat → Nat} {g : Gp} {h : Hp} {r : Int32} {h9 : Hp} (hI : Inj ad) (hf : qX7_garden h = some (r, h9)) : CtI l yX7_garden cX7_garden 2 (some .int) 4 90 E ad g g [.ref (ad 141)] h h9 r := by
  refine x_begin (by decide) (Nat.le_of_ble_eq_true rfl) ?_
  intro p e s m below meth c ls C hr hlk X w hl
  replace hl : lv_has ls 2 [(0, .ref (ad 141))] := hl
  replace C : CallFix p m c cX7_garden 2 s ([.ref (ad 141)] : List Value).toArray lwA RX7 := C
  unfold qX7_garden at hf
  refine lv_aload_n C.1 C.2.1 dX7_garden_0 rfl (lv_at hl 0 rfl) ?_
  refine lv_iconst (v := 0) C.1 C.2.1 dX7_garden_1 (by decide) ?_
  obtain ⟨h21, eh21, hf⟩ := bd_e hf
  refine pf_X7_51 C X hI w dX7_garden_2 (fun H locs w => ?_)
  replace w := at_eq eh21 w
  refine lv_aload_n C.1 C.2.1 dX7_garden_5 rfl (lv_at hl 0 rfl) ?_
  obtain ⟨r23, h24, eq22, hf⟩ := bi2_e hf
  refine x_cVi (As := []) (rest := []) C X w (c_X7_readGarden hI eq22) mw_X7_readGarden ml_X7_89 rcv_r33 rfl hl.1 rfl (Nat.le_of_ble_eq_true rfl) ⟨⟨Nat.le_of_ble_eq_true rfl, Nat.le_of_ble_eq_true rfl⟩, Nat.le_of_ble_eq_true rfl, Nat.le_of_ble_eq_true rfl⟩ dX7_garden_6 (fun H locs w => ?_)
  refine lv_bipush (v := -9) C.1 C.2.1 dX7_garden_9 (by decide) ?_
  refine lv_icmp_eq (tgt := 17) C.1 C.2.1 dX7_garden_11 (by decide) (fun c25 => ?_) (fun c25 => ?_)
  · rw [if_pos c25] at hf
    refine lv_aload_n C.1 C.2.1 dX7_garden_17 rfl (lv_at hl 0 rfl) ?_
    refine lv_aload_n C.1 C.2.1 dX7_garden_18 rfl (lv_at hl 0 rfl) ?_
    refine gf_X7_79 C X w (rfl) dX7_garden_19 ?_
    obtain ⟨h26, eh26, hf⟩ := bd_e hf
    refine pf_X7_54 C X hI w dX7_garden_22 (fun H locs w => ?_)
    replace w := at_eq eh26 w
    refine lv_iconst (v := 0) C.1 C.2.1 dX7_garden_25 (by decide) ?_
    refine lv_istore_n (lv' := [(1, .int (0 : Int32)), (0, .ref (ad 141))]) C.1 C.2.1 dX7_garden_26 rfl hl (by decide) rfl (fun ls hl => ?_)
    exact w_X7_garden_27 C hr hlk X hI 600 _ _ _ _ _ w (lv_sub hl [1, 0] rfl) hf
  · rw [if_neg c25] at hf
    refine lv_bipush (v := -3) C.1 C.2.1 dX7_garden_14 (by decide) ?_
    cases hf
    exact x_iret C hr hlk w dX7_garden_16

def qX7_about (h : Hp) (x1 : Int32) : Option (Int32 × Hp) :=
(bd (su h 33 (upd (h 33) 0 (0 : Int32))) (fun h21 =>
(bi1 (qX7_all (h21 33)) (fun r23 =>
(bd (su h21 33 (upd (h21 33) 25 r23)) (fun h24 =>
(if x1 = 0 then (some (((h24 33) 4), h24))
else (if x1 = 1 then (some (((h24 38) 32), h24))
else (if x1 = 2 then (some (((h24 38) 33), h24))
else (if x1 = 3 then (some (((h24 38) 34), h24))
else (if x1 = 4 then (some (((h24 38) 30), h24))
else (if x1 = 5 then (bi1 (qX7_wantsOf (h24 33) (h24 38)) (fun r32 =>
(some (r32, h24))))
else (if x1 = 6 then (bi1 (qX7_asksOf (h24 33) (h24 36) (h24 38)) (fun r35 =>
(some (r35, h24))))
else (if x1 = 7 then (bi1 (qX7_nextOf (h24 33) (h24 35) (h24 36) (h24 38)) (fun r38 =>
(some (r38, h24))))
else (if x1 = 8 then (some (((h24 38) 31), h24))
else (if x1 = 9 then (some (((h24 38) 35), h24))
else (if x1 = 10 then (some (((h24 33) 15), h24))
else (if x1 = 11 then (some (((h24 33) 18), h24))
else (if x1 = 12 then (some (((h24 33) 2), h24))
else (some ((-2 : Int32), h24)))))))))))))))))))))
set_option maxHeartbeats 4000000 in
set_option maxRecDepth 100000 in
theorem c_X7_about {l : Launch} {E : Ev} {ad : Nat → Nat} {g : Gp} {h : Hp} {x1 : Int32} {r : Int32} {h9 : Hp} (hI : Inj ad) (hf : qX7_about h x1 = some (r, h9)) : CtI l yX7_about cX7_about 2 (some .int) 4 91 E ad g g [.ref (ad 141), .int x1] h h9 r := by
  refine x_begin (by decide) (Nat.le_of_ble_eq_true rfl) ?_
  intro p e s m below meth c ls C hr hlk X w hl
  replace hl : lv_has ls 2 [(0, .ref (ad 141)), (1, .int x1)] := hl
  replace C : CallFix p m c cX7_about 2 s ([.ref (ad 141), .int x1] : List Value).toArray lwA RX7 := C
  unfold qX7_about at hf
  refine lv_aload_n C.1 C.2.1 dX7_about_0 rfl (lv_at hl 0 rfl) ?_
  refine lv_iconst (v := 0) C.1 C.2.1 dX7_about_1 (by decide) ?_
  obtain ⟨h21, eh21, hf⟩ := bd_e hf
  refine pf_X7_51 C X hI w dX7_about_2 (fun H locs w => ?_)
  replace w := at_eq eh21 w
  refine lv_aload_n C.1 C.2.1 dX7_about_5 rfl (lv_at hl 0 rfl) ?_
  refine lv_aload_n C.1 C.2.1 dX7_about_6 rfl (lv_at hl 0 rfl) ?_
  obtain ⟨r23, eq22, hf⟩ := bi1_e hf
  refine x_cVi (As := []) (rest := [.ref (ad 141)]) C X w (c_X7_all hI (rfl) eq22) mw_X7_all ml_X7_134 rcv_r33 rfl hl.1 rfl (Nat.le_of_ble_eq_true rfl) ⟨⟨Nat.le_of_ble_eq_true rfl, Nat.le_of_ble_eq_true rfl⟩, Nat.le_of_ble_eq_true rfl, Nat.le_of_ble_eq_true rfl⟩ dX7_about_7 (fun H locs w => ?_)
  obtain ⟨h24, eh24, hf⟩ := bd_e hf
  refine pf_X7_96 C X hI w dX7_about_10 (fun H locs w => ?_)
  replace w := at_eq eh24 w
  refine lv_iload_n C.1 C.2.1 dX7_about_13 rfl (lv_at hl 1 rfl) ?_
  by_cases c25 : x1 = 0
  · rw [if_pos c25] at hf
    refine lv_tableIn (off := 66) (tgt := 80) C.1 C.2.1 dX7_about_14 (by rw [c25]; decide) (by rw [c25]; decide) (by rw [c25]; rfl) (by decide) ?_
    refine lv_aload_n C.1 C.2.1 dX7_about_80 rfl (lv_at hl 0 rfl) ?_
    refine gf_X7_54 C X w (rfl) dX7_about_81 ?_
    cases hf
    exact x_iret C hr hlk w dX7_about_84
  · rw [if_neg c25] at hf
    by_cases c26 : x1 = 1
    · rw [if_pos c26] at hf
      refine lv_tableIn (off := 71) (tgt := 85) C.1 C.2.1 dX7_about_14 (by rw [c26]; decide) (by rw [c26]; decide) (by rw [c26]; rfl) (by decide) ?_
      refine lv_aload_n C.1 C.2.1 dX7_about_85 rfl (lv_at hl 0 rfl) ?_
      refine gf_X7_26 C X w rfl dX7_about_86 ?_
      refine lv_bipush (v := 32) C.1 C.2.1 dX7_about_89 (by decide) ?_
      refine x_ild (v := (h24 38) 32) C X w (wl_r38 (rfl)) (by decide) (congrArg _ (show (32 : Int32).toNatClampNeg = 32 by decide)) dX7_about_91 ?_
      cases hf
      exact x_iret C hr hlk w dX7_about_92
    · rw [if_neg c26] at hf
      by_cases c27 : x1 = 2
      · rw [if_pos c27] at hf
        refine lv_tableIn (off := 79) (tgt := 93) C.1 C.2.1 dX7_about_14 (by rw [c27]; decide) (by rw [c27]; decide) (by rw [c27]; rfl) (by decide) ?_
        refine lv_aload_n C.1 C.2.1 dX7_about_93 rfl (lv_at hl 0 rfl) ?_
        refine gf_X7_26 C X w rfl dX7_about_94 ?_
        refine lv_bipush (v := 33) C.1 C.2.1 dX7_about_97 (by decide) ?_
        refine x_ild (v := (h24 38) 33) C X w (wl_r38 (rfl)) (by decide) (congrArg _ (show (33 : Int32).toNatClampNeg = 33 by decide)) dX7_about_99 ?_
        cases hf
        exact x_iret C hr hlk w dX7_about_100
      · rw [if_neg c27] at hf
        by_cases c28 : x1 = 3
        · rw [if_pos c28] at hf
          refine lv_tableIn (off := 87) (tgt := 101) C.1 C.2.1 dX7_about_14 (by rw [c28]; decide) (by rw [c28]; decide) (by rw [c28]; rfl) (by decide) ?_
          refine lv_aload_n C.1 C.2.1 dX7_about_101 rfl (lv_at hl 0 rfl) ?_
          refine gf_X7_26 C X w rfl dX7_about_102 ?_
          refine lv_bipush (v := 34) C.1 C.2.1 dX7_about_105 (by decide) ?_
          refine x_ild (v := (h24 38) 34) C X w (wl_r38 (rfl)) (by decide) (congrArg _ (show (34 : Int32).toNatClampNeg = 34 by decide)) dX7_about_107 ?_
          cases hf
          exact x_iret C hr hlk w dX7_about_108
        · rw [if_neg c28] at hf
          by_cases c29 : x1 = 4
          · rw [if_pos c29] at hf
            refine lv_tableIn (off := 95) (tgt := 109) C.1 C.2.1 dX7_about_14 (by rw [c29]; decide) (by rw [c29]; decide) (by rw [c29]; rfl) (by decide) ?_
            refine lv_aload_n C.1 C.2.1 dX7_about_109 rfl (lv_at hl 0 rfl) ?_
            refine gf_X7_26 C X w rfl dX7_about_110 ?_
            refine lv_bipush (v := 30) C.1 C.2.1 dX7_about_113 (by decide) ?_
            refine x_ild (v := (h24 38) 30) C X w (wl_r38 (rfl)) (by decide) (congrArg _ (show (30 : Int32).toNatClampNeg = 30 by decide)) dX7_about_115 ?_
            cases hf
            exact x_iret C hr hlk w dX7_about_116
          · rw [if_neg c29] at hf
            by_cases c30 : x1 = 5
            · rw [if_pos c30] at hf
              refine lv_tableIn (off := 103) (tgt := 117) C.1 C.2.1 dX7_about_14 (by rw [c30]; decide) (by rw [c30]; decide) (by rw [c30]; rfl) (by decide) ?_
              refine lv_aload_n C.1 C.2.1 dX7_about_117 rfl (lv_at hl 0 rfl) ?_
              refine lv_aload_n C.1 C.2.1 dX7_about_118 rfl (lv_at hl 0 rfl) ?_
              refine gf_X7_26 C X w rfl dX7_about_119 ?_
              obtain ⟨r32, eq31, hf⟩ := bi1_e hf
              refine x_cVi (As := [.ref (ad 146)]) (rest := []) C X (at_su 38 w) (c_X7_wantsOf hI (Or.inl rfl) eq31) mw_X7_wantsOf ml_X7_103 rcv_r33 rfl hl.1 rfl (Nat.le_of_ble_eq_true rfl) ⟨⟨Nat.le_of_ble_eq_true rfl, Nat.le_of_ble_eq_true rfl⟩, Nat.le_of_ble_eq_true rfl, Nat.le_of_ble_eq_true rfl⟩ dX7_about_122 (fun H locs w => ?_)
              replace w := at_us w
              cases hf
              exact x_iret C hr hlk w dX7_about_125
            · rw [if_neg c30] at hf
              by_cases c33 : x1 = 6
              · rw [if_pos c33] at hf
                refine lv_tableIn (off := 112) (tgt := 126) C.1 C.2.1 dX7_about_14 (by rw [c33]; decide) (by rw [c33]; decide) (by rw [c33]; rfl) (by decide) ?_
                refine lv_aload_n C.1 C.2.1 dX7_about_126 rfl (lv_at hl 0 rfl) ?_
                refine lv_aload_n C.1 C.2.1 dX7_about_127 rfl (lv_at hl 0 rfl) ?_
                refine gf_X7_26 C X w rfl dX7_about_128 ?_
                obtain ⟨r35, eq34, hf⟩ := bi1_e hf
                refine x_cVi (As := [.ref (ad 146)]) (rest := []) C X (at_su 38 w) (c_X7_asksOf hI (Or.inl rfl) eq34) mw_X7_asksOf ml_X7_111 rcv_r33 rfl hl.1 rfl (Nat.le_of_ble_eq_true rfl) ⟨⟨Nat.le_of_ble_eq_true rfl, Nat.le_of_ble_eq_true rfl⟩, Nat.le_of_ble_eq_true rfl, Nat.le_of_ble_eq_true rfl⟩ dX7_about_131 (fun H locs w => ?_)
                replace w := at_us w
                cases hf
                exact x_iret C hr hlk w dX7_about_134
              · rw [if_neg c33] at hf
                by_cases c36 : x1 = 7
                · rw [if_pos c36] at hf
                  refine lv_tableIn (off := 121) (tgt := 135) C.1 C.2.1 dX7_about_14 (by rw [c36]; decide) (by rw [c36]; decide) (by rw [c36]; rfl) (by decide) ?_
                  refine lv_aload_n C.1 C.2.1 dX7_about_135 rfl (lv_at hl 0 rfl) ?_
                  refine lv_aload_n C.1 C.2.1 dX7_about_136 rfl (lv_at hl 0 rfl) ?_
                  refine gf_X7_26 C X w rfl dX7_about_137 ?_
                  obtain ⟨r38, eq37, hf⟩ := bi1_e hf
                  refine x_cVi (As := [.ref (ad 146)]) (rest := []) C X (at_su 38 w) (c_X7_nextOf hI (Or.inl rfl) eq37) mw_X7_nextOf ml_X7_118 rcv_r33 rfl hl.1 rfl (Nat.le_of_ble_eq_true rfl) ⟨⟨Nat.le_of_ble_eq_true rfl, Nat.le_of_ble_eq_true rfl⟩, Nat.le_of_ble_eq_true rfl, Nat.le_of_ble_eq_true rfl⟩ dX7_about_140 (fun H locs w => ?_)
                  replace w := at_us w
                  cases hf
                  exact x_iret C hr hlk w dX7_about_143
                · rw [if_neg c36] at hf
                  by_cases c39 : x1 = 8
                  · rw [if_pos c39] at hf
                    refine lv_tableIn (off := 130) (tgt := 144) C.1 C.2.1 dX7_about_14 (by rw [c39]; decide) (by rw [c39]; decide) (by rw [c39]; rfl) (by decide) ?_
                    refine lv_aload_n C.1 C.2.1 dX7_about_144 rfl (lv_at hl 0 rfl) ?_
                    refine gf_X7_26 C X w rfl dX7_about_145 ?_
                    refine lv_bipush (v := 31) C.1 C.2.1 dX7_about_148 (by decide) ?_
                    refine x_ild (v := (h24 38) 31) C X w (wl_r38 (rfl)) (by decide) (congrArg _ (show (31 : Int32).toNatClampNeg = 31 by decide)) dX7_about_150 ?_
                    cases hf
                    exact x_iret C hr hlk w dX7_about_151
                  · rw [if_neg c39] at hf
                    by_cases c40 : x1 = 9
                    · rw [if_pos c40] at hf
                      refine lv_tableIn (off := 138) (tgt := 152) C.1 C.2.1 dX7_about_14 (by rw [c40]; decide) (by rw [c40]; decide) (by rw [c40]; rfl) (by decide) ?_
                      refine lv_aload_n C.1 C.2.1 dX7_about_152 rfl (lv_at hl 0 rfl) ?_
                      refine gf_X7_26 C X w rfl dX7_about_153 ?_
                      refine lv_bipush (v := 35) C.1 C.2.1 dX7_about_156 (by decide) ?_
                      refine x_ild (v := (h24 38) 35) C X w (wl_r38 (rfl)) (by decide) (congrArg _ (show (35 : Int32).toNatClampNeg = 35 by decide)) dX7_about_158 ?_
                      cases hf
                      exact x_iret C hr hlk w dX7_about_159
                    · rw [if_neg c40] at hf
                      by_cases c41 : x1 = 10
                      · rw [if_pos c41] at hf
                        refine lv_tableIn (off := 146) (tgt := 160) C.1 C.2.1 dX7_about_14 (by rw [c41]; decide) (by rw [c41]; decide) (by rw [c41]; rfl) (by decide) ?_
                        refine lv_aload_n C.1 C.2.1 dX7_about_160 rfl (lv_at hl 0 rfl) ?_
                        refine gf_X7_93 C X w (rfl) dX7_about_161 ?_
                        cases hf
                        exact x_iret C hr hlk w dX7_about_164
                      · rw [if_neg c41] at hf
                        by_cases c42 : x1 = 11
                        · rw [if_pos c42] at hf
                          refine lv_tableIn (off := 151) (tgt := 165) C.1 C.2.1 dX7_about_14 (by rw [c42]; decide) (by rw [c42]; decide) (by rw [c42]; rfl) (by decide) ?_
                          refine lv_aload_n C.1 C.2.1 dX7_about_165 rfl (lv_at hl 0 rfl) ?_
                          refine gf_X7_137 C X w (rfl) dX7_about_166 ?_
                          cases hf
                          exact x_iret C hr hlk w dX7_about_169
                        · rw [if_neg c42] at hf
                          by_cases c43 : x1 = 12
                          · rw [if_pos c43] at hf
                            refine lv_tableIn (off := 156) (tgt := 170) C.1 C.2.1 dX7_about_14 (by rw [c43]; decide) (by rw [c43]; decide) (by rw [c43]; rfl) (by decide) ?_
                            refine lv_aload_n C.1 C.2.1 dX7_about_170 rfl (lv_at hl 0 rfl) ?_
                            refine gf_X7_63 C X w (rfl) dX7_about_171 ?_
                            cases hf
                            exact x_iret C hr hlk w dX7_about_174
                          · rw [if_neg c43] at hf
                            have c25n := ti_ne c25 (show (0 : Int32).toInt = 0 by decide)
                            have c26n := ti_ne c26 (show (1 : Int32).toInt = 1 by decide)
                            have c27n := ti_ne c27 (show (2 : Int32).toInt = 2 by decide)
                            have c28n := ti_ne c28 (show (3 : Int32).toInt = 3 by decide)
                            have c29n := ti_ne c29 (show (4 : Int32).toInt = 4 by decide)
                            have c30n := ti_ne c30 (show (5 : Int32).toInt = 5 by decide)
                            have c33n := ti_ne c33 (show (6 : Int32).toInt = 6 by decide)
                            have c36n := ti_ne c36 (show (7 : Int32).toInt = 7 by decide)
                            have c39n := ti_ne c39 (show (8 : Int32).toInt = 8 by decide)
                            have c40n := ti_ne c40 (show (9 : Int32).toInt = 9 by decide)
                            have c41n := ti_ne c41 (show (10 : Int32).toInt = 10 by decide)
                            have c42n := ti_ne c42 (show (11 : Int32).toInt = 11 by decide)
                            have c43n := ti_ne c43 (show (12 : Int32).toInt = 12 by decide)
                            refine lv_tableOut (tgt := 175) C.1 C.2.1 dX7_about_14 (by omega) (by decide) ?_
                            refine lv_bipush (v := -2) C.1 C.2.1 dX7_about_175 (by decide) ?_
                            cases hf
                            exact x_iret C hr hlk w dX7_about_177

def qX7_child (h : Hp) (x1 : Int32) (x2 : Int32) : Option (Int32 × Hp) :=
(bd (su h 33 (upd (h 33) 0 (0 : Int32))) (fun h21 =>
(bi1 (qX7_noChild (h21 33) x1) (fun r23 =>
(if r23 = 0 then (if x2 = 0 then (ck (inb ((0 : Int32) + x1) 36) ((some (((h21 38) (((0 : Int32) + x1)).toNatClampNeg), h21))))
else (if x2 = 1 then (ck (inb x1 5) ((some (((h21 35) x1.toNatClampNeg), h21))))
else (if x2 = 2 then (ck (inb x1 5) ((some (((h21 36) x1.toNatClampNeg), h21))))
else (if x2 = 3 then (bi1 (qX7_might (h21 35) (h21 36) x1) (fun r33 =>
(some (r33, h21))))
else (if x2 = 4 then (ck (inb ((5 : Int32) + x1) 36) ((some (((h21 38) (((5 : Int32) + x1)).toNatClampNeg), h21))))
else (if x2 = 5 then (ck (inb ((10 : Int32) + x1) 36) ((some (((h21 38) (((10 : Int32) + x1)).toNatClampNeg), h21))))
else (if x2 = 6 then (ck (inb ((15 : Int32) + x1) 36) ((some (((h21 38) (((15 : Int32) + x1)).toNatClampNeg), h21))))
else (if x2 = 7 then (ck (inb ((20 : Int32) + x1) 36) ((some (((h21 38) (((20 : Int32) + x1)).toNatClampNeg), h21))))
else (if x2 = 8 then (ck (inb ((25 : Int32) + x1) 36) ((some (((h21 38) (((25 : Int32) + x1)).toNatClampNeg), h21))))
else (some ((-2 : Int32), h21)))))))))))
else (some ((-1 : Int32), h21)))))))
set_option maxHeartbeats 4000000 in
set_option maxRecDepth 100000 in
theorem c_X7_child {l : Launch} {E : Ev} {ad : Nat → Nat} {g : Gp} {h : Hp} {x1 : Int32} {x2 : Int32} {r : Int32} {h9 : Hp} (hI : Inj ad) (hf : qX7_child h x1 x2 = some (r, h9)) : CtI l yX7_child cX7_child 3 (some .int) 2 46 E ad g g [.ref (ad 141), .int x1, .int x2] h h9 r := by
  refine x_begin (by decide) (Nat.le_of_ble_eq_true rfl) ?_
  intro p e s m below meth c ls C hr hlk X w hl
  replace hl : lv_has ls 3 [(0, .ref (ad 141)), (1, .int x1), (2, .int x2)] := hl
  replace C : CallFix p m c cX7_child 3 s ([.ref (ad 141), .int x1, .int x2] : List Value).toArray lwA RX7 := C
  unfold qX7_child at hf
  refine lv_aload_n C.1 C.2.1 dX7_child_0 rfl (lv_at hl 0 rfl) ?_
  refine lv_iconst (v := 0) C.1 C.2.1 dX7_child_1 (by decide) ?_
  obtain ⟨h21, eh21, hf⟩ := bd_e hf
  refine pf_X7_51 C X hI w dX7_child_2 (fun H locs w => ?_)
  replace w := at_eq eh21 w
  refine lv_aload_n C.1 C.2.1 dX7_child_5 rfl (lv_at hl 0 rfl) ?_
  refine lv_iload_n C.1 C.2.1 dX7_child_6 rfl (lv_at hl 1 rfl) ?_
  obtain ⟨r23, eq22, hf⟩ := bi1_e hf
  refine x_cVi (As := [.int x1]) (rest := []) C X w (c_X7_noChild hI (rfl) eq22) mw_X7_noChild ml_X7_140 rcv_r33 rfl hl.1 rfl (Nat.le_of_ble_eq_true rfl) ⟨⟨Nat.le_of_ble_eq_true rfl, Nat.le_of_ble_eq_true rfl⟩, Nat.le_of_ble_eq_true rfl, Nat.le_of_ble_eq_true rfl⟩ dX7_child_7 (fun H locs w => ?_)
  refine lv_if_eq (tgt := 15) C.1 C.2.1 dX7_child_10 (by decide) (fun c24 => ?_) (fun c24 => ?_)
  · rw [if_pos c24] at hf
    refine lv_iload_n C.1 C.2.1 dX7_child_15 rfl (lv_at hl 2 rfl) ?_
    by_cases c25 : x2 = 0
    · rw [if_pos c25] at hf
      refine lv_tableIn (off := 52) (tgt := 68) C.1 C.2.1 dX7_child_16 (by rw [c25]; decide) (by rw [c25]; decide) (by rw [c25]; rfl) (by decide) ?_
      refine lv_aload_n C.1 C.2.1 dX7_child_68 rfl (lv_at hl 0 rfl) ?_
      refine gf_X7_26 C X w rfl dX7_child_69 ?_
      refine lv_iconst (v := 0) C.1 C.2.1 dX7_child_72 (by decide) ?_
      refine lv_iload_n C.1 C.2.1 dX7_child_73 rfl (lv_at hl 1 rfl) ?_
      refine lv_iadd C.1 C.2.1 dX7_child_74 ?_
      obtain ⟨i26, hf⟩ := ck_e hf
      refine x_ild (v := (h21 38) (((0 : Int32) + x1)).toNatClampNeg) C X w (wl_r38 (rfl)) i26 (rfl) dX7_child_75 ?_
      cases hf
      exact x_iret C hr hlk w dX7_child_76
    · rw [if_neg c25] at hf
      by_cases c27 : x2 = 1
      · rw [if_pos c27] at hf
        refine lv_tableIn (off := 61) (tgt := 77) C.1 C.2.1 dX7_child_16 (by rw [c27]; decide) (by rw [c27]; decide) (by rw [c27]; rfl) (by decide) ?_
        refine lv_aload_n C.1 C.2.1 dX7_child_77 rfl (lv_at hl 0 rfl) ?_
        refine gf_X7_13 C X w rfl dX7_child_78 ?_
        refine lv_iload_n C.1 C.2.1 dX7_child_81 rfl (lv_at hl 1 rfl) ?_
        obtain ⟨i28, hf⟩ := ck_e hf
        refine x_ild (v := (h21 35) x1.toNatClampNeg) C X w (wl_r35 (rfl)) i28 (rfl) dX7_child_82 ?_
        cases hf
        exact x_iret C hr hlk w dX7_child_83
      · rw [if_neg c27] at hf
        by_cases c29 : x2 = 2
        · rw [if_pos c29] at hf
          refine lv_tableIn (off := 68) (tgt := 84) C.1 C.2.1 dX7_child_16 (by rw [c29]; decide) (by rw [c29]; decide) (by rw [c29]; rfl) (by decide) ?_
          refine lv_aload_n C.1 C.2.1 dX7_child_84 rfl (lv_at hl 0 rfl) ?_
          refine gf_X7_16 C X w rfl dX7_child_85 ?_
          refine lv_iload_n C.1 C.2.1 dX7_child_88 rfl (lv_at hl 1 rfl) ?_
          obtain ⟨i30, hf⟩ := ck_e hf
          refine x_ild (v := (h21 36) x1.toNatClampNeg) C X w (wl_r36 (rfl)) i30 (rfl) dX7_child_89 ?_
          cases hf
          exact x_iret C hr hlk w dX7_child_90
        · rw [if_neg c29] at hf
          by_cases c31 : x2 = 3
          · rw [if_pos c31] at hf
            refine lv_tableIn (off := 75) (tgt := 91) C.1 C.2.1 dX7_child_16 (by rw [c31]; decide) (by rw [c31]; decide) (by rw [c31]; rfl) (by decide) ?_
            refine lv_aload_n C.1 C.2.1 dX7_child_91 rfl (lv_at hl 0 rfl) ?_
            refine lv_iload_n C.1 C.2.1 dX7_child_92 rfl (lv_at hl 1 rfl) ?_
            obtain ⟨r33, eq32, hf⟩ := bi1_e hf
            refine x_cVi (As := [.int x1]) (rest := []) C X w (c_X7_might hI (rfl) (rfl) eq32) mw_X7_might ml_X7_107 rcv_r33 rfl hl.1 rfl (Nat.le_of_ble_eq_true rfl) ⟨⟨Nat.le_of_ble_eq_true rfl, Nat.le_of_ble_eq_true rfl⟩, Nat.le_of_ble_eq_true rfl, Nat.le_of_ble_eq_true rfl⟩ dX7_child_93 (fun H locs w => ?_)
            cases hf
            exact x_iret C hr hlk w dX7_child_96
          · rw [if_neg c31] at hf
            by_cases c34 : x2 = 4
            · rw [if_pos c34] at hf
              refine lv_tableIn (off := 81) (tgt := 97) C.1 C.2.1 dX7_child_16 (by rw [c34]; decide) (by rw [c34]; decide) (by rw [c34]; rfl) (by decide) ?_
              refine lv_aload_n C.1 C.2.1 dX7_child_97 rfl (lv_at hl 0 rfl) ?_
              refine gf_X7_26 C X w rfl dX7_child_98 ?_
              refine lv_iconst (v := 5) C.1 C.2.1 dX7_child_101 (by decide) ?_
              refine lv_iload_n C.1 C.2.1 dX7_child_102 rfl (lv_at hl 1 rfl) ?_
              refine lv_iadd C.1 C.2.1 dX7_child_103 ?_
              obtain ⟨i35, hf⟩ := ck_e hf
              refine x_ild (v := (h21 38) (((5 : Int32) + x1)).toNatClampNeg) C X w (wl_r38 (rfl)) i35 (rfl) dX7_child_104 ?_
              cases hf
              exact x_iret C hr hlk w dX7_child_105
            · rw [if_neg c34] at hf
              by_cases c36 : x2 = 5
              · rw [if_pos c36] at hf
                refine lv_tableIn (off := 90) (tgt := 106) C.1 C.2.1 dX7_child_16 (by rw [c36]; decide) (by rw [c36]; decide) (by rw [c36]; rfl) (by decide) ?_
                refine lv_aload_n C.1 C.2.1 dX7_child_106 rfl (lv_at hl 0 rfl) ?_
                refine gf_X7_26 C X w rfl dX7_child_107 ?_
                refine lv_bipush (v := 10) C.1 C.2.1 dX7_child_110 (by decide) ?_
                refine lv_iload_n C.1 C.2.1 dX7_child_112 rfl (lv_at hl 1 rfl) ?_
                refine lv_iadd C.1 C.2.1 dX7_child_113 ?_
                obtain ⟨i37, hf⟩ := ck_e hf
                refine x_ild (v := (h21 38) (((10 : Int32) + x1)).toNatClampNeg) C X w (wl_r38 (rfl)) i37 (rfl) dX7_child_114 ?_
                cases hf
                exact x_iret C hr hlk w dX7_child_115
              · rw [if_neg c36] at hf
                by_cases c38 : x2 = 6
                · rw [if_pos c38] at hf
                  refine lv_tableIn (off := 100) (tgt := 116) C.1 C.2.1 dX7_child_16 (by rw [c38]; decide) (by rw [c38]; decide) (by rw [c38]; rfl) (by decide) ?_
                  refine lv_aload_n C.1 C.2.1 dX7_child_116 rfl (lv_at hl 0 rfl) ?_
                  refine gf_X7_26 C X w rfl dX7_child_117 ?_
                  refine lv_bipush (v := 15) C.1 C.2.1 dX7_child_120 (by decide) ?_
                  refine lv_iload_n C.1 C.2.1 dX7_child_122 rfl (lv_at hl 1 rfl) ?_
                  refine lv_iadd C.1 C.2.1 dX7_child_123 ?_
                  obtain ⟨i39, hf⟩ := ck_e hf
                  refine x_ild (v := (h21 38) (((15 : Int32) + x1)).toNatClampNeg) C X w (wl_r38 (rfl)) i39 (rfl) dX7_child_124 ?_
                  cases hf
                  exact x_iret C hr hlk w dX7_child_125
                · rw [if_neg c38] at hf
                  by_cases c40 : x2 = 7
                  · rw [if_pos c40] at hf
                    refine lv_tableIn (off := 110) (tgt := 126) C.1 C.2.1 dX7_child_16 (by rw [c40]; decide) (by rw [c40]; decide) (by rw [c40]; rfl) (by decide) ?_
                    refine lv_aload_n C.1 C.2.1 dX7_child_126 rfl (lv_at hl 0 rfl) ?_
                    refine gf_X7_26 C X w rfl dX7_child_127 ?_
                    refine lv_bipush (v := 20) C.1 C.2.1 dX7_child_130 (by decide) ?_
                    refine lv_iload_n C.1 C.2.1 dX7_child_132 rfl (lv_at hl 1 rfl) ?_
                    refine lv_iadd C.1 C.2.1 dX7_child_133 ?_
                    obtain ⟨i41, hf⟩ := ck_e hf
                    refine x_ild (v := (h21 38) (((20 : Int32) + x1)).toNatClampNeg) C X w (wl_r38 (rfl)) i41 (rfl) dX7_child_134 ?_
                    cases hf
                    exact x_iret C hr hlk w dX7_child_135
                  · rw [if_neg c40] at hf
                    by_cases c42 : x2 = 8
                    · rw [if_pos c42] at hf
                      refine lv_tableIn (off := 120) (tgt := 136) C.1 C.2.1 dX7_child_16 (by rw [c42]; decide) (by rw [c42]; decide) (by rw [c42]; rfl) (by decide) ?_
                      refine lv_aload_n C.1 C.2.1 dX7_child_136 rfl (lv_at hl 0 rfl) ?_
                      refine gf_X7_26 C X w rfl dX7_child_137 ?_
                      refine lv_bipush (v := 25) C.1 C.2.1 dX7_child_140 (by decide) ?_
                      refine lv_iload_n C.1 C.2.1 dX7_child_142 rfl (lv_at hl 1 rfl) ?_
                      refine lv_iadd C.1 C.2.1 dX7_child_143 ?_
                      obtain ⟨i43, hf⟩ := ck_e hf
                      refine x_ild (v := (h21 38) (((25 : Int32) + x1)).toNatClampNeg) C X w (wl_r38 (rfl)) i43 (rfl) dX7_child_144 ?_
                      cases hf
                      exact x_iret C hr hlk w dX7_child_145
                    · rw [if_neg c42] at hf
                      have c25n := ti_ne c25 (show (0 : Int32).toInt = 0 by decide)
                      have c27n := ti_ne c27 (show (1 : Int32).toInt = 1 by decide)
                      have c29n := ti_ne c29 (show (2 : Int32).toInt = 2 by decide)
                      have c31n := ti_ne c31 (show (3 : Int32).toInt = 3 by decide)
                      have c34n := ti_ne c34 (show (4 : Int32).toInt = 4 by decide)
                      have c36n := ti_ne c36 (show (5 : Int32).toInt = 5 by decide)
                      have c38n := ti_ne c38 (show (6 : Int32).toInt = 6 by decide)
                      have c40n := ti_ne c40 (show (7 : Int32).toInt = 7 by decide)
                      have c42n := ti_ne c42 (show (8 : Int32).toInt = 8 by decide)
                      refine lv_tableOut (tgt := 146) C.1 C.2.1 dX7_child_16 (by omega) (by decide) ?_
                      refine lv_bipush (v := -2) C.1 C.2.1 dX7_child_146 (by decide) ?_
                      cases hf
                      exact x_iret C hr hlk w dX7_child_148
  · rw [if_neg c24] at hf
    refine lv_iconst (v := -1) C.1 C.2.1 dX7_child_13 (by decide) ?_
    cases hf
    exact x_iret C hr hlk w dX7_child_14

def qX7_note_51 : Nat → Hp → Int32 → Option (Hp)
  | 0, _, _ => none
  | n + 1, h, v1 =>
    (if (36 : Int32) ≤ v1 then (bd (su h 33 (upd (h 33) 15 (((h 33) 15) + (1 : Int32)))) (fun h28 =>
    (some h28)))
    else (ck (inb v1 36) ((ck (inb (((36 : Int32) * ((h 33) 15)) + v1) 504) (bd (su h 40 (upd (h 40) ((((36 : Int32) * ((h 33) 15)) + v1)).toNatClampNeg ((h 38) v1.toNatClampNeg))) (fun h31 =>
    (qX7_note_51 n h31 (v1 + 1))))))))
set_option maxHeartbeats 4000000 in
set_option maxRecDepth 100000 in
theorem w_X7_note_51 {p : Program} {l : Launch} {e : Env} {s : State} {m : MethodId} {args : Array Value} {below : List Frame} {meth : Method} {c : Code} {E : Ev} {ad : Nat → Nat} {g : Gp} {h9 : Hp} (C : CallFix p m c cX7_note 2 s args lwA RX7) (hr : meth.sig.returnType = none) (hlk : meth.locks = false) (X : Sx E ad s) (hI : Inj ad)  : ∀ (n : Nat), ∀ (h : Hp) (v1 : Int32) (H : Heap) (locs : List Loc) (ls : Array Slot), At E ad h g s H locs → lv_has ls 2 [(0, .ref (ad 141)), (1, .int v1)] → qX7_note_51 n h v1 = some h9 → W p l e (RM 0 0) s m args below meth c H locs 0 0 (QV E ad h9 g below args s) (F0 m 51 ls []) := by
  intro n
  induction n with
  | zero =>
    intro h v1 H locs ls w hl hf
    cases hf
  | succ n ih =>
    intro h v1 H locs ls w hl hf
    rw [qX7_note_51] at hf
    refine lv_iload_n C.1 C.2.1 dX7_note_51 rfl (lv_at hl 1 rfl) ?_
    refine lv_bipush (v := 36) C.1 C.2.1 dX7_note_52 (by decide) ?_
    refine lv_icmp_ge (tgt := 83) C.1 C.2.1 dX7_note_54 (by decide) (fun c27 => ?_) (fun c27 => ?_)
    · rw [if_pos c27] at hf
      refine lv_aload_n C.1 C.2.1 dX7_note_83 rfl (lv_at hl 0 rfl) ?_
      refine lv_dup C.1 C.2.1 dX7_note_84 rfl ?_
      refine gf_X7_93 C X w (rfl) dX7_note_85 ?_
      refine lv_iconst (v := 1) C.1 C.2.1 dX7_note_88 (by decide) ?_
      refine lv_iadd C.1 C.2.1 dX7_note_89 ?_
      obtain ⟨h28, eh28, hf⟩ := bd_e hf
      refine pf_X7_93 C X hI w dX7_note_90 (fun H locs w => ?_)
      replace w := at_eq eh28 w
      cases hf
      exact x_vret C hr hlk w dX7_note_93
    · rw [if_neg c27] at hf
      refine lv_aload_n C.1 C.2.1 dX7_note_57 rfl (lv_at hl 0 rfl) ?_
      refine gf_X7_32 C X w rfl dX7_note_58 ?_
      refine lv_bipush (v := 36) C.1 C.2.1 dX7_note_61 (by decide) ?_
      refine lv_aload_n C.1 C.2.1 dX7_note_63 rfl (lv_at hl 0 rfl) ?_
      refine gf_X7_93 C X w (rfl) dX7_note_64 ?_
      refine lv_imul C.1 C.2.1 dX7_note_67 ?_
      refine lv_iload_n C.1 C.2.1 dX7_note_68 rfl (lv_at hl 1 rfl) ?_
      refine lv_iadd C.1 C.2.1 dX7_note_69 ?_
      refine lv_aload_n C.1 C.2.1 dX7_note_70 rfl (lv_at hl 0 rfl) ?_
      refine gf_X7_26 C X w rfl dX7_note_71 ?_
      refine lv_iload_n C.1 C.2.1 dX7_note_74 rfl (lv_at hl 1 rfl) ?_
      obtain ⟨i29, hf⟩ := ck_e hf
      refine x_ild (v := (h 38) v1.toNatClampNeg) C X w (wl_r38 (rfl)) i29 (rfl) dX7_note_75 ?_
      obtain ⟨i30, hf⟩ := ck_e hf
      obtain ⟨h31, eh31, hf⟩ := bd_e hf
      refine x_ist (h2 := su h 40 (upd (h 40) ((((36 : Int32) * ((h 33) 15)) + v1)).toNatClampNeg ((h 38) v1.toNatClampNeg))) C X hI w (wl_r40 rfl) i30 ws_r40 dX7_note_76 (fun H locs w => ?_)
      replace w := at_eq eh31 w
      refine lv_iinc (v := (v1 + 1)) (lv' := [(1, .int (v1 + 1)), (0, .ref (ad 141))]) C.1 C.2.1 dX7_note_77 hl (k := 1) rfl (congrArg (fun z => v1 + z) (by decide)) (by decide) rfl (fun ls hl => ?_)
      refine lv_goto (tgt := 51) C.1 C.2.1 dX7_note_80 (by decide) ?_
      exact ih _ _ _ _ _ w (lv_sub hl [1, 0] rfl) hf
def qX7_note_49 (h : Hp) : Option (Hp) :=
(qX7_note_51 600 h (0 : Int32))
set_option maxHeartbeats 4000000 in
set_option maxRecDepth 100000 in
theorem w_X7_note_49 {p : Program} {l : Launch} {e : Env} {s : State} {m : MethodId} {args : Array Value} {below : List Frame} {meth : Method} {c : Code} {E : Ev} {ad : Nat → Nat} {g : Gp} {h9 : Hp} (C : CallFix p m c cX7_note 2 s args lwA RX7) (hr : meth.sig.returnType = none) (hlk : meth.locks = false) (X : Sx E ad s) (hI : Inj ad)  : ∀ (h : Hp) (H : Heap) (locs : List Loc) (ls : Array Slot), At E ad h g s H locs → lv_has ls 2 [(0, .ref (ad 141))] → qX7_note_49 h = some h9 → W p l e (RM 0 0) s m args below meth c H locs 0 0 (QV E ad h9 g below args s) (F0 m 49 ls []) := by
  intro h H locs ls w hl hf
  unfold qX7_note_49 at hf
  refine lv_iconst (v := 0) C.1 C.2.1 dX7_note_49 (by decide) ?_
  refine lv_istore_n (lv' := [(1, .int (0 : Int32)), (0, .ref (ad 141))]) C.1 C.2.1 dX7_note_50 rfl hl (by decide) rfl (fun ls hl => ?_)
  exact w_X7_note_51 C hr hlk X hI 600 _ _ _ _ _ w (lv_sub hl [1, 0] rfl) hf
def qX7_note_11 : Nat → Hp → Int32 → Option (Hp)
  | 0, _, _ => none
  | n + 1, h, v1 =>
    (if (468 : Int32) ≤ v1 then (bd (su h 33 (upd (h 33) 15 (((h 33) 15) - (1 : Int32)))) (fun h23 =>
    (qX7_note_49 h23)))
    else (ck (inb (v1 + (36 : Int32)) 504) ((ck (inb v1 504) (bd (su h 40 (upd (h 40) v1.toNatClampNeg ((h 40) ((v1 + (36 : Int32))).toNatClampNeg))) (fun h26 =>
    (qX7_note_11 n h26 (v1 + 1))))))))
set_option maxHeartbeats 4000000 in
set_option maxRecDepth 100000 in
theorem w_X7_note_11 {p : Program} {l : Launch} {e : Env} {s : State} {m : MethodId} {args : Array Value} {below : List Frame} {meth : Method} {c : Code} {E : Ev} {ad : Nat → Nat} {g : Gp} {h9 : Hp} (C : CallFix p m c cX7_note 2 s args lwA RX7) (hr : meth.sig.returnType = none) (hlk : meth.locks = false) (X : Sx E ad s) (hI : Inj ad)  : ∀ (n : Nat), ∀ (h : Hp) (v1 : Int32) (H : Heap) (locs : List Loc) (ls : Array Slot), At E ad h g s H locs → lv_has ls 2 [(0, .ref (ad 141)), (1, .int v1)] → qX7_note_11 n h v1 = some h9 → W p l e (RM 0 0) s m args below meth c H locs 0 0 (QV E ad h9 g below args s) (F0 m 11 ls []) := by
  intro n
  induction n with
  | zero =>
    intro h v1 H locs ls w hl hf
    cases hf
  | succ n ih =>
    intro h v1 H locs ls w hl hf
    rw [qX7_note_11] at hf
    refine lv_iload_n C.1 C.2.1 dX7_note_11 rfl (lv_at hl 1 rfl) ?_
    refine lv_sipush (v := 468) C.1 C.2.1 dX7_note_12 (by decide) ?_
    refine lv_icmp_ge (tgt := 39) C.1 C.2.1 dX7_note_15 (by decide) (fun c22 => ?_) (fun c22 => ?_)
    · rw [if_pos c22] at hf
      refine lv_aload_n C.1 C.2.1 dX7_note_39 rfl (lv_at hl 0 rfl) ?_
      refine lv_dup C.1 C.2.1 dX7_note_40 rfl ?_
      refine gf_X7_93 C X w (rfl) dX7_note_41 ?_
      refine lv_iconst (v := 1) C.1 C.2.1 dX7_note_44 (by decide) ?_
      refine lv_isub C.1 C.2.1 dX7_note_45 ?_
      obtain ⟨h23, eh23, hf⟩ := bd_e hf
      refine pf_X7_93 C X hI w dX7_note_46 (fun H locs w => ?_)
      replace w := at_eq eh23 w
      exact w_X7_note_49 C hr hlk X hI _ _ _ _ w (lv_sub hl [0] rfl) hf
    · rw [if_neg c22] at hf
      refine lv_aload_n C.1 C.2.1 dX7_note_18 rfl (lv_at hl 0 rfl) ?_
      refine gf_X7_32 C X w rfl dX7_note_19 ?_
      refine lv_iload_n C.1 C.2.1 dX7_note_22 rfl (lv_at hl 1 rfl) ?_
      refine lv_aload_n C.1 C.2.1 dX7_note_23 rfl (lv_at hl 0 rfl) ?_
      refine gf_X7_32 C X w rfl dX7_note_24 ?_
      refine lv_iload_n C.1 C.2.1 dX7_note_27 rfl (lv_at hl 1 rfl) ?_
      refine lv_bipush (v := 36) C.1 C.2.1 dX7_note_28 (by decide) ?_
      refine lv_iadd C.1 C.2.1 dX7_note_30 ?_
      obtain ⟨i24, hf⟩ := ck_e hf
      refine x_ild (v := (h 40) ((v1 + (36 : Int32))).toNatClampNeg) C X w (wl_r40 (rfl)) i24 (rfl) dX7_note_31 ?_
      obtain ⟨i25, hf⟩ := ck_e hf
      obtain ⟨h26, eh26, hf⟩ := bd_e hf
      refine x_ist (h2 := su h 40 (upd (h 40) v1.toNatClampNeg ((h 40) ((v1 + (36 : Int32))).toNatClampNeg))) C X hI w (wl_r40 rfl) i25 ws_r40 dX7_note_32 (fun H locs w => ?_)
      replace w := at_eq eh26 w
      refine lv_iinc (v := (v1 + 1)) (lv' := [(1, .int (v1 + 1)), (0, .ref (ad 141))]) C.1 C.2.1 dX7_note_33 hl (k := 1) rfl (congrArg (fun z => v1 + z) (by decide)) (by decide) rfl (fun ls hl => ?_)
      refine lv_goto (tgt := 11) C.1 C.2.1 dX7_note_36 (by decide) ?_
      exact ih _ _ _ _ _ w (lv_sub hl [1, 0] rfl) hf
def qX7_note (h : Hp) : Option (Hp) :=
(if ((h 33) 15) = (14 : Int32) then (qX7_note_11 600 h (0 : Int32))
else (qX7_note_49 h))
set_option maxHeartbeats 4000000 in
set_option maxRecDepth 100000 in
theorem c_X7_note {l : Launch} {E : Ev} {ad : Nat → Nat} {g : Gp} {h : Hp} {h9 : Hp} (hI : Inj ad) (hf : qX7_note h = some h9) : CtV l yX7_note cX7_note 2 none 0 0 E ad g g [.ref (ad 141)] h h9 := by
  refine x_begin (by decide) (Nat.le_of_ble_eq_true rfl) ?_
  intro p e s m below meth c ls C hr hlk X w hl
  replace hl : lv_has ls 2 [(0, .ref (ad 141))] := hl
  replace C : CallFix p m c cX7_note 2 s ([.ref (ad 141)] : List Value).toArray lwA RX7 := C
  unfold qX7_note at hf
  refine lv_aload_n C.1 C.2.1 dX7_note_0 rfl (lv_at hl 0 rfl) ?_
  refine gf_X7_93 C X w (rfl) dX7_note_1 ?_
  refine lv_bipush (v := 14) C.1 C.2.1 dX7_note_4 (by decide) ?_
  refine lv_icmp_ne (tgt := 49) C.1 C.2.1 dX7_note_6 (by decide) (fun c21 => ?_) (fun c21 => ?_)
  · rw [if_neg c21] at hf
    exact w_X7_note_49 C hr hlk X hI _ _ _ _ w (lv_sub hl [0] rfl) hf
  · rw [if_pos c21] at hf
    refine lv_iconst (v := 0) C.1 C.2.1 dX7_note_9 (by decide) ?_
    refine lv_istore_n (lv' := [(1, .int (0 : Int32)), (0, .ref (ad 141))]) C.1 C.2.1 dX7_note_10 rfl hl (by decide) rfl (fun ls hl => ?_)
    exact w_X7_note_11 C hr hlk X hI 600 _ _ _ _ _ w (lv_sub hl [1, 0] rfl) hf

def qX7_minute (h : Hp) : Option (Int32 × Hp) :=
(bd (su h 33 (upd (h 33) 0 (0 : Int32))) (fun h21 =>
(bi1 (qX7_all (h21 33)) (fun r23 =>
(bd (su h21 33 (upd (h21 33) 25 r23)) (fun h24 =>
(bi1 (qX7_note h24) (fun h27 =>
(bi1 (qX7_goMinute (h27 33) (h27 35) (h27 36) (h27 38)) (fun P30 =>
(bd (su h27 38 P30) (fun h31 =>
(some (((h31 38) 30), h31))))))))))))))
set_option maxHeartbeats 4000000 in
set_option maxRecDepth 100000 in
theorem c_X7_minute {l : Launch} {E : Ev} {ad : Nat → Nat} {g : Gp} {h : Hp} {r : Int32} {h9 : Hp} (hI : Inj ad) (hf : qX7_minute h = some (r, h9)) : CtI l yX7_minute cX7_minute 1 (some .int) 6 140 E ad g g [.ref (ad 141)] h h9 r := by
  refine x_begin (by decide) (Nat.le_of_ble_eq_true rfl) ?_
  intro p e s m below meth c ls C hr hlk X w hl
  replace hl : lv_has ls 1 [(0, .ref (ad 141))] := hl
  replace C : CallFix p m c cX7_minute 1 s ([.ref (ad 141)] : List Value).toArray lwA RX7 := C
  unfold qX7_minute at hf
  refine lv_aload_n C.1 C.2.1 dX7_minute_0 rfl (lv_at hl 0 rfl) ?_
  refine lv_iconst (v := 0) C.1 C.2.1 dX7_minute_1 (by decide) ?_
  obtain ⟨h21, eh21, hf⟩ := bd_e hf
  refine pf_X7_51 C X hI w dX7_minute_2 (fun H locs w => ?_)
  replace w := at_eq eh21 w
  refine lv_aload_n C.1 C.2.1 dX7_minute_5 rfl (lv_at hl 0 rfl) ?_
  refine lv_aload_n C.1 C.2.1 dX7_minute_6 rfl (lv_at hl 0 rfl) ?_
  obtain ⟨r23, eq22, hf⟩ := bi1_e hf
  refine x_cVi (As := []) (rest := [.ref (ad 141)]) C X w (c_X7_all hI (rfl) eq22) mw_X7_all ml_X7_134 rcv_r33 rfl hl.1 rfl (Nat.le_of_ble_eq_true rfl) ⟨⟨Nat.le_of_ble_eq_true rfl, Nat.le_of_ble_eq_true rfl⟩, Nat.le_of_ble_eq_true rfl, Nat.le_of_ble_eq_true rfl⟩ dX7_minute_7 (fun H locs w => ?_)
  obtain ⟨h24, eh24, hf⟩ := bd_e hf
  refine pf_X7_96 C X hI w dX7_minute_10 (fun H locs w => ?_)
  replace w := at_eq eh24 w
  refine lv_aload_n C.1 C.2.1 dX7_minute_13 rfl (lv_at hl 0 rfl) ?_
  obtain ⟨h27, eq25, hf⟩ := bi1_e hf
  refine x_cVv (As := []) (rest := []) C X w (c_X7_note hI eq25) mw_X7_note ml_X7_144 rcv_r33 rfl hl.1 rfl (Nat.le_of_ble_eq_true rfl) ⟨⟨Nat.le_of_ble_eq_true rfl, Nat.le_of_ble_eq_true rfl⟩, Nat.le_of_ble_eq_true rfl, Nat.le_of_ble_eq_true rfl⟩ dX7_minute_14 (fun H locs w => ?_)
  refine lv_aload_n C.1 C.2.1 dX7_minute_17 rfl (lv_at hl 0 rfl) ?_
  refine lv_aload_n C.1 C.2.1 dX7_minute_18 rfl (lv_at hl 0 rfl) ?_
  refine gf_X7_26 C X w rfl dX7_minute_19 ?_
  obtain ⟨P30, eq28, hf⟩ := bi1_e hf
  obtain ⟨h31, eh31, hf⟩ := bd_e hf
  refine x_cVv (As := [.ref (ad 146)]) (rest := []) C X (at_su 38 w) (c_X7_goMinute hI (Or.inl rfl) eq28) mw_X7_goMinute ml_X7_147 rcv_r33 rfl hl.1 rfl (Nat.le_of_ble_eq_true rfl) ⟨⟨Nat.le_of_ble_eq_true rfl, Nat.le_of_ble_eq_true rfl⟩, Nat.le_of_ble_eq_true rfl, Nat.le_of_ble_eq_true rfl⟩ dX7_minute_22 (fun H locs w => ?_)
  replace w := at_eq eh31 w
  refine lv_aload_n C.1 C.2.1 dX7_minute_25 rfl (lv_at hl 0 rfl) ?_
  refine gf_X7_26 C X w rfl dX7_minute_26 ?_
  refine lv_bipush (v := 30) C.1 C.2.1 dX7_minute_29 (by decide) ?_
  refine x_ild (v := (h31 38) 30) C X w (wl_r38 (rfl)) (by decide) (congrArg _ (show (30 : Int32).toNatClampNeg = 30 by decide)) dX7_minute_31 ?_
  cases hf
  exact x_iret C hr hlk w dX7_minute_32

def qX7_give (h : Hp) (x1 : Int32) (x2 : Int32) : Option (Int32 × Hp) :=
(bd (su h 33 (upd (h 33) 0 (0 : Int32))) (fun h21 =>
(bi1 (qX7_noChild (h21 33) x1) (fun r23 =>
(if r23 = 0 then (bi1 (qX7_noChild (h21 33) x2) (fun r26 =>
(if r26 = 0 then (if x1 = x2 then (some ((-2 : Int32), h21))
else (bi1 (qX7_has ((h21 38) 30) x1) (fun r30 =>
(if r30 = 0 then (some ((-3 : Int32), h21))
else (bi1 (qX7_has ((h21 38) 30) x2) (fun r33 =>
(if r33 = 0 then (bi1 (qX7_note h21) (fun h37 =>
(ck (inb ((5 : Int32) + x1) 36) ((bi1 (qX7_getOff (h37 38) x1) (fun P41 =>
(bd (su h37 38 P41) (fun h42 =>
(bi1 (qX7_getOn (h42 38) x2) (fun P45 =>
(bd (su h42 38 P45) (fun h46 =>
(some (((h37 38) (((5 : Int32) + x1)).toNatClampNeg), h46))))))))))))))
else (some ((-3 : Int32), h21)))))))))
else (some ((-1 : Int32), h21)))))
else (some ((-1 : Int32), h21)))))))
set_option maxHeartbeats 4000000 in
set_option maxRecDepth 100000 in
theorem c_X7_give {l : Launch} {E : Ev} {ad : Nat → Nat} {g : Gp} {h : Hp} {x1 : Int32} {x2 : Int32} {r : Int32} {h9 : Hp} (hI : Inj ad) (hf : qX7_give h x1 x2 = some (r, h9)) : CtI l yX7_give cX7_give 4 (some .int) 2 46 E ad g g [.ref (ad 141), .int x1, .int x2] h h9 r := by
  refine x_begin (by decide) (Nat.le_of_ble_eq_true rfl) ?_
  intro p e s m below meth c ls C hr hlk X w hl
  replace hl : lv_has ls 4 [(0, .ref (ad 141)), (1, .int x1), (2, .int x2)] := hl
  replace C : CallFix p m c cX7_give 4 s ([.ref (ad 141), .int x1, .int x2] : List Value).toArray lwA RX7 := C
  unfold qX7_give at hf
  refine lv_aload_n C.1 C.2.1 dX7_give_0 rfl (lv_at hl 0 rfl) ?_
  refine lv_iconst (v := 0) C.1 C.2.1 dX7_give_1 (by decide) ?_
  obtain ⟨h21, eh21, hf⟩ := bd_e hf
  refine pf_X7_51 C X hI w dX7_give_2 (fun H locs w => ?_)
  replace w := at_eq eh21 w
  refine lv_aload_n C.1 C.2.1 dX7_give_5 rfl (lv_at hl 0 rfl) ?_
  refine lv_iload_n C.1 C.2.1 dX7_give_6 rfl (lv_at hl 1 rfl) ?_
  obtain ⟨r23, eq22, hf⟩ := bi1_e hf
  refine x_cVi (As := [.int x1]) (rest := []) C X w (c_X7_noChild hI (rfl) eq22) mw_X7_noChild ml_X7_140 rcv_r33 rfl hl.1 rfl (Nat.le_of_ble_eq_true rfl) ⟨⟨Nat.le_of_ble_eq_true rfl, Nat.le_of_ble_eq_true rfl⟩, Nat.le_of_ble_eq_true rfl, Nat.le_of_ble_eq_true rfl⟩ dX7_give_7 (fun H locs w => ?_)
  refine lv_if_ne (tgt := 21) C.1 C.2.1 dX7_give_10 (by decide) (fun c24 => ?_) (fun c24 => ?_)
  · rw [if_neg c24] at hf
    refine lv_iconst (v := -1) C.1 C.2.1 dX7_give_21 (by decide) ?_
    cases hf
    exact x_iret C hr hlk w dX7_give_22
  · rw [if_pos c24] at hf
    refine lv_aload_n C.1 C.2.1 dX7_give_13 rfl (lv_at hl 0 rfl) ?_
    refine lv_iload_n C.1 C.2.1 dX7_give_14 rfl (lv_at hl 2 rfl) ?_
    obtain ⟨r26, eq25, hf⟩ := bi1_e hf
    refine x_cVi (As := [.int x2]) (rest := []) C X w (c_X7_noChild hI (rfl) eq25) mw_X7_noChild ml_X7_140 rcv_r33 rfl hl.1 rfl (Nat.le_of_ble_eq_true rfl) ⟨⟨Nat.le_of_ble_eq_true rfl, Nat.le_of_ble_eq_true rfl⟩, Nat.le_of_ble_eq_true rfl, Nat.le_of_ble_eq_true rfl⟩ dX7_give_15 (fun H locs w => ?_)
    refine lv_if_eq (tgt := 23) C.1 C.2.1 dX7_give_18 (by decide) (fun c27 => ?_) (fun c27 => ?_)
    · rw [if_pos c27] at hf
      refine lv_iload_n C.1 C.2.1 dX7_give_23 rfl (lv_at hl 1 rfl) ?_
      refine lv_iload_n C.1 C.2.1 dX7_give_24 rfl (lv_at hl 2 rfl) ?_
      refine lv_icmp_ne (tgt := 31) C.1 C.2.1 dX7_give_25 (by decide) (fun c28 => ?_) (fun c28 => ?_)
      · rw [if_neg c28] at hf
        refine lv_aload_n C.1 C.2.1 dX7_give_31 rfl (lv_at hl 0 rfl) ?_
        refine gf_X7_26 C X w rfl dX7_give_32 ?_
        refine lv_bipush (v := 30) C.1 C.2.1 dX7_give_35 (by decide) ?_
        refine x_ild (v := (h21 38) 30) C X w (wl_r38 (rfl)) (by decide) (congrArg _ (show (30 : Int32).toNatClampNeg = 30 by decide)) dX7_give_37 ?_
        refine lv_iload_n C.1 C.2.1 dX7_give_38 rfl (lv_at hl 1 rfl) ?_
        obtain ⟨r30, eq29, hf⟩ := bi1_e hf
        refine x_cSi (As := [.int ((h21 38) 30), .int x1]) (rest := []) C X w (c_X7_has hI  eq29) mw_X7_has ml_X7_99 rfl hl.1 rfl (Nat.le_of_ble_eq_true rfl) ⟨⟨Nat.le_of_ble_eq_true rfl, Nat.le_of_ble_eq_true rfl⟩, Nat.le_of_ble_eq_true rfl, Nat.le_of_ble_eq_true rfl⟩ dX7_give_39 (fun H locs w => ?_)
        refine lv_if_eq (tgt := 59) C.1 C.2.1 dX7_give_42 (by decide) (fun c31 => ?_) (fun c31 => ?_)
        · rw [if_pos c31] at hf
          refine lv_bipush (v := -3) C.1 C.2.1 dX7_give_59 (by decide) ?_
          cases hf
          exact x_iret C hr hlk w dX7_give_61
        · rw [if_neg c31] at hf
          refine lv_aload_n C.1 C.2.1 dX7_give_45 rfl (lv_at hl 0 rfl) ?_
          refine gf_X7_26 C X w rfl dX7_give_46 ?_
          refine lv_bipush (v := 30) C.1 C.2.1 dX7_give_49 (by decide) ?_
          refine x_ild (v := (h21 38) 30) C X w (wl_r38 (rfl)) (by decide) (congrArg _ (show (30 : Int32).toNatClampNeg = 30 by decide)) dX7_give_51 ?_
          refine lv_iload_n C.1 C.2.1 dX7_give_52 rfl (lv_at hl 2 rfl) ?_
          obtain ⟨r33, eq32, hf⟩ := bi1_e hf
          refine x_cSi (As := [.int ((h21 38) 30), .int x2]) (rest := []) C X w (c_X7_has hI  eq32) mw_X7_has ml_X7_99 rfl hl.1 rfl (Nat.le_of_ble_eq_true rfl) ⟨⟨Nat.le_of_ble_eq_true rfl, Nat.le_of_ble_eq_true rfl⟩, Nat.le_of_ble_eq_true rfl, Nat.le_of_ble_eq_true rfl⟩ dX7_give_53 (fun H locs w => ?_)
          refine lv_if_eq (tgt := 62) C.1 C.2.1 dX7_give_56 (by decide) (fun c34 => ?_) (fun c34 => ?_)
          · rw [if_pos c34] at hf
            refine lv_aload_n C.1 C.2.1 dX7_give_62 rfl (lv_at hl 0 rfl) ?_
            obtain ⟨h37, eq35, hf⟩ := bi1_e hf
            refine x_cVv (As := []) (rest := []) C X w (c_X7_note hI eq35) mw_X7_note ml_X7_144 rcv_r33 rfl hl.1 rfl (Nat.le_of_ble_eq_true rfl) ⟨⟨Nat.le_of_ble_eq_true rfl, Nat.le_of_ble_eq_true rfl⟩, Nat.le_of_ble_eq_true rfl, Nat.le_of_ble_eq_true rfl⟩ dX7_give_63 (fun H locs w => ?_)
            refine lv_aload_n C.1 C.2.1 dX7_give_66 rfl (lv_at hl 0 rfl) ?_
            refine gf_X7_26 C X w rfl dX7_give_67 ?_
            refine lv_iconst (v := 5) C.1 C.2.1 dX7_give_70 (by decide) ?_
            refine lv_iload_n C.1 C.2.1 dX7_give_71 rfl (lv_at hl 1 rfl) ?_
            refine lv_iadd C.1 C.2.1 dX7_give_72 ?_
            obtain ⟨i38, hf⟩ := ck_e hf
            refine x_ild (v := (h37 38) (((5 : Int32) + x1)).toNatClampNeg) C X w (wl_r38 (rfl)) i38 (rfl) dX7_give_73 ?_
            refine lv_istore_n (lv' := [(3, .int ((h37 38) (((5 : Int32) + x1)).toNatClampNeg)), (0, .ref (ad 141)), (1, .int x1), (2, .int x2)]) C.1 C.2.1 dX7_give_74 rfl hl (by decide) rfl (fun ls hl => ?_)
            refine lv_aload_n C.1 C.2.1 dX7_give_75 rfl (lv_at hl 1 rfl) ?_
            refine gf_X7_26 C X w rfl dX7_give_76 ?_
            refine lv_iload_n C.1 C.2.1 dX7_give_79 rfl (lv_at hl 2 rfl) ?_
            obtain ⟨P41, eq39, hf⟩ := bi1_e hf
            obtain ⟨h42, eh42, hf⟩ := bd_e hf
            refine x_cSv (As := [.ref (ad 146), .int x1]) (rest := []) C X (at_su 38 w) (c_X7_getOff hI (Or.inl rfl) eq39) mw_X7_getOff ml_X7_121 rfl hl.1 rfl (Nat.le_of_ble_eq_true rfl) ⟨⟨Nat.le_of_ble_eq_true rfl, Nat.le_of_ble_eq_true rfl⟩, Nat.le_of_ble_eq_true rfl, Nat.le_of_ble_eq_true rfl⟩ dX7_give_80 (fun H locs w => ?_)
            replace w := at_eq eh42 w
            refine lv_aload_n C.1 C.2.1 dX7_give_83 rfl (lv_at hl 1 rfl) ?_
            refine gf_X7_26 C X w rfl dX7_give_84 ?_
            refine lv_iload_n C.1 C.2.1 dX7_give_87 rfl (lv_at hl 3 rfl) ?_
            obtain ⟨P45, eq43, hf⟩ := bi1_e hf
            obtain ⟨h46, eh46, hf⟩ := bd_e hf
            refine x_cSv (As := [.ref (ad 146), .int x2]) (rest := []) C X (at_su 38 w) (c_X7_getOn hI (Or.inl rfl) eq43) mw_X7_getOn ml_X7_131 rfl hl.1 rfl (Nat.le_of_ble_eq_true rfl) ⟨⟨Nat.le_of_ble_eq_true rfl, Nat.le_of_ble_eq_true rfl⟩, Nat.le_of_ble_eq_true rfl, Nat.le_of_ble_eq_true rfl⟩ dX7_give_88 (fun H locs w => ?_)
            replace w := at_eq eh46 w
            refine lv_iload_n C.1 C.2.1 dX7_give_91 rfl (lv_at hl 0 rfl) ?_
            cases hf
            exact x_iret C hr hlk w dX7_give_92
          · rw [if_neg c34] at hf
            refine lv_bipush (v := -3) C.1 C.2.1 dX7_give_59 (by decide) ?_
            cases hf
            exact x_iret C hr hlk w dX7_give_61
      · rw [if_pos c28] at hf
        refine lv_bipush (v := -2) C.1 C.2.1 dX7_give_28 (by decide) ?_
        cases hf
        exact x_iret C hr hlk w dX7_give_30
    · rw [if_neg c27] at hf
      refine lv_iconst (v := -1) C.1 C.2.1 dX7_give_21 (by decide) ?_
      cases hf
      exact x_iret C hr hlk w dX7_give_22

def qX7_push (h : Hp) (x1 : Int32) : Option (Int32 × Hp) :=
(bd (su h 33 (upd (h 33) 0 (0 : Int32))) (fun h21 =>
(bi1 (qX7_noChild (h21 33) x1) (fun r23 =>
(if r23 = 0 then (bi1 (qX7_has ((h21 38) 30) x1) (fun r26 =>
(if r26 = 0 then (some ((-3 : Int32), h21))
else (bi1 (qX7_note h21) (fun h30 =>
(bi1 (qX7_getOff (h30 38) x1) (fun P33 =>
(bd (su h30 38 P33) (fun h34 =>
(ck (inb ((25 : Int32) + x1) 36) ((ck (inb ((25 : Int32) + x1) 36) (bd (su h34 38 (upd (h34 38) (((25 : Int32) + x1)).toNatClampNeg (((h34 38) (((25 : Int32) + x1)).toNatClampNeg) + (1 : Int32)))) (fun h37 =>
(ck (inb ((25 : Int32) + x1) 36) ((some (((h37 38) (((25 : Int32) + x1)).toNatClampNeg), h37))))))))))))))))))
else (some ((-1 : Int32), h21)))))))
set_option maxHeartbeats 4000000 in
set_option maxRecDepth 100000 in
theorem c_X7_push {l : Launch} {E : Ev} {ad : Nat → Nat} {g : Gp} {h : Hp} {x1 : Int32} {r : Int32} {h9 : Hp} (hI : Inj ad) (hf : qX7_push h x1 = some (r, h9)) : CtI l yX7_push cX7_push 2 (some .int) 2 46 E ad g g [.ref (ad 141), .int x1] h h9 r := by
  refine x_begin (by decide) (Nat.le_of_ble_eq_true rfl) ?_
  intro p e s m below meth c ls C hr hlk X w hl
  replace hl : lv_has ls 2 [(0, .ref (ad 141)), (1, .int x1)] := hl
  replace C : CallFix p m c cX7_push 2 s ([.ref (ad 141), .int x1] : List Value).toArray lwA RX7 := C
  unfold qX7_push at hf
  refine lv_aload_n C.1 C.2.1 dX7_push_0 rfl (lv_at hl 0 rfl) ?_
  refine lv_iconst (v := 0) C.1 C.2.1 dX7_push_1 (by decide) ?_
  obtain ⟨h21, eh21, hf⟩ := bd_e hf
  refine pf_X7_51 C X hI w dX7_push_2 (fun H locs w => ?_)
  replace w := at_eq eh21 w
  refine lv_aload_n C.1 C.2.1 dX7_push_5 rfl (lv_at hl 0 rfl) ?_
  refine lv_iload_n C.1 C.2.1 dX7_push_6 rfl (lv_at hl 1 rfl) ?_
  obtain ⟨r23, eq22, hf⟩ := bi1_e hf
  refine x_cVi (As := [.int x1]) (rest := []) C X w (c_X7_noChild hI (rfl) eq22) mw_X7_noChild ml_X7_140 rcv_r33 rfl hl.1 rfl (Nat.le_of_ble_eq_true rfl) ⟨⟨Nat.le_of_ble_eq_true rfl, Nat.le_of_ble_eq_true rfl⟩, Nat.le_of_ble_eq_true rfl, Nat.le_of_ble_eq_true rfl⟩ dX7_push_7 (fun H locs w => ?_)
  refine lv_if_eq (tgt := 15) C.1 C.2.1 dX7_push_10 (by decide) (fun c24 => ?_) (fun c24 => ?_)
  · rw [if_pos c24] at hf
    refine lv_aload_n C.1 C.2.1 dX7_push_15 rfl (lv_at hl 0 rfl) ?_
    refine gf_X7_26 C X w rfl dX7_push_16 ?_
    refine lv_bipush (v := 30) C.1 C.2.1 dX7_push_19 (by decide) ?_
    refine x_ild (v := (h21 38) 30) C X w (wl_r38 (rfl)) (by decide) (congrArg _ (show (30 : Int32).toNatClampNeg = 30 by decide)) dX7_push_21 ?_
    refine lv_iload_n C.1 C.2.1 dX7_push_22 rfl (lv_at hl 1 rfl) ?_
    obtain ⟨r26, eq25, hf⟩ := bi1_e hf
    refine x_cSi (As := [.int ((h21 38) 30), .int x1]) (rest := []) C X w (c_X7_has hI  eq25) mw_X7_has ml_X7_99 rfl hl.1 rfl (Nat.le_of_ble_eq_true rfl) ⟨⟨Nat.le_of_ble_eq_true rfl, Nat.le_of_ble_eq_true rfl⟩, Nat.le_of_ble_eq_true rfl, Nat.le_of_ble_eq_true rfl⟩ dX7_push_23 (fun H locs w => ?_)
    refine lv_if_ne (tgt := 32) C.1 C.2.1 dX7_push_26 (by decide) (fun c27 => ?_) (fun c27 => ?_)
    · rw [if_neg c27] at hf
      refine lv_aload_n C.1 C.2.1 dX7_push_32 rfl (lv_at hl 0 rfl) ?_
      obtain ⟨h30, eq28, hf⟩ := bi1_e hf
      refine x_cVv (As := []) (rest := []) C X w (c_X7_note hI eq28) mw_X7_note ml_X7_144 rcv_r33 rfl hl.1 rfl (Nat.le_of_ble_eq_true rfl) ⟨⟨Nat.le_of_ble_eq_true rfl, Nat.le_of_ble_eq_true rfl⟩, Nat.le_of_ble_eq_true rfl, Nat.le_of_ble_eq_true rfl⟩ dX7_push_33 (fun H locs w => ?_)
      refine lv_aload_n C.1 C.2.1 dX7_push_36 rfl (lv_at hl 0 rfl) ?_
      refine gf_X7_26 C X w rfl dX7_push_37 ?_
      refine lv_iload_n C.1 C.2.1 dX7_push_40 rfl (lv_at hl 1 rfl) ?_
      obtain ⟨P33, eq31, hf⟩ := bi1_e hf
      obtain ⟨h34, eh34, hf⟩ := bd_e hf
      refine x_cSv (As := [.ref (ad 146), .int x1]) (rest := []) C X (at_su 38 w) (c_X7_getOff hI (Or.inl rfl) eq31) mw_X7_getOff ml_X7_121 rfl hl.1 rfl (Nat.le_of_ble_eq_true rfl) ⟨⟨Nat.le_of_ble_eq_true rfl, Nat.le_of_ble_eq_true rfl⟩, Nat.le_of_ble_eq_true rfl, Nat.le_of_ble_eq_true rfl⟩ dX7_push_41 (fun H locs w => ?_)
      replace w := at_eq eh34 w
      refine lv_aload_n C.1 C.2.1 dX7_push_44 rfl (lv_at hl 0 rfl) ?_
      refine gf_X7_26 C X w rfl dX7_push_45 ?_
      refine lv_bipush (v := 25) C.1 C.2.1 dX7_push_48 (by decide) ?_
      refine lv_iload_n C.1 C.2.1 dX7_push_50 rfl (lv_at hl 1 rfl) ?_
      refine lv_iadd C.1 C.2.1 dX7_push_51 ?_
      refine lv_dup2_11 C.1 C.2.1 dX7_push_52 rfl rfl ?_
      obtain ⟨i35, hf⟩ := ck_e hf
      refine x_ild (v := (h34 38) (((25 : Int32) + x1)).toNatClampNeg) C X w (wl_r38 (rfl)) i35 (rfl) dX7_push_53 ?_
      refine lv_iconst (v := 1) C.1 C.2.1 dX7_push_54 (by decide) ?_
      refine lv_iadd C.1 C.2.1 dX7_push_55 ?_
      obtain ⟨i36, hf⟩ := ck_e hf
      obtain ⟨h37, eh37, hf⟩ := bd_e hf
      refine x_ist (h2 := su h34 38 (upd (h34 38) (((25 : Int32) + x1)).toNatClampNeg (((h34 38) (((25 : Int32) + x1)).toNatClampNeg) + (1 : Int32)))) C X hI w (wl_r38 rfl) i36 ws_r38 dX7_push_56 (fun H locs w => ?_)
      replace w := at_eq eh37 w
      refine lv_aload_n C.1 C.2.1 dX7_push_57 rfl (lv_at hl 0 rfl) ?_
      refine gf_X7_26 C X w rfl dX7_push_58 ?_
      refine lv_bipush (v := 25) C.1 C.2.1 dX7_push_61 (by decide) ?_
      refine lv_iload_n C.1 C.2.1 dX7_push_63 rfl (lv_at hl 1 rfl) ?_
      refine lv_iadd C.1 C.2.1 dX7_push_64 ?_
      obtain ⟨i38, hf⟩ := ck_e hf
      refine x_ild (v := (h37 38) (((25 : Int32) + x1)).toNatClampNeg) C X w (wl_r38 (rfl)) i38 (rfl) dX7_push_65 ?_
      cases hf
      exact x_iret C hr hlk w dX7_push_66
    · rw [if_pos c27] at hf
      refine lv_bipush (v := -3) C.1 C.2.1 dX7_push_29 (by decide) ?_
      cases hf
      exact x_iret C hr hlk w dX7_push_31
  · rw [if_neg c24] at hf
    refine lv_iconst (v := -1) C.1 C.2.1 dX7_push_13 (by decide) ?_
    cases hf
    exact x_iret C hr hlk w dX7_push_14

def qX7_call (h : Hp) (x1 : Int32) : Option (Int32 × Hp) :=
(bd (su h 33 (upd (h 33) 0 (0 : Int32))) (fun h21 =>
(bi1 (qX7_noChild (h21 33) x1) (fun r23 =>
(if r23 = 0 then (ck (inb ((0 : Int32) + x1) 36) ((bi1 (qX7_has ((h21 38) 30) x1) (fun r27 =>
(if r27 = 0 then (if ((h21 38) (((0 : Int32) + x1)).toNatClampNeg) = 0 then (some ((-3 : Int32), h21))
else (bi1 (qX7_note h21) (fun h32 =>
(ck (inb ((0 : Int32) + x1) 36) (bd (su h32 38 (upd (h32 38) (((0 : Int32) + x1)).toNatClampNeg (0 : Int32))) (fun h34 =>
(some (((h21 38) (((0 : Int32) + x1)).toNatClampNeg), h34))))))))
else (some ((-3 : Int32), h21)))))))
else (some ((-1 : Int32), h21)))))))
set_option maxHeartbeats 4000000 in
set_option maxRecDepth 100000 in
theorem c_X7_call {l : Launch} {E : Ev} {ad : Nat → Nat} {g : Gp} {h : Hp} {x1 : Int32} {r : Int32} {h9 : Hp} (hI : Inj ad) (hf : qX7_call h x1 = some (r, h9)) : CtI l yX7_call cX7_call 3 (some .int) 2 46 E ad g g [.ref (ad 141), .int x1] h h9 r := by
  refine x_begin (by decide) (Nat.le_of_ble_eq_true rfl) ?_
  intro p e s m below meth c ls C hr hlk X w hl
  replace hl : lv_has ls 3 [(0, .ref (ad 141)), (1, .int x1)] := hl
  replace C : CallFix p m c cX7_call 3 s ([.ref (ad 141), .int x1] : List Value).toArray lwA RX7 := C
  unfold qX7_call at hf
  refine lv_aload_n C.1 C.2.1 dX7_call_0 rfl (lv_at hl 0 rfl) ?_
  refine lv_iconst (v := 0) C.1 C.2.1 dX7_call_1 (by decide) ?_
  obtain ⟨h21, eh21, hf⟩ := bd_e hf
  refine pf_X7_51 C X hI w dX7_call_2 (fun H locs w => ?_)
  replace w := at_eq eh21 w
  refine lv_aload_n C.1 C.2.1 dX7_call_5 rfl (lv_at hl 0 rfl) ?_
  refine lv_iload_n C.1 C.2.1 dX7_call_6 rfl (lv_at hl 1 rfl) ?_
  obtain ⟨r23, eq22, hf⟩ := bi1_e hf
  refine x_cVi (As := [.int x1]) (rest := []) C X w (c_X7_noChild hI (rfl) eq22) mw_X7_noChild ml_X7_140 rcv_r33 rfl hl.1 rfl (Nat.le_of_ble_eq_true rfl) ⟨⟨Nat.le_of_ble_eq_true rfl, Nat.le_of_ble_eq_true rfl⟩, Nat.le_of_ble_eq_true rfl, Nat.le_of_ble_eq_true rfl⟩ dX7_call_7 (fun H locs w => ?_)
  refine lv_if_eq (tgt := 15) C.1 C.2.1 dX7_call_10 (by decide) (fun c24 => ?_) (fun c24 => ?_)
  · rw [if_pos c24] at hf
    refine lv_aload_n C.1 C.2.1 dX7_call_15 rfl (lv_at hl 0 rfl) ?_
    refine gf_X7_26 C X w rfl dX7_call_16 ?_
    refine lv_iconst (v := 0) C.1 C.2.1 dX7_call_19 (by decide) ?_
    refine lv_iload_n C.1 C.2.1 dX7_call_20 rfl (lv_at hl 1 rfl) ?_
    refine lv_iadd C.1 C.2.1 dX7_call_21 ?_
    obtain ⟨i25, hf⟩ := ck_e hf
    refine x_ild (v := (h21 38) (((0 : Int32) + x1)).toNatClampNeg) C X w (wl_r38 (rfl)) i25 (rfl) dX7_call_22 ?_
    refine lv_istore_n (lv' := [(2, .int ((h21 38) (((0 : Int32) + x1)).toNatClampNeg)), (0, .ref (ad 141)), (1, .int x1)]) C.1 C.2.1 dX7_call_23 rfl hl (by decide) rfl (fun ls hl => ?_)
    refine lv_aload_n C.1 C.2.1 dX7_call_24 rfl (lv_at hl 1 rfl) ?_
    refine gf_X7_26 C X w rfl dX7_call_25 ?_
    refine lv_bipush (v := 30) C.1 C.2.1 dX7_call_28 (by decide) ?_
    refine x_ild (v := (h21 38) 30) C X w (wl_r38 (rfl)) (by decide) (congrArg _ (show (30 : Int32).toNatClampNeg = 30 by decide)) dX7_call_30 ?_
    refine lv_iload_n C.1 C.2.1 dX7_call_31 rfl (lv_at hl 2 rfl) ?_
    obtain ⟨r27, eq26, hf⟩ := bi1_e hf
    refine x_cSi (As := [.int ((h21 38) 30), .int x1]) (rest := []) C X w (c_X7_has hI  eq26) mw_X7_has ml_X7_99 rfl hl.1 rfl (Nat.le_of_ble_eq_true rfl) ⟨⟨Nat.le_of_ble_eq_true rfl, Nat.le_of_ble_eq_true rfl⟩, Nat.le_of_ble_eq_true rfl, Nat.le_of_ble_eq_true rfl⟩ dX7_call_32 (fun H locs w => ?_)
    refine lv_if_ne (tgt := 42) C.1 C.2.1 dX7_call_35 (by decide) (fun c28 => ?_) (fun c28 => ?_)
    · rw [if_neg c28] at hf
      refine lv_bipush (v := -3) C.1 C.2.1 dX7_call_42 (by decide) ?_
      cases hf
      exact x_iret C hr hlk w dX7_call_44
    · rw [if_pos c28] at hf
      refine lv_iload_n C.1 C.2.1 dX7_call_38 rfl (lv_at hl 0 rfl) ?_
      refine lv_if_ne (tgt := 45) C.1 C.2.1 dX7_call_39 (by decide) (fun c29 => ?_) (fun c29 => ?_)
      · rw [if_neg c29] at hf
        refine lv_aload_n C.1 C.2.1 dX7_call_45 rfl (lv_at hl 1 rfl) ?_
        obtain ⟨h32, eq30, hf⟩ := bi1_e hf
        refine x_cVv (As := []) (rest := []) C X w (c_X7_note hI eq30) mw_X7_note ml_X7_144 rcv_r33 rfl hl.1 rfl (Nat.le_of_ble_eq_true rfl) ⟨⟨Nat.le_of_ble_eq_true rfl, Nat.le_of_ble_eq_true rfl⟩, Nat.le_of_ble_eq_true rfl, Nat.le_of_ble_eq_true rfl⟩ dX7_call_46 (fun H locs w => ?_)
        refine lv_aload_n C.1 C.2.1 dX7_call_49 rfl (lv_at hl 1 rfl) ?_
        refine gf_X7_26 C X w rfl dX7_call_50 ?_
        refine lv_iconst (v := 0) C.1 C.2.1 dX7_call_53 (by decide) ?_
        refine lv_iload_n C.1 C.2.1 dX7_call_54 rfl (lv_at hl 2 rfl) ?_
        refine lv_iadd C.1 C.2.1 dX7_call_55 ?_
        refine lv_iconst (v := 0) C.1 C.2.1 dX7_call_56 (by decide) ?_
        obtain ⟨i33, hf⟩ := ck_e hf
        obtain ⟨h34, eh34, hf⟩ := bd_e hf
        refine x_ist (h2 := su h32 38 (upd (h32 38) (((0 : Int32) + x1)).toNatClampNeg (0 : Int32))) C X hI w (wl_r38 rfl) i33 ws_r38 dX7_call_57 (fun H locs w => ?_)
        replace w := at_eq eh34 w
        refine lv_iload_n C.1 C.2.1 dX7_call_58 rfl (lv_at hl 0 rfl) ?_
        cases hf
        exact x_iret C hr hlk w dX7_call_59
      · rw [if_pos c29] at hf
        refine lv_bipush (v := -3) C.1 C.2.1 dX7_call_42 (by decide) ?_
        cases hf
        exact x_iret C hr hlk w dX7_call_44
  · rw [if_neg c24] at hf
    refine lv_iconst (v := -1) C.1 C.2.1 dX7_call_13 (by decide) ?_
    cases hf
    exact x_iret C hr hlk w dX7_call_14

def qX7_rule_59 (h : Hp) (v1 : Int32) (v2 : Int32) (v3 : Int32) : Option (Int32 × Hp) :=
(bi1 (qX7_note h) (fun h32 =>
(bd (su h32 38 (upd (h32 38) 32 v1)) (fun h33 =>
(bd (su h33 38 (upd (h33 38) 33 v2)) (fun h34 =>
(some (v3, h34))))))))
set_option maxHeartbeats 4000000 in
set_option maxRecDepth 100000 in
theorem w_X7_rule_59 {p : Program} {l : Launch} {e : Env} {s : State} {m : MethodId} {args : Array Value} {below : List Frame} {meth : Method} {c : Code} {E : Ev} {ad : Nat → Nat} {g : Gp} {r : Int32} {h9 : Hp} (C : CallFix p m c cX7_rule 4 s args lwA RX7) (hr : meth.sig.returnType = (some .int)) (hlk : meth.locks = false) (X : Sx E ad s) (hI : Inj ad)  : ∀ (h : Hp) (v1 : Int32) (v2 : Int32) (v3 : Int32) (H : Heap) (locs : List Loc) (ls : Array Slot), At E ad h g s H locs → lv_has ls 4 [(0, .ref (ad 141)), (1, .int v1), (2, .int v2), (3, .int v3)] → qX7_rule_59 h v1 v2 v3 = some (r, h9) → W p l e (RM 1 25) s m args below meth c H locs 0 0 (QI E ad h9 g r below args s) (F0 m 59 ls []) := by
  intro h v1 v2 v3 H locs ls w hl hf
  unfold qX7_rule_59 at hf
  refine lv_aload_n C.1 C.2.1 dX7_rule_59 rfl (lv_at hl 0 rfl) ?_
  obtain ⟨h32, eq30, hf⟩ := bi1_e hf
  refine x_cVv (As := []) (rest := []) C X w (c_X7_note hI eq30) mw_X7_note ml_X7_144 rcv_r33 rfl hl.1 rfl (Nat.le_of_ble_eq_true rfl) ⟨⟨Nat.le_of_ble_eq_true rfl, Nat.le_of_ble_eq_true rfl⟩, Nat.le_of_ble_eq_true rfl, Nat.le_of_ble_eq_true rfl⟩ dX7_rule_60 (fun H locs w => ?_)
  refine lv_aload_n C.1 C.2.1 dX7_rule_63 rfl (lv_at hl 0 rfl) ?_
  refine gf_X7_26 C X w rfl dX7_rule_64 ?_
  refine lv_bipush (v := 32) C.1 C.2.1 dX7_rule_67 (by decide) ?_
  refine lv_iload_n C.1 C.2.1 dX7_rule_69 rfl (lv_at hl 1 rfl) ?_
  obtain ⟨h33, eh33, hf⟩ := bd_e hf
  refine x_ist (h2 := su h32 38 (upd (h32 38) 32 v1)) C X hI w (wl_r38 rfl) (by decide) (by rw [show (32 : Int32).toNatClampNeg = 32 by decide]; exact ws_r38) dX7_rule_70 (fun H locs w => ?_)
  replace w := at_eq eh33 w
  refine lv_aload_n C.1 C.2.1 dX7_rule_71 rfl (lv_at hl 0 rfl) ?_
  refine gf_X7_26 C X w rfl dX7_rule_72 ?_
  refine lv_bipush (v := 33) C.1 C.2.1 dX7_rule_75 (by decide) ?_
  refine lv_iload_n C.1 C.2.1 dX7_rule_77 rfl (lv_at hl 2 rfl) ?_
  obtain ⟨h34, eh34, hf⟩ := bd_e hf
  refine x_ist (h2 := su h33 38 (upd (h33 38) 33 v2)) C X hI w (wl_r38 rfl) (by decide) (by rw [show (33 : Int32).toNatClampNeg = 33 by decide]; exact ws_r38) dX7_rule_78 (fun H locs w => ?_)
  replace w := at_eq eh34 w
  refine lv_iload_n C.1 C.2.1 dX7_rule_79 rfl (lv_at hl 3 rfl) ?_
  cases hf
  exact x_iret C hr hlk w dX7_rule_80
def qX7_rule (h : Hp) (x1 : Int32) (x2 : Int32) : Option (Int32 × Hp) :=
(bd (su h 33 (upd (h 33) 0 (0 : Int32))) (fun h21 =>
(bi1 (qX7_in ((x1).toInt64) (0 : Int64) (3 : Int64)) (fun r23 =>
(if r23 = 0 then (some ((-2 : Int32), h21))
else (bi1 (qX7_in ((x2).toInt64) (1 : Int64) (9 : Int64)) (fun r26 =>
(if r26 = 0 then (some ((-2 : Int32), h21))
else (if ((h21 38) 32) = x1 then (if ((h21 38) 33) = x2 then (some ((-3 : Int32), h21))
else (qX7_rule_59 h21 x1 x2 ((h21 38) 32)))
else (qX7_rule_59 h21 x1 x2 ((h21 38) 32)))))))))))
set_option maxHeartbeats 4000000 in
set_option maxRecDepth 100000 in
theorem c_X7_rule {l : Launch} {E : Ev} {ad : Nat → Nat} {g : Gp} {h : Hp} {x1 : Int32} {x2 : Int32} {r : Int32} {h9 : Hp} (hI : Inj ad) (hf : qX7_rule h x1 x2 = some (r, h9)) : CtI l yX7_rule cX7_rule 4 (some .int) 1 25 E ad g g [.ref (ad 141), .int x1, .int x2] h h9 r := by
  refine x_begin (by decide) (Nat.le_of_ble_eq_true rfl) ?_
  intro p e s m below meth c ls C hr hlk X w hl
  replace hl : lv_has ls 4 [(0, .ref (ad 141)), (1, .int x1), (2, .int x2)] := hl
  replace C : CallFix p m c cX7_rule 4 s ([.ref (ad 141), .int x1, .int x2] : List Value).toArray lwA RX7 := C
  unfold qX7_rule at hf
  refine lv_aload_n C.1 C.2.1 dX7_rule_0 rfl (lv_at hl 0 rfl) ?_
  refine lv_iconst (v := 0) C.1 C.2.1 dX7_rule_1 (by decide) ?_
  obtain ⟨h21, eh21, hf⟩ := bd_e hf
  refine pf_X7_51 C X hI w dX7_rule_2 (fun H locs w => ?_)
  replace w := at_eq eh21 w
  refine lv_iload_n C.1 C.2.1 dX7_rule_5 rfl (lv_at hl 1 rfl) ?_
  refine lv_i2l (v := (x1).toInt64) C.1 C.2.1 dX7_rule_6 rfl ?_
  refine lv_lconst (v := 0) C.1 C.2.1 dX7_rule_7 (by decide) ?_
  refine lv_ldc2 (v := 3) C.1 C.2.1 C.2.2.2.1 (C.2.2.2.2 _ wd_constantLong_OneTricycleModel_151_3_Int64_) dX7_rule_8 ?_
  obtain ⟨r23, eq22, hf⟩ := bi1_e hf
  refine x_cSi (As := [.long ((x1).toInt64), .long (0 : Int64), .long (3 : Int64)]) (rest := []) C X w (c_X7_in hI  eq22) mw_X7_in ml_X7_57 rfl hl.1 rfl (Nat.le_of_ble_eq_true rfl) ⟨⟨Nat.le_of_ble_eq_true rfl, Nat.le_of_ble_eq_true rfl⟩, Nat.le_of_ble_eq_true rfl, Nat.le_of_ble_eq_true rfl⟩ dX7_rule_11 (fun H locs w => ?_)
  refine lv_if_eq (tgt := 29) C.1 C.2.1 dX7_rule_14 (by decide) (fun c24 => ?_) (fun c24 => ?_)
  · rw [if_pos c24] at hf
    refine lv_bipush (v := -2) C.1 C.2.1 dX7_rule_29 (by decide) ?_
    cases hf
    exact x_iret C hr hlk w dX7_rule_31
  · rw [if_neg c24] at hf
    refine lv_iload_n C.1 C.2.1 dX7_rule_17 rfl (lv_at hl 2 rfl) ?_
    refine lv_i2l (v := (x2).toInt64) C.1 C.2.1 dX7_rule_18 rfl ?_
    refine lv_lconst (v := 1) C.1 C.2.1 dX7_rule_19 (by decide) ?_
    refine lv_ldc2 (v := 9) C.1 C.2.1 C.2.2.2.1 (C.2.2.2.2 _ wd_constantLong_OneTricycleModel_153_9_Int64_) dX7_rule_20 ?_
    obtain ⟨r26, eq25, hf⟩ := bi1_e hf
    refine x_cSi (As := [.long ((x2).toInt64), .long (1 : Int64), .long (9 : Int64)]) (rest := []) C X w (c_X7_in hI  eq25) mw_X7_in ml_X7_57 rfl hl.1 rfl (Nat.le_of_ble_eq_true rfl) ⟨⟨Nat.le_of_ble_eq_true rfl, Nat.le_of_ble_eq_true rfl⟩, Nat.le_of_ble_eq_true rfl, Nat.le_of_ble_eq_true rfl⟩ dX7_rule_23 (fun H locs w => ?_)
    refine lv_if_ne (tgt := 32) C.1 C.2.1 dX7_rule_26 (by decide) (fun c27 => ?_) (fun c27 => ?_)
    · rw [if_neg c27] at hf
      refine lv_aload_n C.1 C.2.1 dX7_rule_32 rfl (lv_at hl 0 rfl) ?_
      refine gf_X7_26 C X w rfl dX7_rule_33 ?_
      refine lv_bipush (v := 32) C.1 C.2.1 dX7_rule_36 (by decide) ?_
      refine x_ild (v := (h21 38) 32) C X w (wl_r38 (rfl)) (by decide) (congrArg _ (show (32 : Int32).toNatClampNeg = 32 by decide)) dX7_rule_38 ?_
      refine lv_istore_n (lv' := [(3, .int ((h21 38) 32)), (0, .ref (ad 141)), (1, .int x1), (2, .int x2)]) C.1 C.2.1 dX7_rule_39 rfl hl (by decide) rfl (fun ls hl => ?_)
      refine lv_iload_n C.1 C.2.1 dX7_rule_40 rfl (lv_at hl 0 rfl) ?_
      refine lv_iload_n C.1 C.2.1 dX7_rule_41 rfl (lv_at hl 2 rfl) ?_
      refine lv_icmp_ne (tgt := 59) C.1 C.2.1 dX7_rule_42 (by decide) (fun c28 => ?_) (fun c28 => ?_)
      · rw [if_neg c28] at hf
        exact w_X7_rule_59 C hr hlk X hI _ _ _ _ _ _ _ w (lv_sub hl [1, 2, 3, 0] rfl) hf
      · rw [if_pos c28] at hf
        refine lv_aload_n C.1 C.2.1 dX7_rule_45 rfl (lv_at hl 1 rfl) ?_
        refine gf_X7_26 C X w rfl dX7_rule_46 ?_
        refine lv_bipush (v := 33) C.1 C.2.1 dX7_rule_49 (by decide) ?_
        refine x_ild (v := (h21 38) 33) C X w (wl_r38 (rfl)) (by decide) (congrArg _ (show (33 : Int32).toNatClampNeg = 33 by decide)) dX7_rule_51 ?_
        refine lv_iload_n C.1 C.2.1 dX7_rule_52 rfl (lv_at hl 3 rfl) ?_
        refine lv_icmp_ne (tgt := 59) C.1 C.2.1 dX7_rule_53 (by decide) (fun c29 => ?_) (fun c29 => ?_)
        · rw [if_neg c29] at hf
          exact w_X7_rule_59 C hr hlk X hI _ _ _ _ _ _ _ w (lv_sub hl [1, 2, 3, 0] rfl) hf
        · rw [if_pos c29] at hf
          refine lv_bipush (v := -3) C.1 C.2.1 dX7_rule_56 (by decide) ?_
          cases hf
          exact x_iret C hr hlk w dX7_rule_58
    · rw [if_pos c27] at hf
      refine lv_bipush (v := -2) C.1 C.2.1 dX7_rule_29 (by decide) ?_
      cases hf
      exact x_iret C hr hlk w dX7_rule_31

def qX7_put_73 (k27 : Hp → Int32 → Option (Int32 × Hp)) (h : Hp) (v1 : Int32) : Option (Int32 × Hp) :=
(k27 h (v1 + (-1)))
set_option maxHeartbeats 4000000 in
set_option maxRecDepth 100000 in
theorem w_X7_put_73 {p : Program} {l : Launch} {e : Env} {s : State} {m : MethodId} {args : Array Value} {below : List Frame} {meth : Method} {c : Code} {E : Ev} {ad : Nat → Nat} {g : Gp} {r : Int32} {h9 : Hp} {k27 : Hp → Int32 → Option (Int32 × Hp)} (C : CallFix p m c cX7_put 2 s args lwA RX7) (hr : meth.sig.returnType = (some .int)) (hlk : meth.locks = false) (X : Sx E ad s) (hI : Inj ad) (hk27 : ∀ (h : Hp) (v1 : Int32) (H : Heap) (locs : List Loc) (ls : Array Slot), At E ad h g s H locs → lv_has ls 2 [(0, .ref (ad 141)), (1, .int v1)] → k27 h v1 = some (r, h9) → W p l e (RM 1 22) s m args below meth c H locs 0 0 (QI E ad h9 g r below args s) (F0 m 27 ls [])) : ∀ (h : Hp) (v1 : Int32) (H : Heap) (locs : List Loc) (ls : Array Slot), At E ad h g s H locs → lv_has ls 2 [(0, .ref (ad 141)), (1, .int v1)] → qX7_put_73 k27 h v1 = some (r, h9) → W p l e (RM 1 22) s m args below meth c H locs 0 0 (QI E ad h9 g r below args s) (F0 m 73 ls []) := by
  intro h v1 H locs ls w hl hf
  unfold qX7_put_73 at hf
  refine lv_iinc (v := (v1 + (-1))) (lv' := [(1, .int (v1 + (-1))), (0, .ref (ad 141))]) C.1 C.2.1 dX7_put_73 hl (k := 1) rfl (congrArg (fun z => v1 + z) (by decide)) (by decide) rfl (fun ls hl => ?_)
  refine lv_goto (tgt := 27) C.1 C.2.1 dX7_put_76 (by decide) ?_
  exact hk27 _ _ _ _ _ w (lv_sub hl [1, 0] rfl) hf
def qX7_put_27 : Nat → Hp → Int32 → Option (Int32 × Hp)
  | 0, _, _ => none
  | n + 1, h, v1 =>
    (if v1 < 0 then (some (((h 38) 34), h))
    else (bi1 (qX7_has ((h 38) 30) v1) (fun r28 =>
    (if r28 = 0 then (qX7_put_73 (qX7_put_27 n) h v1)
    else (bi1 (qX7_many ((h 38) 30)) (fun r31 =>
    (if r31 ≤ ((h 38) 34) then (qX7_put_73 (qX7_put_27 n) h v1)
    else (bi1 (qX7_getOff (h 38) v1) (fun P35 =>
    (bd (su h 38 P35) (fun h36 =>
    (qX7_put_73 (qX7_put_27 n) h36 v1))))))))))))
set_option maxHeartbeats 4000000 in
set_option maxRecDepth 100000 in
theorem w_X7_put_27 {p : Program} {l : Launch} {e : Env} {s : State} {m : MethodId} {args : Array Value} {below : List Frame} {meth : Method} {c : Code} {E : Ev} {ad : Nat → Nat} {g : Gp} {r : Int32} {h9 : Hp} (C : CallFix p m c cX7_put 2 s args lwA RX7) (hr : meth.sig.returnType = (some .int)) (hlk : meth.locks = false) (X : Sx E ad s) (hI : Inj ad)  : ∀ (n : Nat), ∀ (h : Hp) (v1 : Int32) (H : Heap) (locs : List Loc) (ls : Array Slot), At E ad h g s H locs → lv_has ls 2 [(0, .ref (ad 141)), (1, .int v1)] → qX7_put_27 n h v1 = some (r, h9) → W p l e (RM 1 22) s m args below meth c H locs 0 0 (QI E ad h9 g r below args s) (F0 m 27 ls []) := by
  intro n
  induction n with
  | zero =>
    intro h v1 H locs ls w hl hf
    cases hf
  | succ n ih =>
    intro h v1 H locs ls w hl hf
    rw [qX7_put_27] at hf
    refine lv_iload_n C.1 C.2.1 dX7_put_27 rfl (lv_at hl 1 rfl) ?_
    refine lv_if_lt (tgt := 79) C.1 C.2.1 dX7_put_28 (by decide) (fun c26 => ?_) (fun c26 => ?_)
    · rw [if_pos c26] at hf
      refine lv_aload_n C.1 C.2.1 dX7_put_79 rfl (lv_at hl 0 rfl) ?_
      refine gf_X7_26 C X w rfl dX7_put_80 ?_
      refine lv_bipush (v := 34) C.1 C.2.1 dX7_put_83 (by decide) ?_
      refine x_ild (v := (h 38) 34) C X w (wl_r38 (rfl)) (by decide) (congrArg _ (show (34 : Int32).toNatClampNeg = 34 by decide)) dX7_put_85 ?_
      cases hf
      exact x_iret C hr hlk w dX7_put_86
    · rw [if_neg c26] at hf
      refine lv_aload_n C.1 C.2.1 dX7_put_31 rfl (lv_at hl 0 rfl) ?_
      refine gf_X7_26 C X w rfl dX7_put_32 ?_
      refine lv_bipush (v := 30) C.1 C.2.1 dX7_put_35 (by decide) ?_
      refine x_ild (v := (h 38) 30) C X w (wl_r38 (rfl)) (by decide) (congrArg _ (show (30 : Int32).toNatClampNeg = 30 by decide)) dX7_put_37 ?_
      refine lv_iload_n C.1 C.2.1 dX7_put_38 rfl (lv_at hl 1 rfl) ?_
      obtain ⟨r28, eq27, hf⟩ := bi1_e hf
      refine x_cSi (As := [.int ((h 38) 30), .int v1]) (rest := []) C X w (c_X7_has hI  eq27) mw_X7_has ml_X7_99 rfl hl.1 rfl (Nat.le_of_ble_eq_true rfl) ⟨⟨Nat.le_of_ble_eq_true rfl, Nat.le_of_ble_eq_true rfl⟩, Nat.le_of_ble_eq_true rfl, Nat.le_of_ble_eq_true rfl⟩ dX7_put_39 (fun H locs w => ?_)
      refine lv_if_eq (tgt := 73) C.1 C.2.1 dX7_put_42 (by decide) (fun c29 => ?_) (fun c29 => ?_)
      · rw [if_pos c29] at hf
        exact w_X7_put_73 C hr hlk X hI ih _ _ _ _ _ w (lv_sub hl [0, 1] rfl) hf
      · rw [if_neg c29] at hf
        refine lv_aload_n C.1 C.2.1 dX7_put_45 rfl (lv_at hl 0 rfl) ?_
        refine gf_X7_26 C X w rfl dX7_put_46 ?_
        refine lv_bipush (v := 30) C.1 C.2.1 dX7_put_49 (by decide) ?_
        refine x_ild (v := (h 38) 30) C X w (wl_r38 (rfl)) (by decide) (congrArg _ (show (30 : Int32).toNatClampNeg = 30 by decide)) dX7_put_51 ?_
        obtain ⟨r31, eq30, hf⟩ := bi1_e hf
        refine x_cSi (As := [.int ((h 38) 30)]) (rest := []) C X w (c_X7_many hI  eq30) mw_X7_many ml_X7_128 rfl hl.1 rfl (Nat.le_of_ble_eq_true rfl) ⟨⟨Nat.le_of_ble_eq_true rfl, Nat.le_of_ble_eq_true rfl⟩, Nat.le_of_ble_eq_true rfl, Nat.le_of_ble_eq_true rfl⟩ dX7_put_52 (fun H locs w => ?_)
        refine lv_aload_n C.1 C.2.1 dX7_put_55 rfl (lv_at hl 0 rfl) ?_
        refine gf_X7_26 C X w rfl dX7_put_56 ?_
        refine lv_bipush (v := 34) C.1 C.2.1 dX7_put_59 (by decide) ?_
        refine x_ild (v := (h 38) 34) C X w (wl_r38 (rfl)) (by decide) (congrArg _ (show (34 : Int32).toNatClampNeg = 34 by decide)) dX7_put_61 ?_
        refine lv_icmp_le (tgt := 73) C.1 C.2.1 dX7_put_62 (by decide) (fun c32 => ?_) (fun c32 => ?_)
        · rw [if_pos c32] at hf
          exact w_X7_put_73 C hr hlk X hI ih _ _ _ _ _ w (lv_sub hl [0, 1] rfl) hf
        · rw [if_neg c32] at hf
          refine lv_aload_n C.1 C.2.1 dX7_put_65 rfl (lv_at hl 0 rfl) ?_
          refine gf_X7_26 C X w rfl dX7_put_66 ?_
          refine lv_iload_n C.1 C.2.1 dX7_put_69 rfl (lv_at hl 1 rfl) ?_
          obtain ⟨P35, eq33, hf⟩ := bi1_e hf
          obtain ⟨h36, eh36, hf⟩ := bd_e hf
          refine x_cSv (As := [.ref (ad 146), .int v1]) (rest := []) C X (at_su 38 w) (c_X7_getOff hI (Or.inl rfl) eq33) mw_X7_getOff ml_X7_121 rfl hl.1 rfl (Nat.le_of_ble_eq_true rfl) ⟨⟨Nat.le_of_ble_eq_true rfl, Nat.le_of_ble_eq_true rfl⟩, Nat.le_of_ble_eq_true rfl, Nat.le_of_ble_eq_true rfl⟩ dX7_put_70 (fun H locs w => ?_)
          replace w := at_eq eh36 w
          exact w_X7_put_73 C hr hlk X hI ih _ _ _ _ _ w (lv_sub hl [0, 1] rfl) hf
def qX7_put (h : Hp) : Option (Int32 × Hp) :=
(bd (su h 33 (upd (h 33) 0 (0 : Int32))) (fun h21 =>
(bi1 (qX7_note h21) (fun h24 =>
(bd (su h24 38 (upd (h24 38) 34 ((3 : Int32) - ((h24 38) 34)))) (fun h25 =>
(qX7_put_27 600 h25 (4 : Int32))))))))
set_option maxHeartbeats 4000000 in
set_option maxRecDepth 100000 in
theorem c_X7_put {l : Launch} {E : Ev} {ad : Nat → Nat} {g : Gp} {h : Hp} {r : Int32} {h9 : Hp} (hI : Inj ad) (hf : qX7_put h = some (r, h9)) : CtI l yX7_put cX7_put 2 (some .int) 1 22 E ad g g [.ref (ad 141)] h h9 r := by
  refine x_begin (by decide) (Nat.le_of_ble_eq_true rfl) ?_
  intro p e s m below meth c ls C hr hlk X w hl
  replace hl : lv_has ls 2 [(0, .ref (ad 141))] := hl
  replace C : CallFix p m c cX7_put 2 s ([.ref (ad 141)] : List Value).toArray lwA RX7 := C
  unfold qX7_put at hf
  refine lv_aload_n C.1 C.2.1 dX7_put_0 rfl (lv_at hl 0 rfl) ?_
  refine lv_iconst (v := 0) C.1 C.2.1 dX7_put_1 (by decide) ?_
  obtain ⟨h21, eh21, hf⟩ := bd_e hf
  refine pf_X7_51 C X hI w dX7_put_2 (fun H locs w => ?_)
  replace w := at_eq eh21 w
  refine lv_aload_n C.1 C.2.1 dX7_put_5 rfl (lv_at hl 0 rfl) ?_
  obtain ⟨h24, eq22, hf⟩ := bi1_e hf
  refine x_cVv (As := []) (rest := []) C X w (c_X7_note hI eq22) mw_X7_note ml_X7_144 rcv_r33 rfl hl.1 rfl (Nat.le_of_ble_eq_true rfl) ⟨⟨Nat.le_of_ble_eq_true rfl, Nat.le_of_ble_eq_true rfl⟩, Nat.le_of_ble_eq_true rfl, Nat.le_of_ble_eq_true rfl⟩ dX7_put_6 (fun H locs w => ?_)
  refine lv_aload_n C.1 C.2.1 dX7_put_9 rfl (lv_at hl 0 rfl) ?_
  refine gf_X7_26 C X w rfl dX7_put_10 ?_
  refine lv_bipush (v := 34) C.1 C.2.1 dX7_put_13 (by decide) ?_
  refine lv_iconst (v := 3) C.1 C.2.1 dX7_put_15 (by decide) ?_
  refine lv_aload_n C.1 C.2.1 dX7_put_16 rfl (lv_at hl 0 rfl) ?_
  refine gf_X7_26 C X w rfl dX7_put_17 ?_
  refine lv_bipush (v := 34) C.1 C.2.1 dX7_put_20 (by decide) ?_
  refine x_ild (v := (h24 38) 34) C X w (wl_r38 (rfl)) (by decide) (congrArg _ (show (34 : Int32).toNatClampNeg = 34 by decide)) dX7_put_22 ?_
  refine lv_isub C.1 C.2.1 dX7_put_23 ?_
  obtain ⟨h25, eh25, hf⟩ := bd_e hf
  refine x_ist (h2 := su h24 38 (upd (h24 38) 34 ((3 : Int32) - ((h24 38) 34)))) C X hI w (wl_r38 rfl) (by decide) (by rw [show (34 : Int32).toNatClampNeg = 34 by decide]; exact ws_r38) dX7_put_24 (fun H locs w => ?_)
  replace w := at_eq eh25 w
  refine lv_iconst (v := 4) C.1 C.2.1 dX7_put_25 (by decide) ?_
  refine lv_istore_n (lv' := [(1, .int (4 : Int32)), (0, .ref (ad 141))]) C.1 C.2.1 dX7_put_26 rfl hl (by decide) rfl (fun ls hl => ?_)
  exact w_X7_put_27 C hr hlk X hI 600 _ _ _ _ _ w (lv_sub hl [1, 0] rfl) hf

def qX7_undo_27 : Nat → Hp → Int32 → Option (Int32 × Hp)
  | 0, _, _ => none
  | n + 1, h, v1 =>
    (if (36 : Int32) ≤ v1 then (some (((h 33) 15), h))
    else (ck (inb (((36 : Int32) * ((h 33) 15)) + v1) 504) ((ck (inb v1 36) (bd (su h 38 (upd (h 38) v1.toNatClampNeg ((h 40) ((((36 : Int32) * ((h 33) 15)) + v1)).toNatClampNeg))) (fun h27 =>
    (qX7_undo_27 n h27 (v1 + 1))))))))
set_option maxHeartbeats 4000000 in
set_option maxRecDepth 100000 in
theorem w_X7_undo_27 {p : Program} {l : Launch} {e : Env} {s : State} {m : MethodId} {args : Array Value} {below : List Frame} {meth : Method} {c : Code} {E : Ev} {ad : Nat → Nat} {g : Gp} {r : Int32} {h9 : Hp} (C : CallFix p m c cX7_undo 2 s args lwA RX7) (hr : meth.sig.returnType = (some .int)) (hlk : meth.locks = false) (X : Sx E ad s) (hI : Inj ad)  : ∀ (n : Nat), ∀ (h : Hp) (v1 : Int32) (H : Heap) (locs : List Loc) (ls : Array Slot), At E ad h g s H locs → lv_has ls 2 [(0, .ref (ad 141)), (1, .int v1)] → qX7_undo_27 n h v1 = some (r, h9) → W p l e (RM 0 0) s m args below meth c H locs 0 0 (QI E ad h9 g r below args s) (F0 m 27 ls []) := by
  intro n
  induction n with
  | zero =>
    intro h v1 H locs ls w hl hf
    cases hf
  | succ n ih =>
    intro h v1 H locs ls w hl hf
    rw [qX7_undo_27] at hf
    refine lv_iload_n C.1 C.2.1 dX7_undo_27 rfl (lv_at hl 1 rfl) ?_
    refine lv_bipush (v := 36) C.1 C.2.1 dX7_undo_28 (by decide) ?_
    refine lv_icmp_ge (tgt := 59) C.1 C.2.1 dX7_undo_30 (by decide) (fun c24 => ?_) (fun c24 => ?_)
    · rw [if_pos c24] at hf
      refine lv_aload_n C.1 C.2.1 dX7_undo_59 rfl (lv_at hl 0 rfl) ?_
      refine gf_X7_93 C X w (rfl) dX7_undo_60 ?_
      cases hf
      exact x_iret C hr hlk w dX7_undo_63
    · rw [if_neg c24] at hf
      refine lv_aload_n C.1 C.2.1 dX7_undo_33 rfl (lv_at hl 0 rfl) ?_
      refine gf_X7_26 C X w rfl dX7_undo_34 ?_
      refine lv_iload_n C.1 C.2.1 dX7_undo_37 rfl (lv_at hl 1 rfl) ?_
      refine lv_aload_n C.1 C.2.1 dX7_undo_38 rfl (lv_at hl 0 rfl) ?_
      refine gf_X7_32 C X w rfl dX7_undo_39 ?_
      refine lv_bipush (v := 36) C.1 C.2.1 dX7_undo_42 (by decide) ?_
      refine lv_aload_n C.1 C.2.1 dX7_undo_44 rfl (lv_at hl 0 rfl) ?_
      refine gf_X7_93 C X w (rfl) dX7_undo_45 ?_
      refine lv_imul C.1 C.2.1 dX7_undo_48 ?_
      refine lv_iload_n C.1 C.2.1 dX7_undo_49 rfl (lv_at hl 1 rfl) ?_
      refine lv_iadd C.1 C.2.1 dX7_undo_50 ?_
      obtain ⟨i25, hf⟩ := ck_e hf
      refine x_ild (v := (h 40) ((((36 : Int32) * ((h 33) 15)) + v1)).toNatClampNeg) C X w (wl_r40 (rfl)) i25 (rfl) dX7_undo_51 ?_
      obtain ⟨i26, hf⟩ := ck_e hf
      obtain ⟨h27, eh27, hf⟩ := bd_e hf
      refine x_ist (h2 := su h 38 (upd (h 38) v1.toNatClampNeg ((h 40) ((((36 : Int32) * ((h 33) 15)) + v1)).toNatClampNeg))) C X hI w (wl_r38 rfl) i26 ws_r38 dX7_undo_52 (fun H locs w => ?_)
      replace w := at_eq eh27 w
      refine lv_iinc (v := (v1 + 1)) (lv' := [(1, .int (v1 + 1)), (0, .ref (ad 141))]) C.1 C.2.1 dX7_undo_53 hl (k := 1) rfl (congrArg (fun z => v1 + z) (by decide)) (by decide) rfl (fun ls hl => ?_)
      refine lv_goto (tgt := 27) C.1 C.2.1 dX7_undo_56 (by decide) ?_
      exact ih _ _ _ _ _ w (lv_sub hl [1, 0] rfl) hf
def qX7_undo (h : Hp) : Option (Int32 × Hp) :=
(bd (su h 33 (upd (h 33) 0 (0 : Int32))) (fun h21 =>
(if ((h21 33) 15) = 0 then (some ((-3 : Int32), h21))
else (bd (su h21 33 (upd (h21 33) 15 (((h21 33) 15) - (1 : Int32)))) (fun h23 =>
(qX7_undo_27 600 h23 (0 : Int32)))))))
set_option maxHeartbeats 4000000 in
set_option maxRecDepth 100000 in
theorem c_X7_undo {l : Launch} {E : Ev} {ad : Nat → Nat} {g : Gp} {h : Hp} {r : Int32} {h9 : Hp} (hI : Inj ad) (hf : qX7_undo h = some (r, h9)) : CtI l yX7_undo cX7_undo 2 (some .int) 0 0 E ad g g [.ref (ad 141)] h h9 r := by
  refine x_begin (by decide) (Nat.le_of_ble_eq_true rfl) ?_
  intro p e s m below meth c ls C hr hlk X w hl
  replace hl : lv_has ls 2 [(0, .ref (ad 141))] := hl
  replace C : CallFix p m c cX7_undo 2 s ([.ref (ad 141)] : List Value).toArray lwA RX7 := C
  unfold qX7_undo at hf
  refine lv_aload_n C.1 C.2.1 dX7_undo_0 rfl (lv_at hl 0 rfl) ?_
  refine lv_iconst (v := 0) C.1 C.2.1 dX7_undo_1 (by decide) ?_
  obtain ⟨h21, eh21, hf⟩ := bd_e hf
  refine pf_X7_51 C X hI w dX7_undo_2 (fun H locs w => ?_)
  replace w := at_eq eh21 w
  refine lv_aload_n C.1 C.2.1 dX7_undo_5 rfl (lv_at hl 0 rfl) ?_
  refine gf_X7_93 C X w (rfl) dX7_undo_6 ?_
  refine lv_if_ne (tgt := 15) C.1 C.2.1 dX7_undo_9 (by decide) (fun c22 => ?_) (fun c22 => ?_)
  · rw [if_neg c22] at hf
    refine lv_aload_n C.1 C.2.1 dX7_undo_15 rfl (lv_at hl 0 rfl) ?_
    refine lv_dup C.1 C.2.1 dX7_undo_16 rfl ?_
    refine gf_X7_93 C X w (rfl) dX7_undo_17 ?_
    refine lv_iconst (v := 1) C.1 C.2.1 dX7_undo_20 (by decide) ?_
    refine lv_isub C.1 C.2.1 dX7_undo_21 ?_
    obtain ⟨h23, eh23, hf⟩ := bd_e hf
    refine pf_X7_93 C X hI w dX7_undo_22 (fun H locs w => ?_)
    replace w := at_eq eh23 w
    refine lv_iconst (v := 0) C.1 C.2.1 dX7_undo_25 (by decide) ?_
    refine lv_istore_n (lv' := [(1, .int (0 : Int32)), (0, .ref (ad 141))]) C.1 C.2.1 dX7_undo_26 rfl hl (by decide) rfl (fun ls hl => ?_)
    exact w_X7_undo_27 C hr hlk X hI 600 _ _ _ _ _ w (lv_sub hl [1, 0] rfl) hf
  · rw [if_pos c22] at hf
    refine lv_bipush (v := -3) C.1 C.2.1 dX7_undo_12 (by decide) ?_
    cases hf
    exact x_iret C hr hlk w dX7_undo_14

def qX7_begin_10 : Nat → Hp → Int32 → Option (Hp)
  | 0, _, _ => none
  | n + 1, h, v1 =>
    (if (36 : Int32) ≤ v1 then (some h)
    else (ck (inb v1 36) ((ck (inb v1 36) (bd (su h 39 (upd (h 39) v1.toNatClampNeg ((h 38) v1.toNatClampNeg))) (fun h27 =>
    (qX7_begin_10 n h27 (v1 + 1))))))))
set_option maxHeartbeats 4000000 in
set_option maxRecDepth 100000 in
theorem w_X7_begin_10 {p : Program} {l : Launch} {e : Env} {s : State} {m : MethodId} {args : Array Value} {below : List Frame} {meth : Method} {c : Code} {E : Ev} {ad : Nat → Nat} {g : Gp} {h9 : Hp} (C : CallFix p m c cX7_begin 2 s args lwA RX7) (hr : meth.sig.returnType = none) (hlk : meth.locks = false) (X : Sx E ad s) (hI : Inj ad)  : ∀ (n : Nat), ∀ (h : Hp) (v1 : Int32) (H : Heap) (locs : List Loc) (ls : Array Slot), At E ad h g s H locs → lv_has ls 2 [(0, .ref (ad 141)), (1, .int v1)] → qX7_begin_10 n h v1 = some h9 → W p l e (RM 1 20) s m args below meth c H locs 0 0 (QV E ad h9 g below args s) (F0 m 10 ls []) := by
  intro n
  induction n with
  | zero =>
    intro h v1 H locs ls w hl hf
    cases hf
  | succ n ih =>
    intro h v1 H locs ls w hl hf
    rw [qX7_begin_10] at hf
    refine lv_iload_n C.1 C.2.1 dX7_begin_10 rfl (lv_at hl 1 rfl) ?_
    refine lv_bipush (v := 36) C.1 C.2.1 dX7_begin_11 (by decide) ?_
    refine lv_icmp_ge (tgt := 34) C.1 C.2.1 dX7_begin_13 (by decide) (fun c24 => ?_) (fun c24 => ?_)
    · rw [if_pos c24] at hf
      cases hf
      exact x_vret C hr hlk w dX7_begin_34
    · rw [if_neg c24] at hf
      refine lv_aload_n C.1 C.2.1 dX7_begin_16 rfl (lv_at hl 0 rfl) ?_
      refine gf_X7_29 C X w rfl dX7_begin_17 ?_
      refine lv_iload_n C.1 C.2.1 dX7_begin_20 rfl (lv_at hl 1 rfl) ?_
      refine lv_aload_n C.1 C.2.1 dX7_begin_21 rfl (lv_at hl 0 rfl) ?_
      refine gf_X7_26 C X w rfl dX7_begin_22 ?_
      refine lv_iload_n C.1 C.2.1 dX7_begin_25 rfl (lv_at hl 1 rfl) ?_
      obtain ⟨i25, hf⟩ := ck_e hf
      refine x_ild (v := (h 38) v1.toNatClampNeg) C X w (wl_r38 (rfl)) i25 (rfl) dX7_begin_26 ?_
      obtain ⟨i26, hf⟩ := ck_e hf
      obtain ⟨h27, eh27, hf⟩ := bd_e hf
      refine x_ist (h2 := su h 39 (upd (h 39) v1.toNatClampNeg ((h 38) v1.toNatClampNeg))) C X hI w (wl_r39 rfl) i26 ws_r39 dX7_begin_27 (fun H locs w => ?_)
      replace w := at_eq eh27 w
      refine lv_iinc (v := (v1 + 1)) (lv' := [(1, .int (v1 + 1)), (0, .ref (ad 141))]) C.1 C.2.1 dX7_begin_28 hl (k := 1) rfl (congrArg (fun z => v1 + z) (by decide)) (by decide) rfl (fun ls hl => ?_)
      refine lv_goto (tgt := 10) C.1 C.2.1 dX7_begin_31 (by decide) ?_
      exact ih _ _ _ _ _ w (lv_sub hl [1, 0] rfl) hf
def qX7_begin (h : Hp) : Option (Hp) :=
(bi1 (qX7_all (h 33)) (fun r22 =>
(bd (su h 33 (upd (h 33) 25 r22)) (fun h23 =>
(qX7_begin_10 600 h23 (0 : Int32))))))
set_option maxHeartbeats 4000000 in
set_option maxRecDepth 100000 in
theorem c_X7_begin {l : Launch} {E : Ev} {ad : Nat → Nat} {g : Gp} {h : Hp} {h9 : Hp} (hI : Inj ad) (hf : qX7_begin h = some h9) : CtV l yX7_begin cX7_begin 2 none 1 20 E ad g g [.ref (ad 141)] h h9 := by
  refine x_begin (by decide) (Nat.le_of_ble_eq_true rfl) ?_
  intro p e s m below meth c ls C hr hlk X w hl
  replace hl : lv_has ls 2 [(0, .ref (ad 141))] := hl
  replace C : CallFix p m c cX7_begin 2 s ([.ref (ad 141)] : List Value).toArray lwA RX7 := C
  unfold qX7_begin at hf
  refine lv_aload_n C.1 C.2.1 dX7_begin_0 rfl (lv_at hl 0 rfl) ?_
  refine lv_aload_n C.1 C.2.1 dX7_begin_1 rfl (lv_at hl 0 rfl) ?_
  obtain ⟨r22, eq21, hf⟩ := bi1_e hf
  refine x_cVi (As := []) (rest := [.ref (ad 141)]) C X w (c_X7_all hI (rfl) eq21) mw_X7_all ml_X7_134 rcv_r33 rfl hl.1 rfl (Nat.le_of_ble_eq_true rfl) ⟨⟨Nat.le_of_ble_eq_true rfl, Nat.le_of_ble_eq_true rfl⟩, Nat.le_of_ble_eq_true rfl, Nat.le_of_ble_eq_true rfl⟩ dX7_begin_2 (fun H locs w => ?_)
  obtain ⟨h23, eh23, hf⟩ := bd_e hf
  refine pf_X7_96 C X hI w dX7_begin_5 (fun H locs w => ?_)
  replace w := at_eq eh23 w
  refine lv_iconst (v := 0) C.1 C.2.1 dX7_begin_8 (by decide) ?_
  refine lv_istore_n (lv' := [(1, .int (0 : Int32)), (0, .ref (ad 141))]) C.1 C.2.1 dX7_begin_9 rfl hl (by decide) rfl (fun ls hl => ?_)
  exact w_X7_begin_10 C hr hlk X hI 600 _ _ _ _ _ w (lv_sub hl [1, 0] rfl) hf

def qX7_go_23 : Nat → Hp → Int32 → Int32 → Option (Hp)
  | 0, _, _, _ => none
  | n + 1, h, v3, v4 =>
    (if v3 ≤ v4 then (some h)
    else (bi1 (qX7_goMinute (h 33) (h 35) (h 36) (h 39)) (fun P29 =>
    (bd (su h 39 P29) (fun h30 =>
    (qX7_go_23 n h30 v3 (v4 + 1)))))))
set_option maxHeartbeats 4000000 in
set_option maxRecDepth 100000 in
theorem w_X7_go_23 {p : Program} {l : Launch} {e : Env} {s : State} {m : MethodId} {args : Array Value} {below : List Frame} {meth : Method} {c : Code} {E : Ev} {ad : Nat → Nat} {g : Gp} {h9 : Hp} (C : CallFix p m c cX7_go 5 s args lwA RX7) (hr : meth.sig.returnType = none) (hlk : meth.locks = false) (X : Sx E ad s) (hI : Inj ad)  : ∀ (n : Nat), ∀ (h : Hp) (v3 : Int32) (v4 : Int32) (H : Heap) (locs : List Loc) (ls : Array Slot), At E ad h g s H locs → lv_has ls 5 [(0, .ref (ad 141)), (3, .int v3), (4, .int v4)] → qX7_go_23 n h v3 v4 = some h9 → W p l e (RM 6 140) s m args below meth c H locs 0 0 (QV E ad h9 g below args s) (F0 m 23 ls []) := by
  intro n
  induction n with
  | zero =>
    intro h v3 v4 H locs ls w hl hf
    cases hf
  | succ n ih =>
    intro h v3 v4 H locs ls w hl hf
    rw [qX7_go_23] at hf
    refine lv_iload C.1 C.2.1 dX7_go_23 (lv_at hl 2 rfl) ?_
    refine lv_iload_n C.1 C.2.1 dX7_go_25 rfl (lv_at hl 1 rfl) ?_
    refine lv_icmp_ge (tgt := 43) C.1 C.2.1 dX7_go_26 (by decide) (fun c26 => ?_) (fun c26 => ?_)
    · rw [if_pos c26] at hf
      cases hf
      exact x_vret C hr hlk w dX7_go_43
    · rw [if_neg c26] at hf
      refine lv_aload_n C.1 C.2.1 dX7_go_29 rfl (lv_at hl 0 rfl) ?_
      refine lv_aload_n C.1 C.2.1 dX7_go_30 rfl (lv_at hl 0 rfl) ?_
      refine gf_X7_29 C X w rfl dX7_go_31 ?_
      obtain ⟨P29, eq27, hf⟩ := bi1_e hf
      obtain ⟨h30, eh30, hf⟩ := bd_e hf
      refine x_cVv (As := [.ref (ad 147)]) (rest := []) C X (at_su 39 w) (c_X7_goMinute hI (Or.inr rfl) eq27) mw_X7_goMinute ml_X7_147 rcv_r33 rfl hl.1 rfl (Nat.le_of_ble_eq_true rfl) ⟨⟨Nat.le_of_ble_eq_true rfl, Nat.le_of_ble_eq_true rfl⟩, Nat.le_of_ble_eq_true rfl, Nat.le_of_ble_eq_true rfl⟩ dX7_go_34 (fun H locs w => ?_)
      replace w := at_eq eh30 w
      refine lv_iinc (v := (v4 + 1)) (lv' := [(4, .int (v4 + 1)), (0, .ref (ad 141)), (3, .int v3)]) C.1 C.2.1 dX7_go_37 hl (k := 2) rfl (congrArg (fun z => v4 + z) (by decide)) (by decide) rfl (fun ls hl => ?_)
      refine lv_goto (tgt := 23) C.1 C.2.1 dX7_go_40 (by decide) ?_
      exact ih _ _ _ _ _ _ w (lv_sub hl [1, 2, 0] rfl) hf
def qX7_go (h : Hp) (x1 : Int32) (x2 : Int32) (x3 : Int32) : Option (Hp) :=
(bi1 (qX7_begin h) (fun h23 =>
(bd (su h23 39 (upd (h23 39) 32 x1)) (fun h24 =>
(bd (su h24 39 (upd (h24 39) 33 x2)) (fun h25 =>
(qX7_go_23 600 h25 x3 (0 : Int32))))))))
set_option maxHeartbeats 4000000 in
set_option maxRecDepth 100000 in
theorem c_X7_go {l : Launch} {E : Ev} {ad : Nat → Nat} {g : Gp} {h : Hp} {x1 : Int32} {x2 : Int32} {x3 : Int32} {h9 : Hp} (hI : Inj ad) (hf : qX7_go h x1 x2 x3 = some h9) : CtV l yX7_go cX7_go 5 none 6 140 E ad g g [.ref (ad 141), .int x1, .int x2, .int x3] h h9 := by
  refine x_begin (by decide) (Nat.le_of_ble_eq_true rfl) ?_
  intro p e s m below meth c ls C hr hlk X w hl
  replace hl : lv_has ls 5 [(0, .ref (ad 141)), (1, .int x1), (2, .int x2), (3, .int x3)] := hl
  replace C : CallFix p m c cX7_go 5 s ([.ref (ad 141), .int x1, .int x2, .int x3] : List Value).toArray lwA RX7 := C
  unfold qX7_go at hf
  refine lv_aload_n C.1 C.2.1 dX7_go_0 rfl (lv_at hl 0 rfl) ?_
  obtain ⟨h23, eq21, hf⟩ := bi1_e hf
  refine x_cVv (As := []) (rest := []) C X w (c_X7_begin hI eq21) mw_X7_begin ml_X7_155 rcv_r33 rfl hl.1 rfl (Nat.le_of_ble_eq_true rfl) ⟨⟨Nat.le_of_ble_eq_true rfl, Nat.le_of_ble_eq_true rfl⟩, Nat.le_of_ble_eq_true rfl, Nat.le_of_ble_eq_true rfl⟩ dX7_go_1 (fun H locs w => ?_)
  refine lv_aload_n C.1 C.2.1 dX7_go_4 rfl (lv_at hl 0 rfl) ?_
  refine gf_X7_29 C X w rfl dX7_go_5 ?_
  refine lv_bipush (v := 32) C.1 C.2.1 dX7_go_8 (by decide) ?_
  refine lv_iload_n C.1 C.2.1 dX7_go_10 rfl (lv_at hl 1 rfl) ?_
  obtain ⟨h24, eh24, hf⟩ := bd_e hf
  refine x_ist (h2 := su h23 39 (upd (h23 39) 32 x1)) C X hI w (wl_r39 rfl) (by decide) (by rw [show (32 : Int32).toNatClampNeg = 32 by decide]; exact ws_r39) dX7_go_11 (fun H locs w => ?_)
  replace w := at_eq eh24 w
  refine lv_aload_n C.1 C.2.1 dX7_go_12 rfl (lv_at hl 0 rfl) ?_
  refine gf_X7_29 C X w rfl dX7_go_13 ?_
  refine lv_bipush (v := 33) C.1 C.2.1 dX7_go_16 (by decide) ?_
  refine lv_iload_n C.1 C.2.1 dX7_go_18 rfl (lv_at hl 2 rfl) ?_
  obtain ⟨h25, eh25, hf⟩ := bd_e hf
  refine x_ist (h2 := su h24 39 (upd (h24 39) 33 x2)) C X hI w (wl_r39 rfl) (by decide) (by rw [show (33 : Int32).toNatClampNeg = 33 by decide]; exact ws_r39) dX7_go_19 (fun H locs w => ?_)
  replace w := at_eq eh25 w
  refine lv_iconst (v := 0) C.1 C.2.1 dX7_go_20 (by decide) ?_
  refine lv_istore (lv' := [(4, .int (0 : Int32)), (0, .ref (ad 141)), (1, .int x1), (2, .int x2), (3, .int x3)]) C.1 C.2.1 dX7_go_21 hl (by decide) rfl (fun ls hl => ?_)
  exact w_X7_go_23 C hr hlk X hI 600 _ _ _ _ _ _ w (lv_sub hl [1, 4, 0] rfl) hf

def qX7_ahead (h : Hp) (x1 : Int32) (x2 : Int32) : Option (Int32 × Hp) :=
(bd (su h 33 (upd (h 33) 0 (0 : Int32))) (fun h21 =>
(bi1 (qX7_in ((x1).toInt64) (0 : Int64) (60 : Int64)) (fun r23 =>
(if r23 = 0 then (some ((-2 : Int32), h21))
else (bi1 (qX7_in ((x2).toInt64) (0 : Int64) (3 : Int64)) (fun r26 =>
(if r26 = 0 then (some ((-2 : Int32), h21))
else (bi1 (qX7_go h21 ((h21 38) 32) ((h21 38) 33) x1) (fun h30 =>
(bi1 (qX7_toldOf (h30 33) (h30 39) x2) (fun r32 =>
(some (r32, h30))))))))))))))
set_option maxHeartbeats 4000000 in
set_option maxRecDepth 100000 in
theorem c_X7_ahead {l : Launch} {E : Ev} {ad : Nat → Nat} {g : Gp} {h : Hp} {x1 : Int32} {x2 : Int32} {r : Int32} {h9 : Hp} (hI : Inj ad) (hf : qX7_ahead h x1 x2 = some (r, h9)) : CtI l yX7_ahead cX7_ahead 3 (some .int) 7 164 E ad g g [.ref (ad 141), .int x1, .int x2] h h9 r := by
  refine x_begin (by decide) (Nat.le_of_ble_eq_true rfl) ?_
  intro p e s m below meth c ls C hr hlk X w hl
  replace hl : lv_has ls 3 [(0, .ref (ad 141)), (1, .int x1), (2, .int x2)] := hl
  replace C : CallFix p m c cX7_ahead 3 s ([.ref (ad 141), .int x1, .int x2] : List Value).toArray lwA RX7 := C
  unfold qX7_ahead at hf
  refine lv_aload_n C.1 C.2.1 dX7_ahead_0 rfl (lv_at hl 0 rfl) ?_
  refine lv_iconst (v := 0) C.1 C.2.1 dX7_ahead_1 (by decide) ?_
  obtain ⟨h21, eh21, hf⟩ := bd_e hf
  refine pf_X7_51 C X hI w dX7_ahead_2 (fun H locs w => ?_)
  replace w := at_eq eh21 w
  refine lv_iload_n C.1 C.2.1 dX7_ahead_5 rfl (lv_at hl 1 rfl) ?_
  refine lv_i2l (v := (x1).toInt64) C.1 C.2.1 dX7_ahead_6 rfl ?_
  refine lv_lconst (v := 0) C.1 C.2.1 dX7_ahead_7 (by decide) ?_
  refine lv_ldc2 (v := 60) C.1 C.2.1 C.2.2.2.1 (C.2.2.2.2 _ wd_constantLong_OneTricycleModel_164_60_Int64_) dX7_ahead_8 ?_
  obtain ⟨r23, eq22, hf⟩ := bi1_e hf
  refine x_cSi (As := [.long ((x1).toInt64), .long (0 : Int64), .long (60 : Int64)]) (rest := []) C X w (c_X7_in hI  eq22) mw_X7_in ml_X7_57 rfl hl.1 rfl (Nat.le_of_ble_eq_true rfl) ⟨⟨Nat.le_of_ble_eq_true rfl, Nat.le_of_ble_eq_true rfl⟩, Nat.le_of_ble_eq_true rfl, Nat.le_of_ble_eq_true rfl⟩ dX7_ahead_11 (fun H locs w => ?_)
  refine lv_if_eq (tgt := 29) C.1 C.2.1 dX7_ahead_14 (by decide) (fun c24 => ?_) (fun c24 => ?_)
  · rw [if_pos c24] at hf
    refine lv_bipush (v := -2) C.1 C.2.1 dX7_ahead_29 (by decide) ?_
    cases hf
    exact x_iret C hr hlk w dX7_ahead_31
  · rw [if_neg c24] at hf
    refine lv_iload_n C.1 C.2.1 dX7_ahead_17 rfl (lv_at hl 2 rfl) ?_
    refine lv_i2l (v := (x2).toInt64) C.1 C.2.1 dX7_ahead_18 rfl ?_
    refine lv_lconst (v := 0) C.1 C.2.1 dX7_ahead_19 (by decide) ?_
    refine lv_ldc2 (v := 3) C.1 C.2.1 C.2.2.2.1 (C.2.2.2.2 _ wd_constantLong_OneTricycleModel_151_3_Int64_) dX7_ahead_20 ?_
    obtain ⟨r26, eq25, hf⟩ := bi1_e hf
    refine x_cSi (As := [.long ((x2).toInt64), .long (0 : Int64), .long (3 : Int64)]) (rest := []) C X w (c_X7_in hI  eq25) mw_X7_in ml_X7_57 rfl hl.1 rfl (Nat.le_of_ble_eq_true rfl) ⟨⟨Nat.le_of_ble_eq_true rfl, Nat.le_of_ble_eq_true rfl⟩, Nat.le_of_ble_eq_true rfl, Nat.le_of_ble_eq_true rfl⟩ dX7_ahead_23 (fun H locs w => ?_)
    refine lv_if_ne (tgt := 32) C.1 C.2.1 dX7_ahead_26 (by decide) (fun c27 => ?_) (fun c27 => ?_)
    · rw [if_neg c27] at hf
      refine lv_aload_n C.1 C.2.1 dX7_ahead_32 rfl (lv_at hl 0 rfl) ?_
      refine lv_aload_n C.1 C.2.1 dX7_ahead_33 rfl (lv_at hl 0 rfl) ?_
      refine gf_X7_26 C X w rfl dX7_ahead_34 ?_
      refine lv_bipush (v := 32) C.1 C.2.1 dX7_ahead_37 (by decide) ?_
      refine x_ild (v := (h21 38) 32) C X w (wl_r38 (rfl)) (by decide) (congrArg _ (show (32 : Int32).toNatClampNeg = 32 by decide)) dX7_ahead_39 ?_
      refine lv_aload_n C.1 C.2.1 dX7_ahead_40 rfl (lv_at hl 0 rfl) ?_
      refine gf_X7_26 C X w rfl dX7_ahead_41 ?_
      refine lv_bipush (v := 33) C.1 C.2.1 dX7_ahead_44 (by decide) ?_
      refine x_ild (v := (h21 38) 33) C X w (wl_r38 (rfl)) (by decide) (congrArg _ (show (33 : Int32).toNatClampNeg = 33 by decide)) dX7_ahead_46 ?_
      refine lv_iload_n C.1 C.2.1 dX7_ahead_47 rfl (lv_at hl 1 rfl) ?_
      obtain ⟨h30, eq28, hf⟩ := bi1_e hf
      refine x_cVv (As := [.int ((h21 38) 32), .int ((h21 38) 33), .int x1]) (rest := []) C X w (c_X7_go hI eq28) mw_X7_go ml_X7_166 rcv_r33 rfl hl.1 rfl (Nat.le_of_ble_eq_true rfl) ⟨⟨Nat.le_of_ble_eq_true rfl, Nat.le_of_ble_eq_true rfl⟩, Nat.le_of_ble_eq_true rfl, Nat.le_of_ble_eq_true rfl⟩ dX7_ahead_48 (fun H locs w => ?_)
      refine lv_aload_n C.1 C.2.1 dX7_ahead_51 rfl (lv_at hl 0 rfl) ?_
      refine lv_aload_n C.1 C.2.1 dX7_ahead_52 rfl (lv_at hl 0 rfl) ?_
      refine gf_X7_29 C X w rfl dX7_ahead_53 ?_
      refine lv_iload_n C.1 C.2.1 dX7_ahead_56 rfl (lv_at hl 2 rfl) ?_
      obtain ⟨r32, eq31, hf⟩ := bi1_e hf
      refine x_cVi (As := [.ref (ad 147), .int x2]) (rest := []) C X (at_su 39 w) (c_X7_toldOf hI (Or.inr rfl) eq31) mw_X7_toldOf ml_X7_170 rcv_r33 rfl hl.1 rfl (Nat.le_of_ble_eq_true rfl) ⟨⟨Nat.le_of_ble_eq_true rfl, Nat.le_of_ble_eq_true rfl⟩, Nat.le_of_ble_eq_true rfl, Nat.le_of_ble_eq_true rfl⟩ dX7_ahead_57 (fun H locs w => ?_)
      replace w := at_us w
      cases hf
      exact x_iret C hr hlk w dX7_ahead_60
    · rw [if_pos c27] at hf
      refine lv_bipush (v := -2) C.1 C.2.1 dX7_ahead_29 (by decide) ?_
      cases hf
      exact x_iret C hr hlk w dX7_ahead_31

def qX7_by (h : Hp) (x1 : Int32) (x2 : Int32) (x3 : Int32) (x4 : Int32) : Option (Int32 × Hp) :=
(bd (su h 33 (upd (h 33) 0 (0 : Int32))) (fun h21 =>
(bi1 (qX7_in ((x1).toInt64) (0 : Int64) (3 : Int64)) (fun r23 =>
(if r23 = 0 then (some ((-2 : Int32), h21))
else (bi1 (qX7_in ((x2).toInt64) (1 : Int64) (9 : Int64)) (fun r26 =>
(if r26 = 0 then (some ((-2 : Int32), h21))
else (bi1 (qX7_in ((x3).toInt64) (0 : Int64) (60 : Int64)) (fun r29 =>
(if r29 = 0 then (some ((-2 : Int32), h21))
else (bi1 (qX7_in ((x4).toInt64) (0 : Int64) (3 : Int64)) (fun r32 =>
(if r32 = 0 then (some ((-2 : Int32), h21))
else (bi1 (qX7_go h21 x1 x2 x3) (fun h36 =>
(bi1 (qX7_toldOf (h36 33) (h36 39) x4) (fun r38 =>
(some (r38, h36))))))))))))))))))))
set_option maxHeartbeats 4000000 in
set_option maxRecDepth 100000 in
theorem c_X7_by {l : Launch} {E : Ev} {ad : Nat → Nat} {g : Gp} {h : Hp} {x1 : Int32} {x2 : Int32} {x3 : Int32} {x4 : Int32} {r : Int32} {h9 : Hp} (hI : Inj ad) (hf : qX7_by h x1 x2 x3 x4 = some (r, h9)) : CtI l yX7_by cX7_by 5 (some .int) 7 164 E ad g g [.ref (ad 141), .int x1, .int x2, .int x3, .int x4] h h9 r := by
  refine x_begin (by decide) (Nat.le_of_ble_eq_true rfl) ?_
  intro p e s m below meth c ls C hr hlk X w hl
  replace hl : lv_has ls 5 [(0, .ref (ad 141)), (1, .int x1), (2, .int x2), (3, .int x3), (4, .int x4)] := hl
  replace C : CallFix p m c cX7_by 5 s ([.ref (ad 141), .int x1, .int x2, .int x3, .int x4] : List Value).toArray lwA RX7 := C
  unfold qX7_by at hf
  refine lv_aload_n C.1 C.2.1 dX7_by_0 rfl (lv_at hl 0 rfl) ?_
  refine lv_iconst (v := 0) C.1 C.2.1 dX7_by_1 (by decide) ?_
  obtain ⟨h21, eh21, hf⟩ := bd_e hf
  refine pf_X7_51 C X hI w dX7_by_2 (fun H locs w => ?_)
  replace w := at_eq eh21 w
  refine lv_iload_n C.1 C.2.1 dX7_by_5 rfl (lv_at hl 1 rfl) ?_
  refine lv_i2l (v := (x1).toInt64) C.1 C.2.1 dX7_by_6 rfl ?_
  refine lv_lconst (v := 0) C.1 C.2.1 dX7_by_7 (by decide) ?_
  refine lv_ldc2 (v := 3) C.1 C.2.1 C.2.2.2.1 (C.2.2.2.2 _ wd_constantLong_OneTricycleModel_151_3_Int64_) dX7_by_8 ?_
  obtain ⟨r23, eq22, hf⟩ := bi1_e hf
  refine x_cSi (As := [.long ((x1).toInt64), .long (0 : Int64), .long (3 : Int64)]) (rest := []) C X w (c_X7_in hI  eq22) mw_X7_in ml_X7_57 rfl hl.1 rfl (Nat.le_of_ble_eq_true rfl) ⟨⟨Nat.le_of_ble_eq_true rfl, Nat.le_of_ble_eq_true rfl⟩, Nat.le_of_ble_eq_true rfl, Nat.le_of_ble_eq_true rfl⟩ dX7_by_11 (fun H locs w => ?_)
  refine lv_if_eq (tgt := 54) C.1 C.2.1 dX7_by_14 (by decide) (fun c24 => ?_) (fun c24 => ?_)
  · rw [if_pos c24] at hf
    refine lv_bipush (v := -2) C.1 C.2.1 dX7_by_54 (by decide) ?_
    cases hf
    exact x_iret C hr hlk w dX7_by_56
  · rw [if_neg c24] at hf
    refine lv_iload_n C.1 C.2.1 dX7_by_17 rfl (lv_at hl 2 rfl) ?_
    refine lv_i2l (v := (x2).toInt64) C.1 C.2.1 dX7_by_18 rfl ?_
    refine lv_lconst (v := 1) C.1 C.2.1 dX7_by_19 (by decide) ?_
    refine lv_ldc2 (v := 9) C.1 C.2.1 C.2.2.2.1 (C.2.2.2.2 _ wd_constantLong_OneTricycleModel_153_9_Int64_) dX7_by_20 ?_
    obtain ⟨r26, eq25, hf⟩ := bi1_e hf
    refine x_cSi (As := [.long ((x2).toInt64), .long (1 : Int64), .long (9 : Int64)]) (rest := []) C X w (c_X7_in hI  eq25) mw_X7_in ml_X7_57 rfl hl.1 rfl (Nat.le_of_ble_eq_true rfl) ⟨⟨Nat.le_of_ble_eq_true rfl, Nat.le_of_ble_eq_true rfl⟩, Nat.le_of_ble_eq_true rfl, Nat.le_of_ble_eq_true rfl⟩ dX7_by_23 (fun H locs w => ?_)
    refine lv_if_eq (tgt := 54) C.1 C.2.1 dX7_by_26 (by decide) (fun c27 => ?_) (fun c27 => ?_)
    · rw [if_pos c27] at hf
      refine lv_bipush (v := -2) C.1 C.2.1 dX7_by_54 (by decide) ?_
      cases hf
      exact x_iret C hr hlk w dX7_by_56
    · rw [if_neg c27] at hf
      refine lv_iload_n C.1 C.2.1 dX7_by_29 rfl (lv_at hl 3 rfl) ?_
      refine lv_i2l (v := (x3).toInt64) C.1 C.2.1 dX7_by_30 rfl ?_
      refine lv_lconst (v := 0) C.1 C.2.1 dX7_by_31 (by decide) ?_
      refine lv_ldc2 (v := 60) C.1 C.2.1 C.2.2.2.1 (C.2.2.2.2 _ wd_constantLong_OneTricycleModel_164_60_Int64_) dX7_by_32 ?_
      obtain ⟨r29, eq28, hf⟩ := bi1_e hf
      refine x_cSi (As := [.long ((x3).toInt64), .long (0 : Int64), .long (60 : Int64)]) (rest := []) C X w (c_X7_in hI  eq28) mw_X7_in ml_X7_57 rfl hl.1 rfl (Nat.le_of_ble_eq_true rfl) ⟨⟨Nat.le_of_ble_eq_true rfl, Nat.le_of_ble_eq_true rfl⟩, Nat.le_of_ble_eq_true rfl, Nat.le_of_ble_eq_true rfl⟩ dX7_by_35 (fun H locs w => ?_)
      refine lv_if_eq (tgt := 54) C.1 C.2.1 dX7_by_38 (by decide) (fun c30 => ?_) (fun c30 => ?_)
      · rw [if_pos c30] at hf
        refine lv_bipush (v := -2) C.1 C.2.1 dX7_by_54 (by decide) ?_
        cases hf
        exact x_iret C hr hlk w dX7_by_56
      · rw [if_neg c30] at hf
        refine lv_iload C.1 C.2.1 dX7_by_41 (lv_at hl 4 rfl) ?_
        refine lv_i2l (v := (x4).toInt64) C.1 C.2.1 dX7_by_43 rfl ?_
        refine lv_lconst (v := 0) C.1 C.2.1 dX7_by_44 (by decide) ?_
        refine lv_ldc2 (v := 3) C.1 C.2.1 C.2.2.2.1 (C.2.2.2.2 _ wd_constantLong_OneTricycleModel_151_3_Int64_) dX7_by_45 ?_
        obtain ⟨r32, eq31, hf⟩ := bi1_e hf
        refine x_cSi (As := [.long ((x4).toInt64), .long (0 : Int64), .long (3 : Int64)]) (rest := []) C X w (c_X7_in hI  eq31) mw_X7_in ml_X7_57 rfl hl.1 rfl (Nat.le_of_ble_eq_true rfl) ⟨⟨Nat.le_of_ble_eq_true rfl, Nat.le_of_ble_eq_true rfl⟩, Nat.le_of_ble_eq_true rfl, Nat.le_of_ble_eq_true rfl⟩ dX7_by_48 (fun H locs w => ?_)
        refine lv_if_ne (tgt := 57) C.1 C.2.1 dX7_by_51 (by decide) (fun c33 => ?_) (fun c33 => ?_)
        · rw [if_neg c33] at hf
          refine lv_aload_n C.1 C.2.1 dX7_by_57 rfl (lv_at hl 0 rfl) ?_
          refine lv_iload_n C.1 C.2.1 dX7_by_58 rfl (lv_at hl 1 rfl) ?_
          refine lv_iload_n C.1 C.2.1 dX7_by_59 rfl (lv_at hl 2 rfl) ?_
          refine lv_iload_n C.1 C.2.1 dX7_by_60 rfl (lv_at hl 3 rfl) ?_
          obtain ⟨h36, eq34, hf⟩ := bi1_e hf
          refine x_cVv (As := [.int x1, .int x2, .int x3]) (rest := []) C X w (c_X7_go hI eq34) mw_X7_go ml_X7_166 rcv_r33 rfl hl.1 rfl (Nat.le_of_ble_eq_true rfl) ⟨⟨Nat.le_of_ble_eq_true rfl, Nat.le_of_ble_eq_true rfl⟩, Nat.le_of_ble_eq_true rfl, Nat.le_of_ble_eq_true rfl⟩ dX7_by_61 (fun H locs w => ?_)
          refine lv_aload_n C.1 C.2.1 dX7_by_64 rfl (lv_at hl 0 rfl) ?_
          refine lv_aload_n C.1 C.2.1 dX7_by_65 rfl (lv_at hl 0 rfl) ?_
          refine gf_X7_29 C X w rfl dX7_by_66 ?_
          refine lv_iload C.1 C.2.1 dX7_by_69 (lv_at hl 4 rfl) ?_
          obtain ⟨r38, eq37, hf⟩ := bi1_e hf
          refine x_cVi (As := [.ref (ad 147), .int x4]) (rest := []) C X (at_su 39 w) (c_X7_toldOf hI (Or.inr rfl) eq37) mw_X7_toldOf ml_X7_170 rcv_r33 rfl hl.1 rfl (Nat.le_of_ble_eq_true rfl) ⟨⟨Nat.le_of_ble_eq_true rfl, Nat.le_of_ble_eq_true rfl⟩, Nat.le_of_ble_eq_true rfl, Nat.le_of_ble_eq_true rfl⟩ dX7_by_71 (fun H locs w => ?_)
          replace w := at_us w
          cases hf
          exact x_iret C hr hlk w dX7_by_74
        · rw [if_pos c33] at hf
          refine lv_bipush (v := -2) C.1 C.2.1 dX7_by_54 (by decide) ?_
          cases hf
          exact x_iret C hr hlk w dX7_by_56

def qX7_bestLength_100 (k42 : Hp → Int32 → Int32 → Int32 → Int32 → Int32 → Option (Int32 × Hp)) (h : Hp) (v1 : Int32) (v2 : Int32) (v3 : Int32) (v5 : Int32) (s0 : Int32) : Option (Int32 × Hp) :=
(k42 h v1 v2 v3 s0 (v5 + 1))
set_option maxHeartbeats 4000000 in
set_option maxRecDepth 100000 in
theorem w_X7_bestLength_100 {p : Program} {l : Launch} {e : Env} {s : State} {m : MethodId} {args : Array Value} {below : List Frame} {meth : Method} {c : Code} {E : Ev} {ad : Nat → Nat} {g : Gp} {r : Int32} {h9 : Hp} {k42 : Hp → Int32 → Int32 → Int32 → Int32 → Int32 → Option (Int32 × Hp)} (C : CallFix p m c cX7_bestLength 7 s args lwA RX7) (hr : meth.sig.returnType = (some .int)) (hlk : meth.locks = false) (X : Sx E ad s) (hI : Inj ad) (hk42 : ∀ (h : Hp) (v1 : Int32) (v2 : Int32) (v3 : Int32) (v4 : Int32) (v5 : Int32) (H : Heap) (locs : List Loc) (ls : Array Slot), At E ad h g s H locs → lv_has ls 7 [(0, .ref (ad 141)), (1, .int v1), (2, .int v2), (3, .int v3), (4, .int v4), (5, .int v5)] → k42 h v1 v2 v3 v4 v5 = some (r, h9) → W p l e (RM 7 164) s m args below meth c H locs 0 0 (QI E ad h9 g r below args s) (F0 m 42 ls [])) : ∀ (h : Hp) (v1 : Int32) (v2 : Int32) (v3 : Int32) (v5 : Int32) (s0 : Int32) (H : Heap) (locs : List Loc) (ls : Array Slot), At E ad h g s H locs → lv_has ls 7 [(0, .ref (ad 141)), (1, .int v1), (2, .int v2), (3, .int v3), (5, .int v5)] → qX7_bestLength_100 k42 h v1 v2 v3 v5 s0 = some (r, h9) → W p l e (RM 7 164) s m args below meth c H locs 0 0 (QI E ad h9 g r below args s) (F0 m 100 ls [.int s0]) := by
  intro h v1 v2 v3 v5 s0 H locs ls w hl hf
  unfold qX7_bestLength_100 at hf
  refine lv_istore (lv' := [(4, .int s0), (0, .ref (ad 141)), (1, .int v1), (2, .int v2), (3, .int v3), (5, .int v5)]) C.1 C.2.1 dX7_bestLength_100 hl (by decide) rfl (fun ls hl => ?_)
  refine lv_iinc (v := (v5 + 1)) (lv' := [(5, .int (v5 + 1)), (4, .int s0), (0, .ref (ad 141)), (1, .int v1), (2, .int v2), (3, .int v3)]) C.1 C.2.1 dX7_bestLength_102 hl (k := 5) rfl (congrArg (fun z => v5 + z) (by decide)) (by decide) rfl (fun ls hl => ?_)
  refine lv_goto (tgt := 42) C.1 C.2.1 dX7_bestLength_105 (by decide) ?_
  exact hk42 _ _ _ _ _ _ _ _ _ w (lv_sub hl [2, 3, 4, 5, 1, 0] rfl) hf
def qX7_bestLength_86 (k42 : Hp → Int32 → Int32 → Int32 → Int32 → Int32 → Option (Int32 × Hp)) (h : Hp) (v1 : Int32) (v2 : Int32) (v4 : Int32) (v5 : Int32) (v6 : Int32) (s0 : Int32) : Option (Int32 × Hp) :=
(if s0 = v5 then (qX7_bestLength_100 k42 h v1 v2 s0 v5 v6)
else (qX7_bestLength_100 k42 h v1 v2 s0 v5 v4))
set_option maxHeartbeats 4000000 in
set_option maxRecDepth 100000 in
theorem w_X7_bestLength_86 {p : Program} {l : Launch} {e : Env} {s : State} {m : MethodId} {args : Array Value} {below : List Frame} {meth : Method} {c : Code} {E : Ev} {ad : Nat → Nat} {g : Gp} {r : Int32} {h9 : Hp} {k42 : Hp → Int32 → Int32 → Int32 → Int32 → Int32 → Option (Int32 × Hp)} (C : CallFix p m c cX7_bestLength 7 s args lwA RX7) (hr : meth.sig.returnType = (some .int)) (hlk : meth.locks = false) (X : Sx E ad s) (hI : Inj ad) (hk42 : ∀ (h : Hp) (v1 : Int32) (v2 : Int32) (v3 : Int32) (v4 : Int32) (v5 : Int32) (H : Heap) (locs : List Loc) (ls : Array Slot), At E ad h g s H locs → lv_has ls 7 [(0, .ref (ad 141)), (1, .int v1), (2, .int v2), (3, .int v3), (4, .int v4), (5, .int v5)] → k42 h v1 v2 v3 v4 v5 = some (r, h9) → W p l e (RM 7 164) s m args below meth c H locs 0 0 (QI E ad h9 g r below args s) (F0 m 42 ls [])) : ∀ (h : Hp) (v1 : Int32) (v2 : Int32) (v4 : Int32) (v5 : Int32) (v6 : Int32) (s0 : Int32) (H : Heap) (locs : List Loc) (ls : Array Slot), At E ad h g s H locs → lv_has ls 7 [(0, .ref (ad 141)), (1, .int v1), (2, .int v2), (4, .int v4), (5, .int v5), (6, .int v6)] → qX7_bestLength_86 k42 h v1 v2 v4 v5 v6 s0 = some (r, h9) → W p l e (RM 7 164) s m args below meth c H locs 0 0 (QI E ad h9 g r below args s) (F0 m 86 ls [.int s0]) := by
  intro h v1 v2 v4 v5 v6 s0 H locs ls w hl hf
  unfold qX7_bestLength_86 at hf
  refine lv_istore_n (lv' := [(3, .int s0), (0, .ref (ad 141)), (1, .int v1), (2, .int v2), (4, .int v4), (5, .int v5), (6, .int v6)]) C.1 C.2.1 dX7_bestLength_86 rfl hl (by decide) rfl (fun ls hl => ?_)
  refine lv_iload_n C.1 C.2.1 dX7_bestLength_87 rfl (lv_at hl 0 rfl) ?_
  refine lv_iload C.1 C.2.1 dX7_bestLength_88 (lv_at hl 5 rfl) ?_
  refine lv_icmp_ne (tgt := 98) C.1 C.2.1 dX7_bestLength_90 (by decide) (fun c36 => ?_) (fun c36 => ?_)
  · rw [if_neg c36] at hf
    refine lv_iload C.1 C.2.1 dX7_bestLength_98 (lv_at hl 4 rfl) ?_
    exact w_X7_bestLength_100 C hr hlk X hI hk42 _ _ _ _ _ _ _ _ _ w (lv_sub hl [1, 2, 3, 0, 5] rfl) hf
  · rw [if_pos c36] at hf
    refine lv_iload C.1 C.2.1 dX7_bestLength_93 (lv_at hl 6 rfl) ?_
    refine lv_goto (tgt := 100) C.1 C.2.1 dX7_bestLength_95 (by decide) ?_
    exact w_X7_bestLength_100 C hr hlk X hI hk42 _ _ _ _ _ _ _ _ _ w (lv_sub hl [1, 2, 3, 0, 5] rfl) hf
def qX7_bestLength_80 (k42 : Hp → Int32 → Int32 → Int32 → Int32 → Int32 → Option (Int32 × Hp)) (h : Hp) (v1 : Int32) (v2 : Int32) (v4 : Int32) (v5 : Int32) (v6 : Int32) : Option (Int32 × Hp) :=
(qX7_bestLength_86 k42 h v1 v2 v4 v5 v6 v5)
set_option maxHeartbeats 4000000 in
set_option maxRecDepth 100000 in
theorem w_X7_bestLength_80 {p : Program} {l : Launch} {e : Env} {s : State} {m : MethodId} {args : Array Value} {below : List Frame} {meth : Method} {c : Code} {E : Ev} {ad : Nat → Nat} {g : Gp} {r : Int32} {h9 : Hp} {k42 : Hp → Int32 → Int32 → Int32 → Int32 → Int32 → Option (Int32 × Hp)} (C : CallFix p m c cX7_bestLength 7 s args lwA RX7) (hr : meth.sig.returnType = (some .int)) (hlk : meth.locks = false) (X : Sx E ad s) (hI : Inj ad) (hk42 : ∀ (h : Hp) (v1 : Int32) (v2 : Int32) (v3 : Int32) (v4 : Int32) (v5 : Int32) (H : Heap) (locs : List Loc) (ls : Array Slot), At E ad h g s H locs → lv_has ls 7 [(0, .ref (ad 141)), (1, .int v1), (2, .int v2), (3, .int v3), (4, .int v4), (5, .int v5)] → k42 h v1 v2 v3 v4 v5 = some (r, h9) → W p l e (RM 7 164) s m args below meth c H locs 0 0 (QI E ad h9 g r below args s) (F0 m 42 ls [])) : ∀ (h : Hp) (v1 : Int32) (v2 : Int32) (v4 : Int32) (v5 : Int32) (v6 : Int32) (H : Heap) (locs : List Loc) (ls : Array Slot), At E ad h g s H locs → lv_has ls 7 [(0, .ref (ad 141)), (1, .int v1), (2, .int v2), (4, .int v4), (5, .int v5), (6, .int v6)] → qX7_bestLength_80 k42 h v1 v2 v4 v5 v6 = some (r, h9) → W p l e (RM 7 164) s m args below meth c H locs 0 0 (QI E ad h9 g r below args s) (F0 m 80 ls []) := by
  intro h v1 v2 v4 v5 v6 H locs ls w hl hf
  unfold qX7_bestLength_80 at hf
  refine lv_iload C.1 C.2.1 dX7_bestLength_80 (lv_at hl 4 rfl) ?_
  refine lv_goto (tgt := 86) C.1 C.2.1 dX7_bestLength_82 (by decide) ?_
  exact w_X7_bestLength_86 C hr hlk X hI hk42 _ _ _ _ _ _ _ _ _ _ w (lv_sub hl [0, 1, 2, 3, 4, 5] rfl) hf
def qX7_bestLength_42 : Nat → Hp → Int32 → Int32 → Int32 → Int32 → Int32 → Option (Int32 × Hp)
  | 0, _, _, _, _, _, _ => none
  | n + 1, h, v1, v2, v3, v4, v5 =>
    (if (10 : Int32) ≤ v5 then (some (v3, h))
    else (bi1 (qX7_go h v1 v5 v2) (fun h31 =>
    (bi1 (qX7_gapOf (h31 33) (h31 39)) (fun r33 =>
    (if v3 = (-9 : Int32) then (qX7_bestLength_80 (qX7_bestLength_42 n) h31 v1 v2 v4 v5 r33)
    else (if v4 ≤ r33 then (qX7_bestLength_86 (qX7_bestLength_42 n) h31 v1 v2 v4 v5 r33 v3)
    else (qX7_bestLength_80 (qX7_bestLength_42 n) h31 v1 v2 v4 v5 r33))))))))
set_option maxHeartbeats 4000000 in
set_option maxRecDepth 100000 in
theorem w_X7_bestLength_42 {p : Program} {l : Launch} {e : Env} {s : State} {m : MethodId} {args : Array Value} {below : List Frame} {meth : Method} {c : Code} {E : Ev} {ad : Nat → Nat} {g : Gp} {r : Int32} {h9 : Hp} (C : CallFix p m c cX7_bestLength 7 s args lwA RX7) (hr : meth.sig.returnType = (some .int)) (hlk : meth.locks = false) (X : Sx E ad s) (hI : Inj ad)  : ∀ (n : Nat), ∀ (h : Hp) (v1 : Int32) (v2 : Int32) (v3 : Int32) (v4 : Int32) (v5 : Int32) (H : Heap) (locs : List Loc) (ls : Array Slot), At E ad h g s H locs → lv_has ls 7 [(0, .ref (ad 141)), (1, .int v1), (2, .int v2), (3, .int v3), (4, .int v4), (5, .int v5)] → qX7_bestLength_42 n h v1 v2 v3 v4 v5 = some (r, h9) → W p l e (RM 7 164) s m args below meth c H locs 0 0 (QI E ad h9 g r below args s) (F0 m 42 ls []) := by
  intro n
  induction n with
  | zero =>
    intro h v1 v2 v3 v4 v5 H locs ls w hl hf
    cases hf
  | succ n ih =>
    intro h v1 v2 v3 v4 v5 H locs ls w hl hf
    rw [qX7_bestLength_42] at hf
    refine lv_iload C.1 C.2.1 dX7_bestLength_42 (lv_at hl 5 rfl) ?_
    refine lv_bipush (v := 10) C.1 C.2.1 dX7_bestLength_44 (by decide) ?_
    refine lv_icmp_ge (tgt := 108) C.1 C.2.1 dX7_bestLength_46 (by decide) (fun c28 => ?_) (fun c28 => ?_)
    · rw [if_pos c28] at hf
      refine lv_iload_n C.1 C.2.1 dX7_bestLength_108 rfl (lv_at hl 3 rfl) ?_
      cases hf
      exact x_iret C hr hlk w dX7_bestLength_109
    · rw [if_neg c28] at hf
      refine lv_aload_n C.1 C.2.1 dX7_bestLength_49 rfl (lv_at hl 0 rfl) ?_
      refine lv_iload_n C.1 C.2.1 dX7_bestLength_50 rfl (lv_at hl 1 rfl) ?_
      refine lv_iload C.1 C.2.1 dX7_bestLength_51 (lv_at hl 5 rfl) ?_
      refine lv_iload_n C.1 C.2.1 dX7_bestLength_53 rfl (lv_at hl 2 rfl) ?_
      obtain ⟨h31, eq29, hf⟩ := bi1_e hf
      refine x_cVv (As := [.int v1, .int v5, .int v2]) (rest := []) C X w (c_X7_go hI eq29) mw_X7_go ml_X7_166 rcv_r33 rfl hl.1 rfl (Nat.le_of_ble_eq_true rfl) ⟨⟨Nat.le_of_ble_eq_true rfl, Nat.le_of_ble_eq_true rfl⟩, Nat.le_of_ble_eq_true rfl, Nat.le_of_ble_eq_true rfl⟩ dX7_bestLength_54 (fun H locs w => ?_)
      refine lv_aload_n C.1 C.2.1 dX7_bestLength_57 rfl (lv_at hl 0 rfl) ?_
      refine lv_aload_n C.1 C.2.1 dX7_bestLength_58 rfl (lv_at hl 0 rfl) ?_
      refine gf_X7_29 C X w rfl dX7_bestLength_59 ?_
      obtain ⟨r33, eq32, hf⟩ := bi1_e hf
      refine x_cVi (As := [.ref (ad 147)]) (rest := []) C X (at_su 39 w) (c_X7_gapOf hI (Or.inr rfl) eq32) mw_X7_gapOf ml_X7_161 rcv_r33 rfl hl.1 rfl (Nat.le_of_ble_eq_true rfl) ⟨⟨Nat.le_of_ble_eq_true rfl, Nat.le_of_ble_eq_true rfl⟩, Nat.le_of_ble_eq_true rfl, Nat.le_of_ble_eq_true rfl⟩ dX7_bestLength_62 (fun H locs w => ?_)
      replace w := at_us w
      refine lv_istore (lv' := [(6, .int r33), (0, .ref (ad 141)), (1, .int v1), (2, .int v2), (3, .int v3), (4, .int v4), (5, .int v5)]) C.1 C.2.1 dX7_bestLength_65 hl (by decide) rfl (fun ls hl => ?_)
      refine lv_iload_n C.1 C.2.1 dX7_bestLength_67 rfl (lv_at hl 4 rfl) ?_
      refine lv_bipush (v := -9) C.1 C.2.1 dX7_bestLength_68 (by decide) ?_
      refine lv_icmp_eq (tgt := 80) C.1 C.2.1 dX7_bestLength_70 (by decide) (fun c34 => ?_) (fun c34 => ?_)
      · rw [if_pos c34] at hf
        exact w_X7_bestLength_80 C hr hlk X hI ih _ _ _ _ _ _ _ _ _ w (lv_sub hl [1, 2, 3, 5, 6, 0] rfl) hf
      · rw [if_neg c34] at hf
        refine lv_iload C.1 C.2.1 dX7_bestLength_73 (lv_at hl 0 rfl) ?_
        refine lv_iload C.1 C.2.1 dX7_bestLength_75 (lv_at hl 5 rfl) ?_
        refine lv_icmp_ge (tgt := 85) C.1 C.2.1 dX7_bestLength_77 (by decide) (fun c35 => ?_) (fun c35 => ?_)
        · rw [if_pos c35] at hf
          refine lv_iload_n C.1 C.2.1 dX7_bestLength_85 rfl (lv_at hl 4 rfl) ?_
          exact w_X7_bestLength_86 C hr hlk X hI ih _ _ _ _ _ _ _ _ _ _ w (lv_sub hl [1, 2, 3, 5, 6, 0] rfl) hf
        · rw [if_neg c35] at hf
          exact w_X7_bestLength_80 C hr hlk X hI ih _ _ _ _ _ _ _ _ _ w (lv_sub hl [1, 2, 3, 5, 6, 0] rfl) hf
def qX7_bestLength (h : Hp) (x1 : Int32) (x2 : Int32) : Option (Int32 × Hp) :=
(bd (su h 33 (upd (h 33) 0 (0 : Int32))) (fun h21 =>
(bi1 (qX7_in ((x1).toInt64) (0 : Int64) (3 : Int64)) (fun r23 =>
(if r23 = 0 then (some ((-2 : Int32), h21))
else (bi1 (qX7_in ((x2).toInt64) (1 : Int64) (30 : Int64)) (fun r26 =>
(if r26 = 0 then (some ((-2 : Int32), h21))
else (qX7_bestLength_42 600 h21 x1 x2 (-9 : Int32) (-9 : Int32) (1 : Int32))))))))))
set_option maxHeartbeats 4000000 in
set_option maxRecDepth 100000 in
theorem c_X7_bestLength {l : Launch} {E : Ev} {ad : Nat → Nat} {g : Gp} {h : Hp} {x1 : Int32} {x2 : Int32} {r : Int32} {h9 : Hp} (hI : Inj ad) (hf : qX7_bestLength h x1 x2 = some (r, h9)) : CtI l yX7_bestLength cX7_bestLength 7 (some .int) 7 164 E ad g g [.ref (ad 141), .int x1, .int x2] h h9 r := by
  refine x_begin (by decide) (Nat.le_of_ble_eq_true rfl) ?_
  intro p e s m below meth c ls C hr hlk X w hl
  replace hl : lv_has ls 7 [(0, .ref (ad 141)), (1, .int x1), (2, .int x2)] := hl
  replace C : CallFix p m c cX7_bestLength 7 s ([.ref (ad 141), .int x1, .int x2] : List Value).toArray lwA RX7 := C
  unfold qX7_bestLength at hf
  refine lv_aload_n C.1 C.2.1 dX7_bestLength_0 rfl (lv_at hl 0 rfl) ?_
  refine lv_iconst (v := 0) C.1 C.2.1 dX7_bestLength_1 (by decide) ?_
  obtain ⟨h21, eh21, hf⟩ := bd_e hf
  refine pf_X7_51 C X hI w dX7_bestLength_2 (fun H locs w => ?_)
  replace w := at_eq eh21 w
  refine lv_iload_n C.1 C.2.1 dX7_bestLength_5 rfl (lv_at hl 1 rfl) ?_
  refine lv_i2l (v := (x1).toInt64) C.1 C.2.1 dX7_bestLength_6 rfl ?_
  refine lv_lconst (v := 0) C.1 C.2.1 dX7_bestLength_7 (by decide) ?_
  refine lv_ldc2 (v := 3) C.1 C.2.1 C.2.2.2.1 (C.2.2.2.2 _ wd_constantLong_OneTricycleModel_151_3_Int64_) dX7_bestLength_8 ?_
  obtain ⟨r23, eq22, hf⟩ := bi1_e hf
  refine x_cSi (As := [.long ((x1).toInt64), .long (0 : Int64), .long (3 : Int64)]) (rest := []) C X w (c_X7_in hI  eq22) mw_X7_in ml_X7_57 rfl hl.1 rfl (Nat.le_of_ble_eq_true rfl) ⟨⟨Nat.le_of_ble_eq_true rfl, Nat.le_of_ble_eq_true rfl⟩, Nat.le_of_ble_eq_true rfl, Nat.le_of_ble_eq_true rfl⟩ dX7_bestLength_11 (fun H locs w => ?_)
  refine lv_if_eq (tgt := 29) C.1 C.2.1 dX7_bestLength_14 (by decide) (fun c24 => ?_) (fun c24 => ?_)
  · rw [if_pos c24] at hf
    refine lv_bipush (v := -2) C.1 C.2.1 dX7_bestLength_29 (by decide) ?_
    cases hf
    exact x_iret C hr hlk w dX7_bestLength_31
  · rw [if_neg c24] at hf
    refine lv_iload_n C.1 C.2.1 dX7_bestLength_17 rfl (lv_at hl 2 rfl) ?_
    refine lv_i2l (v := (x2).toInt64) C.1 C.2.1 dX7_bestLength_18 rfl ?_
    refine lv_lconst (v := 1) C.1 C.2.1 dX7_bestLength_19 (by decide) ?_
    refine lv_ldc2 (v := 30) C.1 C.2.1 C.2.2.2.1 (C.2.2.2.2 _ wd_constantLong_OneTricycleModel_173_30_Int64_) dX7_bestLength_20 ?_
    obtain ⟨r26, eq25, hf⟩ := bi1_e hf
    refine x_cSi (As := [.long ((x2).toInt64), .long (1 : Int64), .long (30 : Int64)]) (rest := []) C X w (c_X7_in hI  eq25) mw_X7_in ml_X7_57 rfl hl.1 rfl (Nat.le_of_ble_eq_true rfl) ⟨⟨Nat.le_of_ble_eq_true rfl, Nat.le_of_ble_eq_true rfl⟩, Nat.le_of_ble_eq_true rfl, Nat.le_of_ble_eq_true rfl⟩ dX7_bestLength_23 (fun H locs w => ?_)
    refine lv_if_ne (tgt := 32) C.1 C.2.1 dX7_bestLength_26 (by decide) (fun c27 => ?_) (fun c27 => ?_)
    · rw [if_neg c27] at hf
      refine lv_bipush (v := -9) C.1 C.2.1 dX7_bestLength_32 (by decide) ?_
      refine lv_istore_n (lv' := [(3, .int (-9 : Int32)), (0, .ref (ad 141)), (1, .int x1), (2, .int x2)]) C.1 C.2.1 dX7_bestLength_34 rfl hl (by decide) rfl (fun ls hl => ?_)
      refine lv_bipush (v := -9) C.1 C.2.1 dX7_bestLength_35 (by decide) ?_
      refine lv_istore (lv' := [(4, .int (-9 : Int32)), (3, .int (-9 : Int32)), (0, .ref (ad 141)), (1, .int x1), (2, .int x2)]) C.1 C.2.1 dX7_bestLength_37 hl (by decide) rfl (fun ls hl => ?_)
      refine lv_iconst (v := 1) C.1 C.2.1 dX7_bestLength_39 (by decide) ?_
      refine lv_istore (lv' := [(5, .int (1 : Int32)), (4, .int (-9 : Int32)), (3, .int (-9 : Int32)), (0, .ref (ad 141)), (1, .int x1), (2, .int x2)]) C.1 C.2.1 dX7_bestLength_40 hl (by decide) rfl (fun ls hl => ?_)
      exact w_X7_bestLength_42 C hr hlk X hI 600 _ _ _ _ _ _ _ _ _ w (lv_sub hl [3, 4, 5, 2, 1, 0] rfl) hf
    · rw [if_pos c27] at hf
      refine lv_bipush (v := -2) C.1 C.2.1 dX7_bestLength_29 (by decide) ?_
      cases hf
      exact x_iret C hr hlk w dX7_bestLength_31

def qX7_bestRule_92 (k29 : Hp → Int32 → Int32 → Int32 → Int32 → Option (Int32 × Hp)) (h : Hp) (v1 : Int32) (v2 : Int32) (v4 : Int32) (s0 : Int32) : Option (Int32 × Hp) :=
(k29 h v1 v2 s0 (v4 + 1))
set_option maxHeartbeats 4000000 in
set_option maxRecDepth 100000 in
theorem w_X7_bestRule_92 {p : Program} {l : Launch} {e : Env} {s : State} {m : MethodId} {args : Array Value} {below : List Frame} {meth : Method} {c : Code} {E : Ev} {ad : Nat → Nat} {g : Gp} {r : Int32} {h9 : Hp} {k29 : Hp → Int32 → Int32 → Int32 → Int32 → Option (Int32 × Hp)} (C : CallFix p m c cX7_bestRule 6 s args lwA RX7) (hr : meth.sig.returnType = (some .int)) (hlk : meth.locks = false) (X : Sx E ad s) (hI : Inj ad) (hk29 : ∀ (h : Hp) (v1 : Int32) (v2 : Int32) (v3 : Int32) (v4 : Int32) (H : Heap) (locs : List Loc) (ls : Array Slot), At E ad h g s H locs → lv_has ls 6 [(0, .ref (ad 141)), (1, .int v1), (2, .int v2), (3, .int v3), (4, .int v4)] → k29 h v1 v2 v3 v4 = some (r, h9) → W p l e (RM 7 164) s m args below meth c H locs 0 0 (QI E ad h9 g r below args s) (F0 m 29 ls [])) : ∀ (h : Hp) (v1 : Int32) (v2 : Int32) (v4 : Int32) (s0 : Int32) (H : Heap) (locs : List Loc) (ls : Array Slot), At E ad h g s H locs → lv_has ls 6 [(0, .ref (ad 141)), (1, .int v1), (2, .int v2), (4, .int v4)] → qX7_bestRule_92 k29 h v1 v2 v4 s0 = some (r, h9) → W p l e (RM 7 164) s m args below meth c H locs 0 0 (QI E ad h9 g r below args s) (F0 m 92 ls [.int s0]) := by
  intro h v1 v2 v4 s0 H locs ls w hl hf
  unfold qX7_bestRule_92 at hf
  refine lv_istore_n (lv' := [(3, .int s0), (0, .ref (ad 141)), (1, .int v1), (2, .int v2), (4, .int v4)]) C.1 C.2.1 dX7_bestRule_92 rfl hl (by decide) rfl (fun ls hl => ?_)
  refine lv_iinc (v := (v4 + 1)) (lv' := [(4, .int (v4 + 1)), (3, .int s0), (0, .ref (ad 141)), (1, .int v1), (2, .int v2)]) C.1 C.2.1 dX7_bestRule_93 hl (k := 4) rfl (congrArg (fun z => v4 + z) (by decide)) (by decide) rfl (fun ls hl => ?_)
  refine lv_goto (tgt := 29) C.1 C.2.1 dX7_bestRule_96 (by decide) ?_
  exact hk29 _ _ _ _ _ _ _ _ w (lv_sub hl [2, 3, 4, 1, 0] rfl) hf
def qX7_bestRule_79 (k29 : Hp → Int32 → Int32 → Int32 → Int32 → Option (Int32 × Hp)) (h : Hp) (v1 : Int32) (v3 : Int32) (v4 : Int32) (v5 : Int32) (s0 : Int32) : Option (Int32 × Hp) :=
(if s0 = v4 then (qX7_bestRule_92 k29 h v1 s0 v4 v5)
else (qX7_bestRule_92 k29 h v1 s0 v4 v3))
set_option maxHeartbeats 4000000 in
set_option maxRecDepth 100000 in
theorem w_X7_bestRule_79 {p : Program} {l : Launch} {e : Env} {s : State} {m : MethodId} {args : Array Value} {below : List Frame} {meth : Method} {c : Code} {E : Ev} {ad : Nat → Nat} {g : Gp} {r : Int32} {h9 : Hp} {k29 : Hp → Int32 → Int32 → Int32 → Int32 → Option (Int32 × Hp)} (C : CallFix p m c cX7_bestRule 6 s args lwA RX7) (hr : meth.sig.returnType = (some .int)) (hlk : meth.locks = false) (X : Sx E ad s) (hI : Inj ad) (hk29 : ∀ (h : Hp) (v1 : Int32) (v2 : Int32) (v3 : Int32) (v4 : Int32) (H : Heap) (locs : List Loc) (ls : Array Slot), At E ad h g s H locs → lv_has ls 6 [(0, .ref (ad 141)), (1, .int v1), (2, .int v2), (3, .int v3), (4, .int v4)] → k29 h v1 v2 v3 v4 = some (r, h9) → W p l e (RM 7 164) s m args below meth c H locs 0 0 (QI E ad h9 g r below args s) (F0 m 29 ls [])) : ∀ (h : Hp) (v1 : Int32) (v3 : Int32) (v4 : Int32) (v5 : Int32) (s0 : Int32) (H : Heap) (locs : List Loc) (ls : Array Slot), At E ad h g s H locs → lv_has ls 6 [(0, .ref (ad 141)), (1, .int v1), (3, .int v3), (4, .int v4), (5, .int v5)] → qX7_bestRule_79 k29 h v1 v3 v4 v5 s0 = some (r, h9) → W p l e (RM 7 164) s m args below meth c H locs 0 0 (QI E ad h9 g r below args s) (F0 m 79 ls [.int s0]) := by
  intro h v1 v3 v4 v5 s0 H locs ls w hl hf
  unfold qX7_bestRule_79 at hf
  refine lv_istore_n (lv' := [(2, .int s0), (0, .ref (ad 141)), (1, .int v1), (3, .int v3), (4, .int v4), (5, .int v5)]) C.1 C.2.1 dX7_bestRule_79 rfl hl (by decide) rfl (fun ls hl => ?_)
  refine lv_iload_n C.1 C.2.1 dX7_bestRule_80 rfl (lv_at hl 0 rfl) ?_
  refine lv_iload C.1 C.2.1 dX7_bestRule_81 (lv_at hl 4 rfl) ?_
  refine lv_icmp_ne (tgt := 91) C.1 C.2.1 dX7_bestRule_83 (by decide) (fun c33 => ?_) (fun c33 => ?_)
  · rw [if_neg c33] at hf
    refine lv_iload_n C.1 C.2.1 dX7_bestRule_91 rfl (lv_at hl 3 rfl) ?_
    exact w_X7_bestRule_92 C hr hlk X hI hk29 _ _ _ _ _ _ _ _ w (lv_sub hl [1, 2, 0, 4] rfl) hf
  · rw [if_pos c33] at hf
    refine lv_iload C.1 C.2.1 dX7_bestRule_86 (lv_at hl 5 rfl) ?_
    refine lv_goto (tgt := 92) C.1 C.2.1 dX7_bestRule_88 (by decide) ?_
    exact w_X7_bestRule_92 C hr hlk X hI hk29 _ _ _ _ _ _ _ _ w (lv_sub hl [1, 2, 0, 4] rfl) hf
def qX7_bestRule_73 (k29 : Hp → Int32 → Int32 → Int32 → Int32 → Option (Int32 × Hp)) (h : Hp) (v1 : Int32) (v3 : Int32) (v4 : Int32) (v5 : Int32) : Option (Int32 × Hp) :=
(qX7_bestRule_79 k29 h v1 v3 v4 v5 v4)
set_option maxHeartbeats 4000000 in
set_option maxRecDepth 100000 in
theorem w_X7_bestRule_73 {p : Program} {l : Launch} {e : Env} {s : State} {m : MethodId} {args : Array Value} {below : List Frame} {meth : Method} {c : Code} {E : Ev} {ad : Nat → Nat} {g : Gp} {r : Int32} {h9 : Hp} {k29 : Hp → Int32 → Int32 → Int32 → Int32 → Option (Int32 × Hp)} (C : CallFix p m c cX7_bestRule 6 s args lwA RX7) (hr : meth.sig.returnType = (some .int)) (hlk : meth.locks = false) (X : Sx E ad s) (hI : Inj ad) (hk29 : ∀ (h : Hp) (v1 : Int32) (v2 : Int32) (v3 : Int32) (v4 : Int32) (H : Heap) (locs : List Loc) (ls : Array Slot), At E ad h g s H locs → lv_has ls 6 [(0, .ref (ad 141)), (1, .int v1), (2, .int v2), (3, .int v3), (4, .int v4)] → k29 h v1 v2 v3 v4 = some (r, h9) → W p l e (RM 7 164) s m args below meth c H locs 0 0 (QI E ad h9 g r below args s) (F0 m 29 ls [])) : ∀ (h : Hp) (v1 : Int32) (v3 : Int32) (v4 : Int32) (v5 : Int32) (H : Heap) (locs : List Loc) (ls : Array Slot), At E ad h g s H locs → lv_has ls 6 [(0, .ref (ad 141)), (1, .int v1), (3, .int v3), (4, .int v4), (5, .int v5)] → qX7_bestRule_73 k29 h v1 v3 v4 v5 = some (r, h9) → W p l e (RM 7 164) s m args below meth c H locs 0 0 (QI E ad h9 g r below args s) (F0 m 73 ls []) := by
  intro h v1 v3 v4 v5 H locs ls w hl hf
  unfold qX7_bestRule_73 at hf
  refine lv_iload C.1 C.2.1 dX7_bestRule_73 (lv_at hl 3 rfl) ?_
  refine lv_goto (tgt := 79) C.1 C.2.1 dX7_bestRule_75 (by decide) ?_
  exact w_X7_bestRule_79 C hr hlk X hI hk29 _ _ _ _ _ _ _ _ _ w (lv_sub hl [0, 1, 2, 3, 4] rfl) hf
def qX7_bestRule_29 : Nat → Hp → Int32 → Int32 → Int32 → Int32 → Option (Int32 × Hp)
  | 0, _, _, _, _, _ => none
  | n + 1, h, v1, v2, v3, v4 =>
    (if (4 : Int32) ≤ v4 then (some (v2, h))
    else (bi1 (qX7_go h v4 ((h 38) 33) v1) (fun h28 =>
    (bi1 (qX7_sumOf (h28 33) (h28 39) (15 : Int32)) (fun r30 =>
    (if v2 = (-9 : Int32) then (qX7_bestRule_73 (qX7_bestRule_29 n) h28 v1 v3 v4 r30)
    else (if v3 ≤ r30 then (qX7_bestRule_79 (qX7_bestRule_29 n) h28 v1 v3 v4 r30 v2)
    else (qX7_bestRule_73 (qX7_bestRule_29 n) h28 v1 v3 v4 r30))))))))
set_option maxHeartbeats 4000000 in
set_option maxRecDepth 100000 in
theorem w_X7_bestRule_29 {p : Program} {l : Launch} {e : Env} {s : State} {m : MethodId} {args : Array Value} {below : List Frame} {meth : Method} {c : Code} {E : Ev} {ad : Nat → Nat} {g : Gp} {r : Int32} {h9 : Hp} (C : CallFix p m c cX7_bestRule 6 s args lwA RX7) (hr : meth.sig.returnType = (some .int)) (hlk : meth.locks = false) (X : Sx E ad s) (hI : Inj ad)  : ∀ (n : Nat), ∀ (h : Hp) (v1 : Int32) (v2 : Int32) (v3 : Int32) (v4 : Int32) (H : Heap) (locs : List Loc) (ls : Array Slot), At E ad h g s H locs → lv_has ls 6 [(0, .ref (ad 141)), (1, .int v1), (2, .int v2), (3, .int v3), (4, .int v4)] → qX7_bestRule_29 n h v1 v2 v3 v4 = some (r, h9) → W p l e (RM 7 164) s m args below meth c H locs 0 0 (QI E ad h9 g r below args s) (F0 m 29 ls []) := by
  intro n
  induction n with
  | zero =>
    intro h v1 v2 v3 v4 H locs ls w hl hf
    cases hf
  | succ n ih =>
    intro h v1 v2 v3 v4 H locs ls w hl hf
    rw [qX7_bestRule_29] at hf
    refine lv_iload C.1 C.2.1 dX7_bestRule_29 (lv_at hl 4 rfl) ?_
    refine lv_iconst (v := 4) C.1 C.2.1 dX7_bestRule_31 (by decide) ?_
    refine lv_icmp_ge (tgt := 99) C.1 C.2.1 dX7_bestRule_32 (by decide) (fun c25 => ?_) (fun c25 => ?_)
    · rw [if_pos c25] at hf
      refine lv_iload_n C.1 C.2.1 dX7_bestRule_99 rfl (lv_at hl 2 rfl) ?_
      cases hf
      exact x_iret C hr hlk w dX7_bestRule_100
    · rw [if_neg c25] at hf
      refine lv_aload_n C.1 C.2.1 dX7_bestRule_35 rfl (lv_at hl 0 rfl) ?_
      refine lv_iload C.1 C.2.1 dX7_bestRule_36 (lv_at hl 4 rfl) ?_
      refine lv_aload_n C.1 C.2.1 dX7_bestRule_38 rfl (lv_at hl 0 rfl) ?_
      refine gf_X7_26 C X w rfl dX7_bestRule_39 ?_
      refine lv_bipush (v := 33) C.1 C.2.1 dX7_bestRule_42 (by decide) ?_
      refine x_ild (v := (h 38) 33) C X w (wl_r38 (rfl)) (by decide) (congrArg _ (show (33 : Int32).toNatClampNeg = 33 by decide)) dX7_bestRule_44 ?_
      refine lv_iload_n C.1 C.2.1 dX7_bestRule_45 rfl (lv_at hl 1 rfl) ?_
      obtain ⟨h28, eq26, hf⟩ := bi1_e hf
      refine x_cVv (As := [.int v4, .int ((h 38) 33), .int v1]) (rest := []) C X w (c_X7_go hI eq26) mw_X7_go ml_X7_166 rcv_r33 rfl hl.1 rfl (Nat.le_of_ble_eq_true rfl) ⟨⟨Nat.le_of_ble_eq_true rfl, Nat.le_of_ble_eq_true rfl⟩, Nat.le_of_ble_eq_true rfl, Nat.le_of_ble_eq_true rfl⟩ dX7_bestRule_46 (fun H locs w => ?_)
      refine lv_aload_n C.1 C.2.1 dX7_bestRule_49 rfl (lv_at hl 0 rfl) ?_
      refine lv_aload_n C.1 C.2.1 dX7_bestRule_50 rfl (lv_at hl 0 rfl) ?_
      refine gf_X7_29 C X w rfl dX7_bestRule_51 ?_
      refine lv_bipush (v := 15) C.1 C.2.1 dX7_bestRule_54 (by decide) ?_
      obtain ⟨r30, eq29, hf⟩ := bi1_e hf
      refine x_cVi (As := [.ref (ad 147), .int (15 : Int32)]) (rest := []) C X (at_su 39 w) (c_X7_sumOf hI (Or.inr rfl) eq29) mw_X7_sumOf ml_X7_158 rcv_r33 rfl hl.1 rfl (Nat.le_of_ble_eq_true rfl) ⟨⟨Nat.le_of_ble_eq_true rfl, Nat.le_of_ble_eq_true rfl⟩, Nat.le_of_ble_eq_true rfl, Nat.le_of_ble_eq_true rfl⟩ dX7_bestRule_56 (fun H locs w => ?_)
      replace w := at_us w
      refine lv_istore (lv' := [(5, .int r30), (0, .ref (ad 141)), (1, .int v1), (2, .int v2), (3, .int v3), (4, .int v4)]) C.1 C.2.1 dX7_bestRule_59 hl (by decide) rfl (fun ls hl => ?_)
      refine lv_iload_n C.1 C.2.1 dX7_bestRule_61 rfl (lv_at hl 3 rfl) ?_
      refine lv_bipush (v := -9) C.1 C.2.1 dX7_bestRule_62 (by decide) ?_
      refine lv_icmp_eq (tgt := 73) C.1 C.2.1 dX7_bestRule_64 (by decide) (fun c31 => ?_) (fun c31 => ?_)
      · rw [if_pos c31] at hf
        exact w_X7_bestRule_73 C hr hlk X hI ih _ _ _ _ _ _ _ _ w (lv_sub hl [1, 2, 4, 5, 0] rfl) hf
      · rw [if_neg c31] at hf
        refine lv_iload C.1 C.2.1 dX7_bestRule_67 (lv_at hl 0 rfl) ?_
        refine lv_iload_n C.1 C.2.1 dX7_bestRule_69 rfl (lv_at hl 4 rfl) ?_
        refine lv_icmp_ge (tgt := 78) C.1 C.2.1 dX7_bestRule_70 (by decide) (fun c32 => ?_) (fun c32 => ?_)
        · rw [if_pos c32] at hf
          refine lv_iload_n C.1 C.2.1 dX7_bestRule_78 rfl (lv_at hl 3 rfl) ?_
          exact w_X7_bestRule_79 C hr hlk X hI ih _ _ _ _ _ _ _ _ _ w (lv_sub hl [1, 2, 4, 5, 0] rfl) hf
        · rw [if_neg c32] at hf
          exact w_X7_bestRule_73 C hr hlk X hI ih _ _ _ _ _ _ _ _ w (lv_sub hl [1, 2, 4, 5, 0] rfl) hf
def qX7_bestRule (h : Hp) (x1 : Int32) : Option (Int32 × Hp) :=
(bd (su h 33 (upd (h 33) 0 (0 : Int32))) (fun h21 =>
(bi1 (qX7_in ((x1).toInt64) (1 : Int64) (30 : Int64)) (fun r23 =>
(if r23 = 0 then (some ((-2 : Int32), h21))
else (qX7_bestRule_29 600 h21 x1 (-9 : Int32) (-9 : Int32) (0 : Int32)))))))
set_option maxHeartbeats 4000000 in
set_option maxRecDepth 100000 in
theorem c_X7_bestRule {l : Launch} {E : Ev} {ad : Nat → Nat} {g : Gp} {h : Hp} {x1 : Int32} {r : Int32} {h9 : Hp} (hI : Inj ad) (hf : qX7_bestRule h x1 = some (r, h9)) : CtI l yX7_bestRule cX7_bestRule 6 (some .int) 7 164 E ad g g [.ref (ad 141), .int x1] h h9 r := by
  refine x_begin (by decide) (Nat.le_of_ble_eq_true rfl) ?_
  intro p e s m below meth c ls C hr hlk X w hl
  replace hl : lv_has ls 6 [(0, .ref (ad 141)), (1, .int x1)] := hl
  replace C : CallFix p m c cX7_bestRule 6 s ([.ref (ad 141), .int x1] : List Value).toArray lwA RX7 := C
  unfold qX7_bestRule at hf
  refine lv_aload_n C.1 C.2.1 dX7_bestRule_0 rfl (lv_at hl 0 rfl) ?_
  refine lv_iconst (v := 0) C.1 C.2.1 dX7_bestRule_1 (by decide) ?_
  obtain ⟨h21, eh21, hf⟩ := bd_e hf
  refine pf_X7_51 C X hI w dX7_bestRule_2 (fun H locs w => ?_)
  replace w := at_eq eh21 w
  refine lv_iload_n C.1 C.2.1 dX7_bestRule_5 rfl (lv_at hl 1 rfl) ?_
  refine lv_i2l (v := (x1).toInt64) C.1 C.2.1 dX7_bestRule_6 rfl ?_
  refine lv_lconst (v := 1) C.1 C.2.1 dX7_bestRule_7 (by decide) ?_
  refine lv_ldc2 (v := 30) C.1 C.2.1 C.2.2.2.1 (C.2.2.2.2 _ wd_constantLong_OneTricycleModel_173_30_Int64_) dX7_bestRule_8 ?_
  obtain ⟨r23, eq22, hf⟩ := bi1_e hf
  refine x_cSi (As := [.long ((x1).toInt64), .long (1 : Int64), .long (30 : Int64)]) (rest := []) C X w (c_X7_in hI  eq22) mw_X7_in ml_X7_57 rfl hl.1 rfl (Nat.le_of_ble_eq_true rfl) ⟨⟨Nat.le_of_ble_eq_true rfl, Nat.le_of_ble_eq_true rfl⟩, Nat.le_of_ble_eq_true rfl, Nat.le_of_ble_eq_true rfl⟩ dX7_bestRule_11 (fun H locs w => ?_)
  refine lv_if_ne (tgt := 20) C.1 C.2.1 dX7_bestRule_14 (by decide) (fun c24 => ?_) (fun c24 => ?_)
  · rw [if_neg c24] at hf
    refine lv_bipush (v := -9) C.1 C.2.1 dX7_bestRule_20 (by decide) ?_
    refine lv_istore_n (lv' := [(2, .int (-9 : Int32)), (0, .ref (ad 141)), (1, .int x1)]) C.1 C.2.1 dX7_bestRule_22 rfl hl (by decide) rfl (fun ls hl => ?_)
    refine lv_bipush (v := -9) C.1 C.2.1 dX7_bestRule_23 (by decide) ?_
    refine lv_istore_n (lv' := [(3, .int (-9 : Int32)), (2, .int (-9 : Int32)), (0, .ref (ad 141)), (1, .int x1)]) C.1 C.2.1 dX7_bestRule_25 rfl hl (by decide) rfl (fun ls hl => ?_)
    refine lv_iconst (v := 0) C.1 C.2.1 dX7_bestRule_26 (by decide) ?_
    refine lv_istore (lv' := [(4, .int (0 : Int32)), (3, .int (-9 : Int32)), (2, .int (-9 : Int32)), (0, .ref (ad 141)), (1, .int x1)]) C.1 C.2.1 dX7_bestRule_27 hl (by decide) rfl (fun ls hl => ?_)
    exact w_X7_bestRule_29 C hr hlk X hI 600 _ _ _ _ _ _ _ _ w (lv_sub hl [3, 4, 2, 1, 0] rfl) hf
  · rw [if_pos c24] at hf
    refine lv_bipush (v := -2) C.1 C.2.1 dX7_bestRule_17 (by decide) ?_
    cases hf
    exact x_iret C hr hlk w dX7_bestRule_19

def qX7_first_21 : Nat → Hp → Int32 → Int32 → Option (Int32 × Hp)
  | 0, _, _, _ => none
  | n + 1, h, v1, v2 =>
    (if (60 : Int32) < v2 then (some ((-9 : Int32), h))
    else (bi1 (qX7_has ((h 39) 30) v1) (fun r30 =>
    (if r30 = 0 then (bi1 (qX7_goMinute (h 33) (h 35) (h 36) (h 39)) (fun P34 =>
    (bd (su h 39 P34) (fun h35 =>
    (qX7_first_21 n h35 v1 (v2 + 1))))))
    else (some (v2, h))))))
set_option maxHeartbeats 4000000 in
set_option maxRecDepth 100000 in
theorem w_X7_first_21 {p : Program} {l : Launch} {e : Env} {s : State} {m : MethodId} {args : Array Value} {below : List Frame} {meth : Method} {c : Code} {E : Ev} {ad : Nat → Nat} {g : Gp} {r : Int32} {h9 : Hp} (C : CallFix p m c cX7_first 3 s args lwA RX7) (hr : meth.sig.returnType = (some .int)) (hlk : meth.locks = false) (X : Sx E ad s) (hI : Inj ad)  : ∀ (n : Nat), ∀ (h : Hp) (v1 : Int32) (v2 : Int32) (H : Heap) (locs : List Loc) (ls : Array Slot), At E ad h g s H locs → lv_has ls 3 [(0, .ref (ad 141)), (1, .int v1), (2, .int v2)] → qX7_first_21 n h v1 v2 = some (r, h9) → W p l e (RM 6 140) s m args below meth c H locs 0 0 (QI E ad h9 g r below args s) (F0 m 21 ls []) := by
  intro n
  induction n with
  | zero =>
    intro h v1 v2 H locs ls w hl hf
    cases hf
  | succ n ih =>
    intro h v1 v2 H locs ls w hl hf
    rw [qX7_first_21] at hf
    refine lv_iload_n C.1 C.2.1 dX7_first_21 rfl (lv_at hl 2 rfl) ?_
    refine lv_bipush (v := 60) C.1 C.2.1 dX7_first_22 (by decide) ?_
    refine lv_icmp_gt (tgt := 57) C.1 C.2.1 dX7_first_24 (by decide) (fun c28 => ?_) (fun c28 => ?_)
    · rw [if_pos c28] at hf
      refine lv_bipush (v := -9) C.1 C.2.1 dX7_first_57 (by decide) ?_
      cases hf
      exact x_iret C hr hlk w dX7_first_59
    · rw [if_neg c28] at hf
      refine lv_aload_n C.1 C.2.1 dX7_first_27 rfl (lv_at hl 0 rfl) ?_
      refine gf_X7_29 C X w rfl dX7_first_28 ?_
      refine lv_bipush (v := 30) C.1 C.2.1 dX7_first_31 (by decide) ?_
      refine x_ild (v := (h 39) 30) C X w (wl_r39 (rfl)) (by decide) (congrArg _ (show (30 : Int32).toNatClampNeg = 30 by decide)) dX7_first_33 ?_
      refine lv_iload_n C.1 C.2.1 dX7_first_34 rfl (lv_at hl 1 rfl) ?_
      obtain ⟨r30, eq29, hf⟩ := bi1_e hf
      refine x_cSi (As := [.int ((h 39) 30), .int v1]) (rest := []) C X w (c_X7_has hI  eq29) mw_X7_has ml_X7_99 rfl hl.1 rfl (Nat.le_of_ble_eq_true rfl) ⟨⟨Nat.le_of_ble_eq_true rfl, Nat.le_of_ble_eq_true rfl⟩, Nat.le_of_ble_eq_true rfl, Nat.le_of_ble_eq_true rfl⟩ dX7_first_35 (fun H locs w => ?_)
      refine lv_if_eq (tgt := 43) C.1 C.2.1 dX7_first_38 (by decide) (fun c31 => ?_) (fun c31 => ?_)
      · rw [if_pos c31] at hf
        refine lv_aload_n C.1 C.2.1 dX7_first_43 rfl (lv_at hl 0 rfl) ?_
        refine lv_aload_n C.1 C.2.1 dX7_first_44 rfl (lv_at hl 0 rfl) ?_
        refine gf_X7_29 C X w rfl dX7_first_45 ?_
        obtain ⟨P34, eq32, hf⟩ := bi1_e hf
        obtain ⟨h35, eh35, hf⟩ := bd_e hf
        refine x_cVv (As := [.ref (ad 147)]) (rest := []) C X (at_su 39 w) (c_X7_goMinute hI (Or.inr rfl) eq32) mw_X7_goMinute ml_X7_147 rcv_r33 rfl hl.1 rfl (Nat.le_of_ble_eq_true rfl) ⟨⟨Nat.le_of_ble_eq_true rfl, Nat.le_of_ble_eq_true rfl⟩, Nat.le_of_ble_eq_true rfl, Nat.le_of_ble_eq_true rfl⟩ dX7_first_48 (fun H locs w => ?_)
        replace w := at_eq eh35 w
        refine lv_iinc (v := (v2 + 1)) (lv' := [(2, .int (v2 + 1)), (0, .ref (ad 141)), (1, .int v1)]) C.1 C.2.1 dX7_first_51 hl (k := 2) rfl (congrArg (fun z => v2 + z) (by decide)) (by decide) rfl (fun ls hl => ?_)
        refine lv_goto (tgt := 21) C.1 C.2.1 dX7_first_54 (by decide) ?_
        exact ih _ _ _ _ _ _ w (lv_sub hl [1, 2, 0] rfl) hf
      · rw [if_neg c31] at hf
        refine lv_iload_n C.1 C.2.1 dX7_first_41 rfl (lv_at hl 2 rfl) ?_
        cases hf
        exact x_iret C hr hlk w dX7_first_42
def qX7_first (h : Hp) (x1 : Int32) : Option (Int32 × Hp) :=
(bd (su h 33 (upd (h 33) 0 (0 : Int32))) (fun h21 =>
(bi1 (qX7_noChild (h21 33) x1) (fun r23 =>
(if r23 = 0 then (bi1 (qX7_begin h21) (fun h27 =>
(qX7_first_21 600 h27 x1 (0 : Int32))))
else (some ((-1 : Int32), h21)))))))
set_option maxHeartbeats 4000000 in
set_option maxRecDepth 100000 in
theorem c_X7_first {l : Launch} {E : Ev} {ad : Nat → Nat} {g : Gp} {h : Hp} {x1 : Int32} {r : Int32} {h9 : Hp} (hI : Inj ad) (hf : qX7_first h x1 = some (r, h9)) : CtI l yX7_first cX7_first 3 (some .int) 6 140 E ad g g [.ref (ad 141), .int x1] h h9 r := by
  refine x_begin (by decide) (Nat.le_of_ble_eq_true rfl) ?_
  intro p e s m below meth c ls C hr hlk X w hl
  replace hl : lv_has ls 3 [(0, .ref (ad 141)), (1, .int x1)] := hl
  replace C : CallFix p m c cX7_first 3 s ([.ref (ad 141), .int x1] : List Value).toArray lwA RX7 := C
  unfold qX7_first at hf
  refine lv_aload_n C.1 C.2.1 dX7_first_0 rfl (lv_at hl 0 rfl) ?_
  refine lv_iconst (v := 0) C.1 C.2.1 dX7_first_1 (by decide) ?_
  obtain ⟨h21, eh21, hf⟩ := bd_e hf
  refine pf_X7_51 C X hI w dX7_first_2 (fun H locs w => ?_)
  replace w := at_eq eh21 w
  refine lv_aload_n C.1 C.2.1 dX7_first_5 rfl (lv_at hl 0 rfl) ?_
  refine lv_iload_n C.1 C.2.1 dX7_first_6 rfl (lv_at hl 1 rfl) ?_
  obtain ⟨r23, eq22, hf⟩ := bi1_e hf
  refine x_cVi (As := [.int x1]) (rest := []) C X w (c_X7_noChild hI (rfl) eq22) mw_X7_noChild ml_X7_140 rcv_r33 rfl hl.1 rfl (Nat.le_of_ble_eq_true rfl) ⟨⟨Nat.le_of_ble_eq_true rfl, Nat.le_of_ble_eq_true rfl⟩, Nat.le_of_ble_eq_true rfl, Nat.le_of_ble_eq_true rfl⟩ dX7_first_7 (fun H locs w => ?_)
  refine lv_if_eq (tgt := 15) C.1 C.2.1 dX7_first_10 (by decide) (fun c24 => ?_) (fun c24 => ?_)
  · rw [if_pos c24] at hf
    refine lv_aload_n C.1 C.2.1 dX7_first_15 rfl (lv_at hl 0 rfl) ?_
    obtain ⟨h27, eq25, hf⟩ := bi1_e hf
    refine x_cVv (As := []) (rest := []) C X w (c_X7_begin hI eq25) mw_X7_begin ml_X7_155 rcv_r33 rfl hl.1 rfl (Nat.le_of_ble_eq_true rfl) ⟨⟨Nat.le_of_ble_eq_true rfl, Nat.le_of_ble_eq_true rfl⟩, Nat.le_of_ble_eq_true rfl, Nat.le_of_ble_eq_true rfl⟩ dX7_first_16 (fun H locs w => ?_)
    refine lv_iconst (v := 0) C.1 C.2.1 dX7_first_19 (by decide) ?_
    refine lv_istore_n (lv' := [(2, .int (0 : Int32)), (0, .ref (ad 141)), (1, .int x1)]) C.1 C.2.1 dX7_first_20 rfl hl (by decide) rfl (fun ls hl => ?_)
    exact w_X7_first_21 C hr hlk X hI 600 _ _ _ _ _ _ w (lv_sub hl [1, 2, 0] rfl) hf
  · rw [if_neg c24] at hf
    refine lv_iconst (v := -1) C.1 C.2.1 dX7_first_13 (by decide) ?_
    cases hf
    exact x_iret C hr hlk w dX7_first_14

def qX7_second_64 : Nat → Hp → Int32 → Int32 → Int32 → Option (Int32 × Hp)
  | 0, _, _, _, _ => none
  | n + 1, h, v1, v2, v3 =>
    (if v1 ≤ v3 then (bi1 (qX7_sumOf (h 33) (h 39) (15 : Int32)) (fun r36 =>
    (some ((v2 - r36), h))))
    else (bi1 (qX7_goMinute (h 33) (h 35) (h 36) (h 39)) (fun P39 =>
    (bd (su h 39 P39) (fun h40 =>
    (qX7_second_64 n h40 v1 v2 (v3 + 1)))))))
set_option maxHeartbeats 4000000 in
set_option maxRecDepth 100000 in
theorem w_X7_second_64 {p : Program} {l : Launch} {e : Env} {s : State} {m : MethodId} {args : Array Value} {below : List Frame} {meth : Method} {c : Code} {E : Ev} {ad : Nat → Nat} {g : Gp} {r : Int32} {h9 : Hp} (C : CallFix p m c cX7_second 4 s args lwA RX7) (hr : meth.sig.returnType = (some .int)) (hlk : meth.locks = false) (X : Sx E ad s) (hI : Inj ad)  : ∀ (n : Nat), ∀ (h : Hp) (v1 : Int32) (v2 : Int32) (v3 : Int32) (H : Heap) (locs : List Loc) (ls : Array Slot), At E ad h g s H locs → lv_has ls 4 [(0, .ref (ad 141)), (1, .int v1), (2, .int v2), (3, .int v3)] → qX7_second_64 n h v1 v2 v3 = some (r, h9) → W p l e (RM 7 164) s m args below meth c H locs 0 0 (QI E ad h9 g r below args s) (F0 m 64 ls []) := by
  intro n
  induction n with
  | zero =>
    intro h v1 v2 v3 H locs ls w hl hf
    cases hf
  | succ n ih =>
    intro h v1 v2 v3 H locs ls w hl hf
    rw [qX7_second_64] at hf
    refine lv_iload_n C.1 C.2.1 dX7_second_64 rfl (lv_at hl 3 rfl) ?_
    refine lv_iload_n C.1 C.2.1 dX7_second_65 rfl (lv_at hl 1 rfl) ?_
    refine lv_icmp_ge (tgt := 83) C.1 C.2.1 dX7_second_66 (by decide) (fun c34 => ?_) (fun c34 => ?_)
    · rw [if_pos c34] at hf
      refine lv_iload_n C.1 C.2.1 dX7_second_83 rfl (lv_at hl 2 rfl) ?_
      refine lv_aload_n C.1 C.2.1 dX7_second_84 rfl (lv_at hl 0 rfl) ?_
      refine lv_aload_n C.1 C.2.1 dX7_second_85 rfl (lv_at hl 0 rfl) ?_
      refine gf_X7_29 C X w rfl dX7_second_86 ?_
      refine lv_bipush (v := 15) C.1 C.2.1 dX7_second_89 (by decide) ?_
      obtain ⟨r36, eq35, hf⟩ := bi1_e hf
      refine x_cVi (As := [.ref (ad 147), .int (15 : Int32)]) (rest := [.int v2]) C X (at_su 39 w) (c_X7_sumOf hI (Or.inr rfl) eq35) mw_X7_sumOf ml_X7_158 rcv_r33 rfl hl.1 rfl (Nat.le_of_ble_eq_true rfl) ⟨⟨Nat.le_of_ble_eq_true rfl, Nat.le_of_ble_eq_true rfl⟩, Nat.le_of_ble_eq_true rfl, Nat.le_of_ble_eq_true rfl⟩ dX7_second_91 (fun H locs w => ?_)
      replace w := at_us w
      refine lv_isub C.1 C.2.1 dX7_second_94 ?_
      cases hf
      exact x_iret C hr hlk w dX7_second_95
    · rw [if_neg c34] at hf
      refine lv_aload_n C.1 C.2.1 dX7_second_69 rfl (lv_at hl 0 rfl) ?_
      refine lv_aload_n C.1 C.2.1 dX7_second_70 rfl (lv_at hl 0 rfl) ?_
      refine gf_X7_29 C X w rfl dX7_second_71 ?_
      obtain ⟨P39, eq37, hf⟩ := bi1_e hf
      obtain ⟨h40, eh40, hf⟩ := bd_e hf
      refine x_cVv (As := [.ref (ad 147)]) (rest := []) C X (at_su 39 w) (c_X7_goMinute hI (Or.inr rfl) eq37) mw_X7_goMinute ml_X7_147 rcv_r33 rfl hl.1 rfl (Nat.le_of_ble_eq_true rfl) ⟨⟨Nat.le_of_ble_eq_true rfl, Nat.le_of_ble_eq_true rfl⟩, Nat.le_of_ble_eq_true rfl, Nat.le_of_ble_eq_true rfl⟩ dX7_second_74 (fun H locs w => ?_)
      replace w := at_eq eh40 w
      refine lv_iinc (v := (v3 + 1)) (lv' := [(3, .int (v3 + 1)), (0, .ref (ad 141)), (1, .int v1), (2, .int v2)]) C.1 C.2.1 dX7_second_77 hl (k := 3) rfl (congrArg (fun z => v3 + z) (by decide)) (by decide) rfl (fun ls hl => ?_)
      refine lv_goto (tgt := 64) C.1 C.2.1 dX7_second_80 (by decide) ?_
      exact ih _ _ _ _ _ _ _ w (lv_sub hl [1, 2, 3, 0] rfl) hf
def qX7_second (h : Hp) (x1 : Int32) : Option (Int32 × Hp) :=
(bd (su h 33 (upd (h 33) 0 (0 : Int32))) (fun h21 =>
(bi1 (qX7_in ((x1).toInt64) (1 : Int64) (30 : Int64)) (fun r23 =>
(if r23 = 0 then (some ((-2 : Int32), h21))
else (bi1 (qX7_go h21 ((h21 38) 32) ((h21 38) 33) x1) (fun h27 =>
(bi1 (qX7_sumOf (h27 33) (h27 39) (15 : Int32)) (fun r29 =>
(bi1 (qX7_begin h27) (fun h32 =>
(bd (su h32 39 (upd (h32 39) 34 (2 : Int32))) (fun h33 =>
(qX7_second_64 600 h33 x1 r29 (0 : Int32)))))))))))))))
set_option maxHeartbeats 4000000 in
set_option maxRecDepth 100000 in
theorem c_X7_second {l : Launch} {E : Ev} {ad : Nat → Nat} {g : Gp} {h : Hp} {x1 : Int32} {r : Int32} {h9 : Hp} (hI : Inj ad) (hf : qX7_second h x1 = some (r, h9)) : CtI l yX7_second cX7_second 4 (some .int) 7 164 E ad g g [.ref (ad 141), .int x1] h h9 r := by
  refine x_begin (by decide) (Nat.le_of_ble_eq_true rfl) ?_
  intro p e s m below meth c ls C hr hlk X w hl
  replace hl : lv_has ls 4 [(0, .ref (ad 141)), (1, .int x1)] := hl
  replace C : CallFix p m c cX7_second 4 s ([.ref (ad 141), .int x1] : List Value).toArray lwA RX7 := C
  unfold qX7_second at hf
  refine lv_aload_n C.1 C.2.1 dX7_second_0 rfl (lv_at hl 0 rfl) ?_
  refine lv_iconst (v := 0) C.1 C.2.1 dX7_second_1 (by decide) ?_
  obtain ⟨h21, eh21, hf⟩ := bd_e hf
  refine pf_X7_51 C X hI w dX7_second_2 (fun H locs w => ?_)
  replace w := at_eq eh21 w
  refine lv_iload_n C.1 C.2.1 dX7_second_5 rfl (lv_at hl 1 rfl) ?_
  refine lv_i2l (v := (x1).toInt64) C.1 C.2.1 dX7_second_6 rfl ?_
  refine lv_lconst (v := 1) C.1 C.2.1 dX7_second_7 (by decide) ?_
  refine lv_ldc2 (v := 30) C.1 C.2.1 C.2.2.2.1 (C.2.2.2.2 _ wd_constantLong_OneTricycleModel_173_30_Int64_) dX7_second_8 ?_
  obtain ⟨r23, eq22, hf⟩ := bi1_e hf
  refine x_cSi (As := [.long ((x1).toInt64), .long (1 : Int64), .long (30 : Int64)]) (rest := []) C X w (c_X7_in hI  eq22) mw_X7_in ml_X7_57 rfl hl.1 rfl (Nat.le_of_ble_eq_true rfl) ⟨⟨Nat.le_of_ble_eq_true rfl, Nat.le_of_ble_eq_true rfl⟩, Nat.le_of_ble_eq_true rfl, Nat.le_of_ble_eq_true rfl⟩ dX7_second_11 (fun H locs w => ?_)
  refine lv_if_ne (tgt := 20) C.1 C.2.1 dX7_second_14 (by decide) (fun c24 => ?_) (fun c24 => ?_)
  · rw [if_neg c24] at hf
    refine lv_aload_n C.1 C.2.1 dX7_second_20 rfl (lv_at hl 0 rfl) ?_
    refine lv_aload_n C.1 C.2.1 dX7_second_21 rfl (lv_at hl 0 rfl) ?_
    refine gf_X7_26 C X w rfl dX7_second_22 ?_
    refine lv_bipush (v := 32) C.1 C.2.1 dX7_second_25 (by decide) ?_
    refine x_ild (v := (h21 38) 32) C X w (wl_r38 (rfl)) (by decide) (congrArg _ (show (32 : Int32).toNatClampNeg = 32 by decide)) dX7_second_27 ?_
    refine lv_aload_n C.1 C.2.1 dX7_second_28 rfl (lv_at hl 0 rfl) ?_
    refine gf_X7_26 C X w rfl dX7_second_29 ?_
    refine lv_bipush (v := 33) C.1 C.2.1 dX7_second_32 (by decide) ?_
    refine x_ild (v := (h21 38) 33) C X w (wl_r38 (rfl)) (by decide) (congrArg _ (show (33 : Int32).toNatClampNeg = 33 by decide)) dX7_second_34 ?_
    refine lv_iload_n C.1 C.2.1 dX7_second_35 rfl (lv_at hl 1 rfl) ?_
    obtain ⟨h27, eq25, hf⟩ := bi1_e hf
    refine x_cVv (As := [.int ((h21 38) 32), .int ((h21 38) 33), .int x1]) (rest := []) C X w (c_X7_go hI eq25) mw_X7_go ml_X7_166 rcv_r33 rfl hl.1 rfl (Nat.le_of_ble_eq_true rfl) ⟨⟨Nat.le_of_ble_eq_true rfl, Nat.le_of_ble_eq_true rfl⟩, Nat.le_of_ble_eq_true rfl, Nat.le_of_ble_eq_true rfl⟩ dX7_second_36 (fun H locs w => ?_)
    refine lv_aload_n C.1 C.2.1 dX7_second_39 rfl (lv_at hl 0 rfl) ?_
    refine lv_aload_n C.1 C.2.1 dX7_second_40 rfl (lv_at hl 0 rfl) ?_
    refine gf_X7_29 C X w rfl dX7_second_41 ?_
    refine lv_bipush (v := 15) C.1 C.2.1 dX7_second_44 (by decide) ?_
    obtain ⟨r29, eq28, hf⟩ := bi1_e hf
    refine x_cVi (As := [.ref (ad 147), .int (15 : Int32)]) (rest := []) C X (at_su 39 w) (c_X7_sumOf hI (Or.inr rfl) eq28) mw_X7_sumOf ml_X7_158 rcv_r33 rfl hl.1 rfl (Nat.le_of_ble_eq_true rfl) ⟨⟨Nat.le_of_ble_eq_true rfl, Nat.le_of_ble_eq_true rfl⟩, Nat.le_of_ble_eq_true rfl, Nat.le_of_ble_eq_true rfl⟩ dX7_second_46 (fun H locs w => ?_)
    replace w := at_us w
    refine lv_istore_n (lv' := [(2, .int r29), (0, .ref (ad 141)), (1, .int x1)]) C.1 C.2.1 dX7_second_49 rfl hl (by decide) rfl (fun ls hl => ?_)
    refine lv_aload_n C.1 C.2.1 dX7_second_50 rfl (lv_at hl 1 rfl) ?_
    obtain ⟨h32, eq30, hf⟩ := bi1_e hf
    refine x_cVv (As := []) (rest := []) C X w (c_X7_begin hI eq30) mw_X7_begin ml_X7_155 rcv_r33 rfl hl.1 rfl (Nat.le_of_ble_eq_true rfl) ⟨⟨Nat.le_of_ble_eq_true rfl, Nat.le_of_ble_eq_true rfl⟩, Nat.le_of_ble_eq_true rfl, Nat.le_of_ble_eq_true rfl⟩ dX7_second_51 (fun H locs w => ?_)
    refine lv_aload_n C.1 C.2.1 dX7_second_54 rfl (lv_at hl 1 rfl) ?_
    refine gf_X7_29 C X w rfl dX7_second_55 ?_
    refine lv_bipush (v := 34) C.1 C.2.1 dX7_second_58 (by decide) ?_
    refine lv_iconst (v := 2) C.1 C.2.1 dX7_second_60 (by decide) ?_
    obtain ⟨h33, eh33, hf⟩ := bd_e hf
    refine x_ist (h2 := su h32 39 (upd (h32 39) 34 (2 : Int32))) C X hI w (wl_r39 rfl) (by decide) (by rw [show (34 : Int32).toNatClampNeg = 34 by decide]; exact ws_r39) dX7_second_61 (fun H locs w => ?_)
    replace w := at_eq eh33 w
    refine lv_iconst (v := 0) C.1 C.2.1 dX7_second_62 (by decide) ?_
    refine lv_istore_n (lv' := [(3, .int (0 : Int32)), (2, .int r29), (0, .ref (ad 141)), (1, .int x1)]) C.1 C.2.1 dX7_second_63 rfl hl (by decide) rfl (fun ls hl => ?_)
    exact w_X7_second_64 C hr hlk X hI 600 _ _ _ _ _ _ _ w (lv_sub hl [2, 3, 1, 0] rfl) hf
  · rw [if_pos c24] at hf
    refine lv_bipush (v := -2) C.1 C.2.1 dX7_second_17 (by decide) ?_
    cases hf
    exact x_iret C hr hlk w dX7_second_19

def qX7_does_50 (h : Hp) (v3 : Int32) (s0 : Int32) : Option (Int32 × Hp) :=
(if s0 = 0 then (bd (su h 39 (upd (h 39) 32 ((h 39) 32))) (fun h50 =>
(ck (bz s0) (some (s0, h50)))))
else (bd (su h 39 (upd (h 39) 32 v3)) (fun h52 =>
(ck (bz s0) (some (s0, h52))))))
set_option maxHeartbeats 4000000 in
set_option maxRecDepth 100000 in
theorem w_X7_does_50 {p : Program} {l : Launch} {e : Env} {s : State} {m : MethodId} {args : Array Value} {below : List Frame} {meth : Method} {c : Code} {E : Ev} {ad : Nat → Nat} {g : Gp} {r : Int32} {h9 : Hp} (C : CallFix p m c cX7_does 5 s args lwA RX7) (hr : meth.sig.returnType = (some .boolean)) (hlk : meth.locks = false) (X : Sx E ad s) (hI : Inj ad)  : ∀ (h : Hp) (v3 : Int32) (s0 : Int32) (H : Heap) (locs : List Loc) (ls : Array Slot), At E ad h g s H locs → lv_has ls 5 [(0, .ref (ad 141)), (3, .int v3)] → qX7_does_50 h v3 s0 = some (r, h9) → W p l e (RM 6 140) s m args below meth c H locs 0 0 (QI E ad h9 g r below args s) (F0 m 50 ls [.int s0]) := by
  intro h v3 s0 H locs ls w hl hf
  unfold qX7_does_50 at hf
  refine lv_istore (lv' := [(4, .int s0), (0, .ref (ad 141)), (3, .int v3)]) C.1 C.2.1 dX7_does_50 hl (by decide) rfl (fun ls hl => ?_)
  refine lv_aload_n C.1 C.2.1 dX7_does_52 rfl (lv_at hl 1 rfl) ?_
  refine gf_X7_29 C X w rfl dX7_does_53 ?_
  refine lv_bipush (v := 32) C.1 C.2.1 dX7_does_56 (by decide) ?_
  refine lv_iload C.1 C.2.1 dX7_does_58 (lv_at hl 0 rfl) ?_
  refine lv_if_eq (tgt := 67) C.1 C.2.1 dX7_does_60 (by decide) (fun c49 => ?_) (fun c49 => ?_)
  · rw [if_pos c49] at hf
    refine lv_aload_n C.1 C.2.1 dX7_does_67 rfl (lv_at hl 1 rfl) ?_
    refine gf_X7_29 C X w rfl dX7_does_68 ?_
    refine lv_bipush (v := 32) C.1 C.2.1 dX7_does_71 (by decide) ?_
    refine x_ild (v := (h 39) 32) C X w (wl_r39 (rfl)) (by decide) (congrArg _ (show (32 : Int32).toNatClampNeg = 32 by decide)) dX7_does_73 ?_
    obtain ⟨h50, eh50, hf⟩ := bd_e hf
    refine x_ist (h2 := su h 39 (upd (h 39) 32 ((h 39) 32))) C X hI w (wl_r39 rfl) (by decide) (by rw [show (32 : Int32).toNatClampNeg = 32 by decide]; exact ws_r39) dX7_does_74 (fun H locs w => ?_)
    replace w := at_eq eh50 w
    refine lv_iload C.1 C.2.1 dX7_does_75 (lv_at hl 0 rfl) ?_
    obtain ⟨z51, hf⟩ := ck_e hf
    cases hf
    exact x_zret C hr hlk w (bz_e z51) dX7_does_77
  · rw [if_neg c49] at hf
    refine lv_iload_n C.1 C.2.1 dX7_does_63 rfl (lv_at hl 2 rfl) ?_
    refine lv_goto (tgt := 74) C.1 C.2.1 dX7_does_64 (by decide) ?_
    obtain ⟨h52, eh52, hf⟩ := bd_e hf
    refine x_ist (h2 := su h 39 (upd (h 39) 32 v3)) C X hI w (wl_r39 rfl) (by decide) (by rw [show (32 : Int32).toNatClampNeg = 32 by decide]; exact ws_r39) dX7_does_74 (fun H locs w => ?_)
    replace w := at_eq eh52 w
    refine lv_iload C.1 C.2.1 dX7_does_75 (lv_at hl 0 rfl) ?_
    obtain ⟨z53, hf⟩ := ck_e hf
    cases hf
    exact x_zret C hr hlk w (bz_e z53) dX7_does_77
def qX7_does_49 (h : Hp) (v3 : Int32) : Option (Int32 × Hp) :=
(qX7_does_50 h v3 (0 : Int32))
set_option maxHeartbeats 4000000 in
set_option maxRecDepth 100000 in
theorem w_X7_does_49 {p : Program} {l : Launch} {e : Env} {s : State} {m : MethodId} {args : Array Value} {below : List Frame} {meth : Method} {c : Code} {E : Ev} {ad : Nat → Nat} {g : Gp} {r : Int32} {h9 : Hp} (C : CallFix p m c cX7_does 5 s args lwA RX7) (hr : meth.sig.returnType = (some .boolean)) (hlk : meth.locks = false) (X : Sx E ad s) (hI : Inj ad)  : ∀ (h : Hp) (v3 : Int32) (H : Heap) (locs : List Loc) (ls : Array Slot), At E ad h g s H locs → lv_has ls 5 [(0, .ref (ad 141)), (3, .int v3)] → qX7_does_49 h v3 = some (r, h9) → W p l e (RM 6 140) s m args below meth c H locs 0 0 (QI E ad h9 g r below args s) (F0 m 49 ls []) := by
  intro h v3 H locs ls w hl hf
  unfold qX7_does_49 at hf
  refine lv_iconst (v := 0) C.1 C.2.1 dX7_does_49 (by decide) ?_
  exact w_X7_does_50 C hr hlk X hI _ _ _ _ _ _ w (lv_sub hl [0, 1] rfl) hf
def qX7_does_165 (h : Hp) (v3 : Int32) (s0 : Int32) : Option (Int32 × Hp) :=
(if s0 = 0 then (ck (inb ((0 : Int32) + v3) 36) ((ck (inb ((0 : Int32) + v3) 36) (bd (su h 39 (upd (h 39) (((0 : Int32) + v3)).toNatClampNeg ((h 39) (((0 : Int32) + v3)).toNatClampNeg))) (fun h57 =>
(ck (bz s0) (some (s0, h57))))))))
else (ck (inb ((0 : Int32) + v3) 36) (bd (su h 39 (upd (h 39) (((0 : Int32) + v3)).toNatClampNeg (0 : Int32))) (fun h60 =>
(ck (bz s0) (some (s0, h60)))))))
set_option maxHeartbeats 4000000 in
set_option maxRecDepth 100000 in
theorem w_X7_does_165 {p : Program} {l : Launch} {e : Env} {s : State} {m : MethodId} {args : Array Value} {below : List Frame} {meth : Method} {c : Code} {E : Ev} {ad : Nat → Nat} {g : Gp} {r : Int32} {h9 : Hp} (C : CallFix p m c cX7_does 5 s args lwA RX7) (hr : meth.sig.returnType = (some .boolean)) (hlk : meth.locks = false) (X : Sx E ad s) (hI : Inj ad)  : ∀ (h : Hp) (v3 : Int32) (s0 : Int32) (H : Heap) (locs : List Loc) (ls : Array Slot), At E ad h g s H locs → lv_has ls 5 [(0, .ref (ad 141)), (3, .int v3)] → qX7_does_165 h v3 s0 = some (r, h9) → W p l e (RM 6 140) s m args below meth c H locs 0 0 (QI E ad h9 g r below args s) (F0 m 165 ls [.int s0]) := by
  intro h v3 s0 H locs ls w hl hf
  unfold qX7_does_165 at hf
  refine lv_istore (lv' := [(4, .int s0), (0, .ref (ad 141)), (3, .int v3)]) C.1 C.2.1 dX7_does_165 hl (by decide) rfl (fun ls hl => ?_)
  refine lv_aload_n C.1 C.2.1 dX7_does_167 rfl (lv_at hl 1 rfl) ?_
  refine gf_X7_29 C X w rfl dX7_does_168 ?_
  refine lv_iconst (v := 0) C.1 C.2.1 dX7_does_171 (by decide) ?_
  refine lv_iload_n C.1 C.2.1 dX7_does_172 rfl (lv_at hl 2 rfl) ?_
  refine lv_iadd C.1 C.2.1 dX7_does_173 ?_
  refine lv_iload C.1 C.2.1 dX7_does_174 (lv_at hl 0 rfl) ?_
  refine lv_if_eq (tgt := 183) C.1 C.2.1 dX7_does_176 (by decide) (fun c54 => ?_) (fun c54 => ?_)
  · rw [if_pos c54] at hf
    refine lv_aload_n C.1 C.2.1 dX7_does_183 rfl (lv_at hl 1 rfl) ?_
    refine gf_X7_29 C X w rfl dX7_does_184 ?_
    refine lv_iconst (v := 0) C.1 C.2.1 dX7_does_187 (by decide) ?_
    refine lv_iload_n C.1 C.2.1 dX7_does_188 rfl (lv_at hl 2 rfl) ?_
    refine lv_iadd C.1 C.2.1 dX7_does_189 ?_
    obtain ⟨i55, hf⟩ := ck_e hf
    refine x_ild (v := (h 39) (((0 : Int32) + v3)).toNatClampNeg) C X w (wl_r39 (rfl)) i55 (rfl) dX7_does_190 ?_
    obtain ⟨i56, hf⟩ := ck_e hf
    obtain ⟨h57, eh57, hf⟩ := bd_e hf
    refine x_ist (h2 := su h 39 (upd (h 39) (((0 : Int32) + v3)).toNatClampNeg ((h 39) (((0 : Int32) + v3)).toNatClampNeg))) C X hI w (wl_r39 rfl) i56 ws_r39 dX7_does_191 (fun H locs w => ?_)
    replace w := at_eq eh57 w
    refine lv_iload C.1 C.2.1 dX7_does_192 (lv_at hl 0 rfl) ?_
    obtain ⟨z58, hf⟩ := ck_e hf
    cases hf
    exact x_zret C hr hlk w (bz_e z58) dX7_does_194
  · rw [if_neg c54] at hf
    refine lv_iconst (v := 0) C.1 C.2.1 dX7_does_179 (by decide) ?_
    refine lv_goto (tgt := 191) C.1 C.2.1 dX7_does_180 (by decide) ?_
    obtain ⟨i59, hf⟩ := ck_e hf
    obtain ⟨h60, eh60, hf⟩ := bd_e hf
    refine x_ist (h2 := su h 39 (upd (h 39) (((0 : Int32) + v3)).toNatClampNeg (0 : Int32))) C X hI w (wl_r39 rfl) i59 ws_r39 dX7_does_191 (fun H locs w => ?_)
    replace w := at_eq eh60 w
    refine lv_iload C.1 C.2.1 dX7_does_192 (lv_at hl 0 rfl) ?_
    obtain ⟨z61, hf⟩ := ck_e hf
    cases hf
    exact x_zret C hr hlk w (bz_e z61) dX7_does_194
def qX7_does_164 (h : Hp) (v3 : Int32) : Option (Int32 × Hp) :=
(qX7_does_165 h v3 (0 : Int32))
set_option maxHeartbeats 4000000 in
set_option maxRecDepth 100000 in
theorem w_X7_does_164 {p : Program} {l : Launch} {e : Env} {s : State} {m : MethodId} {args : Array Value} {below : List Frame} {meth : Method} {c : Code} {E : Ev} {ad : Nat → Nat} {g : Gp} {r : Int32} {h9 : Hp} (C : CallFix p m c cX7_does 5 s args lwA RX7) (hr : meth.sig.returnType = (some .boolean)) (hlk : meth.locks = false) (X : Sx E ad s) (hI : Inj ad)  : ∀ (h : Hp) (v3 : Int32) (H : Heap) (locs : List Loc) (ls : Array Slot), At E ad h g s H locs → lv_has ls 5 [(0, .ref (ad 141)), (3, .int v3)] → qX7_does_164 h v3 = some (r, h9) → W p l e (RM 6 140) s m args below meth c H locs 0 0 (QI E ad h9 g r below args s) (F0 m 164 ls []) := by
  intro h v3 H locs ls w hl hf
  unfold qX7_does_164 at hf
  refine lv_iconst (v := 0) C.1 C.2.1 dX7_does_164 (by decide) ?_
  exact w_X7_does_165 C hr hlk X hI _ _ _ _ _ _ w (lv_sub hl [0, 1] rfl) hf
def qX7_does_130 (h : Hp) (v2 : Int32) (v3 : Int32) : Option (Int32 × Hp) :=
(if v2 = (2 : Int32) then (bi1 (qX7_has ((h 39) 30) v3) (fun r45 =>
(if r45 = 0 then (ck (inb ((0 : Int32) + v3) 36) ((if ((h 39) (((0 : Int32) + v3)).toNatClampNeg) ≤ 0 then (qX7_does_164 h v3)
else (qX7_does_165 h v3 (1 : Int32)))))
else (qX7_does_164 h v3))))
else (qX7_does_164 h v3))
set_option maxHeartbeats 4000000 in
set_option maxRecDepth 100000 in
theorem w_X7_does_130 {p : Program} {l : Launch} {e : Env} {s : State} {m : MethodId} {args : Array Value} {below : List Frame} {meth : Method} {c : Code} {E : Ev} {ad : Nat → Nat} {g : Gp} {r : Int32} {h9 : Hp} (C : CallFix p m c cX7_does 5 s args lwA RX7) (hr : meth.sig.returnType = (some .boolean)) (hlk : meth.locks = false) (X : Sx E ad s) (hI : Inj ad)  : ∀ (h : Hp) (v2 : Int32) (v3 : Int32) (H : Heap) (locs : List Loc) (ls : Array Slot), At E ad h g s H locs → lv_has ls 5 [(0, .ref (ad 141)), (2, .int v2), (3, .int v3)] → qX7_does_130 h v2 v3 = some (r, h9) → W p l e (RM 6 140) s m args below meth c H locs 0 0 (QI E ad h9 g r below args s) (F0 m 130 ls []) := by
  intro h v2 v3 H locs ls w hl hf
  unfold qX7_does_130 at hf
  refine lv_iload_n C.1 C.2.1 dX7_does_130 rfl (lv_at hl 1 rfl) ?_
  refine lv_iconst (v := 2) C.1 C.2.1 dX7_does_131 (by decide) ?_
  refine lv_icmp_ne (tgt := 164) C.1 C.2.1 dX7_does_132 (by decide) (fun c43 => ?_) (fun c43 => ?_)
  · rw [if_neg c43] at hf
    exact w_X7_does_164 C hr hlk X hI _ _ _ _ _ w (lv_sub hl [0, 2] rfl) hf
  · rw [if_pos c43] at hf
    refine lv_aload_n C.1 C.2.1 dX7_does_135 rfl (lv_at hl 0 rfl) ?_
    refine gf_X7_29 C X w rfl dX7_does_136 ?_
    refine lv_bipush (v := 30) C.1 C.2.1 dX7_does_139 (by decide) ?_
    refine x_ild (v := (h 39) 30) C X w (wl_r39 (rfl)) (by decide) (congrArg _ (show (30 : Int32).toNatClampNeg = 30 by decide)) dX7_does_141 ?_
    refine lv_iload_n C.1 C.2.1 dX7_does_142 rfl (lv_at hl 2 rfl) ?_
    obtain ⟨r45, eq44, hf⟩ := bi1_e hf
    refine x_cSi (As := [.int ((h 39) 30), .int v3]) (rest := []) C X w (c_X7_has hI  eq44) mw_X7_has ml_X7_99 rfl hl.1 rfl (Nat.le_of_ble_eq_true rfl) ⟨⟨Nat.le_of_ble_eq_true rfl, Nat.le_of_ble_eq_true rfl⟩, Nat.le_of_ble_eq_true rfl, Nat.le_of_ble_eq_true rfl⟩ dX7_does_143 (fun H locs w => ?_)
    refine lv_if_ne (tgt := 164) C.1 C.2.1 dX7_does_146 (by decide) (fun c46 => ?_) (fun c46 => ?_)
    · rw [if_neg c46] at hf
      exact w_X7_does_164 C hr hlk X hI _ _ _ _ _ w (lv_sub hl [0, 2] rfl) hf
    · rw [if_pos c46] at hf
      refine lv_aload_n C.1 C.2.1 dX7_does_149 rfl (lv_at hl 0 rfl) ?_
      refine gf_X7_29 C X w rfl dX7_does_150 ?_
      refine lv_iconst (v := 0) C.1 C.2.1 dX7_does_153 (by decide) ?_
      refine lv_iload_n C.1 C.2.1 dX7_does_154 rfl (lv_at hl 2 rfl) ?_
      refine lv_iadd C.1 C.2.1 dX7_does_155 ?_
      obtain ⟨i47, hf⟩ := ck_e hf
      refine x_ild (v := (h 39) (((0 : Int32) + v3)).toNatClampNeg) C X w (wl_r39 (rfl)) i47 (rfl) dX7_does_156 ?_
      refine lv_if_le (tgt := 164) C.1 C.2.1 dX7_does_157 (by decide) (fun c48 => ?_) (fun c48 => ?_)
      · rw [if_pos c48] at hf
        exact w_X7_does_164 C hr hlk X hI _ _ _ _ _ w (lv_sub hl [0, 2] rfl) hf
      · rw [if_neg c48] at hf
        refine lv_iconst (v := 1) C.1 C.2.1 dX7_does_160 (by decide) ?_
        refine lv_goto (tgt := 165) C.1 C.2.1 dX7_does_161 (by decide) ?_
        exact w_X7_does_165 C hr hlk X hI _ _ _ _ _ _ w (lv_sub hl [0, 2] rfl) hf
def qX7_does (h : Hp) (x1 : Int32) : Option (Int32 × Hp) :=
(if x1 = 0 then (bi1 (qX7_goMinute (h 33) (h 35) (h 36) (h 39)) (fun P41 =>
(bd (su h 39 P41) (fun h42 =>
(some ((1 : Int32), h42))))))
else (if (x1 / (10 : Int32)) = (3 : Int32) then (if (4 : Int32) ≤ (x1 - x1 / (10 : Int32) * (10 : Int32)) then (qX7_does_49 h (x1 - x1 / (10 : Int32) * (10 : Int32)))
else (if ((h 39) 32) = (x1 - x1 / (10 : Int32) * (10 : Int32)) then (qX7_does_49 h (x1 - x1 / (10 : Int32) * (10 : Int32)))
else (qX7_does_50 h (x1 - x1 / (10 : Int32) * (10 : Int32)) (1 : Int32))))
else (bi1 (qX7_noChild (h 33) (x1 - x1 / (10 : Int32) * (10 : Int32))) (fun r24 =>
(if r24 = 0 then (if (x1 / (10 : Int32)) = (1 : Int32) then (bi1 (qX7_has ((h 39) 30) (x1 - x1 / (10 : Int32) * (10 : Int32))) (fun r28 =>
(if r28 = 0 then (qX7_does_130 h (x1 / (10 : Int32)) (x1 - x1 / (10 : Int32) * (10 : Int32)))
else (bi1 (qX7_getOff (h 39) (x1 - x1 / (10 : Int32) * (10 : Int32))) (fun P32 =>
(bd (su h 39 P32) (fun h33 =>
(ck (inb ((25 : Int32) + (x1 - x1 / (10 : Int32) * (10 : Int32))) 36) ((ck (inb ((25 : Int32) + (x1 - x1 / (10 : Int32) * (10 : Int32))) 36) (bd (su h33 39 (upd (h33 39) (((25 : Int32) + (x1 - x1 / (10 : Int32) * (10 : Int32)))).toNatClampNeg (((h33 39) (((25 : Int32) + (x1 - x1 / (10 : Int32) * (10 : Int32)))).toNatClampNeg) + (1 : Int32)))) (fun h36 =>
(some ((1 : Int32), h36))))))))))))))
else (qX7_does_130 h (x1 / (10 : Int32)) (x1 - x1 / (10 : Int32) * (10 : Int32))))
else (some ((0 : Int32), h)))))))
set_option maxHeartbeats 4000000 in
set_option maxRecDepth 100000 in
theorem c_X7_does {l : Launch} {E : Ev} {ad : Nat → Nat} {g : Gp} {h : Hp} {x1 : Int32} {r : Int32} {h9 : Hp} (hI : Inj ad) (hf : qX7_does h x1 = some (r, h9)) : CtI l yX7_does cX7_does 5 (some .boolean) 6 140 E ad g g [.ref (ad 141), .int x1] h h9 r := by
  refine x_begin (by decide) (Nat.le_of_ble_eq_true rfl) ?_
  intro p e s m below meth c ls C hr hlk X w hl
  replace hl : lv_has ls 5 [(0, .ref (ad 141)), (1, .int x1)] := hl
  replace C : CallFix p m c cX7_does 5 s ([.ref (ad 141), .int x1] : List Value).toArray lwA RX7 := C
  unfold qX7_does at hf
  refine lv_iload_n C.1 C.2.1 dX7_does_0 rfl (lv_at hl 1 rfl) ?_
  refine lv_bipush (v := 10) C.1 C.2.1 dX7_does_1 (by decide) ?_
  refine lv_idiv C.1 C.2.1 dX7_does_3 (by decide) ?_
  refine lv_istore_n (lv' := [(2, .int (x1 / (10 : Int32))), (0, .ref (ad 141)), (1, .int x1)]) C.1 C.2.1 dX7_does_4 rfl hl (by decide) rfl (fun ls hl => ?_)
  refine lv_iload_n C.1 C.2.1 dX7_does_5 rfl (lv_at hl 2 rfl) ?_
  refine lv_bipush (v := 10) C.1 C.2.1 dX7_does_6 (by decide) ?_
  refine lv_irem C.1 C.2.1 dX7_does_8 (by decide) ?_
  refine lv_istore_n (lv' := [(3, .int (x1 - x1 / (10 : Int32) * (10 : Int32))), (2, .int (x1 / (10 : Int32))), (0, .ref (ad 141)), (1, .int x1)]) C.1 C.2.1 dX7_does_9 rfl hl (by decide) rfl (fun ls hl => ?_)
  refine lv_iload_n C.1 C.2.1 dX7_does_10 rfl (lv_at hl 3 rfl) ?_
  refine lv_if_ne (tgt := 24) C.1 C.2.1 dX7_does_11 (by decide) (fun c21 => ?_) (fun c21 => ?_)
  · rw [if_neg c21] at hf
    refine lv_iload_n C.1 C.2.1 dX7_does_24 rfl (lv_at hl 1 rfl) ?_
    refine lv_iconst (v := 3) C.1 C.2.1 dX7_does_25 (by decide) ?_
    refine lv_icmp_ne (tgt := 78) C.1 C.2.1 dX7_does_26 (by decide) (fun c22 => ?_) (fun c22 => ?_)
    · rw [if_neg c22] at hf
      refine lv_aload_n C.1 C.2.1 dX7_does_78 rfl (lv_at hl 2 rfl) ?_
      refine lv_iload_n C.1 C.2.1 dX7_does_79 rfl (lv_at hl 0 rfl) ?_
      obtain ⟨r24, eq23, hf⟩ := bi1_e hf
      refine x_cVi (As := [.int (x1 - x1 / (10 : Int32) * (10 : Int32))]) (rest := []) C X w (c_X7_noChild hI (rfl) eq23) mw_X7_noChild ml_X7_140 rcv_r33 rfl hl.1 rfl (Nat.le_of_ble_eq_true rfl) ⟨⟨Nat.le_of_ble_eq_true rfl, Nat.le_of_ble_eq_true rfl⟩, Nat.le_of_ble_eq_true rfl, Nat.le_of_ble_eq_true rfl⟩ dX7_does_80 (fun H locs w => ?_)
      refine lv_if_eq (tgt := 88) C.1 C.2.1 dX7_does_83 (by decide) (fun c25 => ?_) (fun c25 => ?_)
      · rw [if_pos c25] at hf
        refine lv_iload_n C.1 C.2.1 dX7_does_88 rfl (lv_at hl 1 rfl) ?_
        refine lv_iconst (v := 1) C.1 C.2.1 dX7_does_89 (by decide) ?_
        refine lv_icmp_ne (tgt := 130) C.1 C.2.1 dX7_does_90 (by decide) (fun c26 => ?_) (fun c26 => ?_)
        · rw [if_neg c26] at hf
          exact w_X7_does_130 C hr hlk X hI _ _ _ _ _ _ w (lv_sub hl [2, 1, 0] rfl) hf
        · rw [if_pos c26] at hf
          refine lv_aload_n C.1 C.2.1 dX7_does_93 rfl (lv_at hl 2 rfl) ?_
          refine gf_X7_29 C X w rfl dX7_does_94 ?_
          refine lv_bipush (v := 30) C.1 C.2.1 dX7_does_97 (by decide) ?_
          refine x_ild (v := (h 39) 30) C X w (wl_r39 (rfl)) (by decide) (congrArg _ (show (30 : Int32).toNatClampNeg = 30 by decide)) dX7_does_99 ?_
          refine lv_iload_n C.1 C.2.1 dX7_does_100 rfl (lv_at hl 0 rfl) ?_
          obtain ⟨r28, eq27, hf⟩ := bi1_e hf
          refine x_cSi (As := [.int ((h 39) 30), .int (x1 - x1 / (10 : Int32) * (10 : Int32))]) (rest := []) C X w (c_X7_has hI  eq27) mw_X7_has ml_X7_99 rfl hl.1 rfl (Nat.le_of_ble_eq_true rfl) ⟨⟨Nat.le_of_ble_eq_true rfl, Nat.le_of_ble_eq_true rfl⟩, Nat.le_of_ble_eq_true rfl, Nat.le_of_ble_eq_true rfl⟩ dX7_does_101 (fun H locs w => ?_)
          refine lv_if_eq (tgt := 130) C.1 C.2.1 dX7_does_104 (by decide) (fun c29 => ?_) (fun c29 => ?_)
          · rw [if_pos c29] at hf
            exact w_X7_does_130 C hr hlk X hI _ _ _ _ _ _ w (lv_sub hl [2, 1, 0] rfl) hf
          · rw [if_neg c29] at hf
            refine lv_aload_n C.1 C.2.1 dX7_does_107 rfl (lv_at hl 2 rfl) ?_
            refine gf_X7_29 C X w rfl dX7_does_108 ?_
            refine lv_iload_n C.1 C.2.1 dX7_does_111 rfl (lv_at hl 0 rfl) ?_
            obtain ⟨P32, eq30, hf⟩ := bi1_e hf
            obtain ⟨h33, eh33, hf⟩ := bd_e hf
            refine x_cSv (As := [.ref (ad 147), .int (x1 - x1 / (10 : Int32) * (10 : Int32))]) (rest := []) C X (at_su 39 w) (c_X7_getOff hI (Or.inr rfl) eq30) mw_X7_getOff ml_X7_121 rfl hl.1 rfl (Nat.le_of_ble_eq_true rfl) ⟨⟨Nat.le_of_ble_eq_true rfl, Nat.le_of_ble_eq_true rfl⟩, Nat.le_of_ble_eq_true rfl, Nat.le_of_ble_eq_true rfl⟩ dX7_does_112 (fun H locs w => ?_)
            replace w := at_eq eh33 w
            refine lv_aload_n C.1 C.2.1 dX7_does_115 rfl (lv_at hl 2 rfl) ?_
            refine gf_X7_29 C X w rfl dX7_does_116 ?_
            refine lv_bipush (v := 25) C.1 C.2.1 dX7_does_119 (by decide) ?_
            refine lv_iload_n C.1 C.2.1 dX7_does_121 rfl (lv_at hl 0 rfl) ?_
            refine lv_iadd C.1 C.2.1 dX7_does_122 ?_
            refine lv_dup2_11 C.1 C.2.1 dX7_does_123 rfl rfl ?_
            obtain ⟨i34, hf⟩ := ck_e hf
            refine x_ild (v := (h33 39) (((25 : Int32) + (x1 - x1 / (10 : Int32) * (10 : Int32)))).toNatClampNeg) C X w (wl_r39 (rfl)) i34 (rfl) dX7_does_124 ?_
            refine lv_iconst (v := 1) C.1 C.2.1 dX7_does_125 (by decide) ?_
            refine lv_iadd C.1 C.2.1 dX7_does_126 ?_
            obtain ⟨i35, hf⟩ := ck_e hf
            obtain ⟨h36, eh36, hf⟩ := bd_e hf
            refine x_ist (h2 := su h33 39 (upd (h33 39) (((25 : Int32) + (x1 - x1 / (10 : Int32) * (10 : Int32)))).toNatClampNeg (((h33 39) (((25 : Int32) + (x1 - x1 / (10 : Int32) * (10 : Int32)))).toNatClampNeg) + (1 : Int32)))) C X hI w (wl_r39 rfl) i35 ws_r39 dX7_does_127 (fun H locs w => ?_)
            replace w := at_eq eh36 w
            refine lv_iconst (v := 1) C.1 C.2.1 dX7_does_128 (by decide) ?_
            cases hf
            exact x_zret C hr hlk w rfl dX7_does_129
      · rw [if_neg c25] at hf
        refine lv_iconst (v := 0) C.1 C.2.1 dX7_does_86 (by decide) ?_
        cases hf
        exact x_zret C hr hlk w rfl dX7_does_87
    · rw [if_pos c22] at hf
      refine lv_iload_n C.1 C.2.1 dX7_does_29 rfl (lv_at hl 0 rfl) ?_
      refine lv_iconst (v := 4) C.1 C.2.1 dX7_does_30 (by decide) ?_
      refine lv_icmp_ge (tgt := 49) C.1 C.2.1 dX7_does_31 (by decide) (fun c37 => ?_) (fun c37 => ?_)
      · rw [if_pos c37] at hf
        exact w_X7_does_49 C hr hlk X hI _ _ _ _ _ w (lv_sub hl [2, 0] rfl) hf
      · rw [if_neg c37] at hf
        refine lv_aload_n C.1 C.2.1 dX7_does_34 rfl (lv_at hl 2 rfl) ?_
        refine gf_X7_29 C X w rfl dX7_does_35 ?_
        refine lv_bipush (v := 32) C.1 C.2.1 dX7_does_38 (by decide) ?_
        refine x_ild (v := (h 39) 32) C X w (wl_r39 (rfl)) (by decide) (congrArg _ (show (32 : Int32).toNatClampNeg = 32 by decide)) dX7_does_40 ?_
        refine lv_iload_n C.1 C.2.1 dX7_does_41 rfl (lv_at hl 0 rfl) ?_
        refine lv_icmp_eq (tgt := 49) C.1 C.2.1 dX7_does_42 (by decide) (fun c38 => ?_) (fun c38 => ?_)
        · rw [if_pos c38] at hf
          exact w_X7_does_49 C hr hlk X hI _ _ _ _ _ w (lv_sub hl [2, 0] rfl) hf
        · rw [if_neg c38] at hf
          refine lv_iconst (v := 1) C.1 C.2.1 dX7_does_45 (by decide) ?_
          refine lv_goto (tgt := 50) C.1 C.2.1 dX7_does_46 (by decide) ?_
          exact w_X7_does_50 C hr hlk X hI _ _ _ _ _ _ w (lv_sub hl [2, 0] rfl) hf
  · rw [if_pos c21] at hf
    refine lv_aload_n C.1 C.2.1 dX7_does_14 rfl (lv_at hl 2 rfl) ?_
    refine lv_aload_n C.1 C.2.1 dX7_does_15 rfl (lv_at hl 2 rfl) ?_
    refine gf_X7_29 C X w rfl dX7_does_16 ?_
    obtain ⟨P41, eq39, hf⟩ := bi1_e hf
    obtain ⟨h42, eh42, hf⟩ := bd_e hf
    refine x_cVv (As := [.ref (ad 147)]) (rest := []) C X (at_su 39 w) (c_X7_goMinute hI (Or.inr rfl) eq39) mw_X7_goMinute ml_X7_147 rcv_r33 rfl hl.1 rfl (Nat.le_of_ble_eq_true rfl) ⟨⟨Nat.le_of_ble_eq_true rfl, Nat.le_of_ble_eq_true rfl⟩, Nat.le_of_ble_eq_true rfl, Nat.le_of_ble_eq_true rfl⟩ dX7_does_19 (fun H locs w => ?_)
    replace w := at_eq eh42 w
    refine lv_iconst (v := 1) C.1 C.2.1 dX7_does_22 (by decide) ?_
    cases hf
    exact x_zret C hr hlk w rfl dX7_does_23

def qX7_judge_44 : Nat → Hp → Int32 → Int32 → Int32 → Option (Int32 × Hp)
  | 0, _, _, _, _ => none
  | n + 1, h, v1, v2, v3 =>
    (if v1 ≤ v3 then (some ((-9 : Int32), h))
    else (bi1 (qX7_power (100 : Int32) ((v1 - (1 : Int32)) - v3)) (fun r35 =>
    (ck (nz r35) ((bi2 (qX7_does h ((v2 / r35) - (v2 / r35) / (100 : Int32) * (100 : Int32))) (fun r37 h38 =>
    (if r37 = 0 then (some (v3, h38))
    else (qX7_judge_44 n h38 v1 v2 (v3 + 1))))))))))
set_option maxHeartbeats 4000000 in
set_option maxRecDepth 100000 in
theorem w_X7_judge_44 {p : Program} {l : Launch} {e : Env} {s : State} {m : MethodId} {args : Array Value} {below : List Frame} {meth : Method} {c : Code} {E : Ev} {ad : Nat → Nat} {g : Gp} {r : Int32} {h9 : Hp} (C : CallFix p m c cX7_judge 4 s args lwA RX7) (hr : meth.sig.returnType = (some .int)) (hlk : meth.locks = false) (X : Sx E ad s) (hI : Inj ad)  : ∀ (n : Nat), ∀ (h : Hp) (v1 : Int32) (v2 : Int32) (v3 : Int32) (H : Heap) (locs : List Loc) (ls : Array Slot), At E ad h g s H locs → lv_has ls 4 [(0, .ref (ad 141)), (1, .int v1), (2, .int v2), (3, .int v3)] → qX7_judge_44 n h v1 v2 v3 = some (r, h9) → W p l e (RM 7 164) s m args below meth c H locs 0 0 (QI E ad h9 g r below args s) (F0 m 44 ls []) := by
  intro n
  induction n with
  | zero =>
    intro h v1 v2 v3 H locs ls w hl hf
    cases hf
  | succ n ih =>
    intro h v1 v2 v3 H locs ls w hl hf
    rw [qX7_judge_44] at hf
    refine lv_iload_n C.1 C.2.1 dX7_judge_44 rfl (lv_at hl 3 rfl) ?_
    refine lv_iload_n C.1 C.2.1 dX7_judge_45 rfl (lv_at hl 1 rfl) ?_
    refine lv_icmp_ge (tgt := 79) C.1 C.2.1 dX7_judge_46 (by decide) (fun c33 => ?_) (fun c33 => ?_)
    · rw [if_pos c33] at hf
      refine lv_bipush (v := -9) C.1 C.2.1 dX7_judge_79 (by decide) ?_
      cases hf
      exact x_iret C hr hlk w dX7_judge_81
    · rw [if_neg c33] at hf
      refine lv_aload_n C.1 C.2.1 dX7_judge_49 rfl (lv_at hl 0 rfl) ?_
      refine lv_iload_n C.1 C.2.1 dX7_judge_50 rfl (lv_at hl 2 rfl) ?_
      refine lv_bipush (v := 100) C.1 C.2.1 dX7_judge_51 (by decide) ?_
      refine lv_iload_n C.1 C.2.1 dX7_judge_53 rfl (lv_at hl 1 rfl) ?_
      refine lv_iconst (v := 1) C.1 C.2.1 dX7_judge_54 (by decide) ?_
      refine lv_isub C.1 C.2.1 dX7_judge_55 ?_
      refine lv_iload_n C.1 C.2.1 dX7_judge_56 rfl (lv_at hl 3 rfl) ?_
      refine lv_isub C.1 C.2.1 dX7_judge_57 ?_
      obtain ⟨r35, eq34, hf⟩ := bi1_e hf
      refine x_cSi (As := [.int (100 : Int32), .int ((v1 - (1 : Int32)) - v3)]) (rest := [.int v2, .ref (ad 141)]) C X w (c_X7_power hI  eq34) mw_X7_power ml_X7_177 rfl hl.1 rfl (Nat.le_of_ble_eq_true rfl) ⟨⟨Nat.le_of_ble_eq_true rfl, Nat.le_of_ble_eq_true rfl⟩, Nat.le_of_ble_eq_true rfl, Nat.le_of_ble_eq_true rfl⟩ dX7_judge_58 (fun H locs w => ?_)
      obtain ⟨z40, hf⟩ := ck_e hf
      refine lv_idiv C.1 C.2.1 dX7_judge_61 (nz_e z40) ?_
      refine lv_bipush (v := 100) C.1 C.2.1 dX7_judge_62 (by decide) ?_
      refine lv_irem C.1 C.2.1 dX7_judge_64 (by decide) ?_
      obtain ⟨r37, h38, eq36, hf⟩ := bi2_e hf
      refine x_cVi (As := [.int ((v2 / r35) - (v2 / r35) / (100 : Int32) * (100 : Int32))]) (rest := []) C X w (c_X7_does hI eq36) mw_X7_does ml_X7_180 rcv_r33 rfl hl.1 rfl (Nat.le_of_ble_eq_true rfl) ⟨⟨Nat.le_of_ble_eq_true rfl, Nat.le_of_ble_eq_true rfl⟩, Nat.le_of_ble_eq_true rfl, Nat.le_of_ble_eq_true rfl⟩ dX7_judge_65 (fun H locs w => ?_)
      refine lv_if_ne (tgt := 73) C.1 C.2.1 dX7_judge_68 (by decide) (fun c39 => ?_) (fun c39 => ?_)
      · rw [if_neg c39] at hf
        refine lv_iinc (v := (v3 + 1)) (lv' := [(3, .int (v3 + 1)), (0, .ref (ad 141)), (1, .int v1), (2, .int v2)]) C.1 C.2.1 dX7_judge_73 hl (k := 3) rfl (congrArg (fun z => v3 + z) (by decide)) (by decide) rfl (fun ls hl => ?_)
        refine lv_goto (tgt := 44) C.1 C.2.1 dX7_judge_76 (by decide) ?_
        exact ih _ _ _ _ _ _ _ w (lv_sub hl [1, 2, 3, 0] rfl) hf
      · rw [if_pos c39] at hf
        refine lv_iload_n C.1 C.2.1 dX7_judge_71 rfl (lv_at hl 3 rfl) ?_
        cases hf
        exact x_iret C hr hlk w dX7_judge_72
def qX7_judge (h : Hp) (x1 : Int32) (x2 : Int32) : Option (Int32 × Hp) :=
(bd (su h 33 (upd (h 33) 0 (0 : Int32))) (fun h21 =>
(bi1 (qX7_in ((x1).toInt64) (1 : Int64) (4 : Int64)) (fun r23 =>
(if r23 = 0 then (some ((-2 : Int32), h21))
else (bi1 (qX7_power (100 : Int32) x1) (fun r26 =>
(bi1 (qX7_in ((x2).toInt64) (0 : Int64) (((r26 - (1 : Int32))).toInt64)) (fun r28 =>
(if r28 = 0 then (some ((-2 : Int32), h21))
else (bi1 (qX7_begin h21) (fun h32 =>
(qX7_judge_44 600 h32 x1 x2 (0 : Int32))))))))))))))
set_option maxHeartbeats 4000000 in
set_option maxRecDepth 100000 in
theorem c_X7_judge {l : Launch} {E : Ev} {ad : Nat → Nat} {g : Gp} {h : Hp} {x1 : Int32} {x2 : Int32} {r : Int32} {h9 : Hp} (hI : Inj ad) (hf : qX7_judge h x1 x2 = some (r, h9)) : CtI l yX7_judge cX7_judge 4 (some .int) 7 164 E ad g g [.ref (ad 141), .int x1, .int x2] h h9 r := by
  refine x_begin (by decide) (Nat.le_of_ble_eq_true rfl) ?_
  intro p e s m below meth c ls C hr hlk X w hl
  replace hl : lv_has ls 4 [(0, .ref (ad 141)), (1, .int x1), (2, .int x2)] := hl
  replace C : CallFix p m c cX7_judge 4 s ([.ref (ad 141), .int x1, .int x2] : List Value).toArray lwA RX7 := C
  unfold qX7_judge at hf
  refine lv_aload_n C.1 C.2.1 dX7_judge_0 rfl (lv_at hl 0 rfl) ?_
  refine lv_iconst (v := 0) C.1 C.2.1 dX7_judge_1 (by decide) ?_
  obtain ⟨h21, eh21, hf⟩ := bd_e hf
  refine pf_X7_51 C X hI w dX7_judge_2 (fun H locs w => ?_)
  replace w := at_eq eh21 w
  refine lv_iload_n C.1 C.2.1 dX7_judge_5 rfl (lv_at hl 1 rfl) ?_
  refine lv_i2l (v := (x1).toInt64) C.1 C.2.1 dX7_judge_6 rfl ?_
  refine lv_lconst (v := 1) C.1 C.2.1 dX7_judge_7 (by decide) ?_
  refine lv_ldc2 (v := 4) C.1 C.2.1 C.2.2.2.1 (C.2.2.2.2 _ wd_constantLong_OneTricycleModel_175_4_Int64_) dX7_judge_8 ?_
  obtain ⟨r23, eq22, hf⟩ := bi1_e hf
  refine x_cSi (As := [.long ((x1).toInt64), .long (1 : Int64), .long (4 : Int64)]) (rest := []) C X w (c_X7_in hI  eq22) mw_X7_in ml_X7_57 rfl hl.1 rfl (Nat.le_of_ble_eq_true rfl) ⟨⟨Nat.le_of_ble_eq_true rfl, Nat.le_of_ble_eq_true rfl⟩, Nat.le_of_ble_eq_true rfl, Nat.le_of_ble_eq_true rfl⟩ dX7_judge_11 (fun H locs w => ?_)
  refine lv_if_eq (tgt := 35) C.1 C.2.1 dX7_judge_14 (by decide) (fun c24 => ?_) (fun c24 => ?_)
  · rw [if_pos c24] at hf
    refine lv_bipush (v := -2) C.1 C.2.1 dX7_judge_35 (by decide) ?_
    cases hf
    exact x_iret C hr hlk w dX7_judge_37
  · rw [if_neg c24] at hf
    refine lv_iload_n C.1 C.2.1 dX7_judge_17 rfl (lv_at hl 2 rfl) ?_
    refine lv_i2l (v := (x2).toInt64) C.1 C.2.1 dX7_judge_18 rfl ?_
    refine lv_lconst (v := 0) C.1 C.2.1 dX7_judge_19 (by decide) ?_
    refine lv_bipush (v := 100) C.1 C.2.1 dX7_judge_20 (by decide) ?_
    refine lv_iload_n C.1 C.2.1 dX7_judge_22 rfl (lv_at hl 1 rfl) ?_
    obtain ⟨r26, eq25, hf⟩ := bi1_e hf
    refine x_cSi (As := [.int (100 : Int32), .int x1]) (rest := [.long (0 : Int64), .long ((x2).toInt64)]) C X w (c_X7_power hI  eq25) mw_X7_power ml_X7_177 rfl hl.1 rfl (Nat.le_of_ble_eq_true rfl) ⟨⟨Nat.le_of_ble_eq_true rfl, Nat.le_of_ble_eq_true rfl⟩, Nat.le_of_ble_eq_true rfl, Nat.le_of_ble_eq_true rfl⟩ dX7_judge_23 (fun H locs w => ?_)
    refine lv_iconst (v := 1) C.1 C.2.1 dX7_judge_26 (by decide) ?_
    refine lv_isub C.1 C.2.1 dX7_judge_27 ?_
    refine lv_i2l (v := ((r26 - (1 : Int32))).toInt64) C.1 C.2.1 dX7_judge_28 rfl ?_
    obtain ⟨r28, eq27, hf⟩ := bi1_e hf
    refine x_cSi (As := [.long ((x2).toInt64), .long (0 : Int64), .long (((r26 - (1 : Int32))).toInt64)]) (rest := []) C X w (c_X7_in hI  eq27) mw_X7_in ml_X7_57 rfl hl.1 rfl (Nat.le_of_ble_eq_true rfl) ⟨⟨Nat.le_of_ble_eq_true rfl, Nat.le_of_ble_eq_true rfl⟩, Nat.le_of_ble_eq_true rfl, Nat.le_of_ble_eq_true rfl⟩ dX7_judge_29 (fun H locs w => ?_)
    refine lv_if_ne (tgt := 38) C.1 C.2.1 dX7_judge_32 (by decide) (fun c29 => ?_) (fun c29 => ?_)
    · rw [if_neg c29] at hf
      refine lv_aload_n C.1 C.2.1 dX7_judge_38 rfl (lv_at hl 0 rfl) ?_
      obtain ⟨h32, eq30, hf⟩ := bi1_e hf
      refine x_cVv (As := []) (rest := []) C X w (c_X7_begin hI eq30) mw_X7_begin ml_X7_155 rcv_r33 rfl hl.1 rfl (Nat.le_of_ble_eq_true rfl) ⟨⟨Nat.le_of_ble_eq_true rfl, Nat.le_of_ble_eq_true rfl⟩, Nat.le_of_ble_eq_true rfl, Nat.le_of_ble_eq_true rfl⟩ dX7_judge_39 (fun H locs w => ?_)
      refine lv_iconst (v := 0) C.1 C.2.1 dX7_judge_42 (by decide) ?_
      refine lv_istore_n (lv' := [(3, .int (0 : Int32)), (0, .ref (ad 141)), (1, .int x1), (2, .int x2)]) C.1 C.2.1 dX7_judge_43 rfl hl (by decide) rfl (fun ls hl => ?_)
      exact w_X7_judge_44 C hr hlk X hI 600 _ _ _ _ _ _ _ w (lv_sub hl [1, 2, 3, 0] rfl) hf
    · rw [if_pos c29] at hf
      refine lv_bipush (v := -2) C.1 C.2.1 dX7_judge_35 (by decide) ?_
      cases hf
      exact x_iret C hr hlk w dX7_judge_37

def qX7_share_50 (k17 : Hp → Int32 → Int32 → Int32 → Option (Int32 × Hp)) : Nat → Hp → Int32 → Int32 → Int32 → Int32 → Option (Int32 × Hp)
  | 0, _, _, _, _, _ => none
  | n + 1, h, v1, v2, v3, v4 =>
    (if (6 : Int32) ≤ v4 then (bi1 (qX7_sumOf (h 33) (h 39) (10 : Int32)) (fun r50 =>
    (bi1 (qX7_sumOf (h 33) (h 38) (10 : Int32)) (fun r52 =>
    (ck (inb v3 32) (bd (su h 45 (upd (h 45) v3.toNatClampNeg (r50 - r52))) (fun h54 =>
    (k17 h54 v1 v2 (v3 + 1)))))))))
    else (bi1 (qX7_goMinute (h 33) (h 35) (h 36) (h 39)) (fun P57 =>
    (bd (su h 39 P57) (fun h58 =>
    (qX7_share_50 k17 n h58 v1 v2 v3 (v4 + 1)))))))
set_option maxHeartbeats 4000000 in
set_option maxRecDepth 100000 in
theorem w_X7_share_50 {p : Program} {l : Launch} {e : Env} {s : State} {m : MethodId} {args : Array Value} {below : List Frame} {meth : Method} {c : Code} {E : Ev} {ad : Nat → Nat} {g : Gp} {r : Int32} {h9 : Hp} {k17 : Hp → Int32 → Int32 → Int32 → Option (Int32 × Hp)} (C : CallFix p m c cX7_share 6 s args lwA RX7) (hr : meth.sig.returnType = (some .int)) (hlk : meth.locks = false) (X : Sx E ad s) (hI : Inj ad) (hk17 : ∀ (h : Hp) (v1 : Int32) (v2 : Int32) (v3 : Int32) (H : Heap) (locs : List Loc) (ls : Array Slot), At E ad h g s H locs → lv_has ls 6 [(0, .ref (ad 141)), (1, .int v1), (2, .int v2), (3, .int v3)] → k17 h v1 v2 v3 = some (r, h9) → W p l e (RM 6 140) s m args below meth c H locs 0 0 (QI E ad h9 g r below args s) (F0 m 17 ls [])) : ∀ (n : Nat), ∀ (h : Hp) (v1 : Int32) (v2 : Int32) (v3 : Int32) (v4 : Int32) (H : Heap) (locs : List Loc) (ls : Array Slot), At E ad h g s H locs → lv_has ls 6 [(0, .ref (ad 141)), (1, .int v1), (2, .int v2), (3, .int v3), (4, .int v4)] → qX7_share_50 k17 n h v1 v2 v3 v4 = some (r, h9) → W p l e (RM 6 140) s m args below meth c H locs 0 0 (QI E ad h9 g r below args s) (F0 m 50 ls []) := by
  intro n
  induction n with
  | zero =>
    intro h v1 v2 v3 v4 H locs ls w hl hf
    cases hf
  | succ n ih =>
    intro h v1 v2 v3 v4 H locs ls w hl hf
    rw [qX7_share_50] at hf
    refine lv_iload C.1 C.2.1 dX7_share_50 (lv_at hl 4 rfl) ?_
    refine lv_bipush (v := 6) C.1 C.2.1 dX7_share_52 (by decide) ?_
    refine lv_icmp_ge (tgt := 71) C.1 C.2.1 dX7_share_54 (by decide) (fun c48 => ?_) (fun c48 => ?_)
    · rw [if_pos c48] at hf
      refine lv_aload_n C.1 C.2.1 dX7_share_71 rfl (lv_at hl 0 rfl) ?_
      refine gf_X7_48 C X w rfl dX7_share_72 ?_
      refine lv_iload_n C.1 C.2.1 dX7_share_75 rfl (lv_at hl 3 rfl) ?_
      refine lv_aload_n C.1 C.2.1 dX7_share_76 rfl (lv_at hl 0 rfl) ?_
      refine lv_aload_n C.1 C.2.1 dX7_share_77 rfl (lv_at hl 0 rfl) ?_
      refine gf_X7_29 C X w rfl dX7_share_78 ?_
      refine lv_bipush (v := 10) C.1 C.2.1 dX7_share_81 (by decide) ?_
      obtain ⟨r50, eq49, hf⟩ := bi1_e hf
      refine x_cVi (As := [.ref (ad 147), .int (10 : Int32)]) (rest := [.int v3, .ref (ad 153)]) C X (at_su 39 w) (c_X7_sumOf hI (Or.inr rfl) eq49) mw_X7_sumOf ml_X7_158 rcv_r33 rfl hl.1 rfl (Nat.le_of_ble_eq_true rfl) ⟨⟨Nat.le_of_ble_eq_true rfl, Nat.le_of_ble_eq_true rfl⟩, Nat.le_of_ble_eq_true rfl, Nat.le_of_ble_eq_true rfl⟩ dX7_share_83 (fun H locs w => ?_)
      replace w := at_us w
      refine lv_aload_n C.1 C.2.1 dX7_share_86 rfl (lv_at hl 0 rfl) ?_
      refine lv_aload_n C.1 C.2.1 dX7_share_87 rfl (lv_at hl 0 rfl) ?_
      refine gf_X7_26 C X w rfl dX7_share_88 ?_
      refine lv_bipush (v := 10) C.1 C.2.1 dX7_share_91 (by decide) ?_
      obtain ⟨r52, eq51, hf⟩ := bi1_e hf
      refine x_cVi (As := [.ref (ad 146), .int (10 : Int32)]) (rest := [.int r50, .int v3, .ref (ad 153)]) C X (at_su 38 w) (c_X7_sumOf hI (Or.inl rfl) eq51) mw_X7_sumOf ml_X7_158 rcv_r33 rfl hl.1 rfl (Nat.le_of_ble_eq_true rfl) ⟨⟨Nat.le_of_ble_eq_true rfl, Nat.le_of_ble_eq_true rfl⟩, Nat.le_of_ble_eq_true rfl, Nat.le_of_ble_eq_true rfl⟩ dX7_share_93 (fun H locs w => ?_)
      replace w := at_us w
      refine lv_isub C.1 C.2.1 dX7_share_96 ?_
      obtain ⟨i53, hf⟩ := ck_e hf
      obtain ⟨h54, eh54, hf⟩ := bd_e hf
      refine x_ist (h2 := su h 45 (upd (h 45) v3.toNatClampNeg (r50 - r52))) C X hI w (wl_r45 rfl) i53 ws_r45 dX7_share_97 (fun H locs w => ?_)
      replace w := at_eq eh54 w
      refine lv_iinc (v := (v3 + 1)) (lv' := [(3, .int (v3 + 1)), (0, .ref (ad 141)), (1, .int v1), (2, .int v2), (4, .int v4)]) C.1 C.2.1 dX7_share_98 hl (k := 3) rfl (congrArg (fun z => v3 + z) (by decide)) (by decide) rfl (fun ls hl => ?_)
      refine lv_goto (tgt := 17) C.1 C.2.1 dX7_share_101 (by decide) ?_
      exact hk17 _ _ _ _ _ _ _ w (lv_sub hl [1, 2, 3, 0] rfl) hf
    · rw [if_neg c48] at hf
      refine lv_aload_n C.1 C.2.1 dX7_share_57 rfl (lv_at hl 0 rfl) ?_
      refine lv_aload_n C.1 C.2.1 dX7_share_58 rfl (lv_at hl 0 rfl) ?_
      refine gf_X7_29 C X w rfl dX7_share_59 ?_
      obtain ⟨P57, eq55, hf⟩ := bi1_e hf
      obtain ⟨h58, eh58, hf⟩ := bd_e hf
      refine x_cVv (As := [.ref (ad 147)]) (rest := []) C X (at_su 39 w) (c_X7_goMinute hI (Or.inr rfl) eq55) mw_X7_goMinute ml_X7_147 rcv_r33 rfl hl.1 rfl (Nat.le_of_ble_eq_true rfl) ⟨⟨Nat.le_of_ble_eq_true rfl, Nat.le_of_ble_eq_true rfl⟩, Nat.le_of_ble_eq_true rfl, Nat.le_of_ble_eq_true rfl⟩ dX7_share_62 (fun H locs w => ?_)
      replace w := at_eq eh58 w
      refine lv_iinc (v := (v4 + 1)) (lv' := [(4, .int (v4 + 1)), (0, .ref (ad 141)), (1, .int v1), (2, .int v2), (3, .int v3)]) C.1 C.2.1 dX7_share_65 hl (k := 4) rfl (congrArg (fun z => v4 + z) (by decide)) (by decide) rfl (fun ls hl => ?_)
      refine lv_goto (tgt := 50) C.1 C.2.1 dX7_share_68 (by decide) ?_
      exact ih _ _ _ _ _ _ _ _ w (lv_sub hl [1, 2, 3, 4, 0] rfl) hf
def qX7_share_177 (k109 : Hp → Int32 → Int32 → Int32 → Int32 → Option (Int32 × Hp)) (h : Hp) (v1 : Int32) (v2 : Int32) (v3 : Int32) (v4 : Int32) : Option (Int32 × Hp) :=
(k109 h v1 v2 v3 (v4 + 1))
set_option maxHeartbeats 4000000 in
set_option maxRecDepth 100000 in
theorem w_X7_share_177 {p : Program} {l : Launch} {e : Env} {s : State} {m : MethodId} {args : Array Value} {below : List Frame} {meth : Method} {c : Code} {E : Ev} {ad : Nat → Nat} {g : Gp} {r : Int32} {h9 : Hp} {k109 : Hp → Int32 → Int32 → Int32 → Int32 → Option (Int32 × Hp)} (C : CallFix p m c cX7_share 6 s args lwA RX7) (hr : meth.sig.returnType = (some .int)) (hlk : meth.locks = false) (X : Sx E ad s) (hI : Inj ad) (hk109 : ∀ (h : Hp) (v1 : Int32) (v2 : Int32) (v3 : Int32) (v4 : Int32) (H : Heap) (locs : List Loc) (ls : Array Slot), At E ad h g s H locs → lv_has ls 6 [(0, .ref (ad 141)), (1, .int v1), (2, .int v2), (3, .int v3), (4, .int v4)] → k109 h v1 v2 v3 v4 = some (r, h9) → W p l e (RM 6 140) s m args below meth c H locs 0 0 (QI E ad h9 g r below args s) (F0 m 109 ls [])) : ∀ (h : Hp) (v1 : Int32) (v2 : Int32) (v3 : Int32) (v4 : Int32) (H : Heap) (locs : List Loc) (ls : Array Slot), At E ad h g s H locs → lv_has ls 6 [(0, .ref (ad 141)), (1, .int v1), (2, .int v2), (3, .int v3), (4, .int v4)] → qX7_share_177 k109 h v1 v2 v3 v4 = some (r, h9) → W p l e (RM 6 140) s m args below meth c H locs 0 0 (QI E ad h9 g r below args s) (F0 m 177 ls []) := by
  intro h v1 v2 v3 v4 H locs ls w hl hf
  unfold qX7_share_177 at hf
  refine lv_iinc (v := (v4 + 1)) (lv' := [(4, .int (v4 + 1)), (0, .ref (ad 141)), (1, .int v1), (2, .int v2), (3, .int v3)]) C.1 C.2.1 dX7_share_177 hl (k := 4) rfl (congrArg (fun z => v4 + z) (by decide)) (by decide) rfl (fun ls hl => ?_)
  refine lv_goto (tgt := 109) C.1 C.2.1 dX7_share_180 (by decide) ?_
  exact hk109 _ _ _ _ _ _ _ _ w (lv_sub hl [1, 2, 3, 4, 0] rfl) hf
def qX7_share_109 : Nat → Hp → Int32 → Int32 → Int32 → Int32 → Option (Int32 × Hp)
  | 0, _, _, _, _, _ => none
  | n + 1, h, v1, v2, v3, v4 =>
    (if ((1 : Int32) <<< (((h 33) 4) &&& 31)) ≤ v4 then (bi1 (qX7_ways ((h 33) 4)) (fun r33 =>
    (bi1 (qX7_fraction v3 r33 v2) (fun r35 =>
    (some (r35, h))))))
    else (bi1 (qX7_has v4 v1) (fun r37 =>
    (if r37 = 0 then (bi1 (qX7_many v4) (fun r40 =>
    (bi1 (qX7_ways r40) (fun r42 =>
    (bi1 (qX7_ways ((((h 33) 4) - (1 : Int32)) - r40)) (fun r44 =>
    (ck (inb (v4 ||| ((1 : Int32) <<< (v1 &&& 31))) 32) ((ck (inb v4 32) ((bd (v3 + ((r42 * r44) * (((h 45) ((v4 ||| ((1 : Int32) <<< (v1 &&& 31)))).toNatClampNeg) - ((h 45) v4.toNatClampNeg)))) (fun x47 =>
    (qX7_share_177 (qX7_share_109 n) h v1 v2 x47 v4)))))))))))))
    else (qX7_share_177 (qX7_share_109 n) h v1 v2 v3 v4)))))
set_option maxHeartbeats 4000000 in
set_option maxRecDepth 100000 in
theorem w_X7_share_109 {p : Program} {l : Launch} {e : Env} {s : State} {m : MethodId} {args : Array Value} {below : List Frame} {meth : Method} {c : Code} {E : Ev} {ad : Nat → Nat} {g : Gp} {r : Int32} {h9 : Hp} (C : CallFix p m c cX7_share 6 s args lwA RX7) (hr : meth.sig.returnType = (some .int)) (hlk : meth.locks = false) (X : Sx E ad s) (hI : Inj ad)  : ∀ (n : Nat), ∀ (h : Hp) (v1 : Int32) (v2 : Int32) (v3 : Int32) (v4 : Int32) (H : Heap) (locs : List Loc) (ls : Array Slot), At E ad h g s H locs → lv_has ls 6 [(0, .ref (ad 141)), (1, .int v1), (2, .int v2), (3, .int v3), (4, .int v4)] → qX7_share_109 n h v1 v2 v3 v4 = some (r, h9) → W p l e (RM 6 140) s m args below meth c H locs 0 0 (QI E ad h9 g r below args s) (F0 m 109 ls []) := by
  intro n
  induction n with
  | zero =>
    intro h v1 v2 v3 v4 H locs ls w hl hf
    cases hf
  | succ n ih =>
    intro h v1 v2 v3 v4 H locs ls w hl hf
    rw [qX7_share_109] at hf
    refine lv_iload C.1 C.2.1 dX7_share_109 (lv_at hl 4 rfl) ?_
    refine lv_iconst (v := 1) C.1 C.2.1 dX7_share_111 (by decide) ?_
    refine lv_aload_n C.1 C.2.1 dX7_share_112 rfl (lv_at hl 0 rfl) ?_
    refine gf_X7_54 C X w (rfl) dX7_share_113 ?_
    refine lv_ishl C.1 C.2.1 dX7_share_116 ?_
    refine lv_icmp_ge (tgt := 183) C.1 C.2.1 dX7_share_117 (by decide) (fun c31 => ?_) (fun c31 => ?_)
    · rw [if_pos c31] at hf
      refine lv_iload_n C.1 C.2.1 dX7_share_183 rfl (lv_at hl 3 rfl) ?_
      refine lv_aload_n C.1 C.2.1 dX7_share_184 rfl (lv_at hl 0 rfl) ?_
      refine gf_X7_54 C X w (rfl) dX7_share_185 ?_
      obtain ⟨r33, eq32, hf⟩ := bi1_e hf
      refine x_cSi (As := [.int ((h 33) 4)]) (rest := [.int v3]) C X w (c_X7_ways hI  eq32) mw_X7_ways ml_X7_186 rfl hl.1 rfl (Nat.le_of_ble_eq_true rfl) ⟨⟨Nat.le_of_ble_eq_true rfl, Nat.le_of_ble_eq_true rfl⟩, Nat.le_of_ble_eq_true rfl, Nat.le_of_ble_eq_true rfl⟩ dX7_share_188 (fun H locs w => ?_)
      refine lv_iload_n C.1 C.2.1 dX7_share_191 rfl (lv_at hl 2 rfl) ?_
      obtain ⟨r35, eq34, hf⟩ := bi1_e hf
      refine x_cSi (As := [.int v3, .int r33, .int v2]) (rest := []) C X w (c_X7_fraction hI  eq34) mw_X7_fraction ml_X7_189 rfl hl.1 rfl (Nat.le_of_ble_eq_true rfl) ⟨⟨Nat.le_of_ble_eq_true rfl, Nat.le_of_ble_eq_true rfl⟩, Nat.le_of_ble_eq_true rfl, Nat.le_of_ble_eq_true rfl⟩ dX7_share_192 (fun H locs w => ?_)
      cases hf
      exact x_iret C hr hlk w dX7_share_195
    · rw [if_neg c31] at hf
      refine lv_iload C.1 C.2.1 dX7_share_120 (lv_at hl 4 rfl) ?_
      refine lv_iload_n C.1 C.2.1 dX7_share_122 rfl (lv_at hl 1 rfl) ?_
      obtain ⟨r37, eq36, hf⟩ := bi1_e hf
      refine x_cSi (As := [.int v4, .int v1]) (rest := []) C X w (c_X7_has hI  eq36) mw_X7_has ml_X7_99 rfl hl.1 rfl (Nat.le_of_ble_eq_true rfl) ⟨⟨Nat.le_of_ble_eq_true rfl, Nat.le_of_ble_eq_true rfl⟩, Nat.le_of_ble_eq_true rfl, Nat.le_of_ble_eq_true rfl⟩ dX7_share_123 (fun H locs w => ?_)
      refine lv_if_ne (tgt := 177) C.1 C.2.1 dX7_share_126 (by decide) (fun c38 => ?_) (fun c38 => ?_)
      · rw [if_neg c38] at hf
        exact w_X7_share_177 C hr hlk X hI ih _ _ _ _ _ _ _ _ w (lv_sub hl [0, 1, 2, 3, 4] rfl) hf
      · rw [if_pos c38] at hf
        refine lv_iload C.1 C.2.1 dX7_share_129 (lv_at hl 4 rfl) ?_
        obtain ⟨r40, eq39, hf⟩ := bi1_e hf
        refine x_cSi (As := [.int v4]) (rest := []) C X w (c_X7_many hI  eq39) mw_X7_many ml_X7_128 rfl hl.1 rfl (Nat.le_of_ble_eq_true rfl) ⟨⟨Nat.le_of_ble_eq_true rfl, Nat.le_of_ble_eq_true rfl⟩, Nat.le_of_ble_eq_true rfl, Nat.le_of_ble_eq_true rfl⟩ dX7_share_131 (fun H locs w => ?_)
        refine lv_istore (lv' := [(5, .int r40), (0, .ref (ad 141)), (1, .int v1), (2, .int v2), (3, .int v3), (4, .int v4)]) C.1 C.2.1 dX7_share_134 hl (by decide) rfl (fun ls hl => ?_)
        refine lv_iload_n C.1 C.2.1 dX7_share_136 rfl (lv_at hl 4 rfl) ?_
        refine lv_iload C.1 C.2.1 dX7_share_137 (lv_at hl 0 rfl) ?_
        obtain ⟨r42, eq41, hf⟩ := bi1_e hf
        refine x_cSi (As := [.int r40]) (rest := [.int v3]) C X w (c_X7_ways hI  eq41) mw_X7_ways ml_X7_186 rfl hl.1 rfl (Nat.le_of_ble_eq_true rfl) ⟨⟨Nat.le_of_ble_eq_true rfl, Nat.le_of_ble_eq_true rfl⟩, Nat.le_of_ble_eq_true rfl, Nat.le_of_ble_eq_true rfl⟩ dX7_share_139 (fun H locs w => ?_)
        refine lv_aload_n C.1 C.2.1 dX7_share_142 rfl (lv_at hl 1 rfl) ?_
        refine gf_X7_54 C X w (rfl) dX7_share_143 ?_
        refine lv_iconst (v := 1) C.1 C.2.1 dX7_share_146 (by decide) ?_
        refine lv_isub C.1 C.2.1 dX7_share_147 ?_
        refine lv_iload C.1 C.2.1 dX7_share_148 (lv_at hl 0 rfl) ?_
        refine lv_isub C.1 C.2.1 dX7_share_150 ?_
        obtain ⟨r44, eq43, hf⟩ := bi1_e hf
        refine x_cSi (As := [.int ((((h 33) 4) - (1 : Int32)) - r40)]) (rest := [.int r42, .int v3]) C X w (c_X7_ways hI  eq43) mw_X7_ways ml_X7_186 rfl hl.1 rfl (Nat.le_of_ble_eq_true rfl) ⟨⟨Nat.le_of_ble_eq_true rfl, Nat.le_of_ble_eq_true rfl⟩, Nat.le_of_ble_eq_true rfl, Nat.le_of_ble_eq_true rfl⟩ dX7_share_151 (fun H locs w => ?_)
        refine lv_imul C.1 C.2.1 dX7_share_154 ?_
        refine lv_aload_n C.1 C.2.1 dX7_share_155 rfl (lv_at hl 1 rfl) ?_
        refine gf_X7_48 C X w rfl dX7_share_156 ?_
        refine lv_iload C.1 C.2.1 dX7_share_159 (lv_at hl 5 rfl) ?_
        refine lv_iconst (v := 1) C.1 C.2.1 dX7_share_161 (by decide) ?_
        refine lv_iload_n C.1 C.2.1 dX7_share_162 rfl (lv_at hl 2 rfl) ?_
        refine lv_ishl C.1 C.2.1 dX7_share_163 ?_
        refine lv_ior C.1 C.2.1 dX7_share_164 ?_
        obtain ⟨i45, hf⟩ := ck_e hf
        refine x_ild (v := (h 45) ((v4 ||| ((1 : Int32) <<< (v1 &&& 31)))).toNatClampNeg) C X w (wl_r45 (rfl)) i45 (rfl) dX7_share_165 ?_
        refine lv_aload_n C.1 C.2.1 dX7_share_166 rfl (lv_at hl 1 rfl) ?_
        refine gf_X7_48 C X w rfl dX7_share_167 ?_
        refine lv_iload C.1 C.2.1 dX7_share_170 (lv_at hl 5 rfl) ?_
        obtain ⟨i46, hf⟩ := ck_e hf
        refine x_ild (v := (h 45) v4.toNatClampNeg) C X w (wl_r45 (rfl)) i46 (rfl) dX7_share_172 ?_
        refine lv_isub C.1 C.2.1 dX7_share_173 ?_
        refine lv_imul C.1 C.2.1 dX7_share_174 ?_
        refine lv_iadd C.1 C.2.1 dX7_share_175 ?_
        obtain ⟨x47, ex47, hf⟩ := bd_e hf
        refine x_tp ex47 ?_
        refine lv_istore_n (lv' := [(3, .int x47), (5, .int r40), (0, .ref (ad 141)), (1, .int v1), (2, .int v2), (4, .int v4)]) C.1 C.2.1 dX7_share_176 rfl hl (by decide) rfl (fun ls hl => ?_)
        exact w_X7_share_177 C hr hlk X hI ih _ _ _ _ _ _ _ _ w (lv_sub hl [2, 3, 4, 0, 5] rfl) hf
def qX7_share_17 : Nat → Hp → Int32 → Int32 → Int32 → Option (Int32 × Hp)
  | 0, _, _, _, _ => none
  | n + 1, h, v1, v2, v3 =>
    (if ((1 : Int32) <<< (((h 33) 4) &&& 31)) ≤ v3 then (qX7_share_109 600 h v1 v2 (0 : Int32) (0 : Int32))
    else (bi1 (qX7_begin h) (fun h28 =>
    (bd (su h28 33 (upd (h28 33) 25 v3)) (fun h29 =>
    (bd (su h29 39 (upd (h29 39) 30 (((h29 39) 30) &&& v3))) (fun h30 =>
    (qX7_share_50 (qX7_share_17 n) 600 h30 v1 v2 v3 (0 : Int32)))))))))
set_option maxHeartbeats 4000000 in
set_option maxRecDepth 100000 in
theorem w_X7_share_17 {p : Program} {l : Launch} {e : Env} {s : State} {m : MethodId} {args : Array Value} {below : List Frame} {meth : Method} {c : Code} {E : Ev} {ad : Nat → Nat} {g : Gp} {r : Int32} {h9 : Hp} (C : CallFix p m c cX7_share 6 s args lwA RX7) (hr : meth.sig.returnType = (some .int)) (hlk : meth.locks = false) (X : Sx E ad s) (hI : Inj ad)  : ∀ (n : Nat), ∀ (h : Hp) (v1 : Int32) (v2 : Int32) (v3 : Int32) (H : Heap) (locs : List Loc) (ls : Array Slot), At E ad h g s H locs → lv_has ls 6 [(0, .ref (ad 141)), (1, .int v1), (2, .int v2), (3, .int v3)] → qX7_share_17 n h v1 v2 v3 = some (r, h9) → W p l e (RM 6 140) s m args below meth c H locs 0 0 (QI E ad h9 g r below args s) (F0 m 17 ls []) := by
  intro n
  induction n with
  | zero =>
    intro h v1 v2 v3 H locs ls w hl hf
    cases hf
  | succ n ih =>
    intro h v1 v2 v3 H locs ls w hl hf
    rw [qX7_share_17] at hf
    refine lv_iload_n C.1 C.2.1 dX7_share_17 rfl (lv_at hl 3 rfl) ?_
    refine lv_iconst (v := 1) C.1 C.2.1 dX7_share_18 (by decide) ?_
    refine lv_aload_n C.1 C.2.1 dX7_share_19 rfl (lv_at hl 0 rfl) ?_
    refine gf_X7_54 C X w (rfl) dX7_share_20 ?_
    refine lv_ishl C.1 C.2.1 dX7_share_23 ?_
    refine lv_icmp_ge (tgt := 104) C.1 C.2.1 dX7_share_24 (by decide) (fun c25 => ?_) (fun c25 => ?_)
    · rw [if_pos c25] at hf
      refine lv_iconst (v := 0) C.1 C.2.1 dX7_share_104 (by decide) ?_
      refine lv_istore_n (lv' := [(3, .int (0 : Int32)), (0, .ref (ad 141)), (1, .int v1), (2, .int v2)]) C.1 C.2.1 dX7_share_105 rfl hl (by decide) rfl (fun ls hl => ?_)
      refine lv_iconst (v := 0) C.1 C.2.1 dX7_share_106 (by decide) ?_
      refine lv_istore (lv' := [(4, .int (0 : Int32)), (3, .int (0 : Int32)), (0, .ref (ad 141)), (1, .int v1), (2, .int v2)]) C.1 C.2.1 dX7_share_107 hl (by decide) rfl (fun ls hl => ?_)
      exact w_X7_share_109 C hr hlk X hI 600 _ _ _ _ _ _ _ _ w (lv_sub hl [2, 3, 4, 1, 0] rfl) hf
    · rw [if_neg c25] at hf
      refine lv_aload_n C.1 C.2.1 dX7_share_27 rfl (lv_at hl 0 rfl) ?_
      obtain ⟨h28, eq26, hf⟩ := bi1_e hf
      refine x_cVv (As := []) (rest := []) C X w (c_X7_begin hI eq26) mw_X7_begin ml_X7_155 rcv_r33 rfl hl.1 rfl (Nat.le_of_ble_eq_true rfl) ⟨⟨Nat.le_of_ble_eq_true rfl, Nat.le_of_ble_eq_true rfl⟩, Nat.le_of_ble_eq_true rfl, Nat.le_of_ble_eq_true rfl⟩ dX7_share_28 (fun H locs w => ?_)
      refine lv_aload_n C.1 C.2.1 dX7_share_31 rfl (lv_at hl 0 rfl) ?_
      refine lv_iload_n C.1 C.2.1 dX7_share_32 rfl (lv_at hl 3 rfl) ?_
      obtain ⟨h29, eh29, hf⟩ := bd_e hf
      refine pf_X7_96 C X hI w dX7_share_33 (fun H locs w => ?_)
      replace w := at_eq eh29 w
      refine lv_aload_n C.1 C.2.1 dX7_share_36 rfl (lv_at hl 0 rfl) ?_
      refine gf_X7_29 C X w rfl dX7_share_37 ?_
      refine lv_bipush (v := 30) C.1 C.2.1 dX7_share_40 (by decide) ?_
      refine lv_dup2_11 C.1 C.2.1 dX7_share_42 rfl rfl ?_
      refine x_ild (v := (h29 39) 30) C X w (wl_r39 (rfl)) (by decide) (congrArg _ (show (30 : Int32).toNatClampNeg = 30 by decide)) dX7_share_43 ?_
      refine lv_iload_n C.1 C.2.1 dX7_share_44 rfl (lv_at hl 3 rfl) ?_
      refine lv_iand C.1 C.2.1 dX7_share_45 ?_
      obtain ⟨h30, eh30, hf⟩ := bd_e hf
      refine x_ist (h2 := su h29 39 (upd (h29 39) 30 (((h29 39) 30) &&& v3))) C X hI w (wl_r39 rfl) (by decide) (by rw [show (30 : Int32).toNatClampNeg = 30 by decide]; exact ws_r39) dX7_share_46 (fun H locs w => ?_)
      replace w := at_eq eh30 w
      refine lv_iconst (v := 0) C.1 C.2.1 dX7_share_47 (by decide) ?_
      refine lv_istore (lv' := [(4, .int (0 : Int32)), (0, .ref (ad 141)), (1, .int v1), (2, .int v2), (3, .int v3)]) C.1 C.2.1 dX7_share_48 hl (by decide) rfl (fun ls hl => ?_)
      exact w_X7_share_50 C hr hlk X hI ih 600 _ _ _ _ _ _ _ _ w (lv_sub hl [1, 2, 3, 4, 0] rfl) hf
def qX7_share (h : Hp) (x1 : Int32) (x2 : Int32) : Option (Int32 × Hp) :=
(bd (su h 33 (upd (h 33) 0 (0 : Int32))) (fun h21 =>
(bi1 (qX7_noChild (h21 33) x1) (fun r23 =>
(if r23 = 0 then (qX7_share_17 600 h21 x1 x2 (0 : Int32))
else (some ((-1 : Int32), h21)))))))
set_option maxHeartbeats 4000000 in
set_option maxRecDepth 100000 in
theorem c_X7_share {l : Launch} {E : Ev} {ad : Nat → Nat} {g : Gp} {h : Hp} {x1 : Int32} {x2 : Int32} {r : Int32} {h9 : Hp} (hI : Inj ad) (hf : qX7_share h x1 x2 = some (r, h9)) : CtI l yX7_share cX7_share 6 (some .int) 6 140 E ad g g [.ref (ad 141), .int x1, .int x2] h h9 r := by
  refine x_begin (by decide) (Nat.le_of_ble_eq_true rfl) ?_
  intro p e s m below meth c ls C hr hlk X w hl
  replace hl : lv_has ls 6 [(0, .ref (ad 141)), (1, .int x1), (2, .int x2)] := hl
  replace C : CallFix p m c cX7_share 6 s ([.ref (ad 141), .int x1, .int x2] : List Value).toArray lwA RX7 := C
  unfold qX7_share at hf
  refine lv_aload_n C.1 C.2.1 dX7_share_0 rfl (lv_at hl 0 rfl) ?_
  refine lv_iconst (v := 0) C.1 C.2.1 dX7_share_1 (by decide) ?_
  obtain ⟨h21, eh21, hf⟩ := bd_e hf
  refine pf_X7_51 C X hI w dX7_share_2 (fun H locs w => ?_)
  replace w := at_eq eh21 w
  refine lv_aload_n C.1 C.2.1 dX7_share_5 rfl (lv_at hl 0 rfl) ?_
  refine lv_iload_n C.1 C.2.1 dX7_share_6 rfl (lv_at hl 1 rfl) ?_
  obtain ⟨r23, eq22, hf⟩ := bi1_e hf
  refine x_cVi (As := [.int x1]) (rest := []) C X w (c_X7_noChild hI (rfl) eq22) mw_X7_noChild ml_X7_140 rcv_r33 rfl hl.1 rfl (Nat.le_of_ble_eq_true rfl) ⟨⟨Nat.le_of_ble_eq_true rfl, Nat.le_of_ble_eq_true rfl⟩, Nat.le_of_ble_eq_true rfl, Nat.le_of_ble_eq_true rfl⟩ dX7_share_7 (fun H locs w => ?_)
  refine lv_if_eq (tgt := 15) C.1 C.2.1 dX7_share_10 (by decide) (fun c24 => ?_) (fun c24 => ?_)
  · rw [if_pos c24] at hf
    refine lv_iconst (v := 0) C.1 C.2.1 dX7_share_15 (by decide) ?_
    refine lv_istore_n (lv' := [(3, .int (0 : Int32)), (0, .ref (ad 141)), (1, .int x1), (2, .int x2)]) C.1 C.2.1 dX7_share_16 rfl hl (by decide) rfl (fun ls hl => ?_)
    exact w_X7_share_17 C hr hlk X hI 600 _ _ _ _ _ _ _ w (lv_sub hl [1, 2, 3, 0] rfl) hf
  · rw [if_neg c24] at hf
    refine lv_iconst (v := -1) C.1 C.2.1 dX7_share_13 (by decide) ?_
    cases hf
    exact x_iret C hr hlk w dX7_share_14

def qX7_see (h : Hp) (x1 : Int32) (x2 : Int32) : Option (Int32 × Hp) :=
(bd (su h 33 (upd (h 33) 0 (0 : Int32))) (fun h21 =>
(bi1 (qX7_noChild (h21 33) x1) (fun r23 =>
(if r23 = 0 then (bi1 (qX7_in ((x2).toInt64) (1 : Int64) (20 : Int64)) (fun r26 =>
(if r26 = 0 then (some ((-2 : Int32), h21))
else (if ((h21 33) 18) = (6 : Int32) then (some ((-4 : Int32), h21))
else (ck (inb ((h21 33) 18) 6) (bd (su h21 43 (upd (h21 43) (((h21 33) 18)).toNatClampNeg x1)) (fun h30 =>
(ck (inb ((h30 33) 18) 6) (bd (su h30 44 (upd (h30 44) (((h30 33) 18)).toNatClampNeg x2)) (fun h32 =>
(bd (su h32 33 (upd (h32 33) 18 (((h32 33) 18) + (1 : Int32)))) (fun h33 =>
(some (((h33 33) 18), h33))))))))))))))
else (some ((-1 : Int32), h21)))))))
set_option maxHeartbeats 4000000 in
set_option maxRecDepth 100000 in
theorem c_X7_see {l : Launch} {E : Ev} {ad : Nat → Nat} {g : Gp} {h : Hp} {x1 : Int32} {x2 : Int32} {r : Int32} {h9 : Hp} (hI : Inj ad) (hf : qX7_see h x1 x2 = some (r, h9)) : CtI l yX7_see cX7_see 3 (some .int) 2 46 E ad g g [.ref (ad 141), .int x1, .int x2] h h9 r := by
  refine x_begin (by decide) (Nat.le_of_ble_eq_true rfl) ?_
  intro p e s m below meth c ls C hr hlk X w hl
  replace hl : lv_has ls 3 [(0, .ref (ad 141)), (1, .int x1), (2, .int x2)] := hl
  replace C : CallFix p m c cX7_see 3 s ([.ref (ad 141), .int x1, .int x2] : List Value).toArray lwA RX7 := C
  unfold qX7_see at hf
  refine lv_aload_n C.1 C.2.1 dX7_see_0 rfl (lv_at hl 0 rfl) ?_
  refine lv_iconst (v := 0) C.1 C.2.1 dX7_see_1 (by decide) ?_
  obtain ⟨h21, eh21, hf⟩ := bd_e hf
  refine pf_X7_51 C X hI w dX7_see_2 (fun H locs w => ?_)
  replace w := at_eq eh21 w
  refine lv_aload_n C.1 C.2.1 dX7_see_5 rfl (lv_at hl 0 rfl) ?_
  refine lv_iload_n C.1 C.2.1 dX7_see_6 rfl (lv_at hl 1 rfl) ?_
  obtain ⟨r23, eq22, hf⟩ := bi1_e hf
  refine x_cVi (As := [.int x1]) (rest := []) C X w (c_X7_noChild hI (rfl) eq22) mw_X7_noChild ml_X7_140 rcv_r33 rfl hl.1 rfl (Nat.le_of_ble_eq_true rfl) ⟨⟨Nat.le_of_ble_eq_true rfl, Nat.le_of_ble_eq_true rfl⟩, Nat.le_of_ble_eq_true rfl, Nat.le_of_ble_eq_true rfl⟩ dX7_see_7 (fun H locs w => ?_)
  refine lv_if_eq (tgt := 15) C.1 C.2.1 dX7_see_10 (by decide) (fun c24 => ?_) (fun c24 => ?_)
  · rw [if_pos c24] at hf
    refine lv_iload_n C.1 C.2.1 dX7_see_15 rfl (lv_at hl 2 rfl) ?_
    refine lv_i2l (v := (x2).toInt64) C.1 C.2.1 dX7_see_16 rfl ?_
    refine lv_lconst (v := 1) C.1 C.2.1 dX7_see_17 (by decide) ?_
    refine lv_ldc2 (v := 20) C.1 C.2.1 C.2.2.2.1 (C.2.2.2.2 _ wd_constantLong_OneTricycleModel_193_20_Int64_) dX7_see_18 ?_
    obtain ⟨r26, eq25, hf⟩ := bi1_e hf
    refine x_cSi (As := [.long ((x2).toInt64), .long (1 : Int64), .long (20 : Int64)]) (rest := []) C X w (c_X7_in hI  eq25) mw_X7_in ml_X7_57 rfl hl.1 rfl (Nat.le_of_ble_eq_true rfl) ⟨⟨Nat.le_of_ble_eq_true rfl, Nat.le_of_ble_eq_true rfl⟩, Nat.le_of_ble_eq_true rfl, Nat.le_of_ble_eq_true rfl⟩ dX7_see_21 (fun H locs w => ?_)
    refine lv_if_ne (tgt := 30) C.1 C.2.1 dX7_see_24 (by decide) (fun c27 => ?_) (fun c27 => ?_)
    · rw [if_neg c27] at hf
      refine lv_aload_n C.1 C.2.1 dX7_see_30 rfl (lv_at hl 0 rfl) ?_
      refine gf_X7_137 C X w (rfl) dX7_see_31 ?_
      refine lv_bipush (v := 6) C.1 C.2.1 dX7_see_34 (by decide) ?_
      refine lv_icmp_ne (tgt := 42) C.1 C.2.1 dX7_see_36 (by decide) (fun c28 => ?_) (fun c28 => ?_)
      · rw [if_neg c28] at hf
        refine lv_aload_n C.1 C.2.1 dX7_see_42 rfl (lv_at hl 0 rfl) ?_
        refine gf_X7_42 C X w rfl dX7_see_43 ?_
        refine lv_aload_n C.1 C.2.1 dX7_see_46 rfl (lv_at hl 0 rfl) ?_
        refine gf_X7_137 C X w (rfl) dX7_see_47 ?_
        refine lv_iload_n C.1 C.2.1 dX7_see_50 rfl (lv_at hl 1 rfl) ?_
        obtain ⟨i29, hf⟩ := ck_e hf
        obtain ⟨h30, eh30, hf⟩ := bd_e hf
        refine x_ist (h2 := su h21 43 (upd (h21 43) (((h21 33) 18)).toNatClampNeg x1)) C X hI w (wl_r43 rfl) i29 ws_r43 dX7_see_51 (fun H locs w => ?_)
        replace w := at_eq eh30 w
        refine lv_aload_n C.1 C.2.1 dX7_see_52 rfl (lv_at hl 0 rfl) ?_
        refine gf_X7_45 C X w rfl dX7_see_53 ?_
        refine lv_aload_n C.1 C.2.1 dX7_see_56 rfl (lv_at hl 0 rfl) ?_
        refine gf_X7_137 C X w (rfl) dX7_see_57 ?_
        refine lv_iload_n C.1 C.2.1 dX7_see_60 rfl (lv_at hl 2 rfl) ?_
        obtain ⟨i31, hf⟩ := ck_e hf
        obtain ⟨h32, eh32, hf⟩ := bd_e hf
        refine x_ist (h2 := su h30 44 (upd (h30 44) (((h30 33) 18)).toNatClampNeg x2)) C X hI w (wl_r44 rfl) i31 ws_r44 dX7_see_61 (fun H locs w => ?_)
        replace w := at_eq eh32 w
        refine lv_aload_n C.1 C.2.1 dX7_see_62 rfl (lv_at hl 0 rfl) ?_
        refine lv_dup C.1 C.2.1 dX7_see_63 rfl ?_
        refine gf_X7_137 C X w (rfl) dX7_see_64 ?_
        refine lv_iconst (v := 1) C.1 C.2.1 dX7_see_67 (by decide) ?_
        refine lv_iadd C.1 C.2.1 dX7_see_68 ?_
        obtain ⟨h33, eh33, hf⟩ := bd_e hf
        refine pf_X7_137 C X hI w dX7_see_69 (fun H locs w => ?_)
        replace w := at_eq eh33 w
        refine lv_aload_n C.1 C.2.1 dX7_see_72 rfl (lv_at hl 0 rfl) ?_
        refine gf_X7_137 C X w (rfl) dX7_see_73 ?_
        cases hf
        exact x_iret C hr hlk w dX7_see_76
      · rw [if_pos c28] at hf
        refine lv_bipush (v := -4) C.1 C.2.1 dX7_see_39 (by decide) ?_
        cases hf
        exact x_iret C hr hlk w dX7_see_41
    · rw [if_pos c27] at hf
      refine lv_bipush (v := -2) C.1 C.2.1 dX7_see_27 (by decide) ?_
      cases hf
      exact x_iret C hr hlk w dX7_see_29
  · rw [if_neg c24] at hf
    refine lv_iconst (v := -1) C.1 C.2.1 dX7_see_13 (by decide) ?_
    cases hf
    exact x_iret C hr hlk w dX7_see_14

def qX7_unsee (h : Hp) : Option (Int32 × Hp) :=
(bd (su h 33 (upd (h 33) 0 (0 : Int32))) (fun h21 =>
(bd (su h21 33 (upd (h21 33) 18 (0 : Int32))) (fun h22 =>
(some (((h21 33) 18), h22))))))
set_option maxHeartbeats 4000000 in
set_option maxRecDepth 100000 in
theorem c_X7_unsee {l : Launch} {E : Ev} {ad : Nat → Nat} {g : Gp} {h : Hp} {r : Int32} {h9 : Hp} (hI : Inj ad) (hf : qX7_unsee h = some (r, h9)) : CtI l yX7_unsee cX7_unsee 2 (some .int) 0 0 E ad g g [.ref (ad 141)] h h9 r := by
  refine x_begin (by decide) (Nat.le_of_ble_eq_true rfl) ?_
  intro p e s m below meth c ls C hr hlk X w hl
  replace hl : lv_has ls 2 [(0, .ref (ad 141))] := hl
  replace C : CallFix p m c cX7_unsee 2 s ([.ref (ad 141)] : List Value).toArray lwA RX7 := C
  unfold qX7_unsee at hf
  refine lv_aload_n C.1 C.2.1 dX7_unsee_0 rfl (lv_at hl 0 rfl) ?_
  refine lv_iconst (v := 0) C.1 C.2.1 dX7_unsee_1 (by decide) ?_
  obtain ⟨h21, eh21, hf⟩ := bd_e hf
  refine pf_X7_51 C X hI w dX7_unsee_2 (fun H locs w => ?_)
  replace w := at_eq eh21 w
  refine lv_aload_n C.1 C.2.1 dX7_unsee_5 rfl (lv_at hl 0 rfl) ?_
  refine gf_X7_137 C X w (rfl) dX7_unsee_6 ?_
  refine lv_istore_n (lv' := [(1, .int ((h21 33) 18)), (0, .ref (ad 141))]) C.1 C.2.1 dX7_unsee_9 rfl hl (by decide) rfl (fun ls hl => ?_)
  refine lv_aload_n C.1 C.2.1 dX7_unsee_10 rfl (lv_at hl 1 rfl) ?_
  refine lv_iconst (v := 0) C.1 C.2.1 dX7_unsee_11 (by decide) ?_
  obtain ⟨h22, eh22, hf⟩ := bd_e hf
  refine pf_X7_137 C X hI w dX7_unsee_12 (fun H locs w => ?_)
  replace w := at_eq eh22 w
  refine lv_iload_n C.1 C.2.1 dX7_unsee_15 rfl (lv_at hl 0 rfl) ?_
  cases hf
  exact x_iret C hr hlk w dX7_unsee_16

def qX7_isSeen_96 (k33 : Hp → Int32 → Int32 → Int32 → Option (Int32 × Hp)) (k16 : Hp → Int32 → Int32 → Option (Int32 × Hp)) (h : Hp) (v3 : Int32) (v4 : Int32) (s0 : Int32) : Option (Int32 × Hp) :=
(k33 h s0 v3 (v4 + 1))
set_option maxHeartbeats 4000000 in
set_option maxRecDepth 100000 in
theorem w_X7_isSeen_96 {p : Program} {l : Launch} {e : Env} {s : State} {m : MethodId} {args : Array Value} {below : List Frame} {meth : Method} {c : Code} {E : Ev} {ad : Nat → Nat} {g : Gp} {r : Int32} {h9 : Hp} {k33 : Hp → Int32 → Int32 → Int32 → Option (Int32 × Hp)} {k16 : Hp → Int32 → Int32 → Option (Int32 × Hp)} (C : CallFix p m c cX7_isSeen 5 s args lwA RX7) (hr : meth.sig.returnType = (some .boolean)) (hlk : meth.locks = false) (X : Sx E ad s) (hI : Inj ad) (hk33 : ∀ (h : Hp) (v2 : Int32) (v3 : Int32) (v4 : Int32) (H : Heap) (locs : List Loc) (ls : Array Slot), At E ad h g s H locs → lv_has ls 5 [(0, .ref (ad 141)), (2, .int v2), (3, .int v3), (4, .int v4)] → k33 h v2 v3 v4 = some (r, h9) → W p l e (RM 6 140) s m args below meth c H locs 0 0 (QI E ad h9 g r below args s) (F0 m 33 ls [])) (hk16 : ∀ (h : Hp) (v2 : Int32) (v3 : Int32) (H : Heap) (locs : List Loc) (ls : Array Slot), At E ad h g s H locs → lv_has ls 5 [(0, .ref (ad 141)), (2, .int v2), (3, .int v3)] → k16 h v2 v3 = some (r, h9) → W p l e (RM 6 140) s m args below meth c H locs 0 0 (QI E ad h9 g r below args s) (F0 m 16 ls [])) : ∀ (h : Hp) (v3 : Int32) (v4 : Int32) (s0 : Int32) (H : Heap) (locs : List Loc) (ls : Array Slot), At E ad h g s H locs → lv_has ls 5 [(0, .ref (ad 141)), (3, .int v3), (4, .int v4)] → qX7_isSeen_96 k33 k16 h v3 v4 s0 = some (r, h9) → W p l e (RM 6 140) s m args below meth c H locs 0 0 (QI E ad h9 g r below args s) (F0 m 96 ls [.int s0]) := by
  intro h v3 v4 s0 H locs ls w hl hf
  unfold qX7_isSeen_96 at hf
  refine lv_istore_n (lv' := [(2, .int s0), (0, .ref (ad 141)), (3, .int v3), (4, .int v4)]) C.1 C.2.1 dX7_isSeen_96 rfl hl (by decide) rfl (fun ls hl => ?_)
  refine lv_iinc (v := (v4 + 1)) (lv' := [(4, .int (v4 + 1)), (2, .int s0), (0, .ref (ad 141)), (3, .int v3)]) C.1 C.2.1 dX7_isSeen_97 hl (k := 3) rfl (congrArg (fun z => v4 + z) (by decide)) (by decide) rfl (fun ls hl => ?_)
  refine lv_goto (tgt := 33) C.1 C.2.1 dX7_isSeen_100 (by decide) ?_
  exact hk33 _ _ _ _ _ _ _ w (lv_sub hl [2, 1, 3, 0] rfl) hf
def qX7_isSeen_91 (k33 : Hp → Int32 → Int32 → Int32 → Option (Int32 × Hp)) (k16 : Hp → Int32 → Int32 → Option (Int32 × Hp)) (h : Hp) (v3 : Int32) (v4 : Int32) : Option (Int32 × Hp) :=
(qX7_isSeen_96 k33 k16 h v3 v4 (1 : Int32))
set_option maxHeartbeats 4000000 in
set_option maxRecDepth 100000 in
theorem w_X7_isSeen_91 {p : Program} {l : Launch} {e : Env} {s : State} {m : MethodId} {args : Array Value} {below : List Frame} {meth : Method} {c : Code} {E : Ev} {ad : Nat → Nat} {g : Gp} {r : Int32} {h9 : Hp} {k33 : Hp → Int32 → Int32 → Int32 → Option (Int32 × Hp)} {k16 : Hp → Int32 → Int32 → Option (Int32 × Hp)} (C : CallFix p m c cX7_isSeen 5 s args lwA RX7) (hr : meth.sig.returnType = (some .boolean)) (hlk : meth.locks = false) (X : Sx E ad s) (hI : Inj ad) (hk33 : ∀ (h : Hp) (v2 : Int32) (v3 : Int32) (v4 : Int32) (H : Heap) (locs : List Loc) (ls : Array Slot), At E ad h g s H locs → lv_has ls 5 [(0, .ref (ad 141)), (2, .int v2), (3, .int v3), (4, .int v4)] → k33 h v2 v3 v4 = some (r, h9) → W p l e (RM 6 140) s m args below meth c H locs 0 0 (QI E ad h9 g r below args s) (F0 m 33 ls [])) (hk16 : ∀ (h : Hp) (v2 : Int32) (v3 : Int32) (H : Heap) (locs : List Loc) (ls : Array Slot), At E ad h g s H locs → lv_has ls 5 [(0, .ref (ad 141)), (2, .int v2), (3, .int v3)] → k16 h v2 v3 = some (r, h9) → W p l e (RM 6 140) s m args below meth c H locs 0 0 (QI E ad h9 g r below args s) (F0 m 16 ls [])) : ∀ (h : Hp) (v3 : Int32) (v4 : Int32) (H : Heap) (locs : List Loc) (ls : Array Slot), At E ad h g s H locs → lv_has ls 5 [(0, .ref (ad 141)), (3, .int v3), (4, .int v4)] → qX7_isSeen_91 k33 k16 h v3 v4 = some (r, h9) → W p l e (RM 6 140) s m args below meth c H locs 0 0 (QI E ad h9 g r below args s) (F0 m 91 ls []) := by
  intro h v3 v4 H locs ls w hl hf
  unfold qX7_isSeen_91 at hf
  refine lv_iconst (v := 1) C.1 C.2.1 dX7_isSeen_91 (by decide) ?_
  refine lv_goto (tgt := 96) C.1 C.2.1 dX7_isSeen_92 (by decide) ?_
  exact w_X7_isSeen_96 C hr hlk X hI hk33 hk16 _ _ _ _ _ _ _ w (lv_sub hl [0, 1, 2] rfl) hf
def qX7_isSeen_95 (k33 : Hp → Int32 → Int32 → Int32 → Option (Int32 × Hp)) (k16 : Hp → Int32 → Int32 → Option (Int32 × Hp)) (h : Hp) (v3 : Int32) (v4 : Int32) : Option (Int32 × Hp) :=
(qX7_isSeen_96 k33 k16 h v3 v4 (0 : Int32))
set_option maxHeartbeats 4000000 in
set_option maxRecDepth 100000 in
theorem w_X7_isSeen_95 {p : Program} {l : Launch} {e : Env} {s : State} {m : MethodId} {args : Array Value} {below : List Frame} {meth : Method} {c : Code} {E : Ev} {ad : Nat → Nat} {g : Gp} {r : Int32} {h9 : Hp} {k33 : Hp → Int32 → Int32 → Int32 → Option (Int32 × Hp)} {k16 : Hp → Int32 → Int32 → Option (Int32 × Hp)} (C : CallFix p m c cX7_isSeen 5 s args lwA RX7) (hr : meth.sig.returnType = (some .boolean)) (hlk : meth.locks = false) (X : Sx E ad s) (hI : Inj ad) (hk33 : ∀ (h : Hp) (v2 : Int32) (v3 : Int32) (v4 : Int32) (H : Heap) (locs : List Loc) (ls : Array Slot), At E ad h g s H locs → lv_has ls 5 [(0, .ref (ad 141)), (2, .int v2), (3, .int v3), (4, .int v4)] → k33 h v2 v3 v4 = some (r, h9) → W p l e (RM 6 140) s m args below meth c H locs 0 0 (QI E ad h9 g r below args s) (F0 m 33 ls [])) (hk16 : ∀ (h : Hp) (v2 : Int32) (v3 : Int32) (H : Heap) (locs : List Loc) (ls : Array Slot), At E ad h g s H locs → lv_has ls 5 [(0, .ref (ad 141)), (2, .int v2), (3, .int v3)] → k16 h v2 v3 = some (r, h9) → W p l e (RM 6 140) s m args below meth c H locs 0 0 (QI E ad h9 g r below args s) (F0 m 16 ls [])) : ∀ (h : Hp) (v3 : Int32) (v4 : Int32) (H : Heap) (locs : List Loc) (ls : Array Slot), At E ad h g s H locs → lv_has ls 5 [(0, .ref (ad 141)), (3, .int v3), (4, .int v4)] → qX7_isSeen_95 k33 k16 h v3 v4 = some (r, h9) → W p l e (RM 6 140) s m args below meth c H locs 0 0 (QI E ad h9 g r below args s) (F0 m 95 ls []) := by
  intro h v3 v4 H locs ls w hl hf
  unfold qX7_isSeen_95 at hf
  refine lv_iconst (v := 0) C.1 C.2.1 dX7_isSeen_95 (by decide) ?_
  exact w_X7_isSeen_96 C hr hlk X hI hk33 hk16 _ _ _ _ _ _ _ w (lv_sub hl [0, 1, 2] rfl) hf
def qX7_isSeen_33 (k16 : Hp → Int32 → Int32 → Option (Int32 × Hp)) : Nat → Hp → Int32 → Int32 → Int32 → Option (Int32 × Hp)
  | 0, _, _, _, _ => none
  | n + 1, h, v2, v3, v4 =>
    (if ((h 33) 18) ≤ v4 then (k16 h v2 (v3 + 1))
    else (if v2 = 0 then (qX7_isSeen_95 (qX7_isSeen_33 k16 n) k16 h v3 v4)
    else (ck (inb v4 6) ((if ((h 44) v4.toNatClampNeg) = v3 then (ck (inb v4 6) ((bi1 (qX7_noChild (h 33) ((h 43) v4.toNatClampNeg)) (fun r37 =>
    (if r37 = 0 then (ck (inb v4 6) ((bi1 (qX7_has ((h 39) 30) ((h 43) v4.toNatClampNeg)) (fun r41 =>
    (if r41 = 0 then (qX7_isSeen_95 (qX7_isSeen_33 k16 n) k16 h v3 v4)
    else (qX7_isSeen_91 (qX7_isSeen_33 k16 n) k16 h v3 v4))))))
    else (qX7_isSeen_91 (qX7_isSeen_33 k16 n) k16 h v3 v4))))))
    else (qX7_isSeen_91 (qX7_isSeen_33 k16 n) k16 h v3 v4))))))
set_option maxHeartbeats 4000000 in
set_option maxRecDepth 100000 in
theorem w_X7_isSeen_33 {p : Program} {l : Launch} {e : Env} {s : State} {m : MethodId} {args : Array Value} {below : List Frame} {meth : Method} {c : Code} {E : Ev} {ad : Nat → Nat} {g : Gp} {r : Int32} {h9 : Hp} {k16 : Hp → Int32 → Int32 → Option (Int32 × Hp)} (C : CallFix p m c cX7_isSeen 5 s args lwA RX7) (hr : meth.sig.returnType = (some .boolean)) (hlk : meth.locks = false) (X : Sx E ad s) (hI : Inj ad) (hk16 : ∀ (h : Hp) (v2 : Int32) (v3 : Int32) (H : Heap) (locs : List Loc) (ls : Array Slot), At E ad h g s H locs → lv_has ls 5 [(0, .ref (ad 141)), (2, .int v2), (3, .int v3)] → k16 h v2 v3 = some (r, h9) → W p l e (RM 6 140) s m args below meth c H locs 0 0 (QI E ad h9 g r below args s) (F0 m 16 ls [])) : ∀ (n : Nat), ∀ (h : Hp) (v2 : Int32) (v3 : Int32) (v4 : Int32) (H : Heap) (locs : List Loc) (ls : Array Slot), At E ad h g s H locs → lv_has ls 5 [(0, .ref (ad 141)), (2, .int v2), (3, .int v3), (4, .int v4)] → qX7_isSeen_33 k16 n h v2 v3 v4 = some (r, h9) → W p l e (RM 6 140) s m args below meth c H locs 0 0 (QI E ad h9 g r below args s) (F0 m 33 ls []) := by
  intro n
  induction n with
  | zero =>
    intro h v2 v3 v4 H locs ls w hl hf
    cases hf
  | succ n ih =>
    intro h v2 v3 v4 H locs ls w hl hf
    rw [qX7_isSeen_33] at hf
    refine lv_iload C.1 C.2.1 dX7_isSeen_33 (lv_at hl 3 rfl) ?_
    refine lv_aload_n C.1 C.2.1 dX7_isSeen_35 rfl (lv_at hl 0 rfl) ?_
    refine gf_X7_137 C X w (rfl) dX7_isSeen_36 ?_
    refine lv_icmp_ge (tgt := 103) C.1 C.2.1 dX7_isSeen_39 (by decide) (fun c31 => ?_) (fun c31 => ?_)
    · rw [if_pos c31] at hf
      refine lv_iinc (v := (v3 + 1)) (lv' := [(3, .int (v3 + 1)), (0, .ref (ad 141)), (2, .int v2), (4, .int v4)]) C.1 C.2.1 dX7_isSeen_103 hl (k := 2) rfl (congrArg (fun z => v3 + z) (by decide)) (by decide) rfl (fun ls hl => ?_)
      refine lv_goto (tgt := 16) C.1 C.2.1 dX7_isSeen_106 (by decide) ?_
      exact hk16 _ _ _ _ _ _ w (lv_sub hl [1, 2, 0] rfl) hf
    · rw [if_neg c31] at hf
      refine lv_iload_n C.1 C.2.1 dX7_isSeen_42 rfl (lv_at hl 1 rfl) ?_
      refine lv_if_eq (tgt := 95) C.1 C.2.1 dX7_isSeen_43 (by decide) (fun c32 => ?_) (fun c32 => ?_)
      · rw [if_pos c32] at hf
        exact w_X7_isSeen_95 C hr hlk X hI ih hk16 _ _ _ _ _ _ w (lv_sub hl [0, 2, 3] rfl) hf
      · rw [if_neg c32] at hf
        refine lv_aload_n C.1 C.2.1 dX7_isSeen_46 rfl (lv_at hl 0 rfl) ?_
        refine gf_X7_45 C X w rfl dX7_isSeen_47 ?_
        refine lv_iload C.1 C.2.1 dX7_isSeen_50 (lv_at hl 3 rfl) ?_
        obtain ⟨i33, hf⟩ := ck_e hf
        refine x_ild (v := (h 44) v4.toNatClampNeg) C X w (wl_r44 (rfl)) i33 (rfl) dX7_isSeen_52 ?_
        refine lv_iload_n C.1 C.2.1 dX7_isSeen_53 rfl (lv_at hl 2 rfl) ?_
        refine lv_icmp_ne (tgt := 91) C.1 C.2.1 dX7_isSeen_54 (by decide) (fun c34 => ?_) (fun c34 => ?_)
        · rw [if_neg c34] at hf
          exact w_X7_isSeen_91 C hr hlk X hI ih hk16 _ _ _ _ _ _ w (lv_sub hl [0, 2, 3] rfl) hf
        · rw [if_pos c34] at hf
          refine lv_aload_n C.1 C.2.1 dX7_isSeen_57 rfl (lv_at hl 0 rfl) ?_
          refine lv_aload_n C.1 C.2.1 dX7_isSeen_58 rfl (lv_at hl 0 rfl) ?_
          refine gf_X7_42 C X w rfl dX7_isSeen_59 ?_
          refine lv_iload C.1 C.2.1 dX7_isSeen_62 (lv_at hl 3 rfl) ?_
          obtain ⟨i35, hf⟩ := ck_e hf
          refine x_ild (v := (h 43) v4.toNatClampNeg) C X w (wl_r43 (rfl)) i35 (rfl) dX7_isSeen_64 ?_
          obtain ⟨r37, eq36, hf⟩ := bi1_e hf
          refine x_cVi (As := [.int ((h 43) v4.toNatClampNeg)]) (rest := []) C X w (c_X7_noChild hI (rfl) eq36) mw_X7_noChild ml_X7_140 rcv_r33 rfl hl.1 rfl (Nat.le_of_ble_eq_true rfl) ⟨⟨Nat.le_of_ble_eq_true rfl, Nat.le_of_ble_eq_true rfl⟩, Nat.le_of_ble_eq_true rfl, Nat.le_of_ble_eq_true rfl⟩ dX7_isSeen_65 (fun H locs w => ?_)
          refine lv_if_ne (tgt := 91) C.1 C.2.1 dX7_isSeen_68 (by decide) (fun c38 => ?_) (fun c38 => ?_)
          · rw [if_neg c38] at hf
            exact w_X7_isSeen_91 C hr hlk X hI ih hk16 _ _ _ _ _ _ w (lv_sub hl [0, 2, 3] rfl) hf
          · rw [if_pos c38] at hf
            refine lv_aload_n C.1 C.2.1 dX7_isSeen_71 rfl (lv_at hl 0 rfl) ?_
            refine gf_X7_29 C X w rfl dX7_isSeen_72 ?_
            refine lv_bipush (v := 30) C.1 C.2.1 dX7_isSeen_75 (by decide) ?_
            refine x_ild (v := (h 39) 30) C X w (wl_r39 (rfl)) (by decide) (congrArg _ (show (30 : Int32).toNatClampNeg = 30 by decide)) dX7_isSeen_77 ?_
            refine lv_aload_n C.1 C.2.1 dX7_isSeen_78 rfl (lv_at hl 0 rfl) ?_
            refine gf_X7_42 C X w rfl dX7_isSeen_79 ?_
            refine lv_iload C.1 C.2.1 dX7_isSeen_82 (lv_at hl 3 rfl) ?_
            obtain ⟨i39, hf⟩ := ck_e hf
            refine x_ild (v := (h 43) v4.toNatClampNeg) C X w (wl_r43 (rfl)) i39 (rfl) dX7_isSeen_84 ?_
            obtain ⟨r41, eq40, hf⟩ := bi1_e hf
            refine x_cSi (As := [.int ((h 39) 30), .int ((h 43) v4.toNatClampNeg)]) (rest := []) C X w (c_X7_has hI  eq40) mw_X7_has ml_X7_99 rfl hl.1 rfl (Nat.le_of_ble_eq_true rfl) ⟨⟨Nat.le_of_ble_eq_true rfl, Nat.le_of_ble_eq_true rfl⟩, Nat.le_of_ble_eq_true rfl, Nat.le_of_ble_eq_true rfl⟩ dX7_isSeen_85 (fun H locs w => ?_)
            refine lv_if_eq (tgt := 95) C.1 C.2.1 dX7_isSeen_88 (by decide) (fun c42 => ?_) (fun c42 => ?_)
            · rw [if_pos c42] at hf
              exact w_X7_isSeen_95 C hr hlk X hI ih hk16 _ _ _ _ _ _ w (lv_sub hl [0, 2, 3] rfl) hf
            · rw [if_neg c42] at hf
              exact w_X7_isSeen_91 C hr hlk X hI ih hk16 _ _ _ _ _ _ w (lv_sub hl [0, 2, 3] rfl) hf
def qX7_isSeen_16 : Nat → Hp → Int32 → Int32 → Option (Int32 × Hp)
  | 0, _, _, _ => none
  | n + 1, h, v2, v3 =>
    (if (20 : Int32) < v3 then (ck (bz v2) (some (v2, h)))
    else (bi1 (qX7_goMinute (h 33) (h 35) (h 36) (h 39)) (fun P29 =>
    (bd (su h 39 P29) (fun h30 =>
    (qX7_isSeen_33 (qX7_isSeen_16 n) 600 h30 v2 v3 (0 : Int32)))))))
set_option maxHeartbeats 4000000 in
set_option maxRecDepth 100000 in
theorem w_X7_isSeen_16 {p : Program} {l : Launch} {e : Env} {s : State} {m : MethodId} {args : Array Value} {below : List Frame} {meth : Method} {c : Code} {E : Ev} {ad : Nat → Nat} {g : Gp} {r : Int32} {h9 : Hp} (C : CallFix p m c cX7_isSeen 5 s args lwA RX7) (hr : meth.sig.returnType = (some .boolean)) (hlk : meth.locks = false) (X : Sx E ad s) (hI : Inj ad)  : ∀ (n : Nat), ∀ (h : Hp) (v2 : Int32) (v3 : Int32) (H : Heap) (locs : List Loc) (ls : Array Slot), At E ad h g s H locs → lv_has ls 5 [(0, .ref (ad 141)), (2, .int v2), (3, .int v3)] → qX7_isSeen_16 n h v2 v3 = some (r, h9) → W p l e (RM 6 140) s m args below meth c H locs 0 0 (QI E ad h9 g r below args s) (F0 m 16 ls []) := by
  intro n
  induction n with
  | zero =>
    intro h v2 v3 H locs ls w hl hf
    cases hf
  | succ n ih =>
    intro h v2 v3 H locs ls w hl hf
    rw [qX7_isSeen_16] at hf
    refine lv_iload_n C.1 C.2.1 dX7_isSeen_16 rfl (lv_at hl 2 rfl) ?_
    refine lv_bipush (v := 20) C.1 C.2.1 dX7_isSeen_17 (by decide) ?_
    refine lv_icmp_gt (tgt := 109) C.1 C.2.1 dX7_isSeen_19 (by decide) (fun c25 => ?_) (fun c25 => ?_)
    · rw [if_pos c25] at hf
      refine lv_iload_n C.1 C.2.1 dX7_isSeen_109 rfl (lv_at hl 1 rfl) ?_
      obtain ⟨z26, hf⟩ := ck_e hf
      cases hf
      exact x_zret C hr hlk w (bz_e z26) dX7_isSeen_110
    · rw [if_neg c25] at hf
      refine lv_aload_n C.1 C.2.1 dX7_isSeen_22 rfl (lv_at hl 0 rfl) ?_
      refine lv_aload_n C.1 C.2.1 dX7_isSeen_23 rfl (lv_at hl 0 rfl) ?_
      refine gf_X7_29 C X w rfl dX7_isSeen_24 ?_
      obtain ⟨P29, eq27, hf⟩ := bi1_e hf
      obtain ⟨h30, eh30, hf⟩ := bd_e hf
      refine x_cVv (As := [.ref (ad 147)]) (rest := []) C X (at_su 39 w) (c_X7_goMinute hI (Or.inr rfl) eq27) mw_X7_goMinute ml_X7_147 rcv_r33 rfl hl.1 rfl (Nat.le_of_ble_eq_true rfl) ⟨⟨Nat.le_of_ble_eq_true rfl, Nat.le_of_ble_eq_true rfl⟩, Nat.le_of_ble_eq_true rfl, Nat.le_of_ble_eq_true rfl⟩ dX7_isSeen_27 (fun H locs w => ?_)
      replace w := at_eq eh30 w
      refine lv_iconst (v := 0) C.1 C.2.1 dX7_isSeen_30 (by decide) ?_
      refine lv_istore (lv' := [(4, .int (0 : Int32)), (0, .ref (ad 141)), (2, .int v2), (3, .int v3)]) C.1 C.2.1 dX7_isSeen_31 hl (by decide) rfl (fun ls hl => ?_)
      exact w_X7_isSeen_33 C hr hlk X hI ih 600 _ _ _ _ _ _ _ w (lv_sub hl [1, 2, 3, 0] rfl) hf
def qX7_isSeen (h : Hp) (x1 : Int32) : Option (Int32 × Hp) :=
(bi1 (qX7_begin h) (fun h23 =>
(bd (su h23 39 (upd (h23 39) 32 x1)) (fun h24 =>
(qX7_isSeen_16 600 h24 (1 : Int32) (1 : Int32))))))
set_option maxHeartbeats 4000000 in
set_option maxRecDepth 100000 in
theorem c_X7_isSeen {l : Launch} {E : Ev} {ad : Nat → Nat} {g : Gp} {h : Hp} {x1 : Int32} {r : Int32} {h9 : Hp} (hI : Inj ad) (hf : qX7_isSeen h x1 = some (r, h9)) : CtI l yX7_isSeen cX7_isSeen 5 (some .boolean) 6 140 E ad g g [.ref (ad 141), .int x1] h h9 r := by
  refine x_begin (by decide) (Nat.le_of_ble_eq_true rfl) ?_
  intro p e s m below meth c ls C hr hlk X w hl
  replace hl : lv_has ls 5 [(0, .ref (ad 141)), (1, .int x1)] := hl
  replace C : CallFix p m c cX7_isSeen 5 s ([.ref (ad 141), .int x1] : List Value).toArray lwA RX7 := C
  unfold qX7_isSeen at hf
  refine lv_aload_n C.1 C.2.1 dX7_isSeen_0 rfl (lv_at hl 0 rfl) ?_
  obtain ⟨h23, eq21, hf⟩ := bi1_e hf
  refine x_cVv (As := []) (rest := []) C X w (c_X7_begin hI eq21) mw_X7_begin ml_X7_155 rcv_r33 rfl hl.1 rfl (Nat.le_of_ble_eq_true rfl) ⟨⟨Nat.le_of_ble_eq_true rfl, Nat.le_of_ble_eq_true rfl⟩, Nat.le_of_ble_eq_true rfl, Nat.le_of_ble_eq_true rfl⟩ dX7_isSeen_1 (fun H locs w => ?_)
  refine lv_aload_n C.1 C.2.1 dX7_isSeen_4 rfl (lv_at hl 0 rfl) ?_
  refine gf_X7_29 C X w rfl dX7_isSeen_5 ?_
  refine lv_bipush (v := 32) C.1 C.2.1 dX7_isSeen_8 (by decide) ?_
  refine lv_iload_n C.1 C.2.1 dX7_isSeen_10 rfl (lv_at hl 1 rfl) ?_
  obtain ⟨h24, eh24, hf⟩ := bd_e hf
  refine x_ist (h2 := su h23 39 (upd (h23 39) 32 x1)) C X hI w (wl_r39 rfl) (by decide) (by rw [show (32 : Int32).toNatClampNeg = 32 by decide]; exact ws_r39) dX7_isSeen_11 (fun H locs w => ?_)
  replace w := at_eq eh24 w
  refine lv_iconst (v := 1) C.1 C.2.1 dX7_isSeen_12 (by decide) ?_
  refine lv_istore_n (lv' := [(2, .int (1 : Int32)), (0, .ref (ad 141)), (1, .int x1)]) C.1 C.2.1 dX7_isSeen_13 rfl hl (by decide) rfl (fun ls hl => ?_)
  refine lv_iconst (v := 1) C.1 C.2.1 dX7_isSeen_14 (by decide) ?_
  refine lv_istore_n (lv' := [(3, .int (1 : Int32)), (2, .int (1 : Int32)), (0, .ref (ad 141)), (1, .int x1)]) C.1 C.2.1 dX7_isSeen_15 rfl hl (by decide) rfl (fun ls hl => ?_)
  exact w_X7_isSeen_16 C hr hlk X hI 600 _ _ _ _ _ _ w (lv_sub hl [2, 1, 0] rfl) hf

def qX7_may_30 (k9 : Hp → Int32 → Int32 → Option (Int32 × Hp)) (h : Hp) (v2 : Int32) (s0 : Int32) (s1 : Int32) : Option (Int32 × Hp) :=
(k9 h (s0 ||| s1) (v2 + 1))
set_option maxHeartbeats 4000000 in
set_option maxRecDepth 100000 in
theorem w_X7_may_30 {p : Program} {l : Launch} {e : Env} {s : State} {m : MethodId} {args : Array Value} {below : List Frame} {meth : Method} {c : Code} {E : Ev} {ad : Nat → Nat} {g : Gp} {r : Int32} {h9 : Hp} {k9 : Hp → Int32 → Int32 → Option (Int32 × Hp)} (C : CallFix p m c cX7_may 3 s args lwA RX7) (hr : meth.sig.returnType = (some .int)) (hlk : meth.locks = false) (X : Sx E ad s) (hI : Inj ad) (hk9 : ∀ (h : Hp) (v1 : Int32) (v2 : Int32) (H : Heap) (locs : List Loc) (ls : Array Slot), At E ad h g s H locs → lv_has ls 3 [(0, .ref (ad 141)), (1, .int v1), (2, .int v2)] → k9 h v1 v2 = some (r, h9) → W p l e (RM 7 164) s m args below meth c H locs 0 0 (QI E ad h9 g r below args s) (F0 m 9 ls [])) : ∀ (h : Hp) (v2 : Int32) (s0 : Int32) (s1 : Int32) (H : Heap) (locs : List Loc) (ls : Array Slot), At E ad h g s H locs → lv_has ls 3 [(0, .ref (ad 141)), (2, .int v2)] → qX7_may_30 k9 h v2 s0 s1 = some (r, h9) → W p l e (RM 7 164) s m args below meth c H locs 0 0 (QI E ad h9 g r below args s) (F0 m 30 ls [.int s1, .int s0]) := by
  intro h v2 s0 s1 H locs ls w hl hf
  unfold qX7_may_30 at hf
  refine lv_ior C.1 C.2.1 dX7_may_30 ?_
  refine lv_istore_n (lv' := [(1, .int (s0 ||| s1)), (0, .ref (ad 141)), (2, .int v2)]) C.1 C.2.1 dX7_may_31 rfl hl (by decide) rfl (fun ls hl => ?_)
  refine lv_iinc (v := (v2 + 1)) (lv' := [(2, .int (v2 + 1)), (1, .int (s0 ||| s1)), (0, .ref (ad 141))]) C.1 C.2.1 dX7_may_32 hl (k := 2) rfl (congrArg (fun z => v2 + z) (by decide)) (by decide) rfl (fun ls hl => ?_)
  refine lv_goto (tgt := 9) C.1 C.2.1 dX7_may_35 (by decide) ?_
  exact hk9 _ _ _ _ _ _ w (lv_sub hl [2, 1, 0] rfl) hf
def qX7_may_9 : Nat → Hp → Int32 → Int32 → Option (Int32 × Hp)
  | 0, _, _, _ => none
  | n + 1, h, v1, v2 =>
    (if (4 : Int32) ≤ v2 then (some (v1, h))
    else (bi2 (qX7_isSeen h v2) (fun r24 h25 =>
    (if r24 = 0 then (qX7_may_30 (qX7_may_9 n) h25 v2 v1 (0 : Int32))
    else (qX7_may_30 (qX7_may_9 n) h25 v2 v1 ((1 : Int32) <<< (v2 &&& 31)))))))
set_option maxHeartbeats 4000000 in
set_option maxRecDepth 100000 in
theorem w_X7_may_9 {p : Program} {l : Launch} {e : Env} {s : State} {m : MethodId} {args : Array Value} {below : List Frame} {meth : Method} {c : Code} {E : Ev} {ad : Nat → Nat} {g : Gp} {r : Int32} {h9 : Hp} (C : CallFix p m c cX7_may 3 s args lwA RX7) (hr : meth.sig.returnType = (some .int)) (hlk : meth.locks = false) (X : Sx E ad s) (hI : Inj ad)  : ∀ (n : Nat), ∀ (h : Hp) (v1 : Int32) (v2 : Int32) (H : Heap) (locs : List Loc) (ls : Array Slot), At E ad h g s H locs → lv_has ls 3 [(0, .ref (ad 141)), (1, .int v1), (2, .int v2)] → qX7_may_9 n h v1 v2 = some (r, h9) → W p l e (RM 7 164) s m args below meth c H locs 0 0 (QI E ad h9 g r below args s) (F0 m 9 ls []) := by
  intro n
  induction n with
  | zero =>
    intro h v1 v2 H locs ls w hl hf
    cases hf
  | succ n ih =>
    intro h v1 v2 H locs ls w hl hf
    rw [qX7_may_9] at hf
    refine lv_iload_n C.1 C.2.1 dX7_may_9 rfl (lv_at hl 2 rfl) ?_
    refine lv_iconst (v := 4) C.1 C.2.1 dX7_may_10 (by decide) ?_
    refine lv_icmp_ge (tgt := 38) C.1 C.2.1 dX7_may_11 (by decide) (fun c22 => ?_) (fun c22 => ?_)
    · rw [if_pos c22] at hf
      refine lv_iload_n C.1 C.2.1 dX7_may_38 rfl (lv_at hl 1 rfl) ?_
      cases hf
      exact x_iret C hr hlk w dX7_may_39
    · rw [if_neg c22] at hf
      refine lv_iload_n C.1 C.2.1 dX7_may_14 rfl (lv_at hl 1 rfl) ?_
      refine lv_aload_n C.1 C.2.1 dX7_may_15 rfl (lv_at hl 0 rfl) ?_
      refine lv_iload_n C.1 C.2.1 dX7_may_16 rfl (lv_at hl 2 rfl) ?_
      obtain ⟨r24, h25, eq23, hf⟩ := bi2_e hf
      refine x_cVi (As := [.int v2]) (rest := [.int v1]) C X w (c_X7_isSeen hI eq23) mw_X7_isSeen ml_X7_195 rcv_r33 rfl hl.1 rfl (Nat.le_of_ble_eq_true rfl) ⟨⟨Nat.le_of_ble_eq_true rfl, Nat.le_of_ble_eq_true rfl⟩, Nat.le_of_ble_eq_true rfl, Nat.le_of_ble_eq_true rfl⟩ dX7_may_17 (fun H locs w => ?_)
      refine lv_if_eq (tgt := 29) C.1 C.2.1 dX7_may_20 (by decide) (fun c26 => ?_) (fun c26 => ?_)
      · rw [if_pos c26] at hf
        refine lv_iconst (v := 0) C.1 C.2.1 dX7_may_29 (by decide) ?_
        exact w_X7_may_30 C hr hlk X hI ih _ _ _ _ _ _ _ w (lv_sub hl [0, 2] rfl) hf
      · rw [if_neg c26] at hf
        refine lv_iconst (v := 1) C.1 C.2.1 dX7_may_23 (by decide) ?_
        refine lv_iload_n C.1 C.2.1 dX7_may_24 rfl (lv_at hl 2 rfl) ?_
        refine lv_ishl C.1 C.2.1 dX7_may_25 ?_
        refine lv_goto (tgt := 30) C.1 C.2.1 dX7_may_26 (by decide) ?_
        exact w_X7_may_30 C hr hlk X hI ih _ _ _ _ _ _ _ w (lv_sub hl [0, 2] rfl) hf
def qX7_may (h : Hp) : Option (Int32 × Hp) :=
(bd (su h 33 (upd (h 33) 0 (0 : Int32))) (fun h21 =>
(qX7_may_9 600 h21 (0 : Int32) (0 : Int32))))
set_option maxHeartbeats 4000000 in
set_option maxRecDepth 100000 in
theorem c_X7_may {l : Launch} {E : Ev} {ad : Nat → Nat} {g : Gp} {h : Hp} {r : Int32} {h9 : Hp} (hI : Inj ad) (hf : qX7_may h = some (r, h9)) : CtI l yX7_may cX7_may 3 (some .int) 7 164 E ad g g [.ref (ad 141)] h h9 r := by
  refine x_begin (by decide) (Nat.le_of_ble_eq_true rfl) ?_
  intro p e s m below meth c ls C hr hlk X w hl
  replace hl : lv_has ls 3 [(0, .ref (ad 141))] := hl
  replace C : CallFix p m c cX7_may 3 s ([.ref (ad 141)] : List Value).toArray lwA RX7 := C
  unfold qX7_may at hf
  refine lv_aload_n C.1 C.2.1 dX7_may_0 rfl (lv_at hl 0 rfl) ?_
  refine lv_iconst (v := 0) C.1 C.2.1 dX7_may_1 (by decide) ?_
  obtain ⟨h21, eh21, hf⟩ := bd_e hf
  refine pf_X7_51 C X hI w dX7_may_2 (fun H locs w => ?_)
  replace w := at_eq eh21 w
  refine lv_iconst (v := 0) C.1 C.2.1 dX7_may_5 (by decide) ?_
  refine lv_istore_n (lv' := [(1, .int (0 : Int32)), (0, .ref (ad 141))]) C.1 C.2.1 dX7_may_6 rfl hl (by decide) rfl (fun ls hl => ?_)
  refine lv_iconst (v := 0) C.1 C.2.1 dX7_may_7 (by decide) ?_
  refine lv_istore_n (lv' := [(2, .int (0 : Int32)), (1, .int (0 : Int32)), (0, .ref (ad 141))]) C.1 C.2.1 dX7_may_8 rfl hl (by decide) rfl (fun ls hl => ?_)
  exact w_X7_may_9 C hr hlk X hI 600 _ _ _ _ _ _ w (lv_sub hl [2, 1, 0] rfl) hf

def qX7_hasBy (h : Hp) (x1 : Int32) (x2 : Int32) (x3 : Int32) (x4 : Int32) : Option (Int32) :=
(if x3 = (1 : Int32) then (if x4 = (1 : Int32) then (some (3 : Int32))
else (some (0 : Int32)))
else (if x4 = (1 : Int32) then (ck (inb ((0 : Int32) + x1) 36) ((some ((3 : Int32) + (((h 38) (((0 : Int32) + x1)).toNatClampNeg) / (2 : Int32))))))
else (bi1 (qX7_might (h 35) (h 36) x1) (fun r24 =>
(bi1 (qX7_might (h 35) (h 36) x2) (fun r26 =>
(if r24 ≤ r26 then (bi1 (qX7_might (h 35) (h 36) x1) (fun r29 =>
(bi1 (qX7_might (h 35) (h 36) x2) (fun r31 =>
(if r31 ≤ r29 then (some (-1 : Int32))
else (some (-2 : Int32)))))))
else (ck (inb ((0 : Int32) + x1) 36) ((some (((h 38) (((0 : Int32) + x1)).toNatClampNeg) / (3 : Int32))))))))))))
set_option maxHeartbeats 4000000 in
set_option maxRecDepth 100000 in
theorem c_X7_hasBy {l : Launch} {E : Ev} {ad : Nat → Nat} {g : Gp} {h : Hp} {x1 : Int32} {x2 : Int32} {x3 : Int32} {x4 : Int32} {r : Int32} (hI : Inj ad) (hf : qX7_hasBy h x1 x2 x3 x4 = some r) : CtI l yX7_hasBy cX7_hasBy 5 (some .int) 1 21 E ad g g [.ref (ad 141), .int x1, .int x2, .int x3, .int x4] h h r := by
  refine x_begin (by decide) (Nat.le_of_ble_eq_true rfl) ?_
  intro p e s m below meth c ls C hr hlk X w hl
  replace hl : lv_has ls 5 [(0, .ref (ad 141)), (1, .int x1), (2, .int x2), (3, .int x3), (4, .int x4)] := hl
  replace C : CallFix p m c cX7_hasBy 5 s ([.ref (ad 141), .int x1, .int x2, .int x3, .int x4] : List Value).toArray lwA RX7 := C
  unfold qX7_hasBy at hf
  refine lv_iload_n C.1 C.2.1 dX7_hasBy_0 rfl (lv_at hl 3 rfl) ?_
  refine lv_iconst (v := 1) C.1 C.2.1 dX7_hasBy_1 (by decide) ?_
  refine lv_icmp_ne (tgt := 17) C.1 C.2.1 dX7_hasBy_2 (by decide) (fun c21 => ?_) (fun c21 => ?_)
  · rw [if_neg c21] at hf
    refine lv_iload C.1 C.2.1 dX7_hasBy_17 (lv_at hl 4 rfl) ?_
    refine lv_iconst (v := 1) C.1 C.2.1 dX7_hasBy_19 (by decide) ?_
    refine lv_icmp_ne (tgt := 36) C.1 C.2.1 dX7_hasBy_20 (by decide) (fun c22 => ?_) (fun c22 => ?_)
    · rw [if_neg c22] at hf
      refine lv_aload_n C.1 C.2.1 dX7_hasBy_36 rfl (lv_at hl 0 rfl) ?_
      refine lv_iload_n C.1 C.2.1 dX7_hasBy_37 rfl (lv_at hl 1 rfl) ?_
      obtain ⟨r24, eq23, hf⟩ := bi1_e hf
      refine x_cVi (As := [.int x1]) (rest := []) C X w (c_X7_might hI (rfl) (rfl) eq23) mw_X7_might ml_X7_107 rcv_r33 rfl hl.1 rfl (Nat.le_of_ble_eq_true rfl) ⟨⟨Nat.le_of_ble_eq_true rfl, Nat.le_of_ble_eq_true rfl⟩, Nat.le_of_ble_eq_true rfl, Nat.le_of_ble_eq_true rfl⟩ dX7_hasBy_38 (fun H locs w => ?_)
      refine lv_aload_n C.1 C.2.1 dX7_hasBy_41 rfl (lv_at hl 0 rfl) ?_
      refine lv_iload_n C.1 C.2.1 dX7_hasBy_42 rfl (lv_at hl 2 rfl) ?_
      obtain ⟨r26, eq25, hf⟩ := bi1_e hf
      refine x_cVi (As := [.int x2]) (rest := [.int r24]) C X w (c_X7_might hI (rfl) (rfl) eq25) mw_X7_might ml_X7_107 rcv_r33 rfl hl.1 rfl (Nat.le_of_ble_eq_true rfl) ⟨⟨Nat.le_of_ble_eq_true rfl, Nat.le_of_ble_eq_true rfl⟩, Nat.le_of_ble_eq_true rfl, Nat.le_of_ble_eq_true rfl⟩ dX7_hasBy_43 (fun H locs w => ?_)
      refine lv_icmp_le (tgt := 62) C.1 C.2.1 dX7_hasBy_46 (by decide) (fun c27 => ?_) (fun c27 => ?_)
      · rw [if_pos c27] at hf
        refine lv_aload_n C.1 C.2.1 dX7_hasBy_62 rfl (lv_at hl 0 rfl) ?_
        refine lv_iload_n C.1 C.2.1 dX7_hasBy_63 rfl (lv_at hl 1 rfl) ?_
        obtain ⟨r29, eq28, hf⟩ := bi1_e hf
        refine x_cVi (As := [.int x1]) (rest := []) C X w (c_X7_might hI (rfl) (rfl) eq28) mw_X7_might ml_X7_107 rcv_r33 rfl hl.1 rfl (Nat.le_of_ble_eq_true rfl) ⟨⟨Nat.le_of_ble_eq_true rfl, Nat.le_of_ble_eq_true rfl⟩, Nat.le_of_ble_eq_true rfl, Nat.le_of_ble_eq_true rfl⟩ dX7_hasBy_64 (fun H locs w => ?_)
        refine lv_aload_n C.1 C.2.1 dX7_hasBy_67 rfl (lv_at hl 0 rfl) ?_
        refine lv_iload_n C.1 C.2.1 dX7_hasBy_68 rfl (lv_at hl 2 rfl) ?_
        obtain ⟨r31, eq30, hf⟩ := bi1_e hf
        refine x_cVi (As := [.int x2]) (rest := [.int r29]) C X w (c_X7_might hI (rfl) (rfl) eq30) mw_X7_might ml_X7_107 rcv_r33 rfl hl.1 rfl (Nat.le_of_ble_eq_true rfl) ⟨⟨Nat.le_of_ble_eq_true rfl, Nat.le_of_ble_eq_true rfl⟩, Nat.le_of_ble_eq_true rfl, Nat.le_of_ble_eq_true rfl⟩ dX7_hasBy_69 (fun H locs w => ?_)
        refine lv_icmp_ge (tgt := 80) C.1 C.2.1 dX7_hasBy_72 (by decide) (fun c32 => ?_) (fun c32 => ?_)
        · rw [if_pos c32] at hf
          refine lv_iconst (v := -1) C.1 C.2.1 dX7_hasBy_80 (by decide) ?_
          cases hf
          exact x_iret C hr hlk w dX7_hasBy_81
        · rw [if_neg c32] at hf
          refine lv_bipush (v := -2) C.1 C.2.1 dX7_hasBy_75 (by decide) ?_
          refine lv_goto (tgt := 81) C.1 C.2.1 dX7_hasBy_77 (by decide) ?_
          cases hf
          exact x_iret C hr hlk w dX7_hasBy_81
      · rw [if_neg c27] at hf
        refine lv_aload_n C.1 C.2.1 dX7_hasBy_49 rfl (lv_at hl 0 rfl) ?_
        refine gf_X7_26 C X w rfl dX7_hasBy_50 ?_
        refine lv_iconst (v := 0) C.1 C.2.1 dX7_hasBy_53 (by decide) ?_
        refine lv_iload_n C.1 C.2.1 dX7_hasBy_54 rfl (lv_at hl 1 rfl) ?_
        refine lv_iadd C.1 C.2.1 dX7_hasBy_55 ?_
        obtain ⟨i33, hf⟩ := ck_e hf
        refine x_ild (v := (h 38) (((0 : Int32) + x1)).toNatClampNeg) C X w (wl_r38 (rfl)) i33 (rfl) dX7_hasBy_56 ?_
        refine lv_iconst (v := 3) C.1 C.2.1 dX7_hasBy_57 (by decide) ?_
        refine lv_idiv C.1 C.2.1 dX7_hasBy_58 (by decide) ?_
        refine lv_goto (tgt := 81) C.1 C.2.1 dX7_hasBy_59 (by decide) ?_
        cases hf
        exact x_iret C hr hlk w dX7_hasBy_81
    · rw [if_pos c22] at hf
      refine lv_iconst (v := 3) C.1 C.2.1 dX7_hasBy_23 (by decide) ?_
      refine lv_aload_n C.1 C.2.1 dX7_hasBy_24 rfl (lv_at hl 0 rfl) ?_
      refine gf_X7_26 C X w rfl dX7_hasBy_25 ?_
      refine lv_iconst (v := 0) C.1 C.2.1 dX7_hasBy_28 (by decide) ?_
      refine lv_iload_n C.1 C.2.1 dX7_hasBy_29 rfl (lv_at hl 1 rfl) ?_
      refine lv_iadd C.1 C.2.1 dX7_hasBy_30 ?_
      obtain ⟨i34, hf⟩ := ck_e hf
      refine x_ild (v := (h 38) (((0 : Int32) + x1)).toNatClampNeg) C X w (wl_r38 (rfl)) i34 (rfl) dX7_hasBy_31 ?_
      refine lv_iconst (v := 2) C.1 C.2.1 dX7_hasBy_32 (by decide) ?_
      refine lv_idiv C.1 C.2.1 dX7_hasBy_33 (by decide) ?_
      refine lv_iadd C.1 C.2.1 dX7_hasBy_34 ?_
      cases hf
      exact x_iret C hr hlk w dX7_hasBy_35
  · rw [if_pos c21] at hf
    refine lv_iload C.1 C.2.1 dX7_hasBy_5 (lv_at hl 4 rfl) ?_
    refine lv_iconst (v := 1) C.1 C.2.1 dX7_hasBy_7 (by decide) ?_
    refine lv_icmp_ne (tgt := 15) C.1 C.2.1 dX7_hasBy_8 (by decide) (fun c35 => ?_) (fun c35 => ?_)
    · rw [if_neg c35] at hf
      refine lv_iconst (v := 0) C.1 C.2.1 dX7_hasBy_15 (by decide) ?_
      cases hf
      exact x_iret C hr hlk w dX7_hasBy_16
    · rw [if_pos c35] at hf
      refine lv_iconst (v := 3) C.1 C.2.1 dX7_hasBy_11 (by decide) ?_
      refine lv_goto (tgt := 16) C.1 C.2.1 dX7_hasBy_12 (by decide) ?_
      cases hf
      exact x_iret C hr hlk w dX7_hasBy_16

def qX7_findRests_125 (k21 : Hp → Int32 → Int32 → Int32 → Int32 → Option (Hp)) (k13 : Hp → Int32 → Int32 → Int32 → Option (Hp)) (h : Hp) (v1 : Int32) (v2 : Int32) (v3 : Int32) (v4 : Int32) (s1 : Int32) (s2 : Int32) : Option (Hp) :=
(bd (su h 33 (upd (h 33) 22 (s1 + s2))) (fun h39 =>
(k21 h39 v1 v2 v3 (v4 + 1))))
set_option maxHeartbeats 4000000 in
set_option maxRecDepth 100000 in
theorem w_X7_findRests_125 {p : Program} {l : Launch} {e : Env} {s : State} {m : MethodId} {args : Array Value} {below : List Frame} {meth : Method} {c : Code} {E : Ev} {ad : Nat → Nat} {g : Gp} {h9 : Hp} {k21 : Hp → Int32 → Int32 → Int32 → Int32 → Option (Hp)} {k13 : Hp → Int32 → Int32 → Int32 → Option (Hp)} (C : CallFix p m c cX7_findRests 6 s args lwA RX7) (hr : meth.sig.returnType = none) (hlk : meth.locks = false) (X : Sx E ad s) (hI : Inj ad) (hk21 : ∀ (h : Hp) (v1 : Int32) (v2 : Int32) (v3 : Int32) (v4 : Int32) (H : Heap) (locs : List Loc) (ls : Array Slot), At E ad h g s H locs → lv_has ls 6 [(0, .ref (ad 141)), (1, .int v1), (2, .int v2), (3, .int v3), (4, .int v4)] → k21 h v1 v2 v3 v4 = some h9 → W p l e (RM 2 45) s m args below meth c H locs 0 0 (QV E ad h9 g below args s) (F0 m 21 ls [])) (hk13 : ∀ (h : Hp) (v1 : Int32) (v2 : Int32) (v3 : Int32) (H : Heap) (locs : List Loc) (ls : Array Slot), At E ad h g s H locs → lv_has ls 6 [(0, .ref (ad 141)), (1, .int v1), (2, .int v2), (3, .int v3)] → k13 h v1 v2 v3 = some h9 → W p l e (RM 2 45) s m args below meth c H locs 0 0 (QV E ad h9 g below args s) (F0 m 13 ls [])) : ∀ (h : Hp) (v1 : Int32) (v2 : Int32) (v3 : Int32) (v4 : Int32) (s1 : Int32) (s2 : Int32) (H : Heap) (locs : List Loc) (ls : Array Slot), At E ad h g s H locs → lv_has ls 6 [(0, .ref (ad 141)), (1, .int v1), (2, .int v2), (3, .int v3), (4, .int v4)] → qX7_findRests_125 k21 k13 h v1 v2 v3 v4 s1 s2 = some h9 → W p l e (RM 2 45) s m args below meth c H locs 0 0 (QV E ad h9 g below args s) (F0 m 125 ls [.int s2, .int s1, .ref (ad 141)]) := by
  intro h v1 v2 v3 v4 s1 s2 H locs ls w hl hf
  unfold qX7_findRests_125 at hf
  refine lv_iadd C.1 C.2.1 dX7_findRests_125 ?_
  obtain ⟨h39, eh39, hf⟩ := bd_e hf
  refine pf_X7_198 C X hI w dX7_findRests_126 (fun H locs w => ?_)
  replace w := at_eq eh39 w
  refine lv_iinc (v := (v4 + 1)) (lv' := [(4, .int (v4 + 1)), (0, .ref (ad 141)), (1, .int v1), (2, .int v2), (3, .int v3)]) C.1 C.2.1 dX7_findRests_129 hl (k := 4) rfl (congrArg (fun z => v4 + z) (by decide)) (by decide) rfl (fun ls hl => ?_)
  refine lv_goto (tgt := 21) C.1 C.2.1 dX7_findRests_132 (by decide) ?_
  exact hk21 _ _ _ _ _ _ _ _ w (lv_sub hl [1, 2, 3, 4, 0] rfl) hf
def qX7_findRests_107 (k21 : Hp → Int32 → Int32 → Int32 → Int32 → Option (Hp)) (k13 : Hp → Int32 → Int32 → Int32 → Option (Hp)) (h : Hp) (v1 : Int32) (v2 : Int32) (v3 : Int32) (v4 : Int32) (v5 : Int32) (s1 : Int32) : Option (Hp) :=
(bd (su h 33 (upd (h 33) 23 s1)) (fun h37 =>
(if v5 = 0 then (qX7_findRests_125 k21 k13 h37 v1 v2 v3 v4 ((h37 33) 22) (0 : Int32))
else (qX7_findRests_125 k21 k13 h37 v1 v2 v3 v4 ((h37 33) 22) (1 : Int32)))))
set_option maxHeartbeats 4000000 in
set_option maxRecDepth 100000 in
theorem w_X7_findRests_107 {p : Program} {l : Launch} {e : Env} {s : State} {m : MethodId} {args : Array Value} {below : List Frame} {meth : Method} {c : Code} {E : Ev} {ad : Nat → Nat} {g : Gp} {h9 : Hp} {k21 : Hp → Int32 → Int32 → Int32 → Int32 → Option (Hp)} {k13 : Hp → Int32 → Int32 → Int32 → Option (Hp)} (C : CallFix p m c cX7_findRests 6 s args lwA RX7) (hr : meth.sig.returnType = none) (hlk : meth.locks = false) (X : Sx E ad s) (hI : Inj ad) (hk21 : ∀ (h : Hp) (v1 : Int32) (v2 : Int32) (v3 : Int32) (v4 : Int32) (H : Heap) (locs : List Loc) (ls : Array Slot), At E ad h g s H locs → lv_has ls 6 [(0, .ref (ad 141)), (1, .int v1), (2, .int v2), (3, .int v3), (4, .int v4)] → k21 h v1 v2 v3 v4 = some h9 → W p l e (RM 2 45) s m args below meth c H locs 0 0 (QV E ad h9 g below args s) (F0 m 21 ls [])) (hk13 : ∀ (h : Hp) (v1 : Int32) (v2 : Int32) (v3 : Int32) (H : Heap) (locs : List Loc) (ls : Array Slot), At E ad h g s H locs → lv_has ls 6 [(0, .ref (ad 141)), (1, .int v1), (2, .int v2), (3, .int v3)] → k13 h v1 v2 v3 = some h9 → W p l e (RM 2 45) s m args below meth c H locs 0 0 (QV E ad h9 g below args s) (F0 m 13 ls [])) : ∀ (h : Hp) (v1 : Int32) (v2 : Int32) (v3 : Int32) (v4 : Int32) (v5 : Int32) (s1 : Int32) (H : Heap) (locs : List Loc) (ls : Array Slot), At E ad h g s H locs → lv_has ls 6 [(0, .ref (ad 141)), (1, .int v1), (2, .int v2), (3, .int v3), (4, .int v4), (5, .int v5)] → qX7_findRests_107 k21 k13 h v1 v2 v3 v4 v5 s1 = some h9 → W p l e (RM 2 45) s m args below meth c H locs 0 0 (QV E ad h9 g below args s) (F0 m 107 ls [.int s1, .ref (ad 141)]) := by
  intro h v1 v2 v3 v4 v5 s1 H locs ls w hl hf
  unfold qX7_findRests_107 at hf
  obtain ⟨h37, eh37, hf⟩ := bd_e hf
  refine pf_X7_201 C X hI w dX7_findRests_107 (fun H locs w => ?_)
  replace w := at_eq eh37 w
  refine lv_aload_n C.1 C.2.1 dX7_findRests_110 rfl (lv_at hl 0 rfl) ?_
  refine lv_dup C.1 C.2.1 dX7_findRests_111 rfl ?_
  refine gf_X7_198 C X w (rfl) dX7_findRests_112 ?_
  refine lv_iload C.1 C.2.1 dX7_findRests_115 (lv_at hl 5 rfl) ?_
  refine lv_if_eq (tgt := 124) C.1 C.2.1 dX7_findRests_117 (by decide) (fun c38 => ?_) (fun c38 => ?_)
  · rw [if_pos c38] at hf
    refine lv_iconst (v := 0) C.1 C.2.1 dX7_findRests_124 (by decide) ?_
    exact w_X7_findRests_125 C hr hlk X hI hk21 hk13 _ _ _ _ _ _ _ _ _ _ w (lv_sub hl [0, 1, 2, 3, 4] rfl) hf
  · rw [if_neg c38] at hf
    refine lv_iconst (v := 1) C.1 C.2.1 dX7_findRests_120 (by decide) ?_
    refine lv_goto (tgt := 125) C.1 C.2.1 dX7_findRests_121 (by decide) ?_
    exact w_X7_findRests_125 C hr hlk X hI hk21 hk13 _ _ _ _ _ _ _ _ _ _ w (lv_sub hl [0, 1, 2, 3, 4] rfl) hf
def qX7_findRests_103 (k21 : Hp → Int32 → Int32 → Int32 → Int32 → Option (Hp)) (k13 : Hp → Int32 → Int32 → Int32 → Option (Hp)) (h : Hp) (v1 : Int32) (v2 : Int32) (v3 : Int32) (v4 : Int32) (v5 : Int32) : Option (Hp) :=
(qX7_findRests_107 k21 k13 h v1 v2 v3 v4 v5 ((h 33) 23))
set_option maxHeartbeats 4000000 in
set_option maxRecDepth 100000 in
theorem w_X7_findRests_103 {p : Program} {l : Launch} {e : Env} {s : State} {m : MethodId} {args : Array Value} {below : List Frame} {meth : Method} {c : Code} {E : Ev} {ad : Nat → Nat} {g : Gp} {h9 : Hp} {k21 : Hp → Int32 → Int32 → Int32 → Int32 → Option (Hp)} {k13 : Hp → Int32 → Int32 → Int32 → Option (Hp)} (C : CallFix p m c cX7_findRests 6 s args lwA RX7) (hr : meth.sig.returnType = none) (hlk : meth.locks = false) (X : Sx E ad s) (hI : Inj ad) (hk21 : ∀ (h : Hp) (v1 : Int32) (v2 : Int32) (v3 : Int32) (v4 : Int32) (H : Heap) (locs : List Loc) (ls : Array Slot), At E ad h g s H locs → lv_has ls 6 [(0, .ref (ad 141)), (1, .int v1), (2, .int v2), (3, .int v3), (4, .int v4)] → k21 h v1 v2 v3 v4 = some h9 → W p l e (RM 2 45) s m args below meth c H locs 0 0 (QV E ad h9 g below args s) (F0 m 21 ls [])) (hk13 : ∀ (h : Hp) (v1 : Int32) (v2 : Int32) (v3 : Int32) (H : Heap) (locs : List Loc) (ls : Array Slot), At E ad h g s H locs → lv_has ls 6 [(0, .ref (ad 141)), (1, .int v1), (2, .int v2), (3, .int v3)] → k13 h v1 v2 v3 = some h9 → W p l e (RM 2 45) s m args below meth c H locs 0 0 (QV E ad h9 g below args s) (F0 m 13 ls [])) : ∀ (h : Hp) (v1 : Int32) (v2 : Int32) (v3 : Int32) (v4 : Int32) (v5 : Int32) (H : Heap) (locs : List Loc) (ls : Array Slot), At E ad h g s H locs → lv_has ls 6 [(0, .ref (ad 141)), (1, .int v1), (2, .int v2), (3, .int v3), (4, .int v4), (5, .int v5)] → qX7_findRests_103 k21 k13 h v1 v2 v3 v4 v5 = some h9 → W p l e (RM 2 45) s m args below meth c H locs 0 0 (QV E ad h9 g below args s) (F0 m 103 ls [.ref (ad 141)]) := by
  intro h v1 v2 v3 v4 v5 H locs ls w hl hf
  unfold qX7_findRests_103 at hf
  refine lv_aload_n C.1 C.2.1 dX7_findRests_103 rfl (lv_at hl 0 rfl) ?_
  refine gf_X7_201 C X w (rfl) dX7_findRests_104 ?_
  exact w_X7_findRests_107 C hr hlk X hI hk21 hk13 _ _ _ _ _ _ _ _ _ _ w (lv_sub hl [0, 1, 2, 3, 4, 5] rfl) hf
def qX7_findRests_78 (k21 : Hp → Int32 → Int32 → Int32 → Int32 → Option (Hp)) (k13 : Hp → Int32 → Int32 → Int32 → Option (Hp)) (h : Hp) (v1 : Int32) (v2 : Int32) (v3 : Int32) (v4 : Int32) (s0 : Int32) : Option (Hp) :=
(if s0 = 0 then (qX7_findRests_103 k21 k13 h v1 v2 v3 v4 s0)
else (if ((h 33) 22) = 0 then (qX7_findRests_107 k21 k13 h v1 v2 v3 v4 s0 (((10 : Int32) * v3) + v4))
else (qX7_findRests_103 k21 k13 h v1 v2 v3 v4 s0)))
set_option maxHeartbeats 4000000 in
set_option maxRecDepth 100000 in
theorem w_X7_findRests_78 {p : Program} {l : Launch} {e : Env} {s : State} {m : MethodId} {args : Array Value} {below : List Frame} {meth : Method} {c : Code} {E : Ev} {ad : Nat → Nat} {g : Gp} {h9 : Hp} {k21 : Hp → Int32 → Int32 → Int32 → Int32 → Option (Hp)} {k13 : Hp → Int32 → Int32 → Int32 → Option (Hp)} (C : CallFix p m c cX7_findRests 6 s args lwA RX7) (hr : meth.sig.returnType = none) (hlk : meth.locks = false) (X : Sx E ad s) (hI : Inj ad) (hk21 : ∀ (h : Hp) (v1 : Int32) (v2 : Int32) (v3 : Int32) (v4 : Int32) (H : Heap) (locs : List Loc) (ls : Array Slot), At E ad h g s H locs → lv_has ls 6 [(0, .ref (ad 141)), (1, .int v1), (2, .int v2), (3, .int v3), (4, .int v4)] → k21 h v1 v2 v3 v4 = some h9 → W p l e (RM 2 45) s m args below meth c H locs 0 0 (QV E ad h9 g below args s) (F0 m 21 ls [])) (hk13 : ∀ (h : Hp) (v1 : Int32) (v2 : Int32) (v3 : Int32) (H : Heap) (locs : List Loc) (ls : Array Slot), At E ad h g s H locs → lv_has ls 6 [(0, .ref (ad 141)), (1, .int v1), (2, .int v2), (3, .int v3)] → k13 h v1 v2 v3 = some h9 → W p l e (RM 2 45) s m args below meth c H locs 0 0 (QV E ad h9 g below args s) (F0 m 13 ls [])) : ∀ (h : Hp) (v1 : Int32) (v2 : Int32) (v3 : Int32) (v4 : Int32) (s0 : Int32) (H : Heap) (locs : List Loc) (ls : Array Slot), At E ad h g s H locs → lv_has ls 6 [(0, .ref (ad 141)), (1, .int v1), (2, .int v2), (3, .int v3), (4, .int v4)] → qX7_findRests_78 k21 k13 h v1 v2 v3 v4 s0 = some h9 → W p l e (RM 2 45) s m args below meth c H locs 0 0 (QV E ad h9 g below args s) (F0 m 78 ls [.int s0]) := by
  intro h v1 v2 v3 v4 s0 H locs ls w hl hf
  unfold qX7_findRests_78 at hf
  refine lv_istore (lv' := [(5, .int s0), (0, .ref (ad 141)), (1, .int v1), (2, .int v2), (3, .int v3), (4, .int v4)]) C.1 C.2.1 dX7_findRests_78 hl (by decide) rfl (fun ls hl => ?_)
  refine lv_aload_n C.1 C.2.1 dX7_findRests_80 rfl (lv_at hl 1 rfl) ?_
  refine lv_iload C.1 C.2.1 dX7_findRests_81 (lv_at hl 0 rfl) ?_
  refine lv_if_eq (tgt := 103) C.1 C.2.1 dX7_findRests_83 (by decide) (fun c35 => ?_) (fun c35 => ?_)
  · rw [if_pos c35] at hf
    exact w_X7_findRests_103 C hr hlk X hI hk21 hk13 _ _ _ _ _ _ _ _ _ w (lv_sub hl [1, 2, 3, 4, 5, 0] rfl) hf
  · rw [if_neg c35] at hf
    refine lv_aload_n C.1 C.2.1 dX7_findRests_86 rfl (lv_at hl 1 rfl) ?_
    refine gf_X7_198 C X w (rfl) dX7_findRests_87 ?_
    refine lv_if_ne (tgt := 103) C.1 C.2.1 dX7_findRests_90 (by decide) (fun c36 => ?_) (fun c36 => ?_)
    · rw [if_neg c36] at hf
      exact w_X7_findRests_103 C hr hlk X hI hk21 hk13 _ _ _ _ _ _ _ _ _ w (lv_sub hl [1, 2, 3, 4, 5, 0] rfl) hf
    · rw [if_pos c36] at hf
      refine lv_bipush (v := 10) C.1 C.2.1 dX7_findRests_93 (by decide) ?_
      refine lv_iload_n C.1 C.2.1 dX7_findRests_95 rfl (lv_at hl 4 rfl) ?_
      refine lv_imul C.1 C.2.1 dX7_findRests_96 ?_
      refine lv_iload C.1 C.2.1 dX7_findRests_97 (lv_at hl 5 rfl) ?_
      refine lv_iadd C.1 C.2.1 dX7_findRests_99 ?_
      refine lv_goto (tgt := 107) C.1 C.2.1 dX7_findRests_100 (by decide) ?_
      exact w_X7_findRests_107 C hr hlk X hI hk21 hk13 _ _ _ _ _ _ _ _ _ _ w (lv_sub hl [1, 2, 3, 4, 5, 0] rfl) hf
def qX7_findRests_77 (k21 : Hp → Int32 → Int32 → Int32 → Int32 → Option (Hp)) (k13 : Hp → Int32 → Int32 → Int32 → Option (Hp)) (h : Hp) (v1 : Int32) (v2 : Int32) (v3 : Int32) (v4 : Int32) : Option (Hp) :=
(qX7_findRests_78 k21 k13 h v1 v2 v3 v4 (0 : Int32))
set_option maxHeartbeats 4000000 in
set_option maxRecDepth 100000 in
theorem w_X7_findRests_77 {p : Program} {l : Launch} {e : Env} {s : State} {m : MethodId} {args : Array Value} {below : List Frame} {meth : Method} {c : Code} {E : Ev} {ad : Nat → Nat} {g : Gp} {h9 : Hp} {k21 : Hp → Int32 → Int32 → Int32 → Int32 → Option (Hp)} {k13 : Hp → Int32 → Int32 → Int32 → Option (Hp)} (C : CallFix p m c cX7_findRests 6 s args lwA RX7) (hr : meth.sig.returnType = none) (hlk : meth.locks = false) (X : Sx E ad s) (hI : Inj ad) (hk21 : ∀ (h : Hp) (v1 : Int32) (v2 : Int32) (v3 : Int32) (v4 : Int32) (H : Heap) (locs : List Loc) (ls : Array Slot), At E ad h g s H locs → lv_has ls 6 [(0, .ref (ad 141)), (1, .int v1), (2, .int v2), (3, .int v3), (4, .int v4)] → k21 h v1 v2 v3 v4 = some h9 → W p l e (RM 2 45) s m args below meth c H locs 0 0 (QV E ad h9 g below args s) (F0 m 21 ls [])) (hk13 : ∀ (h : Hp) (v1 : Int32) (v2 : Int32) (v3 : Int32) (H : Heap) (locs : List Loc) (ls : Array Slot), At E ad h g s H locs → lv_has ls 6 [(0, .ref (ad 141)), (1, .int v1), (2, .int v2), (3, .int v3)] → k13 h v1 v2 v3 = some h9 → W p l e (RM 2 45) s m args below meth c H locs 0 0 (QV E ad h9 g below args s) (F0 m 13 ls [])) : ∀ (h : Hp) (v1 : Int32) (v2 : Int32) (v3 : Int32) (v4 : Int32) (H : Heap) (locs : List Loc) (ls : Array Slot), At E ad h g s H locs → lv_has ls 6 [(0, .ref (ad 141)), (1, .int v1), (2, .int v2), (3, .int v3), (4, .int v4)] → qX7_findRests_77 k21 k13 h v1 v2 v3 v4 = some h9 → W p l e (RM 2 45) s m args below meth c H locs 0 0 (QV E ad h9 g below args s) (F0 m 77 ls []) := by
  intro h v1 v2 v3 v4 H locs ls w hl hf
  unfold qX7_findRests_77 at hf
  refine lv_iconst (v := 0) C.1 C.2.1 dX7_findRests_77 (by decide) ?_
  exact w_X7_findRests_78 C hr hlk X hI hk21 hk13 _ _ _ _ _ _ _ _ _ w (lv_sub hl [0, 1, 2, 3, 4] rfl) hf
def qX7_findRests_21 (k13 : Hp → Int32 → Int32 → Int32 → Option (Hp)) : Nat → Hp → Int32 → Int32 → Int32 → Int32 → Option (Hp)
  | 0, _, _, _, _, _ => none
  | n + 1, h, v1, v2, v3, v4 =>
    (if (2 : Int32) ≤ v4 then (k13 h v1 v2 (v3 + 1))
    else (bi1 (qX7_hasBy h v1 v2 ((1 : Int32) - v3) v4) (fun r26 =>
    (bi1 (qX7_hasBy h v1 v2 v3 v4) (fun r28 =>
    (if r28 < r26 then (qX7_findRests_77 (qX7_findRests_21 k13 n) k13 h v1 v2 v3 v4)
    else (bi1 (qX7_hasBy h v2 v1 ((1 : Int32) - v4) v3) (fun r31 =>
    (bi1 (qX7_hasBy h v2 v1 v4 v3) (fun r33 =>
    (if r33 < r31 then (qX7_findRests_77 (qX7_findRests_21 k13 n) k13 h v1 v2 v3 v4)
    else (qX7_findRests_78 (qX7_findRests_21 k13 n) k13 h v1 v2 v3 v4 (1 : Int32)))))))))))))
set_option maxHeartbeats 4000000 in
set_option maxRecDepth 100000 in
theorem w_X7_findRests_21 {p : Program} {l : Launch} {e : Env} {s : State} {m : MethodId} {args : Array Value} {below : List Frame} {meth : Method} {c : Code} {E : Ev} {ad : Nat → Nat} {g : Gp} {h9 : Hp} {k13 : Hp → Int32 → Int32 → Int32 → Option (Hp)} (C : CallFix p m c cX7_findRests 6 s args lwA RX7) (hr : meth.sig.returnType = none) (hlk : meth.locks = false) (X : Sx E ad s) (hI : Inj ad) (hk13 : ∀ (h : Hp) (v1 : Int32) (v2 : Int32) (v3 : Int32) (H : Heap) (locs : List Loc) (ls : Array Slot), At E ad h g s H locs → lv_has ls 6 [(0, .ref (ad 141)), (1, .int v1), (2, .int v2), (3, .int v3)] → k13 h v1 v2 v3 = some h9 → W p l e (RM 2 45) s m args below meth c H locs 0 0 (QV E ad h9 g below args s) (F0 m 13 ls [])) : ∀ (n : Nat), ∀ (h : Hp) (v1 : Int32) (v2 : Int32) (v3 : Int32) (v4 : Int32) (H : Heap) (locs : List Loc) (ls : Array Slot), At E ad h g s H locs → lv_has ls 6 [(0, .ref (ad 141)), (1, .int v1), (2, .int v2), (3, .int v3), (4, .int v4)] → qX7_findRests_21 k13 n h v1 v2 v3 v4 = some h9 → W p l e (RM 2 45) s m args below meth c H locs 0 0 (QV E ad h9 g below args s) (F0 m 21 ls []) := by
  intro n
  induction n with
  | zero =>
    intro h v1 v2 v3 v4 H locs ls w hl hf
    cases hf
  | succ n ih =>
    intro h v1 v2 v3 v4 H locs ls w hl hf
    rw [qX7_findRests_21] at hf
    refine lv_iload C.1 C.2.1 dX7_findRests_21 (lv_at hl 4 rfl) ?_
    refine lv_iconst (v := 2) C.1 C.2.1 dX7_findRests_23 (by decide) ?_
    refine lv_icmp_ge (tgt := 135) C.1 C.2.1 dX7_findRests_24 (by decide) (fun c24 => ?_) (fun c24 => ?_)
    · rw [if_pos c24] at hf
      refine lv_iinc (v := (v3 + 1)) (lv' := [(3, .int (v3 + 1)), (0, .ref (ad 141)), (1, .int v1), (2, .int v2), (4, .int v4)]) C.1 C.2.1 dX7_findRests_135 hl (k := 3) rfl (congrArg (fun z => v3 + z) (by decide)) (by decide) rfl (fun ls hl => ?_)
      refine lv_goto (tgt := 13) C.1 C.2.1 dX7_findRests_138 (by decide) ?_
      exact hk13 _ _ _ _ _ _ _ w (lv_sub hl [1, 2, 3, 0] rfl) hf
    · rw [if_neg c24] at hf
      refine lv_aload_n C.1 C.2.1 dX7_findRests_27 rfl (lv_at hl 0 rfl) ?_
      refine lv_iload_n C.1 C.2.1 dX7_findRests_28 rfl (lv_at hl 1 rfl) ?_
      refine lv_iload_n C.1 C.2.1 dX7_findRests_29 rfl (lv_at hl 2 rfl) ?_
      refine lv_iconst (v := 1) C.1 C.2.1 dX7_findRests_30 (by decide) ?_
      refine lv_iload_n C.1 C.2.1 dX7_findRests_31 rfl (lv_at hl 3 rfl) ?_
      refine lv_isub C.1 C.2.1 dX7_findRests_32 ?_
      refine lv_iload C.1 C.2.1 dX7_findRests_33 (lv_at hl 4 rfl) ?_
      obtain ⟨r26, eq25, hf⟩ := bi1_e hf
      refine x_cVi (As := [.int v1, .int v2, .int ((1 : Int32) - v3), .int v4]) (rest := []) C X w (c_X7_hasBy hI eq25) mw_X7_hasBy ml_X7_204 rcv_r33 rfl hl.1 rfl (Nat.le_of_ble_eq_true rfl) ⟨⟨Nat.le_of_ble_eq_true rfl, Nat.le_of_ble_eq_true rfl⟩, Nat.le_of_ble_eq_true rfl, Nat.le_of_ble_eq_true rfl⟩ dX7_findRests_35 (fun H locs w => ?_)
      refine lv_aload_n C.1 C.2.1 dX7_findRests_38 rfl (lv_at hl 0 rfl) ?_
      refine lv_iload_n C.1 C.2.1 dX7_findRests_39 rfl (lv_at hl 1 rfl) ?_
      refine lv_iload_n C.1 C.2.1 dX7_findRests_40 rfl (lv_at hl 2 rfl) ?_
      refine lv_iload_n C.1 C.2.1 dX7_findRests_41 rfl (lv_at hl 3 rfl) ?_
      refine lv_iload C.1 C.2.1 dX7_findRests_42 (lv_at hl 4 rfl) ?_
      obtain ⟨r28, eq27, hf⟩ := bi1_e hf
      refine x_cVi (As := [.int v1, .int v2, .int v3, .int v4]) (rest := [.int r26]) C X w (c_X7_hasBy hI eq27) mw_X7_hasBy ml_X7_204 rcv_r33 rfl hl.1 rfl (Nat.le_of_ble_eq_true rfl) ⟨⟨Nat.le_of_ble_eq_true rfl, Nat.le_of_ble_eq_true rfl⟩, Nat.le_of_ble_eq_true rfl, Nat.le_of_ble_eq_true rfl⟩ dX7_findRests_44 (fun H locs w => ?_)
      refine lv_icmp_gt (tgt := 77) C.1 C.2.1 dX7_findRests_47 (by decide) (fun c29 => ?_) (fun c29 => ?_)
      · rw [if_pos c29] at hf
        exact w_X7_findRests_77 C hr hlk X hI ih hk13 _ _ _ _ _ _ _ _ w (lv_sub hl [0, 1, 2, 3, 4] rfl) hf
      · rw [if_neg c29] at hf
        refine lv_aload_n C.1 C.2.1 dX7_findRests_50 rfl (lv_at hl 0 rfl) ?_
        refine lv_iload_n C.1 C.2.1 dX7_findRests_51 rfl (lv_at hl 2 rfl) ?_
        refine lv_iload_n C.1 C.2.1 dX7_findRests_52 rfl (lv_at hl 1 rfl) ?_
        refine lv_iconst (v := 1) C.1 C.2.1 dX7_findRests_53 (by decide) ?_
        refine lv_iload C.1 C.2.1 dX7_findRests_54 (lv_at hl 4 rfl) ?_
        refine lv_isub C.1 C.2.1 dX7_findRests_56 ?_
        refine lv_iload_n C.1 C.2.1 dX7_findRests_57 rfl (lv_at hl 3 rfl) ?_
        obtain ⟨r31, eq30, hf⟩ := bi1_e hf
        refine x_cVi (As := [.int v2, .int v1, .int ((1 : Int32) - v4), .int v3]) (rest := []) C X w (c_X7_hasBy hI eq30) mw_X7_hasBy ml_X7_204 rcv_r33 rfl hl.1 rfl (Nat.le_of_ble_eq_true rfl) ⟨⟨Nat.le_of_ble_eq_true rfl, Nat.le_of_ble_eq_true rfl⟩, Nat.le_of_ble_eq_true rfl, Nat.le_of_ble_eq_true rfl⟩ dX7_findRests_58 (fun H locs w => ?_)
        refine lv_aload_n C.1 C.2.1 dX7_findRests_61 rfl (lv_at hl 0 rfl) ?_
        refine lv_iload_n C.1 C.2.1 dX7_findRests_62 rfl (lv_at hl 2 rfl) ?_
        refine lv_iload_n C.1 C.2.1 dX7_findRests_63 rfl (lv_at hl 1 rfl) ?_
        refine lv_iload C.1 C.2.1 dX7_findRests_64 (lv_at hl 4 rfl) ?_
        refine lv_iload_n C.1 C.2.1 dX7_findRests_66 rfl (lv_at hl 3 rfl) ?_
        obtain ⟨r33, eq32, hf⟩ := bi1_e hf
        refine x_cVi (As := [.int v2, .int v1, .int v4, .int v3]) (rest := [.int r31]) C X w (c_X7_hasBy hI eq32) mw_X7_hasBy ml_X7_204 rcv_r33 rfl hl.1 rfl (Nat.le_of_ble_eq_true rfl) ⟨⟨Nat.le_of_ble_eq_true rfl, Nat.le_of_ble_eq_true rfl⟩, Nat.le_of_ble_eq_true rfl, Nat.le_of_ble_eq_true rfl⟩ dX7_findRests_67 (fun H locs w => ?_)
        refine lv_icmp_gt (tgt := 77) C.1 C.2.1 dX7_findRests_70 (by decide) (fun c34 => ?_) (fun c34 => ?_)
        · rw [if_pos c34] at hf
          exact w_X7_findRests_77 C hr hlk X hI ih hk13 _ _ _ _ _ _ _ _ w (lv_sub hl [0, 1, 2, 3, 4] rfl) hf
        · rw [if_neg c34] at hf
          refine lv_iconst (v := 1) C.1 C.2.1 dX7_findRests_73 (by decide) ?_
          refine lv_goto (tgt := 78) C.1 C.2.1 dX7_findRests_74 (by decide) ?_
          exact w_X7_findRests_78 C hr hlk X hI ih hk13 _ _ _ _ _ _ _ _ _ w (lv_sub hl [0, 1, 2, 3, 4] rfl) hf
def qX7_findRests_13 : Nat → Hp → Int32 → Int32 → Int32 → Option (Hp)
  | 0, _, _, _, _ => none
  | n + 1, h, v1, v2, v3 =>
    (if (2 : Int32) ≤ v3 then (some h)
    else (qX7_findRests_21 (qX7_findRests_13 n) 600 h v1 v2 v3 (0 : Int32)))
set_option maxHeartbeats 4000000 in
set_option maxRecDepth 100000 in
theorem w_X7_findRests_13 {p : Program} {l : Launch} {e : Env} {s : State} {m : MethodId} {args : Array Value} {below : List Frame} {meth : Method} {c : Code} {E : Ev} {ad : Nat → Nat} {g : Gp} {h9 : Hp} (C : CallFix p m c cX7_findRests 6 s args lwA RX7) (hr : meth.sig.returnType = none) (hlk : meth.locks = false) (X : Sx E ad s) (hI : Inj ad)  : ∀ (n : Nat), ∀ (h : Hp) (v1 : Int32) (v2 : Int32) (v3 : Int32) (H : Heap) (locs : List Loc) (ls : Array Slot), At E ad h g s H locs → lv_has ls 6 [(0, .ref (ad 141)), (1, .int v1), (2, .int v2), (3, .int v3)] → qX7_findRests_13 n h v1 v2 v3 = some h9 → W p l e (RM 2 45) s m args below meth c H locs 0 0 (QV E ad h9 g below args s) (F0 m 13 ls []) := by
  intro n
  induction n with
  | zero =>
    intro h v1 v2 v3 H locs ls w hl hf
    cases hf
  | succ n ih =>
    intro h v1 v2 v3 H locs ls w hl hf
    rw [qX7_findRests_13] at hf
    refine lv_iload_n C.1 C.2.1 dX7_findRests_13 rfl (lv_at hl 3 rfl) ?_
    refine lv_iconst (v := 2) C.1 C.2.1 dX7_findRests_14 (by decide) ?_
    refine lv_icmp_ge (tgt := 141) C.1 C.2.1 dX7_findRests_15 (by decide) (fun c23 => ?_) (fun c23 => ?_)
    · rw [if_pos c23] at hf
      cases hf
      exact x_vret C hr hlk w dX7_findRests_141
    · rw [if_neg c23] at hf
      refine lv_iconst (v := 0) C.1 C.2.1 dX7_findRests_18 (by decide) ?_
      refine lv_istore (lv' := [(4, .int (0 : Int32)), (0, .ref (ad 141)), (1, .int v1), (2, .int v2), (3, .int v3)]) C.1 C.2.1 dX7_findRests_19 hl (by decide) rfl (fun ls hl => ?_)
      exact w_X7_findRests_21 C hr hlk X hI ih 600 _ _ _ _ _ _ _ _ w (lv_sub hl [1, 2, 3, 4, 0] rfl) hf
def qX7_findRests (h : Hp) (x1 : Int32) (x2 : Int32) : Option (Hp) :=
(bd (su h 33 (upd (h 33) 22 (0 : Int32))) (fun h21 =>
(bd (su h21 33 (upd (h21 33) 23 (-9 : Int32))) (fun h22 =>
(qX7_findRests_13 600 h22 x1 x2 (0 : Int32))))))
set_option maxHeartbeats 4000000 in
set_option maxRecDepth 100000 in
theorem c_X7_findRests {l : Launch} {E : Ev} {ad : Nat → Nat} {g : Gp} {h : Hp} {x1 : Int32} {x2 : Int32} {h9 : Hp} (hI : Inj ad) (hf : qX7_findRests h x1 x2 = some h9) : CtV l yX7_findRests cX7_findRests 6 none 2 45 E ad g g [.ref (ad 141), .int x1, .int x2] h h9 := by
  refine x_begin (by decide) (Nat.le_of_ble_eq_true rfl) ?_
  intro p e s m below meth c ls C hr hlk X w hl
  replace hl : lv_has ls 6 [(0, .ref (ad 141)), (1, .int x1), (2, .int x2)] := hl
  replace C : CallFix p m c cX7_findRests 6 s ([.ref (ad 141), .int x1, .int x2] : List Value).toArray lwA RX7 := C
  unfold qX7_findRests at hf
  refine lv_aload_n C.1 C.2.1 dX7_findRests_0 rfl (lv_at hl 0 rfl) ?_
  refine lv_iconst (v := 0) C.1 C.2.1 dX7_findRests_1 (by decide) ?_
  obtain ⟨h21, eh21, hf⟩ := bd_e hf
  refine pf_X7_198 C X hI w dX7_findRests_2 (fun H locs w => ?_)
  replace w := at_eq eh21 w
  refine lv_aload_n C.1 C.2.1 dX7_findRests_5 rfl (lv_at hl 0 rfl) ?_
  refine lv_bipush (v := -9) C.1 C.2.1 dX7_findRests_6 (by decide) ?_
  obtain ⟨h22, eh22, hf⟩ := bd_e hf
  refine pf_X7_201 C X hI w dX7_findRests_8 (fun H locs w => ?_)
  replace w := at_eq eh22 w
  refine lv_iconst (v := 0) C.1 C.2.1 dX7_findRests_11 (by decide) ?_
  refine lv_istore_n (lv' := [(3, .int (0 : Int32)), (0, .ref (ad 141)), (1, .int x1), (2, .int x2)]) C.1 C.2.1 dX7_findRests_12 rfl hl (by decide) rfl (fun ls hl => ?_)
  exact w_X7_findRests_13 C hr hlk X hI 600 _ _ _ _ _ _ _ w (lv_sub hl [1, 2, 3, 0] rfl) hf

def qX7_rests (h : Hp) (x1 : Int32) (x2 : Int32) (x3 : Int32) : Option (Int32 × Hp) :=
(bd (su h 33 (upd (h 33) 0 (0 : Int32))) (fun h21 =>
(bi1 (qX7_noChild (h21 33) x1) (fun r23 =>
(if r23 = 0 then (bi1 (qX7_noChild (h21 33) x2) (fun r26 =>
(if r26 = 0 then (if x1 = x2 then (some ((-2 : Int32), h21))
else (bi1 (qX7_in ((x3).toInt64) (0 : Int64) (1 : Int64)) (fun r30 =>
(if r30 = 0 then (some ((-2 : Int32), h21))
else (bi1 (qX7_findRests h21 x1 x2) (fun h34 =>
(if x3 = 0 then (some (((h34 33) 22), h34))
else (some (((h34 33) 23), h34)))))))))
else (some ((-1 : Int32), h21)))))
else (some ((-1 : Int32), h21)))))))
set_option maxHeartbeats 4000000 in
set_option maxRecDepth 100000 in
theorem c_X7_rests {l : Launch} {E : Ev} {ad : Nat → Nat} {g : Gp} {h : Hp} {x1 : Int32} {x2 : Int32} {x3 : Int32} {r : Int32} {h9 : Hp} (hI : Inj ad) (hf : qX7_rests h x1 x2 x3 = some (r, h9)) : CtI l yX7_rests cX7_rests 4 (some .int) 3 70 E ad g g [.ref (ad 141), .int x1, .int x2, .int x3] h h9 r := by
  refine x_begin (by decide) (Nat.le_of_ble_eq_true rfl) ?_
  intro p e s m below meth c ls C hr hlk X w hl
  replace hl : lv_has ls 4 [(0, .ref (ad 141)), (1, .int x1), (2, .int x2), (3, .int x3)] := hl
  replace C : CallFix p m c cX7_rests 4 s ([.ref (ad 141), .int x1, .int x2, .int x3] : List Value).toArray lwA RX7 := C
  unfold qX7_rests at hf
  refine lv_aload_n C.1 C.2.1 dX7_rests_0 rfl (lv_at hl 0 rfl) ?_
  refine lv_iconst (v := 0) C.1 C.2.1 dX7_rests_1 (by decide) ?_
  obtain ⟨h21, eh21, hf⟩ := bd_e hf
  refine pf_X7_51 C X hI w dX7_rests_2 (fun H locs w => ?_)
  replace w := at_eq eh21 w
  refine lv_aload_n C.1 C.2.1 dX7_rests_5 rfl (lv_at hl 0 rfl) ?_
  refine lv_iload_n C.1 C.2.1 dX7_rests_6 rfl (lv_at hl 1 rfl) ?_
  obtain ⟨r23, eq22, hf⟩ := bi1_e hf
  refine x_cVi (As := [.int x1]) (rest := []) C X w (c_X7_noChild hI (rfl) eq22) mw_X7_noChild ml_X7_140 rcv_r33 rfl hl.1 rfl (Nat.le_of_ble_eq_true rfl) ⟨⟨Nat.le_of_ble_eq_true rfl, Nat.le_of_ble_eq_true rfl⟩, Nat.le_of_ble_eq_true rfl, Nat.le_of_ble_eq_true rfl⟩ dX7_rests_7 (fun H locs w => ?_)
  refine lv_if_ne (tgt := 21) C.1 C.2.1 dX7_rests_10 (by decide) (fun c24 => ?_) (fun c24 => ?_)
  · rw [if_neg c24] at hf
    refine lv_iconst (v := -1) C.1 C.2.1 dX7_rests_21 (by decide) ?_
    cases hf
    exact x_iret C hr hlk w dX7_rests_22
  · rw [if_pos c24] at hf
    refine lv_aload_n C.1 C.2.1 dX7_rests_13 rfl (lv_at hl 0 rfl) ?_
    refine lv_iload_n C.1 C.2.1 dX7_rests_14 rfl (lv_at hl 2 rfl) ?_
    obtain ⟨r26, eq25, hf⟩ := bi1_e hf
    refine x_cVi (As := [.int x2]) (rest := []) C X w (c_X7_noChild hI (rfl) eq25) mw_X7_noChild ml_X7_140 rcv_r33 rfl hl.1 rfl (Nat.le_of_ble_eq_true rfl) ⟨⟨Nat.le_of_ble_eq_true rfl, Nat.le_of_ble_eq_true rfl⟩, Nat.le_of_ble_eq_true rfl, Nat.le_of_ble_eq_true rfl⟩ dX7_rests_15 (fun H locs w => ?_)
    refine lv_if_eq (tgt := 23) C.1 C.2.1 dX7_rests_18 (by decide) (fun c27 => ?_) (fun c27 => ?_)
    · rw [if_pos c27] at hf
      refine lv_iload_n C.1 C.2.1 dX7_rests_23 rfl (lv_at hl 1 rfl) ?_
      refine lv_iload_n C.1 C.2.1 dX7_rests_24 rfl (lv_at hl 2 rfl) ?_
      refine lv_icmp_eq (tgt := 38) C.1 C.2.1 dX7_rests_25 (by decide) (fun c28 => ?_) (fun c28 => ?_)
      · rw [if_pos c28] at hf
        refine lv_bipush (v := -2) C.1 C.2.1 dX7_rests_38 (by decide) ?_
        cases hf
        exact x_iret C hr hlk w dX7_rests_40
      · rw [if_neg c28] at hf
        refine lv_iload_n C.1 C.2.1 dX7_rests_28 rfl (lv_at hl 3 rfl) ?_
        refine lv_i2l (v := (x3).toInt64) C.1 C.2.1 dX7_rests_29 rfl ?_
        refine lv_lconst (v := 0) C.1 C.2.1 dX7_rests_30 (by decide) ?_
        refine lv_lconst (v := 1) C.1 C.2.1 dX7_rests_31 (by decide) ?_
        obtain ⟨r30, eq29, hf⟩ := bi1_e hf
        refine x_cSi (As := [.long ((x3).toInt64), .long (0 : Int64), .long (1 : Int64)]) (rest := []) C X w (c_X7_in hI  eq29) mw_X7_in ml_X7_57 rfl hl.1 rfl (Nat.le_of_ble_eq_true rfl) ⟨⟨Nat.le_of_ble_eq_true rfl, Nat.le_of_ble_eq_true rfl⟩, Nat.le_of_ble_eq_true rfl, Nat.le_of_ble_eq_true rfl⟩ dX7_rests_32 (fun H locs w => ?_)
        refine lv_if_ne (tgt := 41) C.1 C.2.1 dX7_rests_35 (by decide) (fun c31 => ?_) (fun c31 => ?_)
        · rw [if_neg c31] at hf
          refine lv_aload_n C.1 C.2.1 dX7_rests_41 rfl (lv_at hl 0 rfl) ?_
          refine lv_iload_n C.1 C.2.1 dX7_rests_42 rfl (lv_at hl 1 rfl) ?_
          refine lv_iload_n C.1 C.2.1 dX7_rests_43 rfl (lv_at hl 2 rfl) ?_
          obtain ⟨h34, eq32, hf⟩ := bi1_e hf
          refine x_cVv (As := [.int x1, .int x2]) (rest := []) C X w (c_X7_findRests hI eq32) mw_X7_findRests ml_X7_208 rcv_r33 rfl hl.1 rfl (Nat.le_of_ble_eq_true rfl) ⟨⟨Nat.le_of_ble_eq_true rfl, Nat.le_of_ble_eq_true rfl⟩, Nat.le_of_ble_eq_true rfl, Nat.le_of_ble_eq_true rfl⟩ dX7_rests_44 (fun H locs w => ?_)
          refine lv_iload_n C.1 C.2.1 dX7_rests_47 rfl (lv_at hl 3 rfl) ?_
          refine lv_if_ne (tgt := 58) C.1 C.2.1 dX7_rests_48 (by decide) (fun c35 => ?_) (fun c35 => ?_)
          · rw [if_neg c35] at hf
            refine lv_aload_n C.1 C.2.1 dX7_rests_58 rfl (lv_at hl 0 rfl) ?_
            refine gf_X7_201 C X w (rfl) dX7_rests_59 ?_
            cases hf
            exact x_iret C hr hlk w dX7_rests_62
          · rw [if_pos c35] at hf
            refine lv_aload_n C.1 C.2.1 dX7_rests_51 rfl (lv_at hl 0 rfl) ?_
            refine gf_X7_198 C X w (rfl) dX7_rests_52 ?_
            refine lv_goto (tgt := 62) C.1 C.2.1 dX7_rests_55 (by decide) ?_
            cases hf
            exact x_iret C hr hlk w dX7_rests_62
        · rw [if_pos c31] at hf
          refine lv_bipush (v := -2) C.1 C.2.1 dX7_rests_38 (by decide) ?_
          cases hf
          exact x_iret C hr hlk w dX7_rests_40
    · rw [if_neg c27] at hf
      refine lv_iconst (v := -1) C.1 C.2.1 dX7_rests_21 (by decide) ?_
      cases hf
      exact x_iret C hr hlk w dX7_rests_22

def qX7_chance_129 (k66 : Hp → Int32 → Int32 → Int32 → Int32 → Int32 → Int32 → Int32 → Int32 → Option (Int32 × Hp)) (k48 : Hp → Int32 → Int32 → Int32 → Int32 → Int32 → Int32 → Option (Int32 × Hp)) (h : Hp) (v1 : Int32) (v2 : Int32) (v3 : Int32) (v4 : Int32) (v5 : Int32) (v6 : Int32) (v8 : Int32) (s0 : Int32) (s1 : Int32) : Option (Int32 × Hp) :=
(bi1 (qX7_goMinute (h 33) (h 35) (h 36) (h 39)) (fun P56 =>
(bd (su h 39 P56) (fun h57 =>
(k66 h57 v1 v2 v3 v4 v5 v6 (s0 * s1) (v8 + 1))))))
set_option maxHeartbeats 4000000 in
set_option maxRecDepth 100000 in
theorem w_X7_chance_129 {p : Program} {l : Launch} {e : Env} {s : State} {m : MethodId} {args : Array Value} {below : List Frame} {meth : Method} {c : Code} {E : Ev} {ad : Nat → Nat} {g : Gp} {r : Int32} {h9 : Hp} {k66 : Hp → Int32 → Int32 → Int32 → Int32 → Int32 → Int32 → Int32 → Int32 → Option (Int32 × Hp)} {k48 : Hp → Int32 → Int32 → Int32 → Int32 → Int32 → Int32 → Option (Int32 × Hp)} (C : CallFix p m c cX7_chance 10 s args lwA RX7) (hr : meth.sig.returnType = (some .int)) (hlk : meth.locks = false) (X : Sx E ad s) (hI : Inj ad) (hk66 : ∀ (h : Hp) (v1 : Int32) (v2 : Int32) (v3 : Int32) (v4 : Int32) (v5 : Int32) (v6 : Int32) (v7 : Int32) (v8 : Int32) (H : Heap) (locs : List Loc) (ls : Array Slot), At E ad h g s H locs → lv_has ls 10 [(0, .ref (ad 141)), (1, .int v1), (2, .int v2), (3, .int v3), (4, .int v4), (5, .int v5), (6, .int v6), (7, .int v7), (8, .int v8)] → k66 h v1 v2 v3 v4 v5 v6 v7 v8 = some (r, h9) → W p l e (RM 6 140) s m args below meth c H locs 0 0 (QI E ad h9 g r below args s) (F0 m 66 ls [])) (hk48 : ∀ (h : Hp) (v1 : Int32) (v2 : Int32) (v3 : Int32) (v4 : Int32) (v5 : Int32) (v6 : Int32) (H : Heap) (locs : List Loc) (ls : Array Slot), At E ad h g s H locs → lv_has ls 10 [(0, .ref (ad 141)), (1, .int v1), (2, .int v2), (3, .int v3), (4, .int v4), (5, .int v5), (6, .int v6)] → k48 h v1 v2 v3 v4 v5 v6 = some (r, h9) → W p l e (RM 6 140) s m args below meth c H locs 0 0 (QI E ad h9 g r below args s) (F0 m 48 ls [])) : ∀ (h : Hp) (v1 : Int32) (v2 : Int32) (v3 : Int32) (v4 : Int32) (v5 : Int32) (v6 : Int32) (v8 : Int32) (s0 : Int32) (s1 : Int32) (H : Heap) (locs : List Loc) (ls : Array Slot), At E ad h g s H locs → lv_has ls 10 [(0, .ref (ad 141)), (1, .int v1), (2, .int v2), (3, .int v3), (4, .int v4), (5, .int v5), (6, .int v6), (8, .int v8)] → qX7_chance_129 k66 k48 h v1 v2 v3 v4 v5 v6 v8 s0 s1 = some (r, h9) → W p l e (RM 6 140) s m args below meth c H locs 0 0 (QI E ad h9 g r below args s) (F0 m 129 ls [.int s1, .int s0]) := by
  intro h v1 v2 v3 v4 v5 v6 v8 s0 s1 H locs ls w hl hf
  unfold qX7_chance_129 at hf
  refine lv_imul C.1 C.2.1 dX7_chance_129 ?_
  refine lv_istore (lv' := [(7, .int (s0 * s1)), (0, .ref (ad 141)), (1, .int v1), (2, .int v2), (3, .int v3), (4, .int v4), (5, .int v5), (6, .int v6), (8, .int v8)]) C.1 C.2.1 dX7_chance_130 hl (by decide) rfl (fun ls hl => ?_)
  refine lv_aload_n C.1 C.2.1 dX7_chance_132 rfl (lv_at hl 1 rfl) ?_
  refine lv_aload_n C.1 C.2.1 dX7_chance_133 rfl (lv_at hl 1 rfl) ?_
  refine gf_X7_29 C X w rfl dX7_chance_134 ?_
  obtain ⟨P56, eq54, hf⟩ := bi1_e hf
  obtain ⟨h57, eh57, hf⟩ := bd_e hf
  refine x_cVv (As := [.ref (ad 147)]) (rest := []) C X (at_su 39 w) (c_X7_goMinute hI (Or.inr rfl) eq54) mw_X7_goMinute ml_X7_147 rcv_r33 rfl hl.1 rfl (Nat.le_of_ble_eq_true rfl) ⟨⟨Nat.le_of_ble_eq_true rfl, Nat.le_of_ble_eq_true rfl⟩, Nat.le_of_ble_eq_true rfl, Nat.le_of_ble_eq_true rfl⟩ dX7_chance_137 (fun H locs w => ?_)
  replace w := at_eq eh57 w
  refine lv_iinc (v := (v8 + 1)) (lv' := [(8, .int (v8 + 1)), (7, .int (s0 * s1)), (0, .ref (ad 141)), (1, .int v1), (2, .int v2), (3, .int v3), (4, .int v4), (5, .int v5), (6, .int v6)]) C.1 C.2.1 dX7_chance_140 hl (k := 8) rfl (congrArg (fun z => v8 + z) (by decide)) (by decide) rfl (fun ls hl => ?_)
  refine lv_goto (tgt := 66) C.1 C.2.1 dX7_chance_143 (by decide) ?_
  exact hk66 _ _ _ _ _ _ _ _ _ _ _ _ w (lv_sub hl [2, 3, 4, 5, 6, 7, 8, 1, 0] rfl) hf
def qX7_chance_109 (k66 : Hp → Int32 → Int32 → Int32 → Int32 → Int32 → Int32 → Int32 → Int32 → Option (Int32 × Hp)) (k48 : Hp → Int32 → Int32 → Int32 → Int32 → Int32 → Int32 → Option (Int32 × Hp)) (h : Hp) (v1 : Int32) (v2 : Int32) (v3 : Int32) (v4 : Int32) (v5 : Int32) (v6 : Int32) (v7 : Int32) (v8 : Int32) : Option (Int32 × Hp) :=
(bi1 (qX7_has v6 v8) (fun r52 =>
(if r52 = 0 then (qX7_chance_129 k66 k48 h v1 v2 v3 v4 v5 v6 v8 v7 ((10 : Int32) - v3))
else (qX7_chance_129 k66 k48 h v1 v2 v3 v4 v5 v6 v8 v7 v3))))
set_option maxHeartbeats 4000000 in
set_option maxRecDepth 100000 in
theorem w_X7_chance_109 {p : Program} {l : Launch} {e : Env} {s : State} {m : MethodId} {args : Array Value} {below : List Frame} {meth : Method} {c : Code} {E : Ev} {ad : Nat → Nat} {g : Gp} {r : Int32} {h9 : Hp} {k66 : Hp → Int32 → Int32 → Int32 → Int32 → Int32 → Int32 → Int32 → Int32 → Option (Int32 × Hp)} {k48 : Hp → Int32 → Int32 → Int32 → Int32 → Int32 → Int32 → Option (Int32 × Hp)} (C : CallFix p m c cX7_chance 10 s args lwA RX7) (hr : meth.sig.returnType = (some .int)) (hlk : meth.locks = false) (X : Sx E ad s) (hI : Inj ad) (hk66 : ∀ (h : Hp) (v1 : Int32) (v2 : Int32) (v3 : Int32) (v4 : Int32) (v5 : Int32) (v6 : Int32) (v7 : Int32) (v8 : Int32) (H : Heap) (locs : List Loc) (ls : Array Slot), At E ad h g s H locs → lv_has ls 10 [(0, .ref (ad 141)), (1, .int v1), (2, .int v2), (3, .int v3), (4, .int v4), (5, .int v5), (6, .int v6), (7, .int v7), (8, .int v8)] → k66 h v1 v2 v3 v4 v5 v6 v7 v8 = some (r, h9) → W p l e (RM 6 140) s m args below meth c H locs 0 0 (QI E ad h9 g r below args s) (F0 m 66 ls [])) (hk48 : ∀ (h : Hp) (v1 : Int32) (v2 : Int32) (v3 : Int32) (v4 : Int32) (v5 : Int32) (v6 : Int32) (H : Heap) (locs : List Loc) (ls : Array Slot), At E ad h g s H locs → lv_has ls 10 [(0, .ref (ad 141)), (1, .int v1), (2, .int v2), (3, .int v3), (4, .int v4), (5, .int v5), (6, .int v6)] → k48 h v1 v2 v3 v4 v5 v6 = some (r, h9) → W p l e (RM 6 140) s m args below meth c H locs 0 0 (QI E ad h9 g r below args s) (F0 m 48 ls [])) : ∀ (h : Hp) (v1 : Int32) (v2 : Int32) (v3 : Int32) (v4 : Int32) (v5 : Int32) (v6 : Int32) (v7 : Int32) (v8 : Int32) (H : Heap) (locs : List Loc) (ls : Array Slot), At E ad h g s H locs → lv_has ls 10 [(0, .ref (ad 141)), (1, .int v1), (2, .int v2), (3, .int v3), (4, .int v4), (5, .int v5), (6, .int v6), (7, .int v7), (8, .int v8)] → qX7_chance_109 k66 k48 h v1 v2 v3 v4 v5 v6 v7 v8 = some (r, h9) → W p l e (RM 6 140) s m args below meth c H locs 0 0 (QI E ad h9 g r below args s) (F0 m 109 ls []) := by
  intro h v1 v2 v3 v4 v5 v6 v7 v8 H locs ls w hl hf
  unfold qX7_chance_109 at hf
  refine lv_iload C.1 C.2.1 dX7_chance_109 (lv_at hl 7 rfl) ?_
  refine lv_iload C.1 C.2.1 dX7_chance_111 (lv_at hl 6 rfl) ?_
  refine lv_iload C.1 C.2.1 dX7_chance_113 (lv_at hl 8 rfl) ?_
  obtain ⟨r52, eq51, hf⟩ := bi1_e hf
  refine x_cSi (As := [.int v6, .int v8]) (rest := [.int v7]) C X w (c_X7_has hI  eq51) mw_X7_has ml_X7_99 rfl hl.1 rfl (Nat.le_of_ble_eq_true rfl) ⟨⟨Nat.le_of_ble_eq_true rfl, Nat.le_of_ble_eq_true rfl⟩, Nat.le_of_ble_eq_true rfl, Nat.le_of_ble_eq_true rfl⟩ dX7_chance_115 (fun H locs w => ?_)
  refine lv_if_eq (tgt := 125) C.1 C.2.1 dX7_chance_118 (by decide) (fun c53 => ?_) (fun c53 => ?_)
  · rw [if_pos c53] at hf
    refine lv_bipush (v := 10) C.1 C.2.1 dX7_chance_125 (by decide) ?_
    refine lv_iload_n C.1 C.2.1 dX7_chance_127 rfl (lv_at hl 3 rfl) ?_
    refine lv_isub C.1 C.2.1 dX7_chance_128 ?_
    exact w_X7_chance_129 C hr hlk X hI hk66 hk48 _ _ _ _ _ _ _ _ _ _ _ _ _ w (lv_sub hl [0, 1, 2, 3, 4, 5, 6, 8] rfl) hf
  · rw [if_neg c53] at hf
    refine lv_iload_n C.1 C.2.1 dX7_chance_121 rfl (lv_at hl 3 rfl) ?_
    refine lv_goto (tgt := 129) C.1 C.2.1 dX7_chance_122 (by decide) ?_
    exact w_X7_chance_129 C hr hlk X hI hk66 hk48 _ _ _ _ _ _ _ _ _ _ _ _ _ w (lv_sub hl [0, 1, 2, 3, 4, 5, 6, 8] rfl) hf
def qX7_chance_75 (k66 : Hp → Int32 → Int32 → Int32 → Int32 → Int32 → Int32 → Int32 → Int32 → Option (Int32 × Hp)) (k48 : Hp → Int32 → Int32 → Int32 → Int32 → Int32 → Int32 → Option (Int32 × Hp)) : Nat → Hp → Int32 → Int32 → Int32 → Int32 → Int32 → Int32 → Int32 → Int32 → Int32 → Option (Int32 × Hp)
  | 0, _, _, _, _, _, _, _, _, _, _ => none
  | n + 1, h, v1, v2, v3, v4, v5, v6, v7, v8, v9 =>
    (if ((h 33) 4) ≤ v9 then (qX7_chance_109 k66 k48 h v1 v2 v3 v4 v5 v6 v7 v8)
    else (bi1 (qX7_has v6 v8) (fun r45 =>
    (if r45 = 0 then (qX7_chance_109 k66 k48 h v1 v2 v3 v4 v5 v6 v7 v8)
    else (bi1 (qX7_getOff (h 39) v9) (fun P49 =>
    (bd (su h 39 P49) (fun h50 =>
    (qX7_chance_75 k66 k48 n h50 v1 v2 v3 v4 v5 v6 v7 v8 (v9 + 1))))))))))
set_option maxHeartbeats 4000000 in
set_option maxRecDepth 100000 in
theorem w_X7_chance_75 {p : Program} {l : Launch} {e : Env} {s : State} {m : MethodId} {args : Array Value} {below : List Frame} {meth : Method} {c : Code} {E : Ev} {ad : Nat → Nat} {g : Gp} {r : Int32} {h9 : Hp} {k66 : Hp → Int32 → Int32 → Int32 → Int32 → Int32 → Int32 → Int32 → Int32 → Option (Int32 × Hp)} {k48 : Hp → Int32 → Int32 → Int32 → Int32 → Int32 → Int32 → Option (Int32 × Hp)} (C : CallFix p m c cX7_chance 10 s args lwA RX7) (hr : meth.sig.returnType = (some .int)) (hlk : meth.locks = false) (X : Sx E ad s) (hI : Inj ad) (hk66 : ∀ (h : Hp) (v1 : Int32) (v2 : Int32) (v3 : Int32) (v4 : Int32) (v5 : Int32) (v6 : Int32) (v7 : Int32) (v8 : Int32) (H : Heap) (locs : List Loc) (ls : Array Slot), At E ad h g s H locs → lv_has ls 10 [(0, .ref (ad 141)), (1, .int v1), (2, .int v2), (3, .int v3), (4, .int v4), (5, .int v5), (6, .int v6), (7, .int v7), (8, .int v8)] → k66 h v1 v2 v3 v4 v5 v6 v7 v8 = some (r, h9) → W p l e (RM 6 140) s m args below meth c H locs 0 0 (QI E ad h9 g r below args s) (F0 m 66 ls [])) (hk48 : ∀ (h : Hp) (v1 : Int32) (v2 : Int32) (v3 : Int32) (v4 : Int32) (v5 : Int32) (v6 : Int32) (H : Heap) (locs : List Loc) (ls : Array Slot), At E ad h g s H locs → lv_has ls 10 [(0, .ref (ad 141)), (1, .int v1), (2, .int v2), (3, .int v3), (4, .int v4), (5, .int v5), (6, .int v6)] → k48 h v1 v2 v3 v4 v5 v6 = some (r, h9) → W p l e (RM 6 140) s m args below meth c H locs 0 0 (QI E ad h9 g r below args s) (F0 m 48 ls [])) : ∀ (n : Nat), ∀ (h : Hp) (v1 : Int32) (v2 : Int32) (v3 : Int32) (v4 : Int32) (v5 : Int32) (v6 : Int32) (v7 : Int32) (v8 : Int32) (v9 : Int32) (H : Heap) (locs : List Loc) (ls : Array Slot), At E ad h g s H locs → lv_has ls 10 [(0, .ref (ad 141)), (1, .int v1), (2, .int v2), (3, .int v3), (4, .int v4), (5, .int v5), (6, .int v6), (7, .int v7), (8, .int v8), (9, .int v9)] → qX7_chance_75 k66 k48 n h v1 v2 v3 v4 v5 v6 v7 v8 v9 = some (r, h9) → W p l e (RM 6 140) s m args below meth c H locs 0 0 (QI E ad h9 g r below args s) (F0 m 75 ls []) := by
  intro n
  induction n with
  | zero =>
    intro h v1 v2 v3 v4 v5 v6 v7 v8 v9 H locs ls w hl hf
    cases hf
  | succ n ih =>
    intro h v1 v2 v3 v4 v5 v6 v7 v8 v9 H locs ls w hl hf
    rw [qX7_chance_75] at hf
    refine lv_iload C.1 C.2.1 dX7_chance_75 (lv_at hl 9 rfl) ?_
    refine lv_aload_n C.1 C.2.1 dX7_chance_77 rfl (lv_at hl 0 rfl) ?_
    refine gf_X7_54 C X w (rfl) dX7_chance_78 ?_
    refine lv_icmp_ge (tgt := 109) C.1 C.2.1 dX7_chance_81 (by decide) (fun c43 => ?_) (fun c43 => ?_)
    · rw [if_pos c43] at hf
      exact w_X7_chance_109 C hr hlk X hI hk66 hk48 _ _ _ _ _ _ _ _ _ _ _ _ w (lv_sub hl [0, 1, 2, 3, 4, 5, 6, 7, 8] rfl) hf
    · rw [if_neg c43] at hf
      refine lv_iload C.1 C.2.1 dX7_chance_84 (lv_at hl 6 rfl) ?_
      refine lv_iload C.1 C.2.1 dX7_chance_86 (lv_at hl 8 rfl) ?_
      obtain ⟨r45, eq44, hf⟩ := bi1_e hf
      refine x_cSi (As := [.int v6, .int v8]) (rest := []) C X w (c_X7_has hI  eq44) mw_X7_has ml_X7_99 rfl hl.1 rfl (Nat.le_of_ble_eq_true rfl) ⟨⟨Nat.le_of_ble_eq_true rfl, Nat.le_of_ble_eq_true rfl⟩, Nat.le_of_ble_eq_true rfl, Nat.le_of_ble_eq_true rfl⟩ dX7_chance_88 (fun H locs w => ?_)
      refine lv_if_eq (tgt := 109) C.1 C.2.1 dX7_chance_91 (by decide) (fun c46 => ?_) (fun c46 => ?_)
      · rw [if_pos c46] at hf
        exact w_X7_chance_109 C hr hlk X hI hk66 hk48 _ _ _ _ _ _ _ _ _ _ _ _ w (lv_sub hl [0, 1, 2, 3, 4, 5, 6, 7, 8] rfl) hf
      · rw [if_neg c46] at hf
        refine lv_aload_n C.1 C.2.1 dX7_chance_94 rfl (lv_at hl 0 rfl) ?_
        refine gf_X7_29 C X w rfl dX7_chance_95 ?_
        refine lv_iload C.1 C.2.1 dX7_chance_98 (lv_at hl 9 rfl) ?_
        obtain ⟨P49, eq47, hf⟩ := bi1_e hf
        obtain ⟨h50, eh50, hf⟩ := bd_e hf
        refine x_cSv (As := [.ref (ad 147), .int v9]) (rest := []) C X (at_su 39 w) (c_X7_getOff hI (Or.inr rfl) eq47) mw_X7_getOff ml_X7_121 rfl hl.1 rfl (Nat.le_of_ble_eq_true rfl) ⟨⟨Nat.le_of_ble_eq_true rfl, Nat.le_of_ble_eq_true rfl⟩, Nat.le_of_ble_eq_true rfl, Nat.le_of_ble_eq_true rfl⟩ dX7_chance_100 (fun H locs w => ?_)
        replace w := at_eq eh50 w
        refine lv_iinc (v := (v9 + 1)) (lv' := [(9, .int (v9 + 1)), (0, .ref (ad 141)), (1, .int v1), (2, .int v2), (3, .int v3), (4, .int v4), (5, .int v5), (6, .int v6), (7, .int v7), (8, .int v8)]) C.1 C.2.1 dX7_chance_103 hl (k := 9) rfl (congrArg (fun z => v9 + z) (by decide)) (by decide) rfl (fun ls hl => ?_)
        refine lv_goto (tgt := 75) C.1 C.2.1 dX7_chance_106 (by decide) ?_
        exact ih _ _ _ _ _ _ _ _ _ _ _ _ _ w (lv_sub hl [1, 2, 3, 4, 5, 6, 7, 8, 9, 0] rfl) hf
def qX7_chance_168 (k48 : Hp → Int32 → Int32 → Int32 → Int32 → Int32 → Int32 → Option (Int32 × Hp)) (h : Hp) (v1 : Int32) (v2 : Int32) (v3 : Int32) (v4 : Int32) (v6 : Int32) (s0 : Int32) (s1 : Int32) : Option (Int32 × Hp) :=
(k48 h v1 v2 v3 v4 (s0 + s1) (v6 + 1))
set_option maxHeartbeats 4000000 in
set_option maxRecDepth 100000 in
theorem w_X7_chance_168 {p : Program} {l : Launch} {e : Env} {s : State} {m : MethodId} {args : Array Value} {below : List Frame} {meth : Method} {c : Code} {E : Ev} {ad : Nat → Nat} {g : Gp} {r : Int32} {h9 : Hp} {k48 : Hp → Int32 → Int32 → Int32 → Int32 → Int32 → Int32 → Option (Int32 × Hp)} (C : CallFix p m c cX7_chance 10 s args lwA RX7) (hr : meth.sig.returnType = (some .int)) (hlk : meth.locks = false) (X : Sx E ad s) (hI : Inj ad) (hk48 : ∀ (h : Hp) (v1 : Int32) (v2 : Int32) (v3 : Int32) (v4 : Int32) (v5 : Int32) (v6 : Int32) (H : Heap) (locs : List Loc) (ls : Array Slot), At E ad h g s H locs → lv_has ls 10 [(0, .ref (ad 141)), (1, .int v1), (2, .int v2), (3, .int v3), (4, .int v4), (5, .int v5), (6, .int v6)] → k48 h v1 v2 v3 v4 v5 v6 = some (r, h9) → W p l e (RM 6 140) s m args below meth c H locs 0 0 (QI E ad h9 g r below args s) (F0 m 48 ls [])) : ∀ (h : Hp) (v1 : Int32) (v2 : Int32) (v3 : Int32) (v4 : Int32) (v6 : Int32) (s0 : Int32) (s1 : Int32) (H : Heap) (locs : List Loc) (ls : Array Slot), At E ad h g s H locs → lv_has ls 10 [(0, .ref (ad 141)), (1, .int v1), (2, .int v2), (3, .int v3), (4, .int v4), (6, .int v6)] → qX7_chance_168 k48 h v1 v2 v3 v4 v6 s0 s1 = some (r, h9) → W p l e (RM 6 140) s m args below meth c H locs 0 0 (QI E ad h9 g r below args s) (F0 m 168 ls [.int s1, .int s0]) := by
  intro h v1 v2 v3 v4 v6 s0 s1 H locs ls w hl hf
  unfold qX7_chance_168 at hf
  refine lv_iadd C.1 C.2.1 dX7_chance_168 ?_
  refine lv_istore (lv' := [(5, .int (s0 + s1)), (0, .ref (ad 141)), (1, .int v1), (2, .int v2), (3, .int v3), (4, .int v4), (6, .int v6)]) C.1 C.2.1 dX7_chance_169 hl (by decide) rfl (fun ls hl => ?_)
  refine lv_iinc (v := (v6 + 1)) (lv' := [(6, .int (v6 + 1)), (5, .int (s0 + s1)), (0, .ref (ad 141)), (1, .int v1), (2, .int v2), (3, .int v3), (4, .int v4)]) C.1 C.2.1 dX7_chance_171 hl (k := 6) rfl (congrArg (fun z => v6 + z) (by decide)) (by decide) rfl (fun ls hl => ?_)
  refine lv_goto (tgt := 48) C.1 C.2.1 dX7_chance_174 (by decide) ?_
  exact hk48 _ _ _ _ _ _ _ _ _ _ w (lv_sub hl [2, 3, 4, 5, 6, 1, 0] rfl) hf
def qX7_chance_66 (k48 : Hp → Int32 → Int32 → Int32 → Int32 → Int32 → Int32 → Option (Int32 × Hp)) : Nat → Hp → Int32 → Int32 → Int32 → Int32 → Int32 → Int32 → Int32 → Int32 → Option (Int32 × Hp)
  | 0, _, _, _, _, _, _, _, _, _ => none
  | n + 1, h, v1, v2, v3, v4, v5, v6, v7, v8 =>
    (if v2 ≤ v8 then (bi1 (qX7_has ((h 39) 30) v1) (fun r41 =>
    (if r41 = 0 then (qX7_chance_168 k48 h v1 v2 v3 v4 v6 v5 (0 : Int32))
    else (qX7_chance_168 k48 h v1 v2 v3 v4 v6 v5 v7))))
    else (qX7_chance_75 (qX7_chance_66 k48 n) k48 600 h v1 v2 v3 v4 v5 v6 v7 v8 (0 : Int32)))
set_option maxHeartbeats 4000000 in
set_option maxRecDepth 100000 in
theorem w_X7_chance_66 {p : Program} {l : Launch} {e : Env} {s : State} {m : MethodId} {args : Array Value} {below : List Frame} {meth : Method} {c : Code} {E : Ev} {ad : Nat → Nat} {g : Gp} {r : Int32} {h9 : Hp} {k48 : Hp → Int32 → Int32 → Int32 → Int32 → Int32 → Int32 → Option (Int32 × Hp)} (C : CallFix p m c cX7_chance 10 s args lwA RX7) (hr : meth.sig.returnType = (some .int)) (hlk : meth.locks = false) (X : Sx E ad s) (hI : Inj ad) (hk48 : ∀ (h : Hp) (v1 : Int32) (v2 : Int32) (v3 : Int32) (v4 : Int32) (v5 : Int32) (v6 : Int32) (H : Heap) (locs : List Loc) (ls : Array Slot), At E ad h g s H locs → lv_has ls 10 [(0, .ref (ad 141)), (1, .int v1), (2, .int v2), (3, .int v3), (4, .int v4), (5, .int v5), (6, .int v6)] → k48 h v1 v2 v3 v4 v5 v6 = some (r, h9) → W p l e (RM 6 140) s m args below meth c H locs 0 0 (QI E ad h9 g r below args s) (F0 m 48 ls [])) : ∀ (n : Nat), ∀ (h : Hp) (v1 : Int32) (v2 : Int32) (v3 : Int32) (v4 : Int32) (v5 : Int32) (v6 : Int32) (v7 : Int32) (v8 : Int32) (H : Heap) (locs : List Loc) (ls : Array Slot), At E ad h g s H locs → lv_has ls 10 [(0, .ref (ad 141)), (1, .int v1), (2, .int v2), (3, .int v3), (4, .int v4), (5, .int v5), (6, .int v6), (7, .int v7), (8, .int v8)] → qX7_chance_66 k48 n h v1 v2 v3 v4 v5 v6 v7 v8 = some (r, h9) → W p l e (RM 6 140) s m args below meth c H locs 0 0 (QI E ad h9 g r below args s) (F0 m 66 ls []) := by
  intro n
  induction n with
  | zero =>
    intro h v1 v2 v3 v4 v5 v6 v7 v8 H locs ls w hl hf
    cases hf
  | succ n ih =>
    intro h v1 v2 v3 v4 v5 v6 v7 v8 H locs ls w hl hf
    rw [qX7_chance_66] at hf
    refine lv_iload C.1 C.2.1 dX7_chance_66 (lv_at hl 8 rfl) ?_
    refine lv_iload_n C.1 C.2.1 dX7_chance_68 rfl (lv_at hl 2 rfl) ?_
    refine lv_icmp_ge (tgt := 146) C.1 C.2.1 dX7_chance_69 (by decide) (fun c39 => ?_) (fun c39 => ?_)
    · rw [if_pos c39] at hf
      refine lv_iload C.1 C.2.1 dX7_chance_146 (lv_at hl 5 rfl) ?_
      refine lv_aload_n C.1 C.2.1 dX7_chance_148 rfl (lv_at hl 0 rfl) ?_
      refine gf_X7_29 C X w rfl dX7_chance_149 ?_
      refine lv_bipush (v := 30) C.1 C.2.1 dX7_chance_152 (by decide) ?_
      refine x_ild (v := (h 39) 30) C X w (wl_r39 (rfl)) (by decide) (congrArg _ (show (30 : Int32).toNatClampNeg = 30 by decide)) dX7_chance_154 ?_
      refine lv_iload_n C.1 C.2.1 dX7_chance_155 rfl (lv_at hl 1 rfl) ?_
      obtain ⟨r41, eq40, hf⟩ := bi1_e hf
      refine x_cSi (As := [.int ((h 39) 30), .int v1]) (rest := [.int v5]) C X w (c_X7_has hI  eq40) mw_X7_has ml_X7_99 rfl hl.1 rfl (Nat.le_of_ble_eq_true rfl) ⟨⟨Nat.le_of_ble_eq_true rfl, Nat.le_of_ble_eq_true rfl⟩, Nat.le_of_ble_eq_true rfl, Nat.le_of_ble_eq_true rfl⟩ dX7_chance_156 (fun H locs w => ?_)
      refine lv_if_eq (tgt := 167) C.1 C.2.1 dX7_chance_159 (by decide) (fun c42 => ?_) (fun c42 => ?_)
      · rw [if_pos c42] at hf
        refine lv_iconst (v := 0) C.1 C.2.1 dX7_chance_167 (by decide) ?_
        exact w_X7_chance_168 C hr hlk X hI hk48 _ _ _ _ _ _ _ _ _ _ _ w (lv_sub hl [0, 1, 2, 3, 4, 6] rfl) hf
      · rw [if_neg c42] at hf
        refine lv_iload C.1 C.2.1 dX7_chance_162 (lv_at hl 7 rfl) ?_
        refine lv_goto (tgt := 168) C.1 C.2.1 dX7_chance_164 (by decide) ?_
        exact w_X7_chance_168 C hr hlk X hI hk48 _ _ _ _ _ _ _ _ _ _ _ w (lv_sub hl [0, 1, 2, 3, 4, 6] rfl) hf
    · rw [if_neg c39] at hf
      refine lv_iconst (v := 0) C.1 C.2.1 dX7_chance_72 (by decide) ?_
      refine lv_istore (lv' := [(9, .int (0 : Int32)), (0, .ref (ad 141)), (1, .int v1), (2, .int v2), (3, .int v3), (4, .int v4), (5, .int v5), (6, .int v6), (7, .int v7), (8, .int v8)]) C.1 C.2.1 dX7_chance_73 hl (by decide) rfl (fun ls hl => ?_)
      exact w_X7_chance_75 C hr hlk X hI ih hk48 600 _ _ _ _ _ _ _ _ _ _ _ _ _ w (lv_sub hl [1, 2, 3, 4, 5, 6, 7, 8, 9, 0] rfl) hf
def qX7_chance_48 : Nat → Hp → Int32 → Int32 → Int32 → Int32 → Int32 → Int32 → Option (Int32 × Hp)
  | 0, _, _, _, _, _, _, _ => none
  | n + 1, h, v1, v2, v3, v4, v5, v6 =>
    (if ((1 : Int32) <<< (v2 &&& 31)) ≤ v6 then (bi1 (qX7_power (10 : Int32) v2) (fun r33 =>
    (bi1 (qX7_fraction v5 r33 v4) (fun r35 =>
    (some (r35, h))))))
    else (bi1 (qX7_begin h) (fun h38 =>
    (qX7_chance_66 (qX7_chance_48 n) 600 h38 v1 v2 v3 v4 v5 v6 (1 : Int32) (0 : Int32)))))
set_option maxHeartbeats 4000000 in
set_option maxRecDepth 100000 in
theorem w_X7_chance_48 {p : Program} {l : Launch} {e : Env} {s : State} {m : MethodId} {args : Array Value} {below : List Frame} {meth : Method} {c : Code} {E : Ev} {ad : Nat → Nat} {g : Gp} {r : Int32} {h9 : Hp} (C : CallFix p m c cX7_chance 10 s args lwA RX7) (hr : meth.sig.returnType = (some .int)) (hlk : meth.locks = false) (X : Sx E ad s) (hI : Inj ad)  : ∀ (n : Nat), ∀ (h : Hp) (v1 : Int32) (v2 : Int32) (v3 : Int32) (v4 : Int32) (v5 : Int32) (v6 : Int32) (H : Heap) (locs : List Loc) (ls : Array Slot), At E ad h g s H locs → lv_has ls 10 [(0, .ref (ad 141)), (1, .int v1), (2, .int v2), (3, .int v3), (4, .int v4), (5, .int v5), (6, .int v6)] → qX7_chance_48 n h v1 v2 v3 v4 v5 v6 = some (r, h9) → W p l e (RM 6 140) s m args below meth c H locs 0 0 (QI E ad h9 g r below args s) (F0 m 48 ls []) := by
  intro n
  induction n with
  | zero =>
    intro h v1 v2 v3 v4 v5 v6 H locs ls w hl hf
    cases hf
  | succ n ih =>
    intro h v1 v2 v3 v4 v5 v6 H locs ls w hl hf
    rw [qX7_chance_48] at hf
    refine lv_iload C.1 C.2.1 dX7_chance_48 (lv_at hl 6 rfl) ?_
    refine lv_iconst (v := 1) C.1 C.2.1 dX7_chance_50 (by decide) ?_
    refine lv_iload_n C.1 C.2.1 dX7_chance_51 rfl (lv_at hl 2 rfl) ?_
    refine lv_ishl C.1 C.2.1 dX7_chance_52 ?_
    refine lv_icmp_ge (tgt := 177) C.1 C.2.1 dX7_chance_53 (by decide) (fun c31 => ?_) (fun c31 => ?_)
    · rw [if_pos c31] at hf
      refine lv_iload C.1 C.2.1 dX7_chance_177 (lv_at hl 5 rfl) ?_
      refine lv_bipush (v := 10) C.1 C.2.1 dX7_chance_179 (by decide) ?_
      refine lv_iload_n C.1 C.2.1 dX7_chance_181 rfl (lv_at hl 2 rfl) ?_
      obtain ⟨r33, eq32, hf⟩ := bi1_e hf
      refine x_cSi (As := [.int (10 : Int32), .int v2]) (rest := [.int v5]) C X w (c_X7_power hI  eq32) mw_X7_power ml_X7_177 rfl hl.1 rfl (Nat.le_of_ble_eq_true rfl) ⟨⟨Nat.le_of_ble_eq_true rfl, Nat.le_of_ble_eq_true rfl⟩, Nat.le_of_ble_eq_true rfl, Nat.le_of_ble_eq_true rfl⟩ dX7_chance_182 (fun H locs w => ?_)
      refine lv_iload C.1 C.2.1 dX7_chance_185 (lv_at hl 4 rfl) ?_
      obtain ⟨r35, eq34, hf⟩ := bi1_e hf
      refine x_cSi (As := [.int v5, .int r33, .int v4]) (rest := []) C X w (c_X7_fraction hI  eq34) mw_X7_fraction ml_X7_189 rfl hl.1 rfl (Nat.le_of_ble_eq_true rfl) ⟨⟨Nat.le_of_ble_eq_true rfl, Nat.le_of_ble_eq_true rfl⟩, Nat.le_of_ble_eq_true rfl, Nat.le_of_ble_eq_true rfl⟩ dX7_chance_187 (fun H locs w => ?_)
      cases hf
      exact x_iret C hr hlk w dX7_chance_190
    · rw [if_neg c31] at hf
      refine lv_aload_n C.1 C.2.1 dX7_chance_56 rfl (lv_at hl 0 rfl) ?_
      obtain ⟨h38, eq36, hf⟩ := bi1_e hf
      refine x_cVv (As := []) (rest := []) C X w (c_X7_begin hI eq36) mw_X7_begin ml_X7_155 rcv_r33 rfl hl.1 rfl (Nat.le_of_ble_eq_true rfl) ⟨⟨Nat.le_of_ble_eq_true rfl, Nat.le_of_ble_eq_true rfl⟩, Nat.le_of_ble_eq_true rfl, Nat.le_of_ble_eq_true rfl⟩ dX7_chance_57 (fun H locs w => ?_)
      refine lv_iconst (v := 1) C.1 C.2.1 dX7_chance_60 (by decide) ?_
      refine lv_istore (lv' := [(7, .int (1 : Int32)), (0, .ref (ad 141)), (1, .int v1), (2, .int v2), (3, .int v3), (4, .int v4), (5, .int v5), (6, .int v6)]) C.1 C.2.1 dX7_chance_61 hl (by decide) rfl (fun ls hl => ?_)
      refine lv_iconst (v := 0) C.1 C.2.1 dX7_chance_63 (by decide) ?_
      refine lv_istore (lv' := [(8, .int (0 : Int32)), (7, .int (1 : Int32)), (0, .ref (ad 141)), (1, .int v1), (2, .int v2), (3, .int v3), (4, .int v4), (5, .int v5), (6, .int v6)]) C.1 C.2.1 dX7_chance_64 hl (by decide) rfl (fun ls hl => ?_)
      exact w_X7_chance_66 C hr hlk X hI ih 600 _ _ _ _ _ _ _ _ _ _ _ _ w (lv_sub hl [2, 3, 4, 5, 6, 7, 8, 1, 0] rfl) hf
def qX7_chance (h : Hp) (x1 : Int32) (x2 : Int32) (x3 : Int32) (x4 : Int32) : Option (Int32 × Hp) :=
(bd (su h 33 (upd (h 33) 0 (0 : Int32))) (fun h21 =>
(bi1 (qX7_noChild (h21 33) x1) (fun r23 =>
(if r23 = 0 then (bi1 (qX7_in ((x2).toInt64) (1 : Int64) (6 : Int64)) (fun r26 =>
(if r26 = 0 then (some ((-2 : Int32), h21))
else (bi1 (qX7_in ((x3).toInt64) (0 : Int64) (10 : Int64)) (fun r29 =>
(if r29 = 0 then (some ((-2 : Int32), h21))
else (qX7_chance_48 600 h21 x1 x2 x3 x4 (0 : Int32) (0 : Int32))))))))
else (some ((-1 : Int32), h21)))))))
set_option maxHeartbeats 4000000 in
set_option maxRecDepth 100000 in
theorem c_X7_chance {l : Launch} {E : Ev} {ad : Nat → Nat} {g : Gp} {h : Hp} {x1 : Int32} {x2 : Int32} {x3 : Int32} {x4 : Int32} {r : Int32} {h9 : Hp} (hI : Inj ad) (hf : qX7_chance h x1 x2 x3 x4 = some (r, h9)) : CtI l yX7_chance cX7_chance 10 (some .int) 6 140 E ad g g [.ref (ad 141), .int x1, .int x2, .int x3, .int x4] h h9 r := by
  refine x_begin (by decide) (Nat.le_of_ble_eq_true rfl) ?_
  intro p e s m below meth c ls C hr hlk X w hl
  replace hl : lv_has ls 10 [(0, .ref (ad 141)), (1, .int x1), (2, .int x2), (3, .int x3), (4, .int x4)] := hl
  replace C : CallFix p m c cX7_chance 10 s ([.ref (ad 141), .int x1, .int x2, .int x3, .int x4] : List Value).toArray lwA RX7 := C
  unfold qX7_chance at hf
  refine lv_aload_n C.1 C.2.1 dX7_chance_0 rfl (lv_at hl 0 rfl) ?_
  refine lv_iconst (v := 0) C.1 C.2.1 dX7_chance_1 (by decide) ?_
  obtain ⟨h21, eh21, hf⟩ := bd_e hf
  refine pf_X7_51 C X hI w dX7_chance_2 (fun H locs w => ?_)
  replace w := at_eq eh21 w
  refine lv_aload_n C.1 C.2.1 dX7_chance_5 rfl (lv_at hl 0 rfl) ?_
  refine lv_iload_n C.1 C.2.1 dX7_chance_6 rfl (lv_at hl 1 rfl) ?_
  obtain ⟨r23, eq22, hf⟩ := bi1_e hf
  refine x_cVi (As := [.int x1]) (rest := []) C X w (c_X7_noChild hI (rfl) eq22) mw_X7_noChild ml_X7_140 rcv_r33 rfl hl.1 rfl (Nat.le_of_ble_eq_true rfl) ⟨⟨Nat.le_of_ble_eq_true rfl, Nat.le_of_ble_eq_true rfl⟩, Nat.le_of_ble_eq_true rfl, Nat.le_of_ble_eq_true rfl⟩ dX7_chance_7 (fun H locs w => ?_)
  refine lv_if_eq (tgt := 15) C.1 C.2.1 dX7_chance_10 (by decide) (fun c24 => ?_) (fun c24 => ?_)
  · rw [if_pos c24] at hf
    refine lv_iload_n C.1 C.2.1 dX7_chance_15 rfl (lv_at hl 2 rfl) ?_
    refine lv_i2l (v := (x2).toInt64) C.1 C.2.1 dX7_chance_16 rfl ?_
    refine lv_lconst (v := 1) C.1 C.2.1 dX7_chance_17 (by decide) ?_
    refine lv_ldc2 (v := 6) C.1 C.2.1 C.2.2.2.1 (C.2.2.2.2 _ wd_constantLong_OneTricycleModel_212_6_Int64_) dX7_chance_18 ?_
    obtain ⟨r26, eq25, hf⟩ := bi1_e hf
    refine x_cSi (As := [.long ((x2).toInt64), .long (1 : Int64), .long (6 : Int64)]) (rest := []) C X w (c_X7_in hI  eq25) mw_X7_in ml_X7_57 rfl hl.1 rfl (Nat.le_of_ble_eq_true rfl) ⟨⟨Nat.le_of_ble_eq_true rfl, Nat.le_of_ble_eq_true rfl⟩, Nat.le_of_ble_eq_true rfl, Nat.le_of_ble_eq_true rfl⟩ dX7_chance_21 (fun H locs w => ?_)
    refine lv_if_eq (tgt := 39) C.1 C.2.1 dX7_chance_24 (by decide) (fun c27 => ?_) (fun c27 => ?_)
    · rw [if_pos c27] at hf
      refine lv_bipush (v := -2) C.1 C.2.1 dX7_chance_39 (by decide) ?_
      cases hf
      exact x_iret C hr hlk w dX7_chance_41
    · rw [if_neg c27] at hf
      refine lv_iload_n C.1 C.2.1 dX7_chance_27 rfl (lv_at hl 3 rfl) ?_
      refine lv_i2l (v := (x3).toInt64) C.1 C.2.1 dX7_chance_28 rfl ?_
      refine lv_lconst (v := 0) C.1 C.2.1 dX7_chance_29 (by decide) ?_
      refine lv_ldc2 (v := 10) C.1 C.2.1 C.2.2.2.1 (C.2.2.2.2 _ wd_constantLong_OneTricycleModel_214_10_Int64_) dX7_chance_30 ?_
      obtain ⟨r29, eq28, hf⟩ := bi1_e hf
      refine x_cSi (As := [.long ((x3).toInt64), .long (0 : Int64), .long (10 : Int64)]) (rest := []) C X w (c_X7_in hI  eq28) mw_X7_in ml_X7_57 rfl hl.1 rfl (Nat.le_of_ble_eq_true rfl) ⟨⟨Nat.le_of_ble_eq_true rfl, Nat.le_of_ble_eq_true rfl⟩, Nat.le_of_ble_eq_true rfl, Nat.le_of_ble_eq_true rfl⟩ dX7_chance_33 (fun H locs w => ?_)
      refine lv_if_ne (tgt := 42) C.1 C.2.1 dX7_chance_36 (by decide) (fun c30 => ?_) (fun c30 => ?_)
      · rw [if_neg c30] at hf
        refine lv_iconst (v := 0) C.1 C.2.1 dX7_chance_42 (by decide) ?_
        refine lv_istore (lv' := [(5, .int (0 : Int32)), (0, .ref (ad 141)), (1, .int x1), (2, .int x2), (3, .int x3), (4, .int x4)]) C.1 C.2.1 dX7_chance_43 hl (by decide) rfl (fun ls hl => ?_)
        refine lv_iconst (v := 0) C.1 C.2.1 dX7_chance_45 (by decide) ?_
        refine lv_istore (lv' := [(6, .int (0 : Int32)), (5, .int (0 : Int32)), (0, .ref (ad 141)), (1, .int x1), (2, .int x2), (3, .int x3), (4, .int x4)]) C.1 C.2.1 dX7_chance_46 hl (by decide) rfl (fun ls hl => ?_)
        exact w_X7_chance_48 C hr hlk X hI 600 _ _ _ _ _ _ _ _ _ _ w (lv_sub hl [2, 3, 4, 5, 6, 1, 0] rfl) hf
      · rw [if_pos c30] at hf
        refine lv_bipush (v := -2) C.1 C.2.1 dX7_chance_39 (by decide) ?_
        cases hf
        exact x_iret C hr hlk w dX7_chance_41
  · rw [if_neg c24] at hf
    refine lv_iconst (v := -1) C.1 C.2.1 dX7_chance_13 (by decide) ?_
    cases hf
    exact x_iret C hr hlk w dX7_chance_14

def qX7_seed (h : Hp) (g : Gp) (x1 : Int64) : Option (Int64 × Hp × Gp) :=
(bd (su h 33 (upd (h 33) 0 (0 : Int32))) (fun h21 =>
(bd (sg g 33 x1) (fun g22 =>
(some ((g 33), h21, g22))))))
set_option maxHeartbeats 4000000 in
set_option maxRecDepth 100000 in
theorem c_X7_seed {l : Launch} {E : Ev} {ad : Nat → Nat} {g : Gp} {h : Hp} {x1 : Int64} {r : Int64} {h9 : Hp} {g9 : Gp} (hI : Inj ad) (hf : qX7_seed h g x1 = some (r, h9, g9)) : CtL l yX7_seed cX7_seed 5 (some .long) 0 0 E ad g g9 [.ref (ad 141), .long x1] h h9 r := by
  refine x_begin (by decide) (Nat.le_of_ble_eq_true rfl) ?_
  intro p e s m below meth c ls C hr hlk X w hl
  replace hl : lv_has ls 5 [(0, .ref (ad 141)), (1, .long x1)] := hl
  replace C : CallFix p m c cX7_seed 5 s ([.ref (ad 141), .long x1] : List Value).toArray lwA RX7 := C
  unfold qX7_seed at hf
  refine lv_aload_n C.1 C.2.1 dX7_seed_0 rfl (lv_at hl 0 rfl) ?_
  refine lv_iconst (v := 0) C.1 C.2.1 dX7_seed_1 (by decide) ?_
  obtain ⟨h21, eh21, hf⟩ := bd_e hf
  refine pf_X7_51 C X hI w dX7_seed_2 (fun H locs w => ?_)
  replace w := at_eq eh21 w
  refine lv_aload_n C.1 C.2.1 dX7_seed_5 rfl (lv_at hl 0 rfl) ?_
  refine gf_X7_216 C X w rfl dX7_seed_6 ?_
  refine lv_lstore_n (lv' := [(3, .long (g 33)), (0, .ref (ad 141)), (1, .long x1)]) C.1 C.2.1 dX7_seed_9 rfl hl (by decide) rfl (fun ls hl => ?_)
  refine lv_aload_n C.1 C.2.1 dX7_seed_10 rfl (lv_at hl 1 rfl) ?_
  refine lv_lload_n C.1 C.2.1 dX7_seed_11 rfl (lv_at hl 2 rfl) ?_
  obtain ⟨g22, eg22, hf⟩ := bd_e hf
  refine pf_X7_216 C X hI w dX7_seed_12 (fun H locs w => ?_)
  replace w := at_eqG eg22 w
  refine lv_lload_n C.1 C.2.1 dX7_seed_15 rfl (lv_at hl 0 rfl) ?_
  cases hf
  exact x_lret C hr hlk w dX7_seed_16

def qX7_days_85 (k26 : Hp → Gp → Int32 → Int32 → Option (Int32 × Hp × Gp)) (h : Hp) (g : Gp) (v1 : Int32) (v2 : Int32) : Option (Int32 × Hp × Gp) :=
(k26 h g v1 (v2 + 1))
set_option maxHeartbeats 4000000 in
set_option maxRecDepth 100000 in
theorem w_X7_days_85 {p : Program} {l : Launch} {e : Env} {s : State} {m : MethodId} {args : Array Value} {below : List Frame} {meth : Method} {c : Code} {E : Ev} {ad : Nat → Nat} {r : Int32} {h9 : Hp} {g9 : Gp} {k26 : Hp → Gp → Int32 → Int32 → Option (Int32 × Hp × Gp)} (C : CallFix p m c cX7_days 4 s args lwA RX7) (hr : meth.sig.returnType = (some .int)) (hlk : meth.locks = false) (X : Sx E ad s) (hI : Inj ad) (hk26 : ∀ (h : Hp) (g : Gp) (v1 : Int32) (v2 : Int32) (H : Heap) (locs : List Loc) (ls : Array Slot), At E ad h g s H locs → lv_has ls 4 [(0, .ref (ad 141)), (1, .int v1), (2, .int v2)] → k26 h g v1 v2 = some (r, h9, g9) → W p l e (RM 7 164) s m args below meth c H locs 0 0 (QI E ad h9 g9 r below args s) (F0 m 26 ls [])) : ∀ (h : Hp) (g : Gp) (v1 : Int32) (v2 : Int32) (H : Heap) (locs : List Loc) (ls : Array Slot), At E ad h g s H locs → lv_has ls 4 [(0, .ref (ad 141)), (1, .int v1), (2, .int v2)] → qX7_days_85 k26 h g v1 v2 = some (r, h9, g9) → W p l e (RM 7 164) s m args below meth c H locs 0 0 (QI E ad h9 g9 r below args s) (F0 m 85 ls []) := by
  intro h g v1 v2 H locs ls w hl hf
  unfold qX7_days_85 at hf
  refine lv_iinc (v := (v2 + 1)) (lv' := [(2, .int (v2 + 1)), (0, .ref (ad 141)), (1, .int v1)]) C.1 C.2.1 dX7_days_85 hl (k := 2) rfl (congrArg (fun z => v2 + z) (by decide)) (by decide) rfl (fun ls hl => ?_)
  refine lv_goto (tgt := 26) C.1 C.2.1 dX7_days_88 (by decide) ?_
  exact hk26 _ _ _ _ _ _ _ w (lv_sub hl [1, 2, 0] rfl) hf
def qX7_days_26 : Nat → Hp → Gp → Int32 → Int32 → Option (Int32 × Hp × Gp)
  | 0, _, _, _, _ => none
  | n + 1, h, g, v1, v2 =>
    (if v1 ≤ v2 then (bi1 (qX7_sumOf (h 33) (h 39) (15 : Int32)) (fun r30 =>
    (bi1 (qX7_sumOf (h 33) (h 38) (15 : Int32)) (fun r32 =>
    (some ((r30 - r32), h, g))))))
    else (bd (sg g 33 (((g 33) * (6364136223846793005 : Int64)) + (1442695040888963407 : Int64))) (fun g33 =>
    (bd (((((((g33 33)).toUInt64 >>> (((33 : Int32)).toInt64.toUInt64 &&& Int64.toUInt64 63)).toInt64) - ((((g33 33)).toUInt64 >>> (((33 : Int32)).toInt64.toUInt64 &&& Int64.toUInt64 63)).toInt64) / (10 : Int64) * (10 : Int64))).toInt32) (fun x34 =>
    (if x34 ≤ (4 : Int32) then (bi2 (qX7_does h ((20 : Int32) + x34)) (fun r37 h38 =>
    (qX7_days_85 (qX7_days_26 n) h38 g33 v1 v2)))
    else (bi1 (qX7_goMinute (h 33) (h 35) (h 36) (h 39)) (fun P41 =>
    (bd (su h 39 P41) (fun h42 =>
    (qX7_days_85 (qX7_days_26 n) h42 g33 v1 v2)))))))))))
set_option maxHeartbeats 4000000 in
set_option maxRecDepth 100000 in
theorem w_X7_days_26 {p : Program} {l : Launch} {e : Env} {s : State} {m : MethodId} {args : Array Value} {below : List Frame} {meth : Method} {c : Code} {E : Ev} {ad : Nat → Nat} {r : Int32} {h9 : Hp} {g9 : Gp} (C : CallFix p m c cX7_days 4 s args lwA RX7) (hr : meth.sig.returnType = (some .int)) (hlk : meth.locks = false) (X : Sx E ad s) (hI : Inj ad)  : ∀ (n : Nat), ∀ (h : Hp) (g : Gp) (v1 : Int32) (v2 : Int32) (H : Heap) (locs : List Loc) (ls : Array Slot), At E ad h g s H locs → lv_has ls 4 [(0, .ref (ad 141)), (1, .int v1), (2, .int v2)] → qX7_days_26 n h g v1 v2 = some (r, h9, g9) → W p l e (RM 7 164) s m args below meth c H locs 0 0 (QI E ad h9 g9 r below args s) (F0 m 26 ls []) := by
  intro n
  induction n with
  | zero =>
    intro h g v1 v2 H locs ls w hl hf
    cases hf
  | succ n ih =>
    intro h g v1 v2 H locs ls w hl hf
    rw [qX7_days_26] at hf
    refine lv_iload_n C.1 C.2.1 dX7_days_26 rfl (lv_at hl 2 rfl) ?_
    refine lv_iload_n C.1 C.2.1 dX7_days_27 rfl (lv_at hl 1 rfl) ?_
    refine lv_icmp_ge (tgt := 91) C.1 C.2.1 dX7_days_28 (by decide) (fun c28 => ?_) (fun c28 => ?_)
    · rw [if_pos c28] at hf
      refine lv_aload_n C.1 C.2.1 dX7_days_91 rfl (lv_at hl 0 rfl) ?_
      refine lv_aload_n C.1 C.2.1 dX7_days_92 rfl (lv_at hl 0 rfl) ?_
      refine gf_X7_29 C X w rfl dX7_days_93 ?_
      refine lv_bipush (v := 15) C.1 C.2.1 dX7_days_96 (by decide) ?_
      obtain ⟨r30, eq29, hf⟩ := bi1_e hf
      refine x_cVi (As := [.ref (ad 147), .int (15 : Int32)]) (rest := []) C X (at_su 39 w) (c_X7_sumOf hI (Or.inr rfl) eq29) mw_X7_sumOf ml_X7_158 rcv_r33 rfl hl.1 rfl (Nat.le_of_ble_eq_true rfl) ⟨⟨Nat.le_of_ble_eq_true rfl, Nat.le_of_ble_eq_true rfl⟩, Nat.le_of_ble_eq_true rfl, Nat.le_of_ble_eq_true rfl⟩ dX7_days_98 (fun H locs w => ?_)
      replace w := at_us w
      refine lv_aload_n C.1 C.2.1 dX7_days_101 rfl (lv_at hl 0 rfl) ?_
      refine lv_aload_n C.1 C.2.1 dX7_days_102 rfl (lv_at hl 0 rfl) ?_
      refine gf_X7_26 C X w rfl dX7_days_103 ?_
      refine lv_bipush (v := 15) C.1 C.2.1 dX7_days_106 (by decide) ?_
      obtain ⟨r32, eq31, hf⟩ := bi1_e hf
      refine x_cVi (As := [.ref (ad 146), .int (15 : Int32)]) (rest := [.int r30]) C X (at_su 38 w) (c_X7_sumOf hI (Or.inl rfl) eq31) mw_X7_sumOf ml_X7_158 rcv_r33 rfl hl.1 rfl (Nat.le_of_ble_eq_true rfl) ⟨⟨Nat.le_of_ble_eq_true rfl, Nat.le_of_ble_eq_true rfl⟩, Nat.le_of_ble_eq_true rfl, Nat.le_of_ble_eq_true rfl⟩ dX7_days_108 (fun H locs w => ?_)
      replace w := at_us w
      refine lv_isub C.1 C.2.1 dX7_days_111 ?_
      cases hf
      exact x_iret C hr hlk w dX7_days_112
    · rw [if_neg c28] at hf
      refine lv_aload_n C.1 C.2.1 dX7_days_31 rfl (lv_at hl 0 rfl) ?_
      refine lv_aload_n C.1 C.2.1 dX7_days_32 rfl (lv_at hl 0 rfl) ?_
      refine gf_X7_216 C X w rfl dX7_days_33 ?_
      refine lv_ldc2 (v := 6364136223846793005) C.1 C.2.1 C.2.2.2.1 (C.2.2.2.2 _ wd_constantLong_OneTricycleModel_220_6364136223846793005_Int64_) dX7_days_36 ?_
      refine lv_lmul C.1 C.2.1 dX7_days_39 ?_
      refine lv_ldc2 (v := 1442695040888963407) C.1 C.2.1 C.2.2.2.1 (C.2.2.2.2 _ wd_constantLong_OneTricycleModel_222_1442695040888963407_Int64_) dX7_days_40 ?_
      refine lv_ladd C.1 C.2.1 dX7_days_43 ?_
      obtain ⟨g33, eg33, hf⟩ := bd_e hf
      refine pf_X7_216 C X hI w dX7_days_44 (fun H locs w => ?_)
      replace w := at_eqG eg33 w
      refine lv_aload_n C.1 C.2.1 dX7_days_47 rfl (lv_at hl 0 rfl) ?_
      refine gf_X7_216 C X w rfl dX7_days_48 ?_
      refine lv_bipush (v := 33) C.1 C.2.1 dX7_days_51 (by decide) ?_
      refine lv_lushr (v := (((g33 33)).toUInt64 >>> (((33 : Int32)).toInt64.toUInt64 &&& Int64.toUInt64 63)).toInt64) C.1 C.2.1 dX7_days_53 rfl ?_
      refine lv_ldc2 (v := 10) C.1 C.2.1 C.2.2.2.1 (C.2.2.2.2 _ wd_constantLong_OneTricycleModel_214_10_Int64_) dX7_days_54 ?_
      refine lv_lrem C.1 C.2.1 dX7_days_57 (by decide) ?_
      refine lv_l2i (v := ((((((g33 33)).toUInt64 >>> (((33 : Int32)).toInt64.toUInt64 &&& Int64.toUInt64 63)).toInt64) - ((((g33 33)).toUInt64 >>> (((33 : Int32)).toInt64.toUInt64 &&& Int64.toUInt64 63)).toInt64) / (10 : Int64) * (10 : Int64))).toInt32) C.1 C.2.1 dX7_days_58 rfl ?_
      obtain ⟨x34, ex34, hf⟩ := bd_e hf
      refine x_tp ex34 ?_
      refine lv_istore_n (lv' := [(3, .int x34), (0, .ref (ad 141)), (1, .int v1), (2, .int v2)]) C.1 C.2.1 dX7_days_59 rfl hl (by decide) rfl (fun ls hl => ?_)
      refine lv_iload_n C.1 C.2.1 dX7_days_60 rfl (lv_at hl 0 rfl) ?_
      refine lv_iconst (v := 4) C.1 C.2.1 dX7_days_61 (by decide) ?_
      refine lv_icmp_le (tgt := 76) C.1 C.2.1 dX7_days_62 (by decide) (fun c35 => ?_) (fun c35 => ?_)
      · rw [if_pos c35] at hf
        refine lv_aload_n C.1 C.2.1 dX7_days_76 rfl (lv_at hl 1 rfl) ?_
        refine lv_bipush (v := 20) C.1 C.2.1 dX7_days_77 (by decide) ?_
        refine lv_iload_n C.1 C.2.1 dX7_days_79 rfl (lv_at hl 0 rfl) ?_
        refine lv_iadd C.1 C.2.1 dX7_days_80 ?_
        obtain ⟨r37, h38, eq36, hf⟩ := bi2_e hf
        refine x_cVi (As := [.int ((20 : Int32) + x34)]) (rest := []) C X w (c_X7_does hI eq36) mw_X7_does ml_X7_180 rcv_r33 rfl hl.1 rfl (Nat.le_of_ble_eq_true rfl) ⟨⟨Nat.le_of_ble_eq_true rfl, Nat.le_of_ble_eq_true rfl⟩, Nat.le_of_ble_eq_true rfl, Nat.le_of_ble_eq_true rfl⟩ dX7_days_81 (fun H locs w => ?_)
        refine lv_pop C.1 C.2.1 dX7_days_84 rfl ?_
        exact w_X7_days_85 C hr hlk X hI ih _ _ _ _ _ _ _ w (lv_sub hl [1, 2, 3] rfl) hf
      · rw [if_neg c35] at hf
        refine lv_aload_n C.1 C.2.1 dX7_days_65 rfl (lv_at hl 1 rfl) ?_
        refine lv_aload_n C.1 C.2.1 dX7_days_66 rfl (lv_at hl 1 rfl) ?_
        refine gf_X7_29 C X w rfl dX7_days_67 ?_
        obtain ⟨P41, eq39, hf⟩ := bi1_e hf
        obtain ⟨h42, eh42, hf⟩ := bd_e hf
        refine x_cVv (As := [.ref (ad 147)]) (rest := []) C X (at_su 39 w) (c_X7_goMinute hI (Or.inr rfl) eq39) mw_X7_goMinute ml_X7_147 rcv_r33 rfl hl.1 rfl (Nat.le_of_ble_eq_true rfl) ⟨⟨Nat.le_of_ble_eq_true rfl, Nat.le_of_ble_eq_true rfl⟩, Nat.le_of_ble_eq_true rfl, Nat.le_of_ble_eq_true rfl⟩ dX7_days_70 (fun H locs w => ?_)
        replace w := at_eq eh42 w
        refine lv_goto (tgt := 85) C.1 C.2.1 dX7_days_73 (by decide) ?_
        exact w_X7_days_85 C hr hlk X hI ih _ _ _ _ _ _ _ w (lv_sub hl [1, 2, 3] rfl) hf
def qX7_days (h : Hp) (g : Gp) (x1 : Int32) : Option (Int32 × Hp × Gp) :=
(bd (su h 33 (upd (h 33) 0 (0 : Int32))) (fun h21 =>
(bi1 (qX7_in ((x1).toInt64) (1 : Int64) (30 : Int64)) (fun r23 =>
(if r23 = 0 then (some ((-2 : Int32), h21, g))
else (bi1 (qX7_begin h21) (fun h27 =>
(qX7_days_26 600 h27 g x1 (0 : Int32)))))))))
set_option maxHeartbeats 4000000 in
set_option maxRecDepth 100000 in
theorem c_X7_days {l : Launch} {E : Ev} {ad : Nat → Nat} {g : Gp} {h : Hp} {x1 : Int32} {r : Int32} {h9 : Hp} {g9 : Gp} (hI : Inj ad) (hf : qX7_days h g x1 = some (r, h9, g9)) : CtI l yX7_days cX7_days 4 (some .int) 7 164 E ad g g9 [.ref (ad 141), .int x1] h h9 r := by
  refine x_begin (by decide) (Nat.le_of_ble_eq_true rfl) ?_
  intro p e s m below meth c ls C hr hlk X w hl
  replace hl : lv_has ls 4 [(0, .ref (ad 141)), (1, .int x1)] := hl
  replace C : CallFix p m c cX7_days 4 s ([.ref (ad 141), .int x1] : List Value).toArray lwA RX7 := C
  unfold qX7_days at hf
  refine lv_aload_n C.1 C.2.1 dX7_days_0 rfl (lv_at hl 0 rfl) ?_
  refine lv_iconst (v := 0) C.1 C.2.1 dX7_days_1 (by decide) ?_
  obtain ⟨h21, eh21, hf⟩ := bd_e hf
  refine pf_X7_51 C X hI w dX7_days_2 (fun H locs w => ?_)
  replace w := at_eq eh21 w
  refine lv_iload_n C.1 C.2.1 dX7_days_5 rfl (lv_at hl 1 rfl) ?_
  refine lv_i2l (v := (x1).toInt64) C.1 C.2.1 dX7_days_6 rfl ?_
  refine lv_lconst (v := 1) C.1 C.2.1 dX7_days_7 (by decide) ?_
  refine lv_ldc2 (v := 30) C.1 C.2.1 C.2.2.2.1 (C.2.2.2.2 _ wd_constantLong_OneTricycleModel_173_30_Int64_) dX7_days_8 ?_
  obtain ⟨r23, eq22, hf⟩ := bi1_e hf
  refine x_cSi (As := [.long ((x1).toInt64), .long (1 : Int64), .long (30 : Int64)]) (rest := []) C X w (c_X7_in hI  eq22) mw_X7_in ml_X7_57 rfl hl.1 rfl (Nat.le_of_ble_eq_true rfl) ⟨⟨Nat.le_of_ble_eq_true rfl, Nat.le_of_ble_eq_true rfl⟩, Nat.le_of_ble_eq_true rfl, Nat.le_of_ble_eq_true rfl⟩ dX7_days_11 (fun H locs w => ?_)
  refine lv_if_ne (tgt := 20) C.1 C.2.1 dX7_days_14 (by decide) (fun c24 => ?_) (fun c24 => ?_)
  · rw [if_neg c24] at hf
    refine lv_aload_n C.1 C.2.1 dX7_days_20 rfl (lv_at hl 0 rfl) ?_
    obtain ⟨h27, eq25, hf⟩ := bi1_e hf
    refine x_cVv (As := []) (rest := []) C X w (c_X7_begin hI eq25) mw_X7_begin ml_X7_155 rcv_r33 rfl hl.1 rfl (Nat.le_of_ble_eq_true rfl) ⟨⟨Nat.le_of_ble_eq_true rfl, Nat.le_of_ble_eq_true rfl⟩, Nat.le_of_ble_eq_true rfl, Nat.le_of_ble_eq_true rfl⟩ dX7_days_21 (fun H locs w => ?_)
    refine lv_iconst (v := 0) C.1 C.2.1 dX7_days_24 (by decide) ?_
    refine lv_istore_n (lv' := [(2, .int (0 : Int32)), (0, .ref (ad 141)), (1, .int x1)]) C.1 C.2.1 dX7_days_25 rfl hl (by decide) rfl (fun ls hl => ?_)
    exact w_X7_days_26 C hr hlk X hI 600 _ _ _ _ _ _ _ w (lv_sub hl [1, 2, 0] rfl) hf
  · rw [if_pos c24] at hf
    refine lv_bipush (v := -2) C.1 C.2.1 dX7_days_17 (by decide) ?_
    cases hf
    exact x_iret C hr hlk w dX7_days_19

def qX7_keep_26 : Nat → Hp → Int32 → Int32 → Option (Int32 × Hp)
  | 0, _, _, _ => none
  | n + 1, h, v1, v2 =>
    (if (36 : Int32) ≤ v2 then (some (((h 38) 35), h))
    else (ck (inb v2 36) ((ck (inb (((36 : Int32) * v1) + v2) 72) (bd (su h 41 (upd (h 41) ((((36 : Int32) * v1) + v2)).toNatClampNeg ((h 38) v2.toNatClampNeg))) (fun h30 =>
    (qX7_keep_26 n h30 v1 (v2 + 1))))))))
set_option maxHeartbeats 4000000 in
set_option maxRecDepth 100000 in
theorem w_X7_keep_26 {p : Program} {l : Launch} {e : Env} {s : State} {m : MethodId} {args : Array Value} {below : List Frame} {meth : Method} {c : Code} {E : Ev} {ad : Nat → Nat} {g : Gp} {r : Int32} {h9 : Hp} (C : CallFix p m c cX7_keep 3 s args lwA RX7) (hr : meth.sig.returnType = (some .int)) (hlk : meth.locks = false) (X : Sx E ad s) (hI : Inj ad)  : ∀ (n : Nat), ∀ (h : Hp) (v1 : Int32) (v2 : Int32) (H : Heap) (locs : List Loc) (ls : Array Slot), At E ad h g s H locs → lv_has ls 3 [(0, .ref (ad 141)), (1, .int v1), (2, .int v2)] → qX7_keep_26 n h v1 v2 = some (r, h9) → W p l e (RM 1 25) s m args below meth c H locs 0 0 (QI E ad h9 g r below args s) (F0 m 26 ls []) := by
  intro n
  induction n with
  | zero =>
    intro h v1 v2 H locs ls w hl hf
    cases hf
  | succ n ih =>
    intro h v1 v2 H locs ls w hl hf
    rw [qX7_keep_26] at hf
    refine lv_iload_n C.1 C.2.1 dX7_keep_26 rfl (lv_at hl 2 rfl) ?_
    refine lv_bipush (v := 36) C.1 C.2.1 dX7_keep_27 (by decide) ?_
    refine lv_icmp_ge (tgt := 55) C.1 C.2.1 dX7_keep_29 (by decide) (fun c27 => ?_) (fun c27 => ?_)
    · rw [if_pos c27] at hf
      refine lv_aload_n C.1 C.2.1 dX7_keep_55 rfl (lv_at hl 0 rfl) ?_
      refine gf_X7_26 C X w rfl dX7_keep_56 ?_
      refine lv_bipush (v := 35) C.1 C.2.1 dX7_keep_59 (by decide) ?_
      refine x_ild (v := (h 38) 35) C X w (wl_r38 (rfl)) (by decide) (congrArg _ (show (35 : Int32).toNatClampNeg = 35 by decide)) dX7_keep_61 ?_
      cases hf
      exact x_iret C hr hlk w dX7_keep_62
    · rw [if_neg c27] at hf
      refine lv_aload_n C.1 C.2.1 dX7_keep_32 rfl (lv_at hl 0 rfl) ?_
      refine gf_X7_35 C X w rfl dX7_keep_33 ?_
      refine lv_bipush (v := 36) C.1 C.2.1 dX7_keep_36 (by decide) ?_
      refine lv_iload_n C.1 C.2.1 dX7_keep_38 rfl (lv_at hl 1 rfl) ?_
      refine lv_imul C.1 C.2.1 dX7_keep_39 ?_
      refine lv_iload_n C.1 C.2.1 dX7_keep_40 rfl (lv_at hl 2 rfl) ?_
      refine lv_iadd C.1 C.2.1 dX7_keep_41 ?_
      refine lv_aload_n C.1 C.2.1 dX7_keep_42 rfl (lv_at hl 0 rfl) ?_
      refine gf_X7_26 C X w rfl dX7_keep_43 ?_
      refine lv_iload_n C.1 C.2.1 dX7_keep_46 rfl (lv_at hl 2 rfl) ?_
      obtain ⟨i28, hf⟩ := ck_e hf
      refine x_ild (v := (h 38) v2.toNatClampNeg) C X w (wl_r38 (rfl)) i28 (rfl) dX7_keep_47 ?_
      obtain ⟨i29, hf⟩ := ck_e hf
      obtain ⟨h30, eh30, hf⟩ := bd_e hf
      refine x_ist (h2 := su h 41 (upd (h 41) ((((36 : Int32) * v1) + v2)).toNatClampNeg ((h 38) v2.toNatClampNeg))) C X hI w (wl_r41 rfl) i29 ws_r41 dX7_keep_48 (fun H locs w => ?_)
      replace w := at_eq eh30 w
      refine lv_iinc (v := (v2 + 1)) (lv' := [(2, .int (v2 + 1)), (0, .ref (ad 141)), (1, .int v1)]) C.1 C.2.1 dX7_keep_49 hl (k := 2) rfl (congrArg (fun z => v2 + z) (by decide)) (by decide) rfl (fun ls hl => ?_)
      refine lv_goto (tgt := 26) C.1 C.2.1 dX7_keep_52 (by decide) ?_
      exact ih _ _ _ _ _ _ w (lv_sub hl [1, 2, 0] rfl) hf
def qX7_keep (h : Hp) (x1 : Int32) : Option (Int32 × Hp) :=
(bd (su h 33 (upd (h 33) 0 (0 : Int32))) (fun h21 =>
(bi1 (qX7_in ((x1).toInt64) (0 : Int64) (1 : Int64)) (fun r23 =>
(if r23 = 0 then (some ((-1 : Int32), h21))
else (ck (inb x1 2) (bd (su h21 42 (upd (h21 42) x1.toNatClampNeg (1 : Int32))) (fun h26 =>
(qX7_keep_26 600 h26 x1 (0 : Int32))))))))))
set_option maxHeartbeats 4000000 in
set_option maxRecDepth 100000 in
theorem c_X7_keep {l : Launch} {E : Ev} {ad : Nat → Nat} {g : Gp} {h : Hp} {x1 : Int32} {r : Int32} {h9 : Hp} (hI : Inj ad) (hf : qX7_keep h x1 = some (r, h9)) : CtI l yX7_keep cX7_keep 3 (some .int) 1 25 E ad g g [.ref (ad 141), .int x1] h h9 r := by
  refine x_begin (by decide) (Nat.le_of_ble_eq_true rfl) ?_
  intro p e s m below meth c ls C hr hlk X w hl
  replace hl : lv_has ls 3 [(0, .ref (ad 141)), (1, .int x1)] := hl
  replace C : CallFix p m c cX7_keep 3 s ([.ref (ad 141), .int x1] : List Value).toArray lwA RX7 := C
  unfold qX7_keep at hf
  refine lv_aload_n C.1 C.2.1 dX7_keep_0 rfl (lv_at hl 0 rfl) ?_
  refine lv_iconst (v := 0) C.1 C.2.1 dX7_keep_1 (by decide) ?_
  obtain ⟨h21, eh21, hf⟩ := bd_e hf
  refine pf_X7_51 C X hI w dX7_keep_2 (fun H locs w => ?_)
  replace w := at_eq eh21 w
  refine lv_iload_n C.1 C.2.1 dX7_keep_5 rfl (lv_at hl 1 rfl) ?_
  refine lv_i2l (v := (x1).toInt64) C.1 C.2.1 dX7_keep_6 rfl ?_
  refine lv_lconst (v := 0) C.1 C.2.1 dX7_keep_7 (by decide) ?_
  refine lv_lconst (v := 1) C.1 C.2.1 dX7_keep_8 (by decide) ?_
  obtain ⟨r23, eq22, hf⟩ := bi1_e hf
  refine x_cSi (As := [.long ((x1).toInt64), .long (0 : Int64), .long (1 : Int64)]) (rest := []) C X w (c_X7_in hI  eq22) mw_X7_in ml_X7_57 rfl hl.1 rfl (Nat.le_of_ble_eq_true rfl) ⟨⟨Nat.le_of_ble_eq_true rfl, Nat.le_of_ble_eq_true rfl⟩, Nat.le_of_ble_eq_true rfl, Nat.le_of_ble_eq_true rfl⟩ dX7_keep_9 (fun H locs w => ?_)
  refine lv_if_ne (tgt := 17) C.1 C.2.1 dX7_keep_12 (by decide) (fun c24 => ?_) (fun c24 => ?_)
  · rw [if_neg c24] at hf
    refine lv_aload_n C.1 C.2.1 dX7_keep_17 rfl (lv_at hl 0 rfl) ?_
    refine gf_X7_38 C X w rfl dX7_keep_18 ?_
    refine lv_iload_n C.1 C.2.1 dX7_keep_21 rfl (lv_at hl 1 rfl) ?_
    refine lv_iconst (v := 1) C.1 C.2.1 dX7_keep_22 (by decide) ?_
    obtain ⟨i25, hf⟩ := ck_e hf
    obtain ⟨h26, eh26, hf⟩ := bd_e hf
    refine x_zst (h2 := su h21 42 (upd (h21 42) x1.toNatClampNeg (1 : Int32))) C X hI w (wl_r42 rfl) i25 (by decide) ws_r42 dX7_keep_23 (fun H locs w => ?_)
    replace w := at_eq eh26 w
    refine lv_iconst (v := 0) C.1 C.2.1 dX7_keep_24 (by decide) ?_
    refine lv_istore_n (lv' := [(2, .int (0 : Int32)), (0, .ref (ad 141)), (1, .int x1)]) C.1 C.2.1 dX7_keep_25 rfl hl (by decide) rfl (fun ls hl => ?_)
    exact w_X7_keep_26 C hr hlk X hI 600 _ _ _ _ _ _ w (lv_sub hl [1, 2, 0] rfl) hf
  · rw [if_pos c24] at hf
    refine lv_iconst (v := -1) C.1 C.2.1 dX7_keep_15 (by decide) ?_
    cases hf
    exact x_iret C hr hlk w dX7_keep_16

def qX7_again_31 : Nat → Hp → Int32 → Int32 → Option (Int32 × Hp)
  | 0, _, _, _ => none
  | n + 1, h, v1, v2 =>
    (if (36 : Int32) ≤ v2 then (bd (su h 33 (upd (h 33) 15 (0 : Int32))) (fun h28 =>
    (some (((h28 38) 35), h28))))
    else (ck (inb (((36 : Int32) * v1) + v2) 72) ((ck (inb v2 36) (bd (su h 38 (upd (h 38) v2.toNatClampNeg ((h 41) ((((36 : Int32) * v1) + v2)).toNatClampNeg))) (fun h31 =>
    (qX7_again_31 n h31 v1 (v2 + 1))))))))
set_option maxHeartbeats 4000000 in
set_option maxRecDepth 100000 in
theorem w_X7_again_31 {p : Program} {l : Launch} {e : Env} {s : State} {m : MethodId} {args : Array Value} {below : List Frame} {meth : Method} {c : Code} {E : Ev} {ad : Nat → Nat} {g : Gp} {r : Int32} {h9 : Hp} (C : CallFix p m c cX7_again 3 s args lwA RX7) (hr : meth.sig.returnType = (some .int)) (hlk : meth.locks = false) (X : Sx E ad s) (hI : Inj ad)  : ∀ (n : Nat), ∀ (h : Hp) (v1 : Int32) (v2 : Int32) (H : Heap) (locs : List Loc) (ls : Array Slot), At E ad h g s H locs → lv_has ls 3 [(0, .ref (ad 141)), (1, .int v1), (2, .int v2)] → qX7_again_31 n h v1 v2 = some (r, h9) → W p l e (RM 1 25) s m args below meth c H locs 0 0 (QI E ad h9 g r below args s) (F0 m 31 ls []) := by
  intro n
  induction n with
  | zero =>
    intro h v1 v2 H locs ls w hl hf
    cases hf
  | succ n ih =>
    intro h v1 v2 H locs ls w hl hf
    rw [qX7_again_31] at hf
    refine lv_iload_n C.1 C.2.1 dX7_again_31 rfl (lv_at hl 2 rfl) ?_
    refine lv_bipush (v := 36) C.1 C.2.1 dX7_again_32 (by decide) ?_
    refine lv_icmp_ge (tgt := 60) C.1 C.2.1 dX7_again_34 (by decide) (fun c27 => ?_) (fun c27 => ?_)
    · rw [if_pos c27] at hf
      refine lv_aload_n C.1 C.2.1 dX7_again_60 rfl (lv_at hl 0 rfl) ?_
      refine lv_iconst (v := 0) C.1 C.2.1 dX7_again_61 (by decide) ?_
      obtain ⟨h28, eh28, hf⟩ := bd_e hf
      refine pf_X7_93 C X hI w dX7_again_62 (fun H locs w => ?_)
      replace w := at_eq eh28 w
      refine lv_aload_n C.1 C.2.1 dX7_again_65 rfl (lv_at hl 0 rfl) ?_
      refine gf_X7_26 C X w rfl dX7_again_66 ?_
      refine lv_bipush (v := 35) C.1 C.2.1 dX7_again_69 (by decide) ?_
      refine x_ild (v := (h28 38) 35) C X w (wl_r38 (rfl)) (by decide) (congrArg _ (show (35 : Int32).toNatClampNeg = 35 by decide)) dX7_again_71 ?_
      cases hf
      exact x_iret C hr hlk w dX7_again_72
    · rw [if_neg c27] at hf
      refine lv_aload_n C.1 C.2.1 dX7_again_37 rfl (lv_at hl 0 rfl) ?_
      refine gf_X7_26 C X w rfl dX7_again_38 ?_
      refine lv_iload_n C.1 C.2.1 dX7_again_41 rfl (lv_at hl 2 rfl) ?_
      refine lv_aload_n C.1 C.2.1 dX7_again_42 rfl (lv_at hl 0 rfl) ?_
      refine gf_X7_35 C X w rfl dX7_again_43 ?_
      refine lv_bipush (v := 36) C.1 C.2.1 dX7_again_46 (by decide) ?_
      refine lv_iload_n C.1 C.2.1 dX7_again_48 rfl (lv_at hl 1 rfl) ?_
      refine lv_imul C.1 C.2.1 dX7_again_49 ?_
      refine lv_iload_n C.1 C.2.1 dX7_again_50 rfl (lv_at hl 2 rfl) ?_
      refine lv_iadd C.1 C.2.1 dX7_again_51 ?_
      obtain ⟨i29, hf⟩ := ck_e hf
      refine x_ild (v := (h 41) ((((36 : Int32) * v1) + v2)).toNatClampNeg) C X w (wl_r41 (rfl)) i29 (rfl) dX7_again_52 ?_
      obtain ⟨i30, hf⟩ := ck_e hf
      obtain ⟨h31, eh31, hf⟩ := bd_e hf
      refine x_ist (h2 := su h 38 (upd (h 38) v2.toNatClampNeg ((h 41) ((((36 : Int32) * v1) + v2)).toNatClampNeg))) C X hI w (wl_r38 rfl) i30 ws_r38 dX7_again_53 (fun H locs w => ?_)
      replace w := at_eq eh31 w
      refine lv_iinc (v := (v2 + 1)) (lv' := [(2, .int (v2 + 1)), (0, .ref (ad 141)), (1, .int v1)]) C.1 C.2.1 dX7_again_54 hl (k := 2) rfl (congrArg (fun z => v2 + z) (by decide)) (by decide) rfl (fun ls hl => ?_)
      refine lv_goto (tgt := 31) C.1 C.2.1 dX7_again_57 (by decide) ?_
      exact ih _ _ _ _ _ _ w (lv_sub hl [1, 2, 0] rfl) hf
def qX7_again (h : Hp) (x1 : Int32) : Option (Int32 × Hp) :=
(bd (su h 33 (upd (h 33) 0 (0 : Int32))) (fun h21 =>
(bi1 (qX7_in ((x1).toInt64) (0 : Int64) (1 : Int64)) (fun r23 =>
(if r23 = 0 then (some ((-1 : Int32), h21))
else (ck (inb x1 2) ((if ((h21 42) x1.toNatClampNeg) = 0 then (some ((-3 : Int32), h21))
else (qX7_again_31 600 h21 x1 (0 : Int32))))))))))
set_option maxHeartbeats 4000000 in
set_option maxRecDepth 100000 in
theorem c_X7_again {l : Launch} {E : Ev} {ad : Nat → Nat} {g : Gp} {h : Hp} {x1 : Int32} {r : Int32} {h9 : Hp} (hI : Inj ad) (hf : qX7_again h x1 = some (r, h9)) : CtI l yX7_again cX7_again 3 (some .int) 1 25 E ad g g [.ref (ad 141), .int x1] h h9 r := by
  refine x_begin (by decide) (Nat.le_of_ble_eq_true rfl) ?_
  intro p e s m below meth c ls C hr hlk X w hl
  replace hl : lv_has ls 3 [(0, .ref (ad 141)), (1, .int x1)] := hl
  replace C : CallFix p m c cX7_again 3 s ([.ref (ad 141), .int x1] : List Value).toArray lwA RX7 := C
  unfold qX7_again at hf
  refine lv_aload_n C.1 C.2.1 dX7_again_0 rfl (lv_at hl 0 rfl) ?_
  refine lv_iconst (v := 0) C.1 C.2.1 dX7_again_1 (by decide) ?_
  obtain ⟨h21, eh21, hf⟩ := bd_e hf
  refine pf_X7_51 C X hI w dX7_again_2 (fun H locs w => ?_)
  replace w := at_eq eh21 w
  refine lv_iload_n C.1 C.2.1 dX7_again_5 rfl (lv_at hl 1 rfl) ?_
  refine lv_i2l (v := (x1).toInt64) C.1 C.2.1 dX7_again_6 rfl ?_
  refine lv_lconst (v := 0) C.1 C.2.1 dX7_again_7 (by decide) ?_
  refine lv_lconst (v := 1) C.1 C.2.1 dX7_again_8 (by decide) ?_
  obtain ⟨r23, eq22, hf⟩ := bi1_e hf
  refine x_cSi (As := [.long ((x1).toInt64), .long (0 : Int64), .long (1 : Int64)]) (rest := []) C X w (c_X7_in hI  eq22) mw_X7_in ml_X7_57 rfl hl.1 rfl (Nat.le_of_ble_eq_true rfl) ⟨⟨Nat.le_of_ble_eq_true rfl, Nat.le_of_ble_eq_true rfl⟩, Nat.le_of_ble_eq_true rfl, Nat.le_of_ble_eq_true rfl⟩ dX7_again_9 (fun H locs w => ?_)
  refine lv_if_ne (tgt := 17) C.1 C.2.1 dX7_again_12 (by decide) (fun c24 => ?_) (fun c24 => ?_)
  · rw [if_neg c24] at hf
    refine lv_aload_n C.1 C.2.1 dX7_again_17 rfl (lv_at hl 0 rfl) ?_
    refine gf_X7_38 C X w rfl dX7_again_18 ?_
    refine lv_iload_n C.1 C.2.1 dX7_again_21 rfl (lv_at hl 1 rfl) ?_
    obtain ⟨i25, hf⟩ := ck_e hf
    refine x_zld (v := (h21 42) x1.toNatClampNeg) C X w (wl_r42 (rfl)) i25 (rfl) dX7_again_22 ?_
    refine lv_if_ne (tgt := 29) C.1 C.2.1 dX7_again_23 (by decide) (fun c26 => ?_) (fun c26 => ?_)
    · rw [if_neg c26] at hf
      refine lv_iconst (v := 0) C.1 C.2.1 dX7_again_29 (by decide) ?_
      refine lv_istore_n (lv' := [(2, .int (0 : Int32)), (0, .ref (ad 141)), (1, .int x1)]) C.1 C.2.1 dX7_again_30 rfl hl (by decide) rfl (fun ls hl => ?_)
      exact w_X7_again_31 C hr hlk X hI 600 _ _ _ _ _ _ w (lv_sub hl [1, 2, 0] rfl) hf
    · rw [if_pos c26] at hf
      refine lv_bipush (v := -3) C.1 C.2.1 dX7_again_26 (by decide) ?_
      cases hf
      exact x_iret C hr hlk w dX7_again_28
  · rw [if_pos c24] at hf
    refine lv_iconst (v := -1) C.1 C.2.1 dX7_again_15 (by decide) ?_
    cases hf
    exact x_iret C hr hlk w dX7_again_16
