def qX1_tellFrom_10 : Nat → Hp → Int32 → Option (Hp)
  | 0, _, _ => none
  | n + 1, h, v2 =>
    (if ((h 21) 0) ≤ v2 then (some h)
    else (bi1 (qX5_figureOfChild (h 19) (h 20) v2 (2 : Int32)) (fun r26 =>
    (ck (inb v2 5) (bd (su h 22 (upd (h 22) v2.toNatClampNeg r26)) (fun h28 =>
    (bi1 (qX5_figureOfChild (h28 19) (h28 20) v2 (3 : Int32)) (fun r30 =>
    (ck (inb v2 5) (bd (su h28 23 (upd (h28 23) v2.toNatClampNeg r30)) (fun h32 =>
    (qX1_tellFrom_10 n h32 (v2 + 1)))))))))))))
set_option maxHeartbeats 4000000 in
set_option maxRecDepth 100000 in
theorem w_X1_tellFrom_10 {p : Program} {l : Launch} {e : Env} {s : State} {m : MethodId} {args : Array Value} {below : List Frame} {meth : Method} {c : Code} {E : Ev} {ad : Nat → Nat} {g : Gp} {h9 : Hp} (C : CallFix p m c cX1_tellFrom 3 s args lwA RX1) (hr : meth.sig.returnType = none) (hlk : meth.locks = false) (X : Sx E ad s) (hI : Inj ad)  : ∀ (n : Nat), ∀ (h : Hp) (v2 : Int32) (H : Heap) (locs : List Loc) (ls : Array Slot), At E ad h g s H locs → lv_has ls 3 [(0, .ref (ad 129)), (1, .ref (ad 127)), (2, .int v2)] → qX1_tellFrom_10 n h v2 = some h9 → W p l e (RM 2 43) s m args below meth c H locs 0 0 (QV E ad h9 g below args s) (F0 m 10 ls []) := by
  intro n
  induction n with
  | zero =>
    intro h v2 H locs ls w hl hf
    cases hf
  | succ n ih =>
    intro h v2 H locs ls w hl hf
    rw [qX1_tellFrom_10] at hf
    refine lv_iload_n C.1 C.2.1 dX1_tellFrom_10 rfl (lv_at hl 2 rfl) ?_
    refine lv_aload_n C.1 C.2.1 dX1_tellFrom_11 rfl (lv_at hl 0 rfl) ?_
    refine gf_X1_9 C X w (rfl) dX1_tellFrom_12 ?_
    refine lv_icmp_ge (tgt := 48) C.1 C.2.1 dX1_tellFrom_15 (by decide) (fun c24 => ?_) (fun c24 => ?_)
    · rw [if_pos c24] at hf
      cases hf
      exact x_vret C hr hlk w dX1_tellFrom_48
    · rw [if_neg c24] at hf
      refine lv_aload_n C.1 C.2.1 dX1_tellFrom_18 rfl (lv_at hl 0 rfl) ?_
      refine gf_X1_15 C X w rfl dX1_tellFrom_19 ?_
      refine lv_iload_n C.1 C.2.1 dX1_tellFrom_22 rfl (lv_at hl 2 rfl) ?_
      refine lv_aload_n C.1 C.2.1 dX1_tellFrom_23 rfl (lv_at hl 1 rfl) ?_
      refine lv_iload_n C.1 C.2.1 dX1_tellFrom_24 rfl (lv_at hl 2 rfl) ?_
      refine lv_iconst (v := 2) C.1 C.2.1 dX1_tellFrom_25 (by decide) ?_
      obtain ⟨r26, eq25, hf⟩ := bi1_e hf
      refine x_cViN (As := [.int v2, .int (2 : Int32)]) (rest := [.int v2, .ref (ad 130)]) C X w (c_X5_figureOfChild hI (rfl) (rfl) eq25) mw_X5_figureOfChild ml_X1_28 rcv_r19 rfl hl.1 rfl (Nat.le_of_ble_eq_true rfl) ⟨⟨Nat.le_of_ble_eq_true rfl, Nat.le_of_ble_eq_true rfl⟩, Nat.le_of_ble_eq_true rfl, Nat.le_of_ble_eq_true rfl⟩ dX1_tellFrom_26 (fun H locs w => ?_)
      obtain ⟨i27, hf⟩ := ck_e hf
      obtain ⟨h28, eh28, hf⟩ := bd_e hf
      refine x_ist (h2 := su h 22 (upd (h 22) v2.toNatClampNeg r26)) C X hI w (wl_r22 rfl) i27 ws_r22 dX1_tellFrom_29 (fun H locs w => ?_)
      replace w := at_eq eh28 w
      refine lv_aload_n C.1 C.2.1 dX1_tellFrom_30 rfl (lv_at hl 0 rfl) ?_
      refine gf_X1_19 C X w rfl dX1_tellFrom_31 ?_
      refine lv_iload_n C.1 C.2.1 dX1_tellFrom_34 rfl (lv_at hl 2 rfl) ?_
      refine lv_aload_n C.1 C.2.1 dX1_tellFrom_35 rfl (lv_at hl 1 rfl) ?_
      refine lv_iload_n C.1 C.2.1 dX1_tellFrom_36 rfl (lv_at hl 2 rfl) ?_
      refine lv_iconst (v := 3) C.1 C.2.1 dX1_tellFrom_37 (by decide) ?_
      obtain ⟨r30, eq29, hf⟩ := bi1_e hf
      refine x_cViN (As := [.int v2, .int (3 : Int32)]) (rest := [.int v2, .ref (ad 131)]) C X w (c_X5_figureOfChild hI (rfl) (rfl) eq29) mw_X5_figureOfChild ml_X1_28 rcv_r19 rfl hl.1 rfl (Nat.le_of_ble_eq_true rfl) ⟨⟨Nat.le_of_ble_eq_true rfl, Nat.le_of_ble_eq_true rfl⟩, Nat.le_of_ble_eq_true rfl, Nat.le_of_ble_eq_true rfl⟩ dX1_tellFrom_38 (fun H locs w => ?_)
      obtain ⟨i31, hf⟩ := ck_e hf
      obtain ⟨h32, eh32, hf⟩ := bd_e hf
      refine x_ist (h2 := su h28 23 (upd (h28 23) v2.toNatClampNeg r30)) C X hI w (wl_r23 rfl) i31 ws_r23 dX1_tellFrom_41 (fun H locs w => ?_)
      replace w := at_eq eh32 w
      refine lv_iinc (v := (v2 + 1)) (lv' := [(2, .int (v2 + 1)), (0, .ref (ad 129)), (1, .ref (ad 127))]) C.1 C.2.1 dX1_tellFrom_42 hl (k := 2) rfl (congrArg (fun z => v2 + z) (by decide)) (by decide) rfl (fun ls hl => ?_)
      refine lv_goto (tgt := 10) C.1 C.2.1 dX1_tellFrom_45 (by decide) ?_
      exact ih _ _ _ _ _ w (lv_sub hl [1, 2, 0] rfl) hf
def qX1_tellFrom (h : Hp) : Option (Hp) :=
(bi1 (qX5_countChildren (h 19)) (fun r22 =>
(bd (su h 21 (upd (h 21) 0 r22)) (fun h23 =>
(qX1_tellFrom_10 600 h23 (0 : Int32))))))
set_option maxHeartbeats 4000000 in
set_option maxRecDepth 100000 in
theorem c_X1_tellFrom {l : Launch} {E : Ev} {ad : Nat → Nat} {g : Gp} {h : Hp} {h9 : Hp} (hI : Inj ad) (hf : qX1_tellFrom h = some h9) : CtV l yX1_tellFrom cX1_tellFrom 3 none 2 43 E ad g g [.ref (ad 129), .ref (ad 127)] h h9 := by
  refine x_begin (by decide) (Nat.le_of_ble_eq_true rfl) ?_
  intro p e s m below meth c ls C hr hlk X w hl
  replace hl : lv_has ls 3 [(0, .ref (ad 129)), (1, .ref (ad 127))] := hl
  replace C : CallFix p m c cX1_tellFrom 3 s ([.ref (ad 129), .ref (ad 127)] : List Value).toArray lwA RX1 := C
  unfold qX1_tellFrom at hf
  refine lv_aload_n C.1 C.2.1 dX1_tellFrom_0 rfl (lv_at hl 0 rfl) ?_
  refine lv_aload_n C.1 C.2.1 dX1_tellFrom_1 rfl (lv_at hl 1 rfl) ?_
  obtain ⟨r22, eq21, hf⟩ := bi1_e hf
  refine x_cViN (As := []) (rest := [.ref (ad 129)]) C X w (c_X5_countChildren hI (rfl) eq21) mw_X5_countChildren ml_X1_22 rcv_r19 rfl hl.1 rfl (Nat.le_of_ble_eq_true rfl) ⟨⟨Nat.le_of_ble_eq_true rfl, Nat.le_of_ble_eq_true rfl⟩, Nat.le_of_ble_eq_true rfl, Nat.le_of_ble_eq_true rfl⟩ dX1_tellFrom_2 (fun H locs w => ?_)
  obtain ⟨h23, eh23, hf⟩ := bd_e hf
  refine pf_X1_9 C X hI w dX1_tellFrom_5 (fun H locs w => ?_)
  replace w := at_eq eh23 w
  refine lv_iconst (v := 0) C.1 C.2.1 dX1_tellFrom_8 (by decide) ?_
  refine lv_istore_n (lv' := [(2, .int (0 : Int32)), (0, .ref (ad 129)), (1, .ref (ad 127))]) C.1 C.2.1 dX1_tellFrom_9 rfl hl (by decide) rfl (fun ls hl => ?_)
  exact w_X1_tellFrom_10 C hr hlk X hI 600 _ _ _ _ _ w (lv_sub hl [1, 2, 0] rfl) hf

def qX4_forgetAll_2 : Nat → Hp → Int32 → Option (Hp)
  | 0, _, _ => none
  | n + 1, h, v1 =>
    (if (2 : Int32) ≤ v1 then (some h)
    else (ck (inb v1 2) (bd (su h 28 (upd (h 28) v1.toNatClampNeg (0 : Int32))) (fun h23 =>
    (qX4_forgetAll_2 n h23 (v1 + 1))))))
set_option maxHeartbeats 4000000 in
set_option maxRecDepth 100000 in
theorem w_X4_forgetAll_2 {p : Program} {l : Launch} {e : Env} {s : State} {m : MethodId} {args : Array Value} {below : List Frame} {meth : Method} {c : Code} {E : Ev} {ad : Nat → Nat} {g : Gp} {h9 : Hp} (C : CallFix p m c cX4_forgetAll 2 s args lwA RX4) (hr : meth.sig.returnType = none) (hlk : meth.locks = false) (X : Sx E ad s) (hI : Inj ad)  : ∀ (n : Nat), ∀ (h : Hp) (v1 : Int32) (H : Heap) (locs : List Loc) (ls : Array Slot), At E ad h g s H locs → lv_has ls 2 [(0, .ref (ad 134)), (1, .int v1)] → qX4_forgetAll_2 n h v1 = some h9 → W p l e (RM 0 0) s m args below meth c H locs 0 0 (QV E ad h9 g below args s) (F0 m 2 ls []) := by
  intro n
  induction n with
  | zero =>
    intro h v1 H locs ls w hl hf
    cases hf
  | succ n ih =>
    intro h v1 H locs ls w hl hf
    rw [qX4_forgetAll_2] at hf
    refine lv_iload_n C.1 C.2.1 dX4_forgetAll_2 rfl (lv_at hl 1 rfl) ?_
    refine lv_iconst (v := 2) C.1 C.2.1 dX4_forgetAll_3 (by decide) ?_
    refine lv_icmp_ge (tgt := 20) C.1 C.2.1 dX4_forgetAll_4 (by decide) (fun c21 => ?_) (fun c21 => ?_)
    · rw [if_pos c21] at hf
      cases hf
      exact x_vret C hr hlk w dX4_forgetAll_20
    · rw [if_neg c21] at hf
      refine lv_aload_n C.1 C.2.1 dX4_forgetAll_7 rfl (lv_at hl 0 rfl) ?_
      refine gf_X4_17 C X w rfl dX4_forgetAll_8 ?_
      refine lv_iload_n C.1 C.2.1 dX4_forgetAll_11 rfl (lv_at hl 1 rfl) ?_
      refine lv_iconst (v := 0) C.1 C.2.1 dX4_forgetAll_12 (by decide) ?_
      obtain ⟨i22, hf⟩ := ck_e hf
      obtain ⟨h23, eh23, hf⟩ := bd_e hf
      refine x_zst (h2 := su h 28 (upd (h 28) v1.toNatClampNeg (0 : Int32))) C X hI w (wl_r28 rfl) i22 (by decide) ws_r28 dX4_forgetAll_13 (fun H locs w => ?_)
      replace w := at_eq eh23 w
      refine lv_iinc (v := (v1 + 1)) (lv' := [(1, .int (v1 + 1)), (0, .ref (ad 134))]) C.1 C.2.1 dX4_forgetAll_14 hl (k := 1) rfl (congrArg (fun z => v1 + z) (by decide)) (by decide) rfl (fun ls hl => ?_)
      refine lv_goto (tgt := 2) C.1 C.2.1 dX4_forgetAll_17 (by decide) ?_
      exact ih _ _ _ _ _ w (lv_sub hl [1, 0] rfl) hf
def qX4_forgetAll (h : Hp) : Option (Hp) :=
(qX4_forgetAll_2 600 h (0 : Int32))
set_option maxHeartbeats 4000000 in
set_option maxRecDepth 100000 in
theorem c_X4_forgetAll {l : Launch} {E : Ev} {ad : Nat → Nat} {g : Gp} {h : Hp} {h9 : Hp} (hI : Inj ad) (hf : qX4_forgetAll h = some h9) : CtV l yX4_forgetAll cX4_forgetAll 2 none 0 0 E ad g g [.ref (ad 134)] h h9 := by
  refine x_begin (by decide) (Nat.le_of_ble_eq_true rfl) ?_
  intro p e s m below meth c ls C hr hlk X w hl
  replace hl : lv_has ls 2 [(0, .ref (ad 134))] := hl
  replace C : CallFix p m c cX4_forgetAll 2 s ([.ref (ad 134)] : List Value).toArray lwA RX4 := C
  unfold qX4_forgetAll at hf
  refine lv_iconst (v := 0) C.1 C.2.1 dX4_forgetAll_0 (by decide) ?_
  refine lv_istore_n (lv' := [(1, .int (0 : Int32)), (0, .ref (ad 134))]) C.1 C.2.1 dX4_forgetAll_1 rfl hl (by decide) rfl (fun ls hl => ?_)
  exact w_X4_forgetAll_2 C hr hlk X hI 600 _ _ _ _ _ w (lv_sub hl [1, 0] rfl) hf

def qX1_might (R22 : Row) (R23 : Row) (x1 : Int32) : Option (Int32) :=
(ck (inb x1 5) ((ck (inb x1 5) ((if (R23 x1.toNatClampNeg) = (1 : Int32) then (some ((R22 x1.toNatClampNeg) + (2 : Int32)))
else (some ((R22 x1.toNatClampNeg) + (0 : Int32))))))))
set_option maxHeartbeats 4000000 in
set_option maxRecDepth 100000 in
theorem c_X1_might {l : Launch} {E : Ev} {ad : Nat → Nat} {g : Gp} {h : Hp} {R22 : Row} {R23 : Row} {x1 : Int32} {r : Int32} (hI : Inj ad) (e22 : h 22 = R22) (e23 : h 23 = R23) (hf : qX1_might R22 R23 x1 = some r) : CtI l yX1_might cX1_might 2 (some .int) 0 0 E ad g g [.ref (ad 129), .int x1] h h r := by
  refine x_begin (by decide) (Nat.le_of_ble_eq_true rfl) ?_
  intro p e s m below meth c ls C hr hlk X w hl
  replace hl : lv_has ls 2 [(0, .ref (ad 129)), (1, .int x1)] := hl
  replace C : CallFix p m c cX1_might 2 s ([.ref (ad 129), .int x1] : List Value).toArray lwA RX1 := C
  unfold qX1_might at hf
  refine lv_aload_n C.1 C.2.1 dX1_might_0 rfl (lv_at hl 0 rfl) ?_
  refine gf_X1_15 C X w rfl dX1_might_1 ?_
  refine lv_iload_n C.1 C.2.1 dX1_might_4 rfl (lv_at hl 1 rfl) ?_
  obtain ⟨i21, hf⟩ := ck_e hf
  refine x_ild (v := R22 x1.toNatClampNeg) C X w (wl_r22 (e22)) i21 (rfl) dX1_might_5 ?_
  refine lv_aload_n C.1 C.2.1 dX1_might_6 rfl (lv_at hl 0 rfl) ?_
  refine gf_X1_19 C X w rfl dX1_might_7 ?_
  refine lv_iload_n C.1 C.2.1 dX1_might_10 rfl (lv_at hl 1 rfl) ?_
  obtain ⟨i22, hf⟩ := ck_e hf
  refine x_ild (v := R23 x1.toNatClampNeg) C X w (wl_r23 (e23)) i22 (rfl) dX1_might_11 ?_
  refine lv_iconst (v := 1) C.1 C.2.1 dX1_might_12 (by decide) ?_
  refine lv_icmp_ne (tgt := 20) C.1 C.2.1 dX1_might_13 (by decide) (fun c23 => ?_) (fun c23 => ?_)
  · rw [if_neg c23] at hf
    refine lv_iconst (v := 0) C.1 C.2.1 dX1_might_20 (by decide) ?_
    refine lv_iadd C.1 C.2.1 dX1_might_21 ?_
    cases hf
    exact x_iret C hr hlk w dX1_might_22
  · rw [if_pos c23] at hf
    refine lv_iconst (v := 2) C.1 C.2.1 dX1_might_16 (by decide) ?_
    refine lv_goto (tgt := 21) C.1 C.2.1 dX1_might_17 (by decide) ?_
    refine lv_iadd C.1 C.2.1 dX1_might_21 ?_
    cases hf
    exact x_iret C hr hlk w dX1_might_22

def qX3_append (h : Hp) (x1 : Int32) (x2 : Int32) : Option (Hp) :=
(if (6 : Int32) ≤ ((h 29) 2) then (some h)
else (ck (inb ((h 29) 2) 6) (bd (su h 30 (upd (h 30) (((h 29) 2)).toNatClampNeg x1)) (fun h23 =>
(ck (inb ((h23 29) 2) 6) (bd (su h23 31 (upd (h23 31) (((h23 29) 2)).toNatClampNeg x2)) (fun h25 =>
(bd (su h25 29 (upd (h25 29) 2 (((h25 29) 2) + (1 : Int32)))) (fun h26 =>
(some h26))))))))))
set_option maxHeartbeats 4000000 in
set_option maxRecDepth 100000 in
theorem c_X3_append {l : Launch} {E : Ev} {ad : Nat → Nat} {g : Gp} {h : Hp} {x1 : Int32} {x2 : Int32} {h9 : Hp} (hI : Inj ad) (hf : qX3_append h x1 x2 = some h9) : CtV l yX3_append cX3_append 3 none 0 0 E ad g g [.ref (ad 137), .int x1, .int x2] h h9 := by
  refine x_begin (by decide) (Nat.le_of_ble_eq_true rfl) ?_
  intro p e s m below meth c ls C hr hlk X w hl
  replace hl : lv_has ls 3 [(0, .ref (ad 137)), (1, .int x1), (2, .int x2)] := hl
  replace C : CallFix p m c cX3_append 3 s ([.ref (ad 137), .int x1, .int x2] : List Value).toArray lwA RX3 := C
  unfold qX3_append at hf
  refine lv_aload_n C.1 C.2.1 dX3_append_0 rfl (lv_at hl 0 rfl) ?_
  refine gf_X3_18 C X w (rfl) dX3_append_1 ?_
  refine lv_bipush (v := 6) C.1 C.2.1 dX3_append_4 (by decide) ?_
  refine lv_icmp_ge (tgt := 39) C.1 C.2.1 dX3_append_6 (by decide) (fun c21 => ?_) (fun c21 => ?_)
  · rw [if_pos c21] at hf
    cases hf
    exact x_vret C hr hlk w dX3_append_39
  · rw [if_neg c21] at hf
    refine lv_aload_n C.1 C.2.1 dX3_append_9 rfl (lv_at hl 0 rfl) ?_
    refine gf_X3_9 C X w rfl dX3_append_10 ?_
    refine lv_aload_n C.1 C.2.1 dX3_append_13 rfl (lv_at hl 0 rfl) ?_
    refine gf_X3_18 C X w (rfl) dX3_append_14 ?_
    refine lv_iload_n C.1 C.2.1 dX3_append_17 rfl (lv_at hl 1 rfl) ?_
    obtain ⟨i22, hf⟩ := ck_e hf
    obtain ⟨h23, eh23, hf⟩ := bd_e hf
    refine x_ist (h2 := su h 30 (upd (h 30) (((h 29) 2)).toNatClampNeg x1)) C X hI w (wl_r30 rfl) i22 ws_r30 dX3_append_18 (fun H locs w => ?_)
    replace w := at_eq eh23 w
    refine lv_aload_n C.1 C.2.1 dX3_append_19 rfl (lv_at hl 0 rfl) ?_
    refine gf_X3_15 C X w rfl dX3_append_20 ?_
    refine lv_aload_n C.1 C.2.1 dX3_append_23 rfl (lv_at hl 0 rfl) ?_
    refine gf_X3_18 C X w (rfl) dX3_append_24 ?_
    refine lv_iload_n C.1 C.2.1 dX3_append_27 rfl (lv_at hl 2 rfl) ?_
    obtain ⟨i24, hf⟩ := ck_e hf
    obtain ⟨h25, eh25, hf⟩ := bd_e hf
    refine x_ist (h2 := su h23 31 (upd (h23 31) (((h23 29) 2)).toNatClampNeg x2)) C X hI w (wl_r31 rfl) i24 ws_r31 dX3_append_28 (fun H locs w => ?_)
    replace w := at_eq eh25 w
    refine lv_aload_n C.1 C.2.1 dX3_append_29 rfl (lv_at hl 0 rfl) ?_
    refine lv_dup C.1 C.2.1 dX3_append_30 rfl ?_
    refine gf_X3_18 C X w (rfl) dX3_append_31 ?_
    refine lv_iconst (v := 1) C.1 C.2.1 dX3_append_34 (by decide) ?_
    refine lv_iadd C.1 C.2.1 dX3_append_35 ?_
    obtain ⟨h26, eh26, hf⟩ := bd_e hf
    refine pf_X3_18 C X hI w dX3_append_36 (fun H locs w => ?_)
    replace w := at_eq eh26 w
    cases hf
    exact x_vret C hr hlk w dX3_append_39

def qX3_ridersIn_33 (R29 : Row) (R30 : Row) (R31 : Row) (k4 : Int32 → Int32 → Int32 → Option (Int32)) (v1 : Int32) (v2 : Int32) (v3 : Int32) : Option (Int32) :=
(k4 v1 v2 (v3 + 1))
set_option maxHeartbeats 4000000 in
set_option maxRecDepth 100000 in
theorem w_X3_ridersIn_33 {p : Program} {l : Launch} {e : Env} {s : State} {m : MethodId} {args : Array Value} {below : List Frame} {meth : Method} {c : Code} {E : Ev} {ad : Nat → Nat} {g : Gp} {h : Hp} {R29 : Row} {R30 : Row} {R31 : Row} {r : Int32} {k4 : Int32 → Int32 → Int32 → Option (Int32)} (C : CallFix p m c cX3_ridersIn 4 s args lwA RX3) (hr : meth.sig.returnType = (some .int)) (hlk : meth.locks = false) (X : Sx E ad s) (hI : Inj ad) (e29 : h 29 = R29) (e30 : h 30 = R30) (e31 : h 31 = R31) (hk4 : ∀ (v1 : Int32) (v2 : Int32) (v3 : Int32) (H : Heap) (locs : List Loc) (ls : Array Slot), At E ad h g s H locs → lv_has ls 4 [(0, .ref (ad 137)), (1, .int v1), (2, .int v2), (3, .int v3)] → k4  v1 v2 v3 = some r → W p l e (RM 0 0) s m args below meth c H locs 0 0 (QI E ad h g r below args s) (F0 m 4 ls [])) : ∀ (v1 : Int32) (v2 : Int32) (v3 : Int32) (H : Heap) (locs : List Loc) (ls : Array Slot), At E ad h g s H locs → lv_has ls 4 [(0, .ref (ad 137)), (1, .int v1), (2, .int v2), (3, .int v3)] → qX3_ridersIn_33 R29 R30 R31 k4 v1 v2 v3 = some r → W p l e (RM 0 0) s m args below meth c H locs 0 0 (QI E ad h g r below args s) (F0 m 33 ls []) := by
  intro v1 v2 v3 H locs ls w hl hf
  unfold qX3_ridersIn_33 at hf
  refine lv_iinc (v := (v3 + 1)) (lv' := [(3, .int (v3 + 1)), (0, .ref (ad 137)), (1, .int v1), (2, .int v2)]) C.1 C.2.1 dX3_ridersIn_33 hl (k := 3) rfl (congrArg (fun z => v3 + z) (by decide)) (by decide) rfl (fun ls hl => ?_)
  refine lv_goto (tgt := 4) C.1 C.2.1 dX3_ridersIn_36 (by decide) ?_
  exact hk4 _ _ _ _ _ _ w (lv_sub hl [1, 2, 3, 0] rfl) hf
def qX3_ridersIn_4 (R29 : Row) (R30 : Row) (R31 : Row) : Nat → Int32 → Int32 → Int32 → Option (Int32)
  | 0, _, _, _ => none
  | n + 1, v1, v2, v3 =>
    (if (R29 2) ≤ v3 then (some v2)
    else (ck (inb v3 6) ((if (R31 v3.toNatClampNeg) = v1 then (ck (inb v3 6) ((qX3_ridersIn_33 R29 R30 R31 (qX3_ridersIn_4 R29 R30 R31 n) v1 (v2 ||| ((1 : Int32) <<< ((R30 v3.toNatClampNeg) &&& 31))) v3)))
    else (qX3_ridersIn_33 R29 R30 R31 (qX3_ridersIn_4 R29 R30 R31 n) v1 v2 v3)))))
set_option maxHeartbeats 4000000 in
set_option maxRecDepth 100000 in
theorem w_X3_ridersIn_4 {p : Program} {l : Launch} {e : Env} {s : State} {m : MethodId} {args : Array Value} {below : List Frame} {meth : Method} {c : Code} {E : Ev} {ad : Nat → Nat} {g : Gp} {h : Hp} {R29 : Row} {R30 : Row} {R31 : Row} {r : Int32} (C : CallFix p m c cX3_ridersIn 4 s args lwA RX3) (hr : meth.sig.returnType = (some .int)) (hlk : meth.locks = false) (X : Sx E ad s) (hI : Inj ad) (e29 : h 29 = R29) (e30 : h 30 = R30) (e31 : h 31 = R31)  : ∀ (n : Nat), ∀ (v1 : Int32) (v2 : Int32) (v3 : Int32) (H : Heap) (locs : List Loc) (ls : Array Slot), At E ad h g s H locs → lv_has ls 4 [(0, .ref (ad 137)), (1, .int v1), (2, .int v2), (3, .int v3)] → qX3_ridersIn_4 R29 R30 R31 n v1 v2 v3 = some r → W p l e (RM 0 0) s m args below meth c H locs 0 0 (QI E ad h g r below args s) (F0 m 4 ls []) := by
  intro n
  induction n with
  | zero =>
    intro v1 v2 v3 H locs ls w hl hf
    cases hf
  | succ n ih =>
    intro v1 v2 v3 H locs ls w hl hf
    rw [qX3_ridersIn_4] at hf
    refine lv_iload_n C.1 C.2.1 dX3_ridersIn_4 rfl (lv_at hl 3 rfl) ?_
    refine lv_aload_n C.1 C.2.1 dX3_ridersIn_5 rfl (lv_at hl 0 rfl) ?_
    refine gf_X3_18 C X w (e29) dX3_ridersIn_6 ?_
    refine lv_icmp_ge (tgt := 39) C.1 C.2.1 dX3_ridersIn_9 (by decide) (fun c21 => ?_) (fun c21 => ?_)
    · rw [if_pos c21] at hf
      refine lv_iload_n C.1 C.2.1 dX3_ridersIn_39 rfl (lv_at hl 2 rfl) ?_
      cases hf
      exact x_iret C hr hlk w dX3_ridersIn_40
    · rw [if_neg c21] at hf
      refine lv_aload_n C.1 C.2.1 dX3_ridersIn_12 rfl (lv_at hl 0 rfl) ?_
      refine gf_X3_15 C X w rfl dX3_ridersIn_13 ?_
      refine lv_iload_n C.1 C.2.1 dX3_ridersIn_16 rfl (lv_at hl 3 rfl) ?_
      obtain ⟨i22, hf⟩ := ck_e hf
      refine x_ild (v := R31 v3.toNatClampNeg) C X w (wl_r31 (e31)) i22 (rfl) dX3_ridersIn_17 ?_
      refine lv_iload_n C.1 C.2.1 dX3_ridersIn_18 rfl (lv_at hl 1 rfl) ?_
      refine lv_icmp_ne (tgt := 33) C.1 C.2.1 dX3_ridersIn_19 (by decide) (fun c23 => ?_) (fun c23 => ?_)
      · rw [if_neg c23] at hf
        exact w_X3_ridersIn_33 C hr hlk X hI e29 e30 e31 ih _ _ _ _ _ _ w (lv_sub hl [0, 1, 2, 3] rfl) hf
      · rw [if_pos c23] at hf
        refine lv_iload_n C.1 C.2.1 dX3_ridersIn_22 rfl (lv_at hl 2 rfl) ?_
        refine lv_iconst (v := 1) C.1 C.2.1 dX3_ridersIn_23 (by decide) ?_
        refine lv_aload_n C.1 C.2.1 dX3_ridersIn_24 rfl (lv_at hl 0 rfl) ?_
        refine gf_X3_9 C X w rfl dX3_ridersIn_25 ?_
        refine lv_iload_n C.1 C.2.1 dX3_ridersIn_28 rfl (lv_at hl 3 rfl) ?_
        obtain ⟨i24, hf⟩ := ck_e hf
        refine x_ild (v := R30 v3.toNatClampNeg) C X w (wl_r30 (e30)) i24 (rfl) dX3_ridersIn_29 ?_
        refine lv_ishl C.1 C.2.1 dX3_ridersIn_30 ?_
        refine lv_ior C.1 C.2.1 dX3_ridersIn_31 ?_
        refine lv_istore_n (lv' := [(2, .int (v2 ||| ((1 : Int32) <<< ((R30 v3.toNatClampNeg) &&& 31)))), (0, .ref (ad 137)), (1, .int v1), (3, .int v3)]) C.1 C.2.1 dX3_ridersIn_32 rfl hl (by decide) rfl (fun ls hl => ?_)
        exact w_X3_ridersIn_33 C hr hlk X hI e29 e30 e31 ih _ _ _ _ _ _ w (lv_sub hl [1, 2, 0, 3] rfl) hf
def qX3_ridersIn (R29 : Row) (R30 : Row) (R31 : Row) (x1 : Int32) : Option (Int32) :=
(qX3_ridersIn_4 R29 R30 R31 600 x1 (0 : Int32) (0 : Int32))
set_option maxHeartbeats 4000000 in
set_option maxRecDepth 100000 in
theorem c_X3_ridersIn {l : Launch} {E : Ev} {ad : Nat → Nat} {g : Gp} {h : Hp} {R29 : Row} {R30 : Row} {R31 : Row} {x1 : Int32} {r : Int32} (hI : Inj ad) (e29 : h 29 = R29) (e30 : h 30 = R30) (e31 : h 31 = R31) (hf : qX3_ridersIn R29 R30 R31 x1 = some r) : CtI l yX3_ridersIn cX3_ridersIn 4 (some .int) 0 0 E ad g g [.ref (ad 137), .int x1] h h r := by
  refine x_begin (by decide) (Nat.le_of_ble_eq_true rfl) ?_
  intro p e s m below meth c ls C hr hlk X w hl
  replace hl : lv_has ls 4 [(0, .ref (ad 137)), (1, .int x1)] := hl
  replace C : CallFix p m c cX3_ridersIn 4 s ([.ref (ad 137), .int x1] : List Value).toArray lwA RX3 := C
  unfold qX3_ridersIn at hf
  refine lv_iconst (v := 0) C.1 C.2.1 dX3_ridersIn_0 (by decide) ?_
  refine lv_istore_n (lv' := [(2, .int (0 : Int32)), (0, .ref (ad 137)), (1, .int x1)]) C.1 C.2.1 dX3_ridersIn_1 rfl hl (by decide) rfl (fun ls hl => ?_)
  refine lv_iconst (v := 0) C.1 C.2.1 dX3_ridersIn_2 (by decide) ?_
  refine lv_istore_n (lv' := [(3, .int (0 : Int32)), (2, .int (0 : Int32)), (0, .ref (ad 137)), (1, .int x1)]) C.1 C.2.1 dX3_ridersIn_3 rfl hl (by decide) rfl (fun ls hl => ?_)
  exact w_X3_ridersIn_4 C hr hlk X hI e29 e30 e31 600 _ _ _ _ _ _ w (lv_sub hl [2, 3, 1, 0] rfl) hf
