def qX7_in (x0 : Int64) (x2 : Int64) (x4 : Int64) : Option (Int32) :=
(if (lg_cmp x0 x2) < 0 then (some (0 : Int32))
else (if 0 < (lg_cmp x0 x4) then (some (0 : Int32))
else (some (1 : Int32))))
set_option maxHeartbeats 4000000 in
set_option maxRecDepth 100000 in
theorem c_X7_in {l : Launch} {E : Ev} {ad : Nat → Nat} {g : Gp} {h : Hp} {x0 : Int64} {x2 : Int64} {x4 : Int64} {r : Int32} (hI : Inj ad) (hf : qX7_in x0 x2 x4 = some r) : CtI l yX7_in cX7_in 6 (some .boolean) 0 0 E ad g g [.long x0, .long x2, .long x4] h h r := by
  refine x_begin (by decide) (Nat.le_of_ble_eq_true rfl) ?_
  intro p e s m below meth c ls C hr hlk X w hl
  replace hl : lv_has ls 6 [(0, .long x0), (2, .long x2), (4, .long x4)] := hl
  replace C : CallFix p m c cX7_in 6 s ([.long x0, .long x2, .long x4] : List Value).toArray lwA RX7 := C
  unfold qX7_in at hf
  refine lv_lload_n C.1 C.2.1 dX7_in_0 rfl (lv_at hl 0 rfl) ?_
  refine lv_lload_n C.1 C.2.1 dX7_in_1 rfl (lv_at hl 1 rfl) ?_
  refine W.lcmp C.1 C.2.1 dX7_in_2 ?_
  refine lv_if_lt (tgt := 17) C.1 C.2.1 dX7_in_3 (by decide) (fun c21 => ?_) (fun c21 => ?_)
  · rw [if_pos c21] at hf
    refine lv_iconst (v := 0) C.1 C.2.1 dX7_in_17 (by decide) ?_
    cases hf
    exact x_zret C hr hlk w rfl dX7_in_18
  · rw [if_neg c21] at hf
    refine lv_lload_n C.1 C.2.1 dX7_in_6 rfl (lv_at hl 0 rfl) ?_
    refine lv_lload C.1 C.2.1 dX7_in_7 (lv_at hl 2 rfl) ?_
    refine W.lcmp C.1 C.2.1 dX7_in_9 ?_
    refine lv_if_gt (tgt := 17) C.1 C.2.1 dX7_in_10 (by decide) (fun c22 => ?_) (fun c22 => ?_)
    · rw [if_pos c22] at hf
      refine lv_iconst (v := 0) C.1 C.2.1 dX7_in_17 (by decide) ?_
      cases hf
      exact x_zret C hr hlk w rfl dX7_in_18
    · rw [if_neg c22] at hf
      refine lv_iconst (v := 1) C.1 C.2.1 dX7_in_13 (by decide) ?_
      refine lv_goto (tgt := 18) C.1 C.2.1 dX7_in_14 (by decide) ?_
      cases hf
      exact x_zret C hr hlk w rfl dX7_in_18

def qX7_has (x0 : Int32) (x1 : Int32) : Option (Int32) :=
(if ((x0 >>> (x1 &&& 31)) &&& (1 : Int32)) = (1 : Int32) then (some (1 : Int32))
else (some (0 : Int32)))
set_option maxHeartbeats 4000000 in
set_option maxRecDepth 100000 in
theorem c_X7_has {l : Launch} {E : Ev} {ad : Nat → Nat} {g : Gp} {h : Hp} {x0 : Int32} {x1 : Int32} {r : Int32} (hI : Inj ad) (hf : qX7_has x0 x1 = some r) : CtI l yX7_has cX7_has 2 (some .boolean) 0 0 E ad g g [.int x0, .int x1] h h r := by
  refine x_begin (by decide) (Nat.le_of_ble_eq_true rfl) ?_
  intro p e s m below meth c ls C hr hlk X w hl
  replace hl : lv_has ls 2 [(0, .int x0), (1, .int x1)] := hl
  replace C : CallFix p m c cX7_has 2 s ([.int x0, .int x1] : List Value).toArray lwA RX7 := C
  unfold qX7_has at hf
  refine lv_iload_n C.1 C.2.1 dX7_has_0 rfl (lv_at hl 0 rfl) ?_
  refine lv_iload_n C.1 C.2.1 dX7_has_1 rfl (lv_at hl 1 rfl) ?_
  refine lv_ishr C.1 C.2.1 dX7_has_2 ?_
  refine lv_iconst (v := 1) C.1 C.2.1 dX7_has_3 (by decide) ?_
  refine lv_iand C.1 C.2.1 dX7_has_4 ?_
  refine lv_iconst (v := 1) C.1 C.2.1 dX7_has_5 (by decide) ?_
  refine lv_icmp_ne (tgt := 13) C.1 C.2.1 dX7_has_6 (by decide) (fun c21 => ?_) (fun c21 => ?_)
  · rw [if_neg c21] at hf
    refine lv_iconst (v := 0) C.1 C.2.1 dX7_has_13 (by decide) ?_
    cases hf
    exact x_zret C hr hlk w rfl dX7_has_14
  · rw [if_pos c21] at hf
    refine lv_iconst (v := 1) C.1 C.2.1 dX7_has_9 (by decide) ?_
    refine lv_goto (tgt := 14) C.1 C.2.1 dX7_has_10 (by decide) ?_
    cases hf
    exact x_zret C hr hlk w rfl dX7_has_14

def qX7_many_4 : Nat → Int32 → Int32 → Int32 → Option (Int32)
  | 0, _, _, _ => none
  | n + 1, v0, v1, v2 =>
    (if (5 : Int32) ≤ v2 then (some v1)
    else (qX7_many_4 n v0 (v1 + ((v0 >>> (v2 &&& 31)) &&& (1 : Int32))) (v2 + 1)))
set_option maxHeartbeats 4000000 in
set_option maxRecDepth 100000 in
theorem w_X7_many_4 {p : Program} {l : Launch} {e : Env} {s : State} {m : MethodId} {args : Array Value} {below : List Frame} {meth : Method} {c : Code} {E : Ev} {ad : Nat → Nat} {g : Gp} {h : Hp} {r : Int32} (C : CallFix p m c cX7_many 3 s args lwA RX7) (hr : meth.sig.returnType = (some .int)) (hlk : meth.locks = false) (X : Sx E ad s) (hI : Inj ad)  : ∀ (n : Nat), ∀ (v0 : Int32) (v1 : Int32) (v2 : Int32) (H : Heap) (locs : List Loc) (ls : Array Slot), At E ad h g s H locs → lv_has ls 3 [(0, .int v0), (1, .int v1), (2, .int v2)] → qX7_many_4 n v0 v1 v2 = some r → W p l e (RM 0 0) s m args below meth c H locs 0 0 (QI E ad h g r below args s) (F0 m 4 ls []) := by
  intro n
  induction n with
  | zero =>
    intro v0 v1 v2 H locs ls w hl hf
    cases hf
  | succ n ih =>
    intro v0 v1 v2 H locs ls w hl hf
    rw [qX7_many_4] at hf
    refine lv_iload_n C.1 C.2.1 dX7_many_4 rfl (lv_at hl 2 rfl) ?_
    refine lv_iconst (v := 5) C.1 C.2.1 dX7_many_5 (by decide) ?_
    refine lv_icmp_ge (tgt := 23) C.1 C.2.1 dX7_many_6 (by decide) (fun c21 => ?_) (fun c21 => ?_)
    · rw [if_pos c21] at hf
      refine lv_iload_n C.1 C.2.1 dX7_many_23 rfl (lv_at hl 1 rfl) ?_
      cases hf
      exact x_iret C hr hlk w dX7_many_24
    · rw [if_neg c21] at hf
      refine lv_iload_n C.1 C.2.1 dX7_many_9 rfl (lv_at hl 1 rfl) ?_
      refine lv_iload_n C.1 C.2.1 dX7_many_10 rfl (lv_at hl 0 rfl) ?_
      refine lv_iload_n C.1 C.2.1 dX7_many_11 rfl (lv_at hl 2 rfl) ?_
      refine lv_ishr C.1 C.2.1 dX7_many_12 ?_
      refine lv_iconst (v := 1) C.1 C.2.1 dX7_many_13 (by decide) ?_
      refine lv_iand C.1 C.2.1 dX7_many_14 ?_
      refine lv_iadd C.1 C.2.1 dX7_many_15 ?_
      refine lv_istore_n (lv' := [(1, .int (v1 + ((v0 >>> (v2 &&& 31)) &&& (1 : Int32)))), (0, .int v0), (2, .int v2)]) C.1 C.2.1 dX7_many_16 rfl hl (by decide) rfl (fun ls hl => ?_)
      refine lv_iinc (v := (v2 + 1)) (lv' := [(2, .int (v2 + 1)), (1, .int (v1 + ((v0 >>> (v2 &&& 31)) &&& (1 : Int32)))), (0, .int v0)]) C.1 C.2.1 dX7_many_17 hl (k := 2) rfl (congrArg (fun z => v2 + z) (by decide)) (by decide) rfl (fun ls hl => ?_)
      refine lv_goto (tgt := 4) C.1 C.2.1 dX7_many_20 (by decide) ?_
      exact ih _ _ _ _ _ _ w (lv_sub hl [2, 1, 0] rfl) hf
def qX7_many (x0 : Int32) : Option (Int32) :=
(qX7_many_4 600 x0 (0 : Int32) (0 : Int32))
set_option maxHeartbeats 4000000 in
set_option maxRecDepth 100000 in
theorem c_X7_many {l : Launch} {E : Ev} {ad : Nat → Nat} {g : Gp} {h : Hp} {x0 : Int32} {r : Int32} (hI : Inj ad) (hf : qX7_many x0 = some r) : CtI l yX7_many cX7_many 3 (some .int) 0 0 E ad g g [.int x0] h h r := by
  refine x_begin (by decide) (Nat.le_of_ble_eq_true rfl) ?_
  intro p e s m below meth c ls C hr hlk X w hl
  replace hl : lv_has ls 3 [(0, .int x0)] := hl
  replace C : CallFix p m c cX7_many 3 s ([.int x0] : List Value).toArray lwA RX7 := C
  unfold qX7_many at hf
  refine lv_iconst (v := 0) C.1 C.2.1 dX7_many_0 (by decide) ?_
  refine lv_istore_n (lv' := [(1, .int (0 : Int32)), (0, .int x0)]) C.1 C.2.1 dX7_many_1 rfl hl (by decide) rfl (fun ls hl => ?_)
  refine lv_iconst (v := 0) C.1 C.2.1 dX7_many_2 (by decide) ?_
  refine lv_istore_n (lv' := [(2, .int (0 : Int32)), (1, .int (0 : Int32)), (0, .int x0)]) C.1 C.2.1 dX7_many_3 rfl hl (by decide) rfl (fun ls hl => ?_)
  exact w_X7_many_4 C hr hlk X hI 600 _ _ _ _ _ _ w (lv_sub hl [2, 1, 0] rfl) hf

def qX7_noChild (R33 : Row) (x1 : Int32) : Option (Int32) :=
(bi1 (qX7_in ((x1).toInt64) (0 : Int64) ((((R33 4) - (1 : Int32))).toInt64)) (fun r22 =>
(if r22 = 0 then (some (1 : Int32))
else (some (0 : Int32)))))
set_option maxHeartbeats 4000000 in
set_option maxRecDepth 100000 in
theorem c_X7_noChild {l : Launch} {E : Ev} {ad : Nat → Nat} {g : Gp} {h : Hp} {R33 : Row} {x1 : Int32} {r : Int32} (hI : Inj ad) (e33 : h 33 = R33) (hf : qX7_noChild R33 x1 = some r) : CtI l yX7_noChild cX7_noChild 2 (some .boolean) 1 25 E ad g g [.ref (ad 141), .int x1] h h r := by
  refine x_begin (by decide) (Nat.le_of_ble_eq_true rfl) ?_
  intro p e s m below meth c ls C hr hlk X w hl
  replace hl : lv_has ls 2 [(0, .ref (ad 141)), (1, .int x1)] := hl
  replace C : CallFix p m c cX7_noChild 2 s ([.ref (ad 141), .int x1] : List Value).toArray lwA RX7 := C
  unfold qX7_noChild at hf
  refine lv_iload_n C.1 C.2.1 dX7_noChild_0 rfl (lv_at hl 1 rfl) ?_
  refine lv_i2l (v := (x1).toInt64) C.1 C.2.1 dX7_noChild_1 rfl ?_
  refine lv_lconst (v := 0) C.1 C.2.1 dX7_noChild_2 (by decide) ?_
  refine lv_aload_n C.1 C.2.1 dX7_noChild_3 rfl (lv_at hl 0 rfl) ?_
  refine gf_X7_54 C X w (e33) dX7_noChild_4 ?_
  refine lv_iconst (v := 1) C.1 C.2.1 dX7_noChild_7 (by decide) ?_
  refine lv_isub C.1 C.2.1 dX7_noChild_8 ?_
  refine lv_i2l (v := (((R33 4) - (1 : Int32))).toInt64) C.1 C.2.1 dX7_noChild_9 rfl ?_
  obtain ⟨r22, eq21, hf⟩ := bi1_e hf
  refine x_cSi (As := [.long ((x1).toInt64), .long (0 : Int64), .long ((((R33 4) - (1 : Int32))).toInt64)]) (rest := []) C X w (c_X7_in hI  eq21) mw_X7_in ml_X7_57 rfl hl.1 rfl (Nat.le_of_ble_eq_true rfl) ⟨⟨Nat.le_of_ble_eq_true rfl, Nat.le_of_ble_eq_true rfl⟩, Nat.le_of_ble_eq_true rfl, Nat.le_of_ble_eq_true rfl⟩ dX7_noChild_10 (fun H locs w => ?_)
  refine lv_if_ne (tgt := 20) C.1 C.2.1 dX7_noChild_13 (by decide) (fun c23 => ?_) (fun c23 => ?_)
  · rw [if_neg c23] at hf
    refine lv_iconst (v := 0) C.1 C.2.1 dX7_noChild_20 (by decide) ?_
    cases hf
    exact x_zret C hr hlk w rfl dX7_noChild_21
  · rw [if_pos c23] at hf
    refine lv_iconst (v := 1) C.1 C.2.1 dX7_noChild_16 (by decide) ?_
    refine lv_goto (tgt := 21) C.1 C.2.1 dX7_noChild_17 (by decide) ?_
    cases hf
    exact x_zret C hr hlk w rfl dX7_noChild_21

def qX7_might (R35 : Row) (R36 : Row) (x1 : Int32) : Option (Int32) :=
(ck (inb x1 5) ((ck (inb x1 5) ((if (R36 x1.toNatClampNeg) = (1 : Int32) then (some ((R35 x1.toNatClampNeg) + (2 : Int32)))
else (some ((R35 x1.toNatClampNeg) + (0 : Int32))))))))
set_option maxHeartbeats 4000000 in
set_option maxRecDepth 100000 in
theorem c_X7_might {l : Launch} {E : Ev} {ad : Nat → Nat} {g : Gp} {h : Hp} {R35 : Row} {R36 : Row} {x1 : Int32} {r : Int32} (hI : Inj ad) (e35 : h 35 = R35) (e36 : h 36 = R36) (hf : qX7_might R35 R36 x1 = some r) : CtI l yX7_might cX7_might 2 (some .int) 0 0 E ad g g [.ref (ad 141), .int x1] h h r := by
  refine x_begin (by decide) (Nat.le_of_ble_eq_true rfl) ?_
  intro p e s m below meth c ls C hr hlk X w hl
  replace hl : lv_has ls 2 [(0, .ref (ad 141)), (1, .int x1)] := hl
  replace C : CallFix p m c cX7_might 2 s ([.ref (ad 141), .int x1] : List Value).toArray lwA RX7 := C
  unfold qX7_might at hf
  refine lv_aload_n C.1 C.2.1 dX7_might_0 rfl (lv_at hl 0 rfl) ?_
  refine gf_X7_13 C X w rfl dX7_might_1 ?_
  refine lv_iload_n C.1 C.2.1 dX7_might_4 rfl (lv_at hl 1 rfl) ?_
  obtain ⟨i21, hf⟩ := ck_e hf
  refine x_ild (v := R35 x1.toNatClampNeg) C X w (wl_r35 (e35)) i21 (rfl) dX7_might_5 ?_
  refine lv_aload_n C.1 C.2.1 dX7_might_6 rfl (lv_at hl 0 rfl) ?_
  refine gf_X7_16 C X w rfl dX7_might_7 ?_
  refine lv_iload_n C.1 C.2.1 dX7_might_10 rfl (lv_at hl 1 rfl) ?_
  obtain ⟨i22, hf⟩ := ck_e hf
  refine x_ild (v := R36 x1.toNatClampNeg) C X w (wl_r36 (e36)) i22 (rfl) dX7_might_11 ?_
  refine lv_iconst (v := 1) C.1 C.2.1 dX7_might_12 (by decide) ?_
  refine lv_icmp_ne (tgt := 20) C.1 C.2.1 dX7_might_13 (by decide) (fun c23 => ?_) (fun c23 => ?_)
  · rw [if_neg c23] at hf
    refine lv_iconst (v := 0) C.1 C.2.1 dX7_might_20 (by decide) ?_
    refine lv_iadd C.1 C.2.1 dX7_might_21 ?_
    cases hf
    exact x_iret C hr hlk w dX7_might_22
  · rw [if_pos c23] at hf
    refine lv_iconst (v := 2) C.1 C.2.1 dX7_might_16 (by decide) ?_
    refine lv_goto (tgt := 21) C.1 C.2.1 dX7_might_17 (by decide) ?_
    refine lv_iadd C.1 C.2.1 dX7_might_21 ?_
    cases hf
    exact x_iret C hr hlk w dX7_might_22

def qX7_all (R33 : Row) : Option (Int32) :=
(some (((1 : Int32) <<< ((R33 4) &&& 31)) - (1 : Int32)))
set_option maxHeartbeats 4000000 in
set_option maxRecDepth 100000 in
theorem c_X7_all {l : Launch} {E : Ev} {ad : Nat → Nat} {g : Gp} {h : Hp} {R33 : Row} {r : Int32} (hI : Inj ad) (e33 : h 33 = R33) (hf : qX7_all R33 = some r) : CtI l yX7_all cX7_all 1 (some .int) 0 0 E ad g g [.ref (ad 141)] h h r := by
  refine x_begin (by decide) (Nat.le_of_ble_eq_true rfl) ?_
  intro p e s m below meth c ls C hr hlk X w hl
  replace hl : lv_has ls 1 [(0, .ref (ad 141))] := hl
  replace C : CallFix p m c cX7_all 1 s ([.ref (ad 141)] : List Value).toArray lwA RX7 := C
  unfold qX7_all at hf
  refine lv_iconst (v := 1) C.1 C.2.1 dX7_all_0 (by decide) ?_
  refine lv_aload_n C.1 C.2.1 dX7_all_1 rfl (lv_at hl 0 rfl) ?_
  refine gf_X7_54 C X w (e33) dX7_all_2 ?_
  refine lv_ishl C.1 C.2.1 dX7_all_5 ?_
  refine lv_iconst (v := 1) C.1 C.2.1 dX7_all_6 (by decide) ?_
  refine lv_isub C.1 C.2.1 dX7_all_7 ?_
  cases hf
  exact x_iret C hr hlk w dX7_all_8

def qX7_power_4 : Nat → Int32 → Int32 → Int32 → Int32 → Option (Int32)
  | 0, _, _, _, _ => none
  | n + 1, v0, v1, v2, v3 =>
    (if v1 ≤ v3 then (some v2)
    else (qX7_power_4 n v0 v1 (v2 * v0) (v3 + 1)))
set_option maxHeartbeats 4000000 in
set_option maxRecDepth 100000 in
theorem w_X7_power_4 {p : Program} {l : Launch} {e : Env} {s : State} {m : MethodId} {args : Array Value} {below : List Frame} {meth : Method} {c : Code} {E : Ev} {ad : Nat → Nat} {g : Gp} {h : Hp} {r : Int32} (C : CallFix p m c cX7_power 4 s args lwA RX7) (hr : meth.sig.returnType = (some .int)) (hlk : meth.locks = false) (X : Sx E ad s) (hI : Inj ad)  : ∀ (n : Nat), ∀ (v0 : Int32) (v1 : Int32) (v2 : Int32) (v3 : Int32) (H : Heap) (locs : List Loc) (ls : Array Slot), At E ad h g s H locs → lv_has ls 4 [(0, .int v0), (1, .int v1), (2, .int v2), (3, .int v3)] → qX7_power_4 n v0 v1 v2 v3 = some r → W p l e (RM 0 0) s m args below meth c H locs 0 0 (QI E ad h g r below args s) (F0 m 4 ls []) := by
  intro n
  induction n with
  | zero =>
    intro v0 v1 v2 v3 H locs ls w hl hf
    cases hf
  | succ n ih =>
    intro v0 v1 v2 v3 H locs ls w hl hf
    rw [qX7_power_4] at hf
    refine lv_iload_n C.1 C.2.1 dX7_power_4 rfl (lv_at hl 3 rfl) ?_
    refine lv_iload_n C.1 C.2.1 dX7_power_5 rfl (lv_at hl 1 rfl) ?_
    refine lv_icmp_ge (tgt := 19) C.1 C.2.1 dX7_power_6 (by decide) (fun c21 => ?_) (fun c21 => ?_)
    · rw [if_pos c21] at hf
      refine lv_iload_n C.1 C.2.1 dX7_power_19 rfl (lv_at hl 2 rfl) ?_
      cases hf
      exact x_iret C hr hlk w dX7_power_20
    · rw [if_neg c21] at hf
      refine lv_iload_n C.1 C.2.1 dX7_power_9 rfl (lv_at hl 2 rfl) ?_
      refine lv_iload_n C.1 C.2.1 dX7_power_10 rfl (lv_at hl 0 rfl) ?_
      refine lv_imul C.1 C.2.1 dX7_power_11 ?_
      refine lv_istore_n (lv' := [(2, .int (v2 * v0)), (0, .int v0), (1, .int v1), (3, .int v3)]) C.1 C.2.1 dX7_power_12 rfl hl (by decide) rfl (fun ls hl => ?_)
      refine lv_iinc (v := (v3 + 1)) (lv' := [(3, .int (v3 + 1)), (2, .int (v2 * v0)), (0, .int v0), (1, .int v1)]) C.1 C.2.1 dX7_power_13 hl (k := 3) rfl (congrArg (fun z => v3 + z) (by decide)) (by decide) rfl (fun ls hl => ?_)
      refine lv_goto (tgt := 4) C.1 C.2.1 dX7_power_16 (by decide) ?_
      exact ih _ _ _ _ _ _ _ w (lv_sub hl [2, 3, 1, 0] rfl) hf
def qX7_power (x0 : Int32) (x1 : Int32) : Option (Int32) :=
(qX7_power_4 600 x0 x1 (1 : Int32) (0 : Int32))
set_option maxHeartbeats 4000000 in
set_option maxRecDepth 100000 in
theorem c_X7_power {l : Launch} {E : Ev} {ad : Nat → Nat} {g : Gp} {h : Hp} {x0 : Int32} {x1 : Int32} {r : Int32} (hI : Inj ad) (hf : qX7_power x0 x1 = some r) : CtI l yX7_power cX7_power 4 (some .int) 0 0 E ad g g [.int x0, .int x1] h h r := by
  refine x_begin (by decide) (Nat.le_of_ble_eq_true rfl) ?_
  intro p e s m below meth c ls C hr hlk X w hl
  replace hl : lv_has ls 4 [(0, .int x0), (1, .int x1)] := hl
  replace C : CallFix p m c cX7_power 4 s ([.int x0, .int x1] : List Value).toArray lwA RX7 := C
  unfold qX7_power at hf
  refine lv_iconst (v := 1) C.1 C.2.1 dX7_power_0 (by decide) ?_
  refine lv_istore_n (lv' := [(2, .int (1 : Int32)), (0, .int x0), (1, .int x1)]) C.1 C.2.1 dX7_power_1 rfl hl (by decide) rfl (fun ls hl => ?_)
  refine lv_iconst (v := 0) C.1 C.2.1 dX7_power_2 (by decide) ?_
  refine lv_istore_n (lv' := [(3, .int (0 : Int32)), (2, .int (1 : Int32)), (0, .int x0), (1, .int x1)]) C.1 C.2.1 dX7_power_3 rfl hl (by decide) rfl (fun ls hl => ?_)
  exact w_X7_power_4 C hr hlk X hI 600 _ _ _ _ _ _ _ w (lv_sub hl [2, 3, 1, 0] rfl) hf

def qX7_ways_4 : Nat → Int32 → Int32 → Int32 → Option (Int32)
  | 0, _, _, _ => none
  | n + 1, v0, v1, v2 =>
    (if v0 < v2 then (some v1)
    else (qX7_ways_4 n v0 (v1 * v2) (v2 + 1)))
set_option maxHeartbeats 4000000 in
set_option maxRecDepth 100000 in
theorem w_X7_ways_4 {p : Program} {l : Launch} {e : Env} {s : State} {m : MethodId} {args : Array Value} {below : List Frame} {meth : Method} {c : Code} {E : Ev} {ad : Nat → Nat} {g : Gp} {h : Hp} {r : Int32} (C : CallFix p m c cX7_ways 3 s args lwA RX7) (hr : meth.sig.returnType = (some .int)) (hlk : meth.locks = false) (X : Sx E ad s) (hI : Inj ad)  : ∀ (n : Nat), ∀ (v0 : Int32) (v1 : Int32) (v2 : Int32) (H : Heap) (locs : List Loc) (ls : Array Slot), At E ad h g s H locs → lv_has ls 3 [(0, .int v0), (1, .int v1), (2, .int v2)] → qX7_ways_4 n v0 v1 v2 = some r → W p l e (RM 0 0) s m args below meth c H locs 0 0 (QI E ad h g r below args s) (F0 m 4 ls []) := by
  intro n
  induction n with
  | zero =>
    intro v0 v1 v2 H locs ls w hl hf
    cases hf
  | succ n ih =>
    intro v0 v1 v2 H locs ls w hl hf
    rw [qX7_ways_4] at hf
    refine lv_iload_n C.1 C.2.1 dX7_ways_4 rfl (lv_at hl 2 rfl) ?_
    refine lv_iload_n C.1 C.2.1 dX7_ways_5 rfl (lv_at hl 0 rfl) ?_
    refine lv_icmp_gt (tgt := 19) C.1 C.2.1 dX7_ways_6 (by decide) (fun c21 => ?_) (fun c21 => ?_)
    · rw [if_pos c21] at hf
      refine lv_iload_n C.1 C.2.1 dX7_ways_19 rfl (lv_at hl 1 rfl) ?_
      cases hf
      exact x_iret C hr hlk w dX7_ways_20
    · rw [if_neg c21] at hf
      refine lv_iload_n C.1 C.2.1 dX7_ways_9 rfl (lv_at hl 1 rfl) ?_
      refine lv_iload_n C.1 C.2.1 dX7_ways_10 rfl (lv_at hl 2 rfl) ?_
      refine lv_imul C.1 C.2.1 dX7_ways_11 ?_
      refine lv_istore_n (lv' := [(1, .int (v1 * v2)), (0, .int v0), (2, .int v2)]) C.1 C.2.1 dX7_ways_12 rfl hl (by decide) rfl (fun ls hl => ?_)
      refine lv_iinc (v := (v2 + 1)) (lv' := [(2, .int (v2 + 1)), (1, .int (v1 * v2)), (0, .int v0)]) C.1 C.2.1 dX7_ways_13 hl (k := 2) rfl (congrArg (fun z => v2 + z) (by decide)) (by decide) rfl (fun ls hl => ?_)
      refine lv_goto (tgt := 4) C.1 C.2.1 dX7_ways_16 (by decide) ?_
      exact ih _ _ _ _ _ _ w (lv_sub hl [2, 1, 0] rfl) hf
def qX7_ways (x0 : Int32) : Option (Int32) :=
(qX7_ways_4 600 x0 (1 : Int32) (2 : Int32))
set_option maxHeartbeats 4000000 in
set_option maxRecDepth 100000 in
theorem c_X7_ways {l : Launch} {E : Ev} {ad : Nat → Nat} {g : Gp} {h : Hp} {x0 : Int32} {r : Int32} (hI : Inj ad) (hf : qX7_ways x0 = some r) : CtI l yX7_ways cX7_ways 3 (some .int) 0 0 E ad g g [.int x0] h h r := by
  refine x_begin (by decide) (Nat.le_of_ble_eq_true rfl) ?_
  intro p e s m below meth c ls C hr hlk X w hl
  replace hl : lv_has ls 3 [(0, .int x0)] := hl
  replace C : CallFix p m c cX7_ways 3 s ([.int x0] : List Value).toArray lwA RX7 := C
  unfold qX7_ways at hf
  refine lv_iconst (v := 1) C.1 C.2.1 dX7_ways_0 (by decide) ?_
  refine lv_istore_n (lv' := [(1, .int (1 : Int32)), (0, .int x0)]) C.1 C.2.1 dX7_ways_1 rfl hl (by decide) rfl (fun ls hl => ?_)
  refine lv_iconst (v := 2) C.1 C.2.1 dX7_ways_2 (by decide) ?_
  refine lv_istore_n (lv' := [(2, .int (2 : Int32)), (1, .int (1 : Int32)), (0, .int x0)]) C.1 C.2.1 dX7_ways_3 rfl hl (by decide) rfl (fun ls hl => ?_)
  exact w_X7_ways_4 C hr hlk X hI 600 _ _ _ _ _ _ w (lv_sub hl [2, 1, 0] rfl) hf

def qX7_divisor_13 : Nat → Int32 → Int32 → Option (Int32)
  | 0, _, _ => none
  | n + 1, v2, v3 =>
    (if v3 = 0 then (some v2)
    else (ck (nz v3) ((qX7_divisor_13 n v3 (v2 - v2 / v3 * v3)))))
set_option maxHeartbeats 4000000 in
set_option maxRecDepth 100000 in
theorem w_X7_divisor_13 {p : Program} {l : Launch} {e : Env} {s : State} {m : MethodId} {args : Array Value} {below : List Frame} {meth : Method} {c : Code} {E : Ev} {ad : Nat → Nat} {g : Gp} {h : Hp} {r : Int32} (C : CallFix p m c cX7_divisor 5 s args lwA RX7) (hr : meth.sig.returnType = (some .int)) (hlk : meth.locks = false) (X : Sx E ad s) (hI : Inj ad)  : ∀ (n : Nat), ∀ (v2 : Int32) (v3 : Int32) (H : Heap) (locs : List Loc) (ls : Array Slot), At E ad h g s H locs → lv_has ls 5 [(2, .int v2), (3, .int v3)] → qX7_divisor_13 n v2 v3 = some r → W p l e (RM 0 0) s m args below meth c H locs 0 0 (QI E ad h g r below args s) (F0 m 13 ls []) := by
  intro n
  induction n with
  | zero =>
    intro v2 v3 H locs ls w hl hf
    cases hf
  | succ n ih =>
    intro v2 v3 H locs ls w hl hf
    rw [qX7_divisor_13] at hf
    refine lv_iload_n C.1 C.2.1 dX7_divisor_13 rfl (lv_at hl 1 rfl) ?_
    refine lv_if_eq (tgt := 30) C.1 C.2.1 dX7_divisor_14 (by decide) (fun c22 => ?_) (fun c22 => ?_)
    · rw [if_pos c22] at hf
      refine lv_iload_n C.1 C.2.1 dX7_divisor_30 rfl (lv_at hl 0 rfl) ?_
      cases hf
      exact x_iret C hr hlk w dX7_divisor_31
    · rw [if_neg c22] at hf
      refine lv_iload_n C.1 C.2.1 dX7_divisor_17 rfl (lv_at hl 0 rfl) ?_
      refine lv_iload_n C.1 C.2.1 dX7_divisor_18 rfl (lv_at hl 1 rfl) ?_
      obtain ⟨z23, hf⟩ := ck_e hf
      refine lv_irem C.1 C.2.1 dX7_divisor_19 (nz_e z23) ?_
      refine lv_istore (lv' := [(4, .int (v2 - v2 / v3 * v3)), (2, .int v2), (3, .int v3)]) C.1 C.2.1 dX7_divisor_20 hl (by decide) rfl (fun ls hl => ?_)
      refine lv_iload_n C.1 C.2.1 dX7_divisor_22 rfl (lv_at hl 2 rfl) ?_
      refine lv_istore_n (lv' := [(2, .int v3), (4, .int (v2 - v2 / v3 * v3)), (3, .int v3)]) C.1 C.2.1 dX7_divisor_23 rfl hl (by decide) rfl (fun ls hl => ?_)
      refine lv_iload C.1 C.2.1 dX7_divisor_24 (lv_at hl 1 rfl) ?_
      refine lv_istore_n (lv' := [(3, .int (v2 - v2 / v3 * v3)), (2, .int v3), (4, .int (v2 - v2 / v3 * v3))]) C.1 C.2.1 dX7_divisor_26 rfl hl (by decide) rfl (fun ls hl => ?_)
      refine lv_goto (tgt := 13) C.1 C.2.1 dX7_divisor_27 (by decide) ?_
      exact ih _ _ _ _ _ w (lv_sub hl [1, 0] rfl) hf
def qX7_divisor_10 (v1 : Int32) (s0 : Int32) : Option (Int32) :=
(qX7_divisor_13 600 s0 v1)
set_option maxHeartbeats 4000000 in
set_option maxRecDepth 100000 in
theorem w_X7_divisor_10 {p : Program} {l : Launch} {e : Env} {s : State} {m : MethodId} {args : Array Value} {below : List Frame} {meth : Method} {c : Code} {E : Ev} {ad : Nat → Nat} {g : Gp} {h : Hp} {r : Int32} (C : CallFix p m c cX7_divisor 5 s args lwA RX7) (hr : meth.sig.returnType = (some .int)) (hlk : meth.locks = false) (X : Sx E ad s) (hI : Inj ad)  : ∀ (v1 : Int32) (s0 : Int32) (H : Heap) (locs : List Loc) (ls : Array Slot), At E ad h g s H locs → lv_has ls 5 [(1, .int v1)] → qX7_divisor_10 v1 s0 = some r → W p l e (RM 0 0) s m args below meth c H locs 0 0 (QI E ad h g r below args s) (F0 m 10 ls [.int s0]) := by
  intro v1 s0 H locs ls w hl hf
  unfold qX7_divisor_10 at hf
  refine lv_istore_n (lv' := [(2, .int s0), (1, .int v1)]) C.1 C.2.1 dX7_divisor_10 rfl hl (by decide) rfl (fun ls hl => ?_)
  refine lv_iload_n C.1 C.2.1 dX7_divisor_11 rfl (lv_at hl 1 rfl) ?_
  refine lv_istore_n (lv' := [(3, .int v1), (2, .int s0), (1, .int v1)]) C.1 C.2.1 dX7_divisor_12 rfl hl (by decide) rfl (fun ls hl => ?_)
  exact w_X7_divisor_13 C hr hlk X hI 600 _ _ _ _ _ w (lv_sub hl [1, 0] rfl) hf
def qX7_divisor (x0 : Int32) (x1 : Int32) : Option (Int32) :=
(if 0 ≤ x0 then (qX7_divisor_10 x1 x0)
else (qX7_divisor_10 x1 (-x0)))
set_option maxHeartbeats 4000000 in
set_option maxRecDepth 100000 in
theorem c_X7_divisor {l : Launch} {E : Ev} {ad : Nat → Nat} {g : Gp} {h : Hp} {x0 : Int32} {x1 : Int32} {r : Int32} (hI : Inj ad) (hf : qX7_divisor x0 x1 = some r) : CtI l yX7_divisor cX7_divisor 5 (some .int) 0 0 E ad g g [.int x0, .int x1] h h r := by
  refine x_begin (by decide) (Nat.le_of_ble_eq_true rfl) ?_
  intro p e s m below meth c ls C hr hlk X w hl
  replace hl : lv_has ls 5 [(0, .int x0), (1, .int x1)] := hl
  replace C : CallFix p m c cX7_divisor 5 s ([.int x0, .int x1] : List Value).toArray lwA RX7 := C
  unfold qX7_divisor at hf
  refine lv_iload_n C.1 C.2.1 dX7_divisor_0 rfl (lv_at hl 0 rfl) ?_
  refine lv_if_ge (tgt := 9) C.1 C.2.1 dX7_divisor_1 (by decide) (fun c21 => ?_) (fun c21 => ?_)
  · rw [if_pos c21] at hf
    refine lv_iload_n C.1 C.2.1 dX7_divisor_9 rfl (lv_at hl 0 rfl) ?_
    exact w_X7_divisor_10 C hr hlk X hI _ _ _ _ _ w (lv_sub hl [1] rfl) hf
  · rw [if_neg c21] at hf
    refine lv_iload_n C.1 C.2.1 dX7_divisor_4 rfl (lv_at hl 0 rfl) ?_
    refine lv_ineg C.1 C.2.1 dX7_divisor_5 ?_
    refine lv_goto (tgt := 10) C.1 C.2.1 dX7_divisor_6 (by decide) ?_
    exact w_X7_divisor_10 C hr hlk X hI _ _ _ _ _ w (lv_sub hl [1] rfl) hf

def qX7_fraction (x0 : Int32) (x1 : Int32) (x2 : Int32) : Option (Int32) :=
(bi1 (qX7_divisor x0 x1) (fun r22 =>
(if x2 = 0 then (ck (nz r22) ((some (x1 / r22))))
else (ck (nz r22) ((some (x0 / r22)))))))
set_option maxHeartbeats 4000000 in
set_option maxRecDepth 100000 in
theorem c_X7_fraction {l : Launch} {E : Ev} {ad : Nat → Nat} {g : Gp} {h : Hp} {x0 : Int32} {x1 : Int32} {x2 : Int32} {r : Int32} (hI : Inj ad) (hf : qX7_fraction x0 x1 x2 = some r) : CtI l yX7_fraction cX7_fraction 4 (some .int) 1 24 E ad g g [.int x0, .int x1, .int x2] h h r := by
  refine x_begin (by decide) (Nat.le_of_ble_eq_true rfl) ?_
  intro p e s m below meth c ls C hr hlk X w hl
  replace hl : lv_has ls 4 [(0, .int x0), (1, .int x1), (2, .int x2)] := hl
  replace C : CallFix p m c cX7_fraction 4 s ([.int x0, .int x1, .int x2] : List Value).toArray lwA RX7 := C
  unfold qX7_fraction at hf
  refine lv_iload_n C.1 C.2.1 dX7_fraction_0 rfl (lv_at hl 0 rfl) ?_
  refine lv_iload_n C.1 C.2.1 dX7_fraction_1 rfl (lv_at hl 1 rfl) ?_
  obtain ⟨r22, eq21, hf⟩ := bi1_e hf
  refine x_cSi (As := [.int x0, .int x1]) (rest := []) C X w (c_X7_divisor hI  eq21) mw_X7_divisor ml_X7_183 rfl hl.1 rfl (Nat.le_of_ble_eq_true rfl) ⟨⟨Nat.le_of_ble_eq_true rfl, Nat.le_of_ble_eq_true rfl⟩, Nat.le_of_ble_eq_true rfl, Nat.le_of_ble_eq_true rfl⟩ dX7_fraction_2 (fun H locs w => ?_)
  refine lv_istore_n (lv' := [(3, .int r22), (0, .int x0), (1, .int x1), (2, .int x2)]) C.1 C.2.1 dX7_fraction_5 rfl hl (by decide) rfl (fun ls hl => ?_)
  refine lv_iload_n C.1 C.2.1 dX7_fraction_6 rfl (lv_at hl 3 rfl) ?_
  refine lv_if_eq (tgt := 16) C.1 C.2.1 dX7_fraction_7 (by decide) (fun c23 => ?_) (fun c23 => ?_)
  · rw [if_pos c23] at hf
    refine lv_iload_n C.1 C.2.1 dX7_fraction_16 rfl (lv_at hl 2 rfl) ?_
    refine lv_iload_n C.1 C.2.1 dX7_fraction_17 rfl (lv_at hl 0 rfl) ?_
    obtain ⟨z24, hf⟩ := ck_e hf
    refine lv_idiv C.1 C.2.1 dX7_fraction_18 (nz_e z24) ?_
    cases hf
    exact x_iret C hr hlk w dX7_fraction_19
  · rw [if_neg c23] at hf
    refine lv_iload_n C.1 C.2.1 dX7_fraction_10 rfl (lv_at hl 1 rfl) ?_
    refine lv_iload_n C.1 C.2.1 dX7_fraction_11 rfl (lv_at hl 0 rfl) ?_
    obtain ⟨z25, hf⟩ := ck_e hf
    refine lv_idiv C.1 C.2.1 dX7_fraction_12 (nz_e z25) ?_
    refine lv_goto (tgt := 19) C.1 C.2.1 dX7_fraction_13 (by decide) ?_
    cases hf
    exact x_iret C hr hlk w dX7_fraction_19
