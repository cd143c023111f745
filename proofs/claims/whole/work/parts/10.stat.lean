def qX6_has (x0 : Int32) (x1 : Int32) : Option (Int32) :=
(if ((x0 >>> (x1 &&& 31)) &&& (1 : Int32)) = (1 : Int32) then (some (1 : Int32))
else (some (0 : Int32)))
set_option maxHeartbeats 4000000 in
set_option maxRecDepth 100000 in
theorem c_X6_has {l : Launch} {E : Ev} {ad : Nat → Nat} {g : Gp} {h : Hp} {x0 : Int32} {x1 : Int32} {r : Int32} (hI : Inj ad) (hf : qX6_has x0 x1 = some r) : CtI l yX6_has cX6_has 2 (some .boolean) 0 0 E ad g g [.int x0, .int x1] h h r := by
  refine x_begin (by decide) (Nat.le_of_ble_eq_true rfl) ?_
  intro p e s m below meth c ls C hr hlk X w hl
  replace hl : lv_has ls 2 [(0, .int x0), (1, .int x1)] := hl
  replace C : CallFix p m c cX6_has 2 s ([.int x0, .int x1] : List Value).toArray lwA RX6 := C
  unfold qX6_has at hf
  refine lv_iload_n C.1 C.2.1 dX6_has_0 rfl (lv_at hl 0 rfl) ?_
  refine lv_iload_n C.1 C.2.1 dX6_has_1 rfl (lv_at hl 1 rfl) ?_
  refine lv_ishr C.1 C.2.1 dX6_has_2 ?_
  refine lv_iconst (v := 1) C.1 C.2.1 dX6_has_3 (by decide) ?_
  refine lv_iand C.1 C.2.1 dX6_has_4 ?_
  refine lv_iconst (v := 1) C.1 C.2.1 dX6_has_5 (by decide) ?_
  refine lv_icmp_ne (tgt := 13) C.1 C.2.1 dX6_has_6 (by decide) (fun c21 => ?_) (fun c21 => ?_)
  · rw [if_neg c21] at hf
    refine lv_iconst (v := 0) C.1 C.2.1 dX6_has_13 (by decide) ?_
    cases hf
    exact x_zret C hr hlk w rfl dX6_has_14
  · rw [if_pos c21] at hf
    refine lv_iconst (v := 1) C.1 C.2.1 dX6_has_9 (by decide) ?_
    refine lv_goto (tgt := 14) C.1 C.2.1 dX6_has_10 (by decide) ?_
    cases hf
    exact x_zret C hr hlk w rfl dX6_has_14

def qJ6_bitCount (x0 : Int32) : Option (Int32) :=
(bd (x0 - ((((x0).toUInt32 >>> (((1 : Int32)).toUInt32 &&& Int32.toUInt32 31)).toInt32) &&& (1431655765 : Int32))) (fun x21 =>
(bd ((x21 &&& (858993459 : Int32)) + ((((x21).toUInt32 >>> (((2 : Int32)).toUInt32 &&& Int32.toUInt32 31)).toInt32) &&& (858993459 : Int32))) (fun x22 =>
(bd ((x22 + (((x22).toUInt32 >>> (((4 : Int32)).toUInt32 &&& Int32.toUInt32 31)).toInt32)) &&& (252645135 : Int32)) (fun x23 =>
(bd (x23 + (((x23).toUInt32 >>> (((8 : Int32)).toUInt32 &&& Int32.toUInt32 31)).toInt32)) (fun x24 =>
(bd (x24 + (((x24).toUInt32 >>> (((16 : Int32)).toUInt32 &&& Int32.toUInt32 31)).toInt32)) (fun x25 =>
(some (x25 &&& (63 : Int32)))))))))))))
set_option maxHeartbeats 4000000 in
set_option maxRecDepth 100000 in
theorem c_J6_bitCount {l : Launch} {E : Ev} {ad : Nat → Nat} {g : Gp} {h : Hp} {x0 : Int32} {r : Int32} (hI : Inj ad) (hf : qJ6_bitCount x0 = some r) : CtI l yJ6_bitCount_0f7a4 cJ6_bitCount_0f7a4 1 (some .int) 0 0 E ad g g [.int x0] h h r := by
  refine x_begin (by decide) (Nat.le_of_ble_eq_true rfl) ?_
  intro p e s m below meth c ls C hr hlk X w hl
  replace hl : lv_has ls 1 [(0, .int x0)] := hl
  replace C : CallFix p m c cJ6_bitCount_0f7a4 1 s ([.int x0] : List Value).toArray lwA RJ6 := C
  unfold qJ6_bitCount at hf
  refine lv_iload_n C.1 C.2.1 dJ6_bitCount_0f7a4_0 rfl (lv_at hl 0 rfl) ?_
  refine lv_iload_n C.1 C.2.1 dJ6_bitCount_0f7a4_1 rfl (lv_at hl 0 rfl) ?_
  refine lv_iconst (v := 1) C.1 C.2.1 dJ6_bitCount_0f7a4_2 (by decide) ?_
  refine lv_iushr (v := ((x0).toUInt32 >>> (((1 : Int32)).toUInt32 &&& Int32.toUInt32 31)).toInt32) C.1 C.2.1 dJ6_bitCount_0f7a4_3 rfl ?_
  refine lv_ldcw (v := 1431655765) C.1 C.2.1 C.2.2.2.1 (C.2.2.2.2 _ wd_constant_java_lang_Integer_265_1431655765_Int32_) dJ6_bitCount_0f7a4_4 ?_
  refine lv_iand C.1 C.2.1 dJ6_bitCount_0f7a4_7 ?_
  refine lv_isub C.1 C.2.1 dJ6_bitCount_0f7a4_8 ?_
  obtain ⟨x21, ex21, hf⟩ := bd_e hf
  refine x_tp ex21 ?_
  refine lv_istore_n (lv' := [(0, .int x21)]) C.1 C.2.1 dJ6_bitCount_0f7a4_9 rfl hl (by decide) rfl (fun ls hl => ?_)
  refine lv_iload_n C.1 C.2.1 dJ6_bitCount_0f7a4_10 rfl (lv_at hl 0 rfl) ?_
  refine lv_ldcw (v := 858993459) C.1 C.2.1 C.2.2.2.1 (C.2.2.2.2 _ wd_constant_java_lang_Integer_266_858993459_Int32_) dJ6_bitCount_0f7a4_11 ?_
  refine lv_iand C.1 C.2.1 dJ6_bitCount_0f7a4_14 ?_
  refine lv_iload_n C.1 C.2.1 dJ6_bitCount_0f7a4_15 rfl (lv_at hl 0 rfl) ?_
  refine lv_iconst (v := 2) C.1 C.2.1 dJ6_bitCount_0f7a4_16 (by decide) ?_
  refine lv_iushr (v := ((x21).toUInt32 >>> (((2 : Int32)).toUInt32 &&& Int32.toUInt32 31)).toInt32) C.1 C.2.1 dJ6_bitCount_0f7a4_17 rfl ?_
  refine lv_ldcw (v := 858993459) C.1 C.2.1 C.2.2.2.1 (C.2.2.2.2 _ wd_constant_java_lang_Integer_266_858993459_Int32_) dJ6_bitCount_0f7a4_18 ?_
  refine lv_iand C.1 C.2.1 dJ6_bitCount_0f7a4_21 ?_
  refine lv_iadd C.1 C.2.1 dJ6_bitCount_0f7a4_22 ?_
  obtain ⟨x22, ex22, hf⟩ := bd_e hf
  refine x_tp ex22 ?_
  refine lv_istore_n (lv' := [(0, .int x22)]) C.1 C.2.1 dJ6_bitCount_0f7a4_23 rfl hl (by decide) rfl (fun ls hl => ?_)
  refine lv_iload_n C.1 C.2.1 dJ6_bitCount_0f7a4_24 rfl (lv_at hl 0 rfl) ?_
  refine lv_iload_n C.1 C.2.1 dJ6_bitCount_0f7a4_25 rfl (lv_at hl 0 rfl) ?_
  refine lv_iconst (v := 4) C.1 C.2.1 dJ6_bitCount_0f7a4_26 (by decide) ?_
  refine lv_iushr (v := ((x22).toUInt32 >>> (((4 : Int32)).toUInt32 &&& Int32.toUInt32 31)).toInt32) C.1 C.2.1 dJ6_bitCount_0f7a4_27 rfl ?_
  refine lv_iadd C.1 C.2.1 dJ6_bitCount_0f7a4_28 ?_
  refine lv_ldcw (v := 252645135) C.1 C.2.1 C.2.2.2.1 (C.2.2.2.2 _ wd_constant_java_lang_Integer_267_252645135_Int32_) dJ6_bitCount_0f7a4_29 ?_
  refine lv_iand C.1 C.2.1 dJ6_bitCount_0f7a4_32 ?_
  obtain ⟨x23, ex23, hf⟩ := bd_e hf
  refine x_tp ex23 ?_
  refine lv_istore_n (lv' := [(0, .int x23)]) C.1 C.2.1 dJ6_bitCount_0f7a4_33 rfl hl (by decide) rfl (fun ls hl => ?_)
  refine lv_iload_n C.1 C.2.1 dJ6_bitCount_0f7a4_34 rfl (lv_at hl 0 rfl) ?_
  refine lv_iload_n C.1 C.2.1 dJ6_bitCount_0f7a4_35 rfl (lv_at hl 0 rfl) ?_
  refine lv_bipush (v := 8) C.1 C.2.1 dJ6_bitCount_0f7a4_36 (by decide) ?_
  refine lv_iushr (v := ((x23).toUInt32 >>> (((8 : Int32)).toUInt32 &&& Int32.toUInt32 31)).toInt32) C.1 C.2.1 dJ6_bitCount_0f7a4_38 rfl ?_
  refine lv_iadd C.1 C.2.1 dJ6_bitCount_0f7a4_39 ?_
  obtain ⟨x24, ex24, hf⟩ := bd_e hf
  refine x_tp ex24 ?_
  refine lv_istore_n (lv' := [(0, .int x24)]) C.1 C.2.1 dJ6_bitCount_0f7a4_40 rfl hl (by decide) rfl (fun ls hl => ?_)
  refine lv_iload_n C.1 C.2.1 dJ6_bitCount_0f7a4_41 rfl (lv_at hl 0 rfl) ?_
  refine lv_iload_n C.1 C.2.1 dJ6_bitCount_0f7a4_42 rfl (lv_at hl 0 rfl) ?_
  refine lv_bipush (v := 16) C.1 C.2.1 dJ6_bitCount_0f7a4_43 (by decide) ?_
  refine lv_iushr (v := ((x24).toUInt32 >>> (((16 : Int32)).toUInt32 &&& Int32.toUInt32 31)).toInt32) C.1 C.2.1 dJ6_bitCount_0f7a4_45 rfl ?_
  refine lv_iadd C.1 C.2.1 dJ6_bitCount_0f7a4_46 ?_
  obtain ⟨x25, ex25, hf⟩ := bd_e hf
  refine x_tp ex25 ?_
  refine lv_istore_n (lv' := [(0, .int x25)]) C.1 C.2.1 dJ6_bitCount_0f7a4_47 rfl hl (by decide) rfl (fun ls hl => ?_)
  refine lv_iload_n C.1 C.2.1 dJ6_bitCount_0f7a4_48 rfl (lv_at hl 0 rfl) ?_
  refine lv_bipush (v := 63) C.1 C.2.1 dJ6_bitCount_0f7a4_49 (by decide) ?_
  refine lv_iand C.1 C.2.1 dJ6_bitCount_0f7a4_51 ?_
  cases hf
  exact x_iret C hr hlk w dJ6_bitCount_0f7a4_52

def qX6_isRule (x0 : Int32) : Option (Int32) :=
(if x0 < 0 then (some (0 : Int32))
else (if (4 : Int32) ≤ x0 then (some (0 : Int32))
else (some (1 : Int32))))
set_option maxHeartbeats 4000000 in
set_option maxRecDepth 100000 in
theorem c_X6_isRule {l : Launch} {E : Ev} {ad : Nat → Nat} {g : Gp} {h : Hp} {x0 : Int32} {r : Int32} (hI : Inj ad) (hf : qX6_isRule x0 = some r) : CtI l yX6_isRule cX6_isRule 1 (some .boolean) 0 0 E ad g g [.int x0] h h r := by
  refine x_begin (by decide) (Nat.le_of_ble_eq_true rfl) ?_
  intro p e s m below meth c ls C hr hlk X w hl
  replace hl : lv_has ls 1 [(0, .int x0)] := hl
  replace C : CallFix p m c cX6_isRule 1 s ([.int x0] : List Value).toArray lwA RX6 := C
  unfold qX6_isRule at hf
  refine lv_iload_n C.1 C.2.1 dX6_isRule_0 rfl (lv_at hl 0 rfl) ?_
  refine lv_if_lt (tgt := 13) C.1 C.2.1 dX6_isRule_1 (by decide) (fun c21 => ?_) (fun c21 => ?_)
  · rw [if_pos c21] at hf
    refine lv_iconst (v := 0) C.1 C.2.1 dX6_isRule_13 (by decide) ?_
    cases hf
    exact x_zret C hr hlk w rfl dX6_isRule_14
  · rw [if_neg c21] at hf
    refine lv_iload_n C.1 C.2.1 dX6_isRule_4 rfl (lv_at hl 0 rfl) ?_
    refine lv_iconst (v := 4) C.1 C.2.1 dX6_isRule_5 (by decide) ?_
    refine lv_icmp_ge (tgt := 13) C.1 C.2.1 dX6_isRule_6 (by decide) (fun c22 => ?_) (fun c22 => ?_)
    · rw [if_pos c22] at hf
      refine lv_iconst (v := 0) C.1 C.2.1 dX6_isRule_13 (by decide) ?_
      cases hf
      exact x_zret C hr hlk w rfl dX6_isRule_14
    · rw [if_neg c22] at hf
      refine lv_iconst (v := 1) C.1 C.2.1 dX6_isRule_9 (by decide) ?_
      refine lv_goto (tgt := 14) C.1 C.2.1 dX6_isRule_10 (by decide) ?_
      cases hf
      exact x_zret C hr hlk w rfl dX6_isRule_14

def qX6_isLength (x0 : Int32) : Option (Int32) :=
(if x0 < (1 : Int32) then (some (0 : Int32))
else (if (9 : Int32) < x0 then (some (0 : Int32))
else (some (1 : Int32))))
set_option maxHeartbeats 4000000 in
set_option maxRecDepth 100000 in
theorem c_X6_isLength {l : Launch} {E : Ev} {ad : Nat → Nat} {g : Gp} {h : Hp} {x0 : Int32} {r : Int32} (hI : Inj ad) (hf : qX6_isLength x0 = some r) : CtI l yX6_isLength cX6_isLength 1 (some .boolean) 0 0 E ad g g [.int x0] h h r := by
  refine x_begin (by decide) (Nat.le_of_ble_eq_true rfl) ?_
  intro p e s m below meth c ls C hr hlk X w hl
  replace hl : lv_has ls 1 [(0, .int x0)] := hl
  replace C : CallFix p m c cX6_isLength 1 s ([.int x0] : List Value).toArray lwA RX6 := C
  unfold qX6_isLength at hf
  refine lv_iload_n C.1 C.2.1 dX6_isLength_0 rfl (lv_at hl 0 rfl) ?_
  refine lv_iconst (v := 1) C.1 C.2.1 dX6_isLength_1 (by decide) ?_
  refine lv_icmp_lt (tgt := 15) C.1 C.2.1 dX6_isLength_2 (by decide) (fun c21 => ?_) (fun c21 => ?_)
  · rw [if_pos c21] at hf
    refine lv_iconst (v := 0) C.1 C.2.1 dX6_isLength_15 (by decide) ?_
    cases hf
    exact x_zret C hr hlk w rfl dX6_isLength_16
  · rw [if_neg c21] at hf
    refine lv_iload_n C.1 C.2.1 dX6_isLength_5 rfl (lv_at hl 0 rfl) ?_
    refine lv_bipush (v := 9) C.1 C.2.1 dX6_isLength_6 (by decide) ?_
    refine lv_icmp_gt (tgt := 15) C.1 C.2.1 dX6_isLength_8 (by decide) (fun c22 => ?_) (fun c22 => ?_)
    · rw [if_pos c22] at hf
      refine lv_iconst (v := 0) C.1 C.2.1 dX6_isLength_15 (by decide) ?_
      cases hf
      exact x_zret C hr hlk w rfl dX6_isLength_16
    · rw [if_neg c22] at hf
      refine lv_iconst (v := 1) C.1 C.2.1 dX6_isLength_11 (by decide) ?_
      refine lv_goto (tgt := 16) C.1 C.2.1 dX6_isLength_12 (by decide) ?_
      cases hf
      exact x_zret C hr hlk w rfl dX6_isLength_16

def qX6_isOutlook (x0 : Int32) : Option (Int32) :=
(if x0 < 0 then (some (0 : Int32))
else (if (3 : Int32) < x0 then (some (0 : Int32))
else (some (1 : Int32))))
set_option maxHeartbeats 4000000 in
set_option maxRecDepth 100000 in
theorem c_X6_isOutlook {l : Launch} {E : Ev} {ad : Nat → Nat} {g : Gp} {h : Hp} {x0 : Int32} {r : Int32} (hI : Inj ad) (hf : qX6_isOutlook x0 = some r) : CtI l yX6_isOutlook cX6_isOutlook 1 (some .boolean) 0 0 E ad g g [.int x0] h h r := by
  refine x_begin (by decide) (Nat.le_of_ble_eq_true rfl) ?_
  intro p e s m below meth c ls C hr hlk X w hl
  replace hl : lv_has ls 1 [(0, .int x0)] := hl
  replace C : CallFix p m c cX6_isOutlook 1 s ([.int x0] : List Value).toArray lwA RX6 := C
  unfold qX6_isOutlook at hf
  refine lv_iload_n C.1 C.2.1 dX6_isOutlook_0 rfl (lv_at hl 0 rfl) ?_
  refine lv_if_lt (tgt := 13) C.1 C.2.1 dX6_isOutlook_1 (by decide) (fun c21 => ?_) (fun c21 => ?_)
  · rw [if_pos c21] at hf
    refine lv_iconst (v := 0) C.1 C.2.1 dX6_isOutlook_13 (by decide) ?_
    cases hf
    exact x_zret C hr hlk w rfl dX6_isOutlook_14
  · rw [if_neg c21] at hf
    refine lv_iload_n C.1 C.2.1 dX6_isOutlook_4 rfl (lv_at hl 0 rfl) ?_
    refine lv_iconst (v := 3) C.1 C.2.1 dX6_isOutlook_5 (by decide) ?_
    refine lv_icmp_gt (tgt := 13) C.1 C.2.1 dX6_isOutlook_6 (by decide) (fun c22 => ?_) (fun c22 => ?_)
    · rw [if_pos c22] at hf
      refine lv_iconst (v := 0) C.1 C.2.1 dX6_isOutlook_13 (by decide) ?_
      cases hf
      exact x_zret C hr hlk w rfl dX6_isOutlook_14
    · rw [if_neg c22] at hf
      refine lv_iconst (v := 1) C.1 C.2.1 dX6_isOutlook_9 (by decide) ?_
      refine lv_goto (tgt := 14) C.1 C.2.1 dX6_isOutlook_10 (by decide) ?_
      cases hf
      exact x_zret C hr hlk w rfl dX6_isOutlook_14

def qX6_commonDivisor_7 : Nat → Int32 → Int32 → Int32 → Option (Int32)
  | 0, _, _, _ => none
  | n + 1, v2, v3, v4 =>
    (if (64 : Int32) ≤ v4 then (some v2)
    else (if v3 = 0 then (some v2)
    else (ck (nz v3) ((qX6_commonDivisor_7 n v3 (v2 - v2 / v3 * v3) (v4 + 1))))))
set_option maxHeartbeats 4000000 in
set_option maxRecDepth 100000 in
theorem w_X6_commonDivisor_7 {p : Program} {l : Launch} {e : Env} {s : State} {m : MethodId} {args : Array Value} {below : List Frame} {meth : Method} {c : Code} {E : Ev} {ad : Nat → Nat} {g : Gp} {h : Hp} {r : Int32} (C : CallFix p m c cX6_commonDivisor 6 s args lwA RX6) (hr : meth.sig.returnType = (some .int)) (hlk : meth.locks = false) (X : Sx E ad s) (hI : Inj ad)  : ∀ (n : Nat), ∀ (v2 : Int32) (v3 : Int32) (v4 : Int32) (H : Heap) (locs : List Loc) (ls : Array Slot), At E ad h g s H locs → lv_has ls 6 [(2, .int v2), (3, .int v3), (4, .int v4)] → qX6_commonDivisor_7 n v2 v3 v4 = some r → W p l e (RM 0 0) s m args below meth c H locs 0 0 (QI E ad h g r below args s) (F0 m 7 ls []) := by
  intro n
  induction n with
  | zero =>
    intro v2 v3 v4 H locs ls w hl hf
    cases hf
  | succ n ih =>
    intro v2 v3 v4 H locs ls w hl hf
    rw [qX6_commonDivisor_7] at hf
    refine lv_iload C.1 C.2.1 dX6_commonDivisor_7 (lv_at hl 2 rfl) ?_
    refine lv_bipush (v := 64) C.1 C.2.1 dX6_commonDivisor_9 (by decide) ?_
    refine lv_icmp_ge (tgt := 34) C.1 C.2.1 dX6_commonDivisor_11 (by decide) (fun c21 => ?_) (fun c21 => ?_)
    · rw [if_pos c21] at hf
      refine lv_iload_n C.1 C.2.1 dX6_commonDivisor_34 rfl (lv_at hl 0 rfl) ?_
      cases hf
      exact x_iret C hr hlk w dX6_commonDivisor_35
    · rw [if_neg c21] at hf
      refine lv_iload_n C.1 C.2.1 dX6_commonDivisor_14 rfl (lv_at hl 1 rfl) ?_
      refine lv_if_eq (tgt := 34) C.1 C.2.1 dX6_commonDivisor_15 (by decide) (fun c22 => ?_) (fun c22 => ?_)
      · rw [if_pos c22] at hf
        refine lv_iload_n C.1 C.2.1 dX6_commonDivisor_34 rfl (lv_at hl 0 rfl) ?_
        cases hf
        exact x_iret C hr hlk w dX6_commonDivisor_35
      · rw [if_neg c22] at hf
        refine lv_iload_n C.1 C.2.1 dX6_commonDivisor_18 rfl (lv_at hl 0 rfl) ?_
        refine lv_iload_n C.1 C.2.1 dX6_commonDivisor_19 rfl (lv_at hl 1 rfl) ?_
        obtain ⟨z23, hf⟩ := ck_e hf
        refine lv_irem C.1 C.2.1 dX6_commonDivisor_20 (nz_e z23) ?_
        refine lv_istore (lv' := [(5, .int (v2 - v2 / v3 * v3)), (2, .int v2), (3, .int v3), (4, .int v4)]) C.1 C.2.1 dX6_commonDivisor_21 hl (by decide) rfl (fun ls hl => ?_)
        refine lv_iload_n C.1 C.2.1 dX6_commonDivisor_23 rfl (lv_at hl 2 rfl) ?_
        refine lv_istore_n (lv' := [(2, .int v3), (5, .int (v2 - v2 / v3 * v3)), (3, .int v3), (4, .int v4)]) C.1 C.2.1 dX6_commonDivisor_24 rfl hl (by decide) rfl (fun ls hl => ?_)
        refine lv_iload C.1 C.2.1 dX6_commonDivisor_25 (lv_at hl 1 rfl) ?_
        refine lv_istore_n (lv' := [(3, .int (v2 - v2 / v3 * v3)), (2, .int v3), (5, .int (v2 - v2 / v3 * v3)), (4, .int v4)]) C.1 C.2.1 dX6_commonDivisor_27 rfl hl (by decide) rfl (fun ls hl => ?_)
        refine lv_iinc (v := (v4 + 1)) (lv' := [(4, .int (v4 + 1)), (3, .int (v2 - v2 / v3 * v3)), (2, .int v3), (5, .int (v2 - v2 / v3 * v3))]) C.1 C.2.1 dX6_commonDivisor_28 hl (k := 3) rfl (congrArg (fun z => v4 + z) (by decide)) (by decide) rfl (fun ls hl => ?_)
        refine lv_goto (tgt := 7) C.1 C.2.1 dX6_commonDivisor_31 (by decide) ?_
        exact ih _ _ _ _ _ _ w (lv_sub hl [2, 1, 0] rfl) hf
def qX6_commonDivisor (x0 : Int32) (x1 : Int32) : Option (Int32) :=
(qX6_commonDivisor_7 600 x0 x1 (0 : Int32))
set_option maxHeartbeats 4000000 in
set_option maxRecDepth 100000 in
theorem c_X6_commonDivisor {l : Launch} {E : Ev} {ad : Nat → Nat} {g : Gp} {h : Hp} {x0 : Int32} {x1 : Int32} {r : Int32} (hI : Inj ad) (hf : qX6_commonDivisor x0 x1 = some r) : CtI l yX6_commonDivisor cX6_commonDivisor 6 (some .int) 0 0 E ad g g [.int x0, .int x1] h h r := by
  refine x_begin (by decide) (Nat.le_of_ble_eq_true rfl) ?_
  intro p e s m below meth c ls C hr hlk X w hl
  replace hl : lv_has ls 6 [(0, .int x0), (1, .int x1)] := hl
  replace C : CallFix p m c cX6_commonDivisor 6 s ([.int x0, .int x1] : List Value).toArray lwA RX6 := C
  unfold qX6_commonDivisor at hf
  refine lv_iload_n C.1 C.2.1 dX6_commonDivisor_0 rfl (lv_at hl 0 rfl) ?_
  refine lv_istore_n (lv' := [(2, .int x0), (0, .int x0), (1, .int x1)]) C.1 C.2.1 dX6_commonDivisor_1 rfl hl (by decide) rfl (fun ls hl => ?_)
  refine lv_iload_n C.1 C.2.1 dX6_commonDivisor_2 rfl (lv_at hl 2 rfl) ?_
  refine lv_istore_n (lv' := [(3, .int x1), (2, .int x0), (0, .int x0), (1, .int x1)]) C.1 C.2.1 dX6_commonDivisor_3 rfl hl (by decide) rfl (fun ls hl => ?_)
  refine lv_iconst (v := 0) C.1 C.2.1 dX6_commonDivisor_4 (by decide) ?_
  refine lv_istore (lv' := [(4, .int (0 : Int32)), (3, .int x1), (2, .int x0), (0, .int x0), (1, .int x1)]) C.1 C.2.1 dX6_commonDivisor_5 hl (by decide) rfl (fun ls hl => ?_)
  exact w_X6_commonDivisor_7 C hr hlk X hI 600 _ _ _ _ _ _ w (lv_sub hl [2, 1, 0] rfl) hf

def qX6_fraction (x0 : Int32) (x1 : Int32) (x2 : Int32) : Option (Int32) :=
(bi1 (qX6_commonDivisor (if 0 ≤ x0 then x0 else 0 - x0) x1) (fun r22 =>
(if x2 = 0 then (ck (nz (if (1 : Int32) < r22 then r22 else (1 : Int32))) ((some (x1 / (if (1 : Int32) < r22 then r22 else (1 : Int32))))))
else (ck (nz (if (1 : Int32) < r22 then r22 else (1 : Int32))) ((some (x0 / (if (1 : Int32) < r22 then r22 else (1 : Int32)))))))))
set_option maxHeartbeats 4000000 in
set_option maxRecDepth 100000 in
theorem c_X6_fraction {l : Launch} {E : Ev} {ad : Nat → Nat} {g : Gp} {h : Hp} {x0 : Int32} {x1 : Int32} {x2 : Int32} {r : Int32} (hI : Inj ad) (hf : qX6_fraction x0 x1 x2 = some r) : CtI l yX6_fraction cX6_fraction 4 (some .int) 1 25 E ad g g [.int x0, .int x1, .int x2] h h r := by
  refine x_begin (by decide) (Nat.le_of_ble_eq_true rfl) ?_
  intro p e s m below meth c ls C hr hlk X w hl
  replace hl : lv_has ls 4 [(0, .int x0), (1, .int x1), (2, .int x2)] := hl
  replace C : CallFix p m c cX6_fraction 4 s ([.int x0, .int x1, .int x2] : List Value).toArray lwA RX6 := C
  unfold qX6_fraction at hf
  refine lv_iconst (v := 1) C.1 C.2.1 dX6_fraction_0 (by decide) ?_
  refine lv_iload_n C.1 C.2.1 dX6_fraction_1 rfl (lv_at hl 0 rfl) ?_
  refine va_mabs C.1 C.2.1 (C.2.2.1.trans hl.1.symm) C.2.2.2.1 (C.2.2.2.2 _ wd_methodLink_OneTricycle_290_java_lang_Math_abs_I_I_) (C.2.2.2.2 _ wd_static_java_lang_Math_abs_I_I_) (C.2.2.2.2 _ wd_initialized_java_lang_Math_) (C.2.2.2.2 _ wd_code_Math_abs) (Nat.le_of_ble_eq_true rfl) (Nat.le_of_ble_eq_true rfl) (Nat.le_of_ble_eq_true rfl) (Nat.le_of_ble_eq_true rfl) dX6_fraction_2 ?_
  refine lv_iload_n C.1 C.2.1 dX6_fraction_5 rfl (lv_at hl 1 rfl) ?_
  obtain ⟨r22, eq21, hf⟩ := bi1_e hf
  refine x_cSi (As := [.int (if 0 ≤ x0 then x0 else 0 - x0), .int x1]) (rest := [.int (1 : Int32)]) C X w (c_X6_commonDivisor hI  eq21) mw_X6_commonDivisor ml_X6_295 rfl hl.1 rfl (Nat.le_of_ble_eq_true rfl) ⟨⟨Nat.le_of_ble_eq_true rfl, Nat.le_of_ble_eq_true rfl⟩, Nat.le_of_ble_eq_true rfl, Nat.le_of_ble_eq_true rfl⟩ dX6_fraction_6 (fun H locs w => ?_)
  refine va_mmax C.1 C.2.1 (C.2.2.1.trans hl.1.symm) C.2.2.2.1 (C.2.2.2.2 _ wd_methodLink_OneTricycle_299_java_lang_Math_max_II_I_) (C.2.2.2.2 _ wd_static_java_lang_Math_max_II_I_) (C.2.2.2.2 _ wd_initialized_java_lang_Math_) (C.2.2.2.2 _ wd_code_Math_max) (Nat.le_of_ble_eq_true rfl) (Nat.le_of_ble_eq_true rfl) (Nat.le_of_ble_eq_true rfl) (Nat.le_of_ble_eq_true rfl) dX6_fraction_9 ?_
  refine lv_istore_n (lv' := [(3, .int (if (1 : Int32) < r22 then r22 else (1 : Int32))), (0, .int x0), (1, .int x1), (2, .int x2)]) C.1 C.2.1 dX6_fraction_12 rfl hl (by decide) rfl (fun ls hl => ?_)
  refine lv_iload_n C.1 C.2.1 dX6_fraction_13 rfl (lv_at hl 3 rfl) ?_
  refine lv_if_eq (tgt := 21) C.1 C.2.1 dX6_fraction_14 (by decide) (fun c23 => ?_) (fun c23 => ?_)
  · rw [if_pos c23] at hf
    refine lv_iload_n C.1 C.2.1 dX6_fraction_21 rfl (lv_at hl 2 rfl) ?_
    refine lv_iload_n C.1 C.2.1 dX6_fraction_22 rfl (lv_at hl 0 rfl) ?_
    obtain ⟨z24, hf⟩ := ck_e hf
    refine lv_idiv C.1 C.2.1 dX6_fraction_23 (nz_e z24) ?_
    cases hf
    exact x_iret C hr hlk w dX6_fraction_24
  · rw [if_neg c23] at hf
    refine lv_iload_n C.1 C.2.1 dX6_fraction_17 rfl (lv_at hl 1 rfl) ?_
    refine lv_goto (tgt := 22) C.1 C.2.1 dX6_fraction_18 (by decide) ?_
    refine lv_iload_n C.1 C.2.1 dX6_fraction_22 rfl (lv_at hl 0 rfl) ?_
    obtain ⟨z25, hf⟩ := ck_e hf
    refine lv_idiv C.1 C.2.1 dX6_fraction_23 (nz_e z25) ?_
    cases hf
    exact x_iret C hr hlk w dX6_fraction_24

def qX6_weightOfWorms_29 (k5 : Int32 → Int32 → Int32 → Int32 → Int32 → Option (Int32)) (v0 : Int32) (v1 : Int32) (v2 : Int32) (v4 : Int32) (s0 : Int32) (s1 : Int32) : Option (Int32) :=
(k5 v0 v1 v2 (s0 * s1) (v4 + 1))
set_option maxHeartbeats 4000000 in
set_option maxRecDepth 100000 in
theorem w_X6_weightOfWorms_29 {p : Program} {l : Launch} {e : Env} {s : State} {m : MethodId} {args : Array Value} {below : List Frame} {meth : Method} {c : Code} {E : Ev} {ad : Nat → Nat} {g : Gp} {h : Hp} {r : Int32} {k5 : Int32 → Int32 → Int32 → Int32 → Int32 → Option (Int32)} (C : CallFix p m c cX6_weightOfWorms 5 s args lwA RX6) (hr : meth.sig.returnType = (some .int)) (hlk : meth.locks = false) (X : Sx E ad s) (hI : Inj ad) (hk5 : ∀ (v0 : Int32) (v1 : Int32) (v2 : Int32) (v3 : Int32) (v4 : Int32) (H : Heap) (locs : List Loc) (ls : Array Slot), At E ad h g s H locs → lv_has ls 5 [(0, .int v0), (1, .int v1), (2, .int v2), (3, .int v3), (4, .int v4)] → k5  v0 v1 v2 v3 v4 = some r → W p l e (RM 1 21) s m args below meth c H locs 0 0 (QI E ad h g r below args s) (F0 m 5 ls [])) : ∀ (v0 : Int32) (v1 : Int32) (v2 : Int32) (v4 : Int32) (s0 : Int32) (s1 : Int32) (H : Heap) (locs : List Loc) (ls : Array Slot), At E ad h g s H locs → lv_has ls 5 [(0, .int v0), (1, .int v1), (2, .int v2), (4, .int v4)] → qX6_weightOfWorms_29 k5 v0 v1 v2 v4 s0 s1 = some r → W p l e (RM 1 21) s m args below meth c H locs 0 0 (QI E ad h g r below args s) (F0 m 29 ls [.int s1, .int s0]) := by
  intro v0 v1 v2 v4 s0 s1 H locs ls w hl hf
  unfold qX6_weightOfWorms_29 at hf
  refine lv_imul C.1 C.2.1 dX6_weightOfWorms_29 ?_
  refine lv_istore_n (lv' := [(3, .int (s0 * s1)), (0, .int v0), (1, .int v1), (2, .int v2), (4, .int v4)]) C.1 C.2.1 dX6_weightOfWorms_30 rfl hl (by decide) rfl (fun ls hl => ?_)
  refine lv_iinc (v := (v4 + 1)) (lv' := [(4, .int (v4 + 1)), (3, .int (s0 * s1)), (0, .int v0), (1, .int v1), (2, .int v2)]) C.1 C.2.1 dX6_weightOfWorms_31 hl (k := 4) rfl (congrArg (fun z => v4 + z) (by decide)) (by decide) rfl (fun ls hl => ?_)
  refine lv_goto (tgt := 5) C.1 C.2.1 dX6_weightOfWorms_34 (by decide) ?_
  exact hk5 _ _ _ _ _ _ _ _ w (lv_sub hl [2, 3, 4, 1, 0] rfl) hf
def qX6_weightOfWorms_5 : Nat → Int32 → Int32 → Int32 → Int32 → Int32 → Option (Int32)
  | 0, _, _, _, _, _ => none
  | n + 1, v0, v1, v2, v3, v4 =>
    (if v1 ≤ v4 then (some v3)
    else (bi1 (qX6_has v0 v4) (fun r23 =>
    (if r23 = 0 then (qX6_weightOfWorms_29 (qX6_weightOfWorms_5 n) v0 v1 v2 v4 v3 ((10 : Int32) - v2))
    else (qX6_weightOfWorms_29 (qX6_weightOfWorms_5 n) v0 v1 v2 v4 v3 v2)))))
set_option maxHeartbeats 4000000 in
set_option maxRecDepth 100000 in
theorem w_X6_weightOfWorms_5 {p : Program} {l : Launch} {e : Env} {s : State} {m : MethodId} {args : Array Value} {below : List Frame} {meth : Method} {c : Code} {E : Ev} {ad : Nat → Nat} {g : Gp} {h : Hp} {r : Int32} (C : CallFix p m c cX6_weightOfWorms 5 s args lwA RX6) (hr : meth.sig.returnType = (some .int)) (hlk : meth.locks = false) (X : Sx E ad s) (hI : Inj ad)  : ∀ (n : Nat), ∀ (v0 : Int32) (v1 : Int32) (v2 : Int32) (v3 : Int32) (v4 : Int32) (H : Heap) (locs : List Loc) (ls : Array Slot), At E ad h g s H locs → lv_has ls 5 [(0, .int v0), (1, .int v1), (2, .int v2), (3, .int v3), (4, .int v4)] → qX6_weightOfWorms_5 n v0 v1 v2 v3 v4 = some r → W p l e (RM 1 21) s m args below meth c H locs 0 0 (QI E ad h g r below args s) (F0 m 5 ls []) := by
  intro n
  induction n with
  | zero =>
    intro v0 v1 v2 v3 v4 H locs ls w hl hf
    cases hf
  | succ n ih =>
    intro v0 v1 v2 v3 v4 H locs ls w hl hf
    rw [qX6_weightOfWorms_5] at hf
    refine lv_iload C.1 C.2.1 dX6_weightOfWorms_5 (lv_at hl 4 rfl) ?_
    refine lv_iload_n C.1 C.2.1 dX6_weightOfWorms_7 rfl (lv_at hl 1 rfl) ?_
    refine lv_icmp_ge (tgt := 37) C.1 C.2.1 dX6_weightOfWorms_8 (by decide) (fun c21 => ?_) (fun c21 => ?_)
    · rw [if_pos c21] at hf
      refine lv_iload_n C.1 C.2.1 dX6_weightOfWorms_37 rfl (lv_at hl 3 rfl) ?_
      cases hf
      exact x_iret C hr hlk w dX6_weightOfWorms_38
    · rw [if_neg c21] at hf
      refine lv_iload_n C.1 C.2.1 dX6_weightOfWorms_11 rfl (lv_at hl 3 rfl) ?_
      refine lv_iload_n C.1 C.2.1 dX6_weightOfWorms_12 rfl (lv_at hl 0 rfl) ?_
      refine lv_iload C.1 C.2.1 dX6_weightOfWorms_13 (lv_at hl 4 rfl) ?_
      obtain ⟨r23, eq22, hf⟩ := bi1_e hf
      refine x_cSi (As := [.int v0, .int v4]) (rest := [.int v3]) C X w (c_X6_has hI  eq22) mw_X6_has ml_X6_222 rfl hl.1 rfl (Nat.le_of_ble_eq_true rfl) ⟨⟨Nat.le_of_ble_eq_true rfl, Nat.le_of_ble_eq_true rfl⟩, Nat.le_of_ble_eq_true rfl, Nat.le_of_ble_eq_true rfl⟩ dX6_weightOfWorms_15 (fun H locs w => ?_)
      refine lv_if_eq (tgt := 25) C.1 C.2.1 dX6_weightOfWorms_18 (by decide) (fun c24 => ?_) (fun c24 => ?_)
      · rw [if_pos c24] at hf
        refine lv_bipush (v := 10) C.1 C.2.1 dX6_weightOfWorms_25 (by decide) ?_
        refine lv_iload_n C.1 C.2.1 dX6_weightOfWorms_27 rfl (lv_at hl 2 rfl) ?_
        refine lv_isub C.1 C.2.1 dX6_weightOfWorms_28 ?_
        exact w_X6_weightOfWorms_29 C hr hlk X hI ih _ _ _ _ _ _ _ _ _ w (lv_sub hl [0, 1, 2, 4] rfl) hf
      · rw [if_neg c24] at hf
        refine lv_iload_n C.1 C.2.1 dX6_weightOfWorms_21 rfl (lv_at hl 2 rfl) ?_
        refine lv_goto (tgt := 29) C.1 C.2.1 dX6_weightOfWorms_22 (by decide) ?_
        exact w_X6_weightOfWorms_29 C hr hlk X hI ih _ _ _ _ _ _ _ _ _ w (lv_sub hl [0, 1, 2, 4] rfl) hf
def qX6_weightOfWorms (x0 : Int32) (x1 : Int32) (x2 : Int32) : Option (Int32) :=
(qX6_weightOfWorms_5 600 x0 x1 x2 (1 : Int32) (0 : Int32))
set_option maxHeartbeats 4000000 in
set_option maxRecDepth 100000 in
theorem c_X6_weightOfWorms {l : Launch} {E : Ev} {ad : Nat → Nat} {g : Gp} {h : Hp} {x0 : Int32} {x1 : Int32} {x2 : Int32} {r : Int32} (hI : Inj ad) (hf : qX6_weightOfWorms x0 x1 x2 = some r) : CtI l yX6_weightOfWorms cX6_weightOfWorms 5 (some .int) 1 21 E ad g g [.int x0, .int x1, .int x2] h h r := by
  refine x_begin (by decide) (Nat.le_of_ble_eq_true rfl) ?_
  intro p e s m below meth c ls C hr hlk X w hl
  replace hl : lv_has ls 5 [(0, .int x0), (1, .int x1), (2, .int x2)] := hl
  replace C : CallFix p m c cX6_weightOfWorms 5 s ([.int x0, .int x1, .int x2] : List Value).toArray lwA RX6 := C
  unfold qX6_weightOfWorms at hf
  refine lv_iconst (v := 1) C.1 C.2.1 dX6_weightOfWorms_0 (by decide) ?_
  refine lv_istore_n (lv' := [(3, .int (1 : Int32)), (0, .int x0), (1, .int x1), (2, .int x2)]) C.1 C.2.1 dX6_weightOfWorms_1 rfl hl (by decide) rfl (fun ls hl => ?_)
  refine lv_iconst (v := 0) C.1 C.2.1 dX6_weightOfWorms_2 (by decide) ?_
  refine lv_istore (lv' := [(4, .int (0 : Int32)), (3, .int (1 : Int32)), (0, .int x0), (1, .int x1), (2, .int x2)]) C.1 C.2.1 dX6_weightOfWorms_3 hl (by decide) rfl (fun ls hl => ?_)
  exact w_X6_weightOfWorms_5 C hr hlk X hI 600 _ _ _ _ _ _ _ _ w (lv_sub hl [2, 3, 4, 1, 0] rfl) hf

def qX6_isSlot (x0 : Int32) : Option (Int32) :=
(if x0 < 0 then (some (0 : Int32))
else (if (2 : Int32) ≤ x0 then (some (0 : Int32))
else (some (1 : Int32))))
set_option maxHeartbeats 4000000 in
set_option maxRecDepth 100000 in
theorem c_X6_isSlot {l : Launch} {E : Ev} {ad : Nat → Nat} {g : Gp} {h : Hp} {x0 : Int32} {r : Int32} (hI : Inj ad) (hf : qX6_isSlot x0 = some r) : CtI l yX6_isSlot cX6_isSlot 1 (some .boolean) 0 0 E ad g g [.int x0] h h r := by
  refine x_begin (by decide) (Nat.le_of_ble_eq_true rfl) ?_
  intro p e s m below meth c ls C hr hlk X w hl
  replace hl : lv_has ls 1 [(0, .int x0)] := hl
  replace C : CallFix p m c cX6_isSlot 1 s ([.int x0] : List Value).toArray lwA RX6 := C
  unfold qX6_isSlot at hf
  refine lv_iload_n C.1 C.2.1 dX6_isSlot_0 rfl (lv_at hl 0 rfl) ?_
  refine lv_if_lt (tgt := 13) C.1 C.2.1 dX6_isSlot_1 (by decide) (fun c21 => ?_) (fun c21 => ?_)
  · rw [if_pos c21] at hf
    refine lv_iconst (v := 0) C.1 C.2.1 dX6_isSlot_13 (by decide) ?_
    cases hf
    exact x_zret C hr hlk w rfl dX6_isSlot_14
  · rw [if_neg c21] at hf
    refine lv_iload_n C.1 C.2.1 dX6_isSlot_4 rfl (lv_at hl 0 rfl) ?_
    refine lv_iconst (v := 2) C.1 C.2.1 dX6_isSlot_5 (by decide) ?_
    refine lv_icmp_ge (tgt := 13) C.1 C.2.1 dX6_isSlot_6 (by decide) (fun c22 => ?_) (fun c22 => ?_)
    · rw [if_pos c22] at hf
      refine lv_iconst (v := 0) C.1 C.2.1 dX6_isSlot_13 (by decide) ?_
      cases hf
      exact x_zret C hr hlk w rfl dX6_isSlot_14
    · rw [if_neg c22] at hf
      refine lv_iconst (v := 1) C.1 C.2.1 dX6_isSlot_9 (by decide) ?_
      refine lv_goto (tgt := 14) C.1 C.2.1 dX6_isSlot_10 (by decide) ?_
      cases hf
      exact x_zret C hr hlk w rfl dX6_isSlot_14
