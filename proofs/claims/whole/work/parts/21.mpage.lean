def qX7_wantsOf_51 (R33 : Row) (P : Row) (k4 : Int32 → Int32 → Option (Int32)) (v3 : Int32) (s0 : Int32) (s1 : Int32) : Option (Int32) :=
(k4 (s0 ||| s1) (v3 + 1))
set_option maxHeartbeats 4000000 in
set_option maxRecDepth 100000 in
theorem w_X7_wantsOf_51 {p : Program} {l : Launch} {e : Env} {s : State} {m : MethodId} {args : Array Value} {below : List Frame} {meth : Method} {c : Code} {E : Ev} {ad : Nat → Nat} {g : Gp} {h : Hp} {P : Row} {p_ : Nat} {r : Int32} {k4 : Int32 → Int32 → Option (Int32)} (C : CallFix p m c cX7_wantsOf 4 s args lwA RX7) (hr : meth.sig.returnType = (some .int)) (hlk : meth.locks = false) (X : Sx E ad s) (hI : Inj ad) (hp : p_ = 38 ∨ p_ = 39) (hk4 : ∀ (v2 : Int32) (v3 : Int32) (H : Heap) (locs : List Loc) (ls : Array Slot), At E ad (su h p_ P) g s H locs → lv_has ls 4 [(0, .ref (ad 141)), (1, .ref (ad (p_ + 108))), (2, .int v2), (3, .int v3)] → k4  v2 v3 = some r → W p l e (RM 1 21) s m args below meth c H locs 0 0 (QI E ad (su h p_ P) g r below args s) (F0 m 4 ls [])) : ∀ (v3 : Int32) (s0 : Int32) (s1 : Int32) (H : Heap) (locs : List Loc) (ls : Array Slot), At E ad (su h p_ P) g s H locs → lv_has ls 4 [(0, .ref (ad 141)), (1, .ref (ad (p_ + 108))), (3, .int v3)] → qX7_wantsOf_51 (h 33) P k4 v3 s0 s1 = some r → W p l e (RM 1 21) s m args below meth c H locs 0 0 (QI E ad (su h p_ P) g r below args s) (F0 m 51 ls [.int s1, .int s0]) := by
  intro v3 s0 s1 H locs ls w hl hf
  unfold qX7_wantsOf_51 at hf
  refine lv_ior C.1 C.2.1 dX7_wantsOf_51 ?_
  refine lv_istore_n (lv' := [(2, .int (s0 ||| s1)), (0, .ref (ad 141)), (1, .ref (ad (p_ + 108))), (3, .int v3)]) C.1 C.2.1 dX7_wantsOf_52 rfl hl (by decide) rfl (fun ls hl => ?_)
  refine lv_iinc (v := (v3 + 1)) (lv' := [(3, .int (v3 + 1)), (2, .int (s0 ||| s1)), (0, .ref (ad 141)), (1, .ref (ad (p_ + 108)))]) C.1 C.2.1 dX7_wantsOf_53 hl (k := 3) rfl (congrArg (fun z => v3 + z) (by decide)) (by decide) rfl (fun ls hl => ?_)
  refine lv_goto (tgt := 4) C.1 C.2.1 dX7_wantsOf_56 (by decide) ?_
  exact hk4 _ _ _ _ _ w (lv_sub hl [2, 3, 1, 0] rfl) hf
def qX7_wantsOf_50 (R33 : Row) (P : Row) (k4 : Int32 → Int32 → Option (Int32)) (v3 : Int32) (s0 : Int32) : Option (Int32) :=
(qX7_wantsOf_51 R33 P k4 v3 s0 (0 : Int32))
set_option maxHeartbeats 4000000 in
set_option maxRecDepth 100000 in
theorem w_X7_wantsOf_50 {p : Program} {l : Launch} {e : Env} {s : State} {m : MethodId} {args : Array Value} {below : List Frame} {meth : Method} {c : Code} {E : Ev} {ad : Nat → Nat} {g : Gp} {h : Hp} {P : Row} {p_ : Nat} {r : Int32} {k4 : Int32 → Int32 → Option (Int32)} (C : CallFix p m c cX7_wantsOf 4 s args lwA RX7) (hr : meth.sig.returnType = (some .int)) (hlk : meth.locks = false) (X : Sx E ad s) (hI : Inj ad) (hp : p_ = 38 ∨ p_ = 39) (hk4 : ∀ (v2 : Int32) (v3 : Int32) (H : Heap) (locs : List Loc) (ls : Array Slot), At E ad (su h p_ P) g s H locs → lv_has ls 4 [(0, .ref (ad 141)), (1, .ref (ad (p_ + 108))), (2, .int v2), (3, .int v3)] → k4  v2 v3 = some r → W p l e (RM 1 21) s m args below meth c H locs 0 0 (QI E ad (su h p_ P) g r below args s) (F0 m 4 ls [])) : ∀ (v3 : Int32) (s0 : Int32) (H : Heap) (locs : List Loc) (ls : Array Slot), At E ad (su h p_ P) g s H locs → lv_has ls 4 [(0, .ref (ad 141)), (1, .ref (ad (p_ + 108))), (3, .int v3)] → qX7_wantsOf_50 (h 33) P k4 v3 s0 = some r → W p l e (RM 1 21) s m args below meth c H locs 0 0 (QI E ad (su h p_ P) g r below args s) (F0 m 50 ls [.int s0]) := by
  intro v3 s0 H locs ls w hl hf
  unfold qX7_wantsOf_50 at hf
  refine lv_iconst (v := 0) C.1 C.2.1 dX7_wantsOf_50 (by decide) ?_
  exact w_X7_wantsOf_51 C hr hlk X hI hp hk4 _ _ _ _ _ _ w (lv_sub hl [0, 1, 2] rfl) hf
def qX7_wantsOf_4 (R33 : Row) (P : Row) : Nat → Int32 → Int32 → Option (Int32)
  | 0, _, _ => none
  | n + 1, v2, v3 =>
    (if (R33 4) ≤ v3 then (some v2)
    else (bi1 (qX7_has (R33 25) v3) (fun r23 =>
    (if r23 = 0 then (qX7_wantsOf_50 R33 P (qX7_wantsOf_4 R33 P n) v3 v2)
    else (bi1 (qX7_has (P 30) v3) (fun r26 =>
    (if r26 = 0 then (ck (inb ((0 : Int32) + v3) 36) ((if (P (((0 : Int32) + v3)).toNatClampNeg) < (5 : Int32) then (qX7_wantsOf_50 R33 P (qX7_wantsOf_4 R33 P n) v3 v2)
    else (qX7_wantsOf_51 R33 P (qX7_wantsOf_4 R33 P n) v3 v2 ((1 : Int32) <<< (v3 &&& 31))))))
    else (qX7_wantsOf_50 R33 P (qX7_wantsOf_4 R33 P n) v3 v2))))))))
set_option maxHeartbeats 4000000 in
set_option maxRecDepth 100000 in
theorem w_X7_wantsOf_4 {p : Program} {l : Launch} {e : Env} {s : State} {m : MethodId} {args : Array Value} {below : List Frame} {meth : Method} {c : Code} {E : Ev} {ad : Nat → Nat} {g : Gp} {h : Hp} {P : Row} {p_ : Nat} {r : Int32} (C : CallFix p m c cX7_wantsOf 4 s args lwA RX7) (hr : meth.sig.returnType = (some .int)) (hlk : meth.locks = false) (X : Sx E ad s) (hI : Inj ad) (hp : p_ = 38 ∨ p_ = 39)  : ∀ (n : Nat), ∀ (v2 : Int32) (v3 : Int32) (H : Heap) (locs : List Loc) (ls : Array Slot), At E ad (su h p_ P) g s H locs → lv_has ls 4 [(0, .ref (ad 141)), (1, .ref (ad (p_ + 108))), (2, .int v2), (3, .int v3)] → qX7_wantsOf_4 (h 33) P n v2 v3 = some r → W p l e (RM 1 21) s m args below meth c H locs 0 0 (QI E ad (su h p_ P) g r below args s) (F0 m 4 ls []) := by
  intro n
  induction n with
  | zero =>
    intro v2 v3 H locs ls w hl hf
    cases hf
  | succ n ih =>
    intro v2 v3 H locs ls w hl hf
    rw [qX7_wantsOf_4] at hf
    refine lv_iload_n C.1 C.2.1 dX7_wantsOf_4 rfl (lv_at hl 3 rfl) ?_
    refine lv_aload_n C.1 C.2.1 dX7_wantsOf_5 rfl (lv_at hl 0 rfl) ?_
    refine gf_X7_54 C X w (su_ne (by omega)) dX7_wantsOf_6 ?_
    refine lv_icmp_ge (tgt := 59) C.1 C.2.1 dX7_wantsOf_9 (by decide) (fun c21 => ?_) (fun c21 => ?_)
    · rw [if_pos c21] at hf
      refine lv_iload_n C.1 C.2.1 dX7_wantsOf_59 rfl (lv_at hl 2 rfl) ?_
      cases hf
      exact x_iret C hr hlk w dX7_wantsOf_60
    · rw [if_neg c21] at hf
      refine lv_iload_n C.1 C.2.1 dX7_wantsOf_12 rfl (lv_at hl 2 rfl) ?_
      refine lv_aload_n C.1 C.2.1 dX7_wantsOf_13 rfl (lv_at hl 0 rfl) ?_
      refine gf_X7_96 C X w (su_ne (by omega)) dX7_wantsOf_14 ?_
      refine lv_iload_n C.1 C.2.1 dX7_wantsOf_17 rfl (lv_at hl 3 rfl) ?_
      obtain ⟨r23, eq22, hf⟩ := bi1_e hf
      refine x_cSi (As := [.int ((h 33) 25), .int v3]) (rest := [.int v2]) C X w (c_X7_has hI  eq22) mw_X7_has ml_X7_99 rfl hl.1 rfl (Nat.le_of_ble_eq_true rfl) ⟨⟨Nat.le_of_ble_eq_true rfl, Nat.le_of_ble_eq_true rfl⟩, Nat.le_of_ble_eq_true rfl, Nat.le_of_ble_eq_true rfl⟩ dX7_wantsOf_18 (fun H locs w => ?_)
      refine lv_if_eq (tgt := 50) C.1 C.2.1 dX7_wantsOf_21 (by decide) (fun c24 => ?_) (fun c24 => ?_)
      · rw [if_pos c24] at hf
        exact w_X7_wantsOf_50 C hr hlk X hI hp ih _ _ _ _ _ w (lv_sub hl [0, 1, 3] rfl) hf
      · rw [if_neg c24] at hf
        refine lv_aload_n C.1 C.2.1 dX7_wantsOf_24 rfl (lv_at hl 1 rfl) ?_
        refine lv_bipush (v := 30) C.1 C.2.1 dX7_wantsOf_25 (by decide) ?_
        refine x_qld (j := 30) C X w (su_same h p_ P) hp (by decide) (by decide) dX7_wantsOf_27 ?_
        refine lv_iload_n C.1 C.2.1 dX7_wantsOf_28 rfl (lv_at hl 3 rfl) ?_
        obtain ⟨r26, eq25, hf⟩ := bi1_e hf
        refine x_cSi (As := [.int (P 30), .int v3]) (rest := [.int v2]) C X w (c_X7_has hI  eq25) mw_X7_has ml_X7_99 rfl hl.1 rfl (Nat.le_of_ble_eq_true rfl) ⟨⟨Nat.le_of_ble_eq_true rfl, Nat.le_of_ble_eq_true rfl⟩, Nat.le_of_ble_eq_true rfl, Nat.le_of_ble_eq_true rfl⟩ dX7_wantsOf_29 (fun H locs w => ?_)
        refine lv_if_ne (tgt := 50) C.1 C.2.1 dX7_wantsOf_32 (by decide) (fun c27 => ?_) (fun c27 => ?_)
        · rw [if_neg c27] at hf
          exact w_X7_wantsOf_50 C hr hlk X hI hp ih _ _ _ _ _ w (lv_sub hl [0, 1, 3] rfl) hf
        · rw [if_pos c27] at hf
          refine lv_aload_n C.1 C.2.1 dX7_wantsOf_35 rfl (lv_at hl 1 rfl) ?_
          refine lv_iconst (v := 0) C.1 C.2.1 dX7_wantsOf_36 (by decide) ?_
          refine lv_iload_n C.1 C.2.1 dX7_wantsOf_37 rfl (lv_at hl 3 rfl) ?_
          refine lv_iadd C.1 C.2.1 dX7_wantsOf_38 ?_
          obtain ⟨i28, hf⟩ := ck_e hf
          refine x_qld (j := (((0 : Int32) + v3)).toNatClampNeg) C X w (su_same h p_ P) hp i28 rfl dX7_wantsOf_39 ?_
          refine lv_iconst (v := 5) C.1 C.2.1 dX7_wantsOf_40 (by decide) ?_
          refine lv_icmp_lt (tgt := 50) C.1 C.2.1 dX7_wantsOf_41 (by decide) (fun c29 => ?_) (fun c29 => ?_)
          · rw [if_pos c29] at hf
            exact w_X7_wantsOf_50 C hr hlk X hI hp ih _ _ _ _ _ w (lv_sub hl [0, 1, 3] rfl) hf
          · rw [if_neg c29] at hf
            refine lv_iconst (v := 1) C.1 C.2.1 dX7_wantsOf_44 (by decide) ?_
            refine lv_iload_n C.1 C.2.1 dX7_wantsOf_45 rfl (lv_at hl 3 rfl) ?_
            refine lv_ishl C.1 C.2.1 dX7_wantsOf_46 ?_
            refine lv_goto (tgt := 51) C.1 C.2.1 dX7_wantsOf_47 (by decide) ?_
            exact w_X7_wantsOf_51 C hr hlk X hI hp ih _ _ _ _ _ _ w (lv_sub hl [0, 1, 3] rfl) hf
def qX7_wantsOf (R33 : Row) (P : Row) : Option (Int32) :=
(qX7_wantsOf_4 R33 P 600 (0 : Int32) (0 : Int32))
set_option maxHeartbeats 4000000 in
set_option maxRecDepth 100000 in
theorem c_X7_wantsOf {l : Launch} {E : Ev} {ad : Nat → Nat} {g : Gp} {h : Hp} {p_ : Nat} {P : Row} {r : Int32} (hI : Inj ad) (hp : p_ = 38 ∨ p_ = 39) (hf : qX7_wantsOf (h 33) P = some r) : CtI l yX7_wantsOf cX7_wantsOf 4 (some .int) 1 21 E ad g g [.ref (ad 141), .ref (ad (p_ + 108))] (su h p_ P) (su h p_ P) r := by
  refine x_begin (by decide) (Nat.le_of_ble_eq_true rfl) ?_
  intro p e s m below meth c ls C hr hlk X w hl
  replace hl : lv_has ls 4 [(0, .ref (ad 141)), (1, .ref (ad (p_ + 108)))] := hl
  replace C : CallFix p m c cX7_wantsOf 4 s ([.ref (ad 141), .ref (ad (p_ + 108))] : List Value).toArray lwA RX7 := C
  unfold qX7_wantsOf at hf
  refine lv_iconst (v := 0) C.1 C.2.1 dX7_wantsOf_0 (by decide) ?_
  refine lv_istore_n (lv' := [(2, .int (0 : Int32)), (0, .ref (ad 141)), (1, .ref (ad (p_ + 108)))]) C.1 C.2.1 dX7_wantsOf_1 rfl hl (by decide) rfl (fun ls hl => ?_)
  refine lv_iconst (v := 0) C.1 C.2.1 dX7_wantsOf_2 (by decide) ?_
  refine lv_istore_n (lv' := [(3, .int (0 : Int32)), (2, .int (0 : Int32)), (0, .ref (ad 141)), (1, .ref (ad (p_ + 108)))]) C.1 C.2.1 dX7_wantsOf_3 rfl hl (by decide) rfl (fun ls hl => ?_)
  exact w_X7_wantsOf_4 C hr hlk X hI hp 600 _ _ _ _ _ w (lv_sub hl [2, 3, 1, 0] rfl) hf

def qX7_asksOf_44 (R33 : Row) (R36 : Row) (P : Row) (k8 : Int32 → Int32 → Option (Int32)) (v3 : Int32) (s0 : Int32) (s1 : Int32) : Option (Int32) :=
(k8 (s0 &&& s1) (v3 + 1))
set_option maxHeartbeats 4000000 in
set_option maxRecDepth 100000 in
theorem w_X7_asksOf_44 {p : Program} {l : Launch} {e : Env} {s : State} {m : MethodId} {args : Array Value} {below : List Frame} {meth : Method} {c : Code} {E : Ev} {ad : Nat → Nat} {g : Gp} {h : Hp} {P : Row} {p_ : Nat} {r : Int32} {k8 : Int32 → Int32 → Option (Int32)} (C : CallFix p m c cX7_asksOf 4 s args lwA RX7) (hr : meth.sig.returnType = (some .int)) (hlk : meth.locks = false) (X : Sx E ad s) (hI : Inj ad) (hp : p_ = 38 ∨ p_ = 39) (hk8 : ∀ (v2 : Int32) (v3 : Int32) (H : Heap) (locs : List Loc) (ls : Array Slot), At E ad (su h p_ P) g s H locs → lv_has ls 4 [(0, .ref (ad 141)), (1, .ref (ad (p_ + 108))), (2, .int v2), (3, .int v3)] → k8  v2 v3 = some r → W p l e (RM 2 44) s m args below meth c H locs 0 0 (QI E ad (su h p_ P) g r below args s) (F0 m 8 ls [])) : ∀ (v3 : Int32) (s0 : Int32) (s1 : Int32) (H : Heap) (locs : List Loc) (ls : Array Slot), At E ad (su h p_ P) g s H locs → lv_has ls 4 [(0, .ref (ad 141)), (1, .ref (ad (p_ + 108))), (3, .int v3)] → qX7_asksOf_44 (h 33) (h 36) P k8 v3 s0 s1 = some r → W p l e (RM 2 44) s m args below meth c H locs 0 0 (QI E ad (su h p_ P) g r below args s) (F0 m 44 ls [.int s1, .int s0]) := by
  intro v3 s0 s1 H locs ls w hl hf
  unfold qX7_asksOf_44 at hf
  refine lv_iand C.1 C.2.1 dX7_asksOf_44 ?_
  refine lv_istore_n (lv' := [(2, .int (s0 &&& s1)), (0, .ref (ad 141)), (1, .ref (ad (p_ + 108))), (3, .int v3)]) C.1 C.2.1 dX7_asksOf_45 rfl hl (by decide) rfl (fun ls hl => ?_)
  refine lv_iinc (v := (v3 + 1)) (lv' := [(3, .int (v3 + 1)), (2, .int (s0 &&& s1)), (0, .ref (ad 141)), (1, .ref (ad (p_ + 108)))]) C.1 C.2.1 dX7_asksOf_46 hl (k := 3) rfl (congrArg (fun z => v3 + z) (by decide)) (by decide) rfl (fun ls hl => ?_)
  refine lv_goto (tgt := 8) C.1 C.2.1 dX7_asksOf_49 (by decide) ?_
  exact hk8 _ _ _ _ _ w (lv_sub hl [2, 3, 1, 0] rfl) hf
def qX7_asksOf_43 (R33 : Row) (R36 : Row) (P : Row) (k8 : Int32 → Int32 → Option (Int32)) (v3 : Int32) (s0 : Int32) : Option (Int32) :=
(qX7_asksOf_44 R33 R36 P k8 v3 s0 (-1 : Int32))
set_option maxHeartbeats 4000000 in
set_option maxRecDepth 100000 in
theorem w_X7_asksOf_43 {p : Program} {l : Launch} {e : Env} {s : State} {m : MethodId} {args : Array Value} {below : List Frame} {meth : Method} {c : Code} {E : Ev} {ad : Nat → Nat} {g : Gp} {h : Hp} {P : Row} {p_ : Nat} {r : Int32} {k8 : Int32 → Int32 → Option (Int32)} (C : CallFix p m c cX7_asksOf 4 s args lwA RX7) (hr : meth.sig.returnType = (some .int)) (hlk : meth.locks = false) (X : Sx E ad s) (hI : Inj ad) (hp : p_ = 38 ∨ p_ = 39) (hk8 : ∀ (v2 : Int32) (v3 : Int32) (H : Heap) (locs : List Loc) (ls : Array Slot), At E ad (su h p_ P) g s H locs → lv_has ls 4 [(0, .ref (ad 141)), (1, .ref (ad (p_ + 108))), (2, .int v2), (3, .int v3)] → k8  v2 v3 = some r → W p l e (RM 2 44) s m args below meth c H locs 0 0 (QI E ad (su h p_ P) g r below args s) (F0 m 8 ls [])) : ∀ (v3 : Int32) (s0 : Int32) (H : Heap) (locs : List Loc) (ls : Array Slot), At E ad (su h p_ P) g s H locs → lv_has ls 4 [(0, .ref (ad 141)), (1, .ref (ad (p_ + 108))), (3, .int v3)] → qX7_asksOf_43 (h 33) (h 36) P k8 v3 s0 = some r → W p l e (RM 2 44) s m args below meth c H locs 0 0 (QI E ad (su h p_ P) g r below args s) (F0 m 43 ls [.int s0]) := by
  intro v3 s0 H locs ls w hl hf
  unfold qX7_asksOf_43 at hf
  refine lv_iconst (v := -1) C.1 C.2.1 dX7_asksOf_43 (by decide) ?_
  exact w_X7_asksOf_44 C hr hlk X hI hp hk8 _ _ _ _ _ _ w (lv_sub hl [0, 1, 2] rfl) hf
def qX7_asksOf_8 (R33 : Row) (R36 : Row) (P : Row) : Nat → Int32 → Int32 → Option (Int32)
  | 0, _, _ => none
  | n + 1, v2, v3 =>
    (if (R33 4) ≤ v3 then (some v2)
    else (ck (inb v3 5) ((if (R36 v3.toNatClampNeg) = (2 : Int32) then (if (P 32) = (3 : Int32) then (qX7_asksOf_43 R33 R36 P (qX7_asksOf_8 R33 R36 P n) v3 v2)
    else (qX7_asksOf_44 R33 R36 P (qX7_asksOf_8 R33 R36 P n) v3 v2 (((1 : Int32) <<< (v3 &&& 31)) ^^^ (-1 : Int32))))
    else (qX7_asksOf_43 R33 R36 P (qX7_asksOf_8 R33 R36 P n) v3 v2)))))
set_option maxHeartbeats 4000000 in
set_option maxRecDepth 100000 in
theorem w_X7_asksOf_8 {p : Program} {l : Launch} {e : Env} {s : State} {m : MethodId} {args : Array Value} {below : List Frame} {meth : Method} {c : Code} {E : Ev} {ad : Nat → Nat} {g : Gp} {h : Hp} {P : Row} {p_ : Nat} {r : Int32} (C : CallFix p m c cX7_asksOf 4 s args lwA RX7) (hr : meth.sig.returnType = (some .int)) (hlk : meth.locks = false) (X : Sx E ad s) (hI : Inj ad) (hp : p_ = 38 ∨ p_ = 39)  : ∀ (n : Nat), ∀ (v2 : Int32) (v3 : Int32) (H : Heap) (locs : List Loc) (ls : Array Slot), At E ad (su h p_ P) g s H locs → lv_has ls 4 [(0, .ref (ad 141)), (1, .ref (ad (p_ + 108))), (2, .int v2), (3, .int v3)] → qX7_asksOf_8 (h 33) (h 36) P n v2 v3 = some r → W p l e (RM 2 44) s m args below meth c H locs 0 0 (QI E ad (su h p_ P) g r below args s) (F0 m 8 ls []) := by
  intro n
  induction n with
  | zero =>
    intro v2 v3 H locs ls w hl hf
    cases hf
  | succ n ih =>
    intro v2 v3 H locs ls w hl hf
    rw [qX7_asksOf_8] at hf
    refine lv_iload_n C.1 C.2.1 dX7_asksOf_8 rfl (lv_at hl 3 rfl) ?_
    refine lv_aload_n C.1 C.2.1 dX7_asksOf_9 rfl (lv_at hl 0 rfl) ?_
    refine gf_X7_54 C X w (su_ne (by omega)) dX7_asksOf_10 ?_
    refine lv_icmp_ge (tgt := 52) C.1 C.2.1 dX7_asksOf_13 (by decide) (fun c23 => ?_) (fun c23 => ?_)
    · rw [if_pos c23] at hf
      refine lv_iload_n C.1 C.2.1 dX7_asksOf_52 rfl (lv_at hl 2 rfl) ?_
      cases hf
      exact x_iret C hr hlk w dX7_asksOf_53
    · rw [if_neg c23] at hf
      refine lv_iload_n C.1 C.2.1 dX7_asksOf_16 rfl (lv_at hl 2 rfl) ?_
      refine lv_aload_n C.1 C.2.1 dX7_asksOf_17 rfl (lv_at hl 0 rfl) ?_
      refine gf_X7_16 C X w rfl dX7_asksOf_18 ?_
      refine lv_iload_n C.1 C.2.1 dX7_asksOf_21 rfl (lv_at hl 3 rfl) ?_
      obtain ⟨i24, hf⟩ := ck_e hf
      refine x_ild (v := (h 36) v3.toNatClampNeg) C X w (wl_r36 (su_ne (by omega))) i24 (rfl) dX7_asksOf_22 ?_
      refine lv_iconst (v := 2) C.1 C.2.1 dX7_asksOf_23 (by decide) ?_
      refine lv_icmp_ne (tgt := 43) C.1 C.2.1 dX7_asksOf_24 (by decide) (fun c25 => ?_) (fun c25 => ?_)
      · rw [if_neg c25] at hf
        exact w_X7_asksOf_43 C hr hlk X hI hp ih _ _ _ _ _ w (lv_sub hl [0, 1, 3] rfl) hf
      · rw [if_pos c25] at hf
        refine lv_aload_n C.1 C.2.1 dX7_asksOf_27 rfl (lv_at hl 1 rfl) ?_
        refine lv_bipush (v := 32) C.1 C.2.1 dX7_asksOf_28 (by decide) ?_
        refine x_qld (j := 32) C X w (su_same h p_ P) hp (by decide) (by decide) dX7_asksOf_30 ?_
        refine lv_iconst (v := 3) C.1 C.2.1 dX7_asksOf_31 (by decide) ?_
        refine lv_icmp_eq (tgt := 43) C.1 C.2.1 dX7_asksOf_32 (by decide) (fun c26 => ?_) (fun c26 => ?_)
        · rw [if_pos c26] at hf
          exact w_X7_asksOf_43 C hr hlk X hI hp ih _ _ _ _ _ w (lv_sub hl [0, 1, 3] rfl) hf
        · rw [if_neg c26] at hf
          refine lv_iconst (v := 1) C.1 C.2.1 dX7_asksOf_35 (by decide) ?_
          refine lv_iload_n C.1 C.2.1 dX7_asksOf_36 rfl (lv_at hl 3 rfl) ?_
          refine lv_ishl C.1 C.2.1 dX7_asksOf_37 ?_
          refine lv_iconst (v := -1) C.1 C.2.1 dX7_asksOf_38 (by decide) ?_
          refine lv_ixor C.1 C.2.1 dX7_asksOf_39 ?_
          refine lv_goto (tgt := 44) C.1 C.2.1 dX7_asksOf_40 (by decide) ?_
          exact w_X7_asksOf_44 C hr hlk X hI hp ih _ _ _ _ _ _ w (lv_sub hl [0, 1, 3] rfl) hf
def qX7_asksOf (R33 : Row) (R36 : Row) (P : Row) : Option (Int32) :=
(bi1 (qX7_wantsOf R33 P) (fun r22 =>
(qX7_asksOf_8 R33 R36 P 600 r22 (0 : Int32))))
set_option maxHeartbeats 4000000 in
set_option maxRecDepth 100000 in
theorem c_X7_asksOf {l : Launch} {E : Ev} {ad : Nat → Nat} {g : Gp} {h : Hp} {p_ : Nat} {P : Row} {r : Int32} (hI : Inj ad) (hp : p_ = 38 ∨ p_ = 39) (hf : qX7_asksOf (h 33) (h 36) P = some r) : CtI l yX7_asksOf cX7_asksOf 4 (some .int) 2 44 E ad g g [.ref (ad 141), .ref (ad (p_ + 108))] (su h p_ P) (su h p_ P) r := by
  refine x_begin (by decide) (Nat.le_of_ble_eq_true rfl) ?_
  intro p e s m below meth c ls C hr hlk X w hl
  replace hl : lv_has ls 4 [(0, .ref (ad 141)), (1, .ref (ad (p_ + 108)))] := hl
  replace C : CallFix p m c cX7_asksOf 4 s ([.ref (ad 141), .ref (ad (p_ + 108))] : List Value).toArray lwA RX7 := C
  unfold qX7_asksOf at hf
  refine lv_aload_n C.1 C.2.1 dX7_asksOf_0 rfl (lv_at hl 0 rfl) ?_
  refine lv_aload_n C.1 C.2.1 dX7_asksOf_1 rfl (lv_at hl 1 rfl) ?_
  obtain ⟨r22, eq21, hf⟩ := bi1_e hf
  refine x_cVi (As := [.ref (ad (p_ + 108))]) (rest := []) C X w (c_X7_wantsOf hI hp eq21) mw_X7_wantsOf ml_X7_103 rcv_r33 rfl hl.1 rfl (Nat.le_of_ble_eq_true rfl) ⟨⟨Nat.le_of_ble_eq_true rfl, Nat.le_of_ble_eq_true rfl⟩, Nat.le_of_ble_eq_true rfl, Nat.le_of_ble_eq_true rfl⟩ dX7_asksOf_2 (fun H locs w => ?_)
  refine lv_istore_n (lv' := [(2, .int r22), (0, .ref (ad 141)), (1, .ref (ad (p_ + 108)))]) C.1 C.2.1 dX7_asksOf_5 rfl hl (by decide) rfl (fun ls hl => ?_)
  refine lv_iconst (v := 0) C.1 C.2.1 dX7_asksOf_6 (by decide) ?_
  refine lv_istore_n (lv' := [(3, .int (0 : Int32)), (2, .int r22), (0, .ref (ad 141)), (1, .ref (ad (p_ + 108)))]) C.1 C.2.1 dX7_asksOf_7 rfl hl (by decide) rfl (fun ls hl => ?_)
  exact w_X7_asksOf_8 C hr hlk X hI hp 600 _ _ _ _ _ w (lv_sub hl [2, 3, 1, 0] rfl) hf

def qX7_claim (R33 : Row) (R35 : Row) (R36 : Row) (P : Row) (x2 : Int32) : Option (Int32) :=
(if (P 32) = 1 then (ck (inb ((10 : Int32) + x2) 36) ((some (-(P (((10 : Int32) + x2)).toNatClampNeg)))))
else (if (P 32) = 2 then (ck (inb ((20 : Int32) + x2) 36) ((some (P (((20 : Int32) + x2)).toNatClampNeg))))
else (if (P 32) = 3 then (if (P 31) = (-9 : Int32) then (some (-x2))
else (if (R33 4) = 0 then (some (-((((x2 - (P 31)) - (1 : Int32)) + ((10 : Int32) * (R33 4))) - (((x2 - (P 31)) - (1 : Int32)) + ((10 : Int32) * (R33 4))) / (1 : Int32) * (1 : Int32))))
else (ck (nz (R33 4)) ((some (-((((x2 - (P 31)) - (1 : Int32)) + ((10 : Int32) * (R33 4))) - (((x2 - (P 31)) - (1 : Int32)) + ((10 : Int32) * (R33 4))) / (R33 4) * (R33 4))))))))
else (bi1 (qX7_might R35 R36 x2) (fun r30 =>
(some r30))))))
set_option maxHeartbeats 4000000 in
set_option maxRecDepth 100000 in
theorem c_X7_claim {l : Launch} {E : Ev} {ad : Nat → Nat} {g : Gp} {h : Hp} {p_ : Nat} {P : Row} {x2 : Int32} {r : Int32} (hI : Inj ad) (hp : p_ = 38 ∨ p_ = 39) (hf : qX7_claim (h 33) (h 35) (h 36) P x2 = some r) : CtI l yX7_claim cX7_claim 3 (some .int) 1 21 E ad g g [.ref (ad 141), .ref (ad (p_ + 108)), .int x2] (su h p_ P) (su h p_ P) r := by
  refine x_begin (by decide) (Nat.le_of_ble_eq_true rfl) ?_
  intro p e s m below meth c ls C hr hlk X w hl
  replace hl : lv_has ls 3 [(0, .ref (ad 141)), (1, .ref (ad (p_ + 108))), (2, .int x2)] := hl
  replace C : CallFix p m c cX7_claim 3 s ([.ref (ad 141), .ref (ad (p_ + 108)), .int x2] : List Value).toArray lwA RX7 := C
  unfold qX7_claim at hf
  refine lv_aload_n C.1 C.2.1 dX7_claim_0 rfl (lv_at hl 1 rfl) ?_
  refine lv_bipush (v := 32) C.1 C.2.1 dX7_claim_1 (by decide) ?_
  refine x_qld (j := 32) C X w (su_same h p_ P) hp (by decide) (by decide) dX7_claim_3 ?_
  by_cases c21 : (P 32) = 1
  · rw [if_pos c21] at hf
    refine lv_tableIn (off := 28) (tgt := 32) C.1 C.2.1 dX7_claim_4 (by rw [c21]; decide) (by rw [c21]; decide) (by rw [c21]; rfl) (by decide) ?_
    refine lv_aload_n C.1 C.2.1 dX7_claim_32 rfl (lv_at hl 1 rfl) ?_
    refine lv_bipush (v := 10) C.1 C.2.1 dX7_claim_33 (by decide) ?_
    refine lv_iload_n C.1 C.2.1 dX7_claim_35 rfl (lv_at hl 2 rfl) ?_
    refine lv_iadd C.1 C.2.1 dX7_claim_36 ?_
    obtain ⟨i22, hf⟩ := ck_e hf
    refine x_qld (j := (((10 : Int32) + x2)).toNatClampNeg) C X w (su_same h p_ P) hp i22 rfl dX7_claim_37 ?_
    refine lv_ineg C.1 C.2.1 dX7_claim_38 ?_
    cases hf
    exact x_iret C hr hlk w dX7_claim_39
  · rw [if_neg c21] at hf
    by_cases c23 : (P 32) = 2
    · rw [if_pos c23] at hf
      refine lv_tableIn (off := 36) (tgt := 40) C.1 C.2.1 dX7_claim_4 (by rw [c23]; decide) (by rw [c23]; decide) (by rw [c23]; rfl) (by decide) ?_
      refine lv_aload_n C.1 C.2.1 dX7_claim_40 rfl (lv_at hl 1 rfl) ?_
      refine lv_bipush (v := 20) C.1 C.2.1 dX7_claim_41 (by decide) ?_
      refine lv_iload_n C.1 C.2.1 dX7_claim_43 rfl (lv_at hl 2 rfl) ?_
      refine lv_iadd C.1 C.2.1 dX7_claim_44 ?_
      obtain ⟨i24, hf⟩ := ck_e hf
      refine x_qld (j := (((20 : Int32) + x2)).toNatClampNeg) C X w (su_same h p_ P) hp i24 rfl dX7_claim_45 ?_
      cases hf
      exact x_iret C hr hlk w dX7_claim_46
    · rw [if_neg c23] at hf
      by_cases c25 : (P 32) = 3
      · rw [if_pos c25] at hf
        refine lv_tableIn (off := 43) (tgt := 47) C.1 C.2.1 dX7_claim_4 (by rw [c25]; decide) (by rw [c25]; decide) (by rw [c25]; rfl) (by decide) ?_
        refine lv_aload_n C.1 C.2.1 dX7_claim_47 rfl (lv_at hl 1 rfl) ?_
        refine lv_bipush (v := 31) C.1 C.2.1 dX7_claim_48 (by decide) ?_
        refine x_qld (j := 31) C X w (su_same h p_ P) hp (by decide) (by decide) dX7_claim_50 ?_
        refine lv_bipush (v := -9) C.1 C.2.1 dX7_claim_51 (by decide) ?_
        refine lv_icmp_ne (tgt := 61) C.1 C.2.1 dX7_claim_53 (by decide) (fun c26 => ?_) (fun c26 => ?_)
        · rw [if_neg c26] at hf
          refine lv_iload_n C.1 C.2.1 dX7_claim_61 rfl (lv_at hl 2 rfl) ?_
          refine lv_aload_n C.1 C.2.1 dX7_claim_62 rfl (lv_at hl 1 rfl) ?_
          refine lv_bipush (v := 31) C.1 C.2.1 dX7_claim_63 (by decide) ?_
          refine x_qld (j := 31) C X w (su_same h p_ P) hp (by decide) (by decide) dX7_claim_65 ?_
          refine lv_isub C.1 C.2.1 dX7_claim_66 ?_
          refine lv_iconst (v := 1) C.1 C.2.1 dX7_claim_67 (by decide) ?_
          refine lv_isub C.1 C.2.1 dX7_claim_68 ?_
          refine lv_bipush (v := 10) C.1 C.2.1 dX7_claim_69 (by decide) ?_
          refine lv_aload_n C.1 C.2.1 dX7_claim_71 rfl (lv_at hl 0 rfl) ?_
          refine gf_X7_54 C X w (su_ne (by omega)) dX7_claim_72 ?_
          refine lv_imul C.1 C.2.1 dX7_claim_75 ?_
          refine lv_iadd C.1 C.2.1 dX7_claim_76 ?_
          refine lv_aload_n C.1 C.2.1 dX7_claim_77 rfl (lv_at hl 0 rfl) ?_
          refine gf_X7_54 C X w (su_ne (by omega)) dX7_claim_78 ?_
          refine lv_if_ne (tgt := 88) C.1 C.2.1 dX7_claim_81 (by decide) (fun c27 => ?_) (fun c27 => ?_)
          · rw [if_neg c27] at hf
            refine lv_aload_n C.1 C.2.1 dX7_claim_88 rfl (lv_at hl 0 rfl) ?_
            refine gf_X7_54 C X w (su_ne (by omega)) dX7_claim_89 ?_
            obtain ⟨z28, hf⟩ := ck_e hf
            refine lv_irem C.1 C.2.1 dX7_claim_92 (nz_e z28) ?_
            refine lv_ineg C.1 C.2.1 dX7_claim_93 ?_
            cases hf
            exact x_iret C hr hlk w dX7_claim_94
          · rw [if_pos c27] at hf
            refine lv_iconst (v := 1) C.1 C.2.1 dX7_claim_84 (by decide) ?_
            refine lv_goto (tgt := 92) C.1 C.2.1 dX7_claim_85 (by decide) ?_
            refine lv_irem C.1 C.2.1 dX7_claim_92 (by decide) ?_
            refine lv_ineg C.1 C.2.1 dX7_claim_93 ?_
            cases hf
            exact x_iret C hr hlk w dX7_claim_94
        · rw [if_pos c26] at hf
          refine lv_iload_n C.1 C.2.1 dX7_claim_56 rfl (lv_at hl 2 rfl) ?_
          refine lv_ineg C.1 C.2.1 dX7_claim_57 ?_
          refine lv_goto (tgt := 94) C.1 C.2.1 dX7_claim_58 (by decide) ?_
          cases hf
          exact x_iret C hr hlk w dX7_claim_94
      · rw [if_neg c25] at hf
        have c21n := ti_ne c21 (show (1 : Int32).toInt = 1 by decide)
        have c23n := ti_ne c23 (show (2 : Int32).toInt = 2 by decide)
        have c25n := ti_ne c25 (show (3 : Int32).toInt = 3 by decide)
        refine lv_tableOut (tgt := 95) C.1 C.2.1 dX7_claim_4 (by omega) (by decide) ?_
        refine lv_aload_n C.1 C.2.1 dX7_claim_95 rfl (lv_at hl 0 rfl) ?_
        refine lv_iload_n C.1 C.2.1 dX7_claim_96 rfl (lv_at hl 2 rfl) ?_
        obtain ⟨r30, eq29, hf⟩ := bi1_e hf
        refine x_cVi (As := [.int x2]) (rest := []) C X w (c_X7_might hI (su_ne (by omega)) (su_ne (by omega)) eq29) mw_X7_might ml_X7_107 rcv_r33 rfl hl.1 rfl (Nat.le_of_ble_eq_true rfl) ⟨⟨Nat.le_of_ble_eq_true rfl, Nat.le_of_ble_eq_true rfl⟩, Nat.le_of_ble_eq_true rfl, Nat.le_of_ble_eq_true rfl⟩ dX7_claim_97 (fun H locs w => ?_)
        cases hf
        exact x_iret C hr hlk w dX7_claim_100

def qX7_nextOf_55 (R33 : Row) (R35 : Row) (R36 : Row) (P : Row) (k12 : Int32 → Int32 → Int32 → Option (Int32)) (v2 : Int32) (v3 : Int32) (v4 : Int32) : Option (Int32) :=
(k12 v2 v3 (v4 + 1))
set_option maxHeartbeats 4000000 in
set_option maxRecDepth 100000 in
theorem w_X7_nextOf_55 {p : Program} {l : Launch} {e : Env} {s : State} {m : MethodId} {args : Array Value} {below : List Frame} {meth : Method} {c : Code} {E : Ev} {ad : Nat → Nat} {g : Gp} {h : Hp} {P : Row} {p_ : Nat} {r : Int32} {k12 : Int32 → Int32 → Int32 → Option (Int32)} (C : CallFix p m c cX7_nextOf 5 s args lwA RX7) (hr : meth.sig.returnType = (some .int)) (hlk : meth.locks = false) (X : Sx E ad s) (hI : Inj ad) (hp : p_ = 38 ∨ p_ = 39) (hk12 : ∀ (v2 : Int32) (v3 : Int32) (v4 : Int32) (H : Heap) (locs : List Loc) (ls : Array Slot), At E ad (su h p_ P) g s H locs → lv_has ls 5 [(0, .ref (ad 141)), (1, .ref (ad (p_ + 108))), (2, .int v2), (3, .int v3), (4, .int v4)] → k12  v2 v3 v4 = some r → W p l e (RM 3 67) s m args below meth c H locs 0 0 (QI E ad (su h p_ P) g r below args s) (F0 m 12 ls [])) : ∀ (v2 : Int32) (v3 : Int32) (v4 : Int32) (H : Heap) (locs : List Loc) (ls : Array Slot), At E ad (su h p_ P) g s H locs → lv_has ls 5 [(0, .ref (ad 141)), (1, .ref (ad (p_ + 108))), (2, .int v2), (3, .int v3), (4, .int v4)] → qX7_nextOf_55 (h 33) (h 35) (h 36) P k12 v2 v3 v4 = some r → W p l e (RM 3 67) s m args below meth c H locs 0 0 (QI E ad (su h p_ P) g r below args s) (F0 m 55 ls []) := by
  intro v2 v3 v4 H locs ls w hl hf
  unfold qX7_nextOf_55 at hf
  refine lv_iinc (v := (v4 + 1)) (lv' := [(4, .int (v4 + 1)), (0, .ref (ad 141)), (1, .ref (ad (p_ + 108))), (2, .int v2), (3, .int v3)]) C.1 C.2.1 dX7_nextOf_55 hl (k := 4) rfl (congrArg (fun z => v4 + z) (by decide)) (by decide) rfl (fun ls hl => ?_)
  refine lv_goto (tgt := 12) C.1 C.2.1 dX7_nextOf_58 (by decide) ?_
  exact hk12 _ _ _ _ _ _ w (lv_sub hl [1, 2, 3, 4, 0] rfl) hf
def qX7_nextOf_52 (R33 : Row) (R35 : Row) (R36 : Row) (P : Row) (k12 : Int32 → Int32 → Int32 → Option (Int32)) (v2 : Int32) (v4 : Int32) : Option (Int32) :=
(qX7_nextOf_55 R33 R35 R36 P k12 v2 v4 v4)
set_option maxHeartbeats 4000000 in
set_option maxRecDepth 100000 in
theorem w_X7_nextOf_52 {p : Program} {l : Launch} {e : Env} {s : State} {m : MethodId} {args : Array Value} {below : List Frame} {meth : Method} {c : Code} {E : Ev} {ad : Nat → Nat} {g : Gp} {h : Hp} {P : Row} {p_ : Nat} {r : Int32} {k12 : Int32 → Int32 → Int32 → Option (Int32)} (C : CallFix p m c cX7_nextOf 5 s args lwA RX7) (hr : meth.sig.returnType = (some .int)) (hlk : meth.locks = false) (X : Sx E ad s) (hI : Inj ad) (hp : p_ = 38 ∨ p_ = 39) (hk12 : ∀ (v2 : Int32) (v3 : Int32) (v4 : Int32) (H : Heap) (locs : List Loc) (ls : Array Slot), At E ad (su h p_ P) g s H locs → lv_has ls 5 [(0, .ref (ad 141)), (1, .ref (ad (p_ + 108))), (2, .int v2), (3, .int v3), (4, .int v4)] → k12  v2 v3 v4 = some r → W p l e (RM 3 67) s m args below meth c H locs 0 0 (QI E ad (su h p_ P) g r below args s) (F0 m 12 ls [])) : ∀ (v2 : Int32) (v4 : Int32) (H : Heap) (locs : List Loc) (ls : Array Slot), At E ad (su h p_ P) g s H locs → lv_has ls 5 [(0, .ref (ad 141)), (1, .ref (ad (p_ + 108))), (2, .int v2), (4, .int v4)] → qX7_nextOf_52 (h 33) (h 35) (h 36) P k12 v2 v4 = some r → W p l e (RM 3 67) s m args below meth c H locs 0 0 (QI E ad (su h p_ P) g r below args s) (F0 m 52 ls []) := by
  intro v2 v4 H locs ls w hl hf
  unfold qX7_nextOf_52 at hf
  refine lv_iload C.1 C.2.1 dX7_nextOf_52 (lv_at hl 3 rfl) ?_
  refine lv_istore_n (lv' := [(3, .int v4), (0, .ref (ad 141)), (1, .ref (ad (p_ + 108))), (2, .int v2), (4, .int v4)]) C.1 C.2.1 dX7_nextOf_54 rfl hl (by decide) rfl (fun ls hl => ?_)
  exact w_X7_nextOf_55 C hr hlk X hI hp hk12 _ _ _ _ _ _ w (lv_sub hl [1, 2, 3, 0, 4] rfl) hf
def qX7_nextOf_12 (R33 : Row) (R35 : Row) (R36 : Row) (P : Row) : Nat → Int32 → Int32 → Int32 → Option (Int32)
  | 0, _, _, _ => none
  | n + 1, v2, v3, v4 =>
    (if (R33 4) ≤ v4 then (some v3)
    else (bi1 (qX7_has v2 v4) (fun r25 =>
    (if r25 = 0 then (qX7_nextOf_55 R33 R35 R36 P (qX7_nextOf_12 R33 R35 R36 P n) v2 v3 v4)
    else (if v3 = (-9 : Int32) then (qX7_nextOf_52 R33 R35 R36 P (qX7_nextOf_12 R33 R35 R36 P n) v2 v4)
    else (bi1 (qX7_claim R33 R35 R36 P v4) (fun r29 =>
    (bi1 (qX7_claim R33 R35 R36 P v3) (fun r31 =>
    (if r29 ≤ r31 then (qX7_nextOf_55 R33 R35 R36 P (qX7_nextOf_12 R33 R35 R36 P n) v2 v3 v4)
    else (qX7_nextOf_52 R33 R35 R36 P (qX7_nextOf_12 R33 R35 R36 P n) v2 v4)))))))))))
set_option maxHeartbeats 4000000 in
set_option maxRecDepth 100000 in
theorem w_X7_nextOf_12 {p : Program} {l : Launch} {e : Env} {s : State} {m : MethodId} {args : Array Value} {below : List Frame} {meth : Method} {c : Code} {E : Ev} {ad : Nat → Nat} {g : Gp} {h : Hp} {P : Row} {p_ : Nat} {r : Int32} (C : CallFix p m c cX7_nextOf 5 s args lwA RX7) (hr : meth.sig.returnType = (some .int)) (hlk : meth.locks = false) (X : Sx E ad s) (hI : Inj ad) (hp : p_ = 38 ∨ p_ = 39)  : ∀ (n : Nat), ∀ (v2 : Int32) (v3 : Int32) (v4 : Int32) (H : Heap) (locs : List Loc) (ls : Array Slot), At E ad (su h p_ P) g s H locs → lv_has ls 5 [(0, .ref (ad 141)), (1, .ref (ad (p_ + 108))), (2, .int v2), (3, .int v3), (4, .int v4)] → qX7_nextOf_12 (h 33) (h 35) (h 36) P n v2 v3 v4 = some r → W p l e (RM 3 67) s m args below meth c H locs 0 0 (QI E ad (su h p_ P) g r below args s) (F0 m 12 ls []) := by
  intro n
  induction n with
  | zero =>
    intro v2 v3 v4 H locs ls w hl hf
    cases hf
  | succ n ih =>
    intro v2 v3 v4 H locs ls w hl hf
    rw [qX7_nextOf_12] at hf
    refine lv_iload C.1 C.2.1 dX7_nextOf_12 (lv_at hl 4 rfl) ?_
    refine lv_aload_n C.1 C.2.1 dX7_nextOf_14 rfl (lv_at hl 0 rfl) ?_
    refine gf_X7_54 C X w (su_ne (by omega)) dX7_nextOf_15 ?_
    refine lv_icmp_ge (tgt := 61) C.1 C.2.1 dX7_nextOf_18 (by decide) (fun c23 => ?_) (fun c23 => ?_)
    · rw [if_pos c23] at hf
      refine lv_iload_n C.1 C.2.1 dX7_nextOf_61 rfl (lv_at hl 3 rfl) ?_
      cases hf
      exact x_iret C hr hlk w dX7_nextOf_62
    · rw [if_neg c23] at hf
      refine lv_iload_n C.1 C.2.1 dX7_nextOf_21 rfl (lv_at hl 2 rfl) ?_
      refine lv_iload C.1 C.2.1 dX7_nextOf_22 (lv_at hl 4 rfl) ?_
      obtain ⟨r25, eq24, hf⟩ := bi1_e hf
      refine x_cSi (As := [.int v2, .int v4]) (rest := []) C X w (c_X7_has hI  eq24) mw_X7_has ml_X7_99 rfl hl.1 rfl (Nat.le_of_ble_eq_true rfl) ⟨⟨Nat.le_of_ble_eq_true rfl, Nat.le_of_ble_eq_true rfl⟩, Nat.le_of_ble_eq_true rfl, Nat.le_of_ble_eq_true rfl⟩ dX7_nextOf_24 (fun H locs w => ?_)
      refine lv_if_eq (tgt := 55) C.1 C.2.1 dX7_nextOf_27 (by decide) (fun c26 => ?_) (fun c26 => ?_)
      · rw [if_pos c26] at hf
        exact w_X7_nextOf_55 C hr hlk X hI hp ih _ _ _ _ _ _ w (lv_sub hl [0, 1, 2, 3, 4] rfl) hf
      · rw [if_neg c26] at hf
        refine lv_iload_n C.1 C.2.1 dX7_nextOf_30 rfl (lv_at hl 3 rfl) ?_
        refine lv_bipush (v := -9) C.1 C.2.1 dX7_nextOf_31 (by decide) ?_
        refine lv_icmp_eq (tgt := 52) C.1 C.2.1 dX7_nextOf_33 (by decide) (fun c27 => ?_) (fun c27 => ?_)
        · rw [if_pos c27] at hf
          exact w_X7_nextOf_52 C hr hlk X hI hp ih _ _ _ _ _ w (lv_sub hl [0, 1, 2, 4] rfl) hf
        · rw [if_neg c27] at hf
          refine lv_aload_n C.1 C.2.1 dX7_nextOf_36 rfl (lv_at hl 0 rfl) ?_
          refine lv_aload_n C.1 C.2.1 dX7_nextOf_37 rfl (lv_at hl 1 rfl) ?_
          refine lv_iload C.1 C.2.1 dX7_nextOf_38 (lv_at hl 4 rfl) ?_
          obtain ⟨r29, eq28, hf⟩ := bi1_e hf
          refine x_cVi (As := [.ref (ad (p_ + 108)), .int v4]) (rest := []) C X w (c_X7_claim hI hp eq28) mw_X7_claim ml_X7_114 rcv_r33 rfl hl.1 rfl (Nat.le_of_ble_eq_true rfl) ⟨⟨Nat.le_of_ble_eq_true rfl, Nat.le_of_ble_eq_true rfl⟩, Nat.le_of_ble_eq_true rfl, Nat.le_of_ble_eq_true rfl⟩ dX7_nextOf_40 (fun H locs w => ?_)
          refine lv_aload_n C.1 C.2.1 dX7_nextOf_43 rfl (lv_at hl 0 rfl) ?_
          refine lv_aload_n C.1 C.2.1 dX7_nextOf_44 rfl (lv_at hl 1 rfl) ?_
          refine lv_iload_n C.1 C.2.1 dX7_nextOf_45 rfl (lv_at hl 3 rfl) ?_
          obtain ⟨r31, eq30, hf⟩ := bi1_e hf
          refine x_cVi (As := [.ref (ad (p_ + 108)), .int v3]) (rest := [.int r29]) C X w (c_X7_claim hI hp eq30) mw_X7_claim ml_X7_114 rcv_r33 rfl hl.1 rfl (Nat.le_of_ble_eq_true rfl) ⟨⟨Nat.le_of_ble_eq_true rfl, Nat.le_of_ble_eq_true rfl⟩, Nat.le_of_ble_eq_true rfl, Nat.le_of_ble_eq_true rfl⟩ dX7_nextOf_46 (fun H locs w => ?_)
          refine lv_icmp_le (tgt := 55) C.1 C.2.1 dX7_nextOf_49 (by decide) (fun c32 => ?_) (fun c32 => ?_)
          · rw [if_pos c32] at hf
            exact w_X7_nextOf_55 C hr hlk X hI hp ih _ _ _ _ _ _ w (lv_sub hl [0, 1, 2, 3, 4] rfl) hf
          · rw [if_neg c32] at hf
            exact w_X7_nextOf_52 C hr hlk X hI hp ih _ _ _ _ _ w (lv_sub hl [0, 1, 2, 4] rfl) hf
def qX7_nextOf (R33 : Row) (R35 : Row) (R36 : Row) (P : Row) : Option (Int32) :=
(bi1 (qX7_asksOf R33 R36 P) (fun r22 =>
(qX7_nextOf_12 R33 R35 R36 P 600 r22 (-9 : Int32) (0 : Int32))))
set_option maxHeartbeats 4000000 in
set_option maxRecDepth 100000 in
theorem c_X7_nextOf {l : Launch} {E : Ev} {ad : Nat → Nat} {g : Gp} {h : Hp} {p_ : Nat} {P : Row} {r : Int32} (hI : Inj ad) (hp : p_ = 38 ∨ p_ = 39) (hf : qX7_nextOf (h 33) (h 35) (h 36) P = some r) : CtI l yX7_nextOf cX7_nextOf 5 (some .int) 3 67 E ad g g [.ref (ad 141), .ref (ad (p_ + 108))] (su h p_ P) (su h p_ P) r := by
  refine x_begin (by decide) (Nat.le_of_ble_eq_true rfl) ?_
  intro p e s m below meth c ls C hr hlk X w hl
  replace hl : lv_has ls 5 [(0, .ref (ad 141)), (1, .ref (ad (p_ + 108)))] := hl
  replace C : CallFix p m c cX7_nextOf 5 s ([.ref (ad 141), .ref (ad (p_ + 108))] : List Value).toArray lwA RX7 := C
  unfold qX7_nextOf at hf
  refine lv_aload_n C.1 C.2.1 dX7_nextOf_0 rfl (lv_at hl 0 rfl) ?_
  refine lv_aload_n C.1 C.2.1 dX7_nextOf_1 rfl (lv_at hl 1 rfl) ?_
  obtain ⟨r22, eq21, hf⟩ := bi1_e hf
  refine x_cVi (As := [.ref (ad (p_ + 108))]) (rest := []) C X w (c_X7_asksOf hI hp eq21) mw_X7_asksOf ml_X7_111 rcv_r33 rfl hl.1 rfl (Nat.le_of_ble_eq_true rfl) ⟨⟨Nat.le_of_ble_eq_true rfl, Nat.le_of_ble_eq_true rfl⟩, Nat.le_of_ble_eq_true rfl, Nat.le_of_ble_eq_true rfl⟩ dX7_nextOf_2 (fun H locs w => ?_)
  refine lv_istore_n (lv' := [(2, .int r22), (0, .ref (ad 141)), (1, .ref (ad (p_ + 108)))]) C.1 C.2.1 dX7_nextOf_5 rfl hl (by decide) rfl (fun ls hl => ?_)
  refine lv_bipush (v := -9) C.1 C.2.1 dX7_nextOf_6 (by decide) ?_
  refine lv_istore_n (lv' := [(3, .int (-9 : Int32)), (2, .int r22), (0, .ref (ad 141)), (1, .ref (ad (p_ + 108)))]) C.1 C.2.1 dX7_nextOf_8 rfl hl (by decide) rfl (fun ls hl => ?_)
  refine lv_iconst (v := 0) C.1 C.2.1 dX7_nextOf_9 (by decide) ?_
  refine lv_istore (lv' := [(4, .int (0 : Int32)), (3, .int (-9 : Int32)), (2, .int r22), (0, .ref (ad 141)), (1, .ref (ad (p_ + 108)))]) C.1 C.2.1 dX7_nextOf_10 hl (by decide) rfl (fun ls hl => ?_)
  exact w_X7_nextOf_12 C hr hlk X hI hp 600 _ _ _ _ _ _ w (lv_sub hl [3, 4, 2, 1, 0] rfl) hf

def qX7_getOff (P : Row) (x1 : Int32) : Option (Row) :=
(bd (upd P 30 ((P 30) &&& (((1 : Int32) <<< (x1 &&& 31)) ^^^ (-1 : Int32)))) (fun P21 =>
(ck (inb ((5 : Int32) + x1) 36) (bd (upd P21 (((5 : Int32) + x1)).toNatClampNeg (0 : Int32)) (fun P23 =>
(some P23))))))
set_option maxHeartbeats 4000000 in
set_option maxRecDepth 100000 in
theorem c_X7_getOff {l : Launch} {E : Ev} {ad : Nat → Nat} {g : Gp} {h : Hp} {p_ : Nat} {P : Row} {x1 : Int32} {P9 : Row} (hI : Inj ad) (hp : p_ = 38 ∨ p_ = 39) (hf : qX7_getOff P x1 = some P9) : CtV l yX7_getOff cX7_getOff 2 none 0 0 E ad g g [.ref (ad (p_ + 108)), .int x1] (su h p_ P) (su h p_ P9) := by
  refine x_begin (by decide) (Nat.le_of_ble_eq_true rfl) ?_
  intro p e s m below meth c ls C hr hlk X w hl
  replace hl : lv_has ls 2 [(0, .ref (ad (p_ + 108))), (1, .int x1)] := hl
  replace C : CallFix p m c cX7_getOff 2 s ([.ref (ad (p_ + 108)), .int x1] : List Value).toArray lwA RX7 := C
  unfold qX7_getOff at hf
  refine lv_aload_n C.1 C.2.1 dX7_getOff_0 rfl (lv_at hl 0 rfl) ?_
  refine lv_bipush (v := 30) C.1 C.2.1 dX7_getOff_1 (by decide) ?_
  refine lv_dup2_11 C.1 C.2.1 dX7_getOff_3 rfl rfl ?_
  refine x_qld (j := 30) C X w (su_same h p_ P) hp (by decide) (by decide) dX7_getOff_4 ?_
  refine lv_iconst (v := 1) C.1 C.2.1 dX7_getOff_5 (by decide) ?_
  refine lv_iload_n C.1 C.2.1 dX7_getOff_6 rfl (lv_at hl 1 rfl) ?_
  refine lv_ishl C.1 C.2.1 dX7_getOff_7 ?_
  refine lv_iconst (v := -1) C.1 C.2.1 dX7_getOff_8 (by decide) ?_
  refine lv_ixor C.1 C.2.1 dX7_getOff_9 ?_
  refine lv_iand C.1 C.2.1 dX7_getOff_10 ?_
  obtain ⟨P21, eP21, hf⟩ := bd_e hf
  refine x_qst (j := 30) C X hI w hp (by decide) (by decide) dX7_getOff_11 (fun H locs w => ?_)
  replace w := at_eqP eP21 w
  refine lv_aload_n C.1 C.2.1 dX7_getOff_12 rfl (lv_at hl 0 rfl) ?_
  refine lv_iconst (v := 5) C.1 C.2.1 dX7_getOff_13 (by decide) ?_
  refine lv_iload_n C.1 C.2.1 dX7_getOff_14 rfl (lv_at hl 1 rfl) ?_
  refine lv_iadd C.1 C.2.1 dX7_getOff_15 ?_
  refine lv_iconst (v := 0) C.1 C.2.1 dX7_getOff_16 (by decide) ?_
  obtain ⟨i22, hf⟩ := ck_e hf
  obtain ⟨P23, eP23, hf⟩ := bd_e hf
  refine x_qst (j := (((5 : Int32) + x1)).toNatClampNeg) C X hI w hp i22 rfl dX7_getOff_17 (fun H locs w => ?_)
  replace w := at_eqP eP23 w
  cases hf
  exact x_vret C hr hlk w dX7_getOff_18

def qX7_getOn (P : Row) (x1 : Int32) : Option (Row) :=
(bd (upd P 30 ((P 30) ||| ((1 : Int32) <<< (x1 &&& 31)))) (fun P21 =>
(ck (inb ((5 : Int32) + x1) 36) (bd (upd P21 (((5 : Int32) + x1)).toNatClampNeg (0 : Int32)) (fun P23 =>
(ck (inb ((20 : Int32) + x1) 36) (bd (upd P23 (((20 : Int32) + x1)).toNatClampNeg (0 : Int32)) (fun P25 =>
(bd (upd P25 31 x1) (fun P26 =>
(some P26)))))))))))
set_option maxHeartbeats 4000000 in
set_option maxRecDepth 100000 in
theorem c_X7_getOn {l : Launch} {E : Ev} {ad : Nat → Nat} {g : Gp} {h : Hp} {p_ : Nat} {P : Row} {x1 : Int32} {P9 : Row} (hI : Inj ad) (hp : p_ = 38 ∨ p_ = 39) (hf : qX7_getOn P x1 = some P9) : CtV l yX7_getOn cX7_getOn 2 none 0 0 E ad g g [.ref (ad (p_ + 108)), .int x1] (su h p_ P) (su h p_ P9) := by
  refine x_begin (by decide) (Nat.le_of_ble_eq_true rfl) ?_
  intro p e s m below meth c ls C hr hlk X w hl
  replace hl : lv_has ls 2 [(0, .ref (ad (p_ + 108))), (1, .int x1)] := hl
  replace C : CallFix p m c cX7_getOn 2 s ([.ref (ad (p_ + 108)), .int x1] : List Value).toArray lwA RX7 := C
  unfold qX7_getOn at hf
  refine lv_aload_n C.1 C.2.1 dX7_getOn_0 rfl (lv_at hl 0 rfl) ?_
  refine lv_bipush (v := 30) C.1 C.2.1 dX7_getOn_1 (by decide) ?_
  refine lv_dup2_11 C.1 C.2.1 dX7_getOn_3 rfl rfl ?_
  refine x_qld (j := 30) C X w (su_same h p_ P) hp (by decide) (by decide) dX7_getOn_4 ?_
  refine lv_iconst (v := 1) C.1 C.2.1 dX7_getOn_5 (by decide) ?_
  refine lv_iload_n C.1 C.2.1 dX7_getOn_6 rfl (lv_at hl 1 rfl) ?_
  refine lv_ishl C.1 C.2.1 dX7_getOn_7 ?_
  refine lv_ior C.1 C.2.1 dX7_getOn_8 ?_
  obtain ⟨P21, eP21, hf⟩ := bd_e hf
  refine x_qst (j := 30) C X hI w hp (by decide) (by decide) dX7_getOn_9 (fun H locs w => ?_)
  replace w := at_eqP eP21 w
  refine lv_aload_n C.1 C.2.1 dX7_getOn_10 rfl (lv_at hl 0 rfl) ?_
  refine lv_iconst (v := 5) C.1 C.2.1 dX7_getOn_11 (by decide) ?_
  refine lv_iload_n C.1 C.2.1 dX7_getOn_12 rfl (lv_at hl 1 rfl) ?_
  refine lv_iadd C.1 C.2.1 dX7_getOn_13 ?_
  refine lv_iconst (v := 0) C.1 C.2.1 dX7_getOn_14 (by decide) ?_
  obtain ⟨i22, hf⟩ := ck_e hf
  obtain ⟨P23, eP23, hf⟩ := bd_e hf
  refine x_qst (j := (((5 : Int32) + x1)).toNatClampNeg) C X hI w hp i22 rfl dX7_getOn_15 (fun H locs w => ?_)
  replace w := at_eqP eP23 w
  refine lv_aload_n C.1 C.2.1 dX7_getOn_16 rfl (lv_at hl 0 rfl) ?_
  refine lv_bipush (v := 20) C.1 C.2.1 dX7_getOn_17 (by decide) ?_
  refine lv_iload_n C.1 C.2.1 dX7_getOn_19 rfl (lv_at hl 1 rfl) ?_
  refine lv_iadd C.1 C.2.1 dX7_getOn_20 ?_
  refine lv_iconst (v := 0) C.1 C.2.1 dX7_getOn_21 (by decide) ?_
  obtain ⟨i24, hf⟩ := ck_e hf
  obtain ⟨P25, eP25, hf⟩ := bd_e hf
  refine x_qst (j := (((20 : Int32) + x1)).toNatClampNeg) C X hI w hp i24 rfl dX7_getOn_22 (fun H locs w => ?_)
  replace w := at_eqP eP25 w
  refine lv_aload_n C.1 C.2.1 dX7_getOn_23 rfl (lv_at hl 0 rfl) ?_
  refine lv_bipush (v := 31) C.1 C.2.1 dX7_getOn_24 (by decide) ?_
  refine lv_iload_n C.1 C.2.1 dX7_getOn_26 rfl (lv_at hl 1 rfl) ?_
  obtain ⟨P26, eP26, hf⟩ := bd_e hf
  refine x_qst (j := 31) C X hI w hp (by decide) (by decide) dX7_getOn_27 (fun H locs w => ?_)
  replace w := at_eqP eP26 w
  cases hf
  exact x_vret C hr hlk w dX7_getOn_28

def qX7_lookAt_136 (R33 : Row) (R35 : Row) (R36 : Row) (P : Row) (v2 : Int32) (s1 : Int32) (s2 : Int32) (s3 : Int32) : Option (Row) :=
(ck (inb s1 36) (bd (upd P s1.toNatClampNeg (s2 + s3)) (fun P46 =>
(bi1 (qX7_getOff P46 v2) (fun P49 =>
(some P49))))))
set_option maxHeartbeats 4000000 in
set_option maxRecDepth 100000 in
theorem w_X7_lookAt_136 {p : Program} {l : Launch} {e : Env} {s : State} {m : MethodId} {args : Array Value} {below : List Frame} {meth : Method} {c : Code} {E : Ev} {ad : Nat → Nat} {g : Gp} {h : Hp} {p_ : Nat} {P9 : Row} (C : CallFix p m c cX7_lookAt 7 s args lwA RX7) (hr : meth.sig.returnType = none) (hlk : meth.locks = false) (X : Sx E ad s) (hI : Inj ad) (hp : p_ = 38 ∨ p_ = 39)  : ∀ (P : Row) (v2 : Int32) (s1 : Int32) (s2 : Int32) (s3 : Int32) (H : Heap) (locs : List Loc) (ls : Array Slot), At E ad (su h p_ P) g s H locs → lv_has ls 7 [(1, .ref (ad (p_ + 108))), (2, .int v2)] → qX7_lookAt_136 (h 33) (h 35) (h 36) P v2 s1 s2 s3 = some P9 → W p l e (RM 4 91) s m args below meth c H locs 0 0 (QV E ad (su h p_ P9) g below args s) (F0 m 136 ls [.int s3, .int s2, .int s1, .ref (ad (p_ + 108))]) := by
  intro P v2 s1 s2 s3 H locs ls w hl hf
  unfold qX7_lookAt_136 at hf
  refine lv_iadd C.1 C.2.1 dX7_lookAt_136 ?_
  obtain ⟨i45, hf⟩ := ck_e hf
  obtain ⟨P46, eP46, hf⟩ := bd_e hf
  refine x_qst (j := s1.toNatClampNeg) C X hI w hp i45 rfl dX7_lookAt_137 (fun H locs w => ?_)
  replace w := at_eqP eP46 w
  refine lv_aload_n C.1 C.2.1 dX7_lookAt_138 rfl (lv_at hl 0 rfl) ?_
  refine lv_iload_n C.1 C.2.1 dX7_lookAt_139 rfl (lv_at hl 1 rfl) ?_
  obtain ⟨P49, eq47, hf⟩ := bi1_e hf
  refine x_cSv (As := [.ref (ad (p_ + 108)), .int v2]) (rest := []) C X w (c_X7_getOff hI hp eq47) mw_X7_getOff ml_X7_121 rfl hl.1 rfl (Nat.le_of_ble_eq_true rfl) ⟨⟨Nat.le_of_ble_eq_true rfl, Nat.le_of_ble_eq_true rfl⟩, Nat.le_of_ble_eq_true rfl, Nat.le_of_ble_eq_true rfl⟩ dX7_lookAt_140 (fun H locs w => ?_)
  cases hf
  exact x_vret C hr hlk w dX7_lookAt_143
def qX7_lookAt_135 (R33 : Row) (R35 : Row) (R36 : Row) (P : Row) (v2 : Int32) (s1 : Int32) (s2 : Int32) : Option (Row) :=
(qX7_lookAt_136 R33 R35 R36 P v2 s1 s2 (0 : Int32))
set_option maxHeartbeats 4000000 in
set_option maxRecDepth 100000 in
theorem w_X7_lookAt_135 {p : Program} {l : Launch} {e : Env} {s : State} {m : MethodId} {args : Array Value} {below : List Frame} {meth : Method} {c : Code} {E : Ev} {ad : Nat → Nat} {g : Gp} {h : Hp} {p_ : Nat} {P9 : Row} (C : CallFix p m c cX7_lookAt 7 s args lwA RX7) (hr : meth.sig.returnType = none) (hlk : meth.locks = false) (X : Sx E ad s) (hI : Inj ad) (hp : p_ = 38 ∨ p_ = 39)  : ∀ (P : Row) (v2 : Int32) (s1 : Int32) (s2 : Int32) (H : Heap) (locs : List Loc) (ls : Array Slot), At E ad (su h p_ P) g s H locs → lv_has ls 7 [(1, .ref (ad (p_ + 108))), (2, .int v2)] → qX7_lookAt_135 (h 33) (h 35) (h 36) P v2 s1 s2 = some P9 → W p l e (RM 4 91) s m args below meth c H locs 0 0 (QV E ad (su h p_ P9) g below args s) (F0 m 135 ls [.int s2, .int s1, .ref (ad (p_ + 108))]) := by
  intro P v2 s1 s2 H locs ls w hl hf
  unfold qX7_lookAt_135 at hf
  refine lv_iconst (v := 0) C.1 C.2.1 dX7_lookAt_135 (by decide) ?_
  exact w_X7_lookAt_136 C hr hlk X hI hp _ _ _ _ _ _ _ _ w (lv_sub hl [0, 1] rfl) hf
def qX7_lookAt_111 (R33 : Row) (R35 : Row) (R36 : Row) (P : Row) (v2 : Int32) (v5 : Int32) : Option (Row) :=
(ck (inb ((25 : Int32) + v2) 36) ((if v5 = 0 then (qX7_lookAt_135 R33 R35 R36 P v2 ((25 : Int32) + v2) (P (((25 : Int32) + v2)).toNatClampNeg))
else (ck (inb ((0 : Int32) + v2) 36) ((if (P (((0 : Int32) + v2)).toNatClampNeg) ≤ 0 then (qX7_lookAt_135 R33 R35 R36 P v2 ((25 : Int32) + v2) (P (((25 : Int32) + v2)).toNatClampNeg))
else (qX7_lookAt_136 R33 R35 R36 P v2 ((25 : Int32) + v2) (P (((25 : Int32) + v2)).toNatClampNeg) (1 : Int32))))))))
set_option maxHeartbeats 4000000 in
set_option maxRecDepth 100000 in
theorem w_X7_lookAt_111 {p : Program} {l : Launch} {e : Env} {s : State} {m : MethodId} {args : Array Value} {below : List Frame} {meth : Method} {c : Code} {E : Ev} {ad : Nat → Nat} {g : Gp} {h : Hp} {p_ : Nat} {P9 : Row} (C : CallFix p m c cX7_lookAt 7 s args lwA RX7) (hr : meth.sig.returnType = none) (hlk : meth.locks = false) (X : Sx E ad s) (hI : Inj ad) (hp : p_ = 38 ∨ p_ = 39)  : ∀ (P : Row) (v2 : Int32) (v5 : Int32) (H : Heap) (locs : List Loc) (ls : Array Slot), At E ad (su h p_ P) g s H locs → lv_has ls 7 [(1, .ref (ad (p_ + 108))), (2, .int v2), (5, .int v5)] → qX7_lookAt_111 (h 33) (h 35) (h 36) P v2 v5 = some P9 → W p l e (RM 4 91) s m args below meth c H locs 0 0 (QV E ad (su h p_ P9) g below args s) (F0 m 111 ls []) := by
  intro P v2 v5 H locs ls w hl hf
  unfold qX7_lookAt_111 at hf
  refine lv_aload_n C.1 C.2.1 dX7_lookAt_111 rfl (lv_at hl 0 rfl) ?_
  refine lv_bipush (v := 25) C.1 C.2.1 dX7_lookAt_112 (by decide) ?_
  refine lv_iload_n C.1 C.2.1 dX7_lookAt_114 rfl (lv_at hl 1 rfl) ?_
  refine lv_iadd C.1 C.2.1 dX7_lookAt_115 ?_
  refine lv_dup2_11 C.1 C.2.1 dX7_lookAt_116 rfl rfl ?_
  obtain ⟨i41, hf⟩ := ck_e hf
  refine x_qld (j := (((25 : Int32) + v2)).toNatClampNeg) C X w (su_same h p_ P) hp i41 rfl dX7_lookAt_117 ?_
  refine lv_iload C.1 C.2.1 dX7_lookAt_118 (lv_at hl 2 rfl) ?_
  refine lv_if_eq (tgt := 135) C.1 C.2.1 dX7_lookAt_120 (by decide) (fun c42 => ?_) (fun c42 => ?_)
  · rw [if_pos c42] at hf
    exact w_X7_lookAt_135 C hr hlk X hI hp _ _ _ _ _ _ _ w (lv_sub hl [0, 1] rfl) hf
  · rw [if_neg c42] at hf
    refine lv_aload_n C.1 C.2.1 dX7_lookAt_123 rfl (lv_at hl 0 rfl) ?_
    refine lv_iconst (v := 0) C.1 C.2.1 dX7_lookAt_124 (by decide) ?_
    refine lv_iload_n C.1 C.2.1 dX7_lookAt_125 rfl (lv_at hl 1 rfl) ?_
    refine lv_iadd C.1 C.2.1 dX7_lookAt_126 ?_
    obtain ⟨i43, hf⟩ := ck_e hf
    refine x_qld (j := (((0 : Int32) + v2)).toNatClampNeg) C X w (su_same h p_ P) hp i43 rfl dX7_lookAt_127 ?_
    refine lv_if_le (tgt := 135) C.1 C.2.1 dX7_lookAt_128 (by decide) (fun c44 => ?_) (fun c44 => ?_)
    · rw [if_pos c44] at hf
      exact w_X7_lookAt_135 C hr hlk X hI hp _ _ _ _ _ _ _ w (lv_sub hl [0, 1] rfl) hf
    · rw [if_neg c44] at hf
      refine lv_iconst (v := 1) C.1 C.2.1 dX7_lookAt_131 (by decide) ?_
      refine lv_goto (tgt := 136) C.1 C.2.1 dX7_lookAt_132 (by decide) ?_
      exact w_X7_lookAt_136 C hr hlk X hI hp _ _ _ _ _ _ _ _ w (lv_sub hl [0, 1] rfl) hf
def qX7_lookAt_91 (R33 : Row) (R35 : Row) (R36 : Row) (P : Row) (v2 : Int32) (v5 : Int32) (s0 : Int32) : Option (Row) :=
(ck (inb ((0 : Int32) + v2) 36) ((if (P (((0 : Int32) + v2)).toNatClampNeg) = 0 then (qX7_lookAt_111 R33 R35 R36 P v2 v5)
else (if v5 = 0 then (if s0 = 0 then (some P)
else (qX7_lookAt_111 R33 R35 R36 P v2 v5))
else (qX7_lookAt_111 R33 R35 R36 P v2 v5)))))
set_option maxHeartbeats 4000000 in
set_option maxRecDepth 100000 in
theorem w_X7_lookAt_91 {p : Program} {l : Launch} {e : Env} {s : State} {m : MethodId} {args : Array Value} {below : List Frame} {meth : Method} {c : Code} {E : Ev} {ad : Nat → Nat} {g : Gp} {h : Hp} {p_ : Nat} {P9 : Row} (C : CallFix p m c cX7_lookAt 7 s args lwA RX7) (hr : meth.sig.returnType = none) (hlk : meth.locks = false) (X : Sx E ad s) (hI : Inj ad) (hp : p_ = 38 ∨ p_ = 39)  : ∀ (P : Row) (v2 : Int32) (v5 : Int32) (s0 : Int32) (H : Heap) (locs : List Loc) (ls : Array Slot), At E ad (su h p_ P) g s H locs → lv_has ls 7 [(1, .ref (ad (p_ + 108))), (2, .int v2), (5, .int v5)] → qX7_lookAt_91 (h 33) (h 35) (h 36) P v2 v5 s0 = some P9 → W p l e (RM 4 91) s m args below meth c H locs 0 0 (QV E ad (su h p_ P9) g below args s) (F0 m 91 ls [.int s0]) := by
  intro P v2 v5 s0 H locs ls w hl hf
  unfold qX7_lookAt_91 at hf
  refine lv_istore (lv' := [(6, .int s0), (1, .ref (ad (p_ + 108))), (2, .int v2), (5, .int v5)]) C.1 C.2.1 dX7_lookAt_91 hl (by decide) rfl (fun ls hl => ?_)
  refine lv_aload_n C.1 C.2.1 dX7_lookAt_93 rfl (lv_at hl 1 rfl) ?_
  refine lv_iconst (v := 0) C.1 C.2.1 dX7_lookAt_94 (by decide) ?_
  refine lv_iload_n C.1 C.2.1 dX7_lookAt_95 rfl (lv_at hl 2 rfl) ?_
  refine lv_iadd C.1 C.2.1 dX7_lookAt_96 ?_
  obtain ⟨i37, hf⟩ := ck_e hf
  refine x_qld (j := (((0 : Int32) + v2)).toNatClampNeg) C X w (su_same h p_ P) hp i37 rfl dX7_lookAt_97 ?_
  refine lv_if_eq (tgt := 111) C.1 C.2.1 dX7_lookAt_98 (by decide) (fun c38 => ?_) (fun c38 => ?_)
  · rw [if_pos c38] at hf
    exact w_X7_lookAt_111 C hr hlk X hI hp _ _ _ _ _ _ w (lv_sub hl [1, 2, 3] rfl) hf
  · rw [if_neg c38] at hf
    refine lv_iload C.1 C.2.1 dX7_lookAt_101 (lv_at hl 3 rfl) ?_
    refine lv_if_ne (tgt := 111) C.1 C.2.1 dX7_lookAt_103 (by decide) (fun c39 => ?_) (fun c39 => ?_)
    · rw [if_neg c39] at hf
      exact w_X7_lookAt_111 C hr hlk X hI hp _ _ _ _ _ _ w (lv_sub hl [1, 2, 3] rfl) hf
    · rw [if_pos c39] at hf
      refine lv_iload C.1 C.2.1 dX7_lookAt_106 (lv_at hl 0 rfl) ?_
      refine lv_if_eq (tgt := 143) C.1 C.2.1 dX7_lookAt_108 (by decide) (fun c40 => ?_) (fun c40 => ?_)
      · rw [if_pos c40] at hf
        cases hf
        exact x_vret C hr hlk w dX7_lookAt_143
      · rw [if_neg c40] at hf
        exact w_X7_lookAt_111 C hr hlk X hI hp _ _ _ _ _ _ w (lv_sub hl [1, 2, 3] rfl) hf
def qX7_lookAt_86 (R33 : Row) (R35 : Row) (R36 : Row) (P : Row) (v2 : Int32) (v5 : Int32) : Option (Row) :=
(qX7_lookAt_91 R33 R35 R36 P v2 v5 (1 : Int32))
set_option maxHeartbeats 4000000 in
set_option maxRecDepth 100000 in
theorem w_X7_lookAt_86 {p : Program} {l : Launch} {e : Env} {s : State} {m : MethodId} {args : Array Value} {below : List Frame} {meth : Method} {c : Code} {E : Ev} {ad : Nat → Nat} {g : Gp} {h : Hp} {p_ : Nat} {P9 : Row} (C : CallFix p m c cX7_lookAt 7 s args lwA RX7) (hr : meth.sig.returnType = none) (hlk : meth.locks = false) (X : Sx E ad s) (hI : Inj ad) (hp : p_ = 38 ∨ p_ = 39)  : ∀ (P : Row) (v2 : Int32) (v5 : Int32) (H : Heap) (locs : List Loc) (ls : Array Slot), At E ad (su h p_ P) g s H locs → lv_has ls 7 [(1, .ref (ad (p_ + 108))), (2, .int v2), (5, .int v5)] → qX7_lookAt_86 (h 33) (h 35) (h 36) P v2 v5 = some P9 → W p l e (RM 4 91) s m args below meth c H locs 0 0 (QV E ad (su h p_ P9) g below args s) (F0 m 86 ls []) := by
  intro P v2 v5 H locs ls w hl hf
  unfold qX7_lookAt_86 at hf
  refine lv_iconst (v := 1) C.1 C.2.1 dX7_lookAt_86 (by decide) ?_
  refine lv_goto (tgt := 91) C.1 C.2.1 dX7_lookAt_87 (by decide) ?_
  exact w_X7_lookAt_91 C hr hlk X hI hp _ _ _ _ _ _ _ w (lv_sub hl [0, 1, 2] rfl) hf
def qX7_lookAt_90 (R33 : Row) (R35 : Row) (R36 : Row) (P : Row) (v2 : Int32) (v5 : Int32) : Option (Row) :=
(qX7_lookAt_91 R33 R35 R36 P v2 v5 (0 : Int32))
set_option maxHeartbeats 4000000 in
set_option maxRecDepth 100000 in
theorem w_X7_lookAt_90 {p : Program} {l : Launch} {e : Env} {s : State} {m : MethodId} {args : Array Value} {below : List Frame} {meth : Method} {c : Code} {E : Ev} {ad : Nat → Nat} {g : Gp} {h : Hp} {p_ : Nat} {P9 : Row} (C : CallFix p m c cX7_lookAt 7 s args lwA RX7) (hr : meth.sig.returnType = none) (hlk : meth.locks = false) (X : Sx E ad s) (hI : Inj ad) (hp : p_ = 38 ∨ p_ = 39)  : ∀ (P : Row) (v2 : Int32) (v5 : Int32) (H : Heap) (locs : List Loc) (ls : Array Slot), At E ad (su h p_ P) g s H locs → lv_has ls 7 [(1, .ref (ad (p_ + 108))), (2, .int v2), (5, .int v5)] → qX7_lookAt_90 (h 33) (h 35) (h 36) P v2 v5 = some P9 → W p l e (RM 4 91) s m args below meth c H locs 0 0 (QV E ad (su h p_ P9) g below args s) (F0 m 90 ls []) := by
  intro P v2 v5 H locs ls w hl hf
  unfold qX7_lookAt_90 at hf
  refine lv_iconst (v := 0) C.1 C.2.1 dX7_lookAt_90 (by decide) ?_
  exact w_X7_lookAt_91 C hr hlk X hI hp _ _ _ _ _ _ _ w (lv_sub hl [0, 1, 2] rfl) hf
def qX7_lookAt_56 (R33 : Row) (R35 : Row) (R36 : Row) (P : Row) (v2 : Int32) (v3 : Int32) (v4 : Int32) (s0 : Int32) : Option (Row) :=
(if v3 = (-9 : Int32) then (qX7_lookAt_90 R33 R35 R36 P v2 s0)
else (if v4 = 0 then (qX7_lookAt_90 R33 R35 R36 P v2 s0)
else (if (P 32) = 0 then (ck (inb v2 5) ((if (R36 v2.toNatClampNeg) = (3 : Int32) then (qX7_lookAt_86 R33 R35 R36 P v2 s0)
else (qX7_lookAt_90 R33 R35 R36 P v2 s0))))
else (qX7_lookAt_86 R33 R35 R36 P v2 s0))))
set_option maxHeartbeats 4000000 in
set_option maxRecDepth 100000 in
theorem w_X7_lookAt_56 {p : Program} {l : Launch} {e : Env} {s : State} {m : MethodId} {args : Array Value} {below : List Frame} {meth : Method} {c : Code} {E : Ev} {ad : Nat → Nat} {g : Gp} {h : Hp} {p_ : Nat} {P9 : Row} (C : CallFix p m c cX7_lookAt 7 s args lwA RX7) (hr : meth.sig.returnType = none) (hlk : meth.locks = false) (X : Sx E ad s) (hI : Inj ad) (hp : p_ = 38 ∨ p_ = 39)  : ∀ (P : Row) (v2 : Int32) (v3 : Int32) (v4 : Int32) (s0 : Int32) (H : Heap) (locs : List Loc) (ls : Array Slot), At E ad (su h p_ P) g s H locs → lv_has ls 7 [(0, .ref (ad 141)), (1, .ref (ad (p_ + 108))), (2, .int v2), (3, .int v3), (4, .int v4)] → qX7_lookAt_56 (h 33) (h 35) (h 36) P v2 v3 v4 s0 = some P9 → W p l e (RM 4 91) s m args below meth c H locs 0 0 (QV E ad (su h p_ P9) g below args s) (F0 m 56 ls [.int s0]) := by
  intro P v2 v3 v4 s0 H locs ls w hl hf
  unfold qX7_lookAt_56 at hf
  refine lv_istore (lv' := [(5, .int s0), (0, .ref (ad 141)), (1, .ref (ad (p_ + 108))), (2, .int v2), (3, .int v3), (4, .int v4)]) C.1 C.2.1 dX7_lookAt_56 hl (by decide) rfl (fun ls hl => ?_)
  refine lv_iload_n C.1 C.2.1 dX7_lookAt_58 rfl (lv_at hl 4 rfl) ?_
  refine lv_bipush (v := -9) C.1 C.2.1 dX7_lookAt_59 (by decide) ?_
  refine lv_icmp_eq (tgt := 90) C.1 C.2.1 dX7_lookAt_61 (by decide) (fun c32 => ?_) (fun c32 => ?_)
  · rw [if_pos c32] at hf
    exact w_X7_lookAt_90 C hr hlk X hI hp _ _ _ _ _ _ w (lv_sub hl [2, 3, 0] rfl) hf
  · rw [if_neg c32] at hf
    refine lv_iload C.1 C.2.1 dX7_lookAt_64 (lv_at hl 5 rfl) ?_
    refine lv_if_eq (tgt := 90) C.1 C.2.1 dX7_lookAt_66 (by decide) (fun c33 => ?_) (fun c33 => ?_)
    · rw [if_pos c33] at hf
      exact w_X7_lookAt_90 C hr hlk X hI hp _ _ _ _ _ _ w (lv_sub hl [2, 3, 0] rfl) hf
    · rw [if_neg c33] at hf
      refine lv_aload_n C.1 C.2.1 dX7_lookAt_69 rfl (lv_at hl 2 rfl) ?_
      refine lv_bipush (v := 32) C.1 C.2.1 dX7_lookAt_70 (by decide) ?_
      refine x_qld (j := 32) C X w (su_same h p_ P) hp (by decide) (by decide) dX7_lookAt_72 ?_
      refine lv_if_ne (tgt := 86) C.1 C.2.1 dX7_lookAt_73 (by decide) (fun c34 => ?_) (fun c34 => ?_)
      · rw [if_neg c34] at hf
        exact w_X7_lookAt_86 C hr hlk X hI hp _ _ _ _ _ _ w (lv_sub hl [2, 3, 0] rfl) hf
      · rw [if_pos c34] at hf
        refine lv_aload_n C.1 C.2.1 dX7_lookAt_76 rfl (lv_at hl 1 rfl) ?_
        refine gf_X7_16 C X w rfl dX7_lookAt_77 ?_
        refine lv_iload_n C.1 C.2.1 dX7_lookAt_80 rfl (lv_at hl 3 rfl) ?_
        obtain ⟨i35, hf⟩ := ck_e hf
        refine x_ild (v := (h 36) v2.toNatClampNeg) C X w (wl_r36 (su_ne (by omega))) i35 (rfl) dX7_lookAt_81 ?_
        refine lv_iconst (v := 3) C.1 C.2.1 dX7_lookAt_82 (by decide) ?_
        refine lv_icmp_ne (tgt := 90) C.1 C.2.1 dX7_lookAt_83 (by decide) (fun c36 => ?_) (fun c36 => ?_)
        · rw [if_neg c36] at hf
          exact w_X7_lookAt_90 C hr hlk X hI hp _ _ _ _ _ _ w (lv_sub hl [2, 3, 0] rfl) hf
        · rw [if_pos c36] at hf
          exact w_X7_lookAt_86 C hr hlk X hI hp _ _ _ _ _ _ w (lv_sub hl [2, 3, 0] rfl) hf
def qX7_lookAt_55 (R33 : Row) (R35 : Row) (R36 : Row) (P : Row) (v2 : Int32) (v3 : Int32) (v4 : Int32) : Option (Row) :=
(qX7_lookAt_56 R33 R35 R36 P v2 v3 v4 (0 : Int32))
set_option maxHeartbeats 4000000 in
set_option maxRecDepth 100000 in
theorem w_X7_lookAt_55 {p : Program} {l : Launch} {e : Env} {s : State} {m : MethodId} {args : Array Value} {below : List Frame} {meth : Method} {c : Code} {E : Ev} {ad : Nat → Nat} {g : Gp} {h : Hp} {p_ : Nat} {P9 : Row} (C : CallFix p m c cX7_lookAt 7 s args lwA RX7) (hr : meth.sig.returnType = none) (hlk : meth.locks = false) (X : Sx E ad s) (hI : Inj ad) (hp : p_ = 38 ∨ p_ = 39)  : ∀ (P : Row) (v2 : Int32) (v3 : Int32) (v4 : Int32) (H : Heap) (locs : List Loc) (ls : Array Slot), At E ad (su h p_ P) g s H locs → lv_has ls 7 [(0, .ref (ad 141)), (1, .ref (ad (p_ + 108))), (2, .int v2), (3, .int v3), (4, .int v4)] → qX7_lookAt_55 (h 33) (h 35) (h 36) P v2 v3 v4 = some P9 → W p l e (RM 4 91) s m args below meth c H locs 0 0 (QV E ad (su h p_ P9) g below args s) (F0 m 55 ls []) := by
  intro P v2 v3 v4 H locs ls w hl hf
  unfold qX7_lookAt_55 at hf
  refine lv_iconst (v := 0) C.1 C.2.1 dX7_lookAt_55 (by decide) ?_
  exact w_X7_lookAt_56 C hr hlk X hI hp _ _ _ _ _ _ _ _ w (lv_sub hl [0, 1, 2, 3, 4] rfl) hf
def qX7_lookAt_23 (R33 : Row) (R35 : Row) (R36 : Row) (P : Row) (v2 : Int32) (v3 : Int32) (s0 : Int32) : Option (Row) :=
(if v3 = (-9 : Int32) then (qX7_lookAt_55 R33 R35 R36 P v2 v3 s0)
else (if (P 32) = 0 then (bi1 (qX7_might R35 R36 v3) (fun r28 =>
(bi1 (qX7_might R35 R36 v2) (fun r30 =>
(if r28 ≤ r30 then (qX7_lookAt_55 R33 R35 R36 P v2 v3 s0)
else (qX7_lookAt_56 R33 R35 R36 P v2 v3 s0 (1 : Int32)))))))
else (qX7_lookAt_55 R33 R35 R36 P v2 v3 s0)))
set_option maxHeartbeats 4000000 in
set_option maxRecDepth 100000 in
theorem w_X7_lookAt_23 {p : Program} {l : Launch} {e : Env} {s : State} {m : MethodId} {args : Array Value} {below : List Frame} {meth : Method} {c : Code} {E : Ev} {ad : Nat → Nat} {g : Gp} {h : Hp} {p_ : Nat} {P9 : Row} (C : CallFix p m c cX7_lookAt 7 s args lwA RX7) (hr : meth.sig.returnType = none) (hlk : meth.locks = false) (X : Sx E ad s) (hI : Inj ad) (hp : p_ = 38 ∨ p_ = 39)  : ∀ (P : Row) (v2 : Int32) (v3 : Int32) (s0 : Int32) (H : Heap) (locs : List Loc) (ls : Array Slot), At E ad (su h p_ P) g s H locs → lv_has ls 7 [(0, .ref (ad 141)), (1, .ref (ad (p_ + 108))), (2, .int v2), (3, .int v3)] → qX7_lookAt_23 (h 33) (h 35) (h 36) P v2 v3 s0 = some P9 → W p l e (RM 4 91) s m args below meth c H locs 0 0 (QV E ad (su h p_ P9) g below args s) (F0 m 23 ls [.int s0]) := by
  intro P v2 v3 s0 H locs ls w hl hf
  unfold qX7_lookAt_23 at hf
  refine lv_istore (lv' := [(4, .int s0), (0, .ref (ad 141)), (1, .ref (ad (p_ + 108))), (2, .int v2), (3, .int v3)]) C.1 C.2.1 dX7_lookAt_23 hl (by decide) rfl (fun ls hl => ?_)
  refine lv_iload_n C.1 C.2.1 dX7_lookAt_25 rfl (lv_at hl 4 rfl) ?_
  refine lv_bipush (v := -9) C.1 C.2.1 dX7_lookAt_26 (by decide) ?_
  refine lv_icmp_eq (tgt := 55) C.1 C.2.1 dX7_lookAt_28 (by decide) (fun c25 => ?_) (fun c25 => ?_)
  · rw [if_pos c25] at hf
    exact w_X7_lookAt_55 C hr hlk X hI hp _ _ _ _ _ _ _ w (lv_sub hl [1, 2, 3, 4, 0] rfl) hf
  · rw [if_neg c25] at hf
    refine lv_aload_n C.1 C.2.1 dX7_lookAt_31 rfl (lv_at hl 2 rfl) ?_
    refine lv_bipush (v := 32) C.1 C.2.1 dX7_lookAt_32 (by decide) ?_
    refine x_qld (j := 32) C X w (su_same h p_ P) hp (by decide) (by decide) dX7_lookAt_34 ?_
    refine lv_if_ne (tgt := 55) C.1 C.2.1 dX7_lookAt_35 (by decide) (fun c26 => ?_) (fun c26 => ?_)
    · rw [if_neg c26] at hf
      exact w_X7_lookAt_55 C hr hlk X hI hp _ _ _ _ _ _ _ w (lv_sub hl [1, 2, 3, 4, 0] rfl) hf
    · rw [if_pos c26] at hf
      refine lv_aload_n C.1 C.2.1 dX7_lookAt_38 rfl (lv_at hl 1 rfl) ?_
      refine lv_iload_n C.1 C.2.1 dX7_lookAt_39 rfl (lv_at hl 4 rfl) ?_
      obtain ⟨r28, eq27, hf⟩ := bi1_e hf
      refine x_cVi (As := [.int v3]) (rest := []) C X w (c_X7_might hI (su_ne (by omega)) (su_ne (by omega)) eq27) mw_X7_might ml_X7_107 rcv_r33 rfl hl.1 rfl (Nat.le_of_ble_eq_true rfl) ⟨⟨Nat.le_of_ble_eq_true rfl, Nat.le_of_ble_eq_true rfl⟩, Nat.le_of_ble_eq_true rfl, Nat.le_of_ble_eq_true rfl⟩ dX7_lookAt_40 (fun H locs w => ?_)
      refine lv_aload_n C.1 C.2.1 dX7_lookAt_43 rfl (lv_at hl 1 rfl) ?_
      refine lv_iload_n C.1 C.2.1 dX7_lookAt_44 rfl (lv_at hl 3 rfl) ?_
      obtain ⟨r30, eq29, hf⟩ := bi1_e hf
      refine x_cVi (As := [.int v2]) (rest := [.int r28]) C X w (c_X7_might hI (su_ne (by omega)) (su_ne (by omega)) eq29) mw_X7_might ml_X7_107 rcv_r33 rfl hl.1 rfl (Nat.le_of_ble_eq_true rfl) ⟨⟨Nat.le_of_ble_eq_true rfl, Nat.le_of_ble_eq_true rfl⟩, Nat.le_of_ble_eq_true rfl, Nat.le_of_ble_eq_true rfl⟩ dX7_lookAt_45 (fun H locs w => ?_)
      refine lv_icmp_le (tgt := 55) C.1 C.2.1 dX7_lookAt_48 (by decide) (fun c31 => ?_) (fun c31 => ?_)
      · rw [if_pos c31] at hf
        exact w_X7_lookAt_55 C hr hlk X hI hp _ _ _ _ _ _ _ w (lv_sub hl [1, 2, 3, 4, 0] rfl) hf
      · rw [if_neg c31] at hf
        refine lv_iconst (v := 1) C.1 C.2.1 dX7_lookAt_51 (by decide) ?_
        refine lv_goto (tgt := 56) C.1 C.2.1 dX7_lookAt_52 (by decide) ?_
        exact w_X7_lookAt_56 C hr hlk X hI hp _ _ _ _ _ _ _ _ w (lv_sub hl [1, 2, 3, 4, 0] rfl) hf
def qX7_lookAt (R33 : Row) (R35 : Row) (R36 : Row) (P : Row) (x2 : Int32) : Option (Row) :=
(bi1 (qX7_nextOf R33 R35 R36 P) (fun r22 =>
(ck (inb ((5 : Int32) + x2) 36) ((if (P (((5 : Int32) + x2)).toNatClampNeg) < (P 33) then (qX7_lookAt_23 R33 R35 R36 P x2 r22 (0 : Int32))
else (qX7_lookAt_23 R33 R35 R36 P x2 r22 (1 : Int32)))))))
set_option maxHeartbeats 4000000 in
set_option maxRecDepth 100000 in
theorem c_X7_lookAt {l : Launch} {E : Ev} {ad : Nat → Nat} {g : Gp} {h : Hp} {p_ : Nat} {P : Row} {x2 : Int32} {P9 : Row} (hI : Inj ad) (hp : p_ = 38 ∨ p_ = 39) (hf : qX7_lookAt (h 33) (h 35) (h 36) P x2 = some P9) : CtV l yX7_lookAt cX7_lookAt 7 none 4 91 E ad g g [.ref (ad 141), .ref (ad (p_ + 108)), .int x2] (su h p_ P) (su h p_ P9) := by
  refine x_begin (by decide) (Nat.le_of_ble_eq_true rfl) ?_
  intro p e s m below meth c ls C hr hlk X w hl
  replace hl : lv_has ls 7 [(0, .ref (ad 141)), (1, .ref (ad (p_ + 108))), (2, .int x2)] := hl
  replace C : CallFix p m c cX7_lookAt 7 s ([.ref (ad 141), .ref (ad (p_ + 108)), .int x2] : List Value).toArray lwA RX7 := C
  unfold qX7_lookAt at hf
  refine lv_aload_n C.1 C.2.1 dX7_lookAt_0 rfl (lv_at hl 0 rfl) ?_
  refine lv_aload_n C.1 C.2.1 dX7_lookAt_1 rfl (lv_at hl 1 rfl) ?_
  obtain ⟨r22, eq21, hf⟩ := bi1_e hf
  refine x_cVi (As := [.ref (ad (p_ + 108))]) (rest := []) C X w (c_X7_nextOf hI hp eq21) mw_X7_nextOf ml_X7_118 rcv_r33 rfl hl.1 rfl (Nat.le_of_ble_eq_true rfl) ⟨⟨Nat.le_of_ble_eq_true rfl, Nat.le_of_ble_eq_true rfl⟩, Nat.le_of_ble_eq_true rfl, Nat.le_of_ble_eq_true rfl⟩ dX7_lookAt_2 (fun H locs w => ?_)
  refine lv_istore_n (lv' := [(3, .int r22), (0, .ref (ad 141)), (1, .ref (ad (p_ + 108))), (2, .int x2)]) C.1 C.2.1 dX7_lookAt_5 rfl hl (by decide) rfl (fun ls hl => ?_)
  refine lv_aload_n C.1 C.2.1 dX7_lookAt_6 rfl (lv_at hl 2 rfl) ?_
  refine lv_iconst (v := 5) C.1 C.2.1 dX7_lookAt_7 (by decide) ?_
  refine lv_iload_n C.1 C.2.1 dX7_lookAt_8 rfl (lv_at hl 3 rfl) ?_
  refine lv_iadd C.1 C.2.1 dX7_lookAt_9 ?_
  obtain ⟨i23, hf⟩ := ck_e hf
  refine x_qld (j := (((5 : Int32) + x2)).toNatClampNeg) C X w (su_same h p_ P) hp i23 rfl dX7_lookAt_10 ?_
  refine lv_aload_n C.1 C.2.1 dX7_lookAt_11 rfl (lv_at hl 2 rfl) ?_
  refine lv_bipush (v := 33) C.1 C.2.1 dX7_lookAt_12 (by decide) ?_
  refine x_qld (j := 33) C X w (su_same h p_ P) hp (by decide) (by decide) dX7_lookAt_14 ?_
  refine lv_icmp_lt (tgt := 22) C.1 C.2.1 dX7_lookAt_15 (by decide) (fun c24 => ?_) (fun c24 => ?_)
  · rw [if_pos c24] at hf
    refine lv_iconst (v := 0) C.1 C.2.1 dX7_lookAt_22 (by decide) ?_
    exact w_X7_lookAt_23 C hr hlk X hI hp _ _ _ _ _ _ _ w (lv_sub hl [1, 2, 3, 0] rfl) hf
  · rw [if_neg c24] at hf
    refine lv_iconst (v := 1) C.1 C.2.1 dX7_lookAt_18 (by decide) ?_
    refine lv_goto (tgt := 23) C.1 C.2.1 dX7_lookAt_19 (by decide) ?_
    exact w_X7_lookAt_23 C hr hlk X hI hp _ _ _ _ _ _ _ w (lv_sub hl [1, 2, 3, 0] rfl) hf

def qX7_goMinute_29 (R33 : Row) (R35 : Row) (R36 : Row) (k7 : Row → Int32 → Int32 → Option (Row)) (P : Row) (v2 : Int32) (v3 : Int32) : Option (Row) :=
(k7 P v2 (v3 + 1))
set_option maxHeartbeats 4000000 in
set_option maxRecDepth 100000 in
theorem w_X7_goMinute_29 {p : Program} {l : Launch} {e : Env} {s : State} {m : MethodId} {args : Array Value} {below : List Frame} {meth : Method} {c : Code} {E : Ev} {ad : Nat → Nat} {g : Gp} {h : Hp} {p_ : Nat} {P9 : Row} {k7 : Row → Int32 → Int32 → Option (Row)} (C : CallFix p m c cX7_goMinute 4 s args lwA RX7) (hr : meth.sig.returnType = none) (hlk : meth.locks = false) (X : Sx E ad s) (hI : Inj ad) (hp : p_ = 38 ∨ p_ = 39) (hk7 : ∀ (P : Row) (v2 : Int32) (v3 : Int32) (H : Heap) (locs : List Loc) (ls : Array Slot), At E ad (su h p_ P) g s H locs → lv_has ls 4 [(0, .ref (ad 141)), (1, .ref (ad (p_ + 108))), (2, .int v2), (3, .int v3)] → k7 P v2 v3 = some P9 → W p l e (RM 5 117) s m args below meth c H locs 0 0 (QV E ad (su h p_ P9) g below args s) (F0 m 7 ls [])) : ∀ (P : Row) (v2 : Int32) (v3 : Int32) (H : Heap) (locs : List Loc) (ls : Array Slot), At E ad (su h p_ P) g s H locs → lv_has ls 4 [(0, .ref (ad 141)), (1, .ref (ad (p_ + 108))), (2, .int v2), (3, .int v3)] → qX7_goMinute_29 (h 33) (h 35) (h 36) k7 P v2 v3 = some P9 → W p l e (RM 5 117) s m args below meth c H locs 0 0 (QV E ad (su h p_ P9) g below args s) (F0 m 29 ls []) := by
  intro P v2 v3 H locs ls w hl hf
  unfold qX7_goMinute_29 at hf
  refine lv_iinc (v := (v3 + 1)) (lv' := [(3, .int (v3 + 1)), (0, .ref (ad 141)), (1, .ref (ad (p_ + 108))), (2, .int v2)]) C.1 C.2.1 dX7_goMinute_29 hl (k := 3) rfl (congrArg (fun z => v3 + z) (by decide)) (by decide) rfl (fun ls hl => ?_)
  refine lv_goto (tgt := 7) C.1 C.2.1 dX7_goMinute_32 (by decide) ?_
  exact hk7 _ _ _ _ _ _ w (lv_sub hl [1, 2, 3, 0] rfl) hf
def qX7_goMinute_220 (R33 : Row) (R35 : Row) (R36 : Row) (k71 : Row → Int32 → Option (Row)) (P : Row) (v3 : Int32) : Option (Row) :=
(k71 P (v3 + 1))
set_option maxHeartbeats 4000000 in
set_option maxRecDepth 100000 in
theorem w_X7_goMinute_220 {p : Program} {l : Launch} {e : Env} {s : State} {m : MethodId} {args : Array Value} {below : List Frame} {meth : Method} {c : Code} {E : Ev} {ad : Nat → Nat} {g : Gp} {h : Hp} {p_ : Nat} {P9 : Row} {k71 : Row → Int32 → Option (Row)} (C : CallFix p m c cX7_goMinute 4 s args lwA RX7) (hr : meth.sig.returnType = none) (hlk : meth.locks = false) (X : Sx E ad s) (hI : Inj ad) (hp : p_ = 38 ∨ p_ = 39) (hk71 : ∀ (P : Row) (v3 : Int32) (H : Heap) (locs : List Loc) (ls : Array Slot), At E ad (su h p_ P) g s H locs → lv_has ls 4 [(0, .ref (ad 141)), (1, .ref (ad (p_ + 108))), (3, .int v3)] → k71 P v3 = some P9 → W p l e (RM 5 117) s m args below meth c H locs 0 0 (QV E ad (su h p_ P9) g below args s) (F0 m 71 ls [])) : ∀ (P : Row) (v3 : Int32) (H : Heap) (locs : List Loc) (ls : Array Slot), At E ad (su h p_ P) g s H locs → lv_has ls 4 [(0, .ref (ad 141)), (1, .ref (ad (p_ + 108))), (3, .int v3)] → qX7_goMinute_220 (h 33) (h 35) (h 36) k71 P v3 = some P9 → W p l e (RM 5 117) s m args below meth c H locs 0 0 (QV E ad (su h p_ P9) g below args s) (F0 m 220 ls []) := by
  intro P v3 H locs ls w hl hf
  unfold qX7_goMinute_220 at hf
  refine lv_iinc (v := (v3 + 1)) (lv' := [(3, .int (v3 + 1)), (0, .ref (ad 141)), (1, .ref (ad (p_ + 108)))]) C.1 C.2.1 dX7_goMinute_220 hl (k := 2) rfl (congrArg (fun z => v3 + z) (by decide)) (by decide) rfl (fun ls hl => ?_)
  refine lv_goto (tgt := 71) C.1 C.2.1 dX7_goMinute_223 (by decide) ?_
  exact hk71 _ _ _ _ _ w (lv_sub hl [1, 2, 0] rfl) hf
def qX7_goMinute_128 (R33 : Row) (R35 : Row) (R36 : Row) (k71 : Row → Int32 → Option (Row)) (P : Row) (v3 : Int32) (s1 : Int32) (s2 : Int32) (s3 : Int32) : Option (Row) :=
(ck (inb s1 36) (bd (upd P s1.toNatClampNeg (s2 - s3)) (fun P66 =>
(qX7_goMinute_220 R33 R35 R36 k71 P66 v3))))
set_option maxHeartbeats 4000000 in
set_option maxRecDepth 100000 in
theorem w_X7_goMinute_128 {p : Program} {l : Launch} {e : Env} {s : State} {m : MethodId} {args : Array Value} {below : List Frame} {meth : Method} {c : Code} {E : Ev} {ad : Nat → Nat} {g : Gp} {h : Hp} {p_ : Nat} {P9 : Row} {k71 : Row → Int32 → Option (Row)} (C : CallFix p m c cX7_goMinute 4 s args lwA RX7) (hr : meth.sig.returnType = none) (hlk : meth.locks = false) (X : Sx E ad s) (hI : Inj ad) (hp : p_ = 38 ∨ p_ = 39) (hk71 : ∀ (P : Row) (v3 : Int32) (H : Heap) (locs : List Loc) (ls : Array Slot), At E ad (su h p_ P) g s H locs → lv_has ls 4 [(0, .ref (ad 141)), (1, .ref (ad (p_ + 108))), (3, .int v3)] → k71 P v3 = some P9 → W p l e (RM 5 117) s m args below meth c H locs 0 0 (QV E ad (su h p_ P9) g below args s) (F0 m 71 ls [])) : ∀ (P : Row) (v3 : Int32) (s1 : Int32) (s2 : Int32) (s3 : Int32) (H : Heap) (locs : List Loc) (ls : Array Slot), At E ad (su h p_ P) g s H locs → lv_has ls 4 [(0, .ref (ad 141)), (1, .ref (ad (p_ + 108))), (3, .int v3)] → qX7_goMinute_128 (h 33) (h 35) (h 36) k71 P v3 s1 s2 s3 = some P9 → W p l e (RM 5 117) s m args below meth c H locs 0 0 (QV E ad (su h p_ P9) g below args s) (F0 m 128 ls [.int s3, .int s2, .int s1, .ref (ad (p_ + 108))]) := by
  intro P v3 s1 s2 s3 H locs ls w hl hf
  unfold qX7_goMinute_128 at hf
  refine lv_isub C.1 C.2.1 dX7_goMinute_128 ?_
  obtain ⟨i65, hf⟩ := ck_e hf
  obtain ⟨P66, eP66, hf⟩ := bd_e hf
  refine x_qst (j := s1.toNatClampNeg) C X hI w hp i65 rfl dX7_goMinute_129 (fun H locs w => ?_)
  replace w := at_eqP eP66 w
  refine lv_goto (tgt := 220) C.1 C.2.1 dX7_goMinute_130 (by decide) ?_
  exact w_X7_goMinute_220 C hr hlk X hI hp hk71 _ _ _ _ _ w (lv_sub hl [0, 1, 2] rfl) hf
def qX7_goMinute_218 (R33 : Row) (R35 : Row) (R36 : Row) (k71 : Row → Int32 → Option (Row)) (P : Row) (v3 : Int32) (s1 : Int32) (s2 : Int32) (s3 : Int32) : Option (Row) :=
(ck (inb s1 36) (bd (upd P s1.toNatClampNeg (s2 + s3)) (fun P73 =>
(qX7_goMinute_220 R33 R35 R36 k71 P73 v3))))
set_option maxHeartbeats 4000000 in
set_option maxRecDepth 100000 in
theorem w_X7_goMinute_218 {p : Program} {l : Launch} {e : Env} {s : State} {m : MethodId} {args : Array Value} {below : List Frame} {meth : Method} {c : Code} {E : Ev} {ad : Nat → Nat} {g : Gp} {h : Hp} {p_ : Nat} {P9 : Row} {k71 : Row → Int32 → Option (Row)} (C : CallFix p m c cX7_goMinute 4 s args lwA RX7) (hr : meth.sig.returnType = none) (hlk : meth.locks = false) (X : Sx E ad s) (hI : Inj ad) (hp : p_ = 38 ∨ p_ = 39) (hk71 : ∀ (P : Row) (v3 : Int32) (H : Heap) (locs : List Loc) (ls : Array Slot), At E ad (su h p_ P) g s H locs → lv_has ls 4 [(0, .ref (ad 141)), (1, .ref (ad (p_ + 108))), (3, .int v3)] → k71 P v3 = some P9 → W p l e (RM 5 117) s m args below meth c H locs 0 0 (QV E ad (su h p_ P9) g below args s) (F0 m 71 ls [])) : ∀ (P : Row) (v3 : Int32) (s1 : Int32) (s2 : Int32) (s3 : Int32) (H : Heap) (locs : List Loc) (ls : Array Slot), At E ad (su h p_ P) g s H locs → lv_has ls 4 [(0, .ref (ad 141)), (1, .ref (ad (p_ + 108))), (3, .int v3)] → qX7_goMinute_218 (h 33) (h 35) (h 36) k71 P v3 s1 s2 s3 = some P9 → W p l e (RM 5 117) s m args below meth c H locs 0 0 (QV E ad (su h p_ P9) g below args s) (F0 m 218 ls [.int s3, .int s2, .int s1, .ref (ad (p_ + 108))]) := by
  intro P v3 s1 s2 s3 H locs ls w hl hf
  unfold qX7_goMinute_218 at hf
  refine lv_iadd C.1 C.2.1 dX7_goMinute_218 ?_
  obtain ⟨i72, hf⟩ := ck_e hf
  obtain ⟨P73, eP73, hf⟩ := bd_e hf
  refine x_qst (j := s1.toNatClampNeg) C X hI w hp i72 rfl dX7_goMinute_219 (fun H locs w => ?_)
  replace w := at_eqP eP73 w
  exact w_X7_goMinute_220 C hr hlk X hI hp hk71 _ _ _ _ _ w (lv_sub hl [0, 1, 2] rfl) hf
def qX7_goMinute_195 (R33 : Row) (R35 : Row) (R36 : Row) (k71 : Row → Int32 → Option (Row)) (P : Row) (v3 : Int32) (s1 : Int32) (s2 : Int32) (s3 : Int32) : Option (Row) :=
(ck (inb s1 36) (bd (upd P s1.toNatClampNeg (s2 + s3)) (fun P68 =>
(ck (inb ((20 : Int32) + v3) 36) ((ck (inb ((0 : Int32) + v3) 36) ((if (P68 (((0 : Int32) + v3)).toNatClampNeg) < (5 : Int32) then (qX7_goMinute_218 R33 R35 R36 k71 P68 v3 ((20 : Int32) + v3) (P68 (((20 : Int32) + v3)).toNatClampNeg) (0 : Int32))
else (qX7_goMinute_218 R33 R35 R36 k71 P68 v3 ((20 : Int32) + v3) (P68 (((20 : Int32) + v3)).toNatClampNeg) (1 : Int32))))))))))
set_option maxHeartbeats 4000000 in
set_option maxRecDepth 100000 in
theorem w_X7_goMinute_195 {p : Program} {l : Launch} {e : Env} {s : State} {m : MethodId} {args : Array Value} {below : List Frame} {meth : Method} {c : Code} {E : Ev} {ad : Nat → Nat} {g : Gp} {h : Hp} {p_ : Nat} {P9 : Row} {k71 : Row → Int32 → Option (Row)} (C : CallFix p m c cX7_goMinute 4 s args lwA RX7) (hr : meth.sig.returnType = none) (hlk : meth.locks = false) (X : Sx E ad s) (hI : Inj ad) (hp : p_ = 38 ∨ p_ = 39) (hk71 : ∀ (P : Row) (v3 : Int32) (H : Heap) (locs : List Loc) (ls : Array Slot), At E ad (su h p_ P) g s H locs → lv_has ls 4 [(0, .ref (ad 141)), (1, .ref (ad (p_ + 108))), (3, .int v3)] → k71 P v3 = some P9 → W p l e (RM 5 117) s m args below meth c H locs 0 0 (QV E ad (su h p_ P9) g below args s) (F0 m 71 ls [])) : ∀ (P : Row) (v3 : Int32) (s1 : Int32) (s2 : Int32) (s3 : Int32) (H : Heap) (locs : List Loc) (ls : Array Slot), At E ad (su h p_ P) g s H locs → lv_has ls 4 [(0, .ref (ad 141)), (1, .ref (ad (p_ + 108))), (3, .int v3)] → qX7_goMinute_195 (h 33) (h 35) (h 36) k71 P v3 s1 s2 s3 = some P9 → W p l e (RM 5 117) s m args below meth c H locs 0 0 (QV E ad (su h p_ P9) g below args s) (F0 m 195 ls [.int s3, .int s2, .int s1, .ref (ad (p_ + 108))]) := by
  intro P v3 s1 s2 s3 H locs ls w hl hf
  unfold qX7_goMinute_195 at hf
  refine lv_iadd C.1 C.2.1 dX7_goMinute_195 ?_
  obtain ⟨i67, hf⟩ := ck_e hf
  obtain ⟨P68, eP68, hf⟩ := bd_e hf
  refine x_qst (j := s1.toNatClampNeg) C X hI w hp i67 rfl dX7_goMinute_196 (fun H locs w => ?_)
  replace w := at_eqP eP68 w
  refine lv_aload_n C.1 C.2.1 dX7_goMinute_197 rfl (lv_at hl 1 rfl) ?_
  refine lv_bipush (v := 20) C.1 C.2.1 dX7_goMinute_198 (by decide) ?_
  refine lv_iload_n C.1 C.2.1 dX7_goMinute_200 rfl (lv_at hl 2 rfl) ?_
  refine lv_iadd C.1 C.2.1 dX7_goMinute_201 ?_
  refine lv_dup2_11 C.1 C.2.1 dX7_goMinute_202 rfl rfl ?_
  obtain ⟨i69, hf⟩ := ck_e hf
  refine x_qld (j := (((20 : Int32) + v3)).toNatClampNeg) C X w (su_same h p_ P68) hp i69 rfl dX7_goMinute_203 ?_
  refine lv_aload_n C.1 C.2.1 dX7_goMinute_204 rfl (lv_at hl 1 rfl) ?_
  refine lv_iconst (v := 0) C.1 C.2.1 dX7_goMinute_205 (by decide) ?_
  refine lv_iload_n C.1 C.2.1 dX7_goMinute_206 rfl (lv_at hl 2 rfl) ?_
  refine lv_iadd C.1 C.2.1 dX7_goMinute_207 ?_
  obtain ⟨i70, hf⟩ := ck_e hf
  refine x_qld (j := (((0 : Int32) + v3)).toNatClampNeg) C X w (su_same h p_ P68) hp i70 rfl dX7_goMinute_208 ?_
  refine lv_iconst (v := 5) C.1 C.2.1 dX7_goMinute_209 (by decide) ?_
  refine lv_icmp_lt (tgt := 217) C.1 C.2.1 dX7_goMinute_210 (by decide) (fun c71 => ?_) (fun c71 => ?_)
  · rw [if_pos c71] at hf
    refine lv_iconst (v := 0) C.1 C.2.1 dX7_goMinute_217 (by decide) ?_
    exact w_X7_goMinute_218 C hr hlk X hI hp hk71 _ _ _ _ _ _ _ _ w (lv_sub hl [0, 1, 2] rfl) hf
  · rw [if_neg c71] at hf
    refine lv_iconst (v := 1) C.1 C.2.1 dX7_goMinute_213 (by decide) ?_
    refine lv_goto (tgt := 218) C.1 C.2.1 dX7_goMinute_214 (by decide) ?_
    exact w_X7_goMinute_218 C hr hlk X hI hp hk71 _ _ _ _ _ _ _ _ w (lv_sub hl [0, 1, 2] rfl) hf
def qX7_goMinute_172 (R33 : Row) (R35 : Row) (R36 : Row) (k71 : Row → Int32 → Option (Row)) (P : Row) (v3 : Int32) (s1 : Int32) (s2 : Int32) (s3 : Int32) : Option (Row) :=
(ck (inb s1 36) (bd (upd P s1.toNatClampNeg (s2 + s3)) (fun P61 =>
(ck (inb ((15 : Int32) + v3) 36) ((ck (inb ((0 : Int32) + v3) 36) ((if (P61 (((0 : Int32) + v3)).toNatClampNeg) < (5 : Int32) then (qX7_goMinute_195 R33 R35 R36 k71 P61 v3 ((15 : Int32) + v3) (P61 (((15 : Int32) + v3)).toNatClampNeg) (0 : Int32))
else (qX7_goMinute_195 R33 R35 R36 k71 P61 v3 ((15 : Int32) + v3) (P61 (((15 : Int32) + v3)).toNatClampNeg) (1 : Int32))))))))))
set_option maxHeartbeats 4000000 in
set_option maxRecDepth 100000 in
theorem w_X7_goMinute_172 {p : Program} {l : Launch} {e : Env} {s : State} {m : MethodId} {args : Array Value} {below : List Frame} {meth : Method} {c : Code} {E : Ev} {ad : Nat → Nat} {g : Gp} {h : Hp} {p_ : Nat} {P9 : Row} {k71 : Row → Int32 → Option (Row)} (C : CallFix p m c cX7_goMinute 4 s args lwA RX7) (hr : meth.sig.returnType = none) (hlk : meth.locks = false) (X : Sx E ad s) (hI : Inj ad) (hp : p_ = 38 ∨ p_ = 39) (hk71 : ∀ (P : Row) (v3 : Int32) (H : Heap) (locs : List Loc) (ls : Array Slot), At E ad (su h p_ P) g s H locs → lv_has ls 4 [(0, .ref (ad 141)), (1, .ref (ad (p_ + 108))), (3, .int v3)] → k71 P v3 = some P9 → W p l e (RM 5 117) s m args below meth c H locs 0 0 (QV E ad (su h p_ P9) g below args s) (F0 m 71 ls [])) : ∀ (P : Row) (v3 : Int32) (s1 : Int32) (s2 : Int32) (s3 : Int32) (H : Heap) (locs : List Loc) (ls : Array Slot), At E ad (su h p_ P) g s H locs → lv_has ls 4 [(0, .ref (ad 141)), (1, .ref (ad (p_ + 108))), (3, .int v3)] → qX7_goMinute_172 (h 33) (h 35) (h 36) k71 P v3 s1 s2 s3 = some P9 → W p l e (RM 5 117) s m args below meth c H locs 0 0 (QV E ad (su h p_ P9) g below args s) (F0 m 172 ls [.int s3, .int s2, .int s1, .ref (ad (p_ + 108))]) := by
  intro P v3 s1 s2 s3 H locs ls w hl hf
  unfold qX7_goMinute_172 at hf
  refine lv_iadd C.1 C.2.1 dX7_goMinute_172 ?_
  obtain ⟨i60, hf⟩ := ck_e hf
  obtain ⟨P61, eP61, hf⟩ := bd_e hf
  refine x_qst (j := s1.toNatClampNeg) C X hI w hp i60 rfl dX7_goMinute_173 (fun H locs w => ?_)
  replace w := at_eqP eP61 w
  refine lv_aload_n C.1 C.2.1 dX7_goMinute_174 rfl (lv_at hl 1 rfl) ?_
  refine lv_bipush (v := 15) C.1 C.2.1 dX7_goMinute_175 (by decide) ?_
  refine lv_iload_n C.1 C.2.1 dX7_goMinute_177 rfl (lv_at hl 2 rfl) ?_
  refine lv_iadd C.1 C.2.1 dX7_goMinute_178 ?_
  refine lv_dup2_11 C.1 C.2.1 dX7_goMinute_179 rfl rfl ?_
  obtain ⟨i62, hf⟩ := ck_e hf
  refine x_qld (j := (((15 : Int32) + v3)).toNatClampNeg) C X w (su_same h p_ P61) hp i62 rfl dX7_goMinute_180 ?_
  refine lv_aload_n C.1 C.2.1 dX7_goMinute_181 rfl (lv_at hl 1 rfl) ?_
  refine lv_iconst (v := 0) C.1 C.2.1 dX7_goMinute_182 (by decide) ?_
  refine lv_iload_n C.1 C.2.1 dX7_goMinute_183 rfl (lv_at hl 2 rfl) ?_
  refine lv_iadd C.1 C.2.1 dX7_goMinute_184 ?_
  obtain ⟨i63, hf⟩ := ck_e hf
  refine x_qld (j := (((0 : Int32) + v3)).toNatClampNeg) C X w (su_same h p_ P61) hp i63 rfl dX7_goMinute_185 ?_
  refine lv_iconst (v := 5) C.1 C.2.1 dX7_goMinute_186 (by decide) ?_
  refine lv_icmp_lt (tgt := 194) C.1 C.2.1 dX7_goMinute_187 (by decide) (fun c64 => ?_) (fun c64 => ?_)
  · rw [if_pos c64] at hf
    refine lv_iconst (v := 0) C.1 C.2.1 dX7_goMinute_194 (by decide) ?_
    exact w_X7_goMinute_195 C hr hlk X hI hp hk71 _ _ _ _ _ _ _ _ w (lv_sub hl [0, 1, 2] rfl) hf
  · rw [if_neg c64] at hf
    refine lv_iconst (v := 1) C.1 C.2.1 dX7_goMinute_190 (by decide) ?_
    refine lv_goto (tgt := 195) C.1 C.2.1 dX7_goMinute_191 (by decide) ?_
    exact w_X7_goMinute_195 C hr hlk X hI hp hk71 _ _ _ _ _ _ _ _ w (lv_sub hl [0, 1, 2] rfl) hf
def qX7_goMinute_71 (R33 : Row) (R35 : Row) (R36 : Row) : Nat → Row → Int32 → Option (Row)
  | 0, _, _ => none
  | n + 1, P, v3 =>
    (if (R33 4) ≤ v3 then (bd (upd P 35 ((P 35) + (1 : Int32))) (fun P40 =>
    (some P40)))
    else (bi1 (qX7_has (P 30) v3) (fun r42 =>
    (if r42 = 0 then (if (P 30) = 0 then (qX7_goMinute_220 R33 R35 R36 (qX7_goMinute_71 R33 R35 R36 n) P v3)
    else (bi1 (qX7_has (R33 25) v3) (fun r46 =>
    (if r46 = 0 then (qX7_goMinute_220 R33 R35 R36 (qX7_goMinute_71 R33 R35 R36 n) P v3)
    else (ck (inb ((0 : Int32) + v3) 36) ((ck (inb ((0 : Int32) + v3) 36) ((if (9 : Int32) ≤ (P (((0 : Int32) + v3)).toNatClampNeg) then (qX7_goMinute_172 R33 R35 R36 (qX7_goMinute_71 R33 R35 R36 n) P v3 ((0 : Int32) + v3) (P (((0 : Int32) + v3)).toNatClampNeg) (0 : Int32))
    else (qX7_goMinute_172 R33 R35 R36 (qX7_goMinute_71 R33 R35 R36 n) P v3 ((0 : Int32) + v3) (P (((0 : Int32) + v3)).toNatClampNeg) (1 : Int32)))))))))))
    else (ck (inb ((10 : Int32) + v3) 36) ((ck (inb ((10 : Int32) + v3) 36) (bd (upd P (((10 : Int32) + v3)).toNatClampNeg ((P (((10 : Int32) + v3)).toNatClampNeg) + (1 : Int32))) (fun P53 =>
    (ck (inb ((5 : Int32) + v3) 36) ((ck (inb ((5 : Int32) + v3) 36) (bd (upd P53 (((5 : Int32) + v3)).toNatClampNeg ((P53 (((5 : Int32) + v3)).toNatClampNeg) + (1 : Int32))) (fun P56 =>
    (ck (inb ((0 : Int32) + v3) 36) ((ck (inb ((0 : Int32) + v3) 36) ((if (P56 (((0 : Int32) + v3)).toNatClampNeg) ≤ 0 then (qX7_goMinute_128 R33 R35 R36 (qX7_goMinute_71 R33 R35 R36 n) P56 v3 ((0 : Int32) + v3) (P56 (((0 : Int32) + v3)).toNatClampNeg) (0 : Int32))
    else (qX7_goMinute_128 R33 R35 R36 (qX7_goMinute_71 R33 R35 R36 n) P56 v3 ((0 : Int32) + v3) (P56 (((0 : Int32) + v3)).toNatClampNeg) (1 : Int32)))))))))))))))))))))
set_option maxHeartbeats 4000000 in
set_option maxRecDepth 100000 in
theorem w_X7_goMinute_71 {p : Program} {l : Launch} {e : Env} {s : State} {m : MethodId} {args : Array Value} {below : List Frame} {meth : Method} {c : Code} {E : Ev} {ad : Nat → Nat} {g : Gp} {h : Hp} {p_ : Nat} {P9 : Row} (C : CallFix p m c cX7_goMinute 4 s args lwA RX7) (hr : meth.sig.returnType = none) (hlk : meth.locks = false) (X : Sx E ad s) (hI : Inj ad) (hp : p_ = 38 ∨ p_ = 39)  : ∀ (n : Nat), ∀ (P : Row) (v3 : Int32) (H : Heap) (locs : List Loc) (ls : Array Slot), At E ad (su h p_ P) g s H locs → lv_has ls 4 [(0, .ref (ad 141)), (1, .ref (ad (p_ + 108))), (3, .int v3)] → qX7_goMinute_71 (h 33) (h 35) (h 36) n P v3 = some P9 → W p l e (RM 5 117) s m args below meth c H locs 0 0 (QV E ad (su h p_ P9) g below args s) (F0 m 71 ls []) := by
  intro n
  induction n with
  | zero =>
    intro P v3 H locs ls w hl hf
    cases hf
  | succ n ih =>
    intro P v3 H locs ls w hl hf
    rw [qX7_goMinute_71] at hf
    refine lv_iload_n C.1 C.2.1 dX7_goMinute_71 rfl (lv_at hl 2 rfl) ?_
    refine lv_aload_n C.1 C.2.1 dX7_goMinute_72 rfl (lv_at hl 0 rfl) ?_
    refine gf_X7_54 C X w (su_ne (by omega)) dX7_goMinute_73 ?_
    refine lv_icmp_ge (tgt := 226) C.1 C.2.1 dX7_goMinute_76 (by decide) (fun c39 => ?_) (fun c39 => ?_)
    · rw [if_pos c39] at hf
      refine lv_aload_n C.1 C.2.1 dX7_goMinute_226 rfl (lv_at hl 1 rfl) ?_
      refine lv_bipush (v := 35) C.1 C.2.1 dX7_goMinute_227 (by decide) ?_
      refine lv_dup2_11 C.1 C.2.1 dX7_goMinute_229 rfl rfl ?_
      refine x_qld (j := 35) C X w (su_same h p_ P) hp (by decide) (by decide) dX7_goMinute_230 ?_
      refine lv_iconst (v := 1) C.1 C.2.1 dX7_goMinute_231 (by decide) ?_
      refine lv_iadd C.1 C.2.1 dX7_goMinute_232 ?_
      obtain ⟨P40, eP40, hf⟩ := bd_e hf
      refine x_qst (j := 35) C X hI w hp (by decide) (by decide) dX7_goMinute_233 (fun H locs w => ?_)
      replace w := at_eqP eP40 w
      cases hf
      exact x_vret C hr hlk w dX7_goMinute_234
    · rw [if_neg c39] at hf
      refine lv_aload_n C.1 C.2.1 dX7_goMinute_79 rfl (lv_at hl 1 rfl) ?_
      refine lv_bipush (v := 30) C.1 C.2.1 dX7_goMinute_80 (by decide) ?_
      refine x_qld (j := 30) C X w (su_same h p_ P) hp (by decide) (by decide) dX7_goMinute_82 ?_
      refine lv_iload_n C.1 C.2.1 dX7_goMinute_83 rfl (lv_at hl 2 rfl) ?_
      obtain ⟨r42, eq41, hf⟩ := bi1_e hf
      refine x_cSi (As := [.int (P 30), .int v3]) (rest := []) C X w (c_X7_has hI  eq41) mw_X7_has ml_X7_99 rfl hl.1 rfl (Nat.le_of_ble_eq_true rfl) ⟨⟨Nat.le_of_ble_eq_true rfl, Nat.le_of_ble_eq_true rfl⟩, Nat.le_of_ble_eq_true rfl, Nat.le_of_ble_eq_true rfl⟩ dX7_goMinute_84 (fun H locs w => ?_)
      refine lv_if_eq (tgt := 133) C.1 C.2.1 dX7_goMinute_87 (by decide) (fun c43 => ?_) (fun c43 => ?_)
      · rw [if_pos c43] at hf
        refine lv_aload_n C.1 C.2.1 dX7_goMinute_133 rfl (lv_at hl 1 rfl) ?_
        refine lv_bipush (v := 30) C.1 C.2.1 dX7_goMinute_134 (by decide) ?_
        refine x_qld (j := 30) C X w (su_same h p_ P) hp (by decide) (by decide) dX7_goMinute_136 ?_
        refine lv_if_eq (tgt := 220) C.1 C.2.1 dX7_goMinute_137 (by decide) (fun c44 => ?_) (fun c44 => ?_)
        · rw [if_pos c44] at hf
          exact w_X7_goMinute_220 C hr hlk X hI hp ih _ _ _ _ _ w (lv_sub hl [0, 1, 2] rfl) hf
        · rw [if_neg c44] at hf
          refine lv_aload_n C.1 C.2.1 dX7_goMinute_140 rfl (lv_at hl 0 rfl) ?_
          refine gf_X7_96 C X w (su_ne (by omega)) dX7_goMinute_141 ?_
          refine lv_iload_n C.1 C.2.1 dX7_goMinute_144 rfl (lv_at hl 2 rfl) ?_
          obtain ⟨r46, eq45, hf⟩ := bi1_e hf
          refine x_cSi (As := [.int ((h 33) 25), .int v3]) (rest := []) C X w (c_X7_has hI  eq45) mw_X7_has ml_X7_99 rfl hl.1 rfl (Nat.le_of_ble_eq_true rfl) ⟨⟨Nat.le_of_ble_eq_true rfl, Nat.le_of_ble_eq_true rfl⟩, Nat.le_of_ble_eq_true rfl, Nat.le_of_ble_eq_true rfl⟩ dX7_goMinute_145 (fun H locs w => ?_)
          refine lv_if_eq (tgt := 220) C.1 C.2.1 dX7_goMinute_148 (by decide) (fun c47 => ?_) (fun c47 => ?_)
          · rw [if_pos c47] at hf
            exact w_X7_goMinute_220 C hr hlk X hI hp ih _ _ _ _ _ w (lv_sub hl [0, 1, 2] rfl) hf
          · rw [if_neg c47] at hf
            refine lv_aload_n C.1 C.2.1 dX7_goMinute_151 rfl (lv_at hl 1 rfl) ?_
            refine lv_iconst (v := 0) C.1 C.2.1 dX7_goMinute_152 (by decide) ?_
            refine lv_iload_n C.1 C.2.1 dX7_goMinute_153 rfl (lv_at hl 2 rfl) ?_
            refine lv_iadd C.1 C.2.1 dX7_goMinute_154 ?_
            refine lv_dup2_11 C.1 C.2.1 dX7_goMinute_155 rfl rfl ?_
            obtain ⟨i48, hf⟩ := ck_e hf
            refine x_qld (j := (((0 : Int32) + v3)).toNatClampNeg) C X w (su_same h p_ P) hp i48 rfl dX7_goMinute_156 ?_
            refine lv_aload_n C.1 C.2.1 dX7_goMinute_157 rfl (lv_at hl 1 rfl) ?_
            refine lv_iconst (v := 0) C.1 C.2.1 dX7_goMinute_158 (by decide) ?_
            refine lv_iload_n C.1 C.2.1 dX7_goMinute_159 rfl (lv_at hl 2 rfl) ?_
            refine lv_iadd C.1 C.2.1 dX7_goMinute_160 ?_
            obtain ⟨i49, hf⟩ := ck_e hf
            refine x_qld (j := (((0 : Int32) + v3)).toNatClampNeg) C X w (su_same h p_ P) hp i49 rfl dX7_goMinute_161 ?_
            refine lv_bipush (v := 9) C.1 C.2.1 dX7_goMinute_162 (by decide) ?_
            refine lv_icmp_ge (tgt := 171) C.1 C.2.1 dX7_goMinute_164 (by decide) (fun c50 => ?_) (fun c50 => ?_)
            · rw [if_pos c50] at hf
              refine lv_iconst (v := 0) C.1 C.2.1 dX7_goMinute_171 (by decide) ?_
              exact w_X7_goMinute_172 C hr hlk X hI hp ih _ _ _ _ _ _ _ _ w (lv_sub hl [0, 1, 2] rfl) hf
            · rw [if_neg c50] at hf
              refine lv_iconst (v := 1) C.1 C.2.1 dX7_goMinute_167 (by decide) ?_
              refine lv_goto (tgt := 172) C.1 C.2.1 dX7_goMinute_168 (by decide) ?_
              exact w_X7_goMinute_172 C hr hlk X hI hp ih _ _ _ _ _ _ _ _ w (lv_sub hl [0, 1, 2] rfl) hf
      · rw [if_neg c43] at hf
        refine lv_aload_n C.1 C.2.1 dX7_goMinute_90 rfl (lv_at hl 1 rfl) ?_
        refine lv_bipush (v := 10) C.1 C.2.1 dX7_goMinute_91 (by decide) ?_
        refine lv_iload_n C.1 C.2.1 dX7_goMinute_93 rfl (lv_at hl 2 rfl) ?_
        refine lv_iadd C.1 C.2.1 dX7_goMinute_94 ?_
        refine lv_dup2_11 C.1 C.2.1 dX7_goMinute_95 rfl rfl ?_
        obtain ⟨i51, hf⟩ := ck_e hf
        refine x_qld (j := (((10 : Int32) + v3)).toNatClampNeg) C X w (su_same h p_ P) hp i51 rfl dX7_goMinute_96 ?_
        refine lv_iconst (v := 1) C.1 C.2.1 dX7_goMinute_97 (by decide) ?_
        refine lv_iadd C.1 C.2.1 dX7_goMinute_98 ?_
        obtain ⟨i52, hf⟩ := ck_e hf
        obtain ⟨P53, eP53, hf⟩ := bd_e hf
        refine x_qst (j := (((10 : Int32) + v3)).toNatClampNeg) C X hI w hp i52 rfl dX7_goMinute_99 (fun H locs w => ?_)
        replace w := at_eqP eP53 w
        refine lv_aload_n C.1 C.2.1 dX7_goMinute_100 rfl (lv_at hl 1 rfl) ?_
        refine lv_iconst (v := 5) C.1 C.2.1 dX7_goMinute_101 (by decide) ?_
        refine lv_iload_n C.1 C.2.1 dX7_goMinute_102 rfl (lv_at hl 2 rfl) ?_
        refine lv_iadd C.1 C.2.1 dX7_goMinute_103 ?_
        refine lv_dup2_11 C.1 C.2.1 dX7_goMinute_104 rfl rfl ?_
        obtain ⟨i54, hf⟩ := ck_e hf
        refine x_qld (j := (((5 : Int32) + v3)).toNatClampNeg) C X w (su_same h p_ P53) hp i54 rfl dX7_goMinute_105 ?_
        refine lv_iconst (v := 1) C.1 C.2.1 dX7_goMinute_106 (by decide) ?_
        refine lv_iadd C.1 C.2.1 dX7_goMinute_107 ?_
        obtain ⟨i55, hf⟩ := ck_e hf
        obtain ⟨P56, eP56, hf⟩ := bd_e hf
        refine x_qst (j := (((5 : Int32) + v3)).toNatClampNeg) C X hI w hp i55 rfl dX7_goMinute_108 (fun H locs w => ?_)
        replace w := at_eqP eP56 w
        refine lv_aload_n C.1 C.2.1 dX7_goMinute_109 rfl (lv_at hl 1 rfl) ?_
        refine lv_iconst (v := 0) C.1 C.2.1 dX7_goMinute_110 (by decide) ?_
        refine lv_iload_n C.1 C.2.1 dX7_goMinute_111 rfl (lv_at hl 2 rfl) ?_
        refine lv_iadd C.1 C.2.1 dX7_goMinute_112 ?_
        refine lv_dup2_11 C.1 C.2.1 dX7_goMinute_113 rfl rfl ?_
        obtain ⟨i57, hf⟩ := ck_e hf
        refine x_qld (j := (((0 : Int32) + v3)).toNatClampNeg) C X w (su_same h p_ P56) hp i57 rfl dX7_goMinute_114 ?_
        refine lv_aload_n C.1 C.2.1 dX7_goMinute_115 rfl (lv_at hl 1 rfl) ?_
        refine lv_iconst (v := 0) C.1 C.2.1 dX7_goMinute_116 (by decide) ?_
        refine lv_iload_n C.1 C.2.1 dX7_goMinute_117 rfl (lv_at hl 2 rfl) ?_
        refine lv_iadd C.1 C.2.1 dX7_goMinute_118 ?_
        obtain ⟨i58, hf⟩ := ck_e hf
        refine x_qld (j := (((0 : Int32) + v3)).toNatClampNeg) C X w (su_same h p_ P56) hp i58 rfl dX7_goMinute_119 ?_
        refine lv_if_le (tgt := 127) C.1 C.2.1 dX7_goMinute_120 (by decide) (fun c59 => ?_) (fun c59 => ?_)
        · rw [if_pos c59] at hf
          refine lv_iconst (v := 0) C.1 C.2.1 dX7_goMinute_127 (by decide) ?_
          exact w_X7_goMinute_128 C hr hlk X hI hp ih _ _ _ _ _ _ _ _ w (lv_sub hl [0, 1, 2] rfl) hf
        · rw [if_neg c59] at hf
          refine lv_iconst (v := 1) C.1 C.2.1 dX7_goMinute_123 (by decide) ?_
          refine lv_goto (tgt := 128) C.1 C.2.1 dX7_goMinute_124 (by decide) ?_
          exact w_X7_goMinute_128 C hr hlk X hI hp ih _ _ _ _ _ _ _ _ w (lv_sub hl [0, 1, 2] rfl) hf
def qX7_goMinute_69 (R33 : Row) (R35 : Row) (R36 : Row) (P : Row) : Option (Row) :=
(qX7_goMinute_71 R33 R35 R36 600 P (0 : Int32))
set_option maxHeartbeats 4000000 in
set_option maxRecDepth 100000 in
theorem w_X7_goMinute_69 {p : Program} {l : Launch} {e : Env} {s : State} {m : MethodId} {args : Array Value} {below : List Frame} {meth : Method} {c : Code} {E : Ev} {ad : Nat → Nat} {g : Gp} {h : Hp} {p_ : Nat} {P9 : Row} (C : CallFix p m c cX7_goMinute 4 s args lwA RX7) (hr : meth.sig.returnType = none) (hlk : meth.locks = false) (X : Sx E ad s) (hI : Inj ad) (hp : p_ = 38 ∨ p_ = 39)  : ∀ (P : Row) (H : Heap) (locs : List Loc) (ls : Array Slot), At E ad (su h p_ P) g s H locs → lv_has ls 4 [(0, .ref (ad 141)), (1, .ref (ad (p_ + 108)))] → qX7_goMinute_69 (h 33) (h 35) (h 36) P = some P9 → W p l e (RM 5 117) s m args below meth c H locs 0 0 (QV E ad (su h p_ P9) g below args s) (F0 m 69 ls []) := by
  intro P H locs ls w hl hf
  unfold qX7_goMinute_69 at hf
  refine lv_iconst (v := 0) C.1 C.2.1 dX7_goMinute_69 (by decide) ?_
  refine lv_istore_n (lv' := [(3, .int (0 : Int32)), (0, .ref (ad 141)), (1, .ref (ad (p_ + 108)))]) C.1 C.2.1 dX7_goMinute_70 rfl hl (by decide) rfl (fun ls hl => ?_)
  exact w_X7_goMinute_71 C hr hlk X hI hp 600 _ _ _ _ _ w (lv_sub hl [1, 2, 0] rfl) hf
def qX7_goMinute_35 (R33 : Row) (R35 : Row) (R36 : Row) : Nat → Row → Option (Row)
  | 0, _ => none
  | n + 1, P =>
    (bi1 (qX7_many (P 30)) (fun r29 =>
    (if (P 34) ≤ r29 then (qX7_goMinute_69 R33 R35 R36 P)
    else (bi1 (qX7_asksOf R33 R36 P) (fun r32 =>
    (if r32 = 0 then (qX7_goMinute_69 R33 R35 R36 P)
    else (bi1 (qX7_nextOf R33 R35 R36 P) (fun r35 =>
    (bi1 (qX7_getOn P r35) (fun P38 =>
    (qX7_goMinute_35 R33 R35 R36 n P38)))))))))))
set_option maxHeartbeats 4000000 in
set_option maxRecDepth 100000 in
theorem w_X7_goMinute_35 {p : Program} {l : Launch} {e : Env} {s : State} {m : MethodId} {args : Array Value} {below : List Frame} {meth : Method} {c : Code} {E : Ev} {ad : Nat → Nat} {g : Gp} {h : Hp} {p_ : Nat} {P9 : Row} (C : CallFix p m c cX7_goMinute 4 s args lwA RX7) (hr : meth.sig.returnType = none) (hlk : meth.locks = false) (X : Sx E ad s) (hI : Inj ad) (hp : p_ = 38 ∨ p_ = 39)  : ∀ (n : Nat), ∀ (P : Row) (H : Heap) (locs : List Loc) (ls : Array Slot), At E ad (su h p_ P) g s H locs → lv_has ls 4 [(0, .ref (ad 141)), (1, .ref (ad (p_ + 108)))] → qX7_goMinute_35 (h 33) (h 35) (h 36) n P = some P9 → W p l e (RM 5 117) s m args below meth c H locs 0 0 (QV E ad (su h p_ P9) g below args s) (F0 m 35 ls []) := by
  intro n
  induction n with
  | zero =>
    intro P H locs ls w hl hf
    cases hf
  | succ n ih =>
    intro P H locs ls w hl hf
    rw [qX7_goMinute_35] at hf
    refine lv_aload_n C.1 C.2.1 dX7_goMinute_35 rfl (lv_at hl 1 rfl) ?_
    refine lv_bipush (v := 30) C.1 C.2.1 dX7_goMinute_36 (by decide) ?_
    refine x_qld (j := 30) C X w (su_same h p_ P) hp (by decide) (by decide) dX7_goMinute_38 ?_
    obtain ⟨r29, eq28, hf⟩ := bi1_e hf
    refine x_cSi (As := [.int (P 30)]) (rest := []) C X w (c_X7_many hI  eq28) mw_X7_many ml_X7_128 rfl hl.1 rfl (Nat.le_of_ble_eq_true rfl) ⟨⟨Nat.le_of_ble_eq_true rfl, Nat.le_of_ble_eq_true rfl⟩, Nat.le_of_ble_eq_true rfl, Nat.le_of_ble_eq_true rfl⟩ dX7_goMinute_39 (fun H locs w => ?_)
    refine lv_aload_n C.1 C.2.1 dX7_goMinute_42 rfl (lv_at hl 1 rfl) ?_
    refine lv_bipush (v := 34) C.1 C.2.1 dX7_goMinute_43 (by decide) ?_
    refine x_qld (j := 34) C X w (su_same h p_ P) hp (by decide) (by decide) dX7_goMinute_45 ?_
    refine lv_icmp_ge (tgt := 69) C.1 C.2.1 dX7_goMinute_46 (by decide) (fun c30 => ?_) (fun c30 => ?_)
    · rw [if_pos c30] at hf
      exact w_X7_goMinute_69 C hr hlk X hI hp _ _ _ _ w (lv_sub hl [0, 1] rfl) hf
    · rw [if_neg c30] at hf
      refine lv_aload_n C.1 C.2.1 dX7_goMinute_49 rfl (lv_at hl 0 rfl) ?_
      refine lv_aload_n C.1 C.2.1 dX7_goMinute_50 rfl (lv_at hl 1 rfl) ?_
      obtain ⟨r32, eq31, hf⟩ := bi1_e hf
      refine x_cVi (As := [.ref (ad (p_ + 108))]) (rest := []) C X w (c_X7_asksOf hI hp eq31) mw_X7_asksOf ml_X7_111 rcv_r33 rfl hl.1 rfl (Nat.le_of_ble_eq_true rfl) ⟨⟨Nat.le_of_ble_eq_true rfl, Nat.le_of_ble_eq_true rfl⟩, Nat.le_of_ble_eq_true rfl, Nat.le_of_ble_eq_true rfl⟩ dX7_goMinute_51 (fun H locs w => ?_)
      refine lv_if_eq (tgt := 69) C.1 C.2.1 dX7_goMinute_54 (by decide) (fun c33 => ?_) (fun c33 => ?_)
      · rw [if_pos c33] at hf
        exact w_X7_goMinute_69 C hr hlk X hI hp _ _ _ _ w (lv_sub hl [0, 1] rfl) hf
      · rw [if_neg c33] at hf
        refine lv_aload_n C.1 C.2.1 dX7_goMinute_57 rfl (lv_at hl 1 rfl) ?_
        refine lv_aload_n C.1 C.2.1 dX7_goMinute_58 rfl (lv_at hl 0 rfl) ?_
        refine lv_aload_n C.1 C.2.1 dX7_goMinute_59 rfl (lv_at hl 1 rfl) ?_
        obtain ⟨r35, eq34, hf⟩ := bi1_e hf
        refine x_cVi (As := [.ref (ad (p_ + 108))]) (rest := [.ref (ad (p_ + 108))]) C X w (c_X7_nextOf hI hp eq34) mw_X7_nextOf ml_X7_118 rcv_r33 rfl hl.1 rfl (Nat.le_of_ble_eq_true rfl) ⟨⟨Nat.le_of_ble_eq_true rfl, Nat.le_of_ble_eq_true rfl⟩, Nat.le_of_ble_eq_true rfl, Nat.le_of_ble_eq_true rfl⟩ dX7_goMinute_60 (fun H locs w => ?_)
        obtain ⟨P38, eq36, hf⟩ := bi1_e hf
        refine x_cSv (As := [.ref (ad (p_ + 108)), .int r35]) (rest := []) C X w (c_X7_getOn hI hp eq36) mw_X7_getOn ml_X7_131 rfl hl.1 rfl (Nat.le_of_ble_eq_true rfl) ⟨⟨Nat.le_of_ble_eq_true rfl, Nat.le_of_ble_eq_true rfl⟩, Nat.le_of_ble_eq_true rfl, Nat.le_of_ble_eq_true rfl⟩ dX7_goMinute_63 (fun H locs w => ?_)
        refine lv_goto (tgt := 35) C.1 C.2.1 dX7_goMinute_66 (by decide) ?_
        exact ih _ _ _ _ w (lv_sub hl [0, 1] rfl) hf
def qX7_goMinute_7 (R33 : Row) (R35 : Row) (R36 : Row) : Nat → Row → Int32 → Int32 → Option (Row)
  | 0, _, _, _ => none
  | n + 1, P, v2, v3 =>
    (if (R33 4) ≤ v3 then (qX7_goMinute_35 R33 R35 R36 600 P)
    else (bi1 (qX7_has v2 v3) (fun r23 =>
    (if r23 = 0 then (qX7_goMinute_29 R33 R35 R36 (qX7_goMinute_7 R33 R35 R36 n) P v2 v3)
    else (bi1 (qX7_lookAt R33 R35 R36 P v3) (fun P27 =>
    (qX7_goMinute_29 R33 R35 R36 (qX7_goMinute_7 R33 R35 R36 n) P27 v2 v3)))))))
set_option maxHeartbeats 4000000 in
set_option maxRecDepth 100000 in
theorem w_X7_goMinute_7 {p : Program} {l : Launch} {e : Env} {s : State} {m : MethodId} {args : Array Value} {below : List Frame} {meth : Method} {c : Code} {E : Ev} {ad : Nat → Nat} {g : Gp} {h : Hp} {p_ : Nat} {P9 : Row} (C : CallFix p m c cX7_goMinute 4 s args lwA RX7) (hr : meth.sig.returnType = none) (hlk : meth.locks = false) (X : Sx E ad s) (hI : Inj ad) (hp : p_ = 38 ∨ p_ = 39)  : ∀ (n : Nat), ∀ (P : Row) (v2 : Int32) (v3 : Int32) (H : Heap) (locs : List Loc) (ls : Array Slot), At E ad (su h p_ P) g s H locs → lv_has ls 4 [(0, .ref (ad 141)), (1, .ref (ad (p_ + 108))), (2, .int v2), (3, .int v3)] → qX7_goMinute_7 (h 33) (h 35) (h 36) n P v2 v3 = some P9 → W p l e (RM 5 117) s m args below meth c H locs 0 0 (QV E ad (su h p_ P9) g below args s) (F0 m 7 ls []) := by
  intro n
  induction n with
  | zero =>
    intro P v2 v3 H locs ls w hl hf
    cases hf
  | succ n ih =>
    intro P v2 v3 H locs ls w hl hf
    rw [qX7_goMinute_7] at hf
    refine lv_iload_n C.1 C.2.1 dX7_goMinute_7 rfl (lv_at hl 3 rfl) ?_
    refine lv_aload_n C.1 C.2.1 dX7_goMinute_8 rfl (lv_at hl 0 rfl) ?_
    refine gf_X7_54 C X w (su_ne (by omega)) dX7_goMinute_9 ?_
    refine lv_icmp_ge (tgt := 35) C.1 C.2.1 dX7_goMinute_12 (by decide) (fun c21 => ?_) (fun c21 => ?_)
    · rw [if_pos c21] at hf
      exact w_X7_goMinute_35 C hr hlk X hI hp 600 _ _ _ _ w (lv_sub hl [0, 1] rfl) hf
    · rw [if_neg c21] at hf
      refine lv_iload_n C.1 C.2.1 dX7_goMinute_15 rfl (lv_at hl 2 rfl) ?_
      refine lv_iload_n C.1 C.2.1 dX7_goMinute_16 rfl (lv_at hl 3 rfl) ?_
      obtain ⟨r23, eq22, hf⟩ := bi1_e hf
      refine x_cSi (As := [.int v2, .int v3]) (rest := []) C X w (c_X7_has hI  eq22) mw_X7_has ml_X7_99 rfl hl.1 rfl (Nat.le_of_ble_eq_true rfl) ⟨⟨Nat.le_of_ble_eq_true rfl, Nat.le_of_ble_eq_true rfl⟩, Nat.le_of_ble_eq_true rfl, Nat.le_of_ble_eq_true rfl⟩ dX7_goMinute_17 (fun H locs w => ?_)
      refine lv_if_eq (tgt := 29) C.1 C.2.1 dX7_goMinute_20 (by decide) (fun c24 => ?_) (fun c24 => ?_)
      · rw [if_pos c24] at hf
        exact w_X7_goMinute_29 C hr hlk X hI hp ih _ _ _ _ _ _ w (lv_sub hl [0, 1, 2, 3] rfl) hf
      · rw [if_neg c24] at hf
        refine lv_aload_n C.1 C.2.1 dX7_goMinute_23 rfl (lv_at hl 0 rfl) ?_
        refine lv_aload_n C.1 C.2.1 dX7_goMinute_24 rfl (lv_at hl 1 rfl) ?_
        refine lv_iload_n C.1 C.2.1 dX7_goMinute_25 rfl (lv_at hl 3 rfl) ?_
        obtain ⟨P27, eq25, hf⟩ := bi1_e hf
        refine x_cVv (As := [.ref (ad (p_ + 108)), .int v3]) (rest := []) C X w (c_X7_lookAt hI hp eq25) mw_X7_lookAt ml_X7_125 rcv_r33 rfl hl.1 rfl (Nat.le_of_ble_eq_true rfl) ⟨⟨Nat.le_of_ble_eq_true rfl, Nat.le_of_ble_eq_true rfl⟩, Nat.le_of_ble_eq_true rfl, Nat.le_of_ble_eq_true rfl⟩ dX7_goMinute_26 (fun H locs w => ?_)
        exact w_X7_goMinute_29 C hr hlk X hI hp ih _ _ _ _ _ _ w (lv_sub hl [0, 1, 2, 3] rfl) hf
def qX7_goMinute (R33 : Row) (R35 : Row) (R36 : Row) (P : Row) : Option (Row) :=
(qX7_goMinute_7 R33 R35 R36 600 P (P 30) (0 : Int32))
set_option maxHeartbeats 4000000 in
set_option maxRecDepth 100000 in
theorem c_X7_goMinute {l : Launch} {E : Ev} {ad : Nat → Nat} {g : Gp} {h : Hp} {p_ : Nat} {P : Row} {P9 : Row} (hI : Inj ad) (hp : p_ = 38 ∨ p_ = 39) (hf : qX7_goMinute (h 33) (h 35) (h 36) P = some P9) : CtV l yX7_goMinute cX7_goMinute 4 none 5 117 E ad g g [.ref (ad 141), .ref (ad (p_ + 108))] (su h p_ P) (su h p_ P9) := by
  refine x_begin (by decide) (Nat.le_of_ble_eq_true rfl) ?_
  intro p e s m below meth c ls C hr hlk X w hl
  replace hl : lv_has ls 4 [(0, .ref (ad 141)), (1, .ref (ad (p_ + 108)))] := hl
  replace C : CallFix p m c cX7_goMinute 4 s ([.ref (ad 141), .ref (ad (p_ + 108))] : List Value).toArray lwA RX7 := C
  unfold qX7_goMinute at hf
  refine lv_aload_n C.1 C.2.1 dX7_goMinute_0 rfl (lv_at hl 1 rfl) ?_
  refine lv_bipush (v := 30) C.1 C.2.1 dX7_goMinute_1 (by decide) ?_
  refine x_qld (j := 30) C X w (su_same h p_ P) hp (by decide) (by decide) dX7_goMinute_3 ?_
  refine lv_istore_n (lv' := [(2, .int (P 30)), (0, .ref (ad 141)), (1, .ref (ad (p_ + 108)))]) C.1 C.2.1 dX7_goMinute_4 rfl hl (by decide) rfl (fun ls hl => ?_)
  refine lv_iconst (v := 0) C.1 C.2.1 dX7_goMinute_5 (by decide) ?_
  refine lv_istore_n (lv' := [(3, .int (0 : Int32)), (2, .int (P 30)), (0, .ref (ad 141)), (1, .ref (ad (p_ + 108)))]) C.1 C.2.1 dX7_goMinute_6 rfl hl (by decide) rfl (fun ls hl => ?_)
  exact w_X7_goMinute_7 C hr hlk X hI hp 600 _ _ _ _ _ _ w (lv_sub hl [2, 3, 1, 0] rfl) hf

def qX7_sumOf_5 (R33 : Row) (P : Row) : Nat → Int32 → Int32 → Int32 → Option (Int32)
  | 0, _, _, _ => none
  | n + 1, v2, v3, v4 =>
    (if (R33 4) ≤ v4 then (some v3)
    else (ck (inb (v2 + v4) 36) ((qX7_sumOf_5 R33 P n v2 (v3 + (P ((v2 + v4)).toNatClampNeg)) (v4 + 1)))))
set_option maxHeartbeats 4000000 in
set_option maxRecDepth 100000 in
theorem w_X7_sumOf_5 {p : Program} {l : Launch} {e : Env} {s : State} {m : MethodId} {args : Array Value} {below : List Frame} {meth : Method} {c : Code} {E : Ev} {ad : Nat → Nat} {g : Gp} {h : Hp} {P : Row} {p_ : Nat} {r : Int32} (C : CallFix p m c cX7_sumOf 5 s args lwA RX7) (hr : meth.sig.returnType = (some .int)) (hlk : meth.locks = false) (X : Sx E ad s) (hI : Inj ad) (hp : p_ = 38 ∨ p_ = 39)  : ∀ (n : Nat), ∀ (v2 : Int32) (v3 : Int32) (v4 : Int32) (H : Heap) (locs : List Loc) (ls : Array Slot), At E ad (su h p_ P) g s H locs → lv_has ls 5 [(0, .ref (ad 141)), (1, .ref (ad (p_ + 108))), (2, .int v2), (3, .int v3), (4, .int v4)] → qX7_sumOf_5 (h 33) P n v2 v3 v4 = some r → W p l e (RM 0 0) s m args below meth c H locs 0 0 (QI E ad (su h p_ P) g r below args s) (F0 m 5 ls []) := by
  intro n
  induction n with
  | zero =>
    intro v2 v3 v4 H locs ls w hl hf
    cases hf
  | succ n ih =>
    intro v2 v3 v4 H locs ls w hl hf
    rw [qX7_sumOf_5] at hf
    refine lv_iload C.1 C.2.1 dX7_sumOf_5 (lv_at hl 4 rfl) ?_
    refine lv_aload_n C.1 C.2.1 dX7_sumOf_7 rfl (lv_at hl 0 rfl) ?_
    refine gf_X7_54 C X w (su_ne (by omega)) dX7_sumOf_8 ?_
    refine lv_icmp_ge (tgt := 29) C.1 C.2.1 dX7_sumOf_11 (by decide) (fun c21 => ?_) (fun c21 => ?_)
    · rw [if_pos c21] at hf
      refine lv_iload_n C.1 C.2.1 dX7_sumOf_29 rfl (lv_at hl 3 rfl) ?_
      cases hf
      exact x_iret C hr hlk w dX7_sumOf_30
    · rw [if_neg c21] at hf
      refine lv_iload_n C.1 C.2.1 dX7_sumOf_14 rfl (lv_at hl 3 rfl) ?_
      refine lv_aload_n C.1 C.2.1 dX7_sumOf_15 rfl (lv_at hl 1 rfl) ?_
      refine lv_iload_n C.1 C.2.1 dX7_sumOf_16 rfl (lv_at hl 2 rfl) ?_
      refine lv_iload C.1 C.2.1 dX7_sumOf_17 (lv_at hl 4 rfl) ?_
      refine lv_iadd C.1 C.2.1 dX7_sumOf_19 ?_
      obtain ⟨i22, hf⟩ := ck_e hf
      refine x_qld (j := ((v2 + v4)).toNatClampNeg) C X w (su_same h p_ P) hp i22 rfl dX7_sumOf_20 ?_
      refine lv_iadd C.1 C.2.1 dX7_sumOf_21 ?_
      refine lv_istore_n (lv' := [(3, .int (v3 + (P ((v2 + v4)).toNatClampNeg))), (0, .ref (ad 141)), (1, .ref (ad (p_ + 108))), (2, .int v2), (4, .int v4)]) C.1 C.2.1 dX7_sumOf_22 rfl hl (by decide) rfl (fun ls hl => ?_)
      refine lv_iinc (v := (v4 + 1)) (lv' := [(4, .int (v4 + 1)), (3, .int (v3 + (P ((v2 + v4)).toNatClampNeg))), (0, .ref (ad 141)), (1, .ref (ad (p_ + 108))), (2, .int v2)]) C.1 C.2.1 dX7_sumOf_23 hl (k := 4) rfl (congrArg (fun z => v4 + z) (by decide)) (by decide) rfl (fun ls hl => ?_)
      refine lv_goto (tgt := 5) C.1 C.2.1 dX7_sumOf_26 (by decide) ?_
      exact ih _ _ _ _ _ _ w (lv_sub hl [2, 3, 4, 1, 0] rfl) hf
def qX7_sumOf (R33 : Row) (P : Row) (x2 : Int32) : Option (Int32) :=
(qX7_sumOf_5 R33 P 600 x2 (0 : Int32) (0 : Int32))
set_option maxHeartbeats 4000000 in
set_option maxRecDepth 100000 in
theorem c_X7_sumOf {l : Launch} {E : Ev} {ad : Nat → Nat} {g : Gp} {h : Hp} {p_ : Nat} {P : Row} {x2 : Int32} {r : Int32} (hI : Inj ad) (hp : p_ = 38 ∨ p_ = 39) (hf : qX7_sumOf (h 33) P x2 = some r) : CtI l yX7_sumOf cX7_sumOf 5 (some .int) 0 0 E ad g g [.ref (ad 141), .ref (ad (p_ + 108)), .int x2] (su h p_ P) (su h p_ P) r := by
  refine x_begin (by decide) (Nat.le_of_ble_eq_true rfl) ?_
  intro p e s m below meth c ls C hr hlk X w hl
  replace hl : lv_has ls 5 [(0, .ref (ad 141)), (1, .ref (ad (p_ + 108))), (2, .int x2)] := hl
  replace C : CallFix p m c cX7_sumOf 5 s ([.ref (ad 141), .ref (ad (p_ + 108)), .int x2] : List Value).toArray lwA RX7 := C
  unfold qX7_sumOf at hf
  refine lv_iconst (v := 0) C.1 C.2.1 dX7_sumOf_0 (by decide) ?_
  refine lv_istore_n (lv' := [(3, .int (0 : Int32)), (0, .ref (ad 141)), (1, .ref (ad (p_ + 108))), (2, .int x2)]) C.1 C.2.1 dX7_sumOf_1 rfl hl (by decide) rfl (fun ls hl => ?_)
  refine lv_iconst (v := 0) C.1 C.2.1 dX7_sumOf_2 (by decide) ?_
  refine lv_istore (lv' := [(4, .int (0 : Int32)), (3, .int (0 : Int32)), (0, .ref (ad 141)), (1, .ref (ad (p_ + 108))), (2, .int x2)]) C.1 C.2.1 dX7_sumOf_3 hl (by decide) rfl (fun ls hl => ?_)
  exact w_X7_sumOf_5 C hr hlk X hI hp 600 _ _ _ _ _ _ w (lv_sub hl [2, 3, 4, 1, 0] rfl) hf

def qX7_gapOf_75 (R33 : Row) (P : Row) (k21 : Int32 → Int32 → Int32 → Option (Int32)) (v2 : Int32) (v4 : Int32) (s0 : Int32) : Option (Int32) :=
(k21 v2 s0 (v4 + 1))
set_option maxHeartbeats 4000000 in
set_option maxRecDepth 100000 in
theorem w_X7_gapOf_75 {p : Program} {l : Launch} {e : Env} {s : State} {m : MethodId} {args : Array Value} {below : List Frame} {meth : Method} {c : Code} {E : Ev} {ad : Nat → Nat} {g : Gp} {h : Hp} {P : Row} {p_ : Nat} {r : Int32} {k21 : Int32 → Int32 → Int32 → Option (Int32)} (C : CallFix p m c cX7_gapOf 5 s args lwA RX7) (hr : meth.sig.returnType = (some .int)) (hlk : meth.locks = false) (X : Sx E ad s) (hI : Inj ad) (hp : p_ = 38 ∨ p_ = 39) (hk21 : ∀ (v2 : Int32) (v3 : Int32) (v4 : Int32) (H : Heap) (locs : List Loc) (ls : Array Slot), At E ad (su h p_ P) g s H locs → lv_has ls 5 [(0, .ref (ad 141)), (1, .ref (ad (p_ + 108))), (2, .int v2), (3, .int v3), (4, .int v4)] → k21  v2 v3 v4 = some r → W p l e (RM 0 0) s m args below meth c H locs 0 0 (QI E ad (su h p_ P) g r below args s) (F0 m 21 ls [])) : ∀ (v2 : Int32) (v4 : Int32) (s0 : Int32) (H : Heap) (locs : List Loc) (ls : Array Slot), At E ad (su h p_ P) g s H locs → lv_has ls 5 [(0, .ref (ad 141)), (1, .ref (ad (p_ + 108))), (2, .int v2), (4, .int v4)] → qX7_gapOf_75 (h 33) P k21 v2 v4 s0 = some r → W p l e (RM 0 0) s m args below meth c H locs 0 0 (QI E ad (su h p_ P) g r below args s) (F0 m 75 ls [.int s0]) := by
  intro v2 v4 s0 H locs ls w hl hf
  unfold qX7_gapOf_75 at hf
  refine lv_istore_n (lv' := [(3, .int s0), (0, .ref (ad 141)), (1, .ref (ad (p_ + 108))), (2, .int v2), (4, .int v4)]) C.1 C.2.1 dX7_gapOf_75 rfl hl (by decide) rfl (fun ls hl => ?_)
  refine lv_iinc (v := (v4 + 1)) (lv' := [(4, .int (v4 + 1)), (3, .int s0), (0, .ref (ad 141)), (1, .ref (ad (p_ + 108))), (2, .int v2)]) C.1 C.2.1 dX7_gapOf_76 hl (k := 4) rfl (congrArg (fun z => v4 + z) (by decide)) (by decide) rfl (fun ls hl => ?_)
  refine lv_goto (tgt := 21) C.1 C.2.1 dX7_gapOf_79 (by decide) ?_
  exact hk21 _ _ _ _ _ _ w (lv_sub hl [2, 3, 4, 1, 0] rfl) hf
def qX7_gapOf_52 (R33 : Row) (P : Row) (k21 : Int32 → Int32 → Int32 → Option (Int32)) (v3 : Int32) (v4 : Int32) (s0 : Int32) : Option (Int32) :=
(ck (inb ((10 : Int32) + v4) 36) ((if v3 ≤ (P (((10 : Int32) + v4)).toNatClampNeg) then (qX7_gapOf_75 R33 P k21 s0 v4 v3)
else (ck (inb ((10 : Int32) + v4) 36) ((qX7_gapOf_75 R33 P k21 s0 v4 (P (((10 : Int32) + v4)).toNatClampNeg)))))))
set_option maxHeartbeats 4000000 in
set_option maxRecDepth 100000 in
theorem w_X7_gapOf_52 {p : Program} {l : Launch} {e : Env} {s : State} {m : MethodId} {args : Array Value} {below : List Frame} {meth : Method} {c : Code} {E : Ev} {ad : Nat → Nat} {g : Gp} {h : Hp} {P : Row} {p_ : Nat} {r : Int32} {k21 : Int32 → Int32 → Int32 → Option (Int32)} (C : CallFix p m c cX7_gapOf 5 s args lwA RX7) (hr : meth.sig.returnType = (some .int)) (hlk : meth.locks = false) (X : Sx E ad s) (hI : Inj ad) (hp : p_ = 38 ∨ p_ = 39) (hk21 : ∀ (v2 : Int32) (v3 : Int32) (v4 : Int32) (H : Heap) (locs : List Loc) (ls : Array Slot), At E ad (su h p_ P) g s H locs → lv_has ls 5 [(0, .ref (ad 141)), (1, .ref (ad (p_ + 108))), (2, .int v2), (3, .int v3), (4, .int v4)] → k21  v2 v3 v4 = some r → W p l e (RM 0 0) s m args below meth c H locs 0 0 (QI E ad (su h p_ P) g r below args s) (F0 m 21 ls [])) : ∀ (v3 : Int32) (v4 : Int32) (s0 : Int32) (H : Heap) (locs : List Loc) (ls : Array Slot), At E ad (su h p_ P) g s H locs → lv_has ls 5 [(0, .ref (ad 141)), (1, .ref (ad (p_ + 108))), (3, .int v3), (4, .int v4)] → qX7_gapOf_52 (h 33) P k21 v3 v4 s0 = some r → W p l e (RM 0 0) s m args below meth c H locs 0 0 (QI E ad (su h p_ P) g r below args s) (F0 m 52 ls [.int s0]) := by
  intro v3 v4 s0 H locs ls w hl hf
  unfold qX7_gapOf_52 at hf
  refine lv_istore_n (lv' := [(2, .int s0), (0, .ref (ad 141)), (1, .ref (ad (p_ + 108))), (3, .int v3), (4, .int v4)]) C.1 C.2.1 dX7_gapOf_52 rfl hl (by decide) rfl (fun ls hl => ?_)
  refine lv_aload_n C.1 C.2.1 dX7_gapOf_53 rfl (lv_at hl 2 rfl) ?_
  refine lv_bipush (v := 10) C.1 C.2.1 dX7_gapOf_54 (by decide) ?_
  refine lv_iload C.1 C.2.1 dX7_gapOf_56 (lv_at hl 4 rfl) ?_
  refine lv_iadd C.1 C.2.1 dX7_gapOf_58 ?_
  obtain ⟨i26, hf⟩ := ck_e hf
  refine x_qld (j := (((10 : Int32) + v4)).toNatClampNeg) C X w (su_same h p_ P) hp i26 rfl dX7_gapOf_59 ?_
  refine lv_iload_n C.1 C.2.1 dX7_gapOf_60 rfl (lv_at hl 3 rfl) ?_
  refine lv_icmp_ge (tgt := 74) C.1 C.2.1 dX7_gapOf_61 (by decide) (fun c27 => ?_) (fun c27 => ?_)
  · rw [if_pos c27] at hf
    refine lv_iload_n C.1 C.2.1 dX7_gapOf_74 rfl (lv_at hl 3 rfl) ?_
    exact w_X7_gapOf_75 C hr hlk X hI hp hk21 _ _ _ _ _ _ w (lv_sub hl [1, 2, 0, 4] rfl) hf
  · rw [if_neg c27] at hf
    refine lv_aload_n C.1 C.2.1 dX7_gapOf_64 rfl (lv_at hl 2 rfl) ?_
    refine lv_bipush (v := 10) C.1 C.2.1 dX7_gapOf_65 (by decide) ?_
    refine lv_iload C.1 C.2.1 dX7_gapOf_67 (lv_at hl 4 rfl) ?_
    refine lv_iadd C.1 C.2.1 dX7_gapOf_69 ?_
    obtain ⟨i28, hf⟩ := ck_e hf
    refine x_qld (j := (((10 : Int32) + v4)).toNatClampNeg) C X w (su_same h p_ P) hp i28 rfl dX7_gapOf_70 ?_
    refine lv_goto (tgt := 75) C.1 C.2.1 dX7_gapOf_71 (by decide) ?_
    exact w_X7_gapOf_75 C hr hlk X hI hp hk21 _ _ _ _ _ _ w (lv_sub hl [1, 2, 0, 4] rfl) hf
def qX7_gapOf_21 (R33 : Row) (P : Row) : Nat → Int32 → Int32 → Int32 → Option (Int32)
  | 0, _, _, _ => none
  | n + 1, v2, v3, v4 =>
    (if (R33 4) ≤ v4 then (some (v2 - v3))
    else (ck (inb ((10 : Int32) + v4) 36) ((if (P (((10 : Int32) + v4)).toNatClampNeg) ≤ v2 then (qX7_gapOf_52 R33 P (qX7_gapOf_21 R33 P n) v3 v4 v2)
    else (ck (inb ((10 : Int32) + v4) 36) ((qX7_gapOf_52 R33 P (qX7_gapOf_21 R33 P n) v3 v4 (P (((10 : Int32) + v4)).toNatClampNeg))))))))
set_option maxHeartbeats 4000000 in
set_option maxRecDepth 100000 in
theorem w_X7_gapOf_21 {p : Program} {l : Launch} {e : Env} {s : State} {m : MethodId} {args : Array Value} {below : List Frame} {meth : Method} {c : Code} {E : Ev} {ad : Nat → Nat} {g : Gp} {h : Hp} {P : Row} {p_ : Nat} {r : Int32} (C : CallFix p m c cX7_gapOf 5 s args lwA RX7) (hr : meth.sig.returnType = (some .int)) (hlk : meth.locks = false) (X : Sx E ad s) (hI : Inj ad) (hp : p_ = 38 ∨ p_ = 39)  : ∀ (n : Nat), ∀ (v2 : Int32) (v3 : Int32) (v4 : Int32) (H : Heap) (locs : List Loc) (ls : Array Slot), At E ad (su h p_ P) g s H locs → lv_has ls 5 [(0, .ref (ad 141)), (1, .ref (ad (p_ + 108))), (2, .int v2), (3, .int v3), (4, .int v4)] → qX7_gapOf_21 (h 33) P n v2 v3 v4 = some r → W p l e (RM 0 0) s m args below meth c H locs 0 0 (QI E ad (su h p_ P) g r below args s) (F0 m 21 ls []) := by
  intro n
  induction n with
  | zero =>
    intro v2 v3 v4 H locs ls w hl hf
    cases hf
  | succ n ih =>
    intro v2 v3 v4 H locs ls w hl hf
    rw [qX7_gapOf_21] at hf
    refine lv_iload C.1 C.2.1 dX7_gapOf_21 (lv_at hl 4 rfl) ?_
    refine lv_aload_n C.1 C.2.1 dX7_gapOf_23 rfl (lv_at hl 0 rfl) ?_
    refine gf_X7_54 C X w (su_ne (by omega)) dX7_gapOf_24 ?_
    refine lv_icmp_ge (tgt := 82) C.1 C.2.1 dX7_gapOf_27 (by decide) (fun c22 => ?_) (fun c22 => ?_)
    · rw [if_pos c22] at hf
      refine lv_iload_n C.1 C.2.1 dX7_gapOf_82 rfl (lv_at hl 2 rfl) ?_
      refine lv_iload_n C.1 C.2.1 dX7_gapOf_83 rfl (lv_at hl 3 rfl) ?_
      refine lv_isub C.1 C.2.1 dX7_gapOf_84 ?_
      cases hf
      exact x_iret C hr hlk w dX7_gapOf_85
    · rw [if_neg c22] at hf
      refine lv_aload_n C.1 C.2.1 dX7_gapOf_30 rfl (lv_at hl 1 rfl) ?_
      refine lv_bipush (v := 10) C.1 C.2.1 dX7_gapOf_31 (by decide) ?_
      refine lv_iload C.1 C.2.1 dX7_gapOf_33 (lv_at hl 4 rfl) ?_
      refine lv_iadd C.1 C.2.1 dX7_gapOf_35 ?_
      obtain ⟨i23, hf⟩ := ck_e hf
      refine x_qld (j := (((10 : Int32) + v4)).toNatClampNeg) C X w (su_same h p_ P) hp i23 rfl dX7_gapOf_36 ?_
      refine lv_iload_n C.1 C.2.1 dX7_gapOf_37 rfl (lv_at hl 2 rfl) ?_
      refine lv_icmp_le (tgt := 51) C.1 C.2.1 dX7_gapOf_38 (by decide) (fun c24 => ?_) (fun c24 => ?_)
      · rw [if_pos c24] at hf
        refine lv_iload_n C.1 C.2.1 dX7_gapOf_51 rfl (lv_at hl 2 rfl) ?_
        exact w_X7_gapOf_52 C hr hlk X hI hp ih _ _ _ _ _ _ w (lv_sub hl [0, 1, 3, 4] rfl) hf
      · rw [if_neg c24] at hf
        refine lv_aload_n C.1 C.2.1 dX7_gapOf_41 rfl (lv_at hl 1 rfl) ?_
        refine lv_bipush (v := 10) C.1 C.2.1 dX7_gapOf_42 (by decide) ?_
        refine lv_iload C.1 C.2.1 dX7_gapOf_44 (lv_at hl 4 rfl) ?_
        refine lv_iadd C.1 C.2.1 dX7_gapOf_46 ?_
        obtain ⟨i25, hf⟩ := ck_e hf
        refine x_qld (j := (((10 : Int32) + v4)).toNatClampNeg) C X w (su_same h p_ P) hp i25 rfl dX7_gapOf_47 ?_
        refine lv_goto (tgt := 52) C.1 C.2.1 dX7_gapOf_48 (by decide) ?_
        exact w_X7_gapOf_52 C hr hlk X hI hp ih _ _ _ _ _ _ w (lv_sub hl [0, 1, 3, 4] rfl) hf
def qX7_gapOf_17 (R33 : Row) (P : Row) (v2 : Int32) (s0 : Int32) : Option (Int32) :=
(qX7_gapOf_21 R33 P 600 v2 s0 (0 : Int32))
set_option maxHeartbeats 4000000 in
set_option maxRecDepth 100000 in
theorem w_X7_gapOf_17 {p : Program} {l : Launch} {e : Env} {s : State} {m : MethodId} {args : Array Value} {below : List Frame} {meth : Method} {c : Code} {E : Ev} {ad : Nat → Nat} {g : Gp} {h : Hp} {P : Row} {p_ : Nat} {r : Int32} (C : CallFix p m c cX7_gapOf 5 s args lwA RX7) (hr : meth.sig.returnType = (some .int)) (hlk : meth.locks = false) (X : Sx E ad s) (hI : Inj ad) (hp : p_ = 38 ∨ p_ = 39)  : ∀ (v2 : Int32) (s0 : Int32) (H : Heap) (locs : List Loc) (ls : Array Slot), At E ad (su h p_ P) g s H locs → lv_has ls 5 [(0, .ref (ad 141)), (1, .ref (ad (p_ + 108))), (2, .int v2)] → qX7_gapOf_17 (h 33) P v2 s0 = some r → W p l e (RM 0 0) s m args below meth c H locs 0 0 (QI E ad (su h p_ P) g r below args s) (F0 m 17 ls [.int s0]) := by
  intro v2 s0 H locs ls w hl hf
  unfold qX7_gapOf_17 at hf
  refine lv_istore_n (lv' := [(3, .int s0), (0, .ref (ad 141)), (1, .ref (ad (p_ + 108))), (2, .int v2)]) C.1 C.2.1 dX7_gapOf_17 rfl hl (by decide) rfl (fun ls hl => ?_)
  refine lv_iconst (v := 0) C.1 C.2.1 dX7_gapOf_18 (by decide) ?_
  refine lv_istore (lv' := [(4, .int (0 : Int32)), (3, .int s0), (0, .ref (ad 141)), (1, .ref (ad (p_ + 108))), (2, .int v2)]) C.1 C.2.1 dX7_gapOf_19 hl (by decide) rfl (fun ls hl => ?_)
  exact w_X7_gapOf_21 C hr hlk X hI hp 600 _ _ _ _ _ _ w (lv_sub hl [2, 3, 4, 1, 0] rfl) hf
def qX7_gapOf (R33 : Row) (P : Row) : Option (Int32) :=
(if (R33 4) = 0 then (qX7_gapOf_17 R33 P (0 : Int32) (0 : Int32))
else (qX7_gapOf_17 R33 P (0 : Int32) (P 10)))
set_option maxHeartbeats 4000000 in
set_option maxRecDepth 100000 in
theorem c_X7_gapOf {l : Launch} {E : Ev} {ad : Nat → Nat} {g : Gp} {h : Hp} {p_ : Nat} {P : Row} {r : Int32} (hI : Inj ad) (hp : p_ = 38 ∨ p_ = 39) (hf : qX7_gapOf (h 33) P = some r) : CtI l yX7_gapOf cX7_gapOf 5 (some .int) 0 0 E ad g g [.ref (ad 141), .ref (ad (p_ + 108))] (su h p_ P) (su h p_ P) r := by
  refine x_begin (by decide) (Nat.le_of_ble_eq_true rfl) ?_
  intro p e s m below meth c ls C hr hlk X w hl
  replace hl : lv_has ls 5 [(0, .ref (ad 141)), (1, .ref (ad (p_ + 108)))] := hl
  replace C : CallFix p m c cX7_gapOf 5 s ([.ref (ad 141), .ref (ad (p_ + 108))] : List Value).toArray lwA RX7 := C
  unfold qX7_gapOf at hf
  refine lv_iconst (v := 0) C.1 C.2.1 dX7_gapOf_0 (by decide) ?_
  refine lv_istore_n (lv' := [(2, .int (0 : Int32)), (0, .ref (ad 141)), (1, .ref (ad (p_ + 108)))]) C.1 C.2.1 dX7_gapOf_1 rfl hl (by decide) rfl (fun ls hl => ?_)
  refine lv_aload_n C.1 C.2.1 dX7_gapOf_2 rfl (lv_at hl 1 rfl) ?_
  refine gf_X7_54 C X w (su_ne (by omega)) dX7_gapOf_3 ?_
  refine lv_if_ne (tgt := 13) C.1 C.2.1 dX7_gapOf_6 (by decide) (fun c21 => ?_) (fun c21 => ?_)
  · rw [if_neg c21] at hf
    refine lv_aload_n C.1 C.2.1 dX7_gapOf_13 rfl (lv_at hl 2 rfl) ?_
    refine lv_bipush (v := 10) C.1 C.2.1 dX7_gapOf_14 (by decide) ?_
    refine x_qld (j := 10) C X w (su_same h p_ P) hp (by decide) (by decide) dX7_gapOf_16 ?_
    exact w_X7_gapOf_17 C hr hlk X hI hp _ _ _ _ _ w (lv_sub hl [1, 2, 0] rfl) hf
  · rw [if_pos c21] at hf
    refine lv_iconst (v := 0) C.1 C.2.1 dX7_gapOf_9 (by decide) ?_
    refine lv_goto (tgt := 17) C.1 C.2.1 dX7_gapOf_10 (by decide) ?_
    exact w_X7_gapOf_17 C hr hlk X hI hp _ _ _ _ _ w (lv_sub hl [1, 2, 0] rfl) hf

def qX7_toldOf_68 (R33 : Row) (P : Row) (k40 : Int32 → Int32 → Option (Int32)) (v4 : Int32) (s0 : Int32) (s1 : Int32) : Option (Int32) :=
(k40 (s0 ||| s1) (v4 + 1))
set_option maxHeartbeats 4000000 in
set_option maxRecDepth 100000 in
theorem w_X7_toldOf_68 {p : Program} {l : Launch} {e : Env} {s : State} {m : MethodId} {args : Array Value} {below : List Frame} {meth : Method} {c : Code} {E : Ev} {ad : Nat → Nat} {g : Gp} {h : Hp} {P : Row} {p_ : Nat} {r : Int32} {k40 : Int32 → Int32 → Option (Int32)} (C : CallFix p m c cX7_toldOf 5 s args lwA RX7) (hr : meth.sig.returnType = (some .int)) (hlk : meth.locks = false) (X : Sx E ad s) (hI : Inj ad) (hp : p_ = 38 ∨ p_ = 39) (hk40 : ∀ (v3 : Int32) (v4 : Int32) (H : Heap) (locs : List Loc) (ls : Array Slot), At E ad (su h p_ P) g s H locs → lv_has ls 5 [(0, .ref (ad 141)), (1, .ref (ad (p_ + 108))), (3, .int v3), (4, .int v4)] → k40  v3 v4 = some r → W p l e (RM 1 24) s m args below meth c H locs 0 0 (QI E ad (su h p_ P) g r below args s) (F0 m 40 ls [])) : ∀ (v4 : Int32) (s0 : Int32) (s1 : Int32) (H : Heap) (locs : List Loc) (ls : Array Slot), At E ad (su h p_ P) g s H locs → lv_has ls 5 [(0, .ref (ad 141)), (1, .ref (ad (p_ + 108))), (4, .int v4)] → qX7_toldOf_68 (h 33) P k40 v4 s0 s1 = some r → W p l e (RM 1 24) s m args below meth c H locs 0 0 (QI E ad (su h p_ P) g r below args s) (F0 m 68 ls [.int s1, .int s0]) := by
  intro v4 s0 s1 H locs ls w hl hf
  unfold qX7_toldOf_68 at hf
  refine lv_ior C.1 C.2.1 dX7_toldOf_68 ?_
  refine lv_istore_n (lv' := [(3, .int (s0 ||| s1)), (0, .ref (ad 141)), (1, .ref (ad (p_ + 108))), (4, .int v4)]) C.1 C.2.1 dX7_toldOf_69 rfl hl (by decide) rfl (fun ls hl => ?_)
  refine lv_iinc (v := (v4 + 1)) (lv' := [(4, .int (v4 + 1)), (3, .int (s0 ||| s1)), (0, .ref (ad 141)), (1, .ref (ad (p_ + 108)))]) C.1 C.2.1 dX7_toldOf_70 hl (k := 3) rfl (congrArg (fun z => v4 + z) (by decide)) (by decide) rfl (fun ls hl => ?_)
  refine lv_goto (tgt := 40) C.1 C.2.1 dX7_toldOf_73 (by decide) ?_
  exact hk40 _ _ _ _ _ w (lv_sub hl [2, 3, 1, 0] rfl) hf
def qX7_toldOf_40 (R33 : Row) (P : Row) : Nat → Int32 → Int32 → Option (Int32)
  | 0, _, _ => none
  | n + 1, v3, v4 =>
    (if (R33 4) ≤ v4 then (some v3)
    else (ck (inb ((10 : Int32) + v4) 36) ((if (P (((10 : Int32) + v4)).toNatClampNeg) = 0 then (qX7_toldOf_68 R33 P (qX7_toldOf_40 R33 P n) v4 v3 ((1 : Int32) <<< (v4 &&& 31)))
    else (qX7_toldOf_68 R33 P (qX7_toldOf_40 R33 P n) v4 v3 (0 : Int32))))))
set_option maxHeartbeats 4000000 in
set_option maxRecDepth 100000 in
theorem w_X7_toldOf_40 {p : Program} {l : Launch} {e : Env} {s : State} {m : MethodId} {args : Array Value} {below : List Frame} {meth : Method} {c : Code} {E : Ev} {ad : Nat → Nat} {g : Gp} {h : Hp} {P : Row} {p_ : Nat} {r : Int32} (C : CallFix p m c cX7_toldOf 5 s args lwA RX7) (hr : meth.sig.returnType = (some .int)) (hlk : meth.locks = false) (X : Sx E ad s) (hI : Inj ad) (hp : p_ = 38 ∨ p_ = 39)  : ∀ (n : Nat), ∀ (v3 : Int32) (v4 : Int32) (H : Heap) (locs : List Loc) (ls : Array Slot), At E ad (su h p_ P) g s H locs → lv_has ls 5 [(0, .ref (ad 141)), (1, .ref (ad (p_ + 108))), (3, .int v3), (4, .int v4)] → qX7_toldOf_40 (h 33) P n v3 v4 = some r → W p l e (RM 1 24) s m args below meth c H locs 0 0 (QI E ad (su h p_ P) g r below args s) (F0 m 40 ls []) := by
  intro n
  induction n with
  | zero =>
    intro v3 v4 H locs ls w hl hf
    cases hf
  | succ n ih =>
    intro v3 v4 H locs ls w hl hf
    rw [qX7_toldOf_40] at hf
    refine lv_iload C.1 C.2.1 dX7_toldOf_40 (lv_at hl 3 rfl) ?_
    refine lv_aload_n C.1 C.2.1 dX7_toldOf_42 rfl (lv_at hl 0 rfl) ?_
    refine gf_X7_54 C X w (su_ne (by omega)) dX7_toldOf_43 ?_
    refine lv_icmp_ge (tgt := 76) C.1 C.2.1 dX7_toldOf_46 (by decide) (fun c28 => ?_) (fun c28 => ?_)
    · rw [if_pos c28] at hf
      refine lv_iload_n C.1 C.2.1 dX7_toldOf_76 rfl (lv_at hl 2 rfl) ?_
      cases hf
      exact x_iret C hr hlk w dX7_toldOf_77
    · rw [if_neg c28] at hf
      refine lv_iload_n C.1 C.2.1 dX7_toldOf_49 rfl (lv_at hl 2 rfl) ?_
      refine lv_aload_n C.1 C.2.1 dX7_toldOf_50 rfl (lv_at hl 1 rfl) ?_
      refine lv_bipush (v := 10) C.1 C.2.1 dX7_toldOf_51 (by decide) ?_
      refine lv_iload C.1 C.2.1 dX7_toldOf_53 (lv_at hl 3 rfl) ?_
      refine lv_iadd C.1 C.2.1 dX7_toldOf_55 ?_
      obtain ⟨i29, hf⟩ := ck_e hf
      refine x_qld (j := (((10 : Int32) + v4)).toNatClampNeg) C X w (su_same h p_ P) hp i29 rfl dX7_toldOf_56 ?_
      refine lv_if_ne (tgt := 67) C.1 C.2.1 dX7_toldOf_57 (by decide) (fun c30 => ?_) (fun c30 => ?_)
      · rw [if_neg c30] at hf
        refine lv_iconst (v := 0) C.1 C.2.1 dX7_toldOf_67 (by decide) ?_
        exact w_X7_toldOf_68 C hr hlk X hI hp ih _ _ _ _ _ _ w (lv_sub hl [0, 1, 3] rfl) hf
      · rw [if_pos c30] at hf
        refine lv_iconst (v := 1) C.1 C.2.1 dX7_toldOf_60 (by decide) ?_
        refine lv_iload C.1 C.2.1 dX7_toldOf_61 (lv_at hl 3 rfl) ?_
        refine lv_ishl C.1 C.2.1 dX7_toldOf_63 ?_
        refine lv_goto (tgt := 68) C.1 C.2.1 dX7_toldOf_64 (by decide) ?_
        exact w_X7_toldOf_68 C hr hlk X hI hp ih _ _ _ _ _ _ w (lv_sub hl [0, 1, 3] rfl) hf
def qX7_toldOf (R33 : Row) (P : Row) (x2 : Int32) : Option (Int32) :=
(if (2 : Int32) ≤ x2 then (if x2 = (2 : Int32) then (bi1 (qX7_gapOf R33 P) (fun r24 =>
(some r24)))
else (qX7_toldOf_40 R33 P 600 (0 : Int32) (0 : Int32)))
else (if x2 = 0 then (some (P 30))
else (bi1 (qX7_sumOf R33 P (15 : Int32)) (fun r27 =>
(some r27)))))
set_option maxHeartbeats 4000000 in
set_option maxRecDepth 100000 in
theorem c_X7_toldOf {l : Launch} {E : Ev} {ad : Nat → Nat} {g : Gp} {h : Hp} {p_ : Nat} {P : Row} {x2 : Int32} {r : Int32} (hI : Inj ad) (hp : p_ = 38 ∨ p_ = 39) (hf : qX7_toldOf (h 33) P x2 = some r) : CtI l yX7_toldOf cX7_toldOf 5 (some .int) 1 24 E ad g g [.ref (ad 141), .ref (ad (p_ + 108)), .int x2] (su h p_ P) (su h p_ P) r := by
  refine x_begin (by decide) (Nat.le_of_ble_eq_true rfl) ?_
  intro p e s m below meth c ls C hr hlk X w hl
  replace hl : lv_has ls 5 [(0, .ref (ad 141)), (1, .ref (ad (p_ + 108))), (2, .int x2)] := hl
  replace C : CallFix p m c cX7_toldOf 5 s ([.ref (ad 141), .ref (ad (p_ + 108)), .int x2] : List Value).toArray lwA RX7 := C
  unfold qX7_toldOf at hf
  refine lv_iload_n C.1 C.2.1 dX7_toldOf_0 rfl (lv_at hl 2 rfl) ?_
  refine lv_iconst (v := 2) C.1 C.2.1 dX7_toldOf_1 (by decide) ?_
  refine lv_icmp_ge (tgt := 24) C.1 C.2.1 dX7_toldOf_2 (by decide) (fun c21 => ?_) (fun c21 => ?_)
  · rw [if_pos c21] at hf
    refine lv_iload_n C.1 C.2.1 dX7_toldOf_24 rfl (lv_at hl 2 rfl) ?_
    refine lv_iconst (v := 2) C.1 C.2.1 dX7_toldOf_25 (by decide) ?_
    refine lv_icmp_ne (tgt := 35) C.1 C.2.1 dX7_toldOf_26 (by decide) (fun c22 => ?_) (fun c22 => ?_)
    · rw [if_neg c22] at hf
      refine lv_iconst (v := 0) C.1 C.2.1 dX7_toldOf_35 (by decide) ?_
      refine lv_istore_n (lv' := [(3, .int (0 : Int32)), (0, .ref (ad 141)), (1, .ref (ad (p_ + 108))), (2, .int x2)]) C.1 C.2.1 dX7_toldOf_36 rfl hl (by decide) rfl (fun ls hl => ?_)
      refine lv_iconst (v := 0) C.1 C.2.1 dX7_toldOf_37 (by decide) ?_
      refine lv_istore (lv' := [(4, .int (0 : Int32)), (3, .int (0 : Int32)), (0, .ref (ad 141)), (1, .ref (ad (p_ + 108))), (2, .int x2)]) C.1 C.2.1 dX7_toldOf_38 hl (by decide) rfl (fun ls hl => ?_)
      exact w_X7_toldOf_40 C hr hlk X hI hp 600 _ _ _ _ _ w (lv_sub hl [2, 3, 1, 0] rfl) hf
    · rw [if_pos c22] at hf
      refine lv_aload_n C.1 C.2.1 dX7_toldOf_29 rfl (lv_at hl 0 rfl) ?_
      refine lv_aload_n C.1 C.2.1 dX7_toldOf_30 rfl (lv_at hl 1 rfl) ?_
      obtain ⟨r24, eq23, hf⟩ := bi1_e hf
      refine x_cVi (As := [.ref (ad (p_ + 108))]) (rest := []) C X w (c_X7_gapOf hI hp eq23) mw_X7_gapOf ml_X7_161 rcv_r33 rfl hl.1 rfl (Nat.le_of_ble_eq_true rfl) ⟨⟨Nat.le_of_ble_eq_true rfl, Nat.le_of_ble_eq_true rfl⟩, Nat.le_of_ble_eq_true rfl, Nat.le_of_ble_eq_true rfl⟩ dX7_toldOf_31 (fun H locs w => ?_)
      cases hf
      exact x_iret C hr hlk w dX7_toldOf_34
  · rw [if_neg c21] at hf
    refine lv_iload_n C.1 C.2.1 dX7_toldOf_5 rfl (lv_at hl 2 rfl) ?_
    refine lv_if_ne (tgt := 16) C.1 C.2.1 dX7_toldOf_6 (by decide) (fun c25 => ?_) (fun c25 => ?_)
    · rw [if_neg c25] at hf
      refine lv_aload_n C.1 C.2.1 dX7_toldOf_16 rfl (lv_at hl 0 rfl) ?_
      refine lv_aload_n C.1 C.2.1 dX7_toldOf_17 rfl (lv_at hl 1 rfl) ?_
      refine lv_bipush (v := 15) C.1 C.2.1 dX7_toldOf_18 (by decide) ?_
      obtain ⟨r27, eq26, hf⟩ := bi1_e hf
      refine x_cVi (As := [.ref (ad (p_ + 108)), .int (15 : Int32)]) (rest := []) C X w (c_X7_sumOf hI hp eq26) mw_X7_sumOf ml_X7_158 rcv_r33 rfl hl.1 rfl (Nat.le_of_ble_eq_true rfl) ⟨⟨Nat.le_of_ble_eq_true rfl, Nat.le_of_ble_eq_true rfl⟩, Nat.le_of_ble_eq_true rfl, Nat.le_of_ble_eq_true rfl⟩ dX7_toldOf_20 (fun H locs w => ?_)
      cases hf
      exact x_iret C hr hlk w dX7_toldOf_23
    · rw [if_pos c25] at hf
      refine lv_aload_n C.1 C.2.1 dX7_toldOf_9 rfl (lv_at hl 1 rfl) ?_
      refine lv_bipush (v := 30) C.1 C.2.1 dX7_toldOf_10 (by decide) ?_
      refine x_qld (j := 30) C X w (su_same h p_ P) hp (by decide) (by decide) dX7_toldOf_12 ?_
      refine lv_goto (tgt := 23) C.1 C.2.1 dX7_toldOf_13 (by decide) ?_
      cases hf
      exact x_iret C hr hlk w dX7_toldOf_23
