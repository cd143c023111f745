def qX2_startFrom_57 (R19 : Row) (R20 : Row) : Nat → Row → Int32 → Option (Row)
  | 0, _, _ => none
  | n + 1, P, v2 =>
    (if (5 : Int32) ≤ v2 then (some P)
    else (bi1 (qX5_figureOfChild R19 R20 v2 (1 : Int32)) (fun r38 =>
    (ck (inb v2 5) (bd (upd P (0 + v2.toNatClampNeg) r38) (fun P40 =>
    (ck (inb v2 5) (bd (upd P40 (5 + v2.toNatClampNeg) (0 : Int32)) (fun P42 =>
    (ck (inb v2 5) (bd (upd P42 (10 + v2.toNatClampNeg) (0 : Int32)) (fun P44 =>
    (ck (inb v2 5) (bd (upd P44 (15 + v2.toNatClampNeg) (0 : Int32)) (fun P46 =>
    (ck (inb v2 5) (bd (upd P46 (20 + v2.toNatClampNeg) (0 : Int32)) (fun P48 =>
    (ck (inb v2 5) (bd (upd P48 (25 + v2.toNatClampNeg) (0 : Int32)) (fun P50 =>
    (qX2_startFrom_57 R19 R20 n P50 (v2 + 1)))))))))))))))))))))))
set_option maxHeartbeats 4000000 in
set_option maxRecDepth 100000 in
theorem w_X2_startFrom_57 {p : Program} {l : Launch} {e : Env} {s : State} {m : MethodId} {args : Array Value} {below : List Frame} {meth : Method} {c : Code} {E : Ev} {ad : Nat → Nat} {g : Gp} {h : Hp} {b : Nat} {P9 : Row} (C : CallFix p m c cX2_startFrom 3 s args lwA RX2) (hr : meth.sig.returnType = none) (hlk : meth.locks = false) (X : Sx E ad s) (hI : Inj ad) (hb : b < 18)  : ∀ (n : Nat), ∀ (P : Row) (v2 : Int32) (H : Heap) (locs : List Loc) (ls : Array Slot), At E ad (su h b P) g s H locs → lv_has ls 3 [(0, .ref (ad (7 * b))), (1, .ref (ad 127)), (2, .int v2)] → qX2_startFrom_57 (h 19) (h 20) n P v2 = some P9 → W p l e (RM 2 43) s m args below meth c H locs 0 0 (QV E ad (su h b P9) g below args s) (F0 m 57 ls []) := by
  intro n
  induction n with
  | zero =>
    intro P v2 H locs ls w hl hf
    cases hf
  | succ n ih =>
    intro P v2 H locs ls w hl hf
    rw [qX2_startFrom_57] at hf
    refine lv_iload_n C.1 C.2.1 dX2_startFrom_57 rfl (lv_at hl 2 rfl) ?_
    refine lv_iconst (v := 5) C.1 C.2.1 dX2_startFrom_58 (by decide) ?_
    refine lv_icmp_ge (tgt := 115) C.1 C.2.1 dX2_startFrom_59 (by decide) (fun c36 => ?_) (fun c36 => ?_)
    · rw [if_pos c36] at hf
      cases hf
      exact x_vret C hr hlk w dX2_startFrom_115
    · rw [if_neg c36] at hf
      refine lv_aload_n C.1 C.2.1 dX2_startFrom_62 rfl (lv_at hl 0 rfl) ?_
      refine gf_X2_33 C X w (su_same h b P) hb dX2_startFrom_63 ?_
      refine lv_iload_n C.1 C.2.1 dX2_startFrom_66 rfl (lv_at hl 2 rfl) ?_
      refine lv_aload_n C.1 C.2.1 dX2_startFrom_67 rfl (lv_at hl 1 rfl) ?_
      refine lv_iload_n C.1 C.2.1 dX2_startFrom_68 rfl (lv_at hl 2 rfl) ?_
      refine lv_iconst (v := 1) C.1 C.2.1 dX2_startFrom_69 (by decide) ?_
      obtain ⟨r38, eq37, hf⟩ := bi1_e hf
      refine x_cViN (As := [.int v2, .int (1 : Int32)]) (rest := [.int v2, .ref (ad (7 * b + 1))]) C X w (c_X5_figureOfChild hI (su_ne (by omega)) (su_ne (by omega)) eq37) mw_X5_figureOfChild ml_X2_66 rcv_r19 rfl hl.1 rfl (Nat.le_of_ble_eq_true rfl) ⟨⟨Nat.le_of_ble_eq_true rfl, Nat.le_of_ble_eq_true rfl⟩, Nat.le_of_ble_eq_true rfl, Nat.le_of_ble_eq_true rfl⟩ dX2_startFrom_70 (fun H locs w => ?_)
      obtain ⟨i39, hf⟩ := ck_e hf
      obtain ⟨P40, eP40, hf⟩ := bd_e hf
      refine x_pst (k := 1) (o := 0) (j := v2.toNatClampNeg) C X hI w hb (by decide) (by decide) rfl i39 rfl dX2_startFrom_73 (fun H locs w => ?_)
      replace w := at_eqP eP40 w
      refine lv_aload_n C.1 C.2.1 dX2_startFrom_74 rfl (lv_at hl 0 rfl) ?_
      refine gf_X2_37 C X w (su_same h b P40) hb dX2_startFrom_75 ?_
      refine lv_iload_n C.1 C.2.1 dX2_startFrom_78 rfl (lv_at hl 2 rfl) ?_
      refine lv_iconst (v := 0) C.1 C.2.1 dX2_startFrom_79 (by decide) ?_
      obtain ⟨i41, hf⟩ := ck_e hf
      obtain ⟨P42, eP42, hf⟩ := bd_e hf
      refine x_pst (k := 2) (o := 5) (j := v2.toNatClampNeg) C X hI w hb (by decide) (by decide) rfl i41 rfl dX2_startFrom_80 (fun H locs w => ?_)
      replace w := at_eqP eP42 w
      refine lv_aload_n C.1 C.2.1 dX2_startFrom_81 rfl (lv_at hl 0 rfl) ?_
      refine gf_X2_40 C X w (su_same h b P42) hb dX2_startFrom_82 ?_
      refine lv_iload_n C.1 C.2.1 dX2_startFrom_85 rfl (lv_at hl 2 rfl) ?_
      refine lv_iconst (v := 0) C.1 C.2.1 dX2_startFrom_86 (by decide) ?_
      obtain ⟨i43, hf⟩ := ck_e hf
      obtain ⟨P44, eP44, hf⟩ := bd_e hf
      refine x_pst (k := 3) (o := 10) (j := v2.toNatClampNeg) C X hI w hb (by decide) (by decide) rfl i43 rfl dX2_startFrom_87 (fun H locs w => ?_)
      replace w := at_eqP eP44 w
      refine lv_aload_n C.1 C.2.1 dX2_startFrom_88 rfl (lv_at hl 0 rfl) ?_
      refine gf_X2_43 C X w (su_same h b P44) hb dX2_startFrom_89 ?_
      refine lv_iload_n C.1 C.2.1 dX2_startFrom_92 rfl (lv_at hl 2 rfl) ?_
      refine lv_iconst (v := 0) C.1 C.2.1 dX2_startFrom_93 (by decide) ?_
      obtain ⟨i45, hf⟩ := ck_e hf
      obtain ⟨P46, eP46, hf⟩ := bd_e hf
      refine x_pst (k := 4) (o := 15) (j := v2.toNatClampNeg) C X hI w hb (by decide) (by decide) rfl i45 rfl dX2_startFrom_94 (fun H locs w => ?_)
      replace w := at_eqP eP46 w
      refine lv_aload_n C.1 C.2.1 dX2_startFrom_95 rfl (lv_at hl 0 rfl) ?_
      refine gf_X2_46 C X w (su_same h b P46) hb dX2_startFrom_96 ?_
      refine lv_iload_n C.1 C.2.1 dX2_startFrom_99 rfl (lv_at hl 2 rfl) ?_
      refine lv_iconst (v := 0) C.1 C.2.1 dX2_startFrom_100 (by decide) ?_
      obtain ⟨i47, hf⟩ := ck_e hf
      obtain ⟨P48, eP48, hf⟩ := bd_e hf
      refine x_pst (k := 5) (o := 20) (j := v2.toNatClampNeg) C X hI w hb (by decide) (by decide) rfl i47 rfl dX2_startFrom_101 (fun H locs w => ?_)
      replace w := at_eqP eP48 w
      refine lv_aload_n C.1 C.2.1 dX2_startFrom_102 rfl (lv_at hl 0 rfl) ?_
      refine gf_X2_49 C X w (su_same h b P48) hb dX2_startFrom_103 ?_
      refine lv_iload_n C.1 C.2.1 dX2_startFrom_106 rfl (lv_at hl 2 rfl) ?_
      refine lv_iconst (v := 0) C.1 C.2.1 dX2_startFrom_107 (by decide) ?_
      obtain ⟨i49, hf⟩ := ck_e hf
      obtain ⟨P50, eP50, hf⟩ := bd_e hf
      refine x_pst (k := 6) (o := 25) (j := v2.toNatClampNeg) C X hI w hb (by decide) (by decide) rfl i49 rfl dX2_startFrom_108 (fun H locs w => ?_)
      replace w := at_eqP eP50 w
      refine lv_iinc (v := (v2 + 1)) (lv' := [(2, .int (v2 + 1)), (0, .ref (ad (7 * b))), (1, .ref (ad 127))]) C.1 C.2.1 dX2_startFrom_109 hl (k := 2) rfl (congrArg (fun z => v2 + z) (by decide)) (by decide) rfl (fun ls hl => ?_)
      refine lv_goto (tgt := 57) C.1 C.2.1 dX2_startFrom_112 (by decide) ?_
      exact ih _ _ _ _ _ w (lv_sub hl [1, 2, 0] rfl) hf
def qX2_startFrom (R19 : Row) (R20 : Row) (P : Row) : Option (Row) :=
(bi1 (qX5_countChildren R19) (fun r22 =>
(bd (upd P 36 (((1 : Int32) <<< (r22 &&& 31)) - (1 : Int32))) (fun P23 =>
(bd (upd P23 30 (0 : Int32)) (fun P24 =>
(bd (upd P24 31 (-9 : Int32)) (fun P25 =>
(bi1 (qX5_figure R19 R20 (1 : Int32)) (fun r27 =>
(bd (upd P25 32 r27) (fun P28 =>
(bi1 (qX5_figure R19 R20 (2 : Int32)) (fun r30 =>
(bd (upd P28 33 r30) (fun P31 =>
(bi1 (qX5_figure R19 R20 (3 : Int32)) (fun r33 =>
(bd (upd P31 34 r33) (fun P34 =>
(bd (upd P34 35 (0 : Int32)) (fun P35 =>
(qX2_startFrom_57 R19 R20 600 P35 (0 : Int32))))))))))))))))))))))))
set_option maxHeartbeats 4000000 in
set_option maxRecDepth 100000 in
theorem c_X2_startFrom {l : Launch} {E : Ev} {ad : Nat → Nat} {g : Gp} {h : Hp} {b : Nat} {P : Row} {P9 : Row} (hI : Inj ad) (hb : b < 18) (hf : qX2_startFrom (h 19) (h 20) P = some P9) : CtV l yX2_startFrom cX2_startFrom 3 none 2 43 E ad g g [.ref (ad (7 * b)), .ref (ad 127)] (su h b P) (su h b P9) := by
  refine x_begin (by decide) (Nat.le_of_ble_eq_true rfl) ?_
  intro p e s m below meth c ls C hr hlk X w hl
  replace hl : lv_has ls 3 [(0, .ref (ad (7 * b))), (1, .ref (ad 127))] := hl
  replace C : CallFix p m c cX2_startFrom 3 s ([.ref (ad (7 * b)), .ref (ad 127)] : List Value).toArray lwA RX2 := C
  unfold qX2_startFrom at hf
  refine lv_aload_n C.1 C.2.1 dX2_startFrom_0 rfl (lv_at hl 0 rfl) ?_
  refine lv_iconst (v := 1) C.1 C.2.1 dX2_startFrom_1 (by decide) ?_
  refine lv_aload_n C.1 C.2.1 dX2_startFrom_2 rfl (lv_at hl 1 rfl) ?_
  obtain ⟨r22, eq21, hf⟩ := bi1_e hf
  refine x_cViN (As := []) (rest := [.int (1 : Int32), .ref (ad (7 * b))]) C X w (c_X5_countChildren hI (su_ne (by omega)) eq21) mw_X5_countChildren ml_X2_56 rcv_r19 rfl hl.1 rfl (Nat.le_of_ble_eq_true rfl) ⟨⟨Nat.le_of_ble_eq_true rfl, Nat.le_of_ble_eq_true rfl⟩, Nat.le_of_ble_eq_true rfl, Nat.le_of_ble_eq_true rfl⟩ dX2_startFrom_3 (fun H locs w => ?_)
  refine lv_ishl C.1 C.2.1 dX2_startFrom_6 ?_
  refine lv_iconst (v := 1) C.1 C.2.1 dX2_startFrom_7 (by decide) ?_
  refine lv_isub C.1 C.2.1 dX2_startFrom_8 ?_
  obtain ⟨P23, eP23, hf⟩ := bd_e hf
  refine pf_X2_9 C X hI w hb dX2_startFrom_9 (fun H locs w => ?_)
  replace w := at_eqP eP23 w
  refine lv_aload_n C.1 C.2.1 dX2_startFrom_12 rfl (lv_at hl 0 rfl) ?_
  refine lv_iconst (v := 0) C.1 C.2.1 dX2_startFrom_13 (by decide) ?_
  obtain ⟨P24, eP24, hf⟩ := bd_e hf
  refine pf_X2_15 C X hI w hb dX2_startFrom_14 (fun H locs w => ?_)
  replace w := at_eqP eP24 w
  refine lv_aload_n C.1 C.2.1 dX2_startFrom_17 rfl (lv_at hl 0 rfl) ?_
  refine lv_bipush (v := -9) C.1 C.2.1 dX2_startFrom_18 (by decide) ?_
  obtain ⟨P25, eP25, hf⟩ := bd_e hf
  refine pf_X2_18 C X hI w hb dX2_startFrom_20 (fun H locs w => ?_)
  replace w := at_eqP eP25 w
  refine lv_aload_n C.1 C.2.1 dX2_startFrom_23 rfl (lv_at hl 0 rfl) ?_
  refine lv_aload_n C.1 C.2.1 dX2_startFrom_24 rfl (lv_at hl 1 rfl) ?_
  refine lv_iconst (v := 1) C.1 C.2.1 dX2_startFrom_25 (by decide) ?_
  obtain ⟨r27, eq26, hf⟩ := bi1_e hf
  refine x_cViN (As := [.int (1 : Int32)]) (rest := [.ref (ad (7 * b))]) C X w (c_X5_figure hI (su_ne (by omega)) (su_ne (by omega)) eq26) mw_X5_figure ml_X2_62 rcv_r19 rfl hl.1 rfl (Nat.le_of_ble_eq_true rfl) ⟨⟨Nat.le_of_ble_eq_true rfl, Nat.le_of_ble_eq_true rfl⟩, Nat.le_of_ble_eq_true rfl, Nat.le_of_ble_eq_true rfl⟩ dX2_startFrom_26 (fun H locs w => ?_)
  obtain ⟨P28, eP28, hf⟩ := bd_e hf
  refine pf_X2_21 C X hI w hb dX2_startFrom_29 (fun H locs w => ?_)
  replace w := at_eqP eP28 w
  refine lv_aload_n C.1 C.2.1 dX2_startFrom_32 rfl (lv_at hl 0 rfl) ?_
  refine lv_aload_n C.1 C.2.1 dX2_startFrom_33 rfl (lv_at hl 1 rfl) ?_
  refine lv_iconst (v := 2) C.1 C.2.1 dX2_startFrom_34 (by decide) ?_
  obtain ⟨r30, eq29, hf⟩ := bi1_e hf
  refine x_cViN (As := [.int (2 : Int32)]) (rest := [.ref (ad (7 * b))]) C X w (c_X5_figure hI (su_ne (by omega)) (su_ne (by omega)) eq29) mw_X5_figure ml_X2_62 rcv_r19 rfl hl.1 rfl (Nat.le_of_ble_eq_true rfl) ⟨⟨Nat.le_of_ble_eq_true rfl, Nat.le_of_ble_eq_true rfl⟩, Nat.le_of_ble_eq_true rfl, Nat.le_of_ble_eq_true rfl⟩ dX2_startFrom_35 (fun H locs w => ?_)
  obtain ⟨P31, eP31, hf⟩ := bd_e hf
  refine pf_X2_24 C X hI w hb dX2_startFrom_38 (fun H locs w => ?_)
  replace w := at_eqP eP31 w
  refine lv_aload_n C.1 C.2.1 dX2_startFrom_41 rfl (lv_at hl 0 rfl) ?_
  refine lv_aload_n C.1 C.2.1 dX2_startFrom_42 rfl (lv_at hl 1 rfl) ?_
  refine lv_iconst (v := 3) C.1 C.2.1 dX2_startFrom_43 (by decide) ?_
  obtain ⟨r33, eq32, hf⟩ := bi1_e hf
  refine x_cViN (As := [.int (3 : Int32)]) (rest := [.ref (ad (7 * b))]) C X w (c_X5_figure hI (su_ne (by omega)) (su_ne (by omega)) eq32) mw_X5_figure ml_X2_62 rcv_r19 rfl hl.1 rfl (Nat.le_of_ble_eq_true rfl) ⟨⟨Nat.le_of_ble_eq_true rfl, Nat.le_of_ble_eq_true rfl⟩, Nat.le_of_ble_eq_true rfl, Nat.le_of_ble_eq_true rfl⟩ dX2_startFrom_44 (fun H locs w => ?_)
  obtain ⟨P34, eP34, hf⟩ := bd_e hf
  refine pf_X2_27 C X hI w hb dX2_startFrom_47 (fun H locs w => ?_)
  replace w := at_eqP eP34 w
  refine lv_aload_n C.1 C.2.1 dX2_startFrom_50 rfl (lv_at hl 0 rfl) ?_
  refine lv_iconst (v := 0) C.1 C.2.1 dX2_startFrom_51 (by decide) ?_
  obtain ⟨P35, eP35, hf⟩ := bd_e hf
  refine pf_X2_30 C X hI w hb dX2_startFrom_52 (fun H locs w => ?_)
  replace w := at_eqP eP35 w
  refine lv_iconst (v := 0) C.1 C.2.1 dX2_startFrom_55 (by decide) ?_
  refine lv_istore_n (lv' := [(2, .int (0 : Int32)), (0, .ref (ad (7 * b))), (1, .ref (ad 127))]) C.1 C.2.1 dX2_startFrom_56 rfl hl (by decide) rfl (fun ls hl => ?_)
  exact w_X2_startFrom_57 C hr hlk X hI hb 600 _ _ _ _ _ w (lv_sub hl [1, 2, 0] rfl) hf

def qX2_wanting_25 (P : Row) (k4 : Int32 → Int32 → Option (Int32)) (v1 : Int32) (v2 : Int32) : Option (Int32) :=
(k4 v1 (v2 + 1))
set_option maxHeartbeats 4000000 in
set_option maxRecDepth 100000 in
theorem w_X2_wanting_25 {p : Program} {l : Launch} {e : Env} {s : State} {m : MethodId} {args : Array Value} {below : List Frame} {meth : Method} {c : Code} {E : Ev} {ad : Nat → Nat} {g : Gp} {h : Hp} {P : Row} {b : Nat} {r : Int32} {k4 : Int32 → Int32 → Option (Int32)} (C : CallFix p m c cX2_wanting 3 s args lwA RX2) (hr : meth.sig.returnType = (some .int)) (hlk : meth.locks = false) (X : Sx E ad s) (hI : Inj ad) (hb : b < 18) (hk4 : ∀ (v1 : Int32) (v2 : Int32) (H : Heap) (locs : List Loc) (ls : Array Slot), At E ad (su h b P) g s H locs → lv_has ls 3 [(0, .ref (ad (7 * b))), (1, .int v1), (2, .int v2)] → k4  v1 v2 = some r → W p l e (RM 0 0) s m args below meth c H locs 0 0 (QI E ad (su h b P) g r below args s) (F0 m 4 ls [])) : ∀ (v1 : Int32) (v2 : Int32) (H : Heap) (locs : List Loc) (ls : Array Slot), At E ad (su h b P) g s H locs → lv_has ls 3 [(0, .ref (ad (7 * b))), (1, .int v1), (2, .int v2)] → qX2_wanting_25 P k4 v1 v2 = some r → W p l e (RM 0 0) s m args below meth c H locs 0 0 (QI E ad (su h b P) g r below args s) (F0 m 25 ls []) := by
  intro v1 v2 H locs ls w hl hf
  unfold qX2_wanting_25 at hf
  refine lv_iinc (v := (v2 + 1)) (lv' := [(2, .int (v2 + 1)), (0, .ref (ad (7 * b))), (1, .int v1)]) C.1 C.2.1 dX2_wanting_25 hl (k := 2) rfl (congrArg (fun z => v2 + z) (by decide)) (by decide) rfl (fun ls hl => ?_)
  refine lv_goto (tgt := 4) C.1 C.2.1 dX2_wanting_28 (by decide) ?_
  exact hk4 _ _ _ _ _ w (lv_sub hl [1, 2, 0] rfl) hf
def qX2_wanting_4 (P : Row) : Nat → Int32 → Int32 → Option (Int32)
  | 0, _, _ => none
  | n + 1, v1, v2 =>
    (if (5 : Int32) ≤ v2 then (some ((v1 &&& (P 36)) &&& ((P 30) ^^^ (-1 : Int32))))
    else (ck (inb v2 5) ((if (P (0 + v2.toNatClampNeg)) < (5 : Int32) then (qX2_wanting_25 P (qX2_wanting_4 P n) v1 v2)
    else (qX2_wanting_25 P (qX2_wanting_4 P n) (v1 ||| ((1 : Int32) <<< (v2 &&& 31))) v2)))))
set_option maxHeartbeats 4000000 in
set_option maxRecDepth 100000 in
theorem w_X2_wanting_4 {p : Program} {l : Launch} {e : Env} {s : State} {m : MethodId} {args : Array Value} {below : List Frame} {meth : Method} {c : Code} {E : Ev} {ad : Nat → Nat} {g : Gp} {h : Hp} {P : Row} {b : Nat} {r : Int32} (C : CallFix p m c cX2_wanting 3 s args lwA RX2) (hr : meth.sig.returnType = (some .int)) (hlk : meth.locks = false) (X : Sx E ad s) (hI : Inj ad) (hb : b < 18)  : ∀ (n : Nat), ∀ (v1 : Int32) (v2 : Int32) (H : Heap) (locs : List Loc) (ls : Array Slot), At E ad (su h b P) g s H locs → lv_has ls 3 [(0, .ref (ad (7 * b))), (1, .int v1), (2, .int v2)] → qX2_wanting_4 P n v1 v2 = some r → W p l e (RM 0 0) s m args below meth c H locs 0 0 (QI E ad (su h b P) g r below args s) (F0 m 4 ls []) := by
  intro n
  induction n with
  | zero =>
    intro v1 v2 H locs ls w hl hf
    cases hf
  | succ n ih =>
    intro v1 v2 H locs ls w hl hf
    rw [qX2_wanting_4] at hf
    refine lv_iload_n C.1 C.2.1 dX2_wanting_4 rfl (lv_at hl 2 rfl) ?_
    refine lv_iconst (v := 5) C.1 C.2.1 dX2_wanting_5 (by decide) ?_
    refine lv_icmp_ge (tgt := 31) C.1 C.2.1 dX2_wanting_6 (by decide) (fun c21 => ?_) (fun c21 => ?_)
    · rw [if_pos c21] at hf
      refine lv_iload_n C.1 C.2.1 dX2_wanting_31 rfl (lv_at hl 1 rfl) ?_
      refine lv_aload_n C.1 C.2.1 dX2_wanting_32 rfl (lv_at hl 0 rfl) ?_
      refine gf_X2_9 C X w (su_same h b P) hb dX2_wanting_33 ?_
      refine lv_iand C.1 C.2.1 dX2_wanting_36 ?_
      refine lv_aload_n C.1 C.2.1 dX2_wanting_37 rfl (lv_at hl 0 rfl) ?_
      refine gf_X2_15 C X w (su_same h b P) hb dX2_wanting_38 ?_
      refine lv_iconst (v := -1) C.1 C.2.1 dX2_wanting_41 (by decide) ?_
      refine lv_ixor C.1 C.2.1 dX2_wanting_42 ?_
      refine lv_iand C.1 C.2.1 dX2_wanting_43 ?_
      cases hf
      exact x_iret C hr hlk w dX2_wanting_44
    · rw [if_neg c21] at hf
      refine lv_aload_n C.1 C.2.1 dX2_wanting_9 rfl (lv_at hl 0 rfl) ?_
      refine gf_X2_33 C X w (su_same h b P) hb dX2_wanting_10 ?_
      refine lv_iload_n C.1 C.2.1 dX2_wanting_13 rfl (lv_at hl 2 rfl) ?_
      obtain ⟨i22, hf⟩ := ck_e hf
      refine x_pld (b := b) (k := 1) (o := 0) (j := v2.toNatClampNeg) C X w (su_same h b P) hb (by decide) (by decide) rfl i22 rfl dX2_wanting_14 ?_
      refine lv_iconst (v := 5) C.1 C.2.1 dX2_wanting_15 (by decide) ?_
      refine lv_icmp_lt (tgt := 25) C.1 C.2.1 dX2_wanting_16 (by decide) (fun c23 => ?_) (fun c23 => ?_)
      · rw [if_pos c23] at hf
        exact w_X2_wanting_25 C hr hlk X hI hb ih _ _ _ _ _ w (lv_sub hl [0, 1, 2] rfl) hf
      · rw [if_neg c23] at hf
        refine lv_iload_n C.1 C.2.1 dX2_wanting_19 rfl (lv_at hl 1 rfl) ?_
        refine lv_iconst (v := 1) C.1 C.2.1 dX2_wanting_20 (by decide) ?_
        refine lv_iload_n C.1 C.2.1 dX2_wanting_21 rfl (lv_at hl 2 rfl) ?_
        refine lv_ishl C.1 C.2.1 dX2_wanting_22 ?_
        refine lv_ior C.1 C.2.1 dX2_wanting_23 ?_
        refine lv_istore_n (lv' := [(1, .int (v1 ||| ((1 : Int32) <<< (v2 &&& 31)))), (0, .ref (ad (7 * b))), (2, .int v2)]) C.1 C.2.1 dX2_wanting_24 rfl hl (by decide) rfl (fun ls hl => ?_)
        exact w_X2_wanting_25 C hr hlk X hI hb ih _ _ _ _ _ w (lv_sub hl [1, 0, 2] rfl) hf
def qX2_wanting (P : Row) : Option (Int32) :=
(qX2_wanting_4 P 600 (0 : Int32) (0 : Int32))
set_option maxHeartbeats 4000000 in
set_option maxRecDepth 100000 in
theorem c_X2_wanting {l : Launch} {E : Ev} {ad : Nat → Nat} {g : Gp} {h : Hp} {b : Nat} {P : Row} {r : Int32} (hI : Inj ad) (hb : b < 18) (hf : qX2_wanting P = some r) : CtI l yX2_wanting cX2_wanting 3 (some .int) 0 0 E ad g g [.ref (ad (7 * b))] (su h b P) (su h b P) r := by
  refine x_begin (by decide) (Nat.le_of_ble_eq_true rfl) ?_
  intro p e s m below meth c ls C hr hlk X w hl
  replace hl : lv_has ls 3 [(0, .ref (ad (7 * b)))] := hl
  replace C : CallFix p m c cX2_wanting 3 s ([.ref (ad (7 * b))] : List Value).toArray lwA RX2 := C
  unfold qX2_wanting at hf
  refine lv_iconst (v := 0) C.1 C.2.1 dX2_wanting_0 (by decide) ?_
  refine lv_istore_n (lv' := [(1, .int (0 : Int32)), (0, .ref (ad (7 * b)))]) C.1 C.2.1 dX2_wanting_1 rfl hl (by decide) rfl (fun ls hl => ?_)
  refine lv_iconst (v := 0) C.1 C.2.1 dX2_wanting_2 (by decide) ?_
  refine lv_istore_n (lv' := [(2, .int (0 : Int32)), (1, .int (0 : Int32)), (0, .ref (ad (7 * b)))]) C.1 C.2.1 dX2_wanting_3 rfl hl (by decide) rfl (fun ls hl => ?_)
  exact w_X2_wanting_4 C hr hlk X hI hb 600 _ _ _ _ _ w (lv_sub hl [2, 1, 0] rfl) hf

def qX2_asking_41 (R23 : Row) (P : Row) (k7 : Int32 → Int32 → Option (Int32)) (v1 : Int32) (v2 : Int32) : Option (Int32) :=
(k7 v1 (v2 + 1))
set_option maxHeartbeats 4000000 in
set_option maxRecDepth 100000 in
theorem w_X2_asking_41 {p : Program} {l : Launch} {e : Env} {s : State} {m : MethodId} {args : Array Value} {below : List Frame} {meth : Method} {c : Code} {E : Ev} {ad : Nat → Nat} {g : Gp} {h : Hp} {P : Row} {b : Nat} {r : Int32} {k7 : Int32 → Int32 → Option (Int32)} (C : CallFix p m c cX2_asking 3 s args lwA RX2) (hr : meth.sig.returnType = (some .int)) (hlk : meth.locks = false) (X : Sx E ad s) (hI : Inj ad) (hb : b < 18) (hk7 : ∀ (v1 : Int32) (v2 : Int32) (H : Heap) (locs : List Loc) (ls : Array Slot), At E ad (su h b P) g s H locs → lv_has ls 3 [(0, .ref (ad (7 * b))), (1, .int v1), (2, .int v2)] → k7  v1 v2 = some r → W p l e (RM 1 22) s m args below meth c H locs 0 0 (QI E ad (su h b P) g r below args s) (F0 m 7 ls [])) : ∀ (v1 : Int32) (v2 : Int32) (H : Heap) (locs : List Loc) (ls : Array Slot), At E ad (su h b P) g s H locs → lv_has ls 3 [(0, .ref (ad (7 * b))), (1, .int v1), (2, .int v2)] → qX2_asking_41 (h 23) P k7 v1 v2 = some r → W p l e (RM 1 22) s m args below meth c H locs 0 0 (QI E ad (su h b P) g r below args s) (F0 m 41 ls []) := by
  intro v1 v2 H locs ls w hl hf
  unfold qX2_asking_41 at hf
  refine lv_iinc (v := (v2 + 1)) (lv' := [(2, .int (v2 + 1)), (0, .ref (ad (7 * b))), (1, .int v1)]) C.1 C.2.1 dX2_asking_41 hl (k := 2) rfl (congrArg (fun z => v2 + z) (by decide)) (by decide) rfl (fun ls hl => ?_)
  refine lv_goto (tgt := 7) C.1 C.2.1 dX2_asking_44 (by decide) ?_
  exact hk7 _ _ _ _ _ w (lv_sub hl [1, 2, 0] rfl) hf
def qX2_asking_7 (R23 : Row) (P : Row) : Nat → Int32 → Int32 → Option (Int32)
  | 0, _, _ => none
  | n + 1, v1, v2 =>
    (if (5 : Int32) ≤ v2 then (some v1)
    else (if (P 32) = (3 : Int32) then (qX2_asking_41 R23 P (qX2_asking_7 R23 P n) v1 v2)
    else (ck (inb v2 5) ((if (R23 v2.toNatClampNeg) = (2 : Int32) then (qX2_asking_41 R23 P (qX2_asking_7 R23 P n) (v1 &&& (((1 : Int32) <<< (v2 &&& 31)) ^^^ (-1 : Int32))) v2)
    else (qX2_asking_41 R23 P (qX2_asking_7 R23 P n) v1 v2))))))
set_option maxHeartbeats 4000000 in
set_option maxRecDepth 100000 in
theorem w_X2_asking_7 {p : Program} {l : Launch} {e : Env} {s : State} {m : MethodId} {args : Array Value} {below : List Frame} {meth : Method} {c : Code} {E : Ev} {ad : Nat → Nat} {g : Gp} {h : Hp} {P : Row} {b : Nat} {r : Int32} (C : CallFix p m c cX2_asking 3 s args lwA RX2) (hr : meth.sig.returnType = (some .int)) (hlk : meth.locks = false) (X : Sx E ad s) (hI : Inj ad) (hb : b < 18)  : ∀ (n : Nat), ∀ (v1 : Int32) (v2 : Int32) (H : Heap) (locs : List Loc) (ls : Array Slot), At E ad (su h b P) g s H locs → lv_has ls 3 [(0, .ref (ad (7 * b))), (1, .int v1), (2, .int v2)] → qX2_asking_7 (h 23) P n v1 v2 = some r → W p l e (RM 1 22) s m args below meth c H locs 0 0 (QI E ad (su h b P) g r below args s) (F0 m 7 ls []) := by
  intro n
  induction n with
  | zero =>
    intro v1 v2 H locs ls w hl hf
    cases hf
  | succ n ih =>
    intro v1 v2 H locs ls w hl hf
    rw [qX2_asking_7] at hf
    refine lv_iload_n C.1 C.2.1 dX2_asking_7 rfl (lv_at hl 2 rfl) ?_
    refine lv_iconst (v := 5) C.1 C.2.1 dX2_asking_8 (by decide) ?_
    refine lv_icmp_ge (tgt := 47) C.1 C.2.1 dX2_asking_9 (by decide) (fun c23 => ?_) (fun c23 => ?_)
    · rw [if_pos c23] at hf
      refine lv_iload_n C.1 C.2.1 dX2_asking_47 rfl (lv_at hl 1 rfl) ?_
      cases hf
      exact x_iret C hr hlk w dX2_asking_48
    · rw [if_neg c23] at hf
      refine lv_aload_n C.1 C.2.1 dX2_asking_12 rfl (lv_at hl 0 rfl) ?_
      refine gf_X2_21 C X w (su_same h b P) hb dX2_asking_13 ?_
      refine lv_iconst (v := 3) C.1 C.2.1 dX2_asking_16 (by decide) ?_
      refine lv_icmp_eq (tgt := 41) C.1 C.2.1 dX2_asking_17 (by decide) (fun c24 => ?_) (fun c24 => ?_)
      · rw [if_pos c24] at hf
        exact w_X2_asking_41 C hr hlk X hI hb ih _ _ _ _ _ w (lv_sub hl [0, 1, 2] rfl) hf
      · rw [if_neg c24] at hf
        refine lv_aload_n C.1 C.2.1 dX2_asking_20 rfl (lv_at hl 0 rfl) ?_
        refine gf_X2_52 C X w (su_same h b P) hb dX2_asking_21 ?_
        refine gf_X2_77 C X w rfl dX2_asking_24 ?_
        refine lv_iload_n C.1 C.2.1 dX2_asking_27 rfl (lv_at hl 2 rfl) ?_
        obtain ⟨i25, hf⟩ := ck_e hf
        refine x_ild (v := (h 23) v2.toNatClampNeg) C X w (wl_r23 (su_ne (by omega))) i25 (rfl) dX2_asking_28 ?_
        refine lv_iconst (v := 2) C.1 C.2.1 dX2_asking_29 (by decide) ?_
        refine lv_icmp_ne (tgt := 41) C.1 C.2.1 dX2_asking_30 (by decide) (fun c26 => ?_) (fun c26 => ?_)
        · rw [if_neg c26] at hf
          exact w_X2_asking_41 C hr hlk X hI hb ih _ _ _ _ _ w (lv_sub hl [0, 1, 2] rfl) hf
        · rw [if_pos c26] at hf
          refine lv_iload_n C.1 C.2.1 dX2_asking_33 rfl (lv_at hl 1 rfl) ?_
          refine lv_iconst (v := 1) C.1 C.2.1 dX2_asking_34 (by decide) ?_
          refine lv_iload_n C.1 C.2.1 dX2_asking_35 rfl (lv_at hl 2 rfl) ?_
          refine lv_ishl C.1 C.2.1 dX2_asking_36 ?_
          refine lv_iconst (v := -1) C.1 C.2.1 dX2_asking_37 (by decide) ?_
          refine lv_ixor C.1 C.2.1 dX2_asking_38 ?_
          refine lv_iand C.1 C.2.1 dX2_asking_39 ?_
          refine lv_istore_n (lv' := [(1, .int (v1 &&& (((1 : Int32) <<< (v2 &&& 31)) ^^^ (-1 : Int32)))), (0, .ref (ad (7 * b))), (2, .int v2)]) C.1 C.2.1 dX2_asking_40 rfl hl (by decide) rfl (fun ls hl => ?_)
          exact w_X2_asking_41 C hr hlk X hI hb ih _ _ _ _ _ w (lv_sub hl [1, 0, 2] rfl) hf
def qX2_asking (R23 : Row) (P : Row) : Option (Int32) :=
(bi1 (qX2_wanting P) (fun r22 =>
(qX2_asking_7 R23 P 600 r22 (0 : Int32))))
set_option maxHeartbeats 4000000 in
set_option maxRecDepth 100000 in
theorem c_X2_asking {l : Launch} {E : Ev} {ad : Nat → Nat} {g : Gp} {h : Hp} {b : Nat} {P : Row} {r : Int32} (hI : Inj ad) (hb : b < 18) (hf : qX2_asking (h 23) P = some r) : CtI l yX2_asking cX2_asking 3 (some .int) 1 22 E ad g g [.ref (ad (7 * b))] (su h b P) (su h b P) r := by
  refine x_begin (by decide) (Nat.le_of_ble_eq_true rfl) ?_
  intro p e s m below meth c ls C hr hlk X w hl
  replace hl : lv_has ls 3 [(0, .ref (ad (7 * b)))] := hl
  replace C : CallFix p m c cX2_asking 3 s ([.ref (ad (7 * b))] : List Value).toArray lwA RX2 := C
  unfold qX2_asking at hf
  refine lv_aload_n C.1 C.2.1 dX2_asking_0 rfl (lv_at hl 0 rfl) ?_
  obtain ⟨r22, eq21, hf⟩ := bi1_e hf
  refine x_cVi (As := []) (rest := []) C X w (c_X2_wanting hI hb eq21) mw_X2_wanting ml_X2_74 (rcv_P (su_same _ _ _) hb) rfl hl.1 rfl (Nat.le_of_ble_eq_true rfl) ⟨⟨Nat.le_of_ble_eq_true rfl, Nat.le_of_ble_eq_true rfl⟩, Nat.le_of_ble_eq_true rfl, Nat.le_of_ble_eq_true rfl⟩ dX2_asking_1 (fun H locs w => ?_)
  refine lv_istore_n (lv' := [(1, .int r22), (0, .ref (ad (7 * b)))]) C.1 C.2.1 dX2_asking_4 rfl hl (by decide) rfl (fun ls hl => ?_)
  refine lv_iconst (v := 0) C.1 C.2.1 dX2_asking_5 (by decide) ?_
  refine lv_istore_n (lv' := [(2, .int (0 : Int32)), (1, .int r22), (0, .ref (ad (7 * b)))]) C.1 C.2.1 dX2_asking_6 rfl hl (by decide) rfl (fun ls hl => ?_)
  exact w_X2_asking_7 C hr hlk X hI hb 600 _ _ _ _ _ w (lv_sub hl [2, 1, 0] rfl) hf

def qX2_comesAhead (R22 : Row) (R23 : Row) (P : Row) (x1 : Int32) (x2 : Int32) : Option (Int32) :=
(if (P 32) = 0 then (bi1 (qX1_might R22 R23 x1) (fun r23 =>
(bi1 (qX1_might R22 R23 x2) (fun r25 =>
(if r23 ≤ r25 then (some (0 : Int32))
else (some (1 : Int32)))))))
else (if (P 32) = 1 then (ck (inb x1 5) ((ck (inb x2 5) ((if (P (10 + x2.toNatClampNeg)) ≤ (P (10 + x1.toNatClampNeg)) then (some (0 : Int32))
else (some (1 : Int32)))))))
else (if (P 32) = 2 then (ck (inb x1 5) ((ck (inb x2 5) ((if (P (20 + x1.toNatClampNeg)) ≤ (P (20 + x2.toNatClampNeg)) then (some (0 : Int32))
else (some (1 : Int32)))))))
else (some (0 : Int32)))))
set_option maxHeartbeats 4000000 in
set_option maxRecDepth 100000 in
theorem c_X2_comesAhead {l : Launch} {E : Ev} {ad : Nat → Nat} {g : Gp} {h : Hp} {b : Nat} {P : Row} {x1 : Int32} {x2 : Int32} {r : Int32} (hI : Inj ad) (hb : b < 18) (hf : qX2_comesAhead (h 22) (h 23) P x1 x2 = some r) : CtI l yX2_comesAhead cX2_comesAhead 3 (some .boolean) 1 21 E ad g g [.ref (ad (7 * b)), .int x1, .int x2] (su h b P) (su h b P) r := by
  refine x_begin (by decide) (Nat.le_of_ble_eq_true rfl) ?_
  intro p e s m below meth c ls C hr hlk X w hl
  replace hl : lv_has ls 3 [(0, .ref (ad (7 * b))), (1, .int x1), (2, .int x2)] := hl
  replace C : CallFix p m c cX2_comesAhead 3 s ([.ref (ad (7 * b)), .int x1, .int x2] : List Value).toArray lwA RX2 := C
  unfold qX2_comesAhead at hf
  refine lv_aload_n C.1 C.2.1 dX2_comesAhead_0 rfl (lv_at hl 0 rfl) ?_
  refine gf_X2_21 C X w (su_same h b P) hb dX2_comesAhead_1 ?_
  by_cases c21 : (P 32) = 0
  · rw [if_pos c21] at hf
    refine lv_tableIn (off := 28) (tgt := 32) C.1 C.2.1 dX2_comesAhead_4 (by rw [c21]; decide) (by rw [c21]; decide) (by rw [c21]; rfl) (by decide) ?_
    refine lv_aload_n C.1 C.2.1 dX2_comesAhead_32 rfl (lv_at hl 0 rfl) ?_
    refine gf_X2_52 C X w (su_same h b P) hb dX2_comesAhead_33 ?_
    refine lv_iload_n C.1 C.2.1 dX2_comesAhead_36 rfl (lv_at hl 1 rfl) ?_
    obtain ⟨r23, eq22, hf⟩ := bi1_e hf
    refine x_cViN (As := [.int x1]) (rest := []) C X w (c_X1_might hI (su_ne (by omega)) (su_ne (by omega)) eq22) mw_X1_might ml_X2_88 rcv_r21 rfl hl.1 rfl (Nat.le_of_ble_eq_true rfl) ⟨⟨Nat.le_of_ble_eq_true rfl, Nat.le_of_ble_eq_true rfl⟩, Nat.le_of_ble_eq_true rfl, Nat.le_of_ble_eq_true rfl⟩ dX2_comesAhead_37 (fun H locs w => ?_)
    refine lv_aload_n C.1 C.2.1 dX2_comesAhead_40 rfl (lv_at hl 0 rfl) ?_
    refine gf_X2_52 C X w (su_same h b P) hb dX2_comesAhead_41 ?_
    refine lv_iload_n C.1 C.2.1 dX2_comesAhead_44 rfl (lv_at hl 2 rfl) ?_
    obtain ⟨r25, eq24, hf⟩ := bi1_e hf
    refine x_cViN (As := [.int x2]) (rest := [.int r23]) C X w (c_X1_might hI (su_ne (by omega)) (su_ne (by omega)) eq24) mw_X1_might ml_X2_88 rcv_r21 rfl hl.1 rfl (Nat.le_of_ble_eq_true rfl) ⟨⟨Nat.le_of_ble_eq_true rfl, Nat.le_of_ble_eq_true rfl⟩, Nat.le_of_ble_eq_true rfl, Nat.le_of_ble_eq_true rfl⟩ dX2_comesAhead_45 (fun H locs w => ?_)
    refine lv_icmp_le (tgt := 55) C.1 C.2.1 dX2_comesAhead_48 (by decide) (fun c26 => ?_) (fun c26 => ?_)
    · rw [if_pos c26] at hf
      refine lv_iconst (v := 0) C.1 C.2.1 dX2_comesAhead_55 (by decide) ?_
      cases hf
      exact x_zret C hr hlk w rfl dX2_comesAhead_56
    · rw [if_neg c26] at hf
      refine lv_iconst (v := 1) C.1 C.2.1 dX2_comesAhead_51 (by decide) ?_
      refine lv_goto (tgt := 56) C.1 C.2.1 dX2_comesAhead_52 (by decide) ?_
      cases hf
      exact x_zret C hr hlk w rfl dX2_comesAhead_56
  · rw [if_neg c21] at hf
    by_cases c27 : (P 32) = 1
    · rw [if_pos c27] at hf
      refine lv_tableIn (off := 53) (tgt := 57) C.1 C.2.1 dX2_comesAhead_4 (by rw [c27]; decide) (by rw [c27]; decide) (by rw [c27]; rfl) (by decide) ?_
      refine lv_aload_n C.1 C.2.1 dX2_comesAhead_57 rfl (lv_at hl 0 rfl) ?_
      refine gf_X2_40 C X w (su_same h b P) hb dX2_comesAhead_58 ?_
      refine lv_iload_n C.1 C.2.1 dX2_comesAhead_61 rfl (lv_at hl 1 rfl) ?_
      obtain ⟨i28, hf⟩ := ck_e hf
      refine x_pld (b := b) (k := 3) (o := 10) (j := x1.toNatClampNeg) C X w (su_same h b P) hb (by decide) (by decide) rfl i28 rfl dX2_comesAhead_62 ?_
      refine lv_aload_n C.1 C.2.1 dX2_comesAhead_63 rfl (lv_at hl 0 rfl) ?_
      refine gf_X2_40 C X w (su_same h b P) hb dX2_comesAhead_64 ?_
      refine lv_iload_n C.1 C.2.1 dX2_comesAhead_67 rfl (lv_at hl 2 rfl) ?_
      obtain ⟨i29, hf⟩ := ck_e hf
      refine x_pld (b := b) (k := 3) (o := 10) (j := x2.toNatClampNeg) C X w (su_same h b P) hb (by decide) (by decide) rfl i29 rfl dX2_comesAhead_68 ?_
      refine lv_icmp_ge (tgt := 76) C.1 C.2.1 dX2_comesAhead_69 (by decide) (fun c30 => ?_) (fun c30 => ?_)
      · rw [if_pos c30] at hf
        refine lv_iconst (v := 0) C.1 C.2.1 dX2_comesAhead_76 (by decide) ?_
        cases hf
        exact x_zret C hr hlk w rfl dX2_comesAhead_77
      · rw [if_neg c30] at hf
        refine lv_iconst (v := 1) C.1 C.2.1 dX2_comesAhead_72 (by decide) ?_
        refine lv_goto (tgt := 77) C.1 C.2.1 dX2_comesAhead_73 (by decide) ?_
        cases hf
        exact x_zret C hr hlk w rfl dX2_comesAhead_77
    · rw [if_neg c27] at hf
      by_cases c31 : (P 32) = 2
      · rw [if_pos c31] at hf
        refine lv_tableIn (off := 74) (tgt := 78) C.1 C.2.1 dX2_comesAhead_4 (by rw [c31]; decide) (by rw [c31]; decide) (by rw [c31]; rfl) (by decide) ?_
        refine lv_aload_n C.1 C.2.1 dX2_comesAhead_78 rfl (lv_at hl 0 rfl) ?_
        refine gf_X2_46 C X w (su_same h b P) hb dX2_comesAhead_79 ?_
        refine lv_iload_n C.1 C.2.1 dX2_comesAhead_82 rfl (lv_at hl 1 rfl) ?_
        obtain ⟨i32, hf⟩ := ck_e hf
        refine x_pld (b := b) (k := 5) (o := 20) (j := x1.toNatClampNeg) C X w (su_same h b P) hb (by decide) (by decide) rfl i32 rfl dX2_comesAhead_83 ?_
        refine lv_aload_n C.1 C.2.1 dX2_comesAhead_84 rfl (lv_at hl 0 rfl) ?_
        refine gf_X2_46 C X w (su_same h b P) hb dX2_comesAhead_85 ?_
        refine lv_iload_n C.1 C.2.1 dX2_comesAhead_88 rfl (lv_at hl 2 rfl) ?_
        obtain ⟨i33, hf⟩ := ck_e hf
        refine x_pld (b := b) (k := 5) (o := 20) (j := x2.toNatClampNeg) C X w (su_same h b P) hb (by decide) (by decide) rfl i33 rfl dX2_comesAhead_89 ?_
        refine lv_icmp_le (tgt := 97) C.1 C.2.1 dX2_comesAhead_90 (by decide) (fun c34 => ?_) (fun c34 => ?_)
        · rw [if_pos c34] at hf
          refine lv_iconst (v := 0) C.1 C.2.1 dX2_comesAhead_97 (by decide) ?_
          cases hf
          exact x_zret C hr hlk w rfl dX2_comesAhead_98
        · rw [if_neg c34] at hf
          refine lv_iconst (v := 1) C.1 C.2.1 dX2_comesAhead_93 (by decide) ?_
          refine lv_goto (tgt := 98) C.1 C.2.1 dX2_comesAhead_94 (by decide) ?_
          cases hf
          exact x_zret C hr hlk w rfl dX2_comesAhead_98
      · rw [if_neg c31] at hf
        have c21n := ti_ne c21 (show (0 : Int32).toInt = 0 by decide)
        have c27n := ti_ne c27 (show (1 : Int32).toInt = 1 by decide)
        have c31n := ti_ne c31 (show (2 : Int32).toInt = 2 by decide)
        refine lv_tableOut (tgt := 99) C.1 C.2.1 dX2_comesAhead_4 (by omega) (by decide) ?_
        refine lv_iconst (v := 0) C.1 C.2.1 dX2_comesAhead_99 (by decide) ?_
        cases hf
        exact x_zret C hr hlk w rfl dX2_comesAhead_100

def qX2_next_81 (R22 : Row) (R23 : Row) (P : Row) (k39 : Int32 → Int32 → Int32 → Int32 → Option (Int32)) (v1 : Int32) (v2 : Int32) (v3 : Int32) (v4 : Int32) : Option (Int32) :=
(k39 v1 v2 v3 (v4 + 1))
set_option maxHeartbeats 4000000 in
set_option maxRecDepth 100000 in
theorem w_X2_next_81 {p : Program} {l : Launch} {e : Env} {s : State} {m : MethodId} {args : Array Value} {below : List Frame} {meth : Method} {c : Code} {E : Ev} {ad : Nat → Nat} {g : Gp} {h : Hp} {P : Row} {b : Nat} {r : Int32} {k39 : Int32 → Int32 → Int32 → Int32 → Option (Int32)} (C : CallFix p m c cX2_next 6 s args lwA RX2) (hr : meth.sig.returnType = (some .int)) (hlk : meth.locks = false) (X : Sx E ad s) (hI : Inj ad) (hb : b < 18) (hk39 : ∀ (v1 : Int32) (v2 : Int32) (v3 : Int32) (v4 : Int32) (H : Heap) (locs : List Loc) (ls : Array Slot), At E ad (su h b P) g s H locs → lv_has ls 6 [(0, .ref (ad (7 * b))), (1, .int v1), (2, .int v2), (3, .int v3), (4, .int v4)] → k39  v1 v2 v3 v4 = some r → W p l e (RM 2 44) s m args below meth c H locs 0 0 (QI E ad (su h b P) g r below args s) (F0 m 39 ls [])) : ∀ (v1 : Int32) (v2 : Int32) (v3 : Int32) (v4 : Int32) (H : Heap) (locs : List Loc) (ls : Array Slot), At E ad (su h b P) g s H locs → lv_has ls 6 [(0, .ref (ad (7 * b))), (1, .int v1), (2, .int v2), (3, .int v3), (4, .int v4)] → qX2_next_81 (h 22) (h 23) P k39 v1 v2 v3 v4 = some r → W p l e (RM 2 44) s m args below meth c H locs 0 0 (QI E ad (su h b P) g r below args s) (F0 m 81 ls []) := by
  intro v1 v2 v3 v4 H locs ls w hl hf
  unfold qX2_next_81 at hf
  refine lv_iinc (v := (v4 + 1)) (lv' := [(4, .int (v4 + 1)), (0, .ref (ad (7 * b))), (1, .int v1), (2, .int v2), (3, .int v3)]) C.1 C.2.1 dX2_next_81 hl (k := 4) rfl (congrArg (fun z => v4 + z) (by decide)) (by decide) rfl (fun ls hl => ?_)
  refine lv_goto (tgt := 39) C.1 C.2.1 dX2_next_84 (by decide) ?_
  exact hk39 _ _ _ _ _ _ _ w (lv_sub hl [1, 2, 3, 4, 0] rfl) hf
def qX2_next_78 (R22 : Row) (R23 : Row) (P : Row) (k39 : Int32 → Int32 → Int32 → Int32 → Option (Int32)) (v1 : Int32) (v2 : Int32) (v4 : Int32) (v5 : Int32) : Option (Int32) :=
(qX2_next_81 R22 R23 P k39 v1 v2 v5 v4)
set_option maxHeartbeats 4000000 in
set_option maxRecDepth 100000 in
theorem w_X2_next_78 {p : Program} {l : Launch} {e : Env} {s : State} {m : MethodId} {args : Array Value} {below : List Frame} {meth : Method} {c : Code} {E : Ev} {ad : Nat → Nat} {g : Gp} {h : Hp} {P : Row} {b : Nat} {r : Int32} {k39 : Int32 → Int32 → Int32 → Int32 → Option (Int32)} (C : CallFix p m c cX2_next 6 s args lwA RX2) (hr : meth.sig.returnType = (some .int)) (hlk : meth.locks = false) (X : Sx E ad s) (hI : Inj ad) (hb : b < 18) (hk39 : ∀ (v1 : Int32) (v2 : Int32) (v3 : Int32) (v4 : Int32) (H : Heap) (locs : List Loc) (ls : Array Slot), At E ad (su h b P) g s H locs → lv_has ls 6 [(0, .ref (ad (7 * b))), (1, .int v1), (2, .int v2), (3, .int v3), (4, .int v4)] → k39  v1 v2 v3 v4 = some r → W p l e (RM 2 44) s m args below meth c H locs 0 0 (QI E ad (su h b P) g r below args s) (F0 m 39 ls [])) : ∀ (v1 : Int32) (v2 : Int32) (v4 : Int32) (v5 : Int32) (H : Heap) (locs : List Loc) (ls : Array Slot), At E ad (su h b P) g s H locs → lv_has ls 6 [(0, .ref (ad (7 * b))), (1, .int v1), (2, .int v2), (4, .int v4), (5, .int v5)] → qX2_next_78 (h 22) (h 23) P k39 v1 v2 v4 v5 = some r → W p l e (RM 2 44) s m args below meth c H locs 0 0 (QI E ad (su h b P) g r below args s) (F0 m 78 ls []) := by
  intro v1 v2 v4 v5 H locs ls w hl hf
  unfold qX2_next_78 at hf
  refine lv_iload C.1 C.2.1 dX2_next_78 (lv_at hl 4 rfl) ?_
  refine lv_istore_n (lv' := [(3, .int v5), (0, .ref (ad (7 * b))), (1, .int v1), (2, .int v2), (4, .int v4), (5, .int v5)]) C.1 C.2.1 dX2_next_80 rfl hl (by decide) rfl (fun ls hl => ?_)
  exact w_X2_next_81 C hr hlk X hI hb hk39 _ _ _ _ _ _ _ w (lv_sub hl [1, 2, 3, 0, 4] rfl) hf
def qX2_next_39 (R22 : Row) (R23 : Row) (P : Row) : Nat → Int32 → Int32 → Int32 → Int32 → Option (Int32)
  | 0, _, _, _, _ => none
  | n + 1, v1, v2, v3, v4 =>
    (if (5 : Int32) ≤ v4 then (some v3)
    else (bi1 (qX6_has v1 ((v2 + v4) - (v2 + v4) / (5 : Int32) * (5 : Int32))) (fun r27 =>
    (if r27 = 0 then (qX2_next_81 R22 R23 P (qX2_next_39 R22 R23 P n) v1 v2 v3 v4)
    else (if v3 = (-9 : Int32) then (qX2_next_78 R22 R23 P (qX2_next_39 R22 R23 P n) v1 v2 v4 ((v2 + v4) - (v2 + v4) / (5 : Int32) * (5 : Int32)))
    else (bi1 (qX2_comesAhead R22 R23 P ((v2 + v4) - (v2 + v4) / (5 : Int32) * (5 : Int32)) v3) (fun r31 =>
    (if r31 = 0 then (qX2_next_81 R22 R23 P (qX2_next_39 R22 R23 P n) v1 v2 v3 v4)
    else (qX2_next_78 R22 R23 P (qX2_next_39 R22 R23 P n) v1 v2 v4 ((v2 + v4) - (v2 + v4) / (5 : Int32) * (5 : Int32)))))))))))
set_option maxHeartbeats 4000000 in
set_option maxRecDepth 100000 in
theorem w_X2_next_39 {p : Program} {l : Launch} {e : Env} {s : State} {m : MethodId} {args : Array Value} {below : List Frame} {meth : Method} {c : Code} {E : Ev} {ad : Nat → Nat} {g : Gp} {h : Hp} {P : Row} {b : Nat} {r : Int32} (C : CallFix p m c cX2_next 6 s args lwA RX2) (hr : meth.sig.returnType = (some .int)) (hlk : meth.locks = false) (X : Sx E ad s) (hI : Inj ad) (hb : b < 18)  : ∀ (n : Nat), ∀ (v1 : Int32) (v2 : Int32) (v3 : Int32) (v4 : Int32) (H : Heap) (locs : List Loc) (ls : Array Slot), At E ad (su h b P) g s H locs → lv_has ls 6 [(0, .ref (ad (7 * b))), (1, .int v1), (2, .int v2), (3, .int v3), (4, .int v4)] → qX2_next_39 (h 22) (h 23) P n v1 v2 v3 v4 = some r → W p l e (RM 2 44) s m args below meth c H locs 0 0 (QI E ad (su h b P) g r below args s) (F0 m 39 ls []) := by
  intro n
  induction n with
  | zero =>
    intro v1 v2 v3 v4 H locs ls w hl hf
    cases hf
  | succ n ih =>
    intro v1 v2 v3 v4 H locs ls w hl hf
    rw [qX2_next_39] at hf
    refine lv_iload C.1 C.2.1 dX2_next_39 (lv_at hl 4 rfl) ?_
    refine lv_iconst (v := 5) C.1 C.2.1 dX2_next_41 (by decide) ?_
    refine lv_icmp_ge (tgt := 87) C.1 C.2.1 dX2_next_42 (by decide) (fun c25 => ?_) (fun c25 => ?_)
    · rw [if_pos c25] at hf
      refine lv_iload_n C.1 C.2.1 dX2_next_87 rfl (lv_at hl 3 rfl) ?_
      cases hf
      exact x_iret C hr hlk w dX2_next_88
    · rw [if_neg c25] at hf
      refine lv_iload_n C.1 C.2.1 dX2_next_45 rfl (lv_at hl 2 rfl) ?_
      refine lv_iload C.1 C.2.1 dX2_next_46 (lv_at hl 4 rfl) ?_
      refine lv_iadd C.1 C.2.1 dX2_next_48 ?_
      refine lv_iconst (v := 5) C.1 C.2.1 dX2_next_49 (by decide) ?_
      refine lv_irem C.1 C.2.1 dX2_next_50 (by decide) ?_
      refine lv_istore (lv' := [(5, .int ((v2 + v4) - (v2 + v4) / (5 : Int32) * (5 : Int32))), (0, .ref (ad (7 * b))), (1, .int v1), (2, .int v2), (3, .int v3), (4, .int v4)]) C.1 C.2.1 dX2_next_51 hl (by decide) rfl (fun ls hl => ?_)
      refine lv_iload_n C.1 C.2.1 dX2_next_53 rfl (lv_at hl 2 rfl) ?_
      refine lv_iload C.1 C.2.1 dX2_next_54 (lv_at hl 0 rfl) ?_
      obtain ⟨r27, eq26, hf⟩ := bi1_e hf
      refine x_cSiN (As := [.int v1, .int ((v2 + v4) - (v2 + v4) / (5 : Int32) * (5 : Int32))]) (rest := []) C X w (c_X6_has hI  eq26) mw_X6_has ml_X2_70 rfl hl.1 rfl (Nat.le_of_ble_eq_true rfl) ⟨⟨Nat.le_of_ble_eq_true rfl, Nat.le_of_ble_eq_true rfl⟩, Nat.le_of_ble_eq_true rfl, Nat.le_of_ble_eq_true rfl⟩ dX2_next_56 (fun H locs w => ?_)
      refine lv_if_eq (tgt := 81) C.1 C.2.1 dX2_next_59 (by decide) (fun c28 => ?_) (fun c28 => ?_)
      · rw [if_pos c28] at hf
        exact w_X2_next_81 C hr hlk X hI hb ih _ _ _ _ _ _ _ w (lv_sub hl [1, 2, 3, 4, 5] rfl) hf
      · rw [if_neg c28] at hf
        refine lv_iload_n C.1 C.2.1 dX2_next_62 rfl (lv_at hl 4 rfl) ?_
        refine lv_bipush (v := -9) C.1 C.2.1 dX2_next_63 (by decide) ?_
        refine lv_icmp_eq (tgt := 78) C.1 C.2.1 dX2_next_65 (by decide) (fun c29 => ?_) (fun c29 => ?_)
        · rw [if_pos c29] at hf
          exact w_X2_next_78 C hr hlk X hI hb ih _ _ _ _ _ _ _ w (lv_sub hl [1, 2, 3, 5, 0] rfl) hf
        · rw [if_neg c29] at hf
          refine lv_aload_n C.1 C.2.1 dX2_next_68 rfl (lv_at hl 1 rfl) ?_
          refine lv_iload C.1 C.2.1 dX2_next_69 (lv_at hl 0 rfl) ?_
          refine lv_iload_n C.1 C.2.1 dX2_next_71 rfl (lv_at hl 4 rfl) ?_
          obtain ⟨r31, eq30, hf⟩ := bi1_e hf
          refine x_cVi (As := [.int ((v2 + v4) - (v2 + v4) / (5 : Int32) * (5 : Int32)), .int v3]) (rest := []) C X w (c_X2_comesAhead hI hb eq30) mw_X2_comesAhead ml_X2_85 (rcv_P (su_same _ _ _) hb) rfl hl.1 rfl (Nat.le_of_ble_eq_true rfl) ⟨⟨Nat.le_of_ble_eq_true rfl, Nat.le_of_ble_eq_true rfl⟩, Nat.le_of_ble_eq_true rfl, Nat.le_of_ble_eq_true rfl⟩ dX2_next_72 (fun H locs w => ?_)
          refine lv_if_eq (tgt := 81) C.1 C.2.1 dX2_next_75 (by decide) (fun c32 => ?_) (fun c32 => ?_)
          · rw [if_pos c32] at hf
            exact w_X2_next_81 C hr hlk X hI hb ih _ _ _ _ _ _ _ w (lv_sub hl [1, 2, 3, 4, 5] rfl) hf
          · rw [if_neg c32] at hf
            exact w_X2_next_78 C hr hlk X hI hb ih _ _ _ _ _ _ _ w (lv_sub hl [1, 2, 3, 5, 0] rfl) hf
def qX2_next_32 (R22 : Row) (R23 : Row) (P : Row) (v1 : Int32) (s0 : Int32) : Option (Int32) :=
(qX2_next_39 R22 R23 P 600 v1 s0 (-9 : Int32) (0 : Int32))
set_option maxHeartbeats 4000000 in
set_option maxRecDepth 100000 in
theorem w_X2_next_32 {p : Program} {l : Launch} {e : Env} {s : State} {m : MethodId} {args : Array Value} {below : List Frame} {meth : Method} {c : Code} {E : Ev} {ad : Nat → Nat} {g : Gp} {h : Hp} {P : Row} {b : Nat} {r : Int32} (C : CallFix p m c cX2_next 6 s args lwA RX2) (hr : meth.sig.returnType = (some .int)) (hlk : meth.locks = false) (X : Sx E ad s) (hI : Inj ad) (hb : b < 18)  : ∀ (v1 : Int32) (s0 : Int32) (H : Heap) (locs : List Loc) (ls : Array Slot), At E ad (su h b P) g s H locs → lv_has ls 6 [(0, .ref (ad (7 * b))), (1, .int v1)] → qX2_next_32 (h 22) (h 23) P v1 s0 = some r → W p l e (RM 2 44) s m args below meth c H locs 0 0 (QI E ad (su h b P) g r below args s) (F0 m 32 ls [.int s0]) := by
  intro v1 s0 H locs ls w hl hf
  unfold qX2_next_32 at hf
  refine lv_istore_n (lv' := [(2, .int s0), (0, .ref (ad (7 * b))), (1, .int v1)]) C.1 C.2.1 dX2_next_32 rfl hl (by decide) rfl (fun ls hl => ?_)
  refine lv_bipush (v := -9) C.1 C.2.1 dX2_next_33 (by decide) ?_
  refine lv_istore_n (lv' := [(3, .int (-9 : Int32)), (2, .int s0), (0, .ref (ad (7 * b))), (1, .int v1)]) C.1 C.2.1 dX2_next_35 rfl hl (by decide) rfl (fun ls hl => ?_)
  refine lv_iconst (v := 0) C.1 C.2.1 dX2_next_36 (by decide) ?_
  refine lv_istore (lv' := [(4, .int (0 : Int32)), (3, .int (-9 : Int32)), (2, .int s0), (0, .ref (ad (7 * b))), (1, .int v1)]) C.1 C.2.1 dX2_next_37 hl (by decide) rfl (fun ls hl => ?_)
  exact w_X2_next_39 C hr hlk X hI hb 600 _ _ _ _ _ _ _ w (lv_sub hl [3, 4, 2, 1, 0] rfl) hf
def qX2_next_31 (R22 : Row) (R23 : Row) (P : Row) (v1 : Int32) : Option (Int32) :=
(qX2_next_32 R22 R23 P v1 (0 : Int32))
set_option maxHeartbeats 4000000 in
set_option maxRecDepth 100000 in
theorem w_X2_next_31 {p : Program} {l : Launch} {e : Env} {s : State} {m : MethodId} {args : Array Value} {below : List Frame} {meth : Method} {c : Code} {E : Ev} {ad : Nat → Nat} {g : Gp} {h : Hp} {P : Row} {b : Nat} {r : Int32} (C : CallFix p m c cX2_next 6 s args lwA RX2) (hr : meth.sig.returnType = (some .int)) (hlk : meth.locks = false) (X : Sx E ad s) (hI : Inj ad) (hb : b < 18)  : ∀ (v1 : Int32) (H : Heap) (locs : List Loc) (ls : Array Slot), At E ad (su h b P) g s H locs → lv_has ls 6 [(0, .ref (ad (7 * b))), (1, .int v1)] → qX2_next_31 (h 22) (h 23) P v1 = some r → W p l e (RM 2 44) s m args below meth c H locs 0 0 (QI E ad (su h b P) g r below args s) (F0 m 31 ls []) := by
  intro v1 H locs ls w hl hf
  unfold qX2_next_31 at hf
  refine lv_iconst (v := 0) C.1 C.2.1 dX2_next_31 (by decide) ?_
  exact w_X2_next_32 C hr hlk X hI hb _ _ _ _ _ w (lv_sub hl [0, 1] rfl) hf
def qX2_next (R22 : Row) (R23 : Row) (P : Row) : Option (Int32) :=
(bi1 (qX2_asking R23 P) (fun r22 =>
(if (P 32) = (3 : Int32) then (if (P 31) = (-9 : Int32) then (qX2_next_31 R22 R23 P r22)
else (qX2_next_32 R22 R23 P r22 ((P 31) + (1 : Int32))))
else (qX2_next_31 R22 R23 P r22))))
set_option maxHeartbeats 4000000 in
set_option maxRecDepth 100000 in
theorem c_X2_next {l : Launch} {E : Ev} {ad : Nat → Nat} {g : Gp} {h : Hp} {b : Nat} {P : Row} {r : Int32} (hI : Inj ad) (hb : b < 18) (hf : qX2_next (h 22) (h 23) P = some r) : CtI l yX2_next cX2_next 6 (some .int) 2 44 E ad g g [.ref (ad (7 * b))] (su h b P) (su h b P) r := by
  refine x_begin (by decide) (Nat.le_of_ble_eq_true rfl) ?_
  intro p e s m below meth c ls C hr hlk X w hl
  replace hl : lv_has ls 6 [(0, .ref (ad (7 * b)))] := hl
  replace C : CallFix p m c cX2_next 6 s ([.ref (ad (7 * b))] : List Value).toArray lwA RX2 := C
  unfold qX2_next at hf
  refine lv_aload_n C.1 C.2.1 dX2_next_0 rfl (lv_at hl 0 rfl) ?_
  obtain ⟨r22, eq21, hf⟩ := bi1_e hf
  refine x_cVi (As := []) (rest := []) C X w (c_X2_asking hI hb eq21) mw_X2_asking ml_X2_82 (rcv_P (su_same _ _ _) hb) rfl hl.1 rfl (Nat.le_of_ble_eq_true rfl) ⟨⟨Nat.le_of_ble_eq_true rfl, Nat.le_of_ble_eq_true rfl⟩, Nat.le_of_ble_eq_true rfl, Nat.le_of_ble_eq_true rfl⟩ dX2_next_1 (fun H locs w => ?_)
  refine lv_istore_n (lv' := [(1, .int r22), (0, .ref (ad (7 * b)))]) C.1 C.2.1 dX2_next_4 rfl hl (by decide) rfl (fun ls hl => ?_)
  refine lv_aload_n C.1 C.2.1 dX2_next_5 rfl (lv_at hl 1 rfl) ?_
  refine gf_X2_21 C X w (su_same h b P) hb dX2_next_6 ?_
  refine lv_iconst (v := 3) C.1 C.2.1 dX2_next_9 (by decide) ?_
  refine lv_icmp_ne (tgt := 31) C.1 C.2.1 dX2_next_10 (by decide) (fun c23 => ?_) (fun c23 => ?_)
  · rw [if_neg c23] at hf
    exact w_X2_next_31 C hr hlk X hI hb _ _ _ _ w (lv_sub hl [1, 0] rfl) hf
  · rw [if_pos c23] at hf
    refine lv_aload_n C.1 C.2.1 dX2_next_13 rfl (lv_at hl 1 rfl) ?_
    refine gf_X2_18 C X w (su_same h b P) hb dX2_next_14 ?_
    refine lv_bipush (v := -9) C.1 C.2.1 dX2_next_17 (by decide) ?_
    refine lv_icmp_eq (tgt := 31) C.1 C.2.1 dX2_next_19 (by decide) (fun c24 => ?_) (fun c24 => ?_)
    · rw [if_pos c24] at hf
      exact w_X2_next_31 C hr hlk X hI hb _ _ _ _ w (lv_sub hl [1, 0] rfl) hf
    · rw [if_neg c24] at hf
      refine lv_aload_n C.1 C.2.1 dX2_next_22 rfl (lv_at hl 1 rfl) ?_
      refine gf_X2_18 C X w (su_same h b P) hb dX2_next_23 ?_
      refine lv_iconst (v := 1) C.1 C.2.1 dX2_next_26 (by decide) ?_
      refine lv_iadd C.1 C.2.1 dX2_next_27 ?_
      refine lv_goto (tgt := 32) C.1 C.2.1 dX2_next_28 (by decide) ?_
      exact w_X2_next_32 C hr hlk X hI hb _ _ _ _ _ w (lv_sub hl [1, 0] rfl) hf

def qX2_isThere (P : Row) (x1 : Int32) : Option (Int32) :=
(if x1 < 0 then (some (0 : Int32))
else (if (5 : Int32) ≤ x1 then (some (0 : Int32))
else (bi1 (qX6_has (P 36) x1) (fun r24 =>
(if r24 = 0 then (some (0 : Int32))
else (some (1 : Int32)))))))
set_option maxHeartbeats 4000000 in
set_option maxRecDepth 100000 in
theorem c_X2_isThere {l : Launch} {E : Ev} {ad : Nat → Nat} {g : Gp} {h : Hp} {b : Nat} {P : Row} {x1 : Int32} {r : Int32} (hI : Inj ad) (hb : b < 18) (hf : qX2_isThere P x1 = some r) : CtI l yX2_isThere cX2_isThere 2 (some .boolean) 1 21 E ad g g [.ref (ad (7 * b)), .int x1] (su h b P) (su h b P) r := by
  refine x_begin (by decide) (Nat.le_of_ble_eq_true rfl) ?_
  intro p e s m below meth c ls C hr hlk X w hl
  replace hl : lv_has ls 2 [(0, .ref (ad (7 * b))), (1, .int x1)] := hl
  replace C : CallFix p m c cX2_isThere 2 s ([.ref (ad (7 * b)), .int x1] : List Value).toArray lwA RX2 := C
  unfold qX2_isThere at hf
  refine lv_iload_n C.1 C.2.1 dX2_isThere_0 rfl (lv_at hl 1 rfl) ?_
  refine lv_if_lt (tgt := 24) C.1 C.2.1 dX2_isThere_1 (by decide) (fun c21 => ?_) (fun c21 => ?_)
  · rw [if_pos c21] at hf
    refine lv_iconst (v := 0) C.1 C.2.1 dX2_isThere_24 (by decide) ?_
    cases hf
    exact x_zret C hr hlk w rfl dX2_isThere_25
  · rw [if_neg c21] at hf
    refine lv_iload_n C.1 C.2.1 dX2_isThere_4 rfl (lv_at hl 1 rfl) ?_
    refine lv_iconst (v := 5) C.1 C.2.1 dX2_isThere_5 (by decide) ?_
    refine lv_icmp_ge (tgt := 24) C.1 C.2.1 dX2_isThere_6 (by decide) (fun c22 => ?_) (fun c22 => ?_)
    · rw [if_pos c22] at hf
      refine lv_iconst (v := 0) C.1 C.2.1 dX2_isThere_24 (by decide) ?_
      cases hf
      exact x_zret C hr hlk w rfl dX2_isThere_25
    · rw [if_neg c22] at hf
      refine lv_aload_n C.1 C.2.1 dX2_isThere_9 rfl (lv_at hl 0 rfl) ?_
      refine gf_X2_9 C X w (su_same h b P) hb dX2_isThere_10 ?_
      refine lv_iload_n C.1 C.2.1 dX2_isThere_13 rfl (lv_at hl 1 rfl) ?_
      obtain ⟨r24, eq23, hf⟩ := bi1_e hf
      refine x_cSiN (As := [.int (P 36), .int x1]) (rest := []) C X w (c_X6_has hI  eq23) mw_X6_has ml_X2_70 rfl hl.1 rfl (Nat.le_of_ble_eq_true rfl) ⟨⟨Nat.le_of_ble_eq_true rfl, Nat.le_of_ble_eq_true rfl⟩, Nat.le_of_ble_eq_true rfl, Nat.le_of_ble_eq_true rfl⟩ dX2_isThere_14 (fun H locs w => ?_)
      refine lv_if_eq (tgt := 24) C.1 C.2.1 dX2_isThere_17 (by decide) (fun c25 => ?_) (fun c25 => ?_)
      · rw [if_pos c25] at hf
        refine lv_iconst (v := 0) C.1 C.2.1 dX2_isThere_24 (by decide) ?_
        cases hf
        exact x_zret C hr hlk w rfl dX2_isThere_25
      · rw [if_neg c25] at hf
        refine lv_iconst (v := 1) C.1 C.2.1 dX2_isThere_20 (by decide) ?_
        refine lv_goto (tgt := 25) C.1 C.2.1 dX2_isThere_21 (by decide) ?_
        cases hf
        exact x_zret C hr hlk w rfl dX2_isThere_25

def qX2_copyFrom_58 (Ro : Row) : Nat → Row → Int32 → Option (Row)
  | 0, _, _ => none
  | n + 1, P, v2 =>
    (if (5 : Int32) ≤ v2 then (some P)
    else (ck (inb v2 5) ((ck (inb v2 5) (bd (upd P (0 + v2.toNatClampNeg) (Ro (0 + v2.toNatClampNeg))) (fun P31 =>
    (ck (inb v2 5) ((ck (inb v2 5) (bd (upd P31 (5 + v2.toNatClampNeg) (Ro (5 + v2.toNatClampNeg))) (fun P34 =>
    (ck (inb v2 5) ((ck (inb v2 5) (bd (upd P34 (10 + v2.toNatClampNeg) (Ro (10 + v2.toNatClampNeg))) (fun P37 =>
    (ck (inb v2 5) ((ck (inb v2 5) (bd (upd P37 (15 + v2.toNatClampNeg) (Ro (15 + v2.toNatClampNeg))) (fun P40 =>
    (ck (inb v2 5) ((ck (inb v2 5) (bd (upd P40 (20 + v2.toNatClampNeg) (Ro (20 + v2.toNatClampNeg))) (fun P43 =>
    (ck (inb v2 5) ((ck (inb v2 5) (bd (upd P43 (25 + v2.toNatClampNeg) (Ro (25 + v2.toNatClampNeg))) (fun P46 =>
    (qX2_copyFrom_58 Ro n P46 (v2 + 1)))))))))))))))))))))))))))))))))
set_option maxHeartbeats 4000000 in
set_option maxRecDepth 100000 in
theorem w_X2_copyFrom_58 {p : Program} {l : Launch} {e : Env} {s : State} {m : MethodId} {args : Array Value} {below : List Frame} {meth : Method} {c : Code} {E : Ev} {ad : Nat → Nat} {g : Gp} {h : Hp} {b : Nat} {o : Nat} {P9 : Row} (C : CallFix p m c cX2_copyFrom 3 s args lwA RX2) (hr : meth.sig.returnType = none) (hlk : meth.locks = false) (X : Sx E ad s) (hI : Inj ad) (hb : b < 18) (ho : o < 18) (hob : o ≠ b)  : ∀ (n : Nat), ∀ (P : Row) (v2 : Int32) (H : Heap) (locs : List Loc) (ls : Array Slot), At E ad (su h b P) g s H locs → lv_has ls 3 [(0, .ref (ad (7 * b))), (1, .ref (ad (7 * o))), (2, .int v2)] → qX2_copyFrom_58 (h o) n P v2 = some P9 → W p l e (RM 0 0) s m args below meth c H locs 0 0 (QV E ad (su h b P9) g below args s) (F0 m 58 ls []) := by
  intro n
  induction n with
  | zero =>
    intro P v2 H locs ls w hl hf
    cases hf
  | succ n ih =>
    intro P v2 H locs ls w hl hf
    rw [qX2_copyFrom_58] at hf
    refine lv_iload_n C.1 C.2.1 dX2_copyFrom_58 rfl (lv_at hl 2 rfl) ?_
    refine lv_iconst (v := 5) C.1 C.2.1 dX2_copyFrom_59 (by decide) ?_
    refine lv_icmp_ge (tgt := 141) C.1 C.2.1 dX2_copyFrom_60 (by decide) (fun c28 => ?_) (fun c28 => ?_)
    · rw [if_pos c28] at hf
      cases hf
      exact x_vret C hr hlk w dX2_copyFrom_141
    · rw [if_neg c28] at hf
      refine lv_aload_n C.1 C.2.1 dX2_copyFrom_63 rfl (lv_at hl 0 rfl) ?_
      refine gf_X2_33 C X w (su_same h b P) hb dX2_copyFrom_64 ?_
      refine lv_iload_n C.1 C.2.1 dX2_copyFrom_67 rfl (lv_at hl 2 rfl) ?_
      refine lv_aload_n C.1 C.2.1 dX2_copyFrom_68 rfl (lv_at hl 1 rfl) ?_
      refine gf_X2_33 C X w (su_ne hob) ho dX2_copyFrom_69 ?_
      refine lv_iload_n C.1 C.2.1 dX2_copyFrom_72 rfl (lv_at hl 2 rfl) ?_
      obtain ⟨i29, hf⟩ := ck_e hf
      refine x_pld (b := o) (k := 1) (o := 0) (j := v2.toNatClampNeg) C X w (su_ne hob) ho (by decide) (by decide) rfl i29 rfl dX2_copyFrom_73 ?_
      obtain ⟨i30, hf⟩ := ck_e hf
      obtain ⟨P31, eP31, hf⟩ := bd_e hf
      refine x_pst (k := 1) (o := 0) (j := v2.toNatClampNeg) C X hI w hb (by decide) (by decide) rfl i30 rfl dX2_copyFrom_74 (fun H locs w => ?_)
      replace w := at_eqP eP31 w
      refine lv_aload_n C.1 C.2.1 dX2_copyFrom_75 rfl (lv_at hl 0 rfl) ?_
      refine gf_X2_37 C X w (su_same h b P31) hb dX2_copyFrom_76 ?_
      refine lv_iload_n C.1 C.2.1 dX2_copyFrom_79 rfl (lv_at hl 2 rfl) ?_
      refine lv_aload_n C.1 C.2.1 dX2_copyFrom_80 rfl (lv_at hl 1 rfl) ?_
      refine gf_X2_37 C X w (su_ne hob) ho dX2_copyFrom_81 ?_
      refine lv_iload_n C.1 C.2.1 dX2_copyFrom_84 rfl (lv_at hl 2 rfl) ?_
      obtain ⟨i32, hf⟩ := ck_e hf
      refine x_pld (b := o) (k := 2) (o := 5) (j := v2.toNatClampNeg) C X w (su_ne hob) ho (by decide) (by decide) rfl i32 rfl dX2_copyFrom_85 ?_
      obtain ⟨i33, hf⟩ := ck_e hf
      obtain ⟨P34, eP34, hf⟩ := bd_e hf
      refine x_pst (k := 2) (o := 5) (j := v2.toNatClampNeg) C X hI w hb (by decide) (by decide) rfl i33 rfl dX2_copyFrom_86 (fun H locs w => ?_)
      replace w := at_eqP eP34 w
      refine lv_aload_n C.1 C.2.1 dX2_copyFrom_87 rfl (lv_at hl 0 rfl) ?_
      refine gf_X2_40 C X w (su_same h b P34) hb dX2_copyFrom_88 ?_
      refine lv_iload_n C.1 C.2.1 dX2_copyFrom_91 rfl (lv_at hl 2 rfl) ?_
      refine lv_aload_n C.1 C.2.1 dX2_copyFrom_92 rfl (lv_at hl 1 rfl) ?_
      refine gf_X2_40 C X w (su_ne hob) ho dX2_copyFrom_93 ?_
      refine lv_iload_n C.1 C.2.1 dX2_copyFrom_96 rfl (lv_at hl 2 rfl) ?_
      obtain ⟨i35, hf⟩ := ck_e hf
      refine x_pld (b := o) (k := 3) (o := 10) (j := v2.toNatClampNeg) C X w (su_ne hob) ho (by decide) (by decide) rfl i35 rfl dX2_copyFrom_97 ?_
      obtain ⟨i36, hf⟩ := ck_e hf
      obtain ⟨P37, eP37, hf⟩ := bd_e hf
      refine x_pst (k := 3) (o := 10) (j := v2.toNatClampNeg) C X hI w hb (by decide) (by decide) rfl i36 rfl dX2_copyFrom_98 (fun H locs w => ?_)
      replace w := at_eqP eP37 w
      refine lv_aload_n C.1 C.2.1 dX2_copyFrom_99 rfl (lv_at hl 0 rfl) ?_
      refine gf_X2_43 C X w (su_same h b P37) hb dX2_copyFrom_100 ?_
      refine lv_iload_n C.1 C.2.1 dX2_copyFrom_103 rfl (lv_at hl 2 rfl) ?_
      refine lv_aload_n C.1 C.2.1 dX2_copyFrom_104 rfl (lv_at hl 1 rfl) ?_
      refine gf_X2_43 C X w (su_ne hob) ho dX2_copyFrom_105 ?_
      refine lv_iload_n C.1 C.2.1 dX2_copyFrom_108 rfl (lv_at hl 2 rfl) ?_
      obtain ⟨i38, hf⟩ := ck_e hf
      refine x_pld (b := o) (k := 4) (o := 15) (j := v2.toNatClampNeg) C X w (su_ne hob) ho (by decide) (by decide) rfl i38 rfl dX2_copyFrom_109 ?_
      obtain ⟨i39, hf⟩ := ck_e hf
      obtain ⟨P40, eP40, hf⟩ := bd_e hf
      refine x_pst (k := 4) (o := 15) (j := v2.toNatClampNeg) C X hI w hb (by decide) (by decide) rfl i39 rfl dX2_copyFrom_110 (fun H locs w => ?_)
      replace w := at_eqP eP40 w
      refine lv_aload_n C.1 C.2.1 dX2_copyFrom_111 rfl (lv_at hl 0 rfl) ?_
      refine gf_X2_46 C X w (su_same h b P40) hb dX2_copyFrom_112 ?_
      refine lv_iload_n C.1 C.2.1 dX2_copyFrom_115 rfl (lv_at hl 2 rfl) ?_
      refine lv_aload_n C.1 C.2.1 dX2_copyFrom_116 rfl (lv_at hl 1 rfl) ?_
      refine gf_X2_46 C X w (su_ne hob) ho dX2_copyFrom_117 ?_
      refine lv_iload_n C.1 C.2.1 dX2_copyFrom_120 rfl (lv_at hl 2 rfl) ?_
      obtain ⟨i41, hf⟩ := ck_e hf
      refine x_pld (b := o) (k := 5) (o := 20) (j := v2.toNatClampNeg) C X w (su_ne hob) ho (by decide) (by decide) rfl i41 rfl dX2_copyFrom_121 ?_
      obtain ⟨i42, hf⟩ := ck_e hf
      obtain ⟨P43, eP43, hf⟩ := bd_e hf
      refine x_pst (k := 5) (o := 20) (j := v2.toNatClampNeg) C X hI w hb (by decide) (by decide) rfl i42 rfl dX2_copyFrom_122 (fun H locs w => ?_)
      replace w := at_eqP eP43 w
      refine lv_aload_n C.1 C.2.1 dX2_copyFrom_123 rfl (lv_at hl 0 rfl) ?_
      refine gf_X2_49 C X w (su_same h b P43) hb dX2_copyFrom_124 ?_
      refine lv_iload_n C.1 C.2.1 dX2_copyFrom_127 rfl (lv_at hl 2 rfl) ?_
      refine lv_aload_n C.1 C.2.1 dX2_copyFrom_128 rfl (lv_at hl 1 rfl) ?_
      refine gf_X2_49 C X w (su_ne hob) ho dX2_copyFrom_129 ?_
      refine lv_iload_n C.1 C.2.1 dX2_copyFrom_132 rfl (lv_at hl 2 rfl) ?_
      obtain ⟨i44, hf⟩ := ck_e hf
      refine x_pld (b := o) (k := 6) (o := 25) (j := v2.toNatClampNeg) C X w (su_ne hob) ho (by decide) (by decide) rfl i44 rfl dX2_copyFrom_133 ?_
      obtain ⟨i45, hf⟩ := ck_e hf
      obtain ⟨P46, eP46, hf⟩ := bd_e hf
      refine x_pst (k := 6) (o := 25) (j := v2.toNatClampNeg) C X hI w hb (by decide) (by decide) rfl i45 rfl dX2_copyFrom_134 (fun H locs w => ?_)
      replace w := at_eqP eP46 w
      refine lv_iinc (v := (v2 + 1)) (lv' := [(2, .int (v2 + 1)), (0, .ref (ad (7 * b))), (1, .ref (ad (7 * o)))]) C.1 C.2.1 dX2_copyFrom_135 hl (k := 2) rfl (congrArg (fun z => v2 + z) (by decide)) (by decide) rfl (fun ls hl => ?_)
      refine lv_goto (tgt := 58) C.1 C.2.1 dX2_copyFrom_138 (by decide) ?_
      exact ih _ _ _ _ _ w (lv_sub hl [1, 2, 0] rfl) hf
def qX2_copyFrom (Ro : Row) (P : Row) : Option (Row) :=
(bd (upd P 36 (Ro 36)) (fun P21 =>
(bd (upd P21 30 (Ro 30)) (fun P22 =>
(bd (upd P22 31 (Ro 31)) (fun P23 =>
(bd (upd P23 32 (Ro 32)) (fun P24 =>
(bd (upd P24 33 (Ro 33)) (fun P25 =>
(bd (upd P25 34 (Ro 34)) (fun P26 =>
(bd (upd P26 35 (Ro 35)) (fun P27 =>
(qX2_copyFrom_58 Ro 600 P27 (0 : Int32))))))))))))))))
set_option maxHeartbeats 4000000 in
set_option maxRecDepth 100000 in
theorem c_X2_copyFrom {l : Launch} {E : Ev} {ad : Nat → Nat} {g : Gp} {h : Hp} {b : Nat} {P : Row} {o : Nat} {P9 : Row} (hI : Inj ad) (hb : b < 18) (ho : o < 18) (hob : o ≠ b) (hf : qX2_copyFrom (h o) P = some P9) : CtV l yX2_copyFrom cX2_copyFrom 3 none 0 0 E ad g g [.ref (ad (7 * b)), .ref (ad (7 * o))] (su h b P) (su h b P9) := by
  refine x_begin (by decide) (Nat.le_of_ble_eq_true rfl) ?_
  intro p e s m below meth c ls C hr hlk X w hl
  replace hl : lv_has ls 3 [(0, .ref (ad (7 * b))), (1, .ref (ad (7 * o)))] := hl
  replace C : CallFix p m c cX2_copyFrom 3 s ([.ref (ad (7 * b)), .ref (ad (7 * o))] : List Value).toArray lwA RX2 := C
  unfold qX2_copyFrom at hf
  refine lv_aload_n C.1 C.2.1 dX2_copyFrom_0 rfl (lv_at hl 0 rfl) ?_
  refine lv_aload_n C.1 C.2.1 dX2_copyFrom_1 rfl (lv_at hl 1 rfl) ?_
  refine gf_X2_9 C X w (su_ne hob) ho dX2_copyFrom_2 ?_
  obtain ⟨P21, eP21, hf⟩ := bd_e hf
  refine pf_X2_9 C X hI w hb dX2_copyFrom_5 (fun H locs w => ?_)
  replace w := at_eqP eP21 w
  refine lv_aload_n C.1 C.2.1 dX2_copyFrom_8 rfl (lv_at hl 0 rfl) ?_
  refine lv_aload_n C.1 C.2.1 dX2_copyFrom_9 rfl (lv_at hl 1 rfl) ?_
  refine gf_X2_15 C X w (su_ne hob) ho dX2_copyFrom_10 ?_
  obtain ⟨P22, eP22, hf⟩ := bd_e hf
  refine pf_X2_15 C X hI w hb dX2_copyFrom_13 (fun H locs w => ?_)
  replace w := at_eqP eP22 w
  refine lv_aload_n C.1 C.2.1 dX2_copyFrom_16 rfl (lv_at hl 0 rfl) ?_
  refine lv_aload_n C.1 C.2.1 dX2_copyFrom_17 rfl (lv_at hl 1 rfl) ?_
  refine gf_X2_18 C X w (su_ne hob) ho dX2_copyFrom_18 ?_
  obtain ⟨P23, eP23, hf⟩ := bd_e hf
  refine pf_X2_18 C X hI w hb dX2_copyFrom_21 (fun H locs w => ?_)
  replace w := at_eqP eP23 w
  refine lv_aload_n C.1 C.2.1 dX2_copyFrom_24 rfl (lv_at hl 0 rfl) ?_
  refine lv_aload_n C.1 C.2.1 dX2_copyFrom_25 rfl (lv_at hl 1 rfl) ?_
  refine gf_X2_21 C X w (su_ne hob) ho dX2_copyFrom_26 ?_
  obtain ⟨P24, eP24, hf⟩ := bd_e hf
  refine pf_X2_21 C X hI w hb dX2_copyFrom_29 (fun H locs w => ?_)
  replace w := at_eqP eP24 w
  refine lv_aload_n C.1 C.2.1 dX2_copyFrom_32 rfl (lv_at hl 0 rfl) ?_
  refine lv_aload_n C.1 C.2.1 dX2_copyFrom_33 rfl (lv_at hl 1 rfl) ?_
  refine gf_X2_24 C X w (su_ne hob) ho dX2_copyFrom_34 ?_
  obtain ⟨P25, eP25, hf⟩ := bd_e hf
  refine pf_X2_24 C X hI w hb dX2_copyFrom_37 (fun H locs w => ?_)
  replace w := at_eqP eP25 w
  refine lv_aload_n C.1 C.2.1 dX2_copyFrom_40 rfl (lv_at hl 0 rfl) ?_
  refine lv_aload_n C.1 C.2.1 dX2_copyFrom_41 rfl (lv_at hl 1 rfl) ?_
  refine gf_X2_27 C X w (su_ne hob) ho dX2_copyFrom_42 ?_
  obtain ⟨P26, eP26, hf⟩ := bd_e hf
  refine pf_X2_27 C X hI w hb dX2_copyFrom_45 (fun H locs w => ?_)
  replace w := at_eqP eP26 w
  refine lv_aload_n C.1 C.2.1 dX2_copyFrom_48 rfl (lv_at hl 0 rfl) ?_
  refine lv_aload_n C.1 C.2.1 dX2_copyFrom_49 rfl (lv_at hl 1 rfl) ?_
  refine gf_X2_30 C X w (su_ne hob) ho dX2_copyFrom_50 ?_
  obtain ⟨P27, eP27, hf⟩ := bd_e hf
  refine pf_X2_30 C X hI w hb dX2_copyFrom_53 (fun H locs w => ?_)
  replace w := at_eqP eP27 w
  refine lv_iconst (v := 0) C.1 C.2.1 dX2_copyFrom_56 (by decide) ?_
  refine lv_istore_n (lv' := [(2, .int (0 : Int32)), (0, .ref (ad (7 * b))), (1, .ref (ad (7 * o)))]) C.1 C.2.1 dX2_copyFrom_57 rfl hl (by decide) rfl (fun ls hl => ?_)
  exact w_X2_copyFrom_58 C hr hlk X hI hb ho hob 600 _ _ _ _ _ w (lv_sub hl [1, 2, 0] rfl) hf

def qX2_rides (P : Row) (x1 : Int32) : Option (Int32) :=
(bi1 (qX6_has (P 30) x1) (fun r22 =>
(ck (bz r22) (some r22))))
set_option maxHeartbeats 4000000 in
set_option maxRecDepth 100000 in
theorem c_X2_rides {l : Launch} {E : Ev} {ad : Nat → Nat} {g : Gp} {h : Hp} {b : Nat} {P : Row} {x1 : Int32} {r : Int32} (hI : Inj ad) (hb : b < 18) (hf : qX2_rides P x1 = some r) : CtI l yX2_rides cX2_rides 2 (some .boolean) 1 21 E ad g g [.ref (ad (7 * b)), .int x1] (su h b P) (su h b P) r := by
  refine x_begin (by decide) (Nat.le_of_ble_eq_true rfl) ?_
  intro p e s m below meth c ls C hr hlk X w hl
  replace hl : lv_has ls 2 [(0, .ref (ad (7 * b))), (1, .int x1)] := hl
  replace C : CallFix p m c cX2_rides 2 s ([.ref (ad (7 * b)), .int x1] : List Value).toArray lwA RX2 := C
  unfold qX2_rides at hf
  refine lv_aload_n C.1 C.2.1 dX2_rides_0 rfl (lv_at hl 0 rfl) ?_
  refine gf_X2_15 C X w (su_same h b P) hb dX2_rides_1 ?_
  refine lv_iload_n C.1 C.2.1 dX2_rides_4 rfl (lv_at hl 1 rfl) ?_
  obtain ⟨r22, eq21, hf⟩ := bi1_e hf
  refine x_cSiN (As := [.int (P 30), .int x1]) (rest := []) C X w (c_X6_has hI  eq21) mw_X6_has ml_X2_70 rfl hl.1 rfl (Nat.le_of_ble_eq_true rfl) ⟨⟨Nat.le_of_ble_eq_true rfl, Nat.le_of_ble_eq_true rfl⟩, Nat.le_of_ble_eq_true rfl, Nat.le_of_ble_eq_true rfl⟩ dX2_rides_5 (fun H locs w => ?_)
  obtain ⟨z23, hf⟩ := ck_e hf
  cases hf
  exact x_zret C hr hlk w (bz_e z23) dX2_rides_8

def qX2_getOff (P : Row) (x1 : Int32) : Option (Row) :=
(bd (upd P 30 ((P 30) &&& (((1 : Int32) <<< (x1 &&& 31)) ^^^ (-1 : Int32)))) (fun P21 =>
(ck (inb x1 5) (bd (upd P21 (5 + x1.toNatClampNeg) (0 : Int32)) (fun P23 =>
(some P23))))))
set_option maxHeartbeats 4000000 in
set_option maxRecDepth 100000 in
theorem c_X2_getOff {l : Launch} {E : Ev} {ad : Nat → Nat} {g : Gp} {h : Hp} {b : Nat} {P : Row} {x1 : Int32} {P9 : Row} (hI : Inj ad) (hb : b < 18) (hf : qX2_getOff P x1 = some P9) : CtV l yX2_getOff cX2_getOff 2 none 0 0 E ad g g [.ref (ad (7 * b)), .int x1] (su h b P) (su h b P9) := by
  refine x_begin (by decide) (Nat.le_of_ble_eq_true rfl) ?_
  intro p e s m below meth c ls C hr hlk X w hl
  replace hl : lv_has ls 2 [(0, .ref (ad (7 * b))), (1, .int x1)] := hl
  replace C : CallFix p m c cX2_getOff 2 s ([.ref (ad (7 * b)), .int x1] : List Value).toArray lwA RX2 := C
  unfold qX2_getOff at hf
  refine lv_aload_n C.1 C.2.1 dX2_getOff_0 rfl (lv_at hl 0 rfl) ?_
  refine lv_dup C.1 C.2.1 dX2_getOff_1 rfl ?_
  refine gf_X2_15 C X w (su_same h b P) hb dX2_getOff_2 ?_
  refine lv_iconst (v := 1) C.1 C.2.1 dX2_getOff_5 (by decide) ?_
  refine lv_iload_n C.1 C.2.1 dX2_getOff_6 rfl (lv_at hl 1 rfl) ?_
  refine lv_ishl C.1 C.2.1 dX2_getOff_7 ?_
  refine lv_iconst (v := -1) C.1 C.2.1 dX2_getOff_8 (by decide) ?_
  refine lv_ixor C.1 C.2.1 dX2_getOff_9 ?_
  refine lv_iand C.1 C.2.1 dX2_getOff_10 ?_
  obtain ⟨P21, eP21, hf⟩ := bd_e hf
  refine pf_X2_15 C X hI w hb dX2_getOff_11 (fun H locs w => ?_)
  replace w := at_eqP eP21 w
  refine lv_aload_n C.1 C.2.1 dX2_getOff_14 rfl (lv_at hl 0 rfl) ?_
  refine gf_X2_37 C X w (su_same h b P21) hb dX2_getOff_15 ?_
  refine lv_iload_n C.1 C.2.1 dX2_getOff_18 rfl (lv_at hl 1 rfl) ?_
  refine lv_iconst (v := 0) C.1 C.2.1 dX2_getOff_19 (by decide) ?_
  obtain ⟨i22, hf⟩ := ck_e hf
  obtain ⟨P23, eP23, hf⟩ := bd_e hf
  refine x_pst (k := 2) (o := 5) (j := x1.toNatClampNeg) C X hI w hb (by decide) (by decide) rfl i22 rfl dX2_getOff_20 (fun H locs w => ?_)
  replace w := at_eqP eP23 w
  cases hf
  exact x_vret C hr hlk w dX2_getOff_21

def qX2_pushOff (P : Row) (x1 : Int32) : Option (Row) :=
(bi1 (qX2_getOff P x1) (fun P23 =>
(ck (inb x1 5) ((ck (inb x1 5) (bd (upd P23 (25 + x1.toNatClampNeg) ((P23 (25 + x1.toNatClampNeg)) + (1 : Int32))) (fun P26 =>
(some P26))))))))
set_option maxHeartbeats 4000000 in
set_option maxRecDepth 100000 in
theorem c_X2_pushOff {l : Launch} {E : Ev} {ad : Nat → Nat} {g : Gp} {h : Hp} {b : Nat} {P : Row} {x1 : Int32} {P9 : Row} (hI : Inj ad) (hb : b < 18) (hf : qX2_pushOff P x1 = some P9) : CtV l yX2_pushOff cX2_pushOff 2 none 1 21 E ad g g [.ref (ad (7 * b)), .int x1] (su h b P) (su h b P9) := by
  refine x_begin (by decide) (Nat.le_of_ble_eq_true rfl) ?_
  intro p e s m below meth c ls C hr hlk X w hl
  replace hl : lv_has ls 2 [(0, .ref (ad (7 * b))), (1, .int x1)] := hl
  replace C : CallFix p m c cX2_pushOff 2 s ([.ref (ad (7 * b)), .int x1] : List Value).toArray lwA RX2 := C
  unfold qX2_pushOff at hf
  refine lv_aload_n C.1 C.2.1 dX2_pushOff_0 rfl (lv_at hl 0 rfl) ?_
  refine lv_iload_n C.1 C.2.1 dX2_pushOff_1 rfl (lv_at hl 1 rfl) ?_
  obtain ⟨P23, eq21, hf⟩ := bi1_e hf
  refine x_cVv (As := [.int x1]) (rest := []) C X w (c_X2_getOff hI hb eq21) mw_X2_getOff ml_X2_113 (rcv_P (su_same _ _ _) hb) rfl hl.1 rfl (Nat.le_of_ble_eq_true rfl) ⟨⟨Nat.le_of_ble_eq_true rfl, Nat.le_of_ble_eq_true rfl⟩, Nat.le_of_ble_eq_true rfl, Nat.le_of_ble_eq_true rfl⟩ dX2_pushOff_2 (fun H locs w => ?_)
  refine lv_aload_n C.1 C.2.1 dX2_pushOff_5 rfl (lv_at hl 0 rfl) ?_
  refine gf_X2_49 C X w (su_same h b P23) hb dX2_pushOff_6 ?_
  refine lv_iload_n C.1 C.2.1 dX2_pushOff_9 rfl (lv_at hl 1 rfl) ?_
  refine lv_dup2_11 C.1 C.2.1 dX2_pushOff_10 rfl rfl ?_
  obtain ⟨i24, hf⟩ := ck_e hf
  refine x_pld (b := b) (k := 6) (o := 25) (j := x1.toNatClampNeg) C X w (su_same h b P23) hb (by decide) (by decide) rfl i24 rfl dX2_pushOff_11 ?_
  refine lv_iconst (v := 1) C.1 C.2.1 dX2_pushOff_12 (by decide) ?_
  refine lv_iadd C.1 C.2.1 dX2_pushOff_13 ?_
  obtain ⟨i25, hf⟩ := ck_e hf
  obtain ⟨P26, eP26, hf⟩ := bd_e hf
  refine x_pst (k := 6) (o := 25) (j := x1.toNatClampNeg) C X hI w hb (by decide) (by decide) rfl i25 rfl dX2_pushOff_14 (fun H locs w => ?_)
  replace w := at_eqP eP26 w
  cases hf
  exact x_vret C hr hlk w dX2_pushOff_15

def qX2_getOffIfDue_94 (R22 : Row) (R23 : Row) (P : Row) (v1 : Int32) : Option (Row) :=
(bi1 (qX2_getOff P v1) (fun P45 =>
(some P45)))
set_option maxHeartbeats 4000000 in
set_option maxRecDepth 100000 in
theorem w_X2_getOffIfDue_94 {p : Program} {l : Launch} {e : Env} {s : State} {m : MethodId} {args : Array Value} {below : List Frame} {meth : Method} {c : Code} {E : Ev} {ad : Nat → Nat} {g : Gp} {h : Hp} {b : Nat} {P9 : Row} (C : CallFix p m c cX2_getOffIfDue 3 s args lwA RX2) (hr : meth.sig.returnType = none) (hlk : meth.locks = false) (X : Sx E ad s) (hI : Inj ad) (hb : b < 18)  : ∀ (P : Row) (v1 : Int32) (H : Heap) (locs : List Loc) (ls : Array Slot), At E ad (su h b P) g s H locs → lv_has ls 3 [(0, .ref (ad (7 * b))), (1, .int v1)] → qX2_getOffIfDue_94 (h 22) (h 23) P v1 = some P9 → W p l e (RM 3 69) s m args below meth c H locs 0 0 (QV E ad (su h b P9) g below args s) (F0 m 94 ls []) := by
  intro P v1 H locs ls w hl hf
  unfold qX2_getOffIfDue_94 at hf
  refine lv_aload_n C.1 C.2.1 dX2_getOffIfDue_94 rfl (lv_at hl 0 rfl) ?_
  refine lv_iload_n C.1 C.2.1 dX2_getOffIfDue_95 rfl (lv_at hl 1 rfl) ?_
  obtain ⟨P45, eq43, hf⟩ := bi1_e hf
  refine x_cVv (As := [.int v1]) (rest := []) C X w (c_X2_getOff hI hb eq43) mw_X2_getOff ml_X2_113 (rcv_P (su_same _ _ _) hb) rfl hl.1 rfl (Nat.le_of_ble_eq_true rfl) ⟨⟨Nat.le_of_ble_eq_true rfl, Nat.le_of_ble_eq_true rfl⟩, Nat.le_of_ble_eq_true rfl, Nat.le_of_ble_eq_true rfl⟩ dX2_getOffIfDue_96 (fun H locs w => ?_)
  cases hf
  exact x_vret C hr hlk w dX2_getOffIfDue_99
def qX2_getOffIfDue_61 (R22 : Row) (R23 : Row) (P : Row) (v1 : Int32) : Option (Row) :=
(ck (inb v1 5) ((if (P (5 + v1.toNatClampNeg)) < (P 33) then (some P)
else (if (P 32) = 0 then (ck (inb v1 5) ((if (R23 v1.toNatClampNeg) = (3 : Int32) then (qX2_getOffIfDue_94 R22 R23 P v1)
else (some P))))
else (qX2_getOffIfDue_94 R22 R23 P v1)))))
set_option maxHeartbeats 4000000 in
set_option maxRecDepth 100000 in
theorem w_X2_getOffIfDue_61 {p : Program} {l : Launch} {e : Env} {s : State} {m : MethodId} {args : Array Value} {below : List Frame} {meth : Method} {c : Code} {E : Ev} {ad : Nat → Nat} {g : Gp} {h : Hp} {b : Nat} {P9 : Row} (C : CallFix p m c cX2_getOffIfDue 3 s args lwA RX2) (hr : meth.sig.returnType = none) (hlk : meth.locks = false) (X : Sx E ad s) (hI : Inj ad) (hb : b < 18)  : ∀ (P : Row) (v1 : Int32) (H : Heap) (locs : List Loc) (ls : Array Slot), At E ad (su h b P) g s H locs → lv_has ls 3 [(0, .ref (ad (7 * b))), (1, .int v1)] → qX2_getOffIfDue_61 (h 22) (h 23) P v1 = some P9 → W p l e (RM 3 69) s m args below meth c H locs 0 0 (QV E ad (su h b P9) g below args s) (F0 m 61 ls []) := by
  intro P v1 H locs ls w hl hf
  unfold qX2_getOffIfDue_61 at hf
  refine lv_aload_n C.1 C.2.1 dX2_getOffIfDue_61 rfl (lv_at hl 0 rfl) ?_
  refine gf_X2_37 C X w (su_same h b P) hb dX2_getOffIfDue_62 ?_
  refine lv_iload_n C.1 C.2.1 dX2_getOffIfDue_65 rfl (lv_at hl 1 rfl) ?_
  obtain ⟨i38, hf⟩ := ck_e hf
  refine x_pld (b := b) (k := 2) (o := 5) (j := v1.toNatClampNeg) C X w (su_same h b P) hb (by decide) (by decide) rfl i38 rfl dX2_getOffIfDue_66 ?_
  refine lv_aload_n C.1 C.2.1 dX2_getOffIfDue_67 rfl (lv_at hl 0 rfl) ?_
  refine gf_X2_24 C X w (su_same h b P) hb dX2_getOffIfDue_68 ?_
  refine lv_icmp_lt (tgt := 99) C.1 C.2.1 dX2_getOffIfDue_71 (by decide) (fun c39 => ?_) (fun c39 => ?_)
  · rw [if_pos c39] at hf
    cases hf
    exact x_vret C hr hlk w dX2_getOffIfDue_99
  · rw [if_neg c39] at hf
    refine lv_aload_n C.1 C.2.1 dX2_getOffIfDue_74 rfl (lv_at hl 0 rfl) ?_
    refine gf_X2_21 C X w (su_same h b P) hb dX2_getOffIfDue_75 ?_
    refine lv_if_ne (tgt := 94) C.1 C.2.1 dX2_getOffIfDue_78 (by decide) (fun c40 => ?_) (fun c40 => ?_)
    · rw [if_neg c40] at hf
      exact w_X2_getOffIfDue_94 C hr hlk X hI hb _ _ _ _ _ w (lv_sub hl [0, 1] rfl) hf
    · rw [if_pos c40] at hf
      refine lv_aload_n C.1 C.2.1 dX2_getOffIfDue_81 rfl (lv_at hl 0 rfl) ?_
      refine gf_X2_52 C X w (su_same h b P) hb dX2_getOffIfDue_82 ?_
      refine gf_X2_77 C X w rfl dX2_getOffIfDue_85 ?_
      refine lv_iload_n C.1 C.2.1 dX2_getOffIfDue_88 rfl (lv_at hl 1 rfl) ?_
      obtain ⟨i41, hf⟩ := ck_e hf
      refine x_ild (v := (h 23) v1.toNatClampNeg) C X w (wl_r23 (su_ne (by omega))) i41 (rfl) dX2_getOffIfDue_89 ?_
      refine lv_iconst (v := 3) C.1 C.2.1 dX2_getOffIfDue_90 (by decide) ?_
      refine lv_icmp_ne (tgt := 99) C.1 C.2.1 dX2_getOffIfDue_91 (by decide) (fun c42 => ?_) (fun c42 => ?_)
      · rw [if_neg c42] at hf
        cases hf
        exact x_vret C hr hlk w dX2_getOffIfDue_99
      · rw [if_pos c42] at hf
        exact w_X2_getOffIfDue_94 C hr hlk X hI hb _ _ _ _ _ w (lv_sub hl [0, 1] rfl) hf
def qX2_getOffIfDue (R22 : Row) (R23 : Row) (P : Row) (x1 : Int32) : Option (Row) :=
(ck (inb x1 5) ((if (P (0 + x1.toNatClampNeg)) = 0 then (bi1 (qX2_getOff P x1) (fun P37 =>
(some P37)))
else (bi1 (qX2_next R22 R23 P) (fun r24 =>
(if r24 = (-9 : Int32) then (some P)
else (if (P 32) = 0 then (bi1 (qX1_might R22 R23 r24) (fun r28 =>
(bi1 (qX1_might R22 R23 x1) (fun r30 =>
(if r28 ≤ r30 then (qX2_getOffIfDue_61 R22 R23 P x1)
else (bi1 (qX2_pushOff P x1) (fun P34 =>
(some P34))))))))
else (qX2_getOffIfDue_61 R22 R23 P x1))))))))
set_option maxHeartbeats 4000000 in
set_option maxRecDepth 100000 in
theorem c_X2_getOffIfDue {l : Launch} {E : Ev} {ad : Nat → Nat} {g : Gp} {h : Hp} {b : Nat} {P : Row} {x1 : Int32} {P9 : Row} (hI : Inj ad) (hb : b < 18) (hf : qX2_getOffIfDue (h 22) (h 23) P x1 = some P9) : CtV l yX2_getOffIfDue cX2_getOffIfDue 3 none 3 69 E ad g g [.ref (ad (7 * b)), .int x1] (su h b P) (su h b P9) := by
  refine x_begin (by decide) (Nat.le_of_ble_eq_true rfl) ?_
  intro p e s m below meth c ls C hr hlk X w hl
  replace hl : lv_has ls 3 [(0, .ref (ad (7 * b))), (1, .int x1)] := hl
  replace C : CallFix p m c cX2_getOffIfDue 3 s ([.ref (ad (7 * b)), .int x1] : List Value).toArray lwA RX2 := C
  unfold qX2_getOffIfDue at hf
  refine lv_aload_n C.1 C.2.1 dX2_getOffIfDue_0 rfl (lv_at hl 0 rfl) ?_
  refine gf_X2_33 C X w (su_same h b P) hb dX2_getOffIfDue_1 ?_
  refine lv_iload_n C.1 C.2.1 dX2_getOffIfDue_4 rfl (lv_at hl 1 rfl) ?_
  obtain ⟨i21, hf⟩ := ck_e hf
  refine x_pld (b := b) (k := 1) (o := 0) (j := x1.toNatClampNeg) C X w (su_same h b P) hb (by decide) (by decide) rfl i21 rfl dX2_getOffIfDue_5 ?_
  refine lv_if_ne (tgt := 15) C.1 C.2.1 dX2_getOffIfDue_6 (by decide) (fun c22 => ?_) (fun c22 => ?_)
  · rw [if_neg c22] at hf
    refine lv_aload_n C.1 C.2.1 dX2_getOffIfDue_15 rfl (lv_at hl 0 rfl) ?_
    obtain ⟨r24, eq23, hf⟩ := bi1_e hf
    refine x_cVi (As := []) (rest := []) C X w (c_X2_next hI hb eq23) mw_X2_next ml_X2_104 (rcv_P (su_same _ _ _) hb) rfl hl.1 rfl (Nat.le_of_ble_eq_true rfl) ⟨⟨Nat.le_of_ble_eq_true rfl, Nat.le_of_ble_eq_true rfl⟩, Nat.le_of_ble_eq_true rfl, Nat.le_of_ble_eq_true rfl⟩ dX2_getOffIfDue_16 (fun H locs w => ?_)
    refine lv_istore_n (lv' := [(2, .int r24), (0, .ref (ad (7 * b))), (1, .int x1)]) C.1 C.2.1 dX2_getOffIfDue_19 rfl hl (by decide) rfl (fun ls hl => ?_)
    refine lv_iload_n C.1 C.2.1 dX2_getOffIfDue_20 rfl (lv_at hl 0 rfl) ?_
    refine lv_bipush (v := -9) C.1 C.2.1 dX2_getOffIfDue_21 (by decide) ?_
    refine lv_icmp_ne (tgt := 27) C.1 C.2.1 dX2_getOffIfDue_23 (by decide) (fun c25 => ?_) (fun c25 => ?_)
    · rw [if_neg c25] at hf
      refine lv_aload_n C.1 C.2.1 dX2_getOffIfDue_27 rfl (lv_at hl 1 rfl) ?_
      refine gf_X2_21 C X w (su_same h b P) hb dX2_getOffIfDue_28 ?_
      refine lv_if_ne (tgt := 61) C.1 C.2.1 dX2_getOffIfDue_31 (by decide) (fun c26 => ?_) (fun c26 => ?_)
      · rw [if_neg c26] at hf
        exact w_X2_getOffIfDue_61 C hr hlk X hI hb _ _ _ _ _ w (lv_sub hl [1, 2] rfl) hf
      · rw [if_pos c26] at hf
        refine lv_aload_n C.1 C.2.1 dX2_getOffIfDue_34 rfl (lv_at hl 1 rfl) ?_
        refine gf_X2_52 C X w (su_same h b P) hb dX2_getOffIfDue_35 ?_
        refine lv_iload_n C.1 C.2.1 dX2_getOffIfDue_38 rfl (lv_at hl 0 rfl) ?_
        obtain ⟨r28, eq27, hf⟩ := bi1_e hf
        refine x_cViN (As := [.int r24]) (rest := []) C X w (c_X1_might hI (su_ne (by omega)) (su_ne (by omega)) eq27) mw_X1_might ml_X2_88 rcv_r21 rfl hl.1 rfl (Nat.le_of_ble_eq_true rfl) ⟨⟨Nat.le_of_ble_eq_true rfl, Nat.le_of_ble_eq_true rfl⟩, Nat.le_of_ble_eq_true rfl, Nat.le_of_ble_eq_true rfl⟩ dX2_getOffIfDue_39 (fun H locs w => ?_)
        refine lv_aload_n C.1 C.2.1 dX2_getOffIfDue_42 rfl (lv_at hl 1 rfl) ?_
        refine gf_X2_52 C X w (su_same h b P) hb dX2_getOffIfDue_43 ?_
        refine lv_iload_n C.1 C.2.1 dX2_getOffIfDue_46 rfl (lv_at hl 2 rfl) ?_
        obtain ⟨r30, eq29, hf⟩ := bi1_e hf
        refine x_cViN (As := [.int x1]) (rest := [.int r28]) C X w (c_X1_might hI (su_ne (by omega)) (su_ne (by omega)) eq29) mw_X1_might ml_X2_88 rcv_r21 rfl hl.1 rfl (Nat.le_of_ble_eq_true rfl) ⟨⟨Nat.le_of_ble_eq_true rfl, Nat.le_of_ble_eq_true rfl⟩, Nat.le_of_ble_eq_true rfl, Nat.le_of_ble_eq_true rfl⟩ dX2_getOffIfDue_47 (fun H locs w => ?_)
        refine lv_icmp_le (tgt := 61) C.1 C.2.1 dX2_getOffIfDue_50 (by decide) (fun c31 => ?_) (fun c31 => ?_)
        · rw [if_pos c31] at hf
          exact w_X2_getOffIfDue_61 C hr hlk X hI hb _ _ _ _ _ w (lv_sub hl [1, 2] rfl) hf
        · rw [if_neg c31] at hf
          refine lv_aload_n C.1 C.2.1 dX2_getOffIfDue_53 rfl (lv_at hl 1 rfl) ?_
          refine lv_iload_n C.1 C.2.1 dX2_getOffIfDue_54 rfl (lv_at hl 2 rfl) ?_
          obtain ⟨P34, eq32, hf⟩ := bi1_e hf
          refine x_cVv (As := [.int x1]) (rest := []) C X w (c_X2_pushOff hI hb eq32) mw_X2_pushOff ml_X2_116 (rcv_P (su_same _ _ _) hb) rfl hl.1 rfl (Nat.le_of_ble_eq_true rfl) ⟨⟨Nat.le_of_ble_eq_true rfl, Nat.le_of_ble_eq_true rfl⟩, Nat.le_of_ble_eq_true rfl, Nat.le_of_ble_eq_true rfl⟩ dX2_getOffIfDue_55 (fun H locs w => ?_)
          refine lv_goto (tgt := 99) C.1 C.2.1 dX2_getOffIfDue_58 (by decide) ?_
          cases hf
          exact x_vret C hr hlk w dX2_getOffIfDue_99
    · rw [if_pos c25] at hf
      cases hf
      exact x_vret C hr hlk w dX2_getOffIfDue_26
  · rw [if_pos c22] at hf
    refine lv_aload_n C.1 C.2.1 dX2_getOffIfDue_9 rfl (lv_at hl 0 rfl) ?_
    refine lv_iload_n C.1 C.2.1 dX2_getOffIfDue_10 rfl (lv_at hl 1 rfl) ?_
    obtain ⟨P37, eq35, hf⟩ := bi1_e hf
    refine x_cVv (As := [.int x1]) (rest := []) C X w (c_X2_getOff hI hb eq35) mw_X2_getOff ml_X2_113 (rcv_P (su_same _ _ _) hb) rfl hl.1 rfl (Nat.le_of_ble_eq_true rfl) ⟨⟨Nat.le_of_ble_eq_true rfl, Nat.le_of_ble_eq_true rfl⟩, Nat.le_of_ble_eq_true rfl, Nat.le_of_ble_eq_true rfl⟩ dX2_getOffIfDue_11 (fun H locs w => ?_)
    cases hf
    exact x_vret C hr hlk w dX2_getOffIfDue_14

def qX2_getOn (P : Row) (x1 : Int32) : Option (Row) :=
(bd (upd P 30 ((P 30) ||| ((1 : Int32) <<< (x1 &&& 31)))) (fun P21 =>
(ck (inb x1 5) (bd (upd P21 (5 + x1.toNatClampNeg) (0 : Int32)) (fun P23 =>
(ck (inb x1 5) (bd (upd P23 (20 + x1.toNatClampNeg) (0 : Int32)) (fun P25 =>
(bd (upd P25 31 x1) (fun P26 =>
(some P26)))))))))))
set_option maxHeartbeats 4000000 in
set_option maxRecDepth 100000 in
theorem c_X2_getOn {l : Launch} {E : Ev} {ad : Nat → Nat} {g : Gp} {h : Hp} {b : Nat} {P : Row} {x1 : Int32} {P9 : Row} (hI : Inj ad) (hb : b < 18) (hf : qX2_getOn P x1 = some P9) : CtV l yX2_getOn cX2_getOn 2 none 0 0 E ad g g [.ref (ad (7 * b)), .int x1] (su h b P) (su h b P9) := by
  refine x_begin (by decide) (Nat.le_of_ble_eq_true rfl) ?_
  intro p e s m below meth c ls C hr hlk X w hl
  replace hl : lv_has ls 2 [(0, .ref (ad (7 * b))), (1, .int x1)] := hl
  replace C : CallFix p m c cX2_getOn 2 s ([.ref (ad (7 * b)), .int x1] : List Value).toArray lwA RX2 := C
  unfold qX2_getOn at hf
  refine lv_aload_n C.1 C.2.1 dX2_getOn_0 rfl (lv_at hl 0 rfl) ?_
  refine lv_dup C.1 C.2.1 dX2_getOn_1 rfl ?_
  refine gf_X2_15 C X w (su_same h b P) hb dX2_getOn_2 ?_
  refine lv_iconst (v := 1) C.1 C.2.1 dX2_getOn_5 (by decide) ?_
  refine lv_iload_n C.1 C.2.1 dX2_getOn_6 rfl (lv_at hl 1 rfl) ?_
  refine lv_ishl C.1 C.2.1 dX2_getOn_7 ?_
  refine lv_ior C.1 C.2.1 dX2_getOn_8 ?_
  obtain ⟨P21, eP21, hf⟩ := bd_e hf
  refine pf_X2_15 C X hI w hb dX2_getOn_9 (fun H locs w => ?_)
  replace w := at_eqP eP21 w
  refine lv_aload_n C.1 C.2.1 dX2_getOn_12 rfl (lv_at hl 0 rfl) ?_
  refine gf_X2_37 C X w (su_same h b P21) hb dX2_getOn_13 ?_
  refine lv_iload_n C.1 C.2.1 dX2_getOn_16 rfl (lv_at hl 1 rfl) ?_
  refine lv_iconst (v := 0) C.1 C.2.1 dX2_getOn_17 (by decide) ?_
  obtain ⟨i22, hf⟩ := ck_e hf
  obtain ⟨P23, eP23, hf⟩ := bd_e hf
  refine x_pst (k := 2) (o := 5) (j := x1.toNatClampNeg) C X hI w hb (by decide) (by decide) rfl i22 rfl dX2_getOn_18 (fun H locs w => ?_)
  replace w := at_eqP eP23 w
  refine lv_aload_n C.1 C.2.1 dX2_getOn_19 rfl (lv_at hl 0 rfl) ?_
  refine gf_X2_46 C X w (su_same h b P23) hb dX2_getOn_20 ?_
  refine lv_iload_n C.1 C.2.1 dX2_getOn_23 rfl (lv_at hl 1 rfl) ?_
  refine lv_iconst (v := 0) C.1 C.2.1 dX2_getOn_24 (by decide) ?_
  obtain ⟨i24, hf⟩ := ck_e hf
  obtain ⟨P25, eP25, hf⟩ := bd_e hf
  refine x_pst (k := 5) (o := 20) (j := x1.toNatClampNeg) C X hI w hb (by decide) (by decide) rfl i24 rfl dX2_getOn_25 (fun H locs w => ?_)
  replace w := at_eqP eP25 w
  refine lv_aload_n C.1 C.2.1 dX2_getOn_26 rfl (lv_at hl 0 rfl) ?_
  refine lv_iload_n C.1 C.2.1 dX2_getOn_27 rfl (lv_at hl 1 rfl) ?_
  obtain ⟨P26, eP26, hf⟩ := bd_e hf
  refine pf_X2_18 C X hI w hb dX2_getOn_28 (fun H locs w => ?_)
  replace w := at_eqP eP26 w
  cases hf
  exact x_vret C hr hlk w dX2_getOn_31

def qX2_rideAndStare_123 (k2 : Row → Int32 → Option (Row)) (P : Row) (v1 : Int32) : Option (Row) :=
(k2 P (v1 + 1))
set_option maxHeartbeats 4000000 in
set_option maxRecDepth 100000 in
theorem w_X2_rideAndStare_123 {p : Program} {l : Launch} {e : Env} {s : State} {m : MethodId} {args : Array Value} {below : List Frame} {meth : Method} {c : Code} {E : Ev} {ad : Nat → Nat} {g : Gp} {h : Hp} {b : Nat} {P9 : Row} {k2 : Row → Int32 → Option (Row)} (C : CallFix p m c cX2_rideAndStare 2 s args lwA RX2) (hr : meth.sig.returnType = none) (hlk : meth.locks = false) (X : Sx E ad s) (hI : Inj ad) (hb : b < 18) (hk2 : ∀ (P : Row) (v1 : Int32) (H : Heap) (locs : List Loc) (ls : Array Slot), At E ad (su h b P) g s H locs → lv_has ls 2 [(0, .ref (ad (7 * b))), (1, .int v1)] → k2 P v1 = some P9 → W p l e (RM 2 42) s m args below meth c H locs 0 0 (QV E ad (su h b P9) g below args s) (F0 m 2 ls [])) : ∀ (P : Row) (v1 : Int32) (H : Heap) (locs : List Loc) (ls : Array Slot), At E ad (su h b P) g s H locs → lv_has ls 2 [(0, .ref (ad (7 * b))), (1, .int v1)] → qX2_rideAndStare_123 k2 P v1 = some P9 → W p l e (RM 2 42) s m args below meth c H locs 0 0 (QV E ad (su h b P9) g below args s) (F0 m 123 ls []) := by
  intro P v1 H locs ls w hl hf
  unfold qX2_rideAndStare_123 at hf
  refine lv_iinc (v := (v1 + 1)) (lv' := [(1, .int (v1 + 1)), (0, .ref (ad (7 * b)))]) C.1 C.2.1 dX2_rideAndStare_123 hl (k := 1) rfl (congrArg (fun z => v1 + z) (by decide)) (by decide) rfl (fun ls hl => ?_)
  refine lv_goto (tgt := 2) C.1 C.2.1 dX2_rideAndStare_126 (by decide) ?_
  exact hk2 _ _ _ _ _ w (lv_sub hl [1, 0] rfl) hf
def qX2_rideAndStare_2 : Nat → Row → Int32 → Option (Row)
  | 0, _, _ => none
  | n + 1, P, v1 =>
    (if (5 : Int32) ≤ v1 then (some P)
    else (bi1 (qX2_rides P v1) (fun r23 =>
    (if r23 = 0 then (if (P 30) = 0 then (qX2_rideAndStare_123 (qX2_rideAndStare_2 n) P v1)
    else (bi1 (qX6_has (P 36) v1) (fun r27 =>
    (if r27 = 0 then (qX2_rideAndStare_123 (qX2_rideAndStare_2 n) P v1)
    else (ck (inb v1 5) ((ck (inb v1 5) (bd (upd P (0 + v1.toNatClampNeg) (if ((P (0 + v1.toNatClampNeg)) + (1 : Int32)) < (9 : Int32) then ((P (0 + v1.toNatClampNeg)) + (1 : Int32)) else (9 : Int32))) (fun P31 =>
    (ck (inb v1 5) ((if (P31 (0 + v1.toNatClampNeg)) < (5 : Int32) then (qX2_rideAndStare_123 (qX2_rideAndStare_2 n) P31 v1)
    else (ck (inb v1 5) ((ck (inb v1 5) (bd (upd P31 (15 + v1.toNatClampNeg) ((P31 (15 + v1.toNatClampNeg)) + (1 : Int32))) (fun P36 =>
    (ck (inb v1 5) ((ck (inb v1 5) (bd (upd P36 (20 + v1.toNatClampNeg) ((P36 (20 + v1.toNatClampNeg)) + (1 : Int32))) (fun P39 =>
    (qX2_rideAndStare_123 (qX2_rideAndStare_2 n) P39 v1)))))))))))))))))))))))
    else (ck (inb v1 5) ((ck (inb v1 5) (bd (upd P (10 + v1.toNatClampNeg) ((P (10 + v1.toNatClampNeg)) + (1 : Int32))) (fun P42 =>
    (ck (inb v1 5) ((ck (inb v1 5) (bd (upd P42 (5 + v1.toNatClampNeg) ((P42 (5 + v1.toNatClampNeg)) + (1 : Int32))) (fun P45 =>
    (ck (inb v1 5) ((ck (inb v1 5) (bd (upd P45 (0 + v1.toNatClampNeg) (if (0 : Int32) < ((P45 (0 + v1.toNatClampNeg)) - (1 : Int32)) then ((P45 (0 + v1.toNatClampNeg)) - (1 : Int32)) else (0 : Int32))) (fun P48 =>
    (qX2_rideAndStare_123 (qX2_rideAndStare_2 n) P48 v1))))))))))))))))))))
set_option maxHeartbeats 4000000 in
set_option maxRecDepth 100000 in
theorem w_X2_rideAndStare_2 {p : Program} {l : Launch} {e : Env} {s : State} {m : MethodId} {args : Array Value} {below : List Frame} {meth : Method} {c : Code} {E : Ev} {ad : Nat → Nat} {g : Gp} {h : Hp} {b : Nat} {P9 : Row} (C : CallFix p m c cX2_rideAndStare 2 s args lwA RX2) (hr : meth.sig.returnType = none) (hlk : meth.locks = false) (X : Sx E ad s) (hI : Inj ad) (hb : b < 18)  : ∀ (n : Nat), ∀ (P : Row) (v1 : Int32) (H : Heap) (locs : List Loc) (ls : Array Slot), At E ad (su h b P) g s H locs → lv_has ls 2 [(0, .ref (ad (7 * b))), (1, .int v1)] → qX2_rideAndStare_2 n P v1 = some P9 → W p l e (RM 2 42) s m args below meth c H locs 0 0 (QV E ad (su h b P9) g below args s) (F0 m 2 ls []) := by
  intro n
  induction n with
  | zero =>
    intro P v1 H locs ls w hl hf
    cases hf
  | succ n ih =>
    intro P v1 H locs ls w hl hf
    rw [qX2_rideAndStare_2] at hf
    refine lv_iload_n C.1 C.2.1 dX2_rideAndStare_2 rfl (lv_at hl 1 rfl) ?_
    refine lv_iconst (v := 5) C.1 C.2.1 dX2_rideAndStare_3 (by decide) ?_
    refine lv_icmp_ge (tgt := 129) C.1 C.2.1 dX2_rideAndStare_4 (by decide) (fun c21 => ?_) (fun c21 => ?_)
    · rw [if_pos c21] at hf
      cases hf
      exact x_vret C hr hlk w dX2_rideAndStare_129
    · rw [if_neg c21] at hf
      refine lv_aload_n C.1 C.2.1 dX2_rideAndStare_7 rfl (lv_at hl 0 rfl) ?_
      refine lv_iload_n C.1 C.2.1 dX2_rideAndStare_8 rfl (lv_at hl 1 rfl) ?_
      obtain ⟨r23, eq22, hf⟩ := bi1_e hf
      refine x_cVi (As := [.int v1]) (rest := []) C X w (c_X2_rides hI hb eq22) mw_X2_rides ml_X2_91 (rcv_P (su_same _ _ _) hb) rfl hl.1 rfl (Nat.le_of_ble_eq_true rfl) ⟨⟨Nat.le_of_ble_eq_true rfl, Nat.le_of_ble_eq_true rfl⟩, Nat.le_of_ble_eq_true rfl, Nat.le_of_ble_eq_true rfl⟩ dX2_rideAndStare_9 (fun H locs w => ?_)
      refine lv_if_eq (tgt := 56) C.1 C.2.1 dX2_rideAndStare_12 (by decide) (fun c24 => ?_) (fun c24 => ?_)
      · rw [if_pos c24] at hf
        refine lv_aload_n C.1 C.2.1 dX2_rideAndStare_56 rfl (lv_at hl 0 rfl) ?_
        refine gf_X2_15 C X w (su_same h b P) hb dX2_rideAndStare_57 ?_
        refine lv_if_eq (tgt := 123) C.1 C.2.1 dX2_rideAndStare_60 (by decide) (fun c25 => ?_) (fun c25 => ?_)
        · rw [if_pos c25] at hf
          exact w_X2_rideAndStare_123 C hr hlk X hI hb ih _ _ _ _ _ w (lv_sub hl [0, 1] rfl) hf
        · rw [if_neg c25] at hf
          refine lv_aload_n C.1 C.2.1 dX2_rideAndStare_63 rfl (lv_at hl 0 rfl) ?_
          refine gf_X2_9 C X w (su_same h b P) hb dX2_rideAndStare_64 ?_
          refine lv_iload_n C.1 C.2.1 dX2_rideAndStare_67 rfl (lv_at hl 1 rfl) ?_
          obtain ⟨r27, eq26, hf⟩ := bi1_e hf
          refine x_cSiN (As := [.int (P 36), .int v1]) (rest := []) C X w (c_X6_has hI  eq26) mw_X6_has ml_X2_70 rfl hl.1 rfl (Nat.le_of_ble_eq_true rfl) ⟨⟨Nat.le_of_ble_eq_true rfl, Nat.le_of_ble_eq_true rfl⟩, Nat.le_of_ble_eq_true rfl, Nat.le_of_ble_eq_true rfl⟩ dX2_rideAndStare_68 (fun H locs w => ?_)
          refine lv_if_eq (tgt := 123) C.1 C.2.1 dX2_rideAndStare_71 (by decide) (fun c28 => ?_) (fun c28 => ?_)
          · rw [if_pos c28] at hf
            exact w_X2_rideAndStare_123 C hr hlk X hI hb ih _ _ _ _ _ w (lv_sub hl [0, 1] rfl) hf
          · rw [if_neg c28] at hf
            refine lv_aload_n C.1 C.2.1 dX2_rideAndStare_74 rfl (lv_at hl 0 rfl) ?_
            refine gf_X2_33 C X w (su_same h b P) hb dX2_rideAndStare_75 ?_
            refine lv_iload_n C.1 C.2.1 dX2_rideAndStare_78 rfl (lv_at hl 1 rfl) ?_
            refine lv_bipush (v := 9) C.1 C.2.1 dX2_rideAndStare_79 (by decide) ?_
            refine lv_aload_n C.1 C.2.1 dX2_rideAndStare_81 rfl (lv_at hl 0 rfl) ?_
            refine gf_X2_33 C X w (su_same h b P) hb dX2_rideAndStare_82 ?_
            refine lv_iload_n C.1 C.2.1 dX2_rideAndStare_85 rfl (lv_at hl 1 rfl) ?_
            obtain ⟨i29, hf⟩ := ck_e hf
            refine x_pld (b := b) (k := 1) (o := 0) (j := v1.toNatClampNeg) C X w (su_same h b P) hb (by decide) (by decide) rfl i29 rfl dX2_rideAndStare_86 ?_
            refine lv_iconst (v := 1) C.1 C.2.1 dX2_rideAndStare_87 (by decide) ?_
            refine lv_iadd C.1 C.2.1 dX2_rideAndStare_88 ?_
            refine va_mmin C.1 C.2.1 (C.2.2.1.trans hl.1.symm) C.2.2.2.1 (C.2.2.2.2 _ wd_methodLink_OneTricycle_Play_124_java_lang_Math_min_II_I_) (C.2.2.2.2 _ wd_static_java_lang_Math_min_II_I_) (C.2.2.2.2 _ wd_initialized_java_lang_Math_) (C.2.2.2.2 _ wd_code_Math_min) (Nat.le_of_ble_eq_true rfl) (Nat.le_of_ble_eq_true rfl) (Nat.le_of_ble_eq_true rfl) (Nat.le_of_ble_eq_true rfl) dX2_rideAndStare_89 ?_
            obtain ⟨i30, hf⟩ := ck_e hf
            obtain ⟨P31, eP31, hf⟩ := bd_e hf
            refine x_pst (k := 1) (o := 0) (j := v1.toNatClampNeg) C X hI w hb (by decide) (by decide) rfl i30 rfl dX2_rideAndStare_92 (fun H locs w => ?_)
            replace w := at_eqP eP31 w
            refine lv_aload_n C.1 C.2.1 dX2_rideAndStare_93 rfl (lv_at hl 0 rfl) ?_
            refine gf_X2_33 C X w (su_same h b P31) hb dX2_rideAndStare_94 ?_
            refine lv_iload_n C.1 C.2.1 dX2_rideAndStare_97 rfl (lv_at hl 1 rfl) ?_
            obtain ⟨i32, hf⟩ := ck_e hf
            refine x_pld (b := b) (k := 1) (o := 0) (j := v1.toNatClampNeg) C X w (su_same h b P31) hb (by decide) (by decide) rfl i32 rfl dX2_rideAndStare_98 ?_
            refine lv_iconst (v := 5) C.1 C.2.1 dX2_rideAndStare_99 (by decide) ?_
            refine lv_icmp_lt (tgt := 123) C.1 C.2.1 dX2_rideAndStare_100 (by decide) (fun c33 => ?_) (fun c33 => ?_)
            · rw [if_pos c33] at hf
              exact w_X2_rideAndStare_123 C hr hlk X hI hb ih _ _ _ _ _ w (lv_sub hl [0, 1] rfl) hf
            · rw [if_neg c33] at hf
              refine lv_aload_n C.1 C.2.1 dX2_rideAndStare_103 rfl (lv_at hl 0 rfl) ?_
              refine gf_X2_43 C X w (su_same h b P31) hb dX2_rideAndStare_104 ?_
              refine lv_iload_n C.1 C.2.1 dX2_rideAndStare_107 rfl (lv_at hl 1 rfl) ?_
              refine lv_dup2_11 C.1 C.2.1 dX2_rideAndStare_108 rfl rfl ?_
              obtain ⟨i34, hf⟩ := ck_e hf
              refine x_pld (b := b) (k := 4) (o := 15) (j := v1.toNatClampNeg) C X w (su_same h b P31) hb (by decide) (by decide) rfl i34 rfl dX2_rideAndStare_109 ?_
              refine lv_iconst (v := 1) C.1 C.2.1 dX2_rideAndStare_110 (by decide) ?_
              refine lv_iadd C.1 C.2.1 dX2_rideAndStare_111 ?_
              obtain ⟨i35, hf⟩ := ck_e hf
              obtain ⟨P36, eP36, hf⟩ := bd_e hf
              refine x_pst (k := 4) (o := 15) (j := v1.toNatClampNeg) C X hI w hb (by decide) (by decide) rfl i35 rfl dX2_rideAndStare_112 (fun H locs w => ?_)
              replace w := at_eqP eP36 w
              refine lv_aload_n C.1 C.2.1 dX2_rideAndStare_113 rfl (lv_at hl 0 rfl) ?_
              refine gf_X2_46 C X w (su_same h b P36) hb dX2_rideAndStare_114 ?_
              refine lv_iload_n C.1 C.2.1 dX2_rideAndStare_117 rfl (lv_at hl 1 rfl) ?_
              refine lv_dup2_11 C.1 C.2.1 dX2_rideAndStare_118 rfl rfl ?_
              obtain ⟨i37, hf⟩ := ck_e hf
              refine x_pld (b := b) (k := 5) (o := 20) (j := v1.toNatClampNeg) C X w (su_same h b P36) hb (by decide) (by decide) rfl i37 rfl dX2_rideAndStare_119 ?_
              refine lv_iconst (v := 1) C.1 C.2.1 dX2_rideAndStare_120 (by decide) ?_
              refine lv_iadd C.1 C.2.1 dX2_rideAndStare_121 ?_
              obtain ⟨i38, hf⟩ := ck_e hf
              obtain ⟨P39, eP39, hf⟩ := bd_e hf
              refine x_pst (k := 5) (o := 20) (j := v1.toNatClampNeg) C X hI w hb (by decide) (by decide) rfl i38 rfl dX2_rideAndStare_122 (fun H locs w => ?_)
              replace w := at_eqP eP39 w
              exact w_X2_rideAndStare_123 C hr hlk X hI hb ih _ _ _ _ _ w (lv_sub hl [0, 1] rfl) hf
      · rw [if_neg c24] at hf
        refine lv_aload_n C.1 C.2.1 dX2_rideAndStare_15 rfl (lv_at hl 0 rfl) ?_
        refine gf_X2_40 C X w (su_same h b P) hb dX2_rideAndStare_16 ?_
        refine lv_iload_n C.1 C.2.1 dX2_rideAndStare_19 rfl (lv_at hl 1 rfl) ?_
        refine lv_dup2_11 C.1 C.2.1 dX2_rideAndStare_20 rfl rfl ?_
        obtain ⟨i40, hf⟩ := ck_e hf
        refine x_pld (b := b) (k := 3) (o := 10) (j := v1.toNatClampNeg) C X w (su_same h b P) hb (by decide) (by decide) rfl i40 rfl dX2_rideAndStare_21 ?_
        refine lv_iconst (v := 1) C.1 C.2.1 dX2_rideAndStare_22 (by decide) ?_
        refine lv_iadd C.1 C.2.1 dX2_rideAndStare_23 ?_
        obtain ⟨i41, hf⟩ := ck_e hf
        obtain ⟨P42, eP42, hf⟩ := bd_e hf
        refine x_pst (k := 3) (o := 10) (j := v1.toNatClampNeg) C X hI w hb (by decide) (by decide) rfl i41 rfl dX2_rideAndStare_24 (fun H locs w => ?_)
        replace w := at_eqP eP42 w
        refine lv_aload_n C.1 C.2.1 dX2_rideAndStare_25 rfl (lv_at hl 0 rfl) ?_
        refine gf_X2_37 C X w (su_same h b P42) hb dX2_rideAndStare_26 ?_
        refine lv_iload_n C.1 C.2.1 dX2_rideAndStare_29 rfl (lv_at hl 1 rfl) ?_
        refine lv_dup2_11 C.1 C.2.1 dX2_rideAndStare_30 rfl rfl ?_
        obtain ⟨i43, hf⟩ := ck_e hf
        refine x_pld (b := b) (k := 2) (o := 5) (j := v1.toNatClampNeg) C X w (su_same h b P42) hb (by decide) (by decide) rfl i43 rfl dX2_rideAndStare_31 ?_
        refine lv_iconst (v := 1) C.1 C.2.1 dX2_rideAndStare_32 (by decide) ?_
        refine lv_iadd C.1 C.2.1 dX2_rideAndStare_33 ?_
        obtain ⟨i44, hf⟩ := ck_e hf
        obtain ⟨P45, eP45, hf⟩ := bd_e hf
        refine x_pst (k := 2) (o := 5) (j := v1.toNatClampNeg) C X hI w hb (by decide) (by decide) rfl i44 rfl dX2_rideAndStare_34 (fun H locs w => ?_)
        replace w := at_eqP eP45 w
        refine lv_aload_n C.1 C.2.1 dX2_rideAndStare_35 rfl (lv_at hl 0 rfl) ?_
        refine gf_X2_33 C X w (su_same h b P45) hb dX2_rideAndStare_36 ?_
        refine lv_iload_n C.1 C.2.1 dX2_rideAndStare_39 rfl (lv_at hl 1 rfl) ?_
        refine lv_iconst (v := 0) C.1 C.2.1 dX2_rideAndStare_40 (by decide) ?_
        refine lv_aload_n C.1 C.2.1 dX2_rideAndStare_41 rfl (lv_at hl 0 rfl) ?_
        refine gf_X2_33 C X w (su_same h b P45) hb dX2_rideAndStare_42 ?_
        refine lv_iload_n C.1 C.2.1 dX2_rideAndStare_45 rfl (lv_at hl 1 rfl) ?_
        obtain ⟨i46, hf⟩ := ck_e hf
        refine x_pld (b := b) (k := 1) (o := 0) (j := v1.toNatClampNeg) C X w (su_same h b P45) hb (by decide) (by decide) rfl i46 rfl dX2_rideAndStare_46 ?_
        refine lv_iconst (v := 1) C.1 C.2.1 dX2_rideAndStare_47 (by decide) ?_
        refine lv_isub C.1 C.2.1 dX2_rideAndStare_48 ?_
        refine va_mmax C.1 C.2.1 (C.2.2.1.trans hl.1.symm) C.2.2.2.1 (C.2.2.2.2 _ wd_methodLink_OneTricycle_Play_119_java_lang_Math_max_II_I_) (C.2.2.2.2 _ wd_static_java_lang_Math_max_II_I_) (C.2.2.2.2 _ wd_initialized_java_lang_Math_) (C.2.2.2.2 _ wd_code_Math_max) (Nat.le_of_ble_eq_true rfl) (Nat.le_of_ble_eq_true rfl) (Nat.le_of_ble_eq_true rfl) (Nat.le_of_ble_eq_true rfl) dX2_rideAndStare_49 ?_
        obtain ⟨i47, hf⟩ := ck_e hf
        obtain ⟨P48, eP48, hf⟩ := bd_e hf
        refine x_pst (k := 1) (o := 0) (j := v1.toNatClampNeg) C X hI w hb (by decide) (by decide) rfl i47 rfl dX2_rideAndStare_52 (fun H locs w => ?_)
        replace w := at_eqP eP48 w
        refine lv_goto (tgt := 123) C.1 C.2.1 dX2_rideAndStare_53 (by decide) ?_
        exact w_X2_rideAndStare_123 C hr hlk X hI hb ih _ _ _ _ _ w (lv_sub hl [0, 1] rfl) hf
def qX2_rideAndStare (P : Row) : Option (Row) :=
(qX2_rideAndStare_2 600 P (0 : Int32))
set_option maxHeartbeats 4000000 in
set_option maxRecDepth 100000 in
theorem c_X2_rideAndStare {l : Launch} {E : Ev} {ad : Nat → Nat} {g : Gp} {h : Hp} {b : Nat} {P : Row} {P9 : Row} (hI : Inj ad) (hb : b < 18) (hf : qX2_rideAndStare P = some P9) : CtV l yX2_rideAndStare cX2_rideAndStare 2 none 2 42 E ad g g [.ref (ad (7 * b))] (su h b P) (su h b P9) := by
  refine x_begin (by decide) (Nat.le_of_ble_eq_true rfl) ?_
  intro p e s m below meth c ls C hr hlk X w hl
  replace hl : lv_has ls 2 [(0, .ref (ad (7 * b)))] := hl
  replace C : CallFix p m c cX2_rideAndStare 2 s ([.ref (ad (7 * b))] : List Value).toArray lwA RX2 := C
  unfold qX2_rideAndStare at hf
  refine lv_iconst (v := 0) C.1 C.2.1 dX2_rideAndStare_0 (by decide) ?_
  refine lv_istore_n (lv' := [(1, .int (0 : Int32)), (0, .ref (ad (7 * b)))]) C.1 C.2.1 dX2_rideAndStare_1 rfl hl (by decide) rfl (fun ls hl => ?_)
  exact w_X2_rideAndStare_2 C hr hlk X hI hb 600 _ _ _ _ _ w (lv_sub hl [1, 0] rfl) hf

def qX2_passMinute_20 (R22 : Row) (R23 : Row) (k2 : Row → Int32 → Option (Row)) (P : Row) (v1 : Int32) : Option (Row) :=
(k2 P (v1 + 1))
set_option maxHeartbeats 4000000 in
set_option maxRecDepth 100000 in
theorem w_X2_passMinute_20 {p : Program} {l : Launch} {e : Env} {s : State} {m : MethodId} {args : Array Value} {below : List Frame} {meth : Method} {c : Code} {E : Ev} {ad : Nat → Nat} {g : Gp} {h : Hp} {b : Nat} {P9 : Row} {k2 : Row → Int32 → Option (Row)} (C : CallFix p m c cX2_passMinute 3 s args lwA RX2) (hr : meth.sig.returnType = none) (hlk : meth.locks = false) (X : Sx E ad s) (hI : Inj ad) (hb : b < 18) (hk2 : ∀ (P : Row) (v1 : Int32) (H : Heap) (locs : List Loc) (ls : Array Slot), At E ad (su h b P) g s H locs → lv_has ls 3 [(0, .ref (ad (7 * b))), (1, .int v1)] → k2 P v1 = some P9 → W p l e (RM 4 91) s m args below meth c H locs 0 0 (QV E ad (su h b P9) g below args s) (F0 m 2 ls [])) : ∀ (P : Row) (v1 : Int32) (H : Heap) (locs : List Loc) (ls : Array Slot), At E ad (su h b P) g s H locs → lv_has ls 3 [(0, .ref (ad (7 * b))), (1, .int v1)] → qX2_passMinute_20 (h 22) (h 23) k2 P v1 = some P9 → W p l e (RM 4 91) s m args below meth c H locs 0 0 (QV E ad (su h b P9) g below args s) (F0 m 20 ls []) := by
  intro P v1 H locs ls w hl hf
  unfold qX2_passMinute_20 at hf
  refine lv_iinc (v := (v1 + 1)) (lv' := [(1, .int (v1 + 1)), (0, .ref (ad (7 * b)))]) C.1 C.2.1 dX2_passMinute_20 hl (k := 1) rfl (congrArg (fun z => v1 + z) (by decide)) (by decide) rfl (fun ls hl => ?_)
  refine lv_goto (tgt := 2) C.1 C.2.1 dX2_passMinute_23 (by decide) ?_
  exact hk2 _ _ _ _ _ w (lv_sub hl [1, 0] rfl) hf
def qX2_passMinute_68 (R22 : Row) (R23 : Row) (P : Row) : Option (Row) :=
(bi1 (qX2_rideAndStare P) (fun P39 =>
(bd (upd P39 35 ((P39 35) + (1 : Int32))) (fun P40 =>
(some P40)))))
set_option maxHeartbeats 4000000 in
set_option maxRecDepth 100000 in
theorem w_X2_passMinute_68 {p : Program} {l : Launch} {e : Env} {s : State} {m : MethodId} {args : Array Value} {below : List Frame} {meth : Method} {c : Code} {E : Ev} {ad : Nat → Nat} {g : Gp} {h : Hp} {b : Nat} {P9 : Row} (C : CallFix p m c cX2_passMinute 3 s args lwA RX2) (hr : meth.sig.returnType = none) (hlk : meth.locks = false) (X : Sx E ad s) (hI : Inj ad) (hb : b < 18)  : ∀ (P : Row) (H : Heap) (locs : List Loc) (ls : Array Slot), At E ad (su h b P) g s H locs → lv_has ls 3 [(0, .ref (ad (7 * b)))] → qX2_passMinute_68 (h 22) (h 23) P = some P9 → W p l e (RM 4 91) s m args below meth c H locs 0 0 (QV E ad (su h b P9) g below args s) (F0 m 68 ls []) := by
  intro P H locs ls w hl hf
  unfold qX2_passMinute_68 at hf
  refine lv_aload_n C.1 C.2.1 dX2_passMinute_68 rfl (lv_at hl 0 rfl) ?_
  obtain ⟨P39, eq37, hf⟩ := bi1_e hf
  refine x_cVv (As := []) (rest := []) C X w (c_X2_rideAndStare hI hb eq37) mw_X2_rideAndStare ml_X2_110 (rcv_P (su_same _ _ _) hb) rfl hl.1 rfl (Nat.le_of_ble_eq_true rfl) ⟨⟨Nat.le_of_ble_eq_true rfl, Nat.le_of_ble_eq_true rfl⟩, Nat.le_of_ble_eq_true rfl, Nat.le_of_ble_eq_true rfl⟩ dX2_passMinute_69 (fun H locs w => ?_)
  refine lv_aload_n C.1 C.2.1 dX2_passMinute_72 rfl (lv_at hl 0 rfl) ?_
  refine lv_dup C.1 C.2.1 dX2_passMinute_73 rfl ?_
  refine gf_X2_30 C X w (su_same h b P39) hb dX2_passMinute_74 ?_
  refine lv_iconst (v := 1) C.1 C.2.1 dX2_passMinute_77 (by decide) ?_
  refine lv_iadd C.1 C.2.1 dX2_passMinute_78 ?_
  obtain ⟨P40, eP40, hf⟩ := bd_e hf
  refine pf_X2_30 C X hI w hb dX2_passMinute_79 (fun H locs w => ?_)
  replace w := at_eqP eP40 w
  cases hf
  exact x_vret C hr hlk w dX2_passMinute_82
def qX2_passMinute_39 (R22 : Row) (R23 : Row) : Nat → Row → Int32 → Option (Row)
  | 0, _, _ => none
  | n + 1, P, v1 =>
    (if v1 ≤ 0 then (qX2_passMinute_68 R22 R23 P)
    else (bi1 (qX2_next R22 R23 P) (fun r32 =>
    (if r32 = (-9 : Int32) then (qX2_passMinute_68 R22 R23 P)
    else (bi1 (qX2_getOn P r32) (fun P36 =>
    (qX2_passMinute_39 R22 R23 n P36 (v1 + (-1)))))))))
set_option maxHeartbeats 4000000 in
set_option maxRecDepth 100000 in
theorem w_X2_passMinute_39 {p : Program} {l : Launch} {e : Env} {s : State} {m : MethodId} {args : Array Value} {below : List Frame} {meth : Method} {c : Code} {E : Ev} {ad : Nat → Nat} {g : Gp} {h : Hp} {b : Nat} {P9 : Row} (C : CallFix p m c cX2_passMinute 3 s args lwA RX2) (hr : meth.sig.returnType = none) (hlk : meth.locks = false) (X : Sx E ad s) (hI : Inj ad) (hb : b < 18)  : ∀ (n : Nat), ∀ (P : Row) (v1 : Int32) (H : Heap) (locs : List Loc) (ls : Array Slot), At E ad (su h b P) g s H locs → lv_has ls 3 [(0, .ref (ad (7 * b))), (1, .int v1)] → qX2_passMinute_39 (h 22) (h 23) n P v1 = some P9 → W p l e (RM 4 91) s m args below meth c H locs 0 0 (QV E ad (su h b P9) g below args s) (F0 m 39 ls []) := by
  intro n
  induction n with
  | zero =>
    intro P v1 H locs ls w hl hf
    cases hf
  | succ n ih =>
    intro P v1 H locs ls w hl hf
    rw [qX2_passMinute_39] at hf
    refine lv_iload_n C.1 C.2.1 dX2_passMinute_39 rfl (lv_at hl 1 rfl) ?_
    refine lv_if_le (tgt := 68) C.1 C.2.1 dX2_passMinute_40 (by decide) (fun c30 => ?_) (fun c30 => ?_)
    · rw [if_pos c30] at hf
      exact w_X2_passMinute_68 C hr hlk X hI hb _ _ _ _ w (lv_sub hl [0] rfl) hf
    · rw [if_neg c30] at hf
      refine lv_aload_n C.1 C.2.1 dX2_passMinute_43 rfl (lv_at hl 0 rfl) ?_
      obtain ⟨r32, eq31, hf⟩ := bi1_e hf
      refine x_cVi (As := []) (rest := []) C X w (c_X2_next hI hb eq31) mw_X2_next ml_X2_104 (rcv_P (su_same _ _ _) hb) rfl hl.1 rfl (Nat.le_of_ble_eq_true rfl) ⟨⟨Nat.le_of_ble_eq_true rfl, Nat.le_of_ble_eq_true rfl⟩, Nat.le_of_ble_eq_true rfl, Nat.le_of_ble_eq_true rfl⟩ dX2_passMinute_44 (fun H locs w => ?_)
      refine lv_istore_n (lv' := [(2, .int r32), (0, .ref (ad (7 * b))), (1, .int v1)]) C.1 C.2.1 dX2_passMinute_47 rfl hl (by decide) rfl (fun ls hl => ?_)
      refine lv_iload_n C.1 C.2.1 dX2_passMinute_48 rfl (lv_at hl 0 rfl) ?_
      refine lv_bipush (v := -9) C.1 C.2.1 dX2_passMinute_49 (by decide) ?_
      refine lv_icmp_ne (tgt := 57) C.1 C.2.1 dX2_passMinute_51 (by decide) (fun c33 => ?_) (fun c33 => ?_)
      · rw [if_neg c33] at hf
        refine lv_aload_n C.1 C.2.1 dX2_passMinute_57 rfl (lv_at hl 1 rfl) ?_
        refine lv_iload_n C.1 C.2.1 dX2_passMinute_58 rfl (lv_at hl 0 rfl) ?_
        obtain ⟨P36, eq34, hf⟩ := bi1_e hf
        refine x_cVv (As := [.int r32]) (rest := []) C X w (c_X2_getOn hI hb eq34) mw_X2_getOn ml_X2_107 (rcv_P (su_same _ _ _) hb) rfl hl.1 rfl (Nat.le_of_ble_eq_true rfl) ⟨⟨Nat.le_of_ble_eq_true rfl, Nat.le_of_ble_eq_true rfl⟩, Nat.le_of_ble_eq_true rfl, Nat.le_of_ble_eq_true rfl⟩ dX2_passMinute_59 (fun H locs w => ?_)
        refine lv_iinc (v := (v1 + (-1))) (lv' := [(1, .int (v1 + (-1))), (2, .int r32), (0, .ref (ad (7 * b)))]) C.1 C.2.1 dX2_passMinute_62 hl (k := 2) rfl (congrArg (fun z => v1 + z) (by decide)) (by decide) rfl (fun ls hl => ?_)
        refine lv_goto (tgt := 39) C.1 C.2.1 dX2_passMinute_65 (by decide) ?_
        exact ih _ _ _ _ _ w (lv_sub hl [2, 0] rfl) hf
      · rw [if_pos c33] at hf
        refine lv_goto (tgt := 68) C.1 C.2.1 dX2_passMinute_54 (by decide) ?_
        exact w_X2_passMinute_68 C hr hlk X hI hb _ _ _ _ w (lv_sub hl [1] rfl) hf
def qX2_passMinute_2 (R22 : Row) (R23 : Row) : Nat → Row → Int32 → Option (Row)
  | 0, _, _ => none
  | n + 1, P, v1 =>
    (if (5 : Int32) ≤ v1 then (bi1 (qJ6_bitCount (P 30)) (fun r23 =>
    (qX2_passMinute_39 R22 R23 600 P ((P 34) - r23))))
    else (bi1 (qX2_rides P v1) (fun r25 =>
    (if r25 = 0 then (qX2_passMinute_20 R22 R23 (qX2_passMinute_2 R22 R23 n) P v1)
    else (bi1 (qX2_getOffIfDue R22 R23 P v1) (fun P29 =>
    (qX2_passMinute_20 R22 R23 (qX2_passMinute_2 R22 R23 n) P29 v1)))))))
set_option maxHeartbeats 4000000 in
set_option maxRecDepth 100000 in
theorem w_X2_passMinute_2 {p : Program} {l : Launch} {e : Env} {s : State} {m : MethodId} {args : Array Value} {below : List Frame} {meth : Method} {c : Code} {E : Ev} {ad : Nat → Nat} {g : Gp} {h : Hp} {b : Nat} {P9 : Row} (C : CallFix p m c cX2_passMinute 3 s args lwA RX2) (hr : meth.sig.returnType = none) (hlk : meth.locks = false) (X : Sx E ad s) (hI : Inj ad) (hb : b < 18)  : ∀ (n : Nat), ∀ (P : Row) (v1 : Int32) (H : Heap) (locs : List Loc) (ls : Array Slot), At E ad (su h b P) g s H locs → lv_has ls 3 [(0, .ref (ad (7 * b))), (1, .int v1)] → qX2_passMinute_2 (h 22) (h 23) n P v1 = some P9 → W p l e (RM 4 91) s m args below meth c H locs 0 0 (QV E ad (su h b P9) g below args s) (F0 m 2 ls []) := by
  intro n
  induction n with
  | zero =>
    intro P v1 H locs ls w hl hf
    cases hf
  | succ n ih =>
    intro P v1 H locs ls w hl hf
    rw [qX2_passMinute_2] at hf
    refine lv_iload_n C.1 C.2.1 dX2_passMinute_2 rfl (lv_at hl 1 rfl) ?_
    refine lv_iconst (v := 5) C.1 C.2.1 dX2_passMinute_3 (by decide) ?_
    refine lv_icmp_ge (tgt := 26) C.1 C.2.1 dX2_passMinute_4 (by decide) (fun c21 => ?_) (fun c21 => ?_)
    · rw [if_pos c21] at hf
      refine lv_aload_n C.1 C.2.1 dX2_passMinute_26 rfl (lv_at hl 0 rfl) ?_
      refine gf_X2_27 C X w (su_same h b P) hb dX2_passMinute_27 ?_
      refine lv_aload_n C.1 C.2.1 dX2_passMinute_30 rfl (lv_at hl 0 rfl) ?_
      refine gf_X2_15 C X w (su_same h b P) hb dX2_passMinute_31 ?_
      obtain ⟨r23, eq22, hf⟩ := bi1_e hf
      refine x_cSi (As := [.int (P 30)]) (rest := [.int (P 34)]) C X w (c_J6_bitCount hI  eq22) mw_J6_bitCount ml_X2_99 rfl hl.1 rfl (Nat.le_of_ble_eq_true rfl) ⟨⟨Nat.le_of_ble_eq_true rfl, Nat.le_of_ble_eq_true rfl⟩, Nat.le_of_ble_eq_true rfl, Nat.le_of_ble_eq_true rfl⟩ dX2_passMinute_34 (fun H locs w => ?_)
      refine lv_isub C.1 C.2.1 dX2_passMinute_37 ?_
      refine lv_istore_n (lv' := [(1, .int ((P 34) - r23)), (0, .ref (ad (7 * b)))]) C.1 C.2.1 dX2_passMinute_38 rfl hl (by decide) rfl (fun ls hl => ?_)
      exact w_X2_passMinute_39 C hr hlk X hI hb 600 _ _ _ _ _ w (lv_sub hl [1, 0] rfl) hf
    · rw [if_neg c21] at hf
      refine lv_aload_n C.1 C.2.1 dX2_passMinute_7 rfl (lv_at hl 0 rfl) ?_
      refine lv_iload_n C.1 C.2.1 dX2_passMinute_8 rfl (lv_at hl 1 rfl) ?_
      obtain ⟨r25, eq24, hf⟩ := bi1_e hf
      refine x_cVi (As := [.int v1]) (rest := []) C X w (c_X2_rides hI hb eq24) mw_X2_rides ml_X2_91 (rcv_P (su_same _ _ _) hb) rfl hl.1 rfl (Nat.le_of_ble_eq_true rfl) ⟨⟨Nat.le_of_ble_eq_true rfl, Nat.le_of_ble_eq_true rfl⟩, Nat.le_of_ble_eq_true rfl, Nat.le_of_ble_eq_true rfl⟩ dX2_passMinute_9 (fun H locs w => ?_)
      refine lv_if_eq (tgt := 20) C.1 C.2.1 dX2_passMinute_12 (by decide) (fun c26 => ?_) (fun c26 => ?_)
      · rw [if_pos c26] at hf
        exact w_X2_passMinute_20 C hr hlk X hI hb ih _ _ _ _ _ w (lv_sub hl [0, 1] rfl) hf
      · rw [if_neg c26] at hf
        refine lv_aload_n C.1 C.2.1 dX2_passMinute_15 rfl (lv_at hl 0 rfl) ?_
        refine lv_iload_n C.1 C.2.1 dX2_passMinute_16 rfl (lv_at hl 1 rfl) ?_
        obtain ⟨P29, eq27, hf⟩ := bi1_e hf
        refine x_cVv (As := [.int v1]) (rest := []) C X w (c_X2_getOffIfDue hI hb eq27) mw_X2_getOffIfDue ml_X2_95 (rcv_P (su_same _ _ _) hb) rfl hl.1 rfl (Nat.le_of_ble_eq_true rfl) ⟨⟨Nat.le_of_ble_eq_true rfl, Nat.le_of_ble_eq_true rfl⟩, Nat.le_of_ble_eq_true rfl, Nat.le_of_ble_eq_true rfl⟩ dX2_passMinute_17 (fun H locs w => ?_)
        exact w_X2_passMinute_20 C hr hlk X hI hb ih _ _ _ _ _ w (lv_sub hl [0, 1] rfl) hf
def qX2_passMinute (R22 : Row) (R23 : Row) (P : Row) : Option (Row) :=
(qX2_passMinute_2 R22 R23 600 P (0 : Int32))
set_option maxHeartbeats 4000000 in
set_option maxRecDepth 100000 in
theorem c_X2_passMinute {l : Launch} {E : Ev} {ad : Nat → Nat} {g : Gp} {h : Hp} {b : Nat} {P : Row} {P9 : Row} (hI : Inj ad) (hb : b < 18) (hf : qX2_passMinute (h 22) (h 23) P = some P9) : CtV l yX2_passMinute cX2_passMinute 3 none 4 91 E ad g g [.ref (ad (7 * b))] (su h b P) (su h b P9) := by
  refine x_begin (by decide) (Nat.le_of_ble_eq_true rfl) ?_
  intro p e s m below meth c ls C hr hlk X w hl
  replace hl : lv_has ls 3 [(0, .ref (ad (7 * b)))] := hl
  replace C : CallFix p m c cX2_passMinute 3 s ([.ref (ad (7 * b))] : List Value).toArray lwA RX2 := C
  unfold qX2_passMinute at hf
  refine lv_iconst (v := 0) C.1 C.2.1 dX2_passMinute_0 (by decide) ?_
  refine lv_istore_n (lv' := [(1, .int (0 : Int32)), (0, .ref (ad (7 * b)))]) C.1 C.2.1 dX2_passMinute_1 rfl hl (by decide) rfl (fun ls hl => ?_)
  exact w_X2_passMinute_2 C hr hlk X hI hb 600 _ _ _ _ _ w (lv_sub hl [1, 0] rfl) hf

def qX2_canBePushed (P : Row) (x1 : Int32) : Option (Int32) :=
(bi1 (qX2_isThere P x1) (fun r22 =>
(if r22 = 0 then (some (0 : Int32))
else (bi1 (qX2_rides P x1) (fun r25 =>
(if r25 = 0 then (some (0 : Int32))
else (some (1 : Int32))))))))
set_option maxHeartbeats 4000000 in
set_option maxRecDepth 100000 in
theorem c_X2_canBePushed {l : Launch} {E : Ev} {ad : Nat → Nat} {g : Gp} {h : Hp} {b : Nat} {P : Row} {x1 : Int32} {r : Int32} (hI : Inj ad) (hb : b < 18) (hf : qX2_canBePushed P x1 = some r) : CtI l yX2_canBePushed cX2_canBePushed 2 (some .boolean) 2 42 E ad g g [.ref (ad (7 * b)), .int x1] (su h b P) (su h b P) r := by
  refine x_begin (by decide) (Nat.le_of_ble_eq_true rfl) ?_
  intro p e s m below meth c ls C hr hlk X w hl
  replace hl : lv_has ls 2 [(0, .ref (ad (7 * b))), (1, .int x1)] := hl
  replace C : CallFix p m c cX2_canBePushed 2 s ([.ref (ad (7 * b)), .int x1] : List Value).toArray lwA RX2 := C
  unfold qX2_canBePushed at hf
  refine lv_aload_n C.1 C.2.1 dX2_canBePushed_0 rfl (lv_at hl 0 rfl) ?_
  refine lv_iload_n C.1 C.2.1 dX2_canBePushed_1 rfl (lv_at hl 1 rfl) ?_
  obtain ⟨r22, eq21, hf⟩ := bi1_e hf
  refine x_cVi (As := [.int x1]) (rest := []) C X w (c_X2_isThere hI hb eq21) mw_X2_isThere ml_X2_127 (rcv_P (su_same _ _ _) hb) rfl hl.1 rfl (Nat.le_of_ble_eq_true rfl) ⟨⟨Nat.le_of_ble_eq_true rfl, Nat.le_of_ble_eq_true rfl⟩, Nat.le_of_ble_eq_true rfl, Nat.le_of_ble_eq_true rfl⟩ dX2_canBePushed_2 (fun H locs w => ?_)
  refine lv_if_eq (tgt := 20) C.1 C.2.1 dX2_canBePushed_5 (by decide) (fun c23 => ?_) (fun c23 => ?_)
  · rw [if_pos c23] at hf
    refine lv_iconst (v := 0) C.1 C.2.1 dX2_canBePushed_20 (by decide) ?_
    cases hf
    exact x_zret C hr hlk w rfl dX2_canBePushed_21
  · rw [if_neg c23] at hf
    refine lv_aload_n C.1 C.2.1 dX2_canBePushed_8 rfl (lv_at hl 0 rfl) ?_
    refine lv_iload_n C.1 C.2.1 dX2_canBePushed_9 rfl (lv_at hl 1 rfl) ?_
    obtain ⟨r25, eq24, hf⟩ := bi1_e hf
    refine x_cVi (As := [.int x1]) (rest := []) C X w (c_X2_rides hI hb eq24) mw_X2_rides ml_X2_91 (rcv_P (su_same _ _ _) hb) rfl hl.1 rfl (Nat.le_of_ble_eq_true rfl) ⟨⟨Nat.le_of_ble_eq_true rfl, Nat.le_of_ble_eq_true rfl⟩, Nat.le_of_ble_eq_true rfl, Nat.le_of_ble_eq_true rfl⟩ dX2_canBePushed_10 (fun H locs w => ?_)
    refine lv_if_eq (tgt := 20) C.1 C.2.1 dX2_canBePushed_13 (by decide) (fun c26 => ?_) (fun c26 => ?_)
    · rw [if_pos c26] at hf
      refine lv_iconst (v := 0) C.1 C.2.1 dX2_canBePushed_20 (by decide) ?_
      cases hf
      exact x_zret C hr hlk w rfl dX2_canBePushed_21
    · rw [if_neg c26] at hf
      refine lv_iconst (v := 1) C.1 C.2.1 dX2_canBePushed_16 (by decide) ?_
      refine lv_goto (tgt := 21) C.1 C.2.1 dX2_canBePushed_17 (by decide) ?_
      cases hf
      exact x_zret C hr hlk w rfl dX2_canBePushed_21

def qX2_canBeCalled (P : Row) (x1 : Int32) : Option (Int32) :=
(bi1 (qX2_isThere P x1) (fun r22 =>
(if r22 = 0 then (some (0 : Int32))
else (bi1 (qX2_rides P x1) (fun r25 =>
(if r25 = 0 then (ck (inb x1 5) ((if (P (0 + x1.toNatClampNeg)) ≤ 0 then (some (0 : Int32))
else (some (1 : Int32)))))
else (some (0 : Int32))))))))
set_option maxHeartbeats 4000000 in
set_option maxRecDepth 100000 in
theorem c_X2_canBeCalled {l : Launch} {E : Ev} {ad : Nat → Nat} {g : Gp} {h : Hp} {b : Nat} {P : Row} {x1 : Int32} {r : Int32} (hI : Inj ad) (hb : b < 18) (hf : qX2_canBeCalled P x1 = some r) : CtI l yX2_canBeCalled cX2_canBeCalled 2 (some .boolean) 2 42 E ad g g [.ref (ad (7 * b)), .int x1] (su h b P) (su h b P) r := by
  refine x_begin (by decide) (Nat.le_of_ble_eq_true rfl) ?_
  intro p e s m below meth c ls C hr hlk X w hl
  replace hl : lv_has ls 2 [(0, .ref (ad (7 * b))), (1, .int x1)] := hl
  replace C : CallFix p m c cX2_canBeCalled 2 s ([.ref (ad (7 * b)), .int x1] : List Value).toArray lwA RX2 := C
  unfold qX2_canBeCalled at hf
  refine lv_aload_n C.1 C.2.1 dX2_canBeCalled_0 rfl (lv_at hl 0 rfl) ?_
  refine lv_iload_n C.1 C.2.1 dX2_canBeCalled_1 rfl (lv_at hl 1 rfl) ?_
  obtain ⟨r22, eq21, hf⟩ := bi1_e hf
  refine x_cVi (As := [.int x1]) (rest := []) C X w (c_X2_isThere hI hb eq21) mw_X2_isThere ml_X2_127 (rcv_P (su_same _ _ _) hb) rfl hl.1 rfl (Nat.le_of_ble_eq_true rfl) ⟨⟨Nat.le_of_ble_eq_true rfl, Nat.le_of_ble_eq_true rfl⟩, Nat.le_of_ble_eq_true rfl, Nat.le_of_ble_eq_true rfl⟩ dX2_canBeCalled_2 (fun H locs w => ?_)
  refine lv_if_eq (tgt := 29) C.1 C.2.1 dX2_canBeCalled_5 (by decide) (fun c23 => ?_) (fun c23 => ?_)
  · rw [if_pos c23] at hf
    refine lv_iconst (v := 0) C.1 C.2.1 dX2_canBeCalled_29 (by decide) ?_
    cases hf
    exact x_zret C hr hlk w rfl dX2_canBeCalled_30
  · rw [if_neg c23] at hf
    refine lv_aload_n C.1 C.2.1 dX2_canBeCalled_8 rfl (lv_at hl 0 rfl) ?_
    refine lv_iload_n C.1 C.2.1 dX2_canBeCalled_9 rfl (lv_at hl 1 rfl) ?_
    obtain ⟨r25, eq24, hf⟩ := bi1_e hf
    refine x_cVi (As := [.int x1]) (rest := []) C X w (c_X2_rides hI hb eq24) mw_X2_rides ml_X2_91 (rcv_P (su_same _ _ _) hb) rfl hl.1 rfl (Nat.le_of_ble_eq_true rfl) ⟨⟨Nat.le_of_ble_eq_true rfl, Nat.le_of_ble_eq_true rfl⟩, Nat.le_of_ble_eq_true rfl, Nat.le_of_ble_eq_true rfl⟩ dX2_canBeCalled_10 (fun H locs w => ?_)
    refine lv_if_ne (tgt := 29) C.1 C.2.1 dX2_canBeCalled_13 (by decide) (fun c26 => ?_) (fun c26 => ?_)
    · rw [if_neg c26] at hf
      refine lv_iconst (v := 0) C.1 C.2.1 dX2_canBeCalled_29 (by decide) ?_
      cases hf
      exact x_zret C hr hlk w rfl dX2_canBeCalled_30
    · rw [if_pos c26] at hf
      refine lv_aload_n C.1 C.2.1 dX2_canBeCalled_16 rfl (lv_at hl 0 rfl) ?_
      refine gf_X2_33 C X w (su_same h b P) hb dX2_canBeCalled_17 ?_
      refine lv_iload_n C.1 C.2.1 dX2_canBeCalled_20 rfl (lv_at hl 1 rfl) ?_
      obtain ⟨i27, hf⟩ := ck_e hf
      refine x_pld (b := b) (k := 1) (o := 0) (j := x1.toNatClampNeg) C X w (su_same h b P) hb (by decide) (by decide) rfl i27 rfl dX2_canBeCalled_21 ?_
      refine lv_if_le (tgt := 29) C.1 C.2.1 dX2_canBeCalled_22 (by decide) (fun c28 => ?_) (fun c28 => ?_)
      · rw [if_pos c28] at hf
        refine lv_iconst (v := 0) C.1 C.2.1 dX2_canBeCalled_29 (by decide) ?_
        cases hf
        exact x_zret C hr hlk w rfl dX2_canBeCalled_30
      · rw [if_neg c28] at hf
        refine lv_iconst (v := 1) C.1 C.2.1 dX2_canBeCalled_25 (by decide) ?_
        refine lv_goto (tgt := 30) C.1 C.2.1 dX2_canBeCalled_26 (by decide) ?_
        cases hf
        exact x_zret C hr hlk w rfl dX2_canBeCalled_30

def qX2_callAway (P : Row) (x1 : Int32) : Option (Row) :=
(ck (inb x1 5) (bd (upd P (0 + x1.toNatClampNeg) (0 : Int32)) (fun P22 =>
(some P22))))
set_option maxHeartbeats 4000000 in
set_option maxRecDepth 100000 in
theorem c_X2_callAway {l : Launch} {E : Ev} {ad : Nat → Nat} {g : Gp} {h : Hp} {b : Nat} {P : Row} {x1 : Int32} {P9 : Row} (hI : Inj ad) (hb : b < 18) (hf : qX2_callAway P x1 = some P9) : CtV l yX2_callAway cX2_callAway 2 none 0 0 E ad g g [.ref (ad (7 * b)), .int x1] (su h b P) (su h b P9) := by
  refine x_begin (by decide) (Nat.le_of_ble_eq_true rfl) ?_
  intro p e s m below meth c ls C hr hlk X w hl
  replace hl : lv_has ls 2 [(0, .ref (ad (7 * b))), (1, .int x1)] := hl
  replace C : CallFix p m c cX2_callAway 2 s ([.ref (ad (7 * b)), .int x1] : List Value).toArray lwA RX2 := C
  unfold qX2_callAway at hf
  refine lv_aload_n C.1 C.2.1 dX2_callAway_0 rfl (lv_at hl 0 rfl) ?_
  refine gf_X2_33 C X w (su_same h b P) hb dX2_callAway_1 ?_
  refine lv_iload_n C.1 C.2.1 dX2_callAway_4 rfl (lv_at hl 1 rfl) ?_
  refine lv_iconst (v := 0) C.1 C.2.1 dX2_callAway_5 (by decide) ?_
  obtain ⟨i21, hf⟩ := ck_e hf
  obtain ⟨P22, eP22, hf⟩ := bd_e hf
  refine x_pst (k := 1) (o := 0) (j := x1.toNatClampNeg) C X hI w hb (by decide) (by decide) rfl i21 rfl dX2_callAway_6 (fun H locs w => ?_)
  replace w := at_eqP eP22 w
  cases hf
  exact x_vret C hr hlk w dX2_callAway_7

def qX2_setRule (P : Row) (x1 : Int32) (x2 : Int32) : Option (Row) :=
(bd (upd P 32 x1) (fun P21 =>
(bd (upd P21 33 x2) (fun P22 =>
(some P22)))))
set_option maxHeartbeats 4000000 in
set_option maxRecDepth 100000 in
theorem c_X2_setRule {l : Launch} {E : Ev} {ad : Nat → Nat} {g : Gp} {h : Hp} {b : Nat} {P : Row} {x1 : Int32} {x2 : Int32} {P9 : Row} (hI : Inj ad) (hb : b < 18) (hf : qX2_setRule P x1 x2 = some P9) : CtV l yX2_setRule cX2_setRule 3 none 0 0 E ad g g [.ref (ad (7 * b)), .int x1, .int x2] (su h b P) (su h b P9) := by
  refine x_begin (by decide) (Nat.le_of_ble_eq_true rfl) ?_
  intro p e s m below meth c ls C hr hlk X w hl
  replace hl : lv_has ls 3 [(0, .ref (ad (7 * b))), (1, .int x1), (2, .int x2)] := hl
  replace C : CallFix p m c cX2_setRule 3 s ([.ref (ad (7 * b)), .int x1, .int x2] : List Value).toArray lwA RX2 := C
  unfold qX2_setRule at hf
  refine lv_aload_n C.1 C.2.1 dX2_setRule_0 rfl (lv_at hl 0 rfl) ?_
  refine lv_iload_n C.1 C.2.1 dX2_setRule_1 rfl (lv_at hl 1 rfl) ?_
  obtain ⟨P21, eP21, hf⟩ := bd_e hf
  refine pf_X2_21 C X hI w hb dX2_setRule_2 (fun H locs w => ?_)
  replace w := at_eqP eP21 w
  refine lv_aload_n C.1 C.2.1 dX2_setRule_5 rfl (lv_at hl 0 rfl) ?_
  refine lv_iload_n C.1 C.2.1 dX2_setRule_6 rfl (lv_at hl 2 rfl) ?_
  obtain ⟨P22, eP22, hf⟩ := bd_e hf
  refine pf_X2_24 C X hI w hb dX2_setRule_7 (fun H locs w => ?_)
  replace w := at_eqP eP22 w
  cases hf
  exact x_vret C hr hlk w dX2_setRule_10

def qX2_leaveRiding_28 (k2 : Row → Int32 → Int32 → Option (Row)) (P : Row) (v1 : Int32) (v2 : Int32) : Option (Row) :=
(k2 P v1 (v2 + 1))
set_option maxHeartbeats 4000000 in
set_option maxRecDepth 100000 in
theorem w_X2_leaveRiding_28 {p : Program} {l : Launch} {e : Env} {s : State} {m : MethodId} {args : Array Value} {below : List Frame} {meth : Method} {c : Code} {E : Ev} {ad : Nat → Nat} {g : Gp} {h : Hp} {b : Nat} {P9 : Row} {k2 : Row → Int32 → Int32 → Option (Row)} (C : CallFix p m c cX2_leaveRiding 3 s args lwA RX2) (hr : meth.sig.returnType = none) (hlk : meth.locks = false) (X : Sx E ad s) (hI : Inj ad) (hb : b < 18) (hk2 : ∀ (P : Row) (v1 : Int32) (v2 : Int32) (H : Heap) (locs : List Loc) (ls : Array Slot), At E ad (su h b P) g s H locs → lv_has ls 3 [(0, .ref (ad (7 * b))), (1, .int v1), (2, .int v2)] → k2 P v1 v2 = some P9 → W p l e (RM 2 42) s m args below meth c H locs 0 0 (QV E ad (su h b P9) g below args s) (F0 m 2 ls [])) : ∀ (P : Row) (v1 : Int32) (v2 : Int32) (H : Heap) (locs : List Loc) (ls : Array Slot), At E ad (su h b P) g s H locs → lv_has ls 3 [(0, .ref (ad (7 * b))), (1, .int v1), (2, .int v2)] → qX2_leaveRiding_28 k2 P v1 v2 = some P9 → W p l e (RM 2 42) s m args below meth c H locs 0 0 (QV E ad (su h b P9) g below args s) (F0 m 28 ls []) := by
  intro P v1 v2 H locs ls w hl hf
  unfold qX2_leaveRiding_28 at hf
  refine lv_iinc (v := (v2 + 1)) (lv' := [(2, .int (v2 + 1)), (0, .ref (ad (7 * b))), (1, .int v1)]) C.1 C.2.1 dX2_leaveRiding_28 hl (k := 2) rfl (congrArg (fun z => v2 + z) (by decide)) (by decide) rfl (fun ls hl => ?_)
  refine lv_goto (tgt := 2) C.1 C.2.1 dX2_leaveRiding_31 (by decide) ?_
  exact hk2 _ _ _ _ _ _ w (lv_sub hl [1, 2, 0] rfl) hf
def qX2_leaveRiding_2 : Nat → Row → Int32 → Int32 → Option (Row)
  | 0, _, _, _ => none
  | n + 1, P, v1, v2 =>
    (if (5 : Int32) ≤ v2 then (some P)
    else (bi1 (qX2_rides P v2) (fun r23 =>
    (if r23 = 0 then (qX2_leaveRiding_28 (qX2_leaveRiding_2 n) P v1 v2)
    else (bi1 (qX6_has v1 v2) (fun r26 =>
    (if r26 = 0 then (bi1 (qX2_getOff P v2) (fun P30 =>
    (qX2_leaveRiding_28 (qX2_leaveRiding_2 n) P30 v1 v2)))
    else (qX2_leaveRiding_28 (qX2_leaveRiding_2 n) P v1 v2))))))))
set_option maxHeartbeats 4000000 in
set_option maxRecDepth 100000 in
theorem w_X2_leaveRiding_2 {p : Program} {l : Launch} {e : Env} {s : State} {m : MethodId} {args : Array Value} {below : List Frame} {meth : Method} {c : Code} {E : Ev} {ad : Nat → Nat} {g : Gp} {h : Hp} {b : Nat} {P9 : Row} (C : CallFix p m c cX2_leaveRiding 3 s args lwA RX2) (hr : meth.sig.returnType = none) (hlk : meth.locks = false) (X : Sx E ad s) (hI : Inj ad) (hb : b < 18)  : ∀ (n : Nat), ∀ (P : Row) (v1 : Int32) (v2 : Int32) (H : Heap) (locs : List Loc) (ls : Array Slot), At E ad (su h b P) g s H locs → lv_has ls 3 [(0, .ref (ad (7 * b))), (1, .int v1), (2, .int v2)] → qX2_leaveRiding_2 n P v1 v2 = some P9 → W p l e (RM 2 42) s m args below meth c H locs 0 0 (QV E ad (su h b P9) g below args s) (F0 m 2 ls []) := by
  intro n
  induction n with
  | zero =>
    intro P v1 v2 H locs ls w hl hf
    cases hf
  | succ n ih =>
    intro P v1 v2 H locs ls w hl hf
    rw [qX2_leaveRiding_2] at hf
    refine lv_iload_n C.1 C.2.1 dX2_leaveRiding_2 rfl (lv_at hl 2 rfl) ?_
    refine lv_iconst (v := 5) C.1 C.2.1 dX2_leaveRiding_3 (by decide) ?_
    refine lv_icmp_ge (tgt := 34) C.1 C.2.1 dX2_leaveRiding_4 (by decide) (fun c21 => ?_) (fun c21 => ?_)
    · rw [if_pos c21] at hf
      cases hf
      exact x_vret C hr hlk w dX2_leaveRiding_34
    · rw [if_neg c21] at hf
      refine lv_aload_n C.1 C.2.1 dX2_leaveRiding_7 rfl (lv_at hl 0 rfl) ?_
      refine lv_iload_n C.1 C.2.1 dX2_leaveRiding_8 rfl (lv_at hl 2 rfl) ?_
      obtain ⟨r23, eq22, hf⟩ := bi1_e hf
      refine x_cVi (As := [.int v2]) (rest := []) C X w (c_X2_rides hI hb eq22) mw_X2_rides ml_X2_91 (rcv_P (su_same _ _ _) hb) rfl hl.1 rfl (Nat.le_of_ble_eq_true rfl) ⟨⟨Nat.le_of_ble_eq_true rfl, Nat.le_of_ble_eq_true rfl⟩, Nat.le_of_ble_eq_true rfl, Nat.le_of_ble_eq_true rfl⟩ dX2_leaveRiding_9 (fun H locs w => ?_)
      refine lv_if_eq (tgt := 28) C.1 C.2.1 dX2_leaveRiding_12 (by decide) (fun c24 => ?_) (fun c24 => ?_)
      · rw [if_pos c24] at hf
        exact w_X2_leaveRiding_28 C hr hlk X hI hb ih _ _ _ _ _ _ w (lv_sub hl [0, 1, 2] rfl) hf
      · rw [if_neg c24] at hf
        refine lv_iload_n C.1 C.2.1 dX2_leaveRiding_15 rfl (lv_at hl 1 rfl) ?_
        refine lv_iload_n C.1 C.2.1 dX2_leaveRiding_16 rfl (lv_at hl 2 rfl) ?_
        obtain ⟨r26, eq25, hf⟩ := bi1_e hf
        refine x_cSiN (As := [.int v1, .int v2]) (rest := []) C X w (c_X6_has hI  eq25) mw_X6_has ml_X2_70 rfl hl.1 rfl (Nat.le_of_ble_eq_true rfl) ⟨⟨Nat.le_of_ble_eq_true rfl, Nat.le_of_ble_eq_true rfl⟩, Nat.le_of_ble_eq_true rfl, Nat.le_of_ble_eq_true rfl⟩ dX2_leaveRiding_17 (fun H locs w => ?_)
        refine lv_if_ne (tgt := 28) C.1 C.2.1 dX2_leaveRiding_20 (by decide) (fun c27 => ?_) (fun c27 => ?_)
        · rw [if_neg c27] at hf
          exact w_X2_leaveRiding_28 C hr hlk X hI hb ih _ _ _ _ _ _ w (lv_sub hl [0, 1, 2] rfl) hf
        · rw [if_pos c27] at hf
          refine lv_aload_n C.1 C.2.1 dX2_leaveRiding_23 rfl (lv_at hl 0 rfl) ?_
          refine lv_iload_n C.1 C.2.1 dX2_leaveRiding_24 rfl (lv_at hl 2 rfl) ?_
          obtain ⟨P30, eq28, hf⟩ := bi1_e hf
          refine x_cVv (As := [.int v2]) (rest := []) C X w (c_X2_getOff hI hb eq28) mw_X2_getOff ml_X2_113 (rcv_P (su_same _ _ _) hb) rfl hl.1 rfl (Nat.le_of_ble_eq_true rfl) ⟨⟨Nat.le_of_ble_eq_true rfl, Nat.le_of_ble_eq_true rfl⟩, Nat.le_of_ble_eq_true rfl, Nat.le_of_ble_eq_true rfl⟩ dX2_leaveRiding_25 (fun H locs w => ?_)
          exact w_X2_leaveRiding_28 C hr hlk X hI hb ih _ _ _ _ _ _ w (lv_sub hl [0, 1, 2] rfl) hf
def qX2_leaveRiding (P : Row) (x1 : Int32) : Option (Row) :=
(qX2_leaveRiding_2 600 P x1 (0 : Int32))
set_option maxHeartbeats 4000000 in
set_option maxRecDepth 100000 in
theorem c_X2_leaveRiding {l : Launch} {E : Ev} {ad : Nat → Nat} {g : Gp} {h : Hp} {b : Nat} {P : Row} {x1 : Int32} {P9 : Row} (hI : Inj ad) (hb : b < 18) (hf : qX2_leaveRiding P x1 = some P9) : CtV l yX2_leaveRiding cX2_leaveRiding 3 none 2 42 E ad g g [.ref (ad (7 * b)), .int x1] (su h b P) (su h b P9) := by
  refine x_begin (by decide) (Nat.le_of_ble_eq_true rfl) ?_
  intro p e s m below meth c ls C hr hlk X w hl
  replace hl : lv_has ls 3 [(0, .ref (ad (7 * b))), (1, .int x1)] := hl
  replace C : CallFix p m c cX2_leaveRiding 3 s ([.ref (ad (7 * b)), .int x1] : List Value).toArray lwA RX2 := C
  unfold qX2_leaveRiding at hf
  refine lv_iconst (v := 0) C.1 C.2.1 dX2_leaveRiding_0 (by decide) ?_
  refine lv_istore_n (lv' := [(2, .int (0 : Int32)), (0, .ref (ad (7 * b))), (1, .int x1)]) C.1 C.2.1 dX2_leaveRiding_1 rfl hl (by decide) rfl (fun ls hl => ?_)
  exact w_X2_leaveRiding_2 C hr hlk X hI hb 600 _ _ _ _ _ _ w (lv_sub hl [1, 2, 0] rfl) hf

def qX2_putOrTakeAway_14 (P : Row) (s1 : Int32) : Option (Row) :=
(bd (upd P 34 s1) (fun P22 =>
(bi1 (qJ6_bitCount (P22 30)) (fun r24 =>
(if r24 ≤ (P22 34) then (some P22)
else (bi1 (qX2_leaveRiding P22 ((P22 30) &&& (-(P22 30)))) (fun P28 =>
(some P28))))))))
set_option maxHeartbeats 4000000 in
set_option maxRecDepth 100000 in
theorem w_X2_putOrTakeAway_14 {p : Program} {l : Launch} {e : Env} {s : State} {m : MethodId} {args : Array Value} {below : List Frame} {meth : Method} {c : Code} {E : Ev} {ad : Nat → Nat} {g : Gp} {h : Hp} {b : Nat} {P9 : Row} (C : CallFix p m c cX2_putOrTakeAway 2 s args lwA RX2) (hr : meth.sig.returnType = none) (hlk : meth.locks = false) (X : Sx E ad s) (hI : Inj ad) (hb : b < 18)  : ∀ (P : Row) (s1 : Int32) (H : Heap) (locs : List Loc) (ls : Array Slot), At E ad (su h b P) g s H locs → lv_has ls 2 [(0, .ref (ad (7 * b)))] → qX2_putOrTakeAway_14 P s1 = some P9 → W p l e (RM 3 64) s m args below meth c H locs 0 0 (QV E ad (su h b P9) g below args s) (F0 m 14 ls [.int s1, .ref (ad (7 * b))]) := by
  intro P s1 H locs ls w hl hf
  unfold qX2_putOrTakeAway_14 at hf
  obtain ⟨P22, eP22, hf⟩ := bd_e hf
  refine pf_X2_27 C X hI w hb dX2_putOrTakeAway_14 (fun H locs w => ?_)
  replace w := at_eqP eP22 w
  refine lv_aload_n C.1 C.2.1 dX2_putOrTakeAway_17 rfl (lv_at hl 0 rfl) ?_
  refine gf_X2_15 C X w (su_same h b P22) hb dX2_putOrTakeAway_18 ?_
  obtain ⟨r24, eq23, hf⟩ := bi1_e hf
  refine x_cSi (As := [.int (P22 30)]) (rest := []) C X w (c_J6_bitCount hI  eq23) mw_J6_bitCount ml_X2_99 rfl hl.1 rfl (Nat.le_of_ble_eq_true rfl) ⟨⟨Nat.le_of_ble_eq_true rfl, Nat.le_of_ble_eq_true rfl⟩, Nat.le_of_ble_eq_true rfl, Nat.le_of_ble_eq_true rfl⟩ dX2_putOrTakeAway_21 (fun H locs w => ?_)
  refine lv_aload_n C.1 C.2.1 dX2_putOrTakeAway_24 rfl (lv_at hl 0 rfl) ?_
  refine gf_X2_27 C X w (su_same h b P22) hb dX2_putOrTakeAway_25 ?_
  refine lv_icmp_le (tgt := 47) C.1 C.2.1 dX2_putOrTakeAway_28 (by decide) (fun c25 => ?_) (fun c25 => ?_)
  · rw [if_pos c25] at hf
    cases hf
    exact x_vret C hr hlk w dX2_putOrTakeAway_47
  · rw [if_neg c25] at hf
    refine lv_aload_n C.1 C.2.1 dX2_putOrTakeAway_31 rfl (lv_at hl 0 rfl) ?_
    refine gf_X2_15 C X w (su_same h b P22) hb dX2_putOrTakeAway_32 ?_
    refine lv_aload_n C.1 C.2.1 dX2_putOrTakeAway_35 rfl (lv_at hl 0 rfl) ?_
    refine gf_X2_15 C X w (su_same h b P22) hb dX2_putOrTakeAway_36 ?_
    refine lv_ineg C.1 C.2.1 dX2_putOrTakeAway_39 ?_
    refine lv_iand C.1 C.2.1 dX2_putOrTakeAway_40 ?_
    refine lv_istore_n (lv' := [(1, .int ((P22 30) &&& (-(P22 30)))), (0, .ref (ad (7 * b)))]) C.1 C.2.1 dX2_putOrTakeAway_41 rfl hl (by decide) rfl (fun ls hl => ?_)
    refine lv_aload_n C.1 C.2.1 dX2_putOrTakeAway_42 rfl (lv_at hl 1 rfl) ?_
    refine lv_iload_n C.1 C.2.1 dX2_putOrTakeAway_43 rfl (lv_at hl 0 rfl) ?_
    obtain ⟨P28, eq26, hf⟩ := bi1_e hf
    refine x_cVv (As := [.int ((P22 30) &&& (-(P22 30)))]) (rest := []) C X w (c_X2_leaveRiding hI hb eq26) mw_X2_leaveRiding ml_X2_130 (rcv_P (su_same _ _ _) hb) rfl hl.1 rfl (Nat.le_of_ble_eq_true rfl) ⟨⟨Nat.le_of_ble_eq_true rfl, Nat.le_of_ble_eq_true rfl⟩, Nat.le_of_ble_eq_true rfl, Nat.le_of_ble_eq_true rfl⟩ dX2_putOrTakeAway_44 (fun H locs w => ?_)
    cases hf
    exact x_vret C hr hlk w dX2_putOrTakeAway_47
def qX2_putOrTakeAway (P : Row) : Option (Row) :=
(if (P 34) = (1 : Int32) then (qX2_putOrTakeAway_14 P (2 : Int32))
else (qX2_putOrTakeAway_14 P (1 : Int32)))
set_option maxHeartbeats 4000000 in
set_option maxRecDepth 100000 in
theorem c_X2_putOrTakeAway {l : Launch} {E : Ev} {ad : Nat → Nat} {g : Gp} {h : Hp} {b : Nat} {P : Row} {P9 : Row} (hI : Inj ad) (hb : b < 18) (hf : qX2_putOrTakeAway P = some P9) : CtV l yX2_putOrTakeAway cX2_putOrTakeAway 2 none 3 64 E ad g g [.ref (ad (7 * b))] (su h b P) (su h b P9) := by
  refine x_begin (by decide) (Nat.le_of_ble_eq_true rfl) ?_
  intro p e s m below meth c ls C hr hlk X w hl
  replace hl : lv_has ls 2 [(0, .ref (ad (7 * b)))] := hl
  replace C : CallFix p m c cX2_putOrTakeAway 2 s ([.ref (ad (7 * b))] : List Value).toArray lwA RX2 := C
  unfold qX2_putOrTakeAway at hf
  refine lv_aload_n C.1 C.2.1 dX2_putOrTakeAway_0 rfl (lv_at hl 0 rfl) ?_
  refine lv_aload_n C.1 C.2.1 dX2_putOrTakeAway_1 rfl (lv_at hl 0 rfl) ?_
  refine gf_X2_27 C X w (su_same h b P) hb dX2_putOrTakeAway_2 ?_
  refine lv_iconst (v := 1) C.1 C.2.1 dX2_putOrTakeAway_5 (by decide) ?_
  refine lv_icmp_ne (tgt := 13) C.1 C.2.1 dX2_putOrTakeAway_6 (by decide) (fun c21 => ?_) (fun c21 => ?_)
  · rw [if_neg c21] at hf
    refine lv_iconst (v := 1) C.1 C.2.1 dX2_putOrTakeAway_13 (by decide) ?_
    exact w_X2_putOrTakeAway_14 C hr hlk X hI hb _ _ _ _ _ w (lv_sub hl [0] rfl) hf
  · rw [if_pos c21] at hf
    refine lv_iconst (v := 2) C.1 C.2.1 dX2_putOrTakeAway_9 (by decide) ?_
    refine lv_goto (tgt := 14) C.1 C.2.1 dX2_putOrTakeAway_10 (by decide) ?_
    exact w_X2_putOrTakeAway_14 C hr hlk X hI hb _ _ _ _ _ w (lv_sub hl [0] rfl) hf

def qX2_staredByAll_31 (P : Row) (k4 : Int32 → Int32 → Option (Int32)) (v2 : Int32) (s0 : Int32) (s1 : Int32) : Option (Int32) :=
(k4 (s0 + s1) (v2 + 1))
set_option maxHeartbeats 4000000 in
set_option maxRecDepth 100000 in
theorem w_X2_staredByAll_31 {p : Program} {l : Launch} {e : Env} {s : State} {m : MethodId} {args : Array Value} {below : List Frame} {meth : Method} {c : Code} {E : Ev} {ad : Nat → Nat} {g : Gp} {h : Hp} {P : Row} {b : Nat} {r : Int32} {k4 : Int32 → Int32 → Option (Int32)} (C : CallFix p m c cX2_staredByAll 3 s args lwA RX2) (hr : meth.sig.returnType = (some .int)) (hlk : meth.locks = false) (X : Sx E ad s) (hI : Inj ad) (hb : b < 18) (hk4 : ∀ (v1 : Int32) (v2 : Int32) (H : Heap) (locs : List Loc) (ls : Array Slot), At E ad (su h b P) g s H locs → lv_has ls 3 [(0, .ref (ad (7 * b))), (1, .int v1), (2, .int v2)] → k4  v1 v2 = some r → W p l e (RM 1 21) s m args below meth c H locs 0 0 (QI E ad (su h b P) g r below args s) (F0 m 4 ls [])) : ∀ (v2 : Int32) (s0 : Int32) (s1 : Int32) (H : Heap) (locs : List Loc) (ls : Array Slot), At E ad (su h b P) g s H locs → lv_has ls 3 [(0, .ref (ad (7 * b))), (2, .int v2)] → qX2_staredByAll_31 P k4 v2 s0 s1 = some r → W p l e (RM 1 21) s m args below meth c H locs 0 0 (QI E ad (su h b P) g r below args s) (F0 m 31 ls [.int s1, .int s0]) := by
  intro v2 s0 s1 H locs ls w hl hf
  unfold qX2_staredByAll_31 at hf
  refine lv_iadd C.1 C.2.1 dX2_staredByAll_31 ?_
  refine lv_istore_n (lv' := [(1, .int (s0 + s1)), (0, .ref (ad (7 * b))), (2, .int v2)]) C.1 C.2.1 dX2_staredByAll_32 rfl hl (by decide) rfl (fun ls hl => ?_)
  refine lv_iinc (v := (v2 + 1)) (lv' := [(2, .int (v2 + 1)), (1, .int (s0 + s1)), (0, .ref (ad (7 * b)))]) C.1 C.2.1 dX2_staredByAll_33 hl (k := 2) rfl (congrArg (fun z => v2 + z) (by decide)) (by decide) rfl (fun ls hl => ?_)
  refine lv_goto (tgt := 4) C.1 C.2.1 dX2_staredByAll_36 (by decide) ?_
  exact hk4 _ _ _ _ _ w (lv_sub hl [2, 1, 0] rfl) hf
def qX2_staredByAll_4 (P : Row) : Nat → Int32 → Int32 → Option (Int32)
  | 0, _, _ => none
  | n + 1, v1, v2 =>
    (if (5 : Int32) ≤ v2 then (some v1)
    else (bi1 (qX6_has (P 36) v2) (fun r23 =>
    (if r23 = 0 then (qX2_staredByAll_31 P (qX2_staredByAll_4 P n) v2 v1 (0 : Int32))
    else (ck (inb v2 5) ((qX2_staredByAll_31 P (qX2_staredByAll_4 P n) v2 v1 (P (15 + v2.toNatClampNeg)))))))))
set_option maxHeartbeats 4000000 in
set_option maxRecDepth 100000 in
theorem w_X2_staredByAll_4 {p : Program} {l : Launch} {e : Env} {s : State} {m : MethodId} {args : Array Value} {below : List Frame} {meth : Method} {c : Code} {E : Ev} {ad : Nat → Nat} {g : Gp} {h : Hp} {P : Row} {b : Nat} {r : Int32} (C : CallFix p m c cX2_staredByAll 3 s args lwA RX2) (hr : meth.sig.returnType = (some .int)) (hlk : meth.locks = false) (X : Sx E ad s) (hI : Inj ad) (hb : b < 18)  : ∀ (n : Nat), ∀ (v1 : Int32) (v2 : Int32) (H : Heap) (locs : List Loc) (ls : Array Slot), At E ad (su h b P) g s H locs → lv_has ls 3 [(0, .ref (ad (7 * b))), (1, .int v1), (2, .int v2)] → qX2_staredByAll_4 P n v1 v2 = some r → W p l e (RM 1 21) s m args below meth c H locs 0 0 (QI E ad (su h b P) g r below args s) (F0 m 4 ls []) := by
  intro n
  induction n with
  | zero =>
    intro v1 v2 H locs ls w hl hf
    cases hf
  | succ n ih =>
    intro v1 v2 H locs ls w hl hf
    rw [qX2_staredByAll_4] at hf
    refine lv_iload_n C.1 C.2.1 dX2_staredByAll_4 rfl (lv_at hl 2 rfl) ?_
    refine lv_iconst (v := 5) C.1 C.2.1 dX2_staredByAll_5 (by decide) ?_
    refine lv_icmp_ge (tgt := 39) C.1 C.2.1 dX2_staredByAll_6 (by decide) (fun c21 => ?_) (fun c21 => ?_)
    · rw [if_pos c21] at hf
      refine lv_iload_n C.1 C.2.1 dX2_staredByAll_39 rfl (lv_at hl 1 rfl) ?_
      cases hf
      exact x_iret C hr hlk w dX2_staredByAll_40
    · rw [if_neg c21] at hf
      refine lv_iload_n C.1 C.2.1 dX2_staredByAll_9 rfl (lv_at hl 1 rfl) ?_
      refine lv_aload_n C.1 C.2.1 dX2_staredByAll_10 rfl (lv_at hl 0 rfl) ?_
      refine gf_X2_9 C X w (su_same h b P) hb dX2_staredByAll_11 ?_
      refine lv_iload_n C.1 C.2.1 dX2_staredByAll_14 rfl (lv_at hl 2 rfl) ?_
      obtain ⟨r23, eq22, hf⟩ := bi1_e hf
      refine x_cSiN (As := [.int (P 36), .int v2]) (rest := [.int v1]) C X w (c_X6_has hI  eq22) mw_X6_has ml_X2_70 rfl hl.1 rfl (Nat.le_of_ble_eq_true rfl) ⟨⟨Nat.le_of_ble_eq_true rfl, Nat.le_of_ble_eq_true rfl⟩, Nat.le_of_ble_eq_true rfl, Nat.le_of_ble_eq_true rfl⟩ dX2_staredByAll_15 (fun H locs w => ?_)
      refine lv_if_eq (tgt := 30) C.1 C.2.1 dX2_staredByAll_18 (by decide) (fun c24 => ?_) (fun c24 => ?_)
      · rw [if_pos c24] at hf
        refine lv_iconst (v := 0) C.1 C.2.1 dX2_staredByAll_30 (by decide) ?_
        exact w_X2_staredByAll_31 C hr hlk X hI hb ih _ _ _ _ _ _ w (lv_sub hl [0, 2] rfl) hf
      · rw [if_neg c24] at hf
        refine lv_aload_n C.1 C.2.1 dX2_staredByAll_21 rfl (lv_at hl 0 rfl) ?_
        refine gf_X2_43 C X w (su_same h b P) hb dX2_staredByAll_22 ?_
        refine lv_iload_n C.1 C.2.1 dX2_staredByAll_25 rfl (lv_at hl 2 rfl) ?_
        obtain ⟨i25, hf⟩ := ck_e hf
        refine x_pld (b := b) (k := 4) (o := 15) (j := v2.toNatClampNeg) C X w (su_same h b P) hb (by decide) (by decide) rfl i25 rfl dX2_staredByAll_26 ?_
        refine lv_goto (tgt := 31) C.1 C.2.1 dX2_staredByAll_27 (by decide) ?_
        exact w_X2_staredByAll_31 C hr hlk X hI hb ih _ _ _ _ _ _ w (lv_sub hl [0, 2] rfl) hf
def qX2_staredByAll (P : Row) : Option (Int32) :=
(qX2_staredByAll_4 P 600 (0 : Int32) (0 : Int32))
set_option maxHeartbeats 4000000 in
set_option maxRecDepth 100000 in
theorem c_X2_staredByAll {l : Launch} {E : Ev} {ad : Nat → Nat} {g : Gp} {h : Hp} {b : Nat} {P : Row} {r : Int32} (hI : Inj ad) (hb : b < 18) (hf : qX2_staredByAll P = some r) : CtI l yX2_staredByAll cX2_staredByAll 3 (some .int) 1 21 E ad g g [.ref (ad (7 * b))] (su h b P) (su h b P) r := by
  refine x_begin (by decide) (Nat.le_of_ble_eq_true rfl) ?_
  intro p e s m below meth c ls C hr hlk X w hl
  replace hl : lv_has ls 3 [(0, .ref (ad (7 * b)))] := hl
  replace C : CallFix p m c cX2_staredByAll 3 s ([.ref (ad (7 * b))] : List Value).toArray lwA RX2 := C
  unfold qX2_staredByAll at hf
  refine lv_iconst (v := 0) C.1 C.2.1 dX2_staredByAll_0 (by decide) ?_
  refine lv_istore_n (lv' := [(1, .int (0 : Int32)), (0, .ref (ad (7 * b)))]) C.1 C.2.1 dX2_staredByAll_1 rfl hl (by decide) rfl (fun ls hl => ?_)
  refine lv_iconst (v := 0) C.1 C.2.1 dX2_staredByAll_2 (by decide) ?_
  refine lv_istore_n (lv' := [(2, .int (0 : Int32)), (1, .int (0 : Int32)), (0, .ref (ad (7 * b)))]) C.1 C.2.1 dX2_staredByAll_3 rfl hl (by decide) rfl (fun ls hl => ?_)
  exact w_X2_staredByAll_4 C hr hlk X hI hb 600 _ _ _ _ _ w (lv_sub hl [2, 1, 0] rfl) hf

def qX2_gap_61 (P : Row) (k8 : Int32 → Int32 → Int32 → Option (Int32)) (v1 : Int32) (v2 : Int32) (v3 : Int32) : Option (Int32) :=
(k8 v1 v2 (v3 + 1))
set_option maxHeartbeats 4000000 in
set_option maxRecDepth 100000 in
theorem w_X2_gap_61 {p : Program} {l : Launch} {e : Env} {s : State} {m : MethodId} {args : Array Value} {below : List Frame} {meth : Method} {c : Code} {E : Ev} {ad : Nat → Nat} {g : Gp} {h : Hp} {P : Row} {b : Nat} {r : Int32} {k8 : Int32 → Int32 → Int32 → Option (Int32)} (C : CallFix p m c cX2_gap 4 s args lwA RX2) (hr : meth.sig.returnType = (some .int)) (hlk : meth.locks = false) (X : Sx E ad s) (hI : Inj ad) (hb : b < 18) (hk8 : ∀ (v1 : Int32) (v2 : Int32) (v3 : Int32) (H : Heap) (locs : List Loc) (ls : Array Slot), At E ad (su h b P) g s H locs → lv_has ls 4 [(0, .ref (ad (7 * b))), (1, .int v1), (2, .int v2), (3, .int v3)] → k8  v1 v2 v3 = some r → W p l e (RM 1 21) s m args below meth c H locs 0 0 (QI E ad (su h b P) g r below args s) (F0 m 8 ls [])) : ∀ (v1 : Int32) (v2 : Int32) (v3 : Int32) (H : Heap) (locs : List Loc) (ls : Array Slot), At E ad (su h b P) g s H locs → lv_has ls 4 [(0, .ref (ad (7 * b))), (1, .int v1), (2, .int v2), (3, .int v3)] → qX2_gap_61 P k8 v1 v2 v3 = some r → W p l e (RM 1 21) s m args below meth c H locs 0 0 (QI E ad (su h b P) g r below args s) (F0 m 61 ls []) := by
  intro v1 v2 v3 H locs ls w hl hf
  unfold qX2_gap_61 at hf
  refine lv_iinc (v := (v3 + 1)) (lv' := [(3, .int (v3 + 1)), (0, .ref (ad (7 * b))), (1, .int v1), (2, .int v2)]) C.1 C.2.1 dX2_gap_61 hl (k := 3) rfl (congrArg (fun z => v3 + z) (by decide)) (by decide) rfl (fun ls hl => ?_)
  refine lv_goto (tgt := 8) C.1 C.2.1 dX2_gap_64 (by decide) ?_
  exact hk8 _ _ _ _ _ _ w (lv_sub hl [1, 2, 3, 0] rfl) hf
def qX2_gap_60 (P : Row) (k8 : Int32 → Int32 → Int32 → Option (Int32)) (v1 : Int32) (v3 : Int32) (s0 : Int32) : Option (Int32) :=
(qX2_gap_61 P k8 v1 s0 v3)
set_option maxHeartbeats 4000000 in
set_option maxRecDepth 100000 in
theorem w_X2_gap_60 {p : Program} {l : Launch} {e : Env} {s : State} {m : MethodId} {args : Array Value} {below : List Frame} {meth : Method} {c : Code} {E : Ev} {ad : Nat → Nat} {g : Gp} {h : Hp} {P : Row} {b : Nat} {r : Int32} {k8 : Int32 → Int32 → Int32 → Option (Int32)} (C : CallFix p m c cX2_gap 4 s args lwA RX2) (hr : meth.sig.returnType = (some .int)) (hlk : meth.locks = false) (X : Sx E ad s) (hI : Inj ad) (hb : b < 18) (hk8 : ∀ (v1 : Int32) (v2 : Int32) (v3 : Int32) (H : Heap) (locs : List Loc) (ls : Array Slot), At E ad (su h b P) g s H locs → lv_has ls 4 [(0, .ref (ad (7 * b))), (1, .int v1), (2, .int v2), (3, .int v3)] → k8  v1 v2 v3 = some r → W p l e (RM 1 21) s m args below meth c H locs 0 0 (QI E ad (su h b P) g r below args s) (F0 m 8 ls [])) : ∀ (v1 : Int32) (v3 : Int32) (s0 : Int32) (H : Heap) (locs : List Loc) (ls : Array Slot), At E ad (su h b P) g s H locs → lv_has ls 4 [(0, .ref (ad (7 * b))), (1, .int v1), (3, .int v3)] → qX2_gap_60 P k8 v1 v3 s0 = some r → W p l e (RM 1 21) s m args below meth c H locs 0 0 (QI E ad (su h b P) g r below args s) (F0 m 60 ls [.int s0]) := by
  intro v1 v3 s0 H locs ls w hl hf
  unfold qX2_gap_60 at hf
  refine lv_istore_n (lv' := [(2, .int s0), (0, .ref (ad (7 * b))), (1, .int v1), (3, .int v3)]) C.1 C.2.1 dX2_gap_60 rfl hl (by decide) rfl (fun ls hl => ?_)
  exact w_X2_gap_61 C hr hlk X hI hb hk8 _ _ _ _ _ _ w (lv_sub hl [1, 2, 0, 3] rfl) hf
def qX2_gap_8 (P : Row) : Nat → Int32 → Int32 → Int32 → Option (Int32)
  | 0, _, _, _ => none
  | n + 1, v1, v2, v3 =>
    (if (5 : Int32) ≤ v3 then (some (v1 - v2))
    else (bi1 (qX6_has (P 36) v3) (fun r23 =>
    (if r23 = 0 then (qX2_gap_61 P (qX2_gap_8 P n) v1 v2 v3)
    else (ck (inb v3 5) ((bd (if v1 < (P (10 + v3.toNatClampNeg)) then (P (10 + v3.toNatClampNeg)) else v1) (fun x26 =>
    (if v2 = (-9 : Int32) then (ck (inb v3 5) ((qX2_gap_60 P (qX2_gap_8 P n) x26 v3 (P (10 + v3.toNatClampNeg)))))
    else (ck (inb v3 5) ((qX2_gap_60 P (qX2_gap_8 P n) x26 v3 (if (P (10 + v3.toNatClampNeg)) < v2 then (P (10 + v3.toNatClampNeg)) else v2)))))))))))))
set_option maxHeartbeats 4000000 in
set_option maxRecDepth 100000 in
theorem w_X2_gap_8 {p : Program} {l : Launch} {e : Env} {s : State} {m : MethodId} {args : Array Value} {below : List Frame} {meth : Method} {c : Code} {E : Ev} {ad : Nat → Nat} {g : Gp} {h : Hp} {P : Row} {b : Nat} {r : Int32} (C : CallFix p m c cX2_gap 4 s args lwA RX2) (hr : meth.sig.returnType = (some .int)) (hlk : meth.locks = false) (X : Sx E ad s) (hI : Inj ad) (hb : b < 18)  : ∀ (n : Nat), ∀ (v1 : Int32) (v2 : Int32) (v3 : Int32) (H : Heap) (locs : List Loc) (ls : Array Slot), At E ad (su h b P) g s H locs → lv_has ls 4 [(0, .ref (ad (7 * b))), (1, .int v1), (2, .int v2), (3, .int v3)] → qX2_gap_8 P n v1 v2 v3 = some r → W p l e (RM 1 21) s m args below meth c H locs 0 0 (QI E ad (su h b P) g r below args s) (F0 m 8 ls []) := by
  intro n
  induction n with
  | zero =>
    intro v1 v2 v3 H locs ls w hl hf
    cases hf
  | succ n ih =>
    intro v1 v2 v3 H locs ls w hl hf
    rw [qX2_gap_8] at hf
    refine lv_iload_n C.1 C.2.1 dX2_gap_8 rfl (lv_at hl 3 rfl) ?_
    refine lv_iconst (v := 5) C.1 C.2.1 dX2_gap_9 (by decide) ?_
    refine lv_icmp_ge (tgt := 67) C.1 C.2.1 dX2_gap_10 (by decide) (fun c21 => ?_) (fun c21 => ?_)
    · rw [if_pos c21] at hf
      refine lv_iload_n C.1 C.2.1 dX2_gap_67 rfl (lv_at hl 1 rfl) ?_
      refine lv_iload_n C.1 C.2.1 dX2_gap_68 rfl (lv_at hl 2 rfl) ?_
      refine lv_isub C.1 C.2.1 dX2_gap_69 ?_
      cases hf
      exact x_iret C hr hlk w dX2_gap_70
    · rw [if_neg c21] at hf
      refine lv_aload_n C.1 C.2.1 dX2_gap_13 rfl (lv_at hl 0 rfl) ?_
      refine gf_X2_9 C X w (su_same h b P) hb dX2_gap_14 ?_
      refine lv_iload_n C.1 C.2.1 dX2_gap_17 rfl (lv_at hl 3 rfl) ?_
      obtain ⟨r23, eq22, hf⟩ := bi1_e hf
      refine x_cSiN (As := [.int (P 36), .int v3]) (rest := []) C X w (c_X6_has hI  eq22) mw_X6_has ml_X2_70 rfl hl.1 rfl (Nat.le_of_ble_eq_true rfl) ⟨⟨Nat.le_of_ble_eq_true rfl, Nat.le_of_ble_eq_true rfl⟩, Nat.le_of_ble_eq_true rfl, Nat.le_of_ble_eq_true rfl⟩ dX2_gap_18 (fun H locs w => ?_)
      refine lv_if_eq (tgt := 61) C.1 C.2.1 dX2_gap_21 (by decide) (fun c24 => ?_) (fun c24 => ?_)
      · rw [if_pos c24] at hf
        exact w_X2_gap_61 C hr hlk X hI hb ih _ _ _ _ _ _ w (lv_sub hl [0, 1, 2, 3] rfl) hf
      · rw [if_neg c24] at hf
        refine lv_iload_n C.1 C.2.1 dX2_gap_24 rfl (lv_at hl 1 rfl) ?_
        refine lv_aload_n C.1 C.2.1 dX2_gap_25 rfl (lv_at hl 0 rfl) ?_
        refine gf_X2_40 C X w (su_same h b P) hb dX2_gap_26 ?_
        refine lv_iload_n C.1 C.2.1 dX2_gap_29 rfl (lv_at hl 3 rfl) ?_
        obtain ⟨i25, hf⟩ := ck_e hf
        refine x_pld (b := b) (k := 3) (o := 10) (j := v3.toNatClampNeg) C X w (su_same h b P) hb (by decide) (by decide) rfl i25 rfl dX2_gap_30 ?_
        refine va_mmax C.1 C.2.1 (C.2.2.1.trans hl.1.symm) C.2.2.2.1 (C.2.2.2.2 _ wd_methodLink_OneTricycle_Play_119_java_lang_Math_max_II_I_) (C.2.2.2.2 _ wd_static_java_lang_Math_max_II_I_) (C.2.2.2.2 _ wd_initialized_java_lang_Math_) (C.2.2.2.2 _ wd_code_Math_max) (Nat.le_of_ble_eq_true rfl) (Nat.le_of_ble_eq_true rfl) (Nat.le_of_ble_eq_true rfl) (Nat.le_of_ble_eq_true rfl) dX2_gap_31 ?_
        obtain ⟨x26, ex26, hf⟩ := bd_e hf
        refine x_tp ex26 ?_
        refine lv_istore_n (lv' := [(1, .int x26), (0, .ref (ad (7 * b))), (2, .int v2), (3, .int v3)]) C.1 C.2.1 dX2_gap_34 rfl hl (by decide) rfl (fun ls hl => ?_)
        refine lv_iload_n C.1 C.2.1 dX2_gap_35 rfl (lv_at hl 2 rfl) ?_
        refine lv_bipush (v := -9) C.1 C.2.1 dX2_gap_36 (by decide) ?_
        refine lv_icmp_ne (tgt := 50) C.1 C.2.1 dX2_gap_38 (by decide) (fun c27 => ?_) (fun c27 => ?_)
        · rw [if_neg c27] at hf
          refine lv_iload_n C.1 C.2.1 dX2_gap_50 rfl (lv_at hl 2 rfl) ?_
          refine lv_aload_n C.1 C.2.1 dX2_gap_51 rfl (lv_at hl 1 rfl) ?_
          refine gf_X2_40 C X w (su_same h b P) hb dX2_gap_52 ?_
          refine lv_iload_n C.1 C.2.1 dX2_gap_55 rfl (lv_at hl 3 rfl) ?_
          obtain ⟨i28, hf⟩ := ck_e hf
          refine x_pld (b := b) (k := 3) (o := 10) (j := v3.toNatClampNeg) C X w (su_same h b P) hb (by decide) (by decide) rfl i28 rfl dX2_gap_56 ?_
          refine va_mmin C.1 C.2.1 (C.2.2.1.trans hl.1.symm) C.2.2.2.1 (C.2.2.2.2 _ wd_methodLink_OneTricycle_Play_124_java_lang_Math_min_II_I_) (C.2.2.2.2 _ wd_static_java_lang_Math_min_II_I_) (C.2.2.2.2 _ wd_initialized_java_lang_Math_) (C.2.2.2.2 _ wd_code_Math_min) (Nat.le_of_ble_eq_true rfl) (Nat.le_of_ble_eq_true rfl) (Nat.le_of_ble_eq_true rfl) (Nat.le_of_ble_eq_true rfl) dX2_gap_57 ?_
          exact w_X2_gap_60 C hr hlk X hI hb ih _ _ _ _ _ _ w (lv_sub hl [1, 0, 3] rfl) hf
        · rw [if_pos c27] at hf
          refine lv_aload_n C.1 C.2.1 dX2_gap_41 rfl (lv_at hl 1 rfl) ?_
          refine gf_X2_40 C X w (su_same h b P) hb dX2_gap_42 ?_
          refine lv_iload_n C.1 C.2.1 dX2_gap_45 rfl (lv_at hl 3 rfl) ?_
          obtain ⟨i29, hf⟩ := ck_e hf
          refine x_pld (b := b) (k := 3) (o := 10) (j := v3.toNatClampNeg) C X w (su_same h b P) hb (by decide) (by decide) rfl i29 rfl dX2_gap_46 ?_
          refine lv_goto (tgt := 60) C.1 C.2.1 dX2_gap_47 (by decide) ?_
          exact w_X2_gap_60 C hr hlk X hI hb ih _ _ _ _ _ _ w (lv_sub hl [1, 0, 3] rfl) hf
def qX2_gap (P : Row) : Option (Int32) :=
(qX2_gap_8 P 600 (-9 : Int32) (-9 : Int32) (0 : Int32))
set_option maxHeartbeats 4000000 in
set_option maxRecDepth 100000 in
theorem c_X2_gap {l : Launch} {E : Ev} {ad : Nat → Nat} {g : Gp} {h : Hp} {b : Nat} {P : Row} {r : Int32} (hI : Inj ad) (hb : b < 18) (hf : qX2_gap P = some r) : CtI l yX2_gap cX2_gap 4 (some .int) 1 21 E ad g g [.ref (ad (7 * b))] (su h b P) (su h b P) r := by
  refine x_begin (by decide) (Nat.le_of_ble_eq_true rfl) ?_
  intro p e s m below meth c ls C hr hlk X w hl
  replace hl : lv_has ls 4 [(0, .ref (ad (7 * b)))] := hl
  replace C : CallFix p m c cX2_gap 4 s ([.ref (ad (7 * b))] : List Value).toArray lwA RX2 := C
  unfold qX2_gap at hf
  refine lv_bipush (v := -9) C.1 C.2.1 dX2_gap_0 (by decide) ?_
  refine lv_istore_n (lv' := [(1, .int (-9 : Int32)), (0, .ref (ad (7 * b)))]) C.1 C.2.1 dX2_gap_2 rfl hl (by decide) rfl (fun ls hl => ?_)
  refine lv_bipush (v := -9) C.1 C.2.1 dX2_gap_3 (by decide) ?_
  refine lv_istore_n (lv' := [(2, .int (-9 : Int32)), (1, .int (-9 : Int32)), (0, .ref (ad (7 * b)))]) C.1 C.2.1 dX2_gap_5 rfl hl (by decide) rfl (fun ls hl => ?_)
  refine lv_iconst (v := 0) C.1 C.2.1 dX2_gap_6 (by decide) ?_
  refine lv_istore_n (lv' := [(3, .int (0 : Int32)), (2, .int (-9 : Int32)), (1, .int (-9 : Int32)), (0, .ref (ad (7 * b)))]) C.1 C.2.1 dX2_gap_7 rfl hl (by decide) rfl (fun ls hl => ?_)
  exact w_X2_gap_8 C hr hlk X hI hb 600 _ _ _ _ _ _ w (lv_sub hl [3, 2, 1, 0] rfl) hf

def qX2_neverRidden_24 (P : Row) (k4 : Int32 → Int32 → Option (Int32)) (v1 : Int32) (v2 : Int32) : Option (Int32) :=
(k4 v1 (v2 + 1))
set_option maxHeartbeats 4000000 in
set_option maxRecDepth 100000 in
theorem w_X2_neverRidden_24 {p : Program} {l : Launch} {e : Env} {s : State} {m : MethodId} {args : Array Value} {below : List Frame} {meth : Method} {c : Code} {E : Ev} {ad : Nat → Nat} {g : Gp} {h : Hp} {P : Row} {b : Nat} {r : Int32} {k4 : Int32 → Int32 → Option (Int32)} (C : CallFix p m c cX2_neverRidden 3 s args lwA RX2) (hr : meth.sig.returnType = (some .int)) (hlk : meth.locks = false) (X : Sx E ad s) (hI : Inj ad) (hb : b < 18) (hk4 : ∀ (v1 : Int32) (v2 : Int32) (H : Heap) (locs : List Loc) (ls : Array Slot), At E ad (su h b P) g s H locs → lv_has ls 3 [(0, .ref (ad (7 * b))), (1, .int v1), (2, .int v2)] → k4  v1 v2 = some r → W p l e (RM 0 0) s m args below meth c H locs 0 0 (QI E ad (su h b P) g r below args s) (F0 m 4 ls [])) : ∀ (v1 : Int32) (v2 : Int32) (H : Heap) (locs : List Loc) (ls : Array Slot), At E ad (su h b P) g s H locs → lv_has ls 3 [(0, .ref (ad (7 * b))), (1, .int v1), (2, .int v2)] → qX2_neverRidden_24 P k4 v1 v2 = some r → W p l e (RM 0 0) s m args below meth c H locs 0 0 (QI E ad (su h b P) g r below args s) (F0 m 24 ls []) := by
  intro v1 v2 H locs ls w hl hf
  unfold qX2_neverRidden_24 at hf
  refine lv_iinc (v := (v2 + 1)) (lv' := [(2, .int (v2 + 1)), (0, .ref (ad (7 * b))), (1, .int v1)]) C.1 C.2.1 dX2_neverRidden_24 hl (k := 2) rfl (congrArg (fun z => v2 + z) (by decide)) (by decide) rfl (fun ls hl => ?_)
  refine lv_goto (tgt := 4) C.1 C.2.1 dX2_neverRidden_27 (by decide) ?_
  exact hk4 _ _ _ _ _ w (lv_sub hl [1, 2, 0] rfl) hf
def qX2_neverRidden_4 (P : Row) : Nat → Int32 → Int32 → Option (Int32)
  | 0, _, _ => none
  | n + 1, v1, v2 =>
    (if (5 : Int32) ≤ v2 then (some (v1 &&& (P 36)))
    else (ck (inb v2 5) ((if (P (10 + v2.toNatClampNeg)) = 0 then (qX2_neverRidden_24 P (qX2_neverRidden_4 P n) (v1 ||| ((1 : Int32) <<< (v2 &&& 31))) v2)
    else (qX2_neverRidden_24 P (qX2_neverRidden_4 P n) v1 v2)))))
set_option maxHeartbeats 4000000 in
set_option maxRecDepth 100000 in
theorem w_X2_neverRidden_4 {p : Program} {l : Launch} {e : Env} {s : State} {m : MethodId} {args : Array Value} {below : List Frame} {meth : Method} {c : Code} {E : Ev} {ad : Nat → Nat} {g : Gp} {h : Hp} {P : Row} {b : Nat} {r : Int32} (C : CallFix p m c cX2_neverRidden 3 s args lwA RX2) (hr : meth.sig.returnType = (some .int)) (hlk : meth.locks = false) (X : Sx E ad s) (hI : Inj ad) (hb : b < 18)  : ∀ (n : Nat), ∀ (v1 : Int32) (v2 : Int32) (H : Heap) (locs : List Loc) (ls : Array Slot), At E ad (su h b P) g s H locs → lv_has ls 3 [(0, .ref (ad (7 * b))), (1, .int v1), (2, .int v2)] → qX2_neverRidden_4 P n v1 v2 = some r → W p l e (RM 0 0) s m args below meth c H locs 0 0 (QI E ad (su h b P) g r below args s) (F0 m 4 ls []) := by
  intro n
  induction n with
  | zero =>
    intro v1 v2 H locs ls w hl hf
    cases hf
  | succ n ih =>
    intro v1 v2 H locs ls w hl hf
    rw [qX2_neverRidden_4] at hf
    refine lv_iload_n C.1 C.2.1 dX2_neverRidden_4 rfl (lv_at hl 2 rfl) ?_
    refine lv_iconst (v := 5) C.1 C.2.1 dX2_neverRidden_5 (by decide) ?_
    refine lv_icmp_ge (tgt := 30) C.1 C.2.1 dX2_neverRidden_6 (by decide) (fun c21 => ?_) (fun c21 => ?_)
    · rw [if_pos c21] at hf
      refine lv_iload_n C.1 C.2.1 dX2_neverRidden_30 rfl (lv_at hl 1 rfl) ?_
      refine lv_aload_n C.1 C.2.1 dX2_neverRidden_31 rfl (lv_at hl 0 rfl) ?_
      refine gf_X2_9 C X w (su_same h b P) hb dX2_neverRidden_32 ?_
      refine lv_iand C.1 C.2.1 dX2_neverRidden_35 ?_
      cases hf
      exact x_iret C hr hlk w dX2_neverRidden_36
    · rw [if_neg c21] at hf
      refine lv_aload_n C.1 C.2.1 dX2_neverRidden_9 rfl (lv_at hl 0 rfl) ?_
      refine gf_X2_40 C X w (su_same h b P) hb dX2_neverRidden_10 ?_
      refine lv_iload_n C.1 C.2.1 dX2_neverRidden_13 rfl (lv_at hl 2 rfl) ?_
      obtain ⟨i22, hf⟩ := ck_e hf
      refine x_pld (b := b) (k := 3) (o := 10) (j := v2.toNatClampNeg) C X w (su_same h b P) hb (by decide) (by decide) rfl i22 rfl dX2_neverRidden_14 ?_
      refine lv_if_ne (tgt := 24) C.1 C.2.1 dX2_neverRidden_15 (by decide) (fun c23 => ?_) (fun c23 => ?_)
      · rw [if_neg c23] at hf
        exact w_X2_neverRidden_24 C hr hlk X hI hb ih _ _ _ _ _ w (lv_sub hl [0, 1, 2] rfl) hf
      · rw [if_pos c23] at hf
        refine lv_iload_n C.1 C.2.1 dX2_neverRidden_18 rfl (lv_at hl 1 rfl) ?_
        refine lv_iconst (v := 1) C.1 C.2.1 dX2_neverRidden_19 (by decide) ?_
        refine lv_iload_n C.1 C.2.1 dX2_neverRidden_20 rfl (lv_at hl 2 rfl) ?_
        refine lv_ishl C.1 C.2.1 dX2_neverRidden_21 ?_
        refine lv_ior C.1 C.2.1 dX2_neverRidden_22 ?_
        refine lv_istore_n (lv' := [(1, .int (v1 ||| ((1 : Int32) <<< (v2 &&& 31)))), (0, .ref (ad (7 * b))), (2, .int v2)]) C.1 C.2.1 dX2_neverRidden_23 rfl hl (by decide) rfl (fun ls hl => ?_)
        exact w_X2_neverRidden_24 C hr hlk X hI hb ih _ _ _ _ _ w (lv_sub hl [1, 0, 2] rfl) hf
def qX2_neverRidden (P : Row) : Option (Int32) :=
(qX2_neverRidden_4 P 600 (0 : Int32) (0 : Int32))
set_option maxHeartbeats 4000000 in
set_option maxRecDepth 100000 in
theorem c_X2_neverRidden {l : Launch} {E : Ev} {ad : Nat → Nat} {g : Gp} {h : Hp} {b : Nat} {P : Row} {r : Int32} (hI : Inj ad) (hb : b < 18) (hf : qX2_neverRidden P = some r) : CtI l yX2_neverRidden cX2_neverRidden 3 (some .int) 0 0 E ad g g [.ref (ad (7 * b))] (su h b P) (su h b P) r := by
  refine x_begin (by decide) (Nat.le_of_ble_eq_true rfl) ?_
  intro p e s m below meth c ls C hr hlk X w hl
  replace hl : lv_has ls 3 [(0, .ref (ad (7 * b)))] := hl
  replace C : CallFix p m c cX2_neverRidden 3 s ([.ref (ad (7 * b))] : List Value).toArray lwA RX2 := C
  unfold qX2_neverRidden at hf
  refine lv_iconst (v := 0) C.1 C.2.1 dX2_neverRidden_0 (by decide) ?_
  refine lv_istore_n (lv' := [(1, .int (0 : Int32)), (0, .ref (ad (7 * b)))]) C.1 C.2.1 dX2_neverRidden_1 rfl hl (by decide) rfl (fun ls hl => ?_)
  refine lv_iconst (v := 0) C.1 C.2.1 dX2_neverRidden_2 (by decide) ?_
  refine lv_istore_n (lv' := [(2, .int (0 : Int32)), (1, .int (0 : Int32)), (0, .ref (ad (7 * b)))]) C.1 C.2.1 dX2_neverRidden_3 rfl hl (by decide) rfl (fun ls hl => ?_)
  exact w_X2_neverRidden_4 C hr hlk X hI hb 600 _ _ _ _ _ w (lv_sub hl [2, 1, 0] rfl) hf

def qX2_doIfItCanBe_54 (R22 : Row) (R23 : Row) (P : Row) (v1 : Int32) (v2 : Int32) : Option (Int32 × Row) :=
(if v1 = (3 : Int32) then (bi1 (qX6_isRule v2) (fun r42 =>
(if r42 = 0 then (some ((0 : Int32), P))
else (if v2 = (P 32) then (some ((0 : Int32), P))
else (bi1 (qX2_setRule P v2 (P 33)) (fun P47 =>
(some ((1 : Int32), P47))))))))
else (some ((0 : Int32), P)))
set_option maxHeartbeats 4000000 in
set_option maxRecDepth 100000 in
theorem w_X2_doIfItCanBe_54 {p : Program} {l : Launch} {e : Env} {s : State} {m : MethodId} {args : Array Value} {below : List Frame} {meth : Method} {c : Code} {E : Ev} {ad : Nat → Nat} {g : Gp} {h : Hp} {b : Nat} {r : Int32} {P9 : Row} (C : CallFix p m c cX2_doIfItCanBe 3 s args lwA RX2) (hr : meth.sig.returnType = (some .boolean)) (hlk : meth.locks = false) (X : Sx E ad s) (hI : Inj ad) (hb : b < 18)  : ∀ (P : Row) (v1 : Int32) (v2 : Int32) (H : Heap) (locs : List Loc) (ls : Array Slot), At E ad (su h b P) g s H locs → lv_has ls 3 [(0, .ref (ad (7 * b))), (1, .int v1), (2, .int v2)] → qX2_doIfItCanBe_54 (h 22) (h 23) P v1 v2 = some (r, P9) → W p l e (RM 5 113) s m args below meth c H locs 0 0 (QI E ad (su h b P9) g r below args s) (F0 m 54 ls []) := by
  intro P v1 v2 H locs ls w hl hf
  unfold qX2_doIfItCanBe_54 at hf
  refine lv_iload_n C.1 C.2.1 dX2_doIfItCanBe_54 rfl (lv_at hl 1 rfl) ?_
  refine lv_iconst (v := 3) C.1 C.2.1 dX2_doIfItCanBe_55 (by decide) ?_
  refine lv_icmp_ne (tgt := 85) C.1 C.2.1 dX2_doIfItCanBe_56 (by decide) (fun c40 => ?_) (fun c40 => ?_)
  · rw [if_neg c40] at hf
    refine lv_iconst (v := 0) C.1 C.2.1 dX2_doIfItCanBe_85 (by decide) ?_
    cases hf
    exact x_zret C hr hlk w rfl dX2_doIfItCanBe_86
  · rw [if_pos c40] at hf
    refine lv_iload_n C.1 C.2.1 dX2_doIfItCanBe_59 rfl (lv_at hl 2 rfl) ?_
    obtain ⟨r42, eq41, hf⟩ := bi1_e hf
    refine x_cSiN (As := [.int v2]) (rest := []) C X w (c_X6_isRule hI  eq41) mw_X6_isRule ml_X2_145 rfl hl.1 rfl (Nat.le_of_ble_eq_true rfl) ⟨⟨Nat.le_of_ble_eq_true rfl, Nat.le_of_ble_eq_true rfl⟩, Nat.le_of_ble_eq_true rfl, Nat.le_of_ble_eq_true rfl⟩ dX2_doIfItCanBe_60 (fun H locs w => ?_)
    refine lv_if_eq (tgt := 85) C.1 C.2.1 dX2_doIfItCanBe_63 (by decide) (fun c43 => ?_) (fun c43 => ?_)
    · rw [if_pos c43] at hf
      refine lv_iconst (v := 0) C.1 C.2.1 dX2_doIfItCanBe_85 (by decide) ?_
      cases hf
      exact x_zret C hr hlk w rfl dX2_doIfItCanBe_86
    · rw [if_neg c43] at hf
      refine lv_iload_n C.1 C.2.1 dX2_doIfItCanBe_66 rfl (lv_at hl 2 rfl) ?_
      refine lv_aload_n C.1 C.2.1 dX2_doIfItCanBe_67 rfl (lv_at hl 0 rfl) ?_
      refine gf_X2_21 C X w (su_same h b P) hb dX2_doIfItCanBe_68 ?_
      refine lv_icmp_eq (tgt := 85) C.1 C.2.1 dX2_doIfItCanBe_71 (by decide) (fun c44 => ?_) (fun c44 => ?_)
      · rw [if_pos c44] at hf
        refine lv_iconst (v := 0) C.1 C.2.1 dX2_doIfItCanBe_85 (by decide) ?_
        cases hf
        exact x_zret C hr hlk w rfl dX2_doIfItCanBe_86
      · rw [if_neg c44] at hf
        refine lv_aload_n C.1 C.2.1 dX2_doIfItCanBe_74 rfl (lv_at hl 0 rfl) ?_
        refine lv_iload_n C.1 C.2.1 dX2_doIfItCanBe_75 rfl (lv_at hl 2 rfl) ?_
        refine lv_aload_n C.1 C.2.1 dX2_doIfItCanBe_76 rfl (lv_at hl 0 rfl) ?_
        refine gf_X2_24 C X w (su_same h b P) hb dX2_doIfItCanBe_77 ?_
        obtain ⟨P47, eq45, hf⟩ := bi1_e hf
        refine x_cVv (As := [.int v2, .int (P 33)]) (rest := []) C X w (c_X2_setRule hI hb eq45) mw_X2_setRule ml_X2_148 (rcv_P (su_same _ _ _) hb) rfl hl.1 rfl (Nat.le_of_ble_eq_true rfl) ⟨⟨Nat.le_of_ble_eq_true rfl, Nat.le_of_ble_eq_true rfl⟩, Nat.le_of_ble_eq_true rfl, Nat.le_of_ble_eq_true rfl⟩ dX2_doIfItCanBe_80 (fun H locs w => ?_)
        refine lv_iconst (v := 1) C.1 C.2.1 dX2_doIfItCanBe_83 (by decide) ?_
        cases hf
        exact x_zret C hr hlk w rfl dX2_doIfItCanBe_84
def qX2_doIfItCanBe_34 (R22 : Row) (R23 : Row) (P : Row) (v1 : Int32) (v2 : Int32) : Option (Int32 × Row) :=
(if v1 = (2 : Int32) then (bi1 (qX2_canBeCalled P v2) (fun r35 =>
(if r35 = 0 then (qX2_doIfItCanBe_54 R22 R23 P v1 v2)
else (bi1 (qX2_callAway P v2) (fun P39 =>
(some ((1 : Int32), P39)))))))
else (qX2_doIfItCanBe_54 R22 R23 P v1 v2))
set_option maxHeartbeats 4000000 in
set_option maxRecDepth 100000 in
theorem w_X2_doIfItCanBe_34 {p : Program} {l : Launch} {e : Env} {s : State} {m : MethodId} {args : Array Value} {below : List Frame} {meth : Method} {c : Code} {E : Ev} {ad : Nat → Nat} {g : Gp} {h : Hp} {b : Nat} {r : Int32} {P9 : Row} (C : CallFix p m c cX2_doIfItCanBe 3 s args lwA RX2) (hr : meth.sig.returnType = (some .boolean)) (hlk : meth.locks = false) (X : Sx E ad s) (hI : Inj ad) (hb : b < 18)  : ∀ (P : Row) (v1 : Int32) (v2 : Int32) (H : Heap) (locs : List Loc) (ls : Array Slot), At E ad (su h b P) g s H locs → lv_has ls 3 [(0, .ref (ad (7 * b))), (1, .int v1), (2, .int v2)] → qX2_doIfItCanBe_34 (h 22) (h 23) P v1 v2 = some (r, P9) → W p l e (RM 5 113) s m args below meth c H locs 0 0 (QI E ad (su h b P9) g r below args s) (F0 m 34 ls []) := by
  intro P v1 v2 H locs ls w hl hf
  unfold qX2_doIfItCanBe_34 at hf
  refine lv_iload_n C.1 C.2.1 dX2_doIfItCanBe_34 rfl (lv_at hl 1 rfl) ?_
  refine lv_iconst (v := 2) C.1 C.2.1 dX2_doIfItCanBe_35 (by decide) ?_
  refine lv_icmp_ne (tgt := 54) C.1 C.2.1 dX2_doIfItCanBe_36 (by decide) (fun c33 => ?_) (fun c33 => ?_)
  · rw [if_neg c33] at hf
    exact w_X2_doIfItCanBe_54 C hr hlk X hI hb _ _ _ _ _ _ w (lv_sub hl [0, 1, 2] rfl) hf
  · rw [if_pos c33] at hf
    refine lv_aload_n C.1 C.2.1 dX2_doIfItCanBe_39 rfl (lv_at hl 0 rfl) ?_
    refine lv_iload_n C.1 C.2.1 dX2_doIfItCanBe_40 rfl (lv_at hl 2 rfl) ?_
    obtain ⟨r35, eq34, hf⟩ := bi1_e hf
    refine x_cVi (As := [.int v2]) (rest := []) C X w (c_X2_canBeCalled hI hb eq34) mw_X2_canBeCalled ml_X2_139 (rcv_P (su_same _ _ _) hb) rfl hl.1 rfl (Nat.le_of_ble_eq_true rfl) ⟨⟨Nat.le_of_ble_eq_true rfl, Nat.le_of_ble_eq_true rfl⟩, Nat.le_of_ble_eq_true rfl, Nat.le_of_ble_eq_true rfl⟩ dX2_doIfItCanBe_41 (fun H locs w => ?_)
    refine lv_if_eq (tgt := 54) C.1 C.2.1 dX2_doIfItCanBe_44 (by decide) (fun c36 => ?_) (fun c36 => ?_)
    · rw [if_pos c36] at hf
      exact w_X2_doIfItCanBe_54 C hr hlk X hI hb _ _ _ _ _ _ w (lv_sub hl [0, 1, 2] rfl) hf
    · rw [if_neg c36] at hf
      refine lv_aload_n C.1 C.2.1 dX2_doIfItCanBe_47 rfl (lv_at hl 0 rfl) ?_
      refine lv_iload_n C.1 C.2.1 dX2_doIfItCanBe_48 rfl (lv_at hl 2 rfl) ?_
      obtain ⟨P39, eq37, hf⟩ := bi1_e hf
      refine x_cVv (As := [.int v2]) (rest := []) C X w (c_X2_callAway hI hb eq37) mw_X2_callAway ml_X2_142 (rcv_P (su_same _ _ _) hb) rfl hl.1 rfl (Nat.le_of_ble_eq_true rfl) ⟨⟨Nat.le_of_ble_eq_true rfl, Nat.le_of_ble_eq_true rfl⟩, Nat.le_of_ble_eq_true rfl, Nat.le_of_ble_eq_true rfl⟩ dX2_doIfItCanBe_49 (fun H locs w => ?_)
      refine lv_iconst (v := 1) C.1 C.2.1 dX2_doIfItCanBe_52 (by decide) ?_
      cases hf
      exact x_zret C hr hlk w rfl dX2_doIfItCanBe_53
def qX2_doIfItCanBe_14 (R22 : Row) (R23 : Row) (P : Row) (v1 : Int32) (v2 : Int32) : Option (Int32 × Row) :=
(if v1 = (1 : Int32) then (bi1 (qX2_canBePushed P v2) (fun r28 =>
(if r28 = 0 then (qX2_doIfItCanBe_34 R22 R23 P v1 v2)
else (bi1 (qX2_pushOff P v2) (fun P32 =>
(some ((1 : Int32), P32)))))))
else (qX2_doIfItCanBe_34 R22 R23 P v1 v2))
set_option maxHeartbeats 4000000 in
set_option maxRecDepth 100000 in
theorem w_X2_doIfItCanBe_14 {p : Program} {l : Launch} {e : Env} {s : State} {m : MethodId} {args : Array Value} {below : List Frame} {meth : Method} {c : Code} {E : Ev} {ad : Nat → Nat} {g : Gp} {h : Hp} {b : Nat} {r : Int32} {P9 : Row} (C : CallFix p m c cX2_doIfItCanBe 3 s args lwA RX2) (hr : meth.sig.returnType = (some .boolean)) (hlk : meth.locks = false) (X : Sx E ad s) (hI : Inj ad) (hb : b < 18)  : ∀ (P : Row) (v1 : Int32) (v2 : Int32) (H : Heap) (locs : List Loc) (ls : Array Slot), At E ad (su h b P) g s H locs → lv_has ls 3 [(0, .ref (ad (7 * b))), (1, .int v1), (2, .int v2)] → qX2_doIfItCanBe_14 (h 22) (h 23) P v1 v2 = some (r, P9) → W p l e (RM 5 113) s m args below meth c H locs 0 0 (QI E ad (su h b P9) g r below args s) (F0 m 14 ls []) := by
  intro P v1 v2 H locs ls w hl hf
  unfold qX2_doIfItCanBe_14 at hf
  refine lv_iload_n C.1 C.2.1 dX2_doIfItCanBe_14 rfl (lv_at hl 1 rfl) ?_
  refine lv_iconst (v := 1) C.1 C.2.1 dX2_doIfItCanBe_15 (by decide) ?_
  refine lv_icmp_ne (tgt := 34) C.1 C.2.1 dX2_doIfItCanBe_16 (by decide) (fun c26 => ?_) (fun c26 => ?_)
  · rw [if_neg c26] at hf
    exact w_X2_doIfItCanBe_34 C hr hlk X hI hb _ _ _ _ _ _ w (lv_sub hl [0, 1, 2] rfl) hf
  · rw [if_pos c26] at hf
    refine lv_aload_n C.1 C.2.1 dX2_doIfItCanBe_19 rfl (lv_at hl 0 rfl) ?_
    refine lv_iload_n C.1 C.2.1 dX2_doIfItCanBe_20 rfl (lv_at hl 2 rfl) ?_
    obtain ⟨r28, eq27, hf⟩ := bi1_e hf
    refine x_cVi (As := [.int v2]) (rest := []) C X w (c_X2_canBePushed hI hb eq27) mw_X2_canBePushed ml_X2_136 (rcv_P (su_same _ _ _) hb) rfl hl.1 rfl (Nat.le_of_ble_eq_true rfl) ⟨⟨Nat.le_of_ble_eq_true rfl, Nat.le_of_ble_eq_true rfl⟩, Nat.le_of_ble_eq_true rfl, Nat.le_of_ble_eq_true rfl⟩ dX2_doIfItCanBe_21 (fun H locs w => ?_)
    refine lv_if_eq (tgt := 34) C.1 C.2.1 dX2_doIfItCanBe_24 (by decide) (fun c29 => ?_) (fun c29 => ?_)
    · rw [if_pos c29] at hf
      exact w_X2_doIfItCanBe_34 C hr hlk X hI hb _ _ _ _ _ _ w (lv_sub hl [0, 1, 2] rfl) hf
    · rw [if_neg c29] at hf
      refine lv_aload_n C.1 C.2.1 dX2_doIfItCanBe_27 rfl (lv_at hl 0 rfl) ?_
      refine lv_iload_n C.1 C.2.1 dX2_doIfItCanBe_28 rfl (lv_at hl 2 rfl) ?_
      obtain ⟨P32, eq30, hf⟩ := bi1_e hf
      refine x_cVv (As := [.int v2]) (rest := []) C X w (c_X2_pushOff hI hb eq30) mw_X2_pushOff ml_X2_116 (rcv_P (su_same _ _ _) hb) rfl hl.1 rfl (Nat.le_of_ble_eq_true rfl) ⟨⟨Nat.le_of_ble_eq_true rfl, Nat.le_of_ble_eq_true rfl⟩, Nat.le_of_ble_eq_true rfl, Nat.le_of_ble_eq_true rfl⟩ dX2_doIfItCanBe_29 (fun H locs w => ?_)
      refine lv_iconst (v := 1) C.1 C.2.1 dX2_doIfItCanBe_32 (by decide) ?_
      cases hf
      exact x_zret C hr hlk w rfl dX2_doIfItCanBe_33
def qX2_doIfItCanBe (R22 : Row) (R23 : Row) (P : Row) (x1 : Int32) (x2 : Int32) : Option (Int32 × Row) :=
(if x1 = 0 then (if x2 = 0 then (bi1 (qX2_passMinute R22 R23 P) (fun P25 =>
(some ((1 : Int32), P25))))
else (qX2_doIfItCanBe_14 R22 R23 P x1 x2))
else (qX2_doIfItCanBe_14 R22 R23 P x1 x2))
set_option maxHeartbeats 4000000 in
set_option maxRecDepth 100000 in
theorem c_X2_doIfItCanBe {l : Launch} {E : Ev} {ad : Nat → Nat} {g : Gp} {h : Hp} {b : Nat} {P : Row} {x1 : Int32} {x2 : Int32} {r : Int32} {P9 : Row} (hI : Inj ad) (hb : b < 18) (hf : qX2_doIfItCanBe (h 22) (h 23) P x1 x2 = some (r, P9)) : CtI l yX2_doIfItCanBe cX2_doIfItCanBe 3 (some .boolean) 5 113 E ad g g [.ref (ad (7 * b)), .int x1, .int x2] (su h b P) (su h b P9) r := by
  refine x_begin (by decide) (Nat.le_of_ble_eq_true rfl) ?_
  intro p e s m below meth c ls C hr hlk X w hl
  replace hl : lv_has ls 3 [(0, .ref (ad (7 * b))), (1, .int x1), (2, .int x2)] := hl
  replace C : CallFix p m c cX2_doIfItCanBe 3 s ([.ref (ad (7 * b)), .int x1, .int x2] : List Value).toArray lwA RX2 := C
  unfold qX2_doIfItCanBe at hf
  refine lv_iload_n C.1 C.2.1 dX2_doIfItCanBe_0 rfl (lv_at hl 1 rfl) ?_
  refine lv_if_ne (tgt := 14) C.1 C.2.1 dX2_doIfItCanBe_1 (by decide) (fun c21 => ?_) (fun c21 => ?_)
  · rw [if_neg c21] at hf
    exact w_X2_doIfItCanBe_14 C hr hlk X hI hb _ _ _ _ _ _ w (lv_sub hl [0, 1, 2] rfl) hf
  · rw [if_pos c21] at hf
    refine lv_iload_n C.1 C.2.1 dX2_doIfItCanBe_4 rfl (lv_at hl 2 rfl) ?_
    refine lv_if_ne (tgt := 14) C.1 C.2.1 dX2_doIfItCanBe_5 (by decide) (fun c22 => ?_) (fun c22 => ?_)
    · rw [if_neg c22] at hf
      exact w_X2_doIfItCanBe_14 C hr hlk X hI hb _ _ _ _ _ _ w (lv_sub hl [0, 1, 2] rfl) hf
    · rw [if_pos c22] at hf
      refine lv_aload_n C.1 C.2.1 dX2_doIfItCanBe_8 rfl (lv_at hl 0 rfl) ?_
      obtain ⟨P25, eq23, hf⟩ := bi1_e hf
      refine x_cVv (As := []) (rest := []) C X w (c_X2_passMinute hI hb eq23) mw_X2_passMinute ml_X2_133 (rcv_P (su_same _ _ _) hb) rfl hl.1 rfl (Nat.le_of_ble_eq_true rfl) ⟨⟨Nat.le_of_ble_eq_true rfl, Nat.le_of_ble_eq_true rfl⟩, Nat.le_of_ble_eq_true rfl, Nat.le_of_ble_eq_true rfl⟩ dX2_doIfItCanBe_9 (fun H locs w => ?_)
      refine lv_iconst (v := 1) C.1 C.2.1 dX2_doIfItCanBe_12 (by decide) ?_
      cases hf
      exact x_zret C hr hlk w rfl dX2_doIfItCanBe_13

def qX2_leaveOnly (P : Row) (x1 : Int32) : Option (Row) :=
(bd (upd P 36 ((P 36) &&& x1)) (fun P21 =>
(bi1 (qX2_leaveRiding P21 x1) (fun P24 =>
(some P24)))))
set_option maxHeartbeats 4000000 in
set_option maxRecDepth 100000 in
theorem c_X2_leaveOnly {l : Launch} {E : Ev} {ad : Nat → Nat} {g : Gp} {h : Hp} {b : Nat} {P : Row} {x1 : Int32} {P9 : Row} (hI : Inj ad) (hb : b < 18) (hf : qX2_leaveOnly P x1 = some P9) : CtV l yX2_leaveOnly cX2_leaveOnly 2 none 3 64 E ad g g [.ref (ad (7 * b)), .int x1] (su h b P) (su h b P9) := by
  refine x_begin (by decide) (Nat.le_of_ble_eq_true rfl) ?_
  intro p e s m below meth c ls C hr hlk X w hl
  replace hl : lv_has ls 2 [(0, .ref (ad (7 * b))), (1, .int x1)] := hl
  replace C : CallFix p m c cX2_leaveOnly 2 s ([.ref (ad (7 * b)), .int x1] : List Value).toArray lwA RX2 := C
  unfold qX2_leaveOnly at hf
  refine lv_aload_n C.1 C.2.1 dX2_leaveOnly_0 rfl (lv_at hl 0 rfl) ?_
  refine lv_dup C.1 C.2.1 dX2_leaveOnly_1 rfl ?_
  refine gf_X2_9 C X w (su_same h b P) hb dX2_leaveOnly_2 ?_
  refine lv_iload_n C.1 C.2.1 dX2_leaveOnly_5 rfl (lv_at hl 1 rfl) ?_
  refine lv_iand C.1 C.2.1 dX2_leaveOnly_6 ?_
  obtain ⟨P21, eP21, hf⟩ := bd_e hf
  refine pf_X2_9 C X hI w hb dX2_leaveOnly_7 (fun H locs w => ?_)
  replace w := at_eqP eP21 w
  refine lv_aload_n C.1 C.2.1 dX2_leaveOnly_10 rfl (lv_at hl 0 rfl) ?_
  refine lv_iload_n C.1 C.2.1 dX2_leaveOnly_11 rfl (lv_at hl 1 rfl) ?_
  obtain ⟨P24, eq22, hf⟩ := bi1_e hf
  refine x_cVv (As := [.int x1]) (rest := []) C X w (c_X2_leaveRiding hI hb eq22) mw_X2_leaveRiding ml_X2_130 (rcv_P (su_same _ _ _) hb) rfl hl.1 rfl (Nat.le_of_ble_eq_true rfl) ⟨⟨Nat.le_of_ble_eq_true rfl, Nat.le_of_ble_eq_true rfl⟩, Nat.le_of_ble_eq_true rfl, Nat.le_of_ble_eq_true rfl⟩ dX2_leaveOnly_12 (fun H locs w => ?_)
  cases hf
  exact x_vret C hr hlk w dX2_leaveOnly_15
