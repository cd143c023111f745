-- ===== end of PART A; then your names; then what follows =====
/-! THE CLAIM OUT OF ONE WALK OF THE LAW'S BODY. Your part is whole_start (and what it stands on); all else here is the same for every law, but numbers. -/
def R_law : String := "OneTricycleLaw"
def lw_P (b : Addr) (xs : List Int32) (args : Array Value) (s : State) : Prop := args = #[.ref b] ∧ s.IntsAt b xs ∧ xs.length ≤ 320 ∧ (Jvm.Cond.and given_1 narrow_1).before args s = true
def lw_Q (_ : Array Value) (s : State) (o : Outcome) (t : State) : Prop := o = .returned (some (.int 1)) ∧ Framed s o t [] 600000 7302250
def lw_Z (below : List Frame) (a : Array Value) (s : State) : State → Prop := fun t => ∃ o, t.status = .running ∧ Ended t below o ∧ lw_Q a s o t
/-- the law's own end, with 1 on the stack, nothing written that was there before, its room as the claim has it -/
theorem lw_ret {p : Program} {l : Launch} {e : Env} {s : State} {m : MethodId} {below : List Frame} {meth : Method} {c : Code} {b : Nat} (hx : p.tables.exec = Jvm.exec) (hb : c.code = code) (hr : meth.sig.returnType = ret) (hlocks : meth.locks = false) {pc : Nat} {H : Heap} {ls : Array Slot} (hdg : decode code pc = .ok (.ireturn, 1)) : W p l e room_1 s m #[Value.ref b] below meth c H [] 600000 7302250 (lw_Z below #[Value.ref b] s) (F0 m pc ls [.int 1]) := by
  intro T hT X
  obtain ⟨fs, hret, hrun, hended, hW, hframe⟩ := X.leave (v := some (.int 1)) (hlocks := hlocks) (fun h => by rw [hr] at h; cases h)
  have hmeth' : T.vm.method? m = some meth := X.method'
  refine ⟨T.setFrames fs, ?_, .returned (some (.int 1)), hrun, hended, rfl, ⟨_, rfl⟩, hW, hframe⟩
  jvm_step X.here [X.here.top, hx, hb, hdg, hmeth', hr, ret, narrow_b1]
  (try refine ⟨rfl, ?_⟩); (try refine ⟨rfl, ?_⟩)
  first | (intro acts; rw [hret _ acts rfl rfl rfl]) | rw [hret _ _ rfl rfl rfl]
  exact Steps.refl _
/-- what holds at the law's entry: the machine, the code, the tables' words (any of lw_tbl by 'hts w (by decide +kernel)'), the script of L ints xs at the cell b, what the Statement gives of the start (any of its parts by flat_of_before) -/
def lw_At (p : Program) (s : State) (m : MethodId) (meth : Method) (c : Code) (b L : Nat) (xs : Nat → Int32) : Prop :=
  p.tables.exec = Jvm.exec ∧ c.code = code ∧ meth.sig.returnType = ret ∧ c.maxLocals = 4 ∧ s.vm.findClass R_law = some m.cls ∧ (∀ w ∈ lw_tbl, w.before #[Value.ref b] s = true) ∧ va_X b L xs s s.heap ∧ b < s.heap.size ∧ meth.locks = false ∧ (Jvm.Cond.and given_1 narrow_1).before #[Value.ref b] s = true
theorem law_end {p : Program} {l : Launch} {e : Env} {s : State} {m : MethodId} {below : List Frame} {meth : Method} {c : Code} {E : Ev} {ad : Nat → Nat} {b : Nat} {h : Hp} {g : Gp} {H : Heap} {locs : List Loc} {pc : Nat} {ls : Array Slot} (C : CallFix p m c code 4 s #[Value.ref b] lwA RL) (hr : meth.sig.returnType = ret) (hlk : meth.locks = false) (hA : ∀ i, i < 154 → s.heap.size ≤ ad i) (w : At E ad h g s H locs) (hdg : decode code pc = .ok (.ireturn, 1)) : W p l e room_1 s m #[Value.ref b] below meth c H locs 600000 7302250 (lw_Z below #[Value.ref b] s) (F0 m pc ls [.int 1]) := by
  refine va_forget (fun q hq => ?_) (lw_ret C.1 C.2.1 hr hlk hdg)
  obtain ⟨i, hi, e⟩ := w.2.2.2 q hq
  rw [e]
  exact hA i hi
def qL_law_1001 (L : Nat) (xs : Row) (k18 : Hp → Gp → Int32 → Option (Unit)) (h : Hp) (g : Gp) (v3 : Int32) : Option (Unit) :=
(k18 h g (v3 + (5)))
set_option maxHeartbeats 4000000 in
set_option maxRecDepth 100000 in
theorem w_L_law_1001 {p : Program} {l : Launch} {e : Env} {s : State} {m : MethodId} {below : List Frame} {meth : Method} {c : Code} {E : Ev} {ad : Nat → Nat} {b L : Nat} {xs : Row} {k18 : Hp → Gp → Int32 → Option (Unit)} (C : CallFix p m c code 4 s #[Value.ref b] lwA RL) (hr : meth.sig.returnType = ret) (hlk : meth.locks = false) (X : Sx E ad s) (hI : Inj ad) (hA : ∀ i, i < 154 → s.heap.size ≤ ad i) (hX : va_X b L xs s s.heap) (hbl : b < s.heap.size) (hbA : ¬ adA ad b) (hk18 : ∀ (h : Hp) (g : Gp) (v3 : Int32) (H : Heap) (locs : List Loc) (ls : Array Slot), At E ad h g s H locs → lv_has ls 4 [(0, .ref b), (1, .ref (ad 126)), (2, .ref (ad 141)), (3, .int v3)] → k18 h g v3 = some () → W p l e room_1 s m #[Value.ref b] below meth c H locs 600000 7302250 (lw_Z below #[Value.ref b] s) (F0 m 18 ls [])) : ∀ (h : Hp) (g : Gp) (v3 : Int32) (H : Heap) (locs : List Loc) (ls : Array Slot), At E ad h g s H locs → lv_has ls 4 [(0, .ref b), (1, .ref (ad 126)), (2, .ref (ad 141)), (3, .int v3)] → qL_law_1001 L xs k18 h g v3 = some () → W p l e room_1 s m #[Value.ref b] below meth c H locs 600000 7302250 (lw_Z below #[Value.ref b] s) (F0 m 1001 ls []) := by
  intro h g v3 H locs ls w hl hf
  unfold qL_law_1001 at hf
  refine lv_iinc (v := (v3 + (5))) (lv' := [(3, .int (v3 + (5))), (0, .ref b), (1, .ref (ad 126)), (2, .ref (ad 141))]) C.1 C.2.1 dL_law_1001 hl (k := 3) rfl (congrArg (fun z => v3 + z) (by decide)) (by decide) rfl (fun ls hl => ?_)
  refine lv_goto (tgt := 18) C.1 C.2.1 dL_law_1004 (by decide) ?_
  exact hk18 _ _ _ _ _ _ w (lv_sub hl [1, 2, 3, 0] rfl) hf
def qL_law_699 (L : Nat) (xs : Row) (k18 : Hp → Gp → Int32 → Option (Unit)) (h : Hp) (g : Gp) (v3 : Int32) (s0 : Int32) (s2 : Int32) (s3 : Int32) : Option (Unit) :=
(bi2 (qX7_share h s2 s3) (fun r338 h339 =>
(if s0 = r338 then (qL_law_1001 L xs k18 h339 g v3)
else none)))
set_option maxHeartbeats 4000000 in
set_option maxRecDepth 100000 in
theorem w_L_law_699 {p : Program} {l : Launch} {e : Env} {s : State} {m : MethodId} {below : List Frame} {meth : Method} {c : Code} {E : Ev} {ad : Nat → Nat} {b L : Nat} {xs : Row} {k18 : Hp → Gp → Int32 → Option (Unit)} (C : CallFix p m c code 4 s #[Value.ref b] lwA RL) (hr : meth.sig.returnType = ret) (hlk : meth.locks = false) (X : Sx E ad s) (hI : Inj ad) (hA : ∀ i, i < 154 → s.heap.size ≤ ad i) (hX : va_X b L xs s s.heap) (hbl : b < s.heap.size) (hbA : ¬ adA ad b) (hk18 : ∀ (h : Hp) (g : Gp) (v3 : Int32) (H : Heap) (locs : List Loc) (ls : Array Slot), At E ad h g s H locs → lv_has ls 4 [(0, .ref b), (1, .ref (ad 126)), (2, .ref (ad 141)), (3, .int v3)] → k18 h g v3 = some () → W p l e room_1 s m #[Value.ref b] below meth c H locs 600000 7302250 (lw_Z below #[Value.ref b] s) (F0 m 18 ls [])) : ∀ (h : Hp) (g : Gp) (v3 : Int32) (s0 : Int32) (s2 : Int32) (s3 : Int32) (H : Heap) (locs : List Loc) (ls : Array Slot), At E ad h g s H locs → lv_has ls 4 [(0, .ref b), (1, .ref (ad 126)), (2, .ref (ad 141)), (3, .int v3)] → qL_law_699 L xs k18 h g v3 s0 s2 s3 = some () → W p l e room_1 s m #[Value.ref b] below meth c H locs 600000 7302250 (lw_Z below #[Value.ref b] s) (F0 m 699 ls [.int s3, .int s2, .ref (ad 141), .int s0]) := by
  intro h g v3 s0 s2 s3 H locs ls w hl hf
  unfold qL_law_699 at hf
  obtain ⟨r338, h339, eq337, hf⟩ := bi2_e hf
  refine x_cVi (As := [.int s2, .int s3]) (rest := [.int s0]) C X w (c_X7_share hI eq337) mw_X7_share ml_L_101 rcv_r33 rfl hl.1 rfl (Nat.le_of_ble_eq_true rfl) ⟨⟨Nat.le_of_ble_eq_true rfl, Nat.le_of_ble_eq_true rfl⟩, Nat.le_of_ble_eq_true rfl, Nat.le_of_ble_eq_true rfl⟩ dL_law_699 (fun H locs w => ?_)
  refine lv_icmp_eq (tgt := 1001) C.1 C.2.1 dL_law_702 (by decide) (fun c340 => ?_) (fun c340 => ?_)
  · rw [if_pos c340] at hf
    exact w_L_law_1001 C hr hlk X hI hA hX hbl hbA hk18 _ _ _ _ _ _ w (lv_sub hl [0, 1, 2, 3] rfl) hf
  · rw [if_neg c340] at hf
    refine lv_iconst (v := 0) C.1 C.2.1 dL_law_705 (by decide) ?_
    cases hf
def qL_law_677 (L : Nat) (xs : Row) (k18 : Hp → Gp → Int32 → Option (Unit)) (h : Hp) (g : Gp) (v3 : Int32) (s1 : Int32) (s2 : Int32) : Option (Unit) :=
(bi2 (qX6_share h s1 s2) (fun r324 h325 =>
(ck (inb (v3 + (1 : Int32)) L) ((ck (inb (v3 + (2 : Int32)) L) ((if (xs ((v3 + (2 : Int32))).toNatClampNeg) = 0 then (qL_law_699 L xs k18 h325 g v3 r324 (xs ((v3 + (1 : Int32))).toNatClampNeg) (0 : Int32))
else (qL_law_699 L xs k18 h325 g v3 r324 (xs ((v3 + (1 : Int32))).toNatClampNeg) (1 : Int32)))))))))
set_option maxHeartbeats 4000000 in
set_option maxRecDepth 100000 in
theorem w_L_law_677 {p : Program} {l : Launch} {e : Env} {s : State} {m : MethodId} {below : List Frame} {meth : Method} {c : Code} {E : Ev} {ad : Nat → Nat} {b L : Nat} {xs : Row} {k18 : Hp → Gp → Int32 → Option (Unit)} (C : CallFix p m c code 4 s #[Value.ref b] lwA RL) (hr : meth.sig.returnType = ret) (hlk : meth.locks = false) (X : Sx E ad s) (hI : Inj ad) (hA : ∀ i, i < 154 → s.heap.size ≤ ad i) (hX : va_X b L xs s s.heap) (hbl : b < s.heap.size) (hbA : ¬ adA ad b) (hk18 : ∀ (h : Hp) (g : Gp) (v3 : Int32) (H : Heap) (locs : List Loc) (ls : Array Slot), At E ad h g s H locs → lv_has ls 4 [(0, .ref b), (1, .ref (ad 126)), (2, .ref (ad 141)), (3, .int v3)] → k18 h g v3 = some () → W p l e room_1 s m #[Value.ref b] below meth c H locs 600000 7302250 (lw_Z below #[Value.ref b] s) (F0 m 18 ls [])) : ∀ (h : Hp) (g : Gp) (v3 : Int32) (s1 : Int32) (s2 : Int32) (H : Heap) (locs : List Loc) (ls : Array Slot), At E ad h g s H locs → lv_has ls 4 [(0, .ref b), (1, .ref (ad 126)), (2, .ref (ad 141)), (3, .int v3)] → qL_law_677 L xs k18 h g v3 s1 s2 = some () → W p l e room_1 s m #[Value.ref b] below meth c H locs 600000 7302250 (lw_Z below #[Value.ref b] s) (F0 m 677 ls [.int s2, .int s1, .ref (ad 126)]) := by
  intro h g v3 s1 s2 H locs ls w hl hf
  unfold qL_law_677 at hf
  obtain ⟨r324, h325, eq323, hf⟩ := bi2_e hf
  refine x_cVi (As := [.int s1, .int s2]) (rest := []) C X w (c_X6_share hI eq323) mw_X6_share ml_L_97 rcv_r18 rfl hl.1 rfl (Nat.le_of_ble_eq_true rfl) ⟨⟨Nat.le_of_ble_eq_true rfl, Nat.le_of_ble_eq_true rfl⟩, Nat.le_of_ble_eq_true rfl, Nat.le_of_ble_eq_true rfl⟩ dL_law_677 (fun H locs w => ?_)
  refine lv_aload_n C.1 C.2.1 dL_law_680 rfl (lv_at hl 2 rfl) ?_
  refine lv_aload_n C.1 C.2.1 dL_law_681 rfl (lv_at hl 0 rfl) ?_
  refine lv_iload_n C.1 C.2.1 dL_law_682 rfl (lv_at hl 3 rfl) ?_
  refine lv_iconst (v := 1) C.1 C.2.1 dL_law_683 (by decide) ?_
  refine lv_iadd C.1 C.2.1 dL_law_684 ?_
  obtain ⟨i326, hf⟩ := ck_e hf
  refine va_sld C.1 C.2.1 hX hbl hbA w.2 (inb_in i326) dL_law_685 ?_
  refine lv_aload_n C.1 C.2.1 dL_law_686 rfl (lv_at hl 0 rfl) ?_
  refine lv_iload_n C.1 C.2.1 dL_law_687 rfl (lv_at hl 3 rfl) ?_
  refine lv_iconst (v := 2) C.1 C.2.1 dL_law_688 (by decide) ?_
  refine lv_iadd C.1 C.2.1 dL_law_689 ?_
  obtain ⟨i327, hf⟩ := ck_e hf
  refine va_sld C.1 C.2.1 hX hbl hbA w.2 (inb_in i327) dL_law_690 ?_
  refine lv_if_eq (tgt := 698) C.1 C.2.1 dL_law_691 (by decide) (fun c328 => ?_) (fun c328 => ?_)
  · rw [if_pos c328] at hf
    refine lv_iconst (v := 0) C.1 C.2.1 dL_law_698 (by decide) ?_
    exact w_L_law_699 C hr hlk X hI hA hX hbl hbA hk18 _ _ _ _ _ _ _ _ _ w (lv_sub hl [0, 1, 2, 3] rfl) hf
  · rw [if_neg c328] at hf
    refine lv_iconst (v := 1) C.1 C.2.1 dL_law_694 (by decide) ?_
    refine lv_goto (tgt := 699) C.1 C.2.1 dL_law_695 (by decide) ?_
    exact w_L_law_699 C hr hlk X hI hA hX hbl hbA hk18 _ _ _ _ _ _ _ _ _ w (lv_sub hl [0, 1, 2, 3] rfl) hf
def qL_law_870 (L : Nat) (xs : Row) (k18 : Hp → Gp → Int32 → Option (Unit)) (h : Hp) (g : Gp) (v3 : Int32) (s0 : Int32) (s2 : Int32) (s3 : Int32) (s4 : Int32) (s5 : Int32) : Option (Unit) :=
(bi2 (qX7_chance h s2 s3 s4 s5) (fun r342 h343 =>
(if s0 = r342 then (qL_law_1001 L xs k18 h343 g v3)
else none)))
set_option maxHeartbeats 4000000 in
set_option maxRecDepth 100000 in
theorem w_L_law_870 {p : Program} {l : Launch} {e : Env} {s : State} {m : MethodId} {below : List Frame} {meth : Method} {c : Code} {E : Ev} {ad : Nat → Nat} {b L : Nat} {xs : Row} {k18 : Hp → Gp → Int32 → Option (Unit)} (C : CallFix p m c code 4 s #[Value.ref b] lwA RL) (hr : meth.sig.returnType = ret) (hlk : meth.locks = false) (X : Sx E ad s) (hI : Inj ad) (hA : ∀ i, i < 154 → s.heap.size ≤ ad i) (hX : va_X b L xs s s.heap) (hbl : b < s.heap.size) (hbA : ¬ adA ad b) (hk18 : ∀ (h : Hp) (g : Gp) (v3 : Int32) (H : Heap) (locs : List Loc) (ls : Array Slot), At E ad h g s H locs → lv_has ls 4 [(0, .ref b), (1, .ref (ad 126)), (2, .ref (ad 141)), (3, .int v3)] → k18 h g v3 = some () → W p l e room_1 s m #[Value.ref b] below meth c H locs 600000 7302250 (lw_Z below #[Value.ref b] s) (F0 m 18 ls [])) : ∀ (h : Hp) (g : Gp) (v3 : Int32) (s0 : Int32) (s2 : Int32) (s3 : Int32) (s4 : Int32) (s5 : Int32) (H : Heap) (locs : List Loc) (ls : Array Slot), At E ad h g s H locs → lv_has ls 4 [(0, .ref b), (1, .ref (ad 126)), (2, .ref (ad 141)), (3, .int v3)] → qL_law_870 L xs k18 h g v3 s0 s2 s3 s4 s5 = some () → W p l e room_1 s m #[Value.ref b] below meth c H locs 600000 7302250 (lw_Z below #[Value.ref b] s) (F0 m 870 ls [.int s5, .int s4, .int s3, .int s2, .ref (ad 141), .int s0]) := by
  intro h g v3 s0 s2 s3 s4 s5 H locs ls w hl hf
  unfold qL_law_870 at hf
  obtain ⟨r342, h343, eq341, hf⟩ := bi2_e hf
  refine x_cVi (As := [.int s2, .int s3, .int s4, .int s5]) (rest := [.int s0]) C X w (c_X7_chance hI eq341) mw_X7_chance ml_L_123 rcv_r33 rfl hl.1 rfl (Nat.le_of_ble_eq_true rfl) ⟨⟨Nat.le_of_ble_eq_true rfl, Nat.le_of_ble_eq_true rfl⟩, Nat.le_of_ble_eq_true rfl, Nat.le_of_ble_eq_true rfl⟩ dL_law_870 (fun H locs w => ?_)
  refine lv_icmp_eq (tgt := 1001) C.1 C.2.1 dL_law_873 (by decide) (fun c344 => ?_) (fun c344 => ?_)
  · rw [if_pos c344] at hf
    exact w_L_law_1001 C hr hlk X hI hA hX hbl hbA hk18 _ _ _ _ _ _ w (lv_sub hl [0, 1, 2, 3] rfl) hf
  · rw [if_neg c344] at hf
    refine lv_iconst (v := 0) C.1 C.2.1 dL_law_876 (by decide) ?_
    cases hf
def qL_law_838 (L : Nat) (xs : Row) (k18 : Hp → Gp → Int32 → Option (Unit)) (h : Hp) (g : Gp) (v3 : Int32) (s1 : Int32) (s2 : Int32) (s3 : Int32) (s4 : Int32) : Option (Unit) :=
(bi2 (qX6_chance h s1 s2 s3 s4) (fun r330 h331 =>
(ck (inb (v3 + (1 : Int32)) L) ((ck (inb (v3 + (2 : Int32)) L) ((ck (inb (v3 + (3 : Int32)) L) ((ck (inb (v3 + (4 : Int32)) L) ((if (xs ((v3 + (4 : Int32))).toNatClampNeg) = 0 then (qL_law_870 L xs k18 h331 g v3 r330 (xs ((v3 + (1 : Int32))).toNatClampNeg) (xs ((v3 + (2 : Int32))).toNatClampNeg) (xs ((v3 + (3 : Int32))).toNatClampNeg) (0 : Int32))
else (qL_law_870 L xs k18 h331 g v3 r330 (xs ((v3 + (1 : Int32))).toNatClampNeg) (xs ((v3 + (2 : Int32))).toNatClampNeg) (xs ((v3 + (3 : Int32))).toNatClampNeg) (1 : Int32)))))))))))))
set_option maxHeartbeats 4000000 in
set_option maxRecDepth 100000 in
theorem w_L_law_838 {p : Program} {l : Launch} {e : Env} {s : State} {m : MethodId} {below : List Frame} {meth : Method} {c : Code} {E : Ev} {ad : Nat → Nat} {b L : Nat} {xs : Row} {k18 : Hp → Gp → Int32 → Option (Unit)} (C : CallFix p m c code 4 s #[Value.ref b] lwA RL) (hr : meth.sig.returnType = ret) (hlk : meth.locks = false) (X : Sx E ad s) (hI : Inj ad) (hA : ∀ i, i < 154 → s.heap.size ≤ ad i) (hX : va_X b L xs s s.heap) (hbl : b < s.heap.size) (hbA : ¬ adA ad b) (hk18 : ∀ (h : Hp) (g : Gp) (v3 : Int32) (H : Heap) (locs : List Loc) (ls : Array Slot), At E ad h g s H locs → lv_has ls 4 [(0, .ref b), (1, .ref (ad 126)), (2, .ref (ad 141)), (3, .int v3)] → k18 h g v3 = some () → W p l e room_1 s m #[Value.ref b] below meth c H locs 600000 7302250 (lw_Z below #[Value.ref b] s) (F0 m 18 ls [])) : ∀ (h : Hp) (g : Gp) (v3 : Int32) (s1 : Int32) (s2 : Int32) (s3 : Int32) (s4 : Int32) (H : Heap) (locs : List Loc) (ls : Array Slot), At E ad h g s H locs → lv_has ls 4 [(0, .ref b), (1, .ref (ad 126)), (2, .ref (ad 141)), (3, .int v3)] → qL_law_838 L xs k18 h g v3 s1 s2 s3 s4 = some () → W p l e room_1 s m #[Value.ref b] below meth c H locs 600000 7302250 (lw_Z below #[Value.ref b] s) (F0 m 838 ls [.int s4, .int s3, .int s2, .int s1, .ref (ad 126)]) := by
  intro h g v3 s1 s2 s3 s4 H locs ls w hl hf
  unfold qL_law_838 at hf
  obtain ⟨r330, h331, eq329, hf⟩ := bi2_e hf
  refine x_cVi (As := [.int s1, .int s2, .int s3, .int s4]) (rest := []) C X w (c_X6_chance hI eq329) mw_X6_chance ml_L_119 rcv_r18 rfl hl.1 rfl (Nat.le_of_ble_eq_true rfl) ⟨⟨Nat.le_of_ble_eq_true rfl, Nat.le_of_ble_eq_true rfl⟩, Nat.le_of_ble_eq_true rfl, Nat.le_of_ble_eq_true rfl⟩ dL_law_838 (fun H locs w => ?_)
  refine lv_aload_n C.1 C.2.1 dL_law_841 rfl (lv_at hl 2 rfl) ?_
  refine lv_aload_n C.1 C.2.1 dL_law_842 rfl (lv_at hl 0 rfl) ?_
  refine lv_iload_n C.1 C.2.1 dL_law_843 rfl (lv_at hl 3 rfl) ?_
  refine lv_iconst (v := 1) C.1 C.2.1 dL_law_844 (by decide) ?_
  refine lv_iadd C.1 C.2.1 dL_law_845 ?_
  obtain ⟨i332, hf⟩ := ck_e hf
  refine va_sld C.1 C.2.1 hX hbl hbA w.2 (inb_in i332) dL_law_846 ?_
  refine lv_aload_n C.1 C.2.1 dL_law_847 rfl (lv_at hl 0 rfl) ?_
  refine lv_iload_n C.1 C.2.1 dL_law_848 rfl (lv_at hl 3 rfl) ?_
  refine lv_iconst (v := 2) C.1 C.2.1 dL_law_849 (by decide) ?_
  refine lv_iadd C.1 C.2.1 dL_law_850 ?_
  obtain ⟨i333, hf⟩ := ck_e hf
  refine va_sld C.1 C.2.1 hX hbl hbA w.2 (inb_in i333) dL_law_851 ?_
  refine lv_aload_n C.1 C.2.1 dL_law_852 rfl (lv_at hl 0 rfl) ?_
  refine lv_iload_n C.1 C.2.1 dL_law_853 rfl (lv_at hl 3 rfl) ?_
  refine lv_iconst (v := 3) C.1 C.2.1 dL_law_854 (by decide) ?_
  refine lv_iadd C.1 C.2.1 dL_law_855 ?_
  obtain ⟨i334, hf⟩ := ck_e hf
  refine va_sld C.1 C.2.1 hX hbl hbA w.2 (inb_in i334) dL_law_856 ?_
  refine lv_aload_n C.1 C.2.1 dL_law_857 rfl (lv_at hl 0 rfl) ?_
  refine lv_iload_n C.1 C.2.1 dL_law_858 rfl (lv_at hl 3 rfl) ?_
  refine lv_iconst (v := 4) C.1 C.2.1 dL_law_859 (by decide) ?_
  refine lv_iadd C.1 C.2.1 dL_law_860 ?_
  obtain ⟨i335, hf⟩ := ck_e hf
  refine va_sld C.1 C.2.1 hX hbl hbA w.2 (inb_in i335) dL_law_861 ?_
  refine lv_if_eq (tgt := 869) C.1 C.2.1 dL_law_862 (by decide) (fun c336 => ?_) (fun c336 => ?_)
  · rw [if_pos c336] at hf
    refine lv_iconst (v := 0) C.1 C.2.1 dL_law_869 (by decide) ?_
    exact w_L_law_870 C hr hlk X hI hA hX hbl hbA hk18 _ _ _ _ _ _ _ _ _ _ _ w (lv_sub hl [0, 1, 2, 3] rfl) hf
  · rw [if_neg c336] at hf
    refine lv_iconst (v := 1) C.1 C.2.1 dL_law_865 (by decide) ?_
    refine lv_goto (tgt := 870) C.1 C.2.1 dL_law_866 (by decide) ?_
    exact w_L_law_870 C hr hlk X hI hA hX hbl hbA hk18 _ _ _ _ _ _ _ _ _ _ _ w (lv_sub hl [0, 1, 2, 3] rfl) hf
def qL_law_18 (L : Nat) (xs : Row) : Nat → Hp → Gp → Int32 → Option (Unit)
  | 0, _, _, _ => none
  | n + 1, h, g, v3 =>
    (if ((Int32.ofNat L) - (5 : Int32)) < v3 then (some ())
    else (ck (inb v3 L) ((if ((xs (v3).toNatClampNeg) &&& (31 : Int32)) = 0 then (ck (inb (v3 + (1 : Int32)) L) ((bi2 (qX6_write h (xs ((v3 + (1 : Int32))).toNatClampNeg)) (fun r26 h27 =>
    (ck (inb (v3 + (1 : Int32)) L) ((bi2 (qX7_write h27 (xs ((v3 + (1 : Int32))).toNatClampNeg)) (fun r30 h31 =>
    (if r26 = r30 then (qL_law_1001 L xs (qL_law_18 L xs n) h31 g v3)
    else none)))))))))
    else (if ((xs (v3).toNatClampNeg) &&& (31 : Int32)) = 1 then (bi2 (qX6_wipe h) (fun r35 h36 =>
    (bi2 (qX7_wipe h36) (fun r38 h39 =>
    (if r35 = r38 then (qL_law_1001 L xs (qL_law_18 L xs n) h39 g v3)
    else none)))))
    else (if ((xs (v3).toNatClampNeg) &&& (31 : Int32)) = 2 then (bi1 (qX6_fault h) (fun r43 =>
    (bi2 (qX7_fault h) (fun r45 h46 =>
    (if r43 = r45 then (qL_law_1001 L xs (qL_law_18 L xs n) h46 g v3)
    else none)))))
    else (if ((xs (v3).toNatClampNeg) &&& (31 : Int32)) = 3 then (bi2 (qX6_garden h) (fun r50 h51 =>
    (bi2 (qX7_garden h51) (fun r53 h54 =>
    (if r50 = r53 then (qL_law_1001 L xs (qL_law_18 L xs n) h54 g v3)
    else none)))))
    else (if ((xs (v3).toNatClampNeg) &&& (31 : Int32)) = 4 then (ck (inb (v3 + (1 : Int32)) L) ((bi1 (qX6_about h (xs ((v3 + (1 : Int32))).toNatClampNeg)) (fun r59 =>
    (ck (inb (v3 + (1 : Int32)) L) ((bi2 (qX7_about h (xs ((v3 + (1 : Int32))).toNatClampNeg)) (fun r62 h63 =>
    (if r59 = r62 then (qL_law_1001 L xs (qL_law_18 L xs n) h63 g v3)
    else none)))))))))
    else (if ((xs (v3).toNatClampNeg) &&& (31 : Int32)) = 5 then (ck (inb (v3 + (1 : Int32)) L) ((ck (inb (v3 + (2 : Int32)) L) ((bi1 (qX6_child h (xs ((v3 + (1 : Int32))).toNatClampNeg) (xs ((v3 + (2 : Int32))).toNatClampNeg)) (fun r69 =>
    (ck (inb (v3 + (1 : Int32)) L) ((ck (inb (v3 + (2 : Int32)) L) ((bi2 (qX7_child h (xs ((v3 + (1 : Int32))).toNatClampNeg) (xs ((v3 + (2 : Int32))).toNatClampNeg)) (fun r73 h74 =>
    (if r69 = r73 then (qL_law_1001 L xs (qL_law_18 L xs n) h74 g v3)
    else none)))))))))))))
    else (if ((xs (v3).toNatClampNeg) &&& (31 : Int32)) = 6 then (bi2 (qX6_minute h) (fun r78 h79 =>
    (bi2 (qX7_minute h79) (fun r81 h82 =>
    (if r78 = r81 then (qL_law_1001 L xs (qL_law_18 L xs n) h82 g v3)
    else none)))))
    else (if ((xs (v3).toNatClampNeg) &&& (31 : Int32)) = 7 then (ck (inb (v3 + (1 : Int32)) L) ((ck (inb (v3 + (2 : Int32)) L) ((bi2 (qX6_give h (xs ((v3 + (1 : Int32))).toNatClampNeg) (xs ((v3 + (2 : Int32))).toNatClampNeg)) (fun r88 h89 =>
    (ck (inb (v3 + (1 : Int32)) L) ((ck (inb (v3 + (2 : Int32)) L) ((bi2 (qX7_give h89 (xs ((v3 + (1 : Int32))).toNatClampNeg) (xs ((v3 + (2 : Int32))).toNatClampNeg)) (fun r93 h94 =>
    (if r88 = r93 then (qL_law_1001 L xs (qL_law_18 L xs n) h94 g v3)
    else none)))))))))))))
    else (if ((xs (v3).toNatClampNeg) &&& (31 : Int32)) = 8 then (ck (inb (v3 + (1 : Int32)) L) ((bi2 (qX6_push h (xs ((v3 + (1 : Int32))).toNatClampNeg)) (fun r99 h100 =>
    (ck (inb (v3 + (1 : Int32)) L) ((bi2 (qX7_push h100 (xs ((v3 + (1 : Int32))).toNatClampNeg)) (fun r103 h104 =>
    (if r99 = r103 then (qL_law_1001 L xs (qL_law_18 L xs n) h104 g v3)
    else none)))))))))
    else (if ((xs (v3).toNatClampNeg) &&& (31 : Int32)) = 9 then (ck (inb (v3 + (1 : Int32)) L) ((bi2 (qX6_call h (xs ((v3 + (1 : Int32))).toNatClampNeg)) (fun r109 h110 =>
    (ck (inb (v3 + (1 : Int32)) L) ((bi2 (qX7_call h110 (xs ((v3 + (1 : Int32))).toNatClampNeg)) (fun r113 h114 =>
    (if r109 = r113 then (qL_law_1001 L xs (qL_law_18 L xs n) h114 g v3)
    else none)))))))))
    else (if ((xs (v3).toNatClampNeg) &&& (31 : Int32)) = 10 then (ck (inb (v3 + (1 : Int32)) L) ((ck (inb (v3 + (2 : Int32)) L) ((bi2 (qX6_rule h (xs ((v3 + (1 : Int32))).toNatClampNeg) (xs ((v3 + (2 : Int32))).toNatClampNeg)) (fun r120 h121 =>
    (ck (inb (v3 + (1 : Int32)) L) ((ck (inb (v3 + (2 : Int32)) L) ((bi2 (qX7_rule h121 (xs ((v3 + (1 : Int32))).toNatClampNeg) (xs ((v3 + (2 : Int32))).toNatClampNeg)) (fun r125 h126 =>
    (if r120 = r125 then (qL_law_1001 L xs (qL_law_18 L xs n) h126 g v3)
    else none)))))))))))))
    else (if ((xs (v3).toNatClampNeg) &&& (31 : Int32)) = 11 then (bi2 (qX6_put h) (fun r130 h131 =>
    (bi2 (qX7_put h131) (fun r133 h134 =>
    (if r130 = r133 then (qL_law_1001 L xs (qL_law_18 L xs n) h134 g v3)
    else none)))))
    else (if ((xs (v3).toNatClampNeg) &&& (31 : Int32)) = 12 then (bi2 (qX6_undo h) (fun r138 h139 =>
    (bi2 (qX7_undo h139) (fun r141 h142 =>
    (if r138 = r141 then (qL_law_1001 L xs (qL_law_18 L xs n) h142 g v3)
    else none)))))
    else (if ((xs (v3).toNatClampNeg) &&& (31 : Int32)) = 13 then (ck (inb (v3 + (1 : Int32)) L) ((ck (inb (v3 + (2 : Int32)) L) ((bi2 (qX6_ahead h (xs ((v3 + (1 : Int32))).toNatClampNeg) (xs ((v3 + (2 : Int32))).toNatClampNeg)) (fun r148 h149 =>
    (ck (inb (v3 + (1 : Int32)) L) ((ck (inb (v3 + (2 : Int32)) L) ((bi2 (qX7_ahead h149 (xs ((v3 + (1 : Int32))).toNatClampNeg) (xs ((v3 + (2 : Int32))).toNatClampNeg)) (fun r153 h154 =>
    (if r148 = r153 then (qL_law_1001 L xs (qL_law_18 L xs n) h154 g v3)
    else none)))))))))))))
    else (if ((xs (v3).toNatClampNeg) &&& (31 : Int32)) = 14 then (ck (inb (v3 + (1 : Int32)) L) ((ck (inb (v3 + (2 : Int32)) L) ((ck (inb (v3 + (3 : Int32)) L) ((ck (inb (v3 + (4 : Int32)) L) ((bi2 (qX6_by h (xs ((v3 + (1 : Int32))).toNatClampNeg) (xs ((v3 + (2 : Int32))).toNatClampNeg) (xs ((v3 + (3 : Int32))).toNatClampNeg) (xs ((v3 + (4 : Int32))).toNatClampNeg)) (fun r162 h163 =>
    (ck (inb (v3 + (1 : Int32)) L) ((ck (inb (v3 + (2 : Int32)) L) ((ck (inb (v3 + (3 : Int32)) L) ((ck (inb (v3 + (4 : Int32)) L) ((bi2 (qX7_by h163 (xs ((v3 + (1 : Int32))).toNatClampNeg) (xs ((v3 + (2 : Int32))).toNatClampNeg) (xs ((v3 + (3 : Int32))).toNatClampNeg) (xs ((v3 + (4 : Int32))).toNatClampNeg)) (fun r169 h170 =>
    (if r162 = r169 then (qL_law_1001 L xs (qL_law_18 L xs n) h170 g v3)
    else none)))))))))))))))))))))
    else (if ((xs (v3).toNatClampNeg) &&& (31 : Int32)) = 15 then (ck (inb (v3 + (1 : Int32)) L) ((ck (inb (v3 + (2 : Int32)) L) ((bi2 (qX6_bestLength h (xs ((v3 + (1 : Int32))).toNatClampNeg) (xs ((v3 + (2 : Int32))).toNatClampNeg)) (fun r176 h177 =>
    (ck (inb (v3 + (1 : Int32)) L) ((ck (inb (v3 + (2 : Int32)) L) ((bi2 (qX7_bestLength h177 (xs ((v3 + (1 : Int32))).toNatClampNeg) (xs ((v3 + (2 : Int32))).toNatClampNeg)) (fun r181 h182 =>
    (if r176 = r181 then (qL_law_1001 L xs (qL_law_18 L xs n) h182 g v3)
    else none)))))))))))))
    else (if ((xs (v3).toNatClampNeg) &&& (31 : Int32)) = 16 then (ck (inb (v3 + (1 : Int32)) L) ((bi2 (qX6_bestRule h (xs ((v3 + (1 : Int32))).toNatClampNeg)) (fun r187 h188 =>
    (ck (inb (v3 + (1 : Int32)) L) ((bi2 (qX7_bestRule h188 (xs ((v3 + (1 : Int32))).toNatClampNeg)) (fun r191 h192 =>
    (if r187 = r191 then (qL_law_1001 L xs (qL_law_18 L xs n) h192 g v3)
    else none)))))))))
    else (if ((xs (v3).toNatClampNeg) &&& (31 : Int32)) = 17 then (ck (inb (v3 + (1 : Int32)) L) ((bi2 (qX6_first h (xs ((v3 + (1 : Int32))).toNatClampNeg)) (fun r197 h198 =>
    (ck (inb (v3 + (1 : Int32)) L) ((bi2 (qX7_first h198 (xs ((v3 + (1 : Int32))).toNatClampNeg)) (fun r201 h202 =>
    (if r197 = r201 then (qL_law_1001 L xs (qL_law_18 L xs n) h202 g v3)
    else none)))))))))
    else (if ((xs (v3).toNatClampNeg) &&& (31 : Int32)) = 18 then (ck (inb (v3 + (1 : Int32)) L) ((bi2 (qX6_second h (xs ((v3 + (1 : Int32))).toNatClampNeg)) (fun r207 h208 =>
    (ck (inb (v3 + (1 : Int32)) L) ((bi2 (qX7_second h208 (xs ((v3 + (1 : Int32))).toNatClampNeg)) (fun r211 h212 =>
    (if r207 = r211 then (qL_law_1001 L xs (qL_law_18 L xs n) h212 g v3)
    else none)))))))))
    else (if ((xs (v3).toNatClampNeg) &&& (31 : Int32)) = 19 then (ck (inb (v3 + (1 : Int32)) L) ((ck (inb (v3 + (2 : Int32)) L) ((bi2 (qX6_judge h (xs ((v3 + (1 : Int32))).toNatClampNeg) (xs ((v3 + (2 : Int32))).toNatClampNeg)) (fun r218 h219 =>
    (ck (inb (v3 + (1 : Int32)) L) ((ck (inb (v3 + (2 : Int32)) L) ((bi2 (qX7_judge h219 (xs ((v3 + (1 : Int32))).toNatClampNeg) (xs ((v3 + (2 : Int32))).toNatClampNeg)) (fun r223 h224 =>
    (if r218 = r223 then (qL_law_1001 L xs (qL_law_18 L xs n) h224 g v3)
    else none)))))))))))))
    else (if ((xs (v3).toNatClampNeg) &&& (31 : Int32)) = 20 then (ck (inb (v3 + (1 : Int32)) L) ((ck (inb (v3 + (2 : Int32)) L) ((if (xs ((v3 + (2 : Int32))).toNatClampNeg) = 0 then (qL_law_677 L xs (qL_law_18 L xs n) h g v3 (xs ((v3 + (1 : Int32))).toNatClampNeg) (0 : Int32))
    else (qL_law_677 L xs (qL_law_18 L xs n) h g v3 (xs ((v3 + (1 : Int32))).toNatClampNeg) (1 : Int32)))))))
    else (if ((xs (v3).toNatClampNeg) &&& (31 : Int32)) = 21 then (ck (inb (v3 + (1 : Int32)) L) ((ck (inb (v3 + (2 : Int32)) L) ((bi2 (qX6_see h (xs ((v3 + (1 : Int32))).toNatClampNeg) (xs ((v3 + (2 : Int32))).toNatClampNeg)) (fun r234 h235 =>
    (ck (inb (v3 + (1 : Int32)) L) ((ck (inb (v3 + (2 : Int32)) L) ((bi2 (qX7_see h235 (xs ((v3 + (1 : Int32))).toNatClampNeg) (xs ((v3 + (2 : Int32))).toNatClampNeg)) (fun r239 h240 =>
    (if r234 = r239 then (qL_law_1001 L xs (qL_law_18 L xs n) h240 g v3)
    else none)))))))))))))
    else (if ((xs (v3).toNatClampNeg) &&& (31 : Int32)) = 22 then (bi2 (qX6_unsee h) (fun r244 h245 =>
    (bi2 (qX7_unsee h245) (fun r247 h248 =>
    (if r244 = r247 then (qL_law_1001 L xs (qL_law_18 L xs n) h248 g v3)
    else none)))))
    else (if ((xs (v3).toNatClampNeg) &&& (31 : Int32)) = 23 then (bi2 (qX6_may h) (fun r252 h253 =>
    (bi2 (qX7_may h253) (fun r255 h256 =>
    (if r252 = r255 then (qL_law_1001 L xs (qL_law_18 L xs n) h256 g v3)
    else none)))))
    else (if ((xs (v3).toNatClampNeg) &&& (31 : Int32)) = 24 then (ck (inb (v3 + (1 : Int32)) L) ((ck (inb (v3 + (2 : Int32)) L) ((ck (inb (v3 + (3 : Int32)) L) ((bi1 (qX6_rests h (xs ((v3 + (1 : Int32))).toNatClampNeg) (xs ((v3 + (2 : Int32))).toNatClampNeg) (xs ((v3 + (3 : Int32))).toNatClampNeg)) (fun r263 =>
    (ck (inb (v3 + (1 : Int32)) L) ((ck (inb (v3 + (2 : Int32)) L) ((ck (inb (v3 + (3 : Int32)) L) ((bi2 (qX7_rests h (xs ((v3 + (1 : Int32))).toNatClampNeg) (xs ((v3 + (2 : Int32))).toNatClampNeg) (xs ((v3 + (3 : Int32))).toNatClampNeg)) (fun r268 h269 =>
    (if r263 = r268 then (qL_law_1001 L xs (qL_law_18 L xs n) h269 g v3)
    else none)))))))))))))))))
    else (if ((xs (v3).toNatClampNeg) &&& (31 : Int32)) = 25 then (ck (inb (v3 + (1 : Int32)) L) ((ck (inb (v3 + (2 : Int32)) L) ((ck (inb (v3 + (3 : Int32)) L) ((ck (inb (v3 + (4 : Int32)) L) ((if (xs ((v3 + (4 : Int32))).toNatClampNeg) = 0 then (qL_law_838 L xs (qL_law_18 L xs n) h g v3 (xs ((v3 + (1 : Int32))).toNatClampNeg) (xs ((v3 + (2 : Int32))).toNatClampNeg) (xs ((v3 + (3 : Int32))).toNatClampNeg) (0 : Int32))
    else (qL_law_838 L xs (qL_law_18 L xs n) h g v3 (xs ((v3 + (1 : Int32))).toNatClampNeg) (xs ((v3 + (2 : Int32))).toNatClampNeg) (xs ((v3 + (3 : Int32))).toNatClampNeg) (1 : Int32)))))))))))
    else (if ((xs (v3).toNatClampNeg) &&& (31 : Int32)) = 26 then (ck (inb (v3 + (1 : Int32)) L) ((ck (inb (v3 + (2 : Int32)) L) ((bi2 (qX6_seed h g ((((((xs ((v3 + (1 : Int32))).toNatClampNeg)).toInt64) <<< (((32 : Int32)).toInt64 &&& 63))) ||| ((((xs ((v3 + (2 : Int32))).toNatClampNeg)).toInt64) &&& (4294967295 : Int64)))) (fun r281 g283 =>
    (ck (inb (v3 + (1 : Int32)) L) ((ck (inb (v3 + (2 : Int32)) L) ((bi3 (qX7_seed h g283 ((((((xs ((v3 + (1 : Int32))).toNatClampNeg)).toInt64) <<< (((32 : Int32)).toInt64 &&& 63))) ||| ((((xs ((v3 + (2 : Int32))).toNatClampNeg)).toInt64) &&& (4294967295 : Int64)))) (fun r287 h288 g289 =>
    (if (lg_cmp r281 r287) = 0 then (qL_law_1001 L xs (qL_law_18 L xs n) h288 g289 v3)
    else none)))))))))))))
    else (if ((xs (v3).toNatClampNeg) &&& (31 : Int32)) = 27 then (ck (inb (v3 + (1 : Int32)) L) ((bi3 (qX6_days h g (xs ((v3 + (1 : Int32))).toNatClampNeg)) (fun r294 h295 g296 =>
    (ck (inb (v3 + (1 : Int32)) L) ((bi3 (qX7_days h295 g296 (xs ((v3 + (1 : Int32))).toNatClampNeg)) (fun r299 h300 g301 =>
    (if r294 = r299 then (qL_law_1001 L xs (qL_law_18 L xs n) h300 g301 v3)
    else none)))))))))
    else (if ((xs (v3).toNatClampNeg) &&& (31 : Int32)) = 28 then (ck (inb (v3 + (1 : Int32)) L) ((bi2 (qX6_keep h (xs ((v3 + (1 : Int32))).toNatClampNeg)) (fun r306 h307 =>
    (ck (inb (v3 + (1 : Int32)) L) ((bi2 (qX7_keep h307 (xs ((v3 + (1 : Int32))).toNatClampNeg)) (fun r310 h311 =>
    (if r306 = r310 then (qL_law_1001 L xs (qL_law_18 L xs n) h311 g v3)
    else none)))))))))
    else (if ((xs (v3).toNatClampNeg) &&& (31 : Int32)) = 29 then (ck (inb (v3 + (1 : Int32)) L) ((bi2 (qX6_again h (xs ((v3 + (1 : Int32))).toNatClampNeg)) (fun r316 h317 =>
    (ck (inb (v3 + (1 : Int32)) L) ((bi2 (qX7_again h317 (xs ((v3 + (1 : Int32))).toNatClampNeg)) (fun r320 h321 =>
    (if r316 = r320 then (qL_law_1001 L xs (qL_law_18 L xs n) h321 g v3)
    else none)))))))))
    else (qL_law_1001 L xs (qL_law_18 L xs n) h g v3))))))))))))))))))))))))))))))))))
set_option maxHeartbeats 4000000 in
set_option maxRecDepth 100000 in
theorem w_L_law_18 {p : Program} {l : Launch} {e : Env} {s : State} {m : MethodId} {below : List Frame} {meth : Method} {c : Code} {E : Ev} {ad : Nat → Nat} {b L : Nat} {xs : Row} (C : CallFix p m c code 4 s #[Value.ref b] lwA RL) (hr : meth.sig.returnType = ret) (hlk : meth.locks = false) (X : Sx E ad s) (hI : Inj ad) (hA : ∀ i, i < 154 → s.heap.size ≤ ad i) (hX : va_X b L xs s s.heap) (hbl : b < s.heap.size) (hbA : ¬ adA ad b)  : ∀ (n : Nat), ∀ (h : Hp) (g : Gp) (v3 : Int32) (H : Heap) (locs : List Loc) (ls : Array Slot), At E ad h g s H locs → lv_has ls 4 [(0, .ref b), (1, .ref (ad 126)), (2, .ref (ad 141)), (3, .int v3)] → qL_law_18 L xs n h g v3 = some () → W p l e room_1 s m #[Value.ref b] below meth c H locs 600000 7302250 (lw_Z below #[Value.ref b] s) (F0 m 18 ls []) := by
  intro n
  induction n with
  | zero =>
    intro h g v3 H locs ls w hl hf
    cases hf
  | succ n ih =>
    intro h g v3 H locs ls w hl hf
    rw [qL_law_18] at hf
    refine lv_iload_n C.1 C.2.1 dL_law_18 rfl (lv_at hl 3 rfl) ?_
    refine lv_aload_n C.1 C.2.1 dL_law_19 rfl (lv_at hl 0 rfl) ?_
    refine va_slen C.1 C.2.1 hX hbl hbA w.2 dL_law_20 ?_
    refine lv_iconst (v := 5) C.1 C.2.1 dL_law_21 (by decide) ?_
    refine lv_isub C.1 C.2.1 dL_law_22 ?_
    refine lv_icmp_gt (tgt := 1007) C.1 C.2.1 dL_law_23 (by decide) (fun c21 => ?_) (fun c21 => ?_)
    · rw [if_pos c21] at hf
      refine lv_iconst (v := 1) C.1 C.2.1 dL_law_1007 (by decide) ?_
      exact law_end C hr hlk hA w dL_law_1008
    · rw [if_neg c21] at hf
      refine lv_aload_n C.1 C.2.1 dL_law_26 rfl (lv_at hl 0 rfl) ?_
      refine lv_iload_n C.1 C.2.1 dL_law_27 rfl (lv_at hl 3 rfl) ?_
      obtain ⟨i22, hf⟩ := ck_e hf
      refine va_sld C.1 C.2.1 hX hbl hbA w.2 (inb_in i22) dL_law_28 ?_
      refine lv_bipush (v := 31) C.1 C.2.1 dL_law_29 (by decide) ?_
      refine lv_iand C.1 C.2.1 dL_law_31 ?_
      by_cases c23 : ((xs (v3).toNatClampNeg) &&& (31 : Int32)) = 0
      · rw [if_pos c23] at hf
        refine lv_tableIn (off := 136) (tgt := 168) C.1 C.2.1 dL_law_32 (by rw [c23]; decide) (by rw [c23]; decide) (by rw [c23]; rfl) (by decide) ?_
        refine lv_aload_n C.1 C.2.1 dL_law_168 rfl (lv_at hl 1 rfl) ?_
        refine lv_aload_n C.1 C.2.1 dL_law_169 rfl (lv_at hl 0 rfl) ?_
        refine lv_iload_n C.1 C.2.1 dL_law_170 rfl (lv_at hl 3 rfl) ?_
        refine lv_iconst (v := 1) C.1 C.2.1 dL_law_171 (by decide) ?_
        refine lv_iadd C.1 C.2.1 dL_law_172 ?_
        obtain ⟨i24, hf⟩ := ck_e hf
        refine va_sld C.1 C.2.1 hX hbl hbA w.2 (inb_in i24) dL_law_173 ?_
        obtain ⟨r26, h27, eq25, hf⟩ := bi2_e hf
        refine x_cVi (As := [.int (xs ((v3 + (1 : Int32))).toNatClampNeg)]) (rest := []) C X w (c_X6_write hI eq25) mw_X6_write ml_L_13 rcv_r18 rfl hl.1 rfl (Nat.le_of_ble_eq_true rfl) ⟨⟨Nat.le_of_ble_eq_true rfl, Nat.le_of_ble_eq_true rfl⟩, Nat.le_of_ble_eq_true rfl, Nat.le_of_ble_eq_true rfl⟩ dL_law_174 (fun H locs w => ?_)
        refine lv_aload_n C.1 C.2.1 dL_law_177 rfl (lv_at hl 2 rfl) ?_
        refine lv_aload_n C.1 C.2.1 dL_law_178 rfl (lv_at hl 0 rfl) ?_
        refine lv_iload_n C.1 C.2.1 dL_law_179 rfl (lv_at hl 3 rfl) ?_
        refine lv_iconst (v := 1) C.1 C.2.1 dL_law_180 (by decide) ?_
        refine lv_iadd C.1 C.2.1 dL_law_181 ?_
        obtain ⟨i28, hf⟩ := ck_e hf
        refine va_sld C.1 C.2.1 hX hbl hbA w.2 (inb_in i28) dL_law_182 ?_
        obtain ⟨r30, h31, eq29, hf⟩ := bi2_e hf
        refine x_cVi (As := [.int (xs ((v3 + (1 : Int32))).toNatClampNeg)]) (rest := [.int r26]) C X w (c_X7_write hI eq29) mw_X7_write ml_L_17 rcv_r33 rfl hl.1 rfl (Nat.le_of_ble_eq_true rfl) ⟨⟨Nat.le_of_ble_eq_true rfl, Nat.le_of_ble_eq_true rfl⟩, Nat.le_of_ble_eq_true rfl, Nat.le_of_ble_eq_true rfl⟩ dL_law_183 (fun H locs w => ?_)
        refine lv_icmp_eq (tgt := 1001) C.1 C.2.1 dL_law_186 (by decide) (fun c32 => ?_) (fun c32 => ?_)
        · rw [if_pos c32] at hf
          exact w_L_law_1001 C hr hlk X hI hA hX hbl hbA ih _ _ _ _ _ _ w (lv_sub hl [0, 1, 2, 3] rfl) hf
        · rw [if_neg c32] at hf
          refine lv_iconst (v := 0) C.1 C.2.1 dL_law_189 (by decide) ?_
          cases hf
      · rw [if_neg c23] at hf
        by_cases c33 : ((xs (v3).toNatClampNeg) &&& (31 : Int32)) = 1
        · rw [if_pos c33] at hf
          refine lv_tableIn (off := 159) (tgt := 191) C.1 C.2.1 dL_law_32 (by rw [c33]; decide) (by rw [c33]; decide) (by rw [c33]; rfl) (by decide) ?_
          refine lv_aload_n C.1 C.2.1 dL_law_191 rfl (lv_at hl 1 rfl) ?_
          obtain ⟨r35, h36, eq34, hf⟩ := bi2_e hf
          refine x_cVi (As := []) (rest := []) C X w (c_X6_wipe hI eq34) mw_X6_wipe ml_L_18 rcv_r18 rfl hl.1 rfl (Nat.le_of_ble_eq_true rfl) ⟨⟨Nat.le_of_ble_eq_true rfl, Nat.le_of_ble_eq_true rfl⟩, Nat.le_of_ble_eq_true rfl, Nat.le_of_ble_eq_true rfl⟩ dL_law_192 (fun H locs w => ?_)
          refine lv_aload_n C.1 C.2.1 dL_law_195 rfl (lv_at hl 2 rfl) ?_
          obtain ⟨r38, h39, eq37, hf⟩ := bi2_e hf
          refine x_cVi (As := []) (rest := [.int r35]) C X w (c_X7_wipe hI eq37) mw_X7_wipe ml_L_22 rcv_r33 rfl hl.1 rfl (Nat.le_of_ble_eq_true rfl) ⟨⟨Nat.le_of_ble_eq_true rfl, Nat.le_of_ble_eq_true rfl⟩, Nat.le_of_ble_eq_true rfl, Nat.le_of_ble_eq_true rfl⟩ dL_law_196 (fun H locs w => ?_)
          refine lv_icmp_eq (tgt := 1001) C.1 C.2.1 dL_law_199 (by decide) (fun c40 => ?_) (fun c40 => ?_)
          · rw [if_pos c40] at hf
            exact w_L_law_1001 C hr hlk X hI hA hX hbl hbA ih _ _ _ _ _ _ w (lv_sub hl [0, 1, 2, 3] rfl) hf
          · rw [if_neg c40] at hf
            refine lv_iconst (v := 0) C.1 C.2.1 dL_law_202 (by decide) ?_
            cases hf
        · rw [if_neg c33] at hf
          by_cases c41 : ((xs (v3).toNatClampNeg) &&& (31 : Int32)) = 2
          · rw [if_pos c41] at hf
            refine lv_tableIn (off := 172) (tgt := 204) C.1 C.2.1 dL_law_32 (by rw [c41]; decide) (by rw [c41]; decide) (by rw [c41]; rfl) (by decide) ?_
            refine lv_aload_n C.1 C.2.1 dL_law_204 rfl (lv_at hl 1 rfl) ?_
            obtain ⟨r43, eq42, hf⟩ := bi1_e hf
            refine x_cVi (As := []) (rest := []) C X w (c_X6_fault hI eq42) mw_X6_fault ml_L_23 rcv_r18 rfl hl.1 rfl (Nat.le_of_ble_eq_true rfl) ⟨⟨Nat.le_of_ble_eq_true rfl, Nat.le_of_ble_eq_true rfl⟩, Nat.le_of_ble_eq_true rfl, Nat.le_of_ble_eq_true rfl⟩ dL_law_205 (fun H locs w => ?_)
            refine lv_aload_n C.1 C.2.1 dL_law_208 rfl (lv_at hl 2 rfl) ?_
            obtain ⟨r45, h46, eq44, hf⟩ := bi2_e hf
            refine x_cVi (As := []) (rest := [.int r43]) C X w (c_X7_fault hI eq44) mw_X7_fault ml_L_26 rcv_r33 rfl hl.1 rfl (Nat.le_of_ble_eq_true rfl) ⟨⟨Nat.le_of_ble_eq_true rfl, Nat.le_of_ble_eq_true rfl⟩, Nat.le_of_ble_eq_true rfl, Nat.le_of_ble_eq_true rfl⟩ dL_law_209 (fun H locs w => ?_)
            refine lv_icmp_eq (tgt := 1001) C.1 C.2.1 dL_law_212 (by decide) (fun c47 => ?_) (fun c47 => ?_)
            · rw [if_pos c47] at hf
              exact w_L_law_1001 C hr hlk X hI hA hX hbl hbA ih _ _ _ _ _ _ w (lv_sub hl [0, 1, 2, 3] rfl) hf
            · rw [if_neg c47] at hf
              refine lv_iconst (v := 0) C.1 C.2.1 dL_law_215 (by decide) ?_
              cases hf
          · rw [if_neg c41] at hf
            by_cases c48 : ((xs (v3).toNatClampNeg) &&& (31 : Int32)) = 3
            · rw [if_pos c48] at hf
              refine lv_tableIn (off := 185) (tgt := 217) C.1 C.2.1 dL_law_32 (by rw [c48]; decide) (by rw [c48]; decide) (by rw [c48]; rfl) (by decide) ?_
              refine lv_aload_n C.1 C.2.1 dL_law_217 rfl (lv_at hl 1 rfl) ?_
              obtain ⟨r50, h51, eq49, hf⟩ := bi2_e hf
              refine x_cVi (As := []) (rest := []) C X w (c_X6_garden hI eq49) mw_X6_garden ml_L_27 rcv_r18 rfl hl.1 rfl (Nat.le_of_ble_eq_true rfl) ⟨⟨Nat.le_of_ble_eq_true rfl, Nat.le_of_ble_eq_true rfl⟩, Nat.le_of_ble_eq_true rfl, Nat.le_of_ble_eq_true rfl⟩ dL_law_218 (fun H locs w => ?_)
              refine lv_aload_n C.1 C.2.1 dL_law_221 rfl (lv_at hl 2 rfl) ?_
              obtain ⟨r53, h54, eq52, hf⟩ := bi2_e hf
              refine x_cVi (As := []) (rest := [.int r50]) C X w (c_X7_garden hI eq52) mw_X7_garden ml_L_30 rcv_r33 rfl hl.1 rfl (Nat.le_of_ble_eq_true rfl) ⟨⟨Nat.le_of_ble_eq_true rfl, Nat.le_of_ble_eq_true rfl⟩, Nat.le_of_ble_eq_true rfl, Nat.le_of_ble_eq_true rfl⟩ dL_law_222 (fun H locs w => ?_)
              refine lv_icmp_eq (tgt := 1001) C.1 C.2.1 dL_law_225 (by decide) (fun c55 => ?_) (fun c55 => ?_)
              · rw [if_pos c55] at hf
                exact w_L_law_1001 C hr hlk X hI hA hX hbl hbA ih _ _ _ _ _ _ w (lv_sub hl [0, 1, 2, 3] rfl) hf
              · rw [if_neg c55] at hf
                refine lv_iconst (v := 0) C.1 C.2.1 dL_law_228 (by decide) ?_
                cases hf
            · rw [if_neg c48] at hf
              by_cases c56 : ((xs (v3).toNatClampNeg) &&& (31 : Int32)) = 4
              · rw [if_pos c56] at hf
                refine lv_tableIn (off := 198) (tgt := 230) C.1 C.2.1 dL_law_32 (by rw [c56]; decide) (by rw [c56]; decide) (by rw [c56]; rfl) (by decide) ?_
                refine lv_aload_n C.1 C.2.1 dL_law_230 rfl (lv_at hl 1 rfl) ?_
                refine lv_aload_n C.1 C.2.1 dL_law_231 rfl (lv_at hl 0 rfl) ?_
                refine lv_iload_n C.1 C.2.1 dL_law_232 rfl (lv_at hl 3 rfl) ?_
                refine lv_iconst (v := 1) C.1 C.2.1 dL_law_233 (by decide) ?_
                refine lv_iadd C.1 C.2.1 dL_law_234 ?_
                obtain ⟨i57, hf⟩ := ck_e hf
                refine va_sld C.1 C.2.1 hX hbl hbA w.2 (inb_in i57) dL_law_235 ?_
                obtain ⟨r59, eq58, hf⟩ := bi1_e hf
                refine x_cVi (As := [.int (xs ((v3 + (1 : Int32))).toNatClampNeg)]) (rest := []) C X w (c_X6_about hI eq58) mw_X6_about ml_L_31 rcv_r18 rfl hl.1 rfl (Nat.le_of_ble_eq_true rfl) ⟨⟨Nat.le_of_ble_eq_true rfl, Nat.le_of_ble_eq_true rfl⟩, Nat.le_of_ble_eq_true rfl, Nat.le_of_ble_eq_true rfl⟩ dL_law_236 (fun H locs w => ?_)
                refine lv_aload_n C.1 C.2.1 dL_law_239 rfl (lv_at hl 2 rfl) ?_
                refine lv_aload_n C.1 C.2.1 dL_law_240 rfl (lv_at hl 0 rfl) ?_
                refine lv_iload_n C.1 C.2.1 dL_law_241 rfl (lv_at hl 3 rfl) ?_
                refine lv_iconst (v := 1) C.1 C.2.1 dL_law_242 (by decide) ?_
                refine lv_iadd C.1 C.2.1 dL_law_243 ?_
                obtain ⟨i60, hf⟩ := ck_e hf
                refine va_sld C.1 C.2.1 hX hbl hbA w.2 (inb_in i60) dL_law_244 ?_
                obtain ⟨r62, h63, eq61, hf⟩ := bi2_e hf
                refine x_cVi (As := [.int (xs ((v3 + (1 : Int32))).toNatClampNeg)]) (rest := [.int r59]) C X w (c_X7_about hI eq61) mw_X7_about ml_L_34 rcv_r33 rfl hl.1 rfl (Nat.le_of_ble_eq_true rfl) ⟨⟨Nat.le_of_ble_eq_true rfl, Nat.le_of_ble_eq_true rfl⟩, Nat.le_of_ble_eq_true rfl, Nat.le_of_ble_eq_true rfl⟩ dL_law_245 (fun H locs w => ?_)
                refine lv_icmp_eq (tgt := 1001) C.1 C.2.1 dL_law_248 (by decide) (fun c64 => ?_) (fun c64 => ?_)
                · rw [if_pos c64] at hf
                  exact w_L_law_1001 C hr hlk X hI hA hX hbl hbA ih _ _ _ _ _ _ w (lv_sub hl [0, 1, 2, 3] rfl) hf
                · rw [if_neg c64] at hf
                  refine lv_iconst (v := 0) C.1 C.2.1 dL_law_251 (by decide) ?_
                  cases hf
              · rw [if_neg c56] at hf
                by_cases c65 : ((xs (v3).toNatClampNeg) &&& (31 : Int32)) = 5
                · rw [if_pos c65] at hf
                  refine lv_tableIn (off := 221) (tgt := 253) C.1 C.2.1 dL_law_32 (by rw [c65]; decide) (by rw [c65]; decide) (by rw [c65]; rfl) (by decide) ?_
                  refine lv_aload_n C.1 C.2.1 dL_law_253 rfl (lv_at hl 1 rfl) ?_
                  refine lv_aload_n C.1 C.2.1 dL_law_254 rfl (lv_at hl 0 rfl) ?_
                  refine lv_iload_n C.1 C.2.1 dL_law_255 rfl (lv_at hl 3 rfl) ?_
                  refine lv_iconst (v := 1) C.1 C.2.1 dL_law_256 (by decide) ?_
                  refine lv_iadd C.1 C.2.1 dL_law_257 ?_
                  obtain ⟨i66, hf⟩ := ck_e hf
                  refine va_sld C.1 C.2.1 hX hbl hbA w.2 (inb_in i66) dL_law_258 ?_
                  refine lv_aload_n C.1 C.2.1 dL_law_259 rfl (lv_at hl 0 rfl) ?_
                  refine lv_iload_n C.1 C.2.1 dL_law_260 rfl (lv_at hl 3 rfl) ?_
                  refine lv_iconst (v := 2) C.1 C.2.1 dL_law_261 (by decide) ?_
                  refine lv_iadd C.1 C.2.1 dL_law_262 ?_
                  obtain ⟨i67, hf⟩ := ck_e hf
                  refine va_sld C.1 C.2.1 hX hbl hbA w.2 (inb_in i67) dL_law_263 ?_
                  obtain ⟨r69, eq68, hf⟩ := bi1_e hf
                  refine x_cVi (As := [.int (xs ((v3 + (1 : Int32))).toNatClampNeg), .int (xs ((v3 + (2 : Int32))).toNatClampNeg)]) (rest := []) C X w (c_X6_child hI eq68) mw_X6_child ml_L_35 rcv_r18 rfl hl.1 rfl (Nat.le_of_ble_eq_true rfl) ⟨⟨Nat.le_of_ble_eq_true rfl, Nat.le_of_ble_eq_true rfl⟩, Nat.le_of_ble_eq_true rfl, Nat.le_of_ble_eq_true rfl⟩ dL_law_264 (fun H locs w => ?_)
                  refine lv_aload_n C.1 C.2.1 dL_law_267 rfl (lv_at hl 2 rfl) ?_
                  refine lv_aload_n C.1 C.2.1 dL_law_268 rfl (lv_at hl 0 rfl) ?_
                  refine lv_iload_n C.1 C.2.1 dL_law_269 rfl (lv_at hl 3 rfl) ?_
                  refine lv_iconst (v := 1) C.1 C.2.1 dL_law_270 (by decide) ?_
                  refine lv_iadd C.1 C.2.1 dL_law_271 ?_
                  obtain ⟨i70, hf⟩ := ck_e hf
                  refine va_sld C.1 C.2.1 hX hbl hbA w.2 (inb_in i70) dL_law_272 ?_
                  refine lv_aload_n C.1 C.2.1 dL_law_273 rfl (lv_at hl 0 rfl) ?_
                  refine lv_iload_n C.1 C.2.1 dL_law_274 rfl (lv_at hl 3 rfl) ?_
                  refine lv_iconst (v := 2) C.1 C.2.1 dL_law_275 (by decide) ?_
                  refine lv_iadd C.1 C.2.1 dL_law_276 ?_
                  obtain ⟨i71, hf⟩ := ck_e hf
                  refine va_sld C.1 C.2.1 hX hbl hbA w.2 (inb_in i71) dL_law_277 ?_
                  obtain ⟨r73, h74, eq72, hf⟩ := bi2_e hf
                  refine x_cVi (As := [.int (xs ((v3 + (1 : Int32))).toNatClampNeg), .int (xs ((v3 + (2 : Int32))).toNatClampNeg)]) (rest := [.int r69]) C X w (c_X7_child hI eq72) mw_X7_child ml_L_39 rcv_r33 rfl hl.1 rfl (Nat.le_of_ble_eq_true rfl) ⟨⟨Nat.le_of_ble_eq_true rfl, Nat.le_of_ble_eq_true rfl⟩, Nat.le_of_ble_eq_true rfl, Nat.le_of_ble_eq_true rfl⟩ dL_law_278 (fun H locs w => ?_)
                  refine lv_icmp_eq (tgt := 1001) C.1 C.2.1 dL_law_281 (by decide) (fun c75 => ?_) (fun c75 => ?_)
                  · rw [if_pos c75] at hf
                    exact w_L_law_1001 C hr hlk X hI hA hX hbl hbA ih _ _ _ _ _ _ w (lv_sub hl [0, 1, 2, 3] rfl) hf
                  · rw [if_neg c75] at hf
                    refine lv_iconst (v := 0) C.1 C.2.1 dL_law_284 (by decide) ?_
                    cases hf
                · rw [if_neg c65] at hf
                  by_cases c76 : ((xs (v3).toNatClampNeg) &&& (31 : Int32)) = 6
                  · rw [if_pos c76] at hf
                    refine lv_tableIn (off := 254) (tgt := 286) C.1 C.2.1 dL_law_32 (by rw [c76]; decide) (by rw [c76]; decide) (by rw [c76]; rfl) (by decide) ?_
                    refine lv_aload_n C.1 C.2.1 dL_law_286 rfl (lv_at hl 1 rfl) ?_
                    obtain ⟨r78, h79, eq77, hf⟩ := bi2_e hf
                    refine x_cVi (As := []) (rest := []) C X w (c_X6_minute hI eq77) mw_X6_minute ml_L_40 rcv_r18 rfl hl.1 rfl (Nat.le_of_ble_eq_true rfl) ⟨⟨Nat.le_of_ble_eq_true rfl, Nat.le_of_ble_eq_true rfl⟩, Nat.le_of_ble_eq_true rfl, Nat.le_of_ble_eq_true rfl⟩ dL_law_287 (fun H locs w => ?_)
                    refine lv_aload_n C.1 C.2.1 dL_law_290 rfl (lv_at hl 2 rfl) ?_
                    obtain ⟨r81, h82, eq80, hf⟩ := bi2_e hf
                    refine x_cVi (As := []) (rest := [.int r78]) C X w (c_X7_minute hI eq80) mw_X7_minute ml_L_43 rcv_r33 rfl hl.1 rfl (Nat.le_of_ble_eq_true rfl) ⟨⟨Nat.le_of_ble_eq_true rfl, Nat.le_of_ble_eq_true rfl⟩, Nat.le_of_ble_eq_true rfl, Nat.le_of_ble_eq_true rfl⟩ dL_law_291 (fun H locs w => ?_)
                    refine lv_icmp_eq (tgt := 1001) C.1 C.2.1 dL_law_294 (by decide) (fun c83 => ?_) (fun c83 => ?_)
                    · rw [if_pos c83] at hf
                      exact w_L_law_1001 C hr hlk X hI hA hX hbl hbA ih _ _ _ _ _ _ w (lv_sub hl [0, 1, 2, 3] rfl) hf
                    · rw [if_neg c83] at hf
                      refine lv_iconst (v := 0) C.1 C.2.1 dL_law_297 (by decide) ?_
                      cases hf
                  · rw [if_neg c76] at hf
                    by_cases c84 : ((xs (v3).toNatClampNeg) &&& (31 : Int32)) = 7
                    · rw [if_pos c84] at hf
                      refine lv_tableIn (off := 267) (tgt := 299) C.1 C.2.1 dL_law_32 (by rw [c84]; decide) (by rw [c84]; decide) (by rw [c84]; rfl) (by decide) ?_
                      refine lv_aload_n C.1 C.2.1 dL_law_299 rfl (lv_at hl 1 rfl) ?_
                      refine lv_aload_n C.1 C.2.1 dL_law_300 rfl (lv_at hl 0 rfl) ?_
                      refine lv_iload_n C.1 C.2.1 dL_law_301 rfl (lv_at hl 3 rfl) ?_
                      refine lv_iconst (v := 1) C.1 C.2.1 dL_law_302 (by decide) ?_
                      refine lv_iadd C.1 C.2.1 dL_law_303 ?_
                      obtain ⟨i85, hf⟩ := ck_e hf
                      refine va_sld C.1 C.2.1 hX hbl hbA w.2 (inb_in i85) dL_law_304 ?_
                      refine lv_aload_n C.1 C.2.1 dL_law_305 rfl (lv_at hl 0 rfl) ?_
                      refine lv_iload_n C.1 C.2.1 dL_law_306 rfl (lv_at hl 3 rfl) ?_
                      refine lv_iconst (v := 2) C.1 C.2.1 dL_law_307 (by decide) ?_
                      refine lv_iadd C.1 C.2.1 dL_law_308 ?_
                      obtain ⟨i86, hf⟩ := ck_e hf
                      refine va_sld C.1 C.2.1 hX hbl hbA w.2 (inb_in i86) dL_law_309 ?_
                      obtain ⟨r88, h89, eq87, hf⟩ := bi2_e hf
                      refine x_cVi (As := [.int (xs ((v3 + (1 : Int32))).toNatClampNeg), .int (xs ((v3 + (2 : Int32))).toNatClampNeg)]) (rest := []) C X w (c_X6_give hI eq87) mw_X6_give ml_L_44 rcv_r18 rfl hl.1 rfl (Nat.le_of_ble_eq_true rfl) ⟨⟨Nat.le_of_ble_eq_true rfl, Nat.le_of_ble_eq_true rfl⟩, Nat.le_of_ble_eq_true rfl, Nat.le_of_ble_eq_true rfl⟩ dL_law_310 (fun H locs w => ?_)
                      refine lv_aload_n C.1 C.2.1 dL_law_313 rfl (lv_at hl 2 rfl) ?_
                      refine lv_aload_n C.1 C.2.1 dL_law_314 rfl (lv_at hl 0 rfl) ?_
                      refine lv_iload_n C.1 C.2.1 dL_law_315 rfl (lv_at hl 3 rfl) ?_
                      refine lv_iconst (v := 1) C.1 C.2.1 dL_law_316 (by decide) ?_
                      refine lv_iadd C.1 C.2.1 dL_law_317 ?_
                      obtain ⟨i90, hf⟩ := ck_e hf
                      refine va_sld C.1 C.2.1 hX hbl hbA w.2 (inb_in i90) dL_law_318 ?_
                      refine lv_aload_n C.1 C.2.1 dL_law_319 rfl (lv_at hl 0 rfl) ?_
                      refine lv_iload_n C.1 C.2.1 dL_law_320 rfl (lv_at hl 3 rfl) ?_
                      refine lv_iconst (v := 2) C.1 C.2.1 dL_law_321 (by decide) ?_
                      refine lv_iadd C.1 C.2.1 dL_law_322 ?_
                      obtain ⟨i91, hf⟩ := ck_e hf
                      refine va_sld C.1 C.2.1 hX hbl hbA w.2 (inb_in i91) dL_law_323 ?_
                      obtain ⟨r93, h94, eq92, hf⟩ := bi2_e hf
                      refine x_cVi (As := [.int (xs ((v3 + (1 : Int32))).toNatClampNeg), .int (xs ((v3 + (2 : Int32))).toNatClampNeg)]) (rest := [.int r88]) C X w (c_X7_give hI eq92) mw_X7_give ml_L_47 rcv_r33 rfl hl.1 rfl (Nat.le_of_ble_eq_true rfl) ⟨⟨Nat.le_of_ble_eq_true rfl, Nat.le_of_ble_eq_true rfl⟩, Nat.le_of_ble_eq_true rfl, Nat.le_of_ble_eq_true rfl⟩ dL_law_324 (fun H locs w => ?_)
                      refine lv_icmp_eq (tgt := 1001) C.1 C.2.1 dL_law_327 (by decide) (fun c95 => ?_) (fun c95 => ?_)
                      · rw [if_pos c95] at hf
                        exact w_L_law_1001 C hr hlk X hI hA hX hbl hbA ih _ _ _ _ _ _ w (lv_sub hl [0, 1, 2, 3] rfl) hf
                      · rw [if_neg c95] at hf
                        refine lv_iconst (v := 0) C.1 C.2.1 dL_law_330 (by decide) ?_
                        cases hf
                    · rw [if_neg c84] at hf
                      by_cases c96 : ((xs (v3).toNatClampNeg) &&& (31 : Int32)) = 8
                      · rw [if_pos c96] at hf
                        refine lv_tableIn (off := 300) (tgt := 332) C.1 C.2.1 dL_law_32 (by rw [c96]; decide) (by rw [c96]; decide) (by rw [c96]; rfl) (by decide) ?_
                        refine lv_aload_n C.1 C.2.1 dL_law_332 rfl (lv_at hl 1 rfl) ?_
                        refine lv_aload_n C.1 C.2.1 dL_law_333 rfl (lv_at hl 0 rfl) ?_
                        refine lv_iload_n C.1 C.2.1 dL_law_334 rfl (lv_at hl 3 rfl) ?_
                        refine lv_iconst (v := 1) C.1 C.2.1 dL_law_335 (by decide) ?_
                        refine lv_iadd C.1 C.2.1 dL_law_336 ?_
                        obtain ⟨i97, hf⟩ := ck_e hf
                        refine va_sld C.1 C.2.1 hX hbl hbA w.2 (inb_in i97) dL_law_337 ?_
                        obtain ⟨r99, h100, eq98, hf⟩ := bi2_e hf
                        refine x_cVi (As := [.int (xs ((v3 + (1 : Int32))).toNatClampNeg)]) (rest := []) C X w (c_X6_push hI eq98) mw_X6_push ml_L_48 rcv_r18 rfl hl.1 rfl (Nat.le_of_ble_eq_true rfl) ⟨⟨Nat.le_of_ble_eq_true rfl, Nat.le_of_ble_eq_true rfl⟩, Nat.le_of_ble_eq_true rfl, Nat.le_of_ble_eq_true rfl⟩ dL_law_338 (fun H locs w => ?_)
                        refine lv_aload_n C.1 C.2.1 dL_law_341 rfl (lv_at hl 2 rfl) ?_
                        refine lv_aload_n C.1 C.2.1 dL_law_342 rfl (lv_at hl 0 rfl) ?_
                        refine lv_iload_n C.1 C.2.1 dL_law_343 rfl (lv_at hl 3 rfl) ?_
                        refine lv_iconst (v := 1) C.1 C.2.1 dL_law_344 (by decide) ?_
                        refine lv_iadd C.1 C.2.1 dL_law_345 ?_
                        obtain ⟨i101, hf⟩ := ck_e hf
                        refine va_sld C.1 C.2.1 hX hbl hbA w.2 (inb_in i101) dL_law_346 ?_
                        obtain ⟨r103, h104, eq102, hf⟩ := bi2_e hf
                        refine x_cVi (As := [.int (xs ((v3 + (1 : Int32))).toNatClampNeg)]) (rest := [.int r99]) C X w (c_X7_push hI eq102) mw_X7_push ml_L_51 rcv_r33 rfl hl.1 rfl (Nat.le_of_ble_eq_true rfl) ⟨⟨Nat.le_of_ble_eq_true rfl, Nat.le_of_ble_eq_true rfl⟩, Nat.le_of_ble_eq_true rfl, Nat.le_of_ble_eq_true rfl⟩ dL_law_347 (fun H locs w => ?_)
                        refine lv_icmp_eq (tgt := 1001) C.1 C.2.1 dL_law_350 (by decide) (fun c105 => ?_) (fun c105 => ?_)
                        · rw [if_pos c105] at hf
                          exact w_L_law_1001 C hr hlk X hI hA hX hbl hbA ih _ _ _ _ _ _ w (lv_sub hl [0, 1, 2, 3] rfl) hf
                        · rw [if_neg c105] at hf
                          refine lv_iconst (v := 0) C.1 C.2.1 dL_law_353 (by decide) ?_
                          cases hf
                      · rw [if_neg c96] at hf
                        by_cases c106 : ((xs (v3).toNatClampNeg) &&& (31 : Int32)) = 9
                        · rw [if_pos c106] at hf
                          refine lv_tableIn (off := 323) (tgt := 355) C.1 C.2.1 dL_law_32 (by rw [c106]; decide) (by rw [c106]; decide) (by rw [c106]; rfl) (by decide) ?_
                          refine lv_aload_n C.1 C.2.1 dL_law_355 rfl (lv_at hl 1 rfl) ?_
                          refine lv_aload_n C.1 C.2.1 dL_law_356 rfl (lv_at hl 0 rfl) ?_
                          refine lv_iload_n C.1 C.2.1 dL_law_357 rfl (lv_at hl 3 rfl) ?_
                          refine lv_iconst (v := 1) C.1 C.2.1 dL_law_358 (by decide) ?_
                          refine lv_iadd C.1 C.2.1 dL_law_359 ?_
                          obtain ⟨i107, hf⟩ := ck_e hf
                          refine va_sld C.1 C.2.1 hX hbl hbA w.2 (inb_in i107) dL_law_360 ?_
                          obtain ⟨r109, h110, eq108, hf⟩ := bi2_e hf
                          refine x_cVi (As := [.int (xs ((v3 + (1 : Int32))).toNatClampNeg)]) (rest := []) C X w (c_X6_call hI eq108) mw_X6_call ml_L_52 rcv_r18 rfl hl.1 rfl (Nat.le_of_ble_eq_true rfl) ⟨⟨Nat.le_of_ble_eq_true rfl, Nat.le_of_ble_eq_true rfl⟩, Nat.le_of_ble_eq_true rfl, Nat.le_of_ble_eq_true rfl⟩ dL_law_361 (fun H locs w => ?_)
                          refine lv_aload_n C.1 C.2.1 dL_law_364 rfl (lv_at hl 2 rfl) ?_
                          refine lv_aload_n C.1 C.2.1 dL_law_365 rfl (lv_at hl 0 rfl) ?_
                          refine lv_iload_n C.1 C.2.1 dL_law_366 rfl (lv_at hl 3 rfl) ?_
                          refine lv_iconst (v := 1) C.1 C.2.1 dL_law_367 (by decide) ?_
                          refine lv_iadd C.1 C.2.1 dL_law_368 ?_
                          obtain ⟨i111, hf⟩ := ck_e hf
                          refine va_sld C.1 C.2.1 hX hbl hbA w.2 (inb_in i111) dL_law_369 ?_
                          obtain ⟨r113, h114, eq112, hf⟩ := bi2_e hf
                          refine x_cVi (As := [.int (xs ((v3 + (1 : Int32))).toNatClampNeg)]) (rest := [.int r109]) C X w (c_X7_call hI eq112) mw_X7_call ml_L_55 rcv_r33 rfl hl.1 rfl (Nat.le_of_ble_eq_true rfl) ⟨⟨Nat.le_of_ble_eq_true rfl, Nat.le_of_ble_eq_true rfl⟩, Nat.le_of_ble_eq_true rfl, Nat.le_of_ble_eq_true rfl⟩ dL_law_370 (fun H locs w => ?_)
                          refine lv_icmp_eq (tgt := 1001) C.1 C.2.1 dL_law_373 (by decide) (fun c115 => ?_) (fun c115 => ?_)
                          · rw [if_pos c115] at hf
                            exact w_L_law_1001 C hr hlk X hI hA hX hbl hbA ih _ _ _ _ _ _ w (lv_sub hl [0, 1, 2, 3] rfl) hf
                          · rw [if_neg c115] at hf
                            refine lv_iconst (v := 0) C.1 C.2.1 dL_law_376 (by decide) ?_
                            cases hf
                        · rw [if_neg c106] at hf
                          by_cases c116 : ((xs (v3).toNatClampNeg) &&& (31 : Int32)) = 10
                          · rw [if_pos c116] at hf
                            refine lv_tableIn (off := 346) (tgt := 378) C.1 C.2.1 dL_law_32 (by rw [c116]; decide) (by rw [c116]; decide) (by rw [c116]; rfl) (by decide) ?_
                            refine lv_aload_n C.1 C.2.1 dL_law_378 rfl (lv_at hl 1 rfl) ?_
                            refine lv_aload_n C.1 C.2.1 dL_law_379 rfl (lv_at hl 0 rfl) ?_
                            refine lv_iload_n C.1 C.2.1 dL_law_380 rfl (lv_at hl 3 rfl) ?_
                            refine lv_iconst (v := 1) C.1 C.2.1 dL_law_381 (by decide) ?_
                            refine lv_iadd C.1 C.2.1 dL_law_382 ?_
                            obtain ⟨i117, hf⟩ := ck_e hf
                            refine va_sld C.1 C.2.1 hX hbl hbA w.2 (inb_in i117) dL_law_383 ?_
                            refine lv_aload_n C.1 C.2.1 dL_law_384 rfl (lv_at hl 0 rfl) ?_
                            refine lv_iload_n C.1 C.2.1 dL_law_385 rfl (lv_at hl 3 rfl) ?_
                            refine lv_iconst (v := 2) C.1 C.2.1 dL_law_386 (by decide) ?_
                            refine lv_iadd C.1 C.2.1 dL_law_387 ?_
                            obtain ⟨i118, hf⟩ := ck_e hf
                            refine va_sld C.1 C.2.1 hX hbl hbA w.2 (inb_in i118) dL_law_388 ?_
                            obtain ⟨r120, h121, eq119, hf⟩ := bi2_e hf
                            refine x_cVi (As := [.int (xs ((v3 + (1 : Int32))).toNatClampNeg), .int (xs ((v3 + (2 : Int32))).toNatClampNeg)]) (rest := []) C X w (c_X6_rule hI eq119) mw_X6_rule ml_L_56 rcv_r18 rfl hl.1 rfl (Nat.le_of_ble_eq_true rfl) ⟨⟨Nat.le_of_ble_eq_true rfl, Nat.le_of_ble_eq_true rfl⟩, Nat.le_of_ble_eq_true rfl, Nat.le_of_ble_eq_true rfl⟩ dL_law_389 (fun H locs w => ?_)
                            refine lv_aload_n C.1 C.2.1 dL_law_392 rfl (lv_at hl 2 rfl) ?_
                            refine lv_aload_n C.1 C.2.1 dL_law_393 rfl (lv_at hl 0 rfl) ?_
                            refine lv_iload_n C.1 C.2.1 dL_law_394 rfl (lv_at hl 3 rfl) ?_
                            refine lv_iconst (v := 1) C.1 C.2.1 dL_law_395 (by decide) ?_
                            refine lv_iadd C.1 C.2.1 dL_law_396 ?_
                            obtain ⟨i122, hf⟩ := ck_e hf
                            refine va_sld C.1 C.2.1 hX hbl hbA w.2 (inb_in i122) dL_law_397 ?_
                            refine lv_aload_n C.1 C.2.1 dL_law_398 rfl (lv_at hl 0 rfl) ?_
                            refine lv_iload_n C.1 C.2.1 dL_law_399 rfl (lv_at hl 3 rfl) ?_
                            refine lv_iconst (v := 2) C.1 C.2.1 dL_law_400 (by decide) ?_
                            refine lv_iadd C.1 C.2.1 dL_law_401 ?_
                            obtain ⟨i123, hf⟩ := ck_e hf
                            refine va_sld C.1 C.2.1 hX hbl hbA w.2 (inb_in i123) dL_law_402 ?_
                            obtain ⟨r125, h126, eq124, hf⟩ := bi2_e hf
                            refine x_cVi (As := [.int (xs ((v3 + (1 : Int32))).toNatClampNeg), .int (xs ((v3 + (2 : Int32))).toNatClampNeg)]) (rest := [.int r120]) C X w (c_X7_rule hI eq124) mw_X7_rule ml_L_59 rcv_r33 rfl hl.1 rfl (Nat.le_of_ble_eq_true rfl) ⟨⟨Nat.le_of_ble_eq_true rfl, Nat.le_of_ble_eq_true rfl⟩, Nat.le_of_ble_eq_true rfl, Nat.le_of_ble_eq_true rfl⟩ dL_law_403 (fun H locs w => ?_)
                            refine lv_icmp_eq (tgt := 1001) C.1 C.2.1 dL_law_406 (by decide) (fun c127 => ?_) (fun c127 => ?_)
                            · rw [if_pos c127] at hf
                              exact w_L_law_1001 C hr hlk X hI hA hX hbl hbA ih _ _ _ _ _ _ w (lv_sub hl [0, 1, 2, 3] rfl) hf
                            · rw [if_neg c127] at hf
                              refine lv_iconst (v := 0) C.1 C.2.1 dL_law_409 (by decide) ?_
                              cases hf
                          · rw [if_neg c116] at hf
                            by_cases c128 : ((xs (v3).toNatClampNeg) &&& (31 : Int32)) = 11
                            · rw [if_pos c128] at hf
                              refine lv_tableIn (off := 379) (tgt := 411) C.1 C.2.1 dL_law_32 (by rw [c128]; decide) (by rw [c128]; decide) (by rw [c128]; rfl) (by decide) ?_
                              refine lv_aload_n C.1 C.2.1 dL_law_411 rfl (lv_at hl 1 rfl) ?_
                              obtain ⟨r130, h131, eq129, hf⟩ := bi2_e hf
                              refine x_cVi (As := []) (rest := []) C X w (c_X6_put hI eq129) mw_X6_put ml_L_60 rcv_r18 rfl hl.1 rfl (Nat.le_of_ble_eq_true rfl) ⟨⟨Nat.le_of_ble_eq_true rfl, Nat.le_of_ble_eq_true rfl⟩, Nat.le_of_ble_eq_true rfl, Nat.le_of_ble_eq_true rfl⟩ dL_law_412 (fun H locs w => ?_)
                              refine lv_aload_n C.1 C.2.1 dL_law_415 rfl (lv_at hl 2 rfl) ?_
                              obtain ⟨r133, h134, eq132, hf⟩ := bi2_e hf
                              refine x_cVi (As := []) (rest := [.int r130]) C X w (c_X7_put hI eq132) mw_X7_put ml_L_63 rcv_r33 rfl hl.1 rfl (Nat.le_of_ble_eq_true rfl) ⟨⟨Nat.le_of_ble_eq_true rfl, Nat.le_of_ble_eq_true rfl⟩, Nat.le_of_ble_eq_true rfl, Nat.le_of_ble_eq_true rfl⟩ dL_law_416 (fun H locs w => ?_)
                              refine lv_icmp_eq (tgt := 1001) C.1 C.2.1 dL_law_419 (by decide) (fun c135 => ?_) (fun c135 => ?_)
                              · rw [if_pos c135] at hf
                                exact w_L_law_1001 C hr hlk X hI hA hX hbl hbA ih _ _ _ _ _ _ w (lv_sub hl [0, 1, 2, 3] rfl) hf
                              · rw [if_neg c135] at hf
                                refine lv_iconst (v := 0) C.1 C.2.1 dL_law_422 (by decide) ?_
                                cases hf
                            · rw [if_neg c128] at hf
                              by_cases c136 : ((xs (v3).toNatClampNeg) &&& (31 : Int32)) = 12
                              · rw [if_pos c136] at hf
                                refine lv_tableIn (off := 392) (tgt := 424) C.1 C.2.1 dL_law_32 (by rw [c136]; decide) (by rw [c136]; decide) (by rw [c136]; rfl) (by decide) ?_
                                refine lv_aload_n C.1 C.2.1 dL_law_424 rfl (lv_at hl 1 rfl) ?_
                                obtain ⟨r138, h139, eq137, hf⟩ := bi2_e hf
                                refine x_cVi (As := []) (rest := []) C X w (c_X6_undo hI eq137) mw_X6_undo ml_L_64 rcv_r18 rfl hl.1 rfl (Nat.le_of_ble_eq_true rfl) ⟨⟨Nat.le_of_ble_eq_true rfl, Nat.le_of_ble_eq_true rfl⟩, Nat.le_of_ble_eq_true rfl, Nat.le_of_ble_eq_true rfl⟩ dL_law_425 (fun H locs w => ?_)
                                refine lv_aload_n C.1 C.2.1 dL_law_428 rfl (lv_at hl 2 rfl) ?_
                                obtain ⟨r141, h142, eq140, hf⟩ := bi2_e hf
                                refine x_cVi (As := []) (rest := [.int r138]) C X w (c_X7_undo hI eq140) mw_X7_undo ml_L_67 rcv_r33 rfl hl.1 rfl (Nat.le_of_ble_eq_true rfl) ⟨⟨Nat.le_of_ble_eq_true rfl, Nat.le_of_ble_eq_true rfl⟩, Nat.le_of_ble_eq_true rfl, Nat.le_of_ble_eq_true rfl⟩ dL_law_429 (fun H locs w => ?_)
                                refine lv_icmp_eq (tgt := 1001) C.1 C.2.1 dL_law_432 (by decide) (fun c143 => ?_) (fun c143 => ?_)
                                · rw [if_pos c143] at hf
                                  exact w_L_law_1001 C hr hlk X hI hA hX hbl hbA ih _ _ _ _ _ _ w (lv_sub hl [0, 1, 2, 3] rfl) hf
                                · rw [if_neg c143] at hf
                                  refine lv_iconst (v := 0) C.1 C.2.1 dL_law_435 (by decide) ?_
                                  cases hf
                              · rw [if_neg c136] at hf
                                by_cases c144 : ((xs (v3).toNatClampNeg) &&& (31 : Int32)) = 13
                                · rw [if_pos c144] at hf
                                  refine lv_tableIn (off := 405) (tgt := 437) C.1 C.2.1 dL_law_32 (by rw [c144]; decide) (by rw [c144]; decide) (by rw [c144]; rfl) (by decide) ?_
                                  refine lv_aload_n C.1 C.2.1 dL_law_437 rfl (lv_at hl 1 rfl) ?_
                                  refine lv_aload_n C.1 C.2.1 dL_law_438 rfl (lv_at hl 0 rfl) ?_
                                  refine lv_iload_n C.1 C.2.1 dL_law_439 rfl (lv_at hl 3 rfl) ?_
                                  refine lv_iconst (v := 1) C.1 C.2.1 dL_law_440 (by decide) ?_
                                  refine lv_iadd C.1 C.2.1 dL_law_441 ?_
                                  obtain ⟨i145, hf⟩ := ck_e hf
                                  refine va_sld C.1 C.2.1 hX hbl hbA w.2 (inb_in i145) dL_law_442 ?_
                                  refine lv_aload_n C.1 C.2.1 dL_law_443 rfl (lv_at hl 0 rfl) ?_
                                  refine lv_iload_n C.1 C.2.1 dL_law_444 rfl (lv_at hl 3 rfl) ?_
                                  refine lv_iconst (v := 2) C.1 C.2.1 dL_law_445 (by decide) ?_
                                  refine lv_iadd C.1 C.2.1 dL_law_446 ?_
                                  obtain ⟨i146, hf⟩ := ck_e hf
                                  refine va_sld C.1 C.2.1 hX hbl hbA w.2 (inb_in i146) dL_law_447 ?_
                                  obtain ⟨r148, h149, eq147, hf⟩ := bi2_e hf
                                  refine x_cVi (As := [.int (xs ((v3 + (1 : Int32))).toNatClampNeg), .int (xs ((v3 + (2 : Int32))).toNatClampNeg)]) (rest := []) C X w (c_X6_ahead hI eq147) mw_X6_ahead ml_L_68 rcv_r18 rfl hl.1 rfl (Nat.le_of_ble_eq_true rfl) ⟨⟨Nat.le_of_ble_eq_true rfl, Nat.le_of_ble_eq_true rfl⟩, Nat.le_of_ble_eq_true rfl, Nat.le_of_ble_eq_true rfl⟩ dL_law_448 (fun H locs w => ?_)
                                  refine lv_aload_n C.1 C.2.1 dL_law_451 rfl (lv_at hl 2 rfl) ?_
                                  refine lv_aload_n C.1 C.2.1 dL_law_452 rfl (lv_at hl 0 rfl) ?_
                                  refine lv_iload_n C.1 C.2.1 dL_law_453 rfl (lv_at hl 3 rfl) ?_
                                  refine lv_iconst (v := 1) C.1 C.2.1 dL_law_454 (by decide) ?_
                                  refine lv_iadd C.1 C.2.1 dL_law_455 ?_
                                  obtain ⟨i150, hf⟩ := ck_e hf
                                  refine va_sld C.1 C.2.1 hX hbl hbA w.2 (inb_in i150) dL_law_456 ?_
                                  refine lv_aload_n C.1 C.2.1 dL_law_457 rfl (lv_at hl 0 rfl) ?_
                                  refine lv_iload_n C.1 C.2.1 dL_law_458 rfl (lv_at hl 3 rfl) ?_
                                  refine lv_iconst (v := 2) C.1 C.2.1 dL_law_459 (by decide) ?_
                                  refine lv_iadd C.1 C.2.1 dL_law_460 ?_
                                  obtain ⟨i151, hf⟩ := ck_e hf
                                  refine va_sld C.1 C.2.1 hX hbl hbA w.2 (inb_in i151) dL_law_461 ?_
                                  obtain ⟨r153, h154, eq152, hf⟩ := bi2_e hf
                                  refine x_cVi (As := [.int (xs ((v3 + (1 : Int32))).toNatClampNeg), .int (xs ((v3 + (2 : Int32))).toNatClampNeg)]) (rest := [.int r148]) C X w (c_X7_ahead hI eq152) mw_X7_ahead ml_L_71 rcv_r33 rfl hl.1 rfl (Nat.le_of_ble_eq_true rfl) ⟨⟨Nat.le_of_ble_eq_true rfl, Nat.le_of_ble_eq_true rfl⟩, Nat.le_of_ble_eq_true rfl, Nat.le_of_ble_eq_true rfl⟩ dL_law_462 (fun H locs w => ?_)
                                  refine lv_icmp_eq (tgt := 1001) C.1 C.2.1 dL_law_465 (by decide) (fun c155 => ?_) (fun c155 => ?_)
                                  · rw [if_pos c155] at hf
                                    exact w_L_law_1001 C hr hlk X hI hA hX hbl hbA ih _ _ _ _ _ _ w (lv_sub hl [0, 1, 2, 3] rfl) hf
                                  · rw [if_neg c155] at hf
                                    refine lv_iconst (v := 0) C.1 C.2.1 dL_law_468 (by decide) ?_
                                    cases hf
                                · rw [if_neg c144] at hf
                                  by_cases c156 : ((xs (v3).toNatClampNeg) &&& (31 : Int32)) = 14
                                  · rw [if_pos c156] at hf
                                    refine lv_tableIn (off := 438) (tgt := 470) C.1 C.2.1 dL_law_32 (by rw [c156]; decide) (by rw [c156]; decide) (by rw [c156]; rfl) (by decide) ?_
                                    refine lv_aload_n C.1 C.2.1 dL_law_470 rfl (lv_at hl 1 rfl) ?_
                                    refine lv_aload_n C.1 C.2.1 dL_law_471 rfl (lv_at hl 0 rfl) ?_
                                    refine lv_iload_n C.1 C.2.1 dL_law_472 rfl (lv_at hl 3 rfl) ?_
                                    refine lv_iconst (v := 1) C.1 C.2.1 dL_law_473 (by decide) ?_
                                    refine lv_iadd C.1 C.2.1 dL_law_474 ?_
                                    obtain ⟨i157, hf⟩ := ck_e hf
                                    refine va_sld C.1 C.2.1 hX hbl hbA w.2 (inb_in i157) dL_law_475 ?_
                                    refine lv_aload_n C.1 C.2.1 dL_law_476 rfl (lv_at hl 0 rfl) ?_
                                    refine lv_iload_n C.1 C.2.1 dL_law_477 rfl (lv_at hl 3 rfl) ?_
                                    refine lv_iconst (v := 2) C.1 C.2.1 dL_law_478 (by decide) ?_
                                    refine lv_iadd C.1 C.2.1 dL_law_479 ?_
                                    obtain ⟨i158, hf⟩ := ck_e hf
                                    refine va_sld C.1 C.2.1 hX hbl hbA w.2 (inb_in i158) dL_law_480 ?_
                                    refine lv_aload_n C.1 C.2.1 dL_law_481 rfl (lv_at hl 0 rfl) ?_
                                    refine lv_iload_n C.1 C.2.1 dL_law_482 rfl (lv_at hl 3 rfl) ?_
                                    refine lv_iconst (v := 3) C.1 C.2.1 dL_law_483 (by decide) ?_
                                    refine lv_iadd C.1 C.2.1 dL_law_484 ?_
                                    obtain ⟨i159, hf⟩ := ck_e hf
                                    refine va_sld C.1 C.2.1 hX hbl hbA w.2 (inb_in i159) dL_law_485 ?_
                                    refine lv_aload_n C.1 C.2.1 dL_law_486 rfl (lv_at hl 0 rfl) ?_
                                    refine lv_iload_n C.1 C.2.1 dL_law_487 rfl (lv_at hl 3 rfl) ?_
                                    refine lv_iconst (v := 4) C.1 C.2.1 dL_law_488 (by decide) ?_
                                    refine lv_iadd C.1 C.2.1 dL_law_489 ?_
                                    obtain ⟨i160, hf⟩ := ck_e hf
                                    refine va_sld C.1 C.2.1 hX hbl hbA w.2 (inb_in i160) dL_law_490 ?_
                                    obtain ⟨r162, h163, eq161, hf⟩ := bi2_e hf
                                    refine x_cVi (As := [.int (xs ((v3 + (1 : Int32))).toNatClampNeg), .int (xs ((v3 + (2 : Int32))).toNatClampNeg), .int (xs ((v3 + (3 : Int32))).toNatClampNeg), .int (xs ((v3 + (4 : Int32))).toNatClampNeg)]) (rest := []) C X w (c_X6_by hI eq161) mw_X6_by ml_L_72 rcv_r18 rfl hl.1 rfl (Nat.le_of_ble_eq_true rfl) ⟨⟨Nat.le_of_ble_eq_true rfl, Nat.le_of_ble_eq_true rfl⟩, Nat.le_of_ble_eq_true rfl, Nat.le_of_ble_eq_true rfl⟩ dL_law_491 (fun H locs w => ?_)
                                    refine lv_aload_n C.1 C.2.1 dL_law_494 rfl (lv_at hl 2 rfl) ?_
                                    refine lv_aload_n C.1 C.2.1 dL_law_495 rfl (lv_at hl 0 rfl) ?_
                                    refine lv_iload_n C.1 C.2.1 dL_law_496 rfl (lv_at hl 3 rfl) ?_
                                    refine lv_iconst (v := 1) C.1 C.2.1 dL_law_497 (by decide) ?_
                                    refine lv_iadd C.1 C.2.1 dL_law_498 ?_
                                    obtain ⟨i164, hf⟩ := ck_e hf
                                    refine va_sld C.1 C.2.1 hX hbl hbA w.2 (inb_in i164) dL_law_499 ?_
                                    refine lv_aload_n C.1 C.2.1 dL_law_500 rfl (lv_at hl 0 rfl) ?_
                                    refine lv_iload_n C.1 C.2.1 dL_law_501 rfl (lv_at hl 3 rfl) ?_
                                    refine lv_iconst (v := 2) C.1 C.2.1 dL_law_502 (by decide) ?_
                                    refine lv_iadd C.1 C.2.1 dL_law_503 ?_
                                    obtain ⟨i165, hf⟩ := ck_e hf
                                    refine va_sld C.1 C.2.1 hX hbl hbA w.2 (inb_in i165) dL_law_504 ?_
                                    refine lv_aload_n C.1 C.2.1 dL_law_505 rfl (lv_at hl 0 rfl) ?_
                                    refine lv_iload_n C.1 C.2.1 dL_law_506 rfl (lv_at hl 3 rfl) ?_
                                    refine lv_iconst (v := 3) C.1 C.2.1 dL_law_507 (by decide) ?_
                                    refine lv_iadd C.1 C.2.1 dL_law_508 ?_
                                    obtain ⟨i166, hf⟩ := ck_e hf
                                    refine va_sld C.1 C.2.1 hX hbl hbA w.2 (inb_in i166) dL_law_509 ?_
                                    refine lv_aload_n C.1 C.2.1 dL_law_510 rfl (lv_at hl 0 rfl) ?_
                                    refine lv_iload_n C.1 C.2.1 dL_law_511 rfl (lv_at hl 3 rfl) ?_
                                    refine lv_iconst (v := 4) C.1 C.2.1 dL_law_512 (by decide) ?_
                                    refine lv_iadd C.1 C.2.1 dL_law_513 ?_
                                    obtain ⟨i167, hf⟩ := ck_e hf
                                    refine va_sld C.1 C.2.1 hX hbl hbA w.2 (inb_in i167) dL_law_514 ?_
                                    obtain ⟨r169, h170, eq168, hf⟩ := bi2_e hf
                                    refine x_cVi (As := [.int (xs ((v3 + (1 : Int32))).toNatClampNeg), .int (xs ((v3 + (2 : Int32))).toNatClampNeg), .int (xs ((v3 + (3 : Int32))).toNatClampNeg), .int (xs ((v3 + (4 : Int32))).toNatClampNeg)]) (rest := [.int r162]) C X w (c_X7_by hI eq168) mw_X7_by ml_L_76 rcv_r33 rfl hl.1 rfl (Nat.le_of_ble_eq_true rfl) ⟨⟨Nat.le_of_ble_eq_true rfl, Nat.le_of_ble_eq_true rfl⟩, Nat.le_of_ble_eq_true rfl, Nat.le_of_ble_eq_true rfl⟩ dL_law_515 (fun H locs w => ?_)
                                    refine lv_icmp_eq (tgt := 1001) C.1 C.2.1 dL_law_518 (by decide) (fun c171 => ?_) (fun c171 => ?_)
                                    · rw [if_pos c171] at hf
                                      exact w_L_law_1001 C hr hlk X hI hA hX hbl hbA ih _ _ _ _ _ _ w (lv_sub hl [0, 1, 2, 3] rfl) hf
                                    · rw [if_neg c171] at hf
                                      refine lv_iconst (v := 0) C.1 C.2.1 dL_law_521 (by decide) ?_
                                      cases hf
                                  · rw [if_neg c156] at hf
                                    by_cases c172 : ((xs (v3).toNatClampNeg) &&& (31 : Int32)) = 15
                                    · rw [if_pos c172] at hf
                                      refine lv_tableIn (off := 491) (tgt := 523) C.1 C.2.1 dL_law_32 (by rw [c172]; decide) (by rw [c172]; decide) (by rw [c172]; rfl) (by decide) ?_
                                      refine lv_aload_n C.1 C.2.1 dL_law_523 rfl (lv_at hl 1 rfl) ?_
                                      refine lv_aload_n C.1 C.2.1 dL_law_524 rfl (lv_at hl 0 rfl) ?_
                                      refine lv_iload_n C.1 C.2.1 dL_law_525 rfl (lv_at hl 3 rfl) ?_
                                      refine lv_iconst (v := 1) C.1 C.2.1 dL_law_526 (by decide) ?_
                                      refine lv_iadd C.1 C.2.1 dL_law_527 ?_
                                      obtain ⟨i173, hf⟩ := ck_e hf
                                      refine va_sld C.1 C.2.1 hX hbl hbA w.2 (inb_in i173) dL_law_528 ?_
                                      refine lv_aload_n C.1 C.2.1 dL_law_529 rfl (lv_at hl 0 rfl) ?_
                                      refine lv_iload_n C.1 C.2.1 dL_law_530 rfl (lv_at hl 3 rfl) ?_
                                      refine lv_iconst (v := 2) C.1 C.2.1 dL_law_531 (by decide) ?_
                                      refine lv_iadd C.1 C.2.1 dL_law_532 ?_
                                      obtain ⟨i174, hf⟩ := ck_e hf
                                      refine va_sld C.1 C.2.1 hX hbl hbA w.2 (inb_in i174) dL_law_533 ?_
                                      obtain ⟨r176, h177, eq175, hf⟩ := bi2_e hf
                                      refine x_cVi (As := [.int (xs ((v3 + (1 : Int32))).toNatClampNeg), .int (xs ((v3 + (2 : Int32))).toNatClampNeg)]) (rest := []) C X w (c_X6_bestLength hI eq175) mw_X6_bestLength ml_L_77 rcv_r18 rfl hl.1 rfl (Nat.le_of_ble_eq_true rfl) ⟨⟨Nat.le_of_ble_eq_true rfl, Nat.le_of_ble_eq_true rfl⟩, Nat.le_of_ble_eq_true rfl, Nat.le_of_ble_eq_true rfl⟩ dL_law_534 (fun H locs w => ?_)
                                      refine lv_aload_n C.1 C.2.1 dL_law_537 rfl (lv_at hl 2 rfl) ?_
                                      refine lv_aload_n C.1 C.2.1 dL_law_538 rfl (lv_at hl 0 rfl) ?_
                                      refine lv_iload_n C.1 C.2.1 dL_law_539 rfl (lv_at hl 3 rfl) ?_
                                      refine lv_iconst (v := 1) C.1 C.2.1 dL_law_540 (by decide) ?_
                                      refine lv_iadd C.1 C.2.1 dL_law_541 ?_
                                      obtain ⟨i178, hf⟩ := ck_e hf
                                      refine va_sld C.1 C.2.1 hX hbl hbA w.2 (inb_in i178) dL_law_542 ?_
                                      refine lv_aload_n C.1 C.2.1 dL_law_543 rfl (lv_at hl 0 rfl) ?_
                                      refine lv_iload_n C.1 C.2.1 dL_law_544 rfl (lv_at hl 3 rfl) ?_
                                      refine lv_iconst (v := 2) C.1 C.2.1 dL_law_545 (by decide) ?_
                                      refine lv_iadd C.1 C.2.1 dL_law_546 ?_
                                      obtain ⟨i179, hf⟩ := ck_e hf
                                      refine va_sld C.1 C.2.1 hX hbl hbA w.2 (inb_in i179) dL_law_547 ?_
                                      obtain ⟨r181, h182, eq180, hf⟩ := bi2_e hf
                                      refine x_cVi (As := [.int (xs ((v3 + (1 : Int32))).toNatClampNeg), .int (xs ((v3 + (2 : Int32))).toNatClampNeg)]) (rest := [.int r176]) C X w (c_X7_bestLength hI eq180) mw_X7_bestLength ml_L_80 rcv_r33 rfl hl.1 rfl (Nat.le_of_ble_eq_true rfl) ⟨⟨Nat.le_of_ble_eq_true rfl, Nat.le_of_ble_eq_true rfl⟩, Nat.le_of_ble_eq_true rfl, Nat.le_of_ble_eq_true rfl⟩ dL_law_548 (fun H locs w => ?_)
                                      refine lv_icmp_eq (tgt := 1001) C.1 C.2.1 dL_law_551 (by decide) (fun c183 => ?_) (fun c183 => ?_)
                                      · rw [if_pos c183] at hf
                                        exact w_L_law_1001 C hr hlk X hI hA hX hbl hbA ih _ _ _ _ _ _ w (lv_sub hl [0, 1, 2, 3] rfl) hf
                                      · rw [if_neg c183] at hf
                                        refine lv_iconst (v := 0) C.1 C.2.1 dL_law_554 (by decide) ?_
                                        cases hf
                                    · rw [if_neg c172] at hf
                                      by_cases c184 : ((xs (v3).toNatClampNeg) &&& (31 : Int32)) = 16
                                      · rw [if_pos c184] at hf
                                        refine lv_tableIn (off := 524) (tgt := 556) C.1 C.2.1 dL_law_32 (by rw [c184]; decide) (by rw [c184]; decide) (by rw [c184]; rfl) (by decide) ?_
                                        refine lv_aload_n C.1 C.2.1 dL_law_556 rfl (lv_at hl 1 rfl) ?_
                                        refine lv_aload_n C.1 C.2.1 dL_law_557 rfl (lv_at hl 0 rfl) ?_
                                        refine lv_iload_n C.1 C.2.1 dL_law_558 rfl (lv_at hl 3 rfl) ?_
                                        refine lv_iconst (v := 1) C.1 C.2.1 dL_law_559 (by decide) ?_
                                        refine lv_iadd C.1 C.2.1 dL_law_560 ?_
                                        obtain ⟨i185, hf⟩ := ck_e hf
                                        refine va_sld C.1 C.2.1 hX hbl hbA w.2 (inb_in i185) dL_law_561 ?_
                                        obtain ⟨r187, h188, eq186, hf⟩ := bi2_e hf
                                        refine x_cVi (As := [.int (xs ((v3 + (1 : Int32))).toNatClampNeg)]) (rest := []) C X w (c_X6_bestRule hI eq186) mw_X6_bestRule ml_L_81 rcv_r18 rfl hl.1 rfl (Nat.le_of_ble_eq_true rfl) ⟨⟨Nat.le_of_ble_eq_true rfl, Nat.le_of_ble_eq_true rfl⟩, Nat.le_of_ble_eq_true rfl, Nat.le_of_ble_eq_true rfl⟩ dL_law_562 (fun H locs w => ?_)
                                        refine lv_aload_n C.1 C.2.1 dL_law_565 rfl (lv_at hl 2 rfl) ?_
                                        refine lv_aload_n C.1 C.2.1 dL_law_566 rfl (lv_at hl 0 rfl) ?_
                                        refine lv_iload_n C.1 C.2.1 dL_law_567 rfl (lv_at hl 3 rfl) ?_
                                        refine lv_iconst (v := 1) C.1 C.2.1 dL_law_568 (by decide) ?_
                                        refine lv_iadd C.1 C.2.1 dL_law_569 ?_
                                        obtain ⟨i189, hf⟩ := ck_e hf
                                        refine va_sld C.1 C.2.1 hX hbl hbA w.2 (inb_in i189) dL_law_570 ?_
                                        obtain ⟨r191, h192, eq190, hf⟩ := bi2_e hf
                                        refine x_cVi (As := [.int (xs ((v3 + (1 : Int32))).toNatClampNeg)]) (rest := [.int r187]) C X w (c_X7_bestRule hI eq190) mw_X7_bestRule ml_L_84 rcv_r33 rfl hl.1 rfl (Nat.le_of_ble_eq_true rfl) ⟨⟨Nat.le_of_ble_eq_true rfl, Nat.le_of_ble_eq_true rfl⟩, Nat.le_of_ble_eq_true rfl, Nat.le_of_ble_eq_true rfl⟩ dL_law_571 (fun H locs w => ?_)
                                        refine lv_icmp_eq (tgt := 1001) C.1 C.2.1 dL_law_574 (by decide) (fun c193 => ?_) (fun c193 => ?_)
                                        · rw [if_pos c193] at hf
                                          exact w_L_law_1001 C hr hlk X hI hA hX hbl hbA ih _ _ _ _ _ _ w (lv_sub hl [0, 1, 2, 3] rfl) hf
                                        · rw [if_neg c193] at hf
                                          refine lv_iconst (v := 0) C.1 C.2.1 dL_law_577 (by decide) ?_
                                          cases hf
                                      · rw [if_neg c184] at hf
                                        by_cases c194 : ((xs (v3).toNatClampNeg) &&& (31 : Int32)) = 17
                                        · rw [if_pos c194] at hf
                                          refine lv_tableIn (off := 547) (tgt := 579) C.1 C.2.1 dL_law_32 (by rw [c194]; decide) (by rw [c194]; decide) (by rw [c194]; rfl) (by decide) ?_
                                          refine lv_aload_n C.1 C.2.1 dL_law_579 rfl (lv_at hl 1 rfl) ?_
                                          refine lv_aload_n C.1 C.2.1 dL_law_580 rfl (lv_at hl 0 rfl) ?_
                                          refine lv_iload_n C.1 C.2.1 dL_law_581 rfl (lv_at hl 3 rfl) ?_
                                          refine lv_iconst (v := 1) C.1 C.2.1 dL_law_582 (by decide) ?_
                                          refine lv_iadd C.1 C.2.1 dL_law_583 ?_
                                          obtain ⟨i195, hf⟩ := ck_e hf
                                          refine va_sld C.1 C.2.1 hX hbl hbA w.2 (inb_in i195) dL_law_584 ?_
                                          obtain ⟨r197, h198, eq196, hf⟩ := bi2_e hf
                                          refine x_cVi (As := [.int (xs ((v3 + (1 : Int32))).toNatClampNeg)]) (rest := []) C X w (c_X6_first hI eq196) mw_X6_first ml_L_85 rcv_r18 rfl hl.1 rfl (Nat.le_of_ble_eq_true rfl) ⟨⟨Nat.le_of_ble_eq_true rfl, Nat.le_of_ble_eq_true rfl⟩, Nat.le_of_ble_eq_true rfl, Nat.le_of_ble_eq_true rfl⟩ dL_law_585 (fun H locs w => ?_)
                                          refine lv_aload_n C.1 C.2.1 dL_law_588 rfl (lv_at hl 2 rfl) ?_
                                          refine lv_aload_n C.1 C.2.1 dL_law_589 rfl (lv_at hl 0 rfl) ?_
                                          refine lv_iload_n C.1 C.2.1 dL_law_590 rfl (lv_at hl 3 rfl) ?_
                                          refine lv_iconst (v := 1) C.1 C.2.1 dL_law_591 (by decide) ?_
                                          refine lv_iadd C.1 C.2.1 dL_law_592 ?_
                                          obtain ⟨i199, hf⟩ := ck_e hf
                                          refine va_sld C.1 C.2.1 hX hbl hbA w.2 (inb_in i199) dL_law_593 ?_
                                          obtain ⟨r201, h202, eq200, hf⟩ := bi2_e hf
                                          refine x_cVi (As := [.int (xs ((v3 + (1 : Int32))).toNatClampNeg)]) (rest := [.int r197]) C X w (c_X7_first hI eq200) mw_X7_first ml_L_88 rcv_r33 rfl hl.1 rfl (Nat.le_of_ble_eq_true rfl) ⟨⟨Nat.le_of_ble_eq_true rfl, Nat.le_of_ble_eq_true rfl⟩, Nat.le_of_ble_eq_true rfl, Nat.le_of_ble_eq_true rfl⟩ dL_law_594 (fun H locs w => ?_)
                                          refine lv_icmp_eq (tgt := 1001) C.1 C.2.1 dL_law_597 (by decide) (fun c203 => ?_) (fun c203 => ?_)
                                          · rw [if_pos c203] at hf
                                            exact w_L_law_1001 C hr hlk X hI hA hX hbl hbA ih _ _ _ _ _ _ w (lv_sub hl [0, 1, 2, 3] rfl) hf
                                          · rw [if_neg c203] at hf
                                            refine lv_iconst (v := 0) C.1 C.2.1 dL_law_600 (by decide) ?_
                                            cases hf
                                        · rw [if_neg c194] at hf
                                          by_cases c204 : ((xs (v3).toNatClampNeg) &&& (31 : Int32)) = 18
                                          · rw [if_pos c204] at hf
                                            refine lv_tableIn (off := 570) (tgt := 602) C.1 C.2.1 dL_law_32 (by rw [c204]; decide) (by rw [c204]; decide) (by rw [c204]; rfl) (by decide) ?_
                                            refine lv_aload_n C.1 C.2.1 dL_law_602 rfl (lv_at hl 1 rfl) ?_
                                            refine lv_aload_n C.1 C.2.1 dL_law_603 rfl (lv_at hl 0 rfl) ?_
                                            refine lv_iload_n C.1 C.2.1 dL_law_604 rfl (lv_at hl 3 rfl) ?_
                                            refine lv_iconst (v := 1) C.1 C.2.1 dL_law_605 (by decide) ?_
                                            refine lv_iadd C.1 C.2.1 dL_law_606 ?_
                                            obtain ⟨i205, hf⟩ := ck_e hf
                                            refine va_sld C.1 C.2.1 hX hbl hbA w.2 (inb_in i205) dL_law_607 ?_
                                            obtain ⟨r207, h208, eq206, hf⟩ := bi2_e hf
                                            refine x_cVi (As := [.int (xs ((v3 + (1 : Int32))).toNatClampNeg)]) (rest := []) C X w (c_X6_second hI eq206) mw_X6_second ml_L_89 rcv_r18 rfl hl.1 rfl (Nat.le_of_ble_eq_true rfl) ⟨⟨Nat.le_of_ble_eq_true rfl, Nat.le_of_ble_eq_true rfl⟩, Nat.le_of_ble_eq_true rfl, Nat.le_of_ble_eq_true rfl⟩ dL_law_608 (fun H locs w => ?_)
                                            refine lv_aload_n C.1 C.2.1 dL_law_611 rfl (lv_at hl 2 rfl) ?_
                                            refine lv_aload_n C.1 C.2.1 dL_law_612 rfl (lv_at hl 0 rfl) ?_
                                            refine lv_iload_n C.1 C.2.1 dL_law_613 rfl (lv_at hl 3 rfl) ?_
                                            refine lv_iconst (v := 1) C.1 C.2.1 dL_law_614 (by decide) ?_
                                            refine lv_iadd C.1 C.2.1 dL_law_615 ?_
                                            obtain ⟨i209, hf⟩ := ck_e hf
                                            refine va_sld C.1 C.2.1 hX hbl hbA w.2 (inb_in i209) dL_law_616 ?_
                                            obtain ⟨r211, h212, eq210, hf⟩ := bi2_e hf
                                            refine x_cVi (As := [.int (xs ((v3 + (1 : Int32))).toNatClampNeg)]) (rest := [.int r207]) C X w (c_X7_second hI eq210) mw_X7_second ml_L_92 rcv_r33 rfl hl.1 rfl (Nat.le_of_ble_eq_true rfl) ⟨⟨Nat.le_of_ble_eq_true rfl, Nat.le_of_ble_eq_true rfl⟩, Nat.le_of_ble_eq_true rfl, Nat.le_of_ble_eq_true rfl⟩ dL_law_617 (fun H locs w => ?_)
                                            refine lv_icmp_eq (tgt := 1001) C.1 C.2.1 dL_law_620 (by decide) (fun c213 => ?_) (fun c213 => ?_)
                                            · rw [if_pos c213] at hf
                                              exact w_L_law_1001 C hr hlk X hI hA hX hbl hbA ih _ _ _ _ _ _ w (lv_sub hl [0, 1, 2, 3] rfl) hf
                                            · rw [if_neg c213] at hf
                                              refine lv_iconst (v := 0) C.1 C.2.1 dL_law_623 (by decide) ?_
                                              cases hf
                                          · rw [if_neg c204] at hf
                                            by_cases c214 : ((xs (v3).toNatClampNeg) &&& (31 : Int32)) = 19
                                            · rw [if_pos c214] at hf
                                              refine lv_tableIn (off := 593) (tgt := 625) C.1 C.2.1 dL_law_32 (by rw [c214]; decide) (by rw [c214]; decide) (by rw [c214]; rfl) (by decide) ?_
                                              refine lv_aload_n C.1 C.2.1 dL_law_625 rfl (lv_at hl 1 rfl) ?_
                                              refine lv_aload_n C.1 C.2.1 dL_law_626 rfl (lv_at hl 0 rfl) ?_
                                              refine lv_iload_n C.1 C.2.1 dL_law_627 rfl (lv_at hl 3 rfl) ?_
                                              refine lv_iconst (v := 1) C.1 C.2.1 dL_law_628 (by decide) ?_
                                              refine lv_iadd C.1 C.2.1 dL_law_629 ?_
                                              obtain ⟨i215, hf⟩ := ck_e hf
                                              refine va_sld C.1 C.2.1 hX hbl hbA w.2 (inb_in i215) dL_law_630 ?_
                                              refine lv_aload_n C.1 C.2.1 dL_law_631 rfl (lv_at hl 0 rfl) ?_
                                              refine lv_iload_n C.1 C.2.1 dL_law_632 rfl (lv_at hl 3 rfl) ?_
                                              refine lv_iconst (v := 2) C.1 C.2.1 dL_law_633 (by decide) ?_
                                              refine lv_iadd C.1 C.2.1 dL_law_634 ?_
                                              obtain ⟨i216, hf⟩ := ck_e hf
                                              refine va_sld C.1 C.2.1 hX hbl hbA w.2 (inb_in i216) dL_law_635 ?_
                                              obtain ⟨r218, h219, eq217, hf⟩ := bi2_e hf
                                              refine x_cVi (As := [.int (xs ((v3 + (1 : Int32))).toNatClampNeg), .int (xs ((v3 + (2 : Int32))).toNatClampNeg)]) (rest := []) C X w (c_X6_judge hI eq217) mw_X6_judge ml_L_93 rcv_r18 rfl hl.1 rfl (Nat.le_of_ble_eq_true rfl) ⟨⟨Nat.le_of_ble_eq_true rfl, Nat.le_of_ble_eq_true rfl⟩, Nat.le_of_ble_eq_true rfl, Nat.le_of_ble_eq_true rfl⟩ dL_law_636 (fun H locs w => ?_)
                                              refine lv_aload_n C.1 C.2.1 dL_law_639 rfl (lv_at hl 2 rfl) ?_
                                              refine lv_aload_n C.1 C.2.1 dL_law_640 rfl (lv_at hl 0 rfl) ?_
                                              refine lv_iload_n C.1 C.2.1 dL_law_641 rfl (lv_at hl 3 rfl) ?_
                                              refine lv_iconst (v := 1) C.1 C.2.1 dL_law_642 (by decide) ?_
                                              refine lv_iadd C.1 C.2.1 dL_law_643 ?_
                                              obtain ⟨i220, hf⟩ := ck_e hf
                                              refine va_sld C.1 C.2.1 hX hbl hbA w.2 (inb_in i220) dL_law_644 ?_
                                              refine lv_aload_n C.1 C.2.1 dL_law_645 rfl (lv_at hl 0 rfl) ?_
                                              refine lv_iload_n C.1 C.2.1 dL_law_646 rfl (lv_at hl 3 rfl) ?_
                                              refine lv_iconst (v := 2) C.1 C.2.1 dL_law_647 (by decide) ?_
                                              refine lv_iadd C.1 C.2.1 dL_law_648 ?_
                                              obtain ⟨i221, hf⟩ := ck_e hf
                                              refine va_sld C.1 C.2.1 hX hbl hbA w.2 (inb_in i221) dL_law_649 ?_
                                              obtain ⟨r223, h224, eq222, hf⟩ := bi2_e hf
                                              refine x_cVi (As := [.int (xs ((v3 + (1 : Int32))).toNatClampNeg), .int (xs ((v3 + (2 : Int32))).toNatClampNeg)]) (rest := [.int r218]) C X w (c_X7_judge hI eq222) mw_X7_judge ml_L_96 rcv_r33 rfl hl.1 rfl (Nat.le_of_ble_eq_true rfl) ⟨⟨Nat.le_of_ble_eq_true rfl, Nat.le_of_ble_eq_true rfl⟩, Nat.le_of_ble_eq_true rfl, Nat.le_of_ble_eq_true rfl⟩ dL_law_650 (fun H locs w => ?_)
                                              refine lv_icmp_eq (tgt := 1001) C.1 C.2.1 dL_law_653 (by decide) (fun c225 => ?_) (fun c225 => ?_)
                                              · rw [if_pos c225] at hf
                                                exact w_L_law_1001 C hr hlk X hI hA hX hbl hbA ih _ _ _ _ _ _ w (lv_sub hl [0, 1, 2, 3] rfl) hf
                                              · rw [if_neg c225] at hf
                                                refine lv_iconst (v := 0) C.1 C.2.1 dL_law_656 (by decide) ?_
                                                cases hf
                                            · rw [if_neg c214] at hf
                                              by_cases c226 : ((xs (v3).toNatClampNeg) &&& (31 : Int32)) = 20
                                              · rw [if_pos c226] at hf
                                                refine lv_tableIn (off := 626) (tgt := 658) C.1 C.2.1 dL_law_32 (by rw [c226]; decide) (by rw [c226]; decide) (by rw [c226]; rfl) (by decide) ?_
                                                refine lv_aload_n C.1 C.2.1 dL_law_658 rfl (lv_at hl 1 rfl) ?_
                                                refine lv_aload_n C.1 C.2.1 dL_law_659 rfl (lv_at hl 0 rfl) ?_
                                                refine lv_iload_n C.1 C.2.1 dL_law_660 rfl (lv_at hl 3 rfl) ?_
                                                refine lv_iconst (v := 1) C.1 C.2.1 dL_law_661 (by decide) ?_
                                                refine lv_iadd C.1 C.2.1 dL_law_662 ?_
                                                obtain ⟨i227, hf⟩ := ck_e hf
                                                refine va_sld C.1 C.2.1 hX hbl hbA w.2 (inb_in i227) dL_law_663 ?_
                                                refine lv_aload_n C.1 C.2.1 dL_law_664 rfl (lv_at hl 0 rfl) ?_
                                                refine lv_iload_n C.1 C.2.1 dL_law_665 rfl (lv_at hl 3 rfl) ?_
                                                refine lv_iconst (v := 2) C.1 C.2.1 dL_law_666 (by decide) ?_
                                                refine lv_iadd C.1 C.2.1 dL_law_667 ?_
                                                obtain ⟨i228, hf⟩ := ck_e hf
                                                refine va_sld C.1 C.2.1 hX hbl hbA w.2 (inb_in i228) dL_law_668 ?_
                                                refine lv_if_eq (tgt := 676) C.1 C.2.1 dL_law_669 (by decide) (fun c229 => ?_) (fun c229 => ?_)
                                                · rw [if_pos c229] at hf
                                                  refine lv_iconst (v := 0) C.1 C.2.1 dL_law_676 (by decide) ?_
                                                  exact w_L_law_677 C hr hlk X hI hA hX hbl hbA ih _ _ _ _ _ _ _ _ w (lv_sub hl [0, 1, 2, 3] rfl) hf
                                                · rw [if_neg c229] at hf
                                                  refine lv_iconst (v := 1) C.1 C.2.1 dL_law_672 (by decide) ?_
                                                  refine lv_goto (tgt := 677) C.1 C.2.1 dL_law_673 (by decide) ?_
                                                  exact w_L_law_677 C hr hlk X hI hA hX hbl hbA ih _ _ _ _ _ _ _ _ w (lv_sub hl [0, 1, 2, 3] rfl) hf
                                              · rw [if_neg c226] at hf
                                                by_cases c230 : ((xs (v3).toNatClampNeg) &&& (31 : Int32)) = 21
                                                · rw [if_pos c230] at hf
                                                  refine lv_tableIn (off := 675) (tgt := 707) C.1 C.2.1 dL_law_32 (by rw [c230]; decide) (by rw [c230]; decide) (by rw [c230]; rfl) (by decide) ?_
                                                  refine lv_aload_n C.1 C.2.1 dL_law_707 rfl (lv_at hl 1 rfl) ?_
                                                  refine lv_aload_n C.1 C.2.1 dL_law_708 rfl (lv_at hl 0 rfl) ?_
                                                  refine lv_iload_n C.1 C.2.1 dL_law_709 rfl (lv_at hl 3 rfl) ?_
                                                  refine lv_iconst (v := 1) C.1 C.2.1 dL_law_710 (by decide) ?_
                                                  refine lv_iadd C.1 C.2.1 dL_law_711 ?_
                                                  obtain ⟨i231, hf⟩ := ck_e hf
                                                  refine va_sld C.1 C.2.1 hX hbl hbA w.2 (inb_in i231) dL_law_712 ?_
                                                  refine lv_aload_n C.1 C.2.1 dL_law_713 rfl (lv_at hl 0 rfl) ?_
                                                  refine lv_iload_n C.1 C.2.1 dL_law_714 rfl (lv_at hl 3 rfl) ?_
                                                  refine lv_iconst (v := 2) C.1 C.2.1 dL_law_715 (by decide) ?_
                                                  refine lv_iadd C.1 C.2.1 dL_law_716 ?_
                                                  obtain ⟨i232, hf⟩ := ck_e hf
                                                  refine va_sld C.1 C.2.1 hX hbl hbA w.2 (inb_in i232) dL_law_717 ?_
                                                  obtain ⟨r234, h235, eq233, hf⟩ := bi2_e hf
                                                  refine x_cVi (As := [.int (xs ((v3 + (1 : Int32))).toNatClampNeg), .int (xs ((v3 + (2 : Int32))).toNatClampNeg)]) (rest := []) C X w (c_X6_see hI eq233) mw_X6_see ml_L_102 rcv_r18 rfl hl.1 rfl (Nat.le_of_ble_eq_true rfl) ⟨⟨Nat.le_of_ble_eq_true rfl, Nat.le_of_ble_eq_true rfl⟩, Nat.le_of_ble_eq_true rfl, Nat.le_of_ble_eq_true rfl⟩ dL_law_718 (fun H locs w => ?_)
                                                  refine lv_aload_n C.1 C.2.1 dL_law_721 rfl (lv_at hl 2 rfl) ?_
                                                  refine lv_aload_n C.1 C.2.1 dL_law_722 rfl (lv_at hl 0 rfl) ?_
                                                  refine lv_iload_n C.1 C.2.1 dL_law_723 rfl (lv_at hl 3 rfl) ?_
                                                  refine lv_iconst (v := 1) C.1 C.2.1 dL_law_724 (by decide) ?_
                                                  refine lv_iadd C.1 C.2.1 dL_law_725 ?_
                                                  obtain ⟨i236, hf⟩ := ck_e hf
                                                  refine va_sld C.1 C.2.1 hX hbl hbA w.2 (inb_in i236) dL_law_726 ?_
                                                  refine lv_aload_n C.1 C.2.1 dL_law_727 rfl (lv_at hl 0 rfl) ?_
                                                  refine lv_iload_n C.1 C.2.1 dL_law_728 rfl (lv_at hl 3 rfl) ?_
                                                  refine lv_iconst (v := 2) C.1 C.2.1 dL_law_729 (by decide) ?_
                                                  refine lv_iadd C.1 C.2.1 dL_law_730 ?_
                                                  obtain ⟨i237, hf⟩ := ck_e hf
                                                  refine va_sld C.1 C.2.1 hX hbl hbA w.2 (inb_in i237) dL_law_731 ?_
                                                  obtain ⟨r239, h240, eq238, hf⟩ := bi2_e hf
                                                  refine x_cVi (As := [.int (xs ((v3 + (1 : Int32))).toNatClampNeg), .int (xs ((v3 + (2 : Int32))).toNatClampNeg)]) (rest := [.int r234]) C X w (c_X7_see hI eq238) mw_X7_see ml_L_105 rcv_r33 rfl hl.1 rfl (Nat.le_of_ble_eq_true rfl) ⟨⟨Nat.le_of_ble_eq_true rfl, Nat.le_of_ble_eq_true rfl⟩, Nat.le_of_ble_eq_true rfl, Nat.le_of_ble_eq_true rfl⟩ dL_law_732 (fun H locs w => ?_)
                                                  refine lv_icmp_eq (tgt := 1001) C.1 C.2.1 dL_law_735 (by decide) (fun c241 => ?_) (fun c241 => ?_)
                                                  · rw [if_pos c241] at hf
                                                    exact w_L_law_1001 C hr hlk X hI hA hX hbl hbA ih _ _ _ _ _ _ w (lv_sub hl [0, 1, 2, 3] rfl) hf
                                                  · rw [if_neg c241] at hf
                                                    refine lv_iconst (v := 0) C.1 C.2.1 dL_law_738 (by decide) ?_
                                                    cases hf
                                                · rw [if_neg c230] at hf
                                                  by_cases c242 : ((xs (v3).toNatClampNeg) &&& (31 : Int32)) = 22
                                                  · rw [if_pos c242] at hf
                                                    refine lv_tableIn (off := 708) (tgt := 740) C.1 C.2.1 dL_law_32 (by rw [c242]; decide) (by rw [c242]; decide) (by rw [c242]; rfl) (by decide) ?_
                                                    refine lv_aload_n C.1 C.2.1 dL_law_740 rfl (lv_at hl 1 rfl) ?_
                                                    obtain ⟨r244, h245, eq243, hf⟩ := bi2_e hf
                                                    refine x_cVi (As := []) (rest := []) C X w (c_X6_unsee hI eq243) mw_X6_unsee ml_L_106 rcv_r18 rfl hl.1 rfl (Nat.le_of_ble_eq_true rfl) ⟨⟨Nat.le_of_ble_eq_true rfl, Nat.le_of_ble_eq_true rfl⟩, Nat.le_of_ble_eq_true rfl, Nat.le_of_ble_eq_true rfl⟩ dL_law_741 (fun H locs w => ?_)
                                                    refine lv_aload_n C.1 C.2.1 dL_law_744 rfl (lv_at hl 2 rfl) ?_
                                                    obtain ⟨r247, h248, eq246, hf⟩ := bi2_e hf
                                                    refine x_cVi (As := []) (rest := [.int r244]) C X w (c_X7_unsee hI eq246) mw_X7_unsee ml_L_109 rcv_r33 rfl hl.1 rfl (Nat.le_of_ble_eq_true rfl) ⟨⟨Nat.le_of_ble_eq_true rfl, Nat.le_of_ble_eq_true rfl⟩, Nat.le_of_ble_eq_true rfl, Nat.le_of_ble_eq_true rfl⟩ dL_law_745 (fun H locs w => ?_)
                                                    refine lv_icmp_eq (tgt := 1001) C.1 C.2.1 dL_law_748 (by decide) (fun c249 => ?_) (fun c249 => ?_)
                                                    · rw [if_pos c249] at hf
                                                      exact w_L_law_1001 C hr hlk X hI hA hX hbl hbA ih _ _ _ _ _ _ w (lv_sub hl [0, 1, 2, 3] rfl) hf
                                                    · rw [if_neg c249] at hf
                                                      refine lv_iconst (v := 0) C.1 C.2.1 dL_law_751 (by decide) ?_
                                                      cases hf
                                                  · rw [if_neg c242] at hf
                                                    by_cases c250 : ((xs (v3).toNatClampNeg) &&& (31 : Int32)) = 23
                                                    · rw [if_pos c250] at hf
                                                      refine lv_tableIn (off := 721) (tgt := 753) C.1 C.2.1 dL_law_32 (by rw [c250]; decide) (by rw [c250]; decide) (by rw [c250]; rfl) (by decide) ?_
                                                      refine lv_aload_n C.1 C.2.1 dL_law_753 rfl (lv_at hl 1 rfl) ?_
                                                      obtain ⟨r252, h253, eq251, hf⟩ := bi2_e hf
                                                      refine x_cVi (As := []) (rest := []) C X w (c_X6_may hI eq251) mw_X6_may ml_L_110 rcv_r18 rfl hl.1 rfl (Nat.le_of_ble_eq_true rfl) ⟨⟨Nat.le_of_ble_eq_true rfl, Nat.le_of_ble_eq_true rfl⟩, Nat.le_of_ble_eq_true rfl, Nat.le_of_ble_eq_true rfl⟩ dL_law_754 (fun H locs w => ?_)
                                                      refine lv_aload_n C.1 C.2.1 dL_law_757 rfl (lv_at hl 2 rfl) ?_
                                                      obtain ⟨r255, h256, eq254, hf⟩ := bi2_e hf
                                                      refine x_cVi (As := []) (rest := [.int r252]) C X w (c_X7_may hI eq254) mw_X7_may ml_L_113 rcv_r33 rfl hl.1 rfl (Nat.le_of_ble_eq_true rfl) ⟨⟨Nat.le_of_ble_eq_true rfl, Nat.le_of_ble_eq_true rfl⟩, Nat.le_of_ble_eq_true rfl, Nat.le_of_ble_eq_true rfl⟩ dL_law_758 (fun H locs w => ?_)
                                                      refine lv_icmp_eq (tgt := 1001) C.1 C.2.1 dL_law_761 (by decide) (fun c257 => ?_) (fun c257 => ?_)
                                                      · rw [if_pos c257] at hf
                                                        exact w_L_law_1001 C hr hlk X hI hA hX hbl hbA ih _ _ _ _ _ _ w (lv_sub hl [0, 1, 2, 3] rfl) hf
                                                      · rw [if_neg c257] at hf
                                                        refine lv_iconst (v := 0) C.1 C.2.1 dL_law_764 (by decide) ?_
                                                        cases hf
                                                    · rw [if_neg c250] at hf
                                                      by_cases c258 : ((xs (v3).toNatClampNeg) &&& (31 : Int32)) = 24
                                                      · rw [if_pos c258] at hf
                                                        refine lv_tableIn (off := 734) (tgt := 766) C.1 C.2.1 dL_law_32 (by rw [c258]; decide) (by rw [c258]; decide) (by rw [c258]; rfl) (by decide) ?_
                                                        refine lv_aload_n C.1 C.2.1 dL_law_766 rfl (lv_at hl 1 rfl) ?_
                                                        refine lv_aload_n C.1 C.2.1 dL_law_767 rfl (lv_at hl 0 rfl) ?_
                                                        refine lv_iload_n C.1 C.2.1 dL_law_768 rfl (lv_at hl 3 rfl) ?_
                                                        refine lv_iconst (v := 1) C.1 C.2.1 dL_law_769 (by decide) ?_
                                                        refine lv_iadd C.1 C.2.1 dL_law_770 ?_
                                                        obtain ⟨i259, hf⟩ := ck_e hf
                                                        refine va_sld C.1 C.2.1 hX hbl hbA w.2 (inb_in i259) dL_law_771 ?_
                                                        refine lv_aload_n C.1 C.2.1 dL_law_772 rfl (lv_at hl 0 rfl) ?_
                                                        refine lv_iload_n C.1 C.2.1 dL_law_773 rfl (lv_at hl 3 rfl) ?_
                                                        refine lv_iconst (v := 2) C.1 C.2.1 dL_law_774 (by decide) ?_
                                                        refine lv_iadd C.1 C.2.1 dL_law_775 ?_
                                                        obtain ⟨i260, hf⟩ := ck_e hf
                                                        refine va_sld C.1 C.2.1 hX hbl hbA w.2 (inb_in i260) dL_law_776 ?_
                                                        refine lv_aload_n C.1 C.2.1 dL_law_777 rfl (lv_at hl 0 rfl) ?_
                                                        refine lv_iload_n C.1 C.2.1 dL_law_778 rfl (lv_at hl 3 rfl) ?_
                                                        refine lv_iconst (v := 3) C.1 C.2.1 dL_law_779 (by decide) ?_
                                                        refine lv_iadd C.1 C.2.1 dL_law_780 ?_
                                                        obtain ⟨i261, hf⟩ := ck_e hf
                                                        refine va_sld C.1 C.2.1 hX hbl hbA w.2 (inb_in i261) dL_law_781 ?_
                                                        obtain ⟨r263, eq262, hf⟩ := bi1_e hf
                                                        refine x_cVi (As := [.int (xs ((v3 + (1 : Int32))).toNatClampNeg), .int (xs ((v3 + (2 : Int32))).toNatClampNeg), .int (xs ((v3 + (3 : Int32))).toNatClampNeg)]) (rest := []) C X w (c_X6_rests hI eq262) mw_X6_rests ml_L_114 rcv_r18 rfl hl.1 rfl (Nat.le_of_ble_eq_true rfl) ⟨⟨Nat.le_of_ble_eq_true rfl, Nat.le_of_ble_eq_true rfl⟩, Nat.le_of_ble_eq_true rfl, Nat.le_of_ble_eq_true rfl⟩ dL_law_782 (fun H locs w => ?_)
                                                        refine lv_aload_n C.1 C.2.1 dL_law_785 rfl (lv_at hl 2 rfl) ?_
                                                        refine lv_aload_n C.1 C.2.1 dL_law_786 rfl (lv_at hl 0 rfl) ?_
                                                        refine lv_iload_n C.1 C.2.1 dL_law_787 rfl (lv_at hl 3 rfl) ?_
                                                        refine lv_iconst (v := 1) C.1 C.2.1 dL_law_788 (by decide) ?_
                                                        refine lv_iadd C.1 C.2.1 dL_law_789 ?_
                                                        obtain ⟨i264, hf⟩ := ck_e hf
                                                        refine va_sld C.1 C.2.1 hX hbl hbA w.2 (inb_in i264) dL_law_790 ?_
                                                        refine lv_aload_n C.1 C.2.1 dL_law_791 rfl (lv_at hl 0 rfl) ?_
                                                        refine lv_iload_n C.1 C.2.1 dL_law_792 rfl (lv_at hl 3 rfl) ?_
                                                        refine lv_iconst (v := 2) C.1 C.2.1 dL_law_793 (by decide) ?_
                                                        refine lv_iadd C.1 C.2.1 dL_law_794 ?_
                                                        obtain ⟨i265, hf⟩ := ck_e hf
                                                        refine va_sld C.1 C.2.1 hX hbl hbA w.2 (inb_in i265) dL_law_795 ?_
                                                        refine lv_aload_n C.1 C.2.1 dL_law_796 rfl (lv_at hl 0 rfl) ?_
                                                        refine lv_iload_n C.1 C.2.1 dL_law_797 rfl (lv_at hl 3 rfl) ?_
                                                        refine lv_iconst (v := 3) C.1 C.2.1 dL_law_798 (by decide) ?_
                                                        refine lv_iadd C.1 C.2.1 dL_law_799 ?_
                                                        obtain ⟨i266, hf⟩ := ck_e hf
                                                        refine va_sld C.1 C.2.1 hX hbl hbA w.2 (inb_in i266) dL_law_800 ?_
                                                        obtain ⟨r268, h269, eq267, hf⟩ := bi2_e hf
                                                        refine x_cVi (As := [.int (xs ((v3 + (1 : Int32))).toNatClampNeg), .int (xs ((v3 + (2 : Int32))).toNatClampNeg), .int (xs ((v3 + (3 : Int32))).toNatClampNeg)]) (rest := [.int r263]) C X w (c_X7_rests hI eq267) mw_X7_rests ml_L_118 rcv_r33 rfl hl.1 rfl (Nat.le_of_ble_eq_true rfl) ⟨⟨Nat.le_of_ble_eq_true rfl, Nat.le_of_ble_eq_true rfl⟩, Nat.le_of_ble_eq_true rfl, Nat.le_of_ble_eq_true rfl⟩ dL_law_801 (fun H locs w => ?_)
                                                        refine lv_icmp_eq (tgt := 1001) C.1 C.2.1 dL_law_804 (by decide) (fun c270 => ?_) (fun c270 => ?_)
                                                        · rw [if_pos c270] at hf
                                                          exact w_L_law_1001 C hr hlk X hI hA hX hbl hbA ih _ _ _ _ _ _ w (lv_sub hl [0, 1, 2, 3] rfl) hf
                                                        · rw [if_neg c270] at hf
                                                          refine lv_iconst (v := 0) C.1 C.2.1 dL_law_807 (by decide) ?_
                                                          cases hf
                                                      · rw [if_neg c258] at hf
                                                        by_cases c271 : ((xs (v3).toNatClampNeg) &&& (31 : Int32)) = 25
                                                        · rw [if_pos c271] at hf
                                                          refine lv_tableIn (off := 777) (tgt := 809) C.1 C.2.1 dL_law_32 (by rw [c271]; decide) (by rw [c271]; decide) (by rw [c271]; rfl) (by decide) ?_
                                                          refine lv_aload_n C.1 C.2.1 dL_law_809 rfl (lv_at hl 1 rfl) ?_
                                                          refine lv_aload_n C.1 C.2.1 dL_law_810 rfl (lv_at hl 0 rfl) ?_
                                                          refine lv_iload_n C.1 C.2.1 dL_law_811 rfl (lv_at hl 3 rfl) ?_
                                                          refine lv_iconst (v := 1) C.1 C.2.1 dL_law_812 (by decide) ?_
                                                          refine lv_iadd C.1 C.2.1 dL_law_813 ?_
                                                          obtain ⟨i272, hf⟩ := ck_e hf
                                                          refine va_sld C.1 C.2.1 hX hbl hbA w.2 (inb_in i272) dL_law_814 ?_
                                                          refine lv_aload_n C.1 C.2.1 dL_law_815 rfl (lv_at hl 0 rfl) ?_
                                                          refine lv_iload_n C.1 C.2.1 dL_law_816 rfl (lv_at hl 3 rfl) ?_
                                                          refine lv_iconst (v := 2) C.1 C.2.1 dL_law_817 (by decide) ?_
                                                          refine lv_iadd C.1 C.2.1 dL_law_818 ?_
                                                          obtain ⟨i273, hf⟩ := ck_e hf
                                                          refine va_sld C.1 C.2.1 hX hbl hbA w.2 (inb_in i273) dL_law_819 ?_
                                                          refine lv_aload_n C.1 C.2.1 dL_law_820 rfl (lv_at hl 0 rfl) ?_
                                                          refine lv_iload_n C.1 C.2.1 dL_law_821 rfl (lv_at hl 3 rfl) ?_
                                                          refine lv_iconst (v := 3) C.1 C.2.1 dL_law_822 (by decide) ?_
                                                          refine lv_iadd C.1 C.2.1 dL_law_823 ?_
                                                          obtain ⟨i274, hf⟩ := ck_e hf
                                                          refine va_sld C.1 C.2.1 hX hbl hbA w.2 (inb_in i274) dL_law_824 ?_
                                                          refine lv_aload_n C.1 C.2.1 dL_law_825 rfl (lv_at hl 0 rfl) ?_
                                                          refine lv_iload_n C.1 C.2.1 dL_law_826 rfl (lv_at hl 3 rfl) ?_
                                                          refine lv_iconst (v := 4) C.1 C.2.1 dL_law_827 (by decide) ?_
                                                          refine lv_iadd C.1 C.2.1 dL_law_828 ?_
                                                          obtain ⟨i275, hf⟩ := ck_e hf
                                                          refine va_sld C.1 C.2.1 hX hbl hbA w.2 (inb_in i275) dL_law_829 ?_
                                                          refine lv_if_eq (tgt := 837) C.1 C.2.1 dL_law_830 (by decide) (fun c276 => ?_) (fun c276 => ?_)
                                                          · rw [if_pos c276] at hf
                                                            refine lv_iconst (v := 0) C.1 C.2.1 dL_law_837 (by decide) ?_
                                                            exact w_L_law_838 C hr hlk X hI hA hX hbl hbA ih _ _ _ _ _ _ _ _ _ _ w (lv_sub hl [0, 1, 2, 3] rfl) hf
                                                          · rw [if_neg c276] at hf
                                                            refine lv_iconst (v := 1) C.1 C.2.1 dL_law_833 (by decide) ?_
                                                            refine lv_goto (tgt := 838) C.1 C.2.1 dL_law_834 (by decide) ?_
                                                            exact w_L_law_838 C hr hlk X hI hA hX hbl hbA ih _ _ _ _ _ _ _ _ _ _ w (lv_sub hl [0, 1, 2, 3] rfl) hf
                                                        · rw [if_neg c271] at hf
                                                          by_cases c277 : ((xs (v3).toNatClampNeg) &&& (31 : Int32)) = 26
                                                          · rw [if_pos c277] at hf
                                                            refine lv_tableIn (off := 846) (tgt := 878) C.1 C.2.1 dL_law_32 (by rw [c277]; decide) (by rw [c277]; decide) (by rw [c277]; rfl) (by decide) ?_
                                                            refine lv_aload_n C.1 C.2.1 dL_law_878 rfl (lv_at hl 1 rfl) ?_
                                                            refine lv_aload_n C.1 C.2.1 dL_law_879 rfl (lv_at hl 0 rfl) ?_
                                                            refine lv_iload_n C.1 C.2.1 dL_law_880 rfl (lv_at hl 3 rfl) ?_
                                                            refine lv_iconst (v := 1) C.1 C.2.1 dL_law_881 (by decide) ?_
                                                            refine lv_iadd C.1 C.2.1 dL_law_882 ?_
                                                            obtain ⟨i278, hf⟩ := ck_e hf
                                                            refine va_sld C.1 C.2.1 hX hbl hbA w.2 (inb_in i278) dL_law_883 ?_
                                                            refine lv_i2l (v := ((xs ((v3 + (1 : Int32))).toNatClampNeg)).toInt64) C.1 C.2.1 dL_law_884 rfl ?_
                                                            refine lv_bipush (v := 32) C.1 C.2.1 dL_law_885 (by decide) ?_
                                                            refine lv_lshl (v := ((((xs ((v3 + (1 : Int32))).toNatClampNeg)).toInt64) <<< (((32 : Int32)).toInt64 &&& 63))) C.1 C.2.1 dL_law_887 rfl ?_
                                                            refine lv_aload_n C.1 C.2.1 dL_law_888 rfl (lv_at hl 0 rfl) ?_
                                                            refine lv_iload_n C.1 C.2.1 dL_law_889 rfl (lv_at hl 3 rfl) ?_
                                                            refine lv_iconst (v := 2) C.1 C.2.1 dL_law_890 (by decide) ?_
                                                            refine lv_iadd C.1 C.2.1 dL_law_891 ?_
                                                            obtain ⟨i279, hf⟩ := ck_e hf
                                                            refine va_sld C.1 C.2.1 hX hbl hbA w.2 (inb_in i279) dL_law_892 ?_
                                                            refine lv_i2l (v := ((xs ((v3 + (2 : Int32))).toNatClampNeg)).toInt64) C.1 C.2.1 dL_law_893 rfl ?_
                                                            refine lv_ldc2 (v := 4294967295) C.1 C.2.1 C.2.2.2.1 (C.2.2.2.2 _ wd_constantLong_OneTricycleLaw_124_4294967295_Int64_) dL_law_894 ?_
                                                            refine lv_land C.1 C.2.1 dL_law_897 ?_
                                                            refine lv_lor C.1 C.2.1 dL_law_898 ?_
                                                            obtain ⟨r281, g283, eq280, hf⟩ := bi2_e hf
                                                            refine x_cVl (As := [.long ((((((xs ((v3 + (1 : Int32))).toNatClampNeg)).toInt64) <<< (((32 : Int32)).toInt64 &&& 63))) ||| ((((xs ((v3 + (2 : Int32))).toNatClampNeg)).toInt64) &&& (4294967295 : Int64)))]) (rest := []) C X w (c_X6_seed hI eq280) mw_X6_seed ml_L_126 rcv_r18 rfl hl.1 rfl (Nat.le_of_ble_eq_true rfl) ⟨⟨Nat.le_of_ble_eq_true rfl, Nat.le_of_ble_eq_true rfl⟩, Nat.le_of_ble_eq_true rfl, Nat.le_of_ble_eq_true rfl⟩ dL_law_899 (fun H locs w => ?_)
                                                            refine lv_aload_n C.1 C.2.1 dL_law_902 rfl (lv_at hl 2 rfl) ?_
                                                            refine lv_aload_n C.1 C.2.1 dL_law_903 rfl (lv_at hl 0 rfl) ?_
                                                            refine lv_iload_n C.1 C.2.1 dL_law_904 rfl (lv_at hl 3 rfl) ?_
                                                            refine lv_iconst (v := 1) C.1 C.2.1 dL_law_905 (by decide) ?_
                                                            refine lv_iadd C.1 C.2.1 dL_law_906 ?_
                                                            obtain ⟨i284, hf⟩ := ck_e hf
                                                            refine va_sld C.1 C.2.1 hX hbl hbA w.2 (inb_in i284) dL_law_907 ?_
                                                            refine lv_i2l (v := ((xs ((v3 + (1 : Int32))).toNatClampNeg)).toInt64) C.1 C.2.1 dL_law_908 rfl ?_
                                                            refine lv_bipush (v := 32) C.1 C.2.1 dL_law_909 (by decide) ?_
                                                            refine lv_lshl (v := ((((xs ((v3 + (1 : Int32))).toNatClampNeg)).toInt64) <<< (((32 : Int32)).toInt64 &&& 63))) C.1 C.2.1 dL_law_911 rfl ?_
                                                            refine lv_aload_n C.1 C.2.1 dL_law_912 rfl (lv_at hl 0 rfl) ?_
                                                            refine lv_iload_n C.1 C.2.1 dL_law_913 rfl (lv_at hl 3 rfl) ?_
                                                            refine lv_iconst (v := 2) C.1 C.2.1 dL_law_914 (by decide) ?_
                                                            refine lv_iadd C.1 C.2.1 dL_law_915 ?_
                                                            obtain ⟨i285, hf⟩ := ck_e hf
                                                            refine va_sld C.1 C.2.1 hX hbl hbA w.2 (inb_in i285) dL_law_916 ?_
                                                            refine lv_i2l (v := ((xs ((v3 + (2 : Int32))).toNatClampNeg)).toInt64) C.1 C.2.1 dL_law_917 rfl ?_
                                                            refine lv_ldc2 (v := 4294967295) C.1 C.2.1 C.2.2.2.1 (C.2.2.2.2 _ wd_constantLong_OneTricycleLaw_124_4294967295_Int64_) dL_law_918 ?_
                                                            refine lv_land C.1 C.2.1 dL_law_921 ?_
                                                            refine lv_lor C.1 C.2.1 dL_law_922 ?_
                                                            obtain ⟨r287, h288, g289, eq286, hf⟩ := bi3_e hf
                                                            refine x_cVl (As := [.long ((((((xs ((v3 + (1 : Int32))).toNatClampNeg)).toInt64) <<< (((32 : Int32)).toInt64 &&& 63))) ||| ((((xs ((v3 + (2 : Int32))).toNatClampNeg)).toInt64) &&& (4294967295 : Int64)))]) (rest := [.long r281]) C X w (c_X7_seed hI eq286) mw_X7_seed ml_L_130 rcv_r33 rfl hl.1 rfl (Nat.le_of_ble_eq_true rfl) ⟨⟨Nat.le_of_ble_eq_true rfl, Nat.le_of_ble_eq_true rfl⟩, Nat.le_of_ble_eq_true rfl, Nat.le_of_ble_eq_true rfl⟩ dL_law_923 (fun H locs w => ?_)
                                                            refine W.lcmp C.1 C.2.1 dL_law_926 ?_
                                                            refine lv_if_eq (tgt := 1001) C.1 C.2.1 dL_law_927 (by decide) (fun c290 => ?_) (fun c290 => ?_)
                                                            · rw [if_pos c290] at hf
                                                              exact w_L_law_1001 C hr hlk X hI hA hX hbl hbA ih _ _ _ _ _ _ w (lv_sub hl [0, 1, 2, 3] rfl) hf
                                                            · rw [if_neg c290] at hf
                                                              refine lv_iconst (v := 0) C.1 C.2.1 dL_law_930 (by decide) ?_
                                                              cases hf
                                                          · rw [if_neg c277] at hf
                                                            by_cases c291 : ((xs (v3).toNatClampNeg) &&& (31 : Int32)) = 27
                                                            · rw [if_pos c291] at hf
                                                              refine lv_tableIn (off := 900) (tgt := 932) C.1 C.2.1 dL_law_32 (by rw [c291]; decide) (by rw [c291]; decide) (by rw [c291]; rfl) (by decide) ?_
                                                              refine lv_aload_n C.1 C.2.1 dL_law_932 rfl (lv_at hl 1 rfl) ?_
                                                              refine lv_aload_n C.1 C.2.1 dL_law_933 rfl (lv_at hl 0 rfl) ?_
                                                              refine lv_iload_n C.1 C.2.1 dL_law_934 rfl (lv_at hl 3 rfl) ?_
                                                              refine lv_iconst (v := 1) C.1 C.2.1 dL_law_935 (by decide) ?_
                                                              refine lv_iadd C.1 C.2.1 dL_law_936 ?_
                                                              obtain ⟨i292, hf⟩ := ck_e hf
                                                              refine va_sld C.1 C.2.1 hX hbl hbA w.2 (inb_in i292) dL_law_937 ?_
                                                              obtain ⟨r294, h295, g296, eq293, hf⟩ := bi3_e hf
                                                              refine x_cVi (As := [.int (xs ((v3 + (1 : Int32))).toNatClampNeg)]) (rest := []) C X w (c_X6_days hI eq293) mw_X6_days ml_L_131 rcv_r18 rfl hl.1 rfl (Nat.le_of_ble_eq_true rfl) ⟨⟨Nat.le_of_ble_eq_true rfl, Nat.le_of_ble_eq_true rfl⟩, Nat.le_of_ble_eq_true rfl, Nat.le_of_ble_eq_true rfl⟩ dL_law_938 (fun H locs w => ?_)
                                                              refine lv_aload_n C.1 C.2.1 dL_law_941 rfl (lv_at hl 2 rfl) ?_
                                                              refine lv_aload_n C.1 C.2.1 dL_law_942 rfl (lv_at hl 0 rfl) ?_
                                                              refine lv_iload_n C.1 C.2.1 dL_law_943 rfl (lv_at hl 3 rfl) ?_
                                                              refine lv_iconst (v := 1) C.1 C.2.1 dL_law_944 (by decide) ?_
                                                              refine lv_iadd C.1 C.2.1 dL_law_945 ?_
                                                              obtain ⟨i297, hf⟩ := ck_e hf
                                                              refine va_sld C.1 C.2.1 hX hbl hbA w.2 (inb_in i297) dL_law_946 ?_
                                                              obtain ⟨r299, h300, g301, eq298, hf⟩ := bi3_e hf
                                                              refine x_cVi (As := [.int (xs ((v3 + (1 : Int32))).toNatClampNeg)]) (rest := [.int r294]) C X w (c_X7_days hI eq298) mw_X7_days ml_L_134 rcv_r33 rfl hl.1 rfl (Nat.le_of_ble_eq_true rfl) ⟨⟨Nat.le_of_ble_eq_true rfl, Nat.le_of_ble_eq_true rfl⟩, Nat.le_of_ble_eq_true rfl, Nat.le_of_ble_eq_true rfl⟩ dL_law_947 (fun H locs w => ?_)
                                                              refine lv_icmp_eq (tgt := 1001) C.1 C.2.1 dL_law_950 (by decide) (fun c302 => ?_) (fun c302 => ?_)
                                                              · rw [if_pos c302] at hf
                                                                exact w_L_law_1001 C hr hlk X hI hA hX hbl hbA ih _ _ _ _ _ _ w (lv_sub hl [0, 1, 2, 3] rfl) hf
                                                              · rw [if_neg c302] at hf
                                                                refine lv_iconst (v := 0) C.1 C.2.1 dL_law_953 (by decide) ?_
                                                                cases hf
                                                            · rw [if_neg c291] at hf
                                                              by_cases c303 : ((xs (v3).toNatClampNeg) &&& (31 : Int32)) = 28
                                                              · rw [if_pos c303] at hf
                                                                refine lv_tableIn (off := 923) (tgt := 955) C.1 C.2.1 dL_law_32 (by rw [c303]; decide) (by rw [c303]; decide) (by rw [c303]; rfl) (by decide) ?_
                                                                refine lv_aload_n C.1 C.2.1 dL_law_955 rfl (lv_at hl 1 rfl) ?_
                                                                refine lv_aload_n C.1 C.2.1 dL_law_956 rfl (lv_at hl 0 rfl) ?_
                                                                refine lv_iload_n C.1 C.2.1 dL_law_957 rfl (lv_at hl 3 rfl) ?_
                                                                refine lv_iconst (v := 1) C.1 C.2.1 dL_law_958 (by decide) ?_
                                                                refine lv_iadd C.1 C.2.1 dL_law_959 ?_
                                                                obtain ⟨i304, hf⟩ := ck_e hf
                                                                refine va_sld C.1 C.2.1 hX hbl hbA w.2 (inb_in i304) dL_law_960 ?_
                                                                obtain ⟨r306, h307, eq305, hf⟩ := bi2_e hf
                                                                refine x_cVi (As := [.int (xs ((v3 + (1 : Int32))).toNatClampNeg)]) (rest := []) C X w (c_X6_keep hI eq305) mw_X6_keep ml_L_135 rcv_r18 rfl hl.1 rfl (Nat.le_of_ble_eq_true rfl) ⟨⟨Nat.le_of_ble_eq_true rfl, Nat.le_of_ble_eq_true rfl⟩, Nat.le_of_ble_eq_true rfl, Nat.le_of_ble_eq_true rfl⟩ dL_law_961 (fun H locs w => ?_)
                                                                refine lv_aload_n C.1 C.2.1 dL_law_964 rfl (lv_at hl 2 rfl) ?_
                                                                refine lv_aload_n C.1 C.2.1 dL_law_965 rfl (lv_at hl 0 rfl) ?_
                                                                refine lv_iload_n C.1 C.2.1 dL_law_966 rfl (lv_at hl 3 rfl) ?_
                                                                refine lv_iconst (v := 1) C.1 C.2.1 dL_law_967 (by decide) ?_
                                                                refine lv_iadd C.1 C.2.1 dL_law_968 ?_
                                                                obtain ⟨i308, hf⟩ := ck_e hf
                                                                refine va_sld C.1 C.2.1 hX hbl hbA w.2 (inb_in i308) dL_law_969 ?_
                                                                obtain ⟨r310, h311, eq309, hf⟩ := bi2_e hf
                                                                refine x_cVi (As := [.int (xs ((v3 + (1 : Int32))).toNatClampNeg)]) (rest := [.int r306]) C X w (c_X7_keep hI eq309) mw_X7_keep ml_L_138 rcv_r33 rfl hl.1 rfl (Nat.le_of_ble_eq_true rfl) ⟨⟨Nat.le_of_ble_eq_true rfl, Nat.le_of_ble_eq_true rfl⟩, Nat.le_of_ble_eq_true rfl, Nat.le_of_ble_eq_true rfl⟩ dL_law_970 (fun H locs w => ?_)
                                                                refine lv_icmp_eq (tgt := 1001) C.1 C.2.1 dL_law_973 (by decide) (fun c312 => ?_) (fun c312 => ?_)
                                                                · rw [if_pos c312] at hf
                                                                  exact w_L_law_1001 C hr hlk X hI hA hX hbl hbA ih _ _ _ _ _ _ w (lv_sub hl [0, 1, 2, 3] rfl) hf
                                                                · rw [if_neg c312] at hf
                                                                  refine lv_iconst (v := 0) C.1 C.2.1 dL_law_976 (by decide) ?_
                                                                  cases hf
                                                              · rw [if_neg c303] at hf
                                                                by_cases c313 : ((xs (v3).toNatClampNeg) &&& (31 : Int32)) = 29
                                                                · rw [if_pos c313] at hf
                                                                  refine lv_tableIn (off := 946) (tgt := 978) C.1 C.2.1 dL_law_32 (by rw [c313]; decide) (by rw [c313]; decide) (by rw [c313]; rfl) (by decide) ?_
                                                                  refine lv_aload_n C.1 C.2.1 dL_law_978 rfl (lv_at hl 1 rfl) ?_
                                                                  refine lv_aload_n C.1 C.2.1 dL_law_979 rfl (lv_at hl 0 rfl) ?_
                                                                  refine lv_iload_n C.1 C.2.1 dL_law_980 rfl (lv_at hl 3 rfl) ?_
                                                                  refine lv_iconst (v := 1) C.1 C.2.1 dL_law_981 (by decide) ?_
                                                                  refine lv_iadd C.1 C.2.1 dL_law_982 ?_
                                                                  obtain ⟨i314, hf⟩ := ck_e hf
                                                                  refine va_sld C.1 C.2.1 hX hbl hbA w.2 (inb_in i314) dL_law_983 ?_
                                                                  obtain ⟨r316, h317, eq315, hf⟩ := bi2_e hf
                                                                  refine x_cVi (As := [.int (xs ((v3 + (1 : Int32))).toNatClampNeg)]) (rest := []) C X w (c_X6_again hI eq315) mw_X6_again ml_L_139 rcv_r18 rfl hl.1 rfl (Nat.le_of_ble_eq_true rfl) ⟨⟨Nat.le_of_ble_eq_true rfl, Nat.le_of_ble_eq_true rfl⟩, Nat.le_of_ble_eq_true rfl, Nat.le_of_ble_eq_true rfl⟩ dL_law_984 (fun H locs w => ?_)
                                                                  refine lv_aload_n C.1 C.2.1 dL_law_987 rfl (lv_at hl 2 rfl) ?_
                                                                  refine lv_aload_n C.1 C.2.1 dL_law_988 rfl (lv_at hl 0 rfl) ?_
                                                                  refine lv_iload_n C.1 C.2.1 dL_law_989 rfl (lv_at hl 3 rfl) ?_
                                                                  refine lv_iconst (v := 1) C.1 C.2.1 dL_law_990 (by decide) ?_
                                                                  refine lv_iadd C.1 C.2.1 dL_law_991 ?_
                                                                  obtain ⟨i318, hf⟩ := ck_e hf
                                                                  refine va_sld C.1 C.2.1 hX hbl hbA w.2 (inb_in i318) dL_law_992 ?_
                                                                  obtain ⟨r320, h321, eq319, hf⟩ := bi2_e hf
                                                                  refine x_cVi (As := [.int (xs ((v3 + (1 : Int32))).toNatClampNeg)]) (rest := [.int r316]) C X w (c_X7_again hI eq319) mw_X7_again ml_L_142 rcv_r33 rfl hl.1 rfl (Nat.le_of_ble_eq_true rfl) ⟨⟨Nat.le_of_ble_eq_true rfl, Nat.le_of_ble_eq_true rfl⟩, Nat.le_of_ble_eq_true rfl, Nat.le_of_ble_eq_true rfl⟩ dL_law_993 (fun H locs w => ?_)
                                                                  refine lv_icmp_eq (tgt := 1001) C.1 C.2.1 dL_law_996 (by decide) (fun c322 => ?_) (fun c322 => ?_)
                                                                  · rw [if_pos c322] at hf
                                                                    exact w_L_law_1001 C hr hlk X hI hA hX hbl hbA ih _ _ _ _ _ _ w (lv_sub hl [0, 1, 2, 3] rfl) hf
                                                                  · rw [if_neg c322] at hf
                                                                    refine lv_iconst (v := 0) C.1 C.2.1 dL_law_999 (by decide) ?_
                                                                    cases hf
                                                                · rw [if_neg c313] at hf
                                                                  have c23n := ti_ne c23 (show (0 : Int32).toInt = 0 by decide)
                                                                  have c33n := ti_ne c33 (show (1 : Int32).toInt = 1 by decide)
                                                                  have c41n := ti_ne c41 (show (2 : Int32).toInt = 2 by decide)
                                                                  have c48n := ti_ne c48 (show (3 : Int32).toInt = 3 by decide)
                                                                  have c56n := ti_ne c56 (show (4 : Int32).toInt = 4 by decide)
                                                                  have c65n := ti_ne c65 (show (5 : Int32).toInt = 5 by decide)
                                                                  have c76n := ti_ne c76 (show (6 : Int32).toInt = 6 by decide)
                                                                  have c84n := ti_ne c84 (show (7 : Int32).toInt = 7 by decide)
                                                                  have c96n := ti_ne c96 (show (8 : Int32).toInt = 8 by decide)
                                                                  have c106n := ti_ne c106 (show (9 : Int32).toInt = 9 by decide)
                                                                  have c116n := ti_ne c116 (show (10 : Int32).toInt = 10 by decide)
                                                                  have c128n := ti_ne c128 (show (11 : Int32).toInt = 11 by decide)
                                                                  have c136n := ti_ne c136 (show (12 : Int32).toInt = 12 by decide)
                                                                  have c144n := ti_ne c144 (show (13 : Int32).toInt = 13 by decide)
                                                                  have c156n := ti_ne c156 (show (14 : Int32).toInt = 14 by decide)
                                                                  have c172n := ti_ne c172 (show (15 : Int32).toInt = 15 by decide)
                                                                  have c184n := ti_ne c184 (show (16 : Int32).toInt = 16 by decide)
                                                                  have c194n := ti_ne c194 (show (17 : Int32).toInt = 17 by decide)
                                                                  have c204n := ti_ne c204 (show (18 : Int32).toInt = 18 by decide)
                                                                  have c214n := ti_ne c214 (show (19 : Int32).toInt = 19 by decide)
                                                                  have c226n := ti_ne c226 (show (20 : Int32).toInt = 20 by decide)
                                                                  have c230n := ti_ne c230 (show (21 : Int32).toInt = 21 by decide)
                                                                  have c242n := ti_ne c242 (show (22 : Int32).toInt = 22 by decide)
                                                                  have c250n := ti_ne c250 (show (23 : Int32).toInt = 23 by decide)
                                                                  have c258n := ti_ne c258 (show (24 : Int32).toInt = 24 by decide)
                                                                  have c271n := ti_ne c271 (show (25 : Int32).toInt = 25 by decide)
                                                                  have c277n := ti_ne c277 (show (26 : Int32).toInt = 26 by decide)
                                                                  have c291n := ti_ne c291 (show (27 : Int32).toInt = 27 by decide)
                                                                  have c303n := ti_ne c303 (show (28 : Int32).toInt = 28 by decide)
                                                                  have c313n := ti_ne c313 (show (29 : Int32).toInt = 29 by decide)
                                                                  refine lv_tableOut (tgt := 1001) C.1 C.2.1 dL_law_32 (by omega) (by decide) ?_
                                                                  exact w_L_law_1001 C hr hlk X hI hA hX hbl hbA ih _ _ _ _ _ _ w (lv_sub hl [0, 1, 2, 3] rfl) hf
