/-! constructors: a world is a list of cells; a constructor has its own cell, and gives a list -/
def KX (E : Ev) (U : State) : Prop := va_K E.1 vwCl (tysL E) U ∧ NW U ∧ va_AO "OneTricycle$Play" U
theorem KX.warm {E : Ev} {s U : State} (hW : s.WarmedH U.vm) (h : KX E s) : KX E U := ⟨va_K.moved hW.alike h.1, h.2.1.warm hW, h.2.2.moved hW.alike⟩
def PcN (E : Ev) (c0 : Nat × va_E) (sz : Nat) (av : List Value) : Array Value → State → Prop := va_Pc av (fun U => KX E U ∧ U.heap.size = sz ∧ va_P E.1 vwCl [c0] U.heap)
def QcN {S : Type} (E : Ev) (c0 : Nat × va_E) (sz : Nat) (Wf : S → va_W) : Array Value → State → Outcome → State → Prop := va_Qv (fun (_ : S) => True) (fun u t => va_P E.1 vwCl (Wf u) t.heap ∧ va_D (va_A [c0] sz) (Wf u)) (va_A [c0] sz)
def RN (f mc ms nl : Nat) : Room := { frames := f, cells := mc, slots := ms, locals := nl }
def CtN {S : Type} (l : Launch) (y : MethodName) (bytes : ByteArray) (maxL f mc ms nl : Nat) (E : Ev) (c0 : Nat × va_E) (sz : Nat) (av : List Value) (Wf : S → va_W) : Prop := Met l y (WS y bytes maxL none) (RN f mc ms nl) (PcN E c0 sz av) (QcN E c0 sz Wf) mc ms (va_A [c0] sz)
theorem PcN_blind {E : Ev} {c0 : Nat × va_E} {sz : Nat} {av : List Value} : FrameBlind (PcN E c0 sz av) := fun a U g mk q => ⟨q.1, ⟨va_K.moved (u := U) (U := U.calling g mk a) (Vm.Alike.refl U.vm) q.2.1.1, NW.same (U := U.calling g mk a) rfl q.2.1.2.1, q.2.1.2.2.moved (U := U.calling g mk a) (Vm.Alike.refl U.vm)⟩, q.2.2⟩
theorem va_D_last {A : Nat → Prop} {ws : va_W} {c0 : Nat × va_E} (h : va_D A (ws ++ [c0])) : ws.length < (ws ++ [c0]).length ∧ (ws ++ [c0])[ws.length]? = some c0 := ⟨by simp, by simp⟩
theorem map_range_some : ∀ (ws rest : va_W), (List.range ws.length).map (fun i => (ws ++ rest)[i]?) = ws.map some := by
  intro ws rest
  apply List.ext_getElem?
  intro i
  by_cases hi : i < ws.length
  · rw [List.getElem?_map, List.getElem?_range hi, List.getElem?_map]
    simp [List.getElem?_append_left hi, List.getElem?_eq_getElem hi]
  · rw [List.getElem?_eq_none (by simp; omega), List.getElem?_eq_none (by simp; omega)]
theorem nd_range : ∀ (n : Nat), va_nd (List.range n) = true := by
  have key : ∀ (l : List Nat), l.Nodup → va_nd l = true := by
    intro l
    induction l with
    | nil => intro _; rfl
    | cons a l ih =>
      intro h
      rw [List.nodup_cons] at h
      show (decide (a ∉ l) && va_nd l) = true
      rw [ih h.2, Bool.and_true]
      exact decide_eq_true h.1
  exact fun n => key _ List.nodup_range
/-- the frame: what a constructor gives stands beside what was there -/
theorem join_last {A0 : Nat → Prop} {E : Ev} {ws w1 : va_W} {c0 : Nat × va_E} {H H1 : Heap} (hP : va_P E.1 vwCl (ws ++ [c0]) H) (hD : va_D A0 (ws ++ [c0])) (hk : ∀ q : Nat, q < H.size → ¬ va_A [c0] H.size q → H1[q]? = H[q]?) (hF : ∀ q, va_A [c0] H.size q → A0 q) (hP1 : va_P E.1 vwCl w1 H1) (hD1 : va_D (va_A [c0] H.size) w1) : va_P E.1 vwCl (ws ++ w1) H1 ∧ va_D A0 (ws ++ w1) :=
  va_join (wc := [c0]) (wr := ws) hP hD [ws.length] (List.range ws.length) (by simp) (map_range_some ws [c0]) (nd_range _) (fun i hi h => by rw [List.mem_singleton] at h; rw [List.mem_range] at hi; omega) hk hF hP1 hD1
section NX
variable {p : Program} {l : Launch} {e : Env} {R : Room} {s : State} {m : MethodId} {args : Array Value} {below : List Frame} {meth : Method} {c : Code} {H : Heap} {locs : List Loc} {cells slots : Nat} {Q : State → Prop} {cc : ByteArray} {pc nL : Nat} {ls : Array Slot} {rest : List Value} {E : Ev} {own : String}
variable {y : MethodName} {bytes : ByteArray} {maxL n index f mc ms nl : Nat} {host : String} {As st0 : List Value} {A : Nat → Prop} {ws : va_W} {q : Nat} {e0 : va_E}
theorem x_init0 {S : Type} {Wf : S → va_W} (X : KX E s) (hP : va_P E.1 vwCl (ws ++ [(q, e0)]) H) (hD : va_D A (ws ++ [(q, e0)])) (hS : va_S A s.heap H locs) (hA : ∀ q, s.heap.size ≤ q → A q) {av : Array Value} (hr : va_Run p l e R s m args below meth c H locs cells slots mc ms (F0 m pc ls st0) rest (QcN E (q, e0) H.size Wf av) (va_A [(q, e0)] H.size))
    (kk : ∀ (u : S) (H : Heap) (locs : List Loc), va_P E.1 vwCl (ws ++ Wf u) H → va_D A (ws ++ Wf u) → va_S A s.heap H locs → W p l e R s m args below meth c H locs (cells + mc) (slots + ms) Q (F0 m (pc + 3) ls rest)) : W p l e R s m args below meth c H locs cells slots Q (F0 m pc ls st0) := by
  have hF : ∀ x, va_A [(q, e0)] H.size x → A x := by
    intro x hx
    rcases hx with ⟨k, e, h⟩ | h
    · have hk : k = 0 := by
        cases k with
        | zero => rfl
        | succ k => simp at h
      subst hk
      have h2 : (q, e0) = (x, e) := by simpa using h
      cases h2
      exact hD.2 ws.length (q, e0) (va_D_last hD).2
    · exact hA x (Nat.le_trans hS.1 h)
  refine va_callv hr hS (fun x _ h => hF x h) hF (fun u t H1 locs1 ht hvm _ hB _ hk hS1 => ?_)
  obtain ⟨hP1, hD1⟩ := hB
  rw [ht] at hP1
  obtain ⟨hP2, hD2⟩ := join_last hP hD hk hF hP1 hD1
  exact kk u H1 locs1 hP2 hD2 hS1
theorem PcN_pre (X : KX E s) (hP : va_P E.1 vwCl (ws ++ [(q, e0)]) H) (av : List Value) : PreS s H (PcN E (q, e0) H.size av) av := by
  refine ⟨PcN_blind, fun U hU hW => ⟨rfl, X.warm hW, by rw [hU], ?_⟩⟩
  rw [hU]
  intro k x hk
  have h0 : k = 0 := by
    cases k with
    | zero => rfl
    | succ k => simp at hk
  subst h0
  have hx : (q, e0) = x := by simpa using hk
  subst hx
  exact hP ws.length _ (by simp)
theorem x_init {S : Type} {Wf : S → va_W} (C : CallFix p m c cc nL s args lwA own) (X : KX E s) (hP : va_P E.1 vwCl (ws ++ [(q, e0)]) H) (hD : va_D A (ws ++ [(q, e0)])) (hS : va_S A s.heap H locs) (hA : ∀ q, s.heap.size ≤ q → A q) (hM : CtN l y bytes maxL f mc ms nl E (q, e0) H.size (.ref q :: As) Wf) (hw : MwY y bytes maxL none n) (hi : Cond.instanceMethod y ∈ lwA) (hnm : y.name = "<init>") (hl : Cond.methodLink own index y ∈ lwA) (hn : As.length = n) (hz : ls.size = nL) (hst : st0 = As.reverse ++ .ref q :: rest) (hW : (rest.map fun v => v.category).sum ≤ 8) (hR : (f + 1 ≤ R.frames ∧ 8 + (maxL + 11) + nl ≤ R.locals) ∧ cells + mc ≤ R.cells ∧ slots + ms ≤ R.slots) (hdg : decode cc pc = .ok (.invokespecial index, 3))
    (kk : ∀ (u : S) (H : Heap) (locs : List Loc), va_P E.1 vwCl (ws ++ Wf u) H → va_D A (ws ++ Wf u) → va_S A s.heap H locs → W p l e R s m args below meth c H locs (cells + mc) (slots + ms) Q (F0 m (pc + 3) ls rest)) : W p l e R s m args below meth c H locs cells slots Q (F0 m pc ls st0) :=
  x_init0 X hP hD hS hA (va_runI (As := As) (rest := rest) C hM ⟨callB_of n C.2.2.2.2 (good_ws hw.1) rfl rfl rfl (C.2.2.2.2 _ hw.2.1) (C.2.2.2.2 _ hl) hw.2.2 hR.1, hnm, C.2.2.2.2 _ hi⟩ (PcN_pre X hP _) rfl hn hz hst (lv_room hW) hdg hR.2) kk
theorem x_initN {S : Type} {Wf : S → va_W} (C : CallFix p m c cc nL s args lwA own) (X : KX E s) (hP : va_P E.1 vwCl (ws ++ [(q, e0)]) H) (hD : va_D A (ws ++ [(q, e0)])) (hS : va_S A s.heap H locs) (hA : ∀ q, s.heap.size ≤ q → A q) (hM : CtN l y bytes maxL f mc ms nl E (q, e0) H.size (.ref q :: As) Wf) (hw : MwY y bytes maxL none n) (hi : Cond.instanceMethod y ∈ lwA) (hnm : y.name = "<init>") (hl : (own, index, y, host) ∈ nestM) (hn : As.length = n) (hz : ls.size = nL) (hst : st0 = As.reverse ++ .ref q :: rest) (hW : (rest.map fun v => v.category).sum ≤ 8) (hR : (f + 1 ≤ R.frames ∧ 8 + (maxL + 11) + nl ≤ R.locals) ∧ cells + mc ≤ R.cells ∧ slots + ms ≤ R.slots) (hdg : decode cc pc = .ok (.invokespecial index, 3))
    (kk : ∀ (u : S) (H : Heap) (locs : List Loc), va_P E.1 vwCl (ws ++ Wf u) H → va_D A (ws ++ Wf u) → va_S A s.heap H locs → W p l e R s m args below meth c H locs (cells + mc) (slots + ms) Q (F0 m (pc + 3) ls rest)) : W p l e R s m args below meth c H locs cells slots Q (F0 m pc ls st0) :=
  x_init0 X hP hD hS hA (va_runIN (As := As) (rest := rest) C hM ⟨va_cnB n C.2.2.2.2 (good_ws hw.1) rfl rfl rfl (X.2.1.2 _ hl) (C.2.2.2.2 _ hw.2.1) hw.2.2 hR.1, hnm, C.2.2.2.2 _ hi⟩ (PcN_pre X hP _) rfl hn hz hst (lv_room hW) hdg hR.2) kk
theorem x_nret {S : Type} {Wf : S → va_W} {c0 : Nat × va_E} {sz : Nat} {w : va_W} (u : S) (C : CallFix p m c cc nL s args lwA own) (hr : meth.sig.returnType = none) (hlk : meth.locks = false) (hP : va_P E.1 vwCl w H) (hD : va_D (va_A [c0] sz) w) (hS : va_S (va_A [c0] sz) s.heap H locs) (hw : w = Wf u) (hdg : decode cc pc = .ok (.return_, 1)) : W p l e R s m args below meth c H locs cells slots (MQ below (QcN E c0 sz Wf) args s cells slots (va_A [c0] sz)) (F0 m pc ls []) := by
  subst hw
  exact W.vret C.1 C.2.1 hr (fun t ht _ => ⟨⟨u, rfl, trivial, by subst ht; exact hP, hD⟩, hS.F ht⟩) hS.2.2 hdg hlk
end NX
theorem x_beginN {S : Type} {Wf : S → va_W} {l : Launch} {y : MethodName} {cc : ByteArray} {maxL f mc ms nl : Nat} {E : Ev} {q sz : Nat} {e0 : va_E} {As : List Value} (hy : plainName y.cls = true) (hs : (lg_sl (.ref q :: As)).length ≤ maxL)
    (body : ∀ p e s m below meth c ls, CallFix p m c cc maxL s (Value.ref q :: As).toArray lwA y.cls → meth.sig.returnType = none → meth.locks = false → meth.name = y.name → KX E s → va_P E.1 vwCl [(q, e0)] s.heap → va_D (va_A [(q, e0)] s.heap.size) [(q, e0)] → (∀ x, s.heap.size ≤ x → va_A [(q, e0)] s.heap.size x) → va_S (va_A [(q, e0)] s.heap.size) s.heap s.heap [] → lv_has ls maxL (lv_args 0 (.ref q :: As)) → W p l e (RN f mc ms nl) s m (Value.ref q :: As).toArray below meth c s.heap [] 0 0 (MQ below (QcN E (q, e0) s.heap.size Wf) (Value.ref q :: As).toArray s mc ms (va_A [(q, e0)] s.heap.size)) (F0 m 0 ls [])) : CtN l y cc maxL f mc ms nl E (q, e0) sz (.ref q :: As) Wf := by
  refine Met.ofW (cc := cc) (maxL := maxL) (ret := none) hy rfl ?_
  intro p e s m args below meth c s₁ B hml hv
  obtain ⟨rfl, X, hsz, hP⟩ := hv
  subst hsz
  have hts := atoms_spec (ws := WS y cc maxL none) B.pre
  have hown : s.vm.findClass y.cls = some m.cls := findClass_of_methodNamed B.named
  have hin : meth.name = y.name := (name_of_methodNamed B.named B.method).1
  have hl := lv_entry (.ref q :: As) (n := maxL) hs
  rw [lg_entry_eq]
  generalize (lg_sl (.ref q :: As) ++ List.replicate (maxL - (lg_sl (.ref q :: As)).length) Slot.unset).toArray = ls at hl ⊢
  have hD : va_D (fun _ => True) [(q, e0)] := ⟨fun i j a b h1 h2 _ => by
    cases i with
    | zero =>
      cases j with
      | zero => rfl
      | succ j => simp at h2
    | succ i => simp at h1, fun _ _ _ => trivial⟩
  exact body p e s m below meth c ls ⟨B.exec, B.bytes, hml, hown, fun w hw => hts w (List.mem_cons_of_mem _ hw)⟩ B.returns B.notSynchronized hin X hP (hD.self) (fun x h => Or.inr h) va_S.rf hl
/-- an array's program is the one that the tables name -/
theorem arr_same {E : Ev} {s : State} {cA : ClassId} (X : KX E s) (hK : va_K E.1 vwCl (tysL E ++ [(cA, .int)]) s) : cA = E.2.1 := by
  have h1 := (X.1.2 0 (E.2.1, .int) rfl).2
  have h2 := (hK.2 3 (cA, .int) rfl).2
  exact (Option.some.inj (h1.symm.trans h2)).symm
theorem arr_sameZ {E : Ev} {s : State} {cA : ClassId} (X : KX E s) (hK : va_K E.1 vwCl (tysL E ++ [(cA, .boolean)]) s) : cA = E.2.2.1 := by
  have h1 := (X.1.2 1 (E.2.2.1, .boolean) rfl).2
  have h2 := (hK.2 3 (cA, .boolean) rfl).2
  exact (Option.some.inj (h1.symm.trans h2)).symm
theorem arr_sameP {E : Ev} {s : State} {cA : ClassId} (X : KX E s) (hK : va_K E.1 vwCl (tysL E ++ [(cA, .object "OneTricycle$Play")]) s) : cA = E.2.2.2 := by
  obtain ⟨_, _, _, _, _, h1⟩ := (X.1.2 2 (E.2.2.2, .object "OneTricycle$Play") rfl).2
  obtain ⟨_, _, _, _, _, h2⟩ := (hK.2 3 (cA, .object "OneTricycle$Play") rfl).2
  exact (Option.some.inj (h1.symm.trans h2)).symm
