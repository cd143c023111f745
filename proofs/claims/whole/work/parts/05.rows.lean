theorem wl_r18 {E : Ev} {ad : Nat → Nat} {h : Hp} {g : Gp} {R : Row} (e : h 18 = R) : (wld E ad h g)[126]? = some (ad 126, .inr (6, [.ref (ad 127), .ref (ad 129), .ref (ad 0), .ref (ad 7), .ref (ad 132), .ref (ad 134), .ref (ad 137), .ref (ad 140), .long (g 18)])) := by
  rw [show (126 : Nat) = 18 + 108 from rfl, wl_O (by decide) (by decide), e]
  rfl
theorem rcv_r18 {E : Ev} {ad : Nat → Nat} {h : Hp} {g : Gp} : Rcv E ad h g (ad 126) RX6 := ⟨126, 6, _, _, wl_r18 rfl, rfl, rfl⟩
theorem wl_r19 {E : Ev} {ad : Nat → Nat} {h : Hp} {g : Gp} {R : Row} (e : h 19 = R) : (wld E ad h g)[127]? = some (ad 127, .inr (5, [.ref (ad 128), .int (R 1)])) := by
  rw [show (127 : Nat) = 19 + 108 from rfl, wl_O (by decide) (by decide), e]
  rfl
theorem rcv_r19 {E : Ev} {ad : Nat → Nat} {h : Hp} {g : Gp} : Rcv E ad h g (ad 127) RX5 := ⟨127, 5, _, _, wl_r19 rfl, rfl, rfl⟩
theorem wl_r21 {E : Ev} {ad : Nat → Nat} {h : Hp} {g : Gp} {R : Row} (e : h 21 = R) : (wld E ad h g)[129]? = some (ad 129, .inr (1, [.int (R 0), .ref (ad 130), .ref (ad 131)])) := by
  rw [show (129 : Nat) = 21 + 108 from rfl, wl_O (by decide) (by decide), e]
  rfl
theorem rcv_r21 {E : Ev} {ad : Nat → Nat} {h : Hp} {g : Gp} : Rcv E ad h g (ad 129) RX1 := ⟨129, 1, _, _, wl_r21 rfl, rfl, rfl⟩
theorem wl_r24 {E : Ev} {ad : Nat → Nat} {h : Hp} {g : Gp} {R : Row} (e : h 24 = R) : (wld E ad h g)[132]? = some (ad 132, .inr (0, [.ref (ad 133), .int (R 1), .int (R 2)])) := by
  rw [show (132 : Nat) = 24 + 108 from rfl, wl_O (by decide) (by decide), e]
  rfl
theorem rcv_r24 {E : Ev} {ad : Nat → Nat} {h : Hp} {g : Gp} : Rcv E ad h g (ad 132) RX0 := ⟨132, 0, _, _, wl_r24 rfl, rfl, rfl⟩
theorem wl_r26 {E : Ev} {ad : Nat → Nat} {h : Hp} {g : Gp} {R : Row} (e : h 26 = R) : (wld E ad h g)[134]? = some (ad 134, .inr (4, [.ref (ad 135), .ref (ad 136)])) := by
  rw [show (134 : Nat) = 26 + 108 from rfl, wl_O (by decide) (by decide), e]
  rfl
theorem rcv_r26 {E : Ev} {ad : Nat → Nat} {h : Hp} {g : Gp} : Rcv E ad h g (ad 134) RX4 := ⟨134, 4, _, _, wl_r26 rfl, rfl, rfl⟩
theorem wl_r29 {E : Ev} {ad : Nat → Nat} {h : Hp} {g : Gp} {R : Row} (e : h 29 = R) : (wld E ad h g)[137]? = some (ad 137, .inr (3, [.ref (ad 138), .ref (ad 139), .int (R 2)])) := by
  rw [show (137 : Nat) = 29 + 108 from rfl, wl_O (by decide) (by decide), e]
  rfl
theorem rcv_r29 {E : Ev} {ad : Nat → Nat} {h : Hp} {g : Gp} : Rcv E ad h g (ad 137) RX3 := ⟨137, 3, _, _, wl_r29 rfl, rfl, rfl⟩
theorem wl_r33 {E : Ev} {ad : Nat → Nat} {h : Hp} {g : Gp} {R : Row} (e : h 33 = R) : (wld E ad h g)[141]? = some (ad 141, .inr (7, [.int (R 0), .ref (ad 142), .int (R 2), .int (R 3), .int (R 4), .ref (ad 143), .ref (ad 144), .int (R 7), .int (R 8), .int (R 9), .int (R 10), .ref (ad 145), .ref (ad 146), .ref (ad 147), .ref (ad 148), .int (R 15), .ref (ad 149), .ref (ad 150), .int (R 18), .ref (ad 151), .ref (ad 152), .long (g 33), .int (R 22), .int (R 23), .ref (ad 153), .int (R 25)])) := by
  rw [show (141 : Nat) = 33 + 108 from rfl, wl_O (by decide) (by decide), e]
  rfl
theorem rcv_r33 {E : Ev} {ad : Nat → Nat} {h : Hp} {g : Gp} : Rcv E ad h g (ad 141) RX7 := ⟨141, 7, _, _, wl_r33 rfl, rfl, rfl⟩
theorem wl_r20 {E : Ev} {ad : Nat → Nat} {h : Hp} {g : Gp} {R : Row} (e : h 20 = R) : (wld E ad h g)[128]? = some (ad 128, .inl (E.2.1, 32, .inl R)) := by
  rw [show (128 : Nat) = 20 + 108 from rfl, wl_O (by decide) (by decide), e]
  rfl
theorem ws_r20 {E : Ev} {ad : Nat → Nat} {h : Hp} {g : Gp} {P : Row} : (wld E ad h g).set 128 (ad 128, .inl (E.2.1, 32, .inl P)) = wld E ad (su h 20 P) g := wset_O (r := 20) (by decide) (by decide) rfl
theorem wl_r22 {E : Ev} {ad : Nat → Nat} {h : Hp} {g : Gp} {R : Row} (e : h 22 = R) : (wld E ad h g)[130]? = some (ad 130, .inl (E.2.1, 5, .inl R)) := by
  rw [show (130 : Nat) = 22 + 108 from rfl, wl_O (by decide) (by decide), e]
  rfl
theorem ws_r22 {E : Ev} {ad : Nat → Nat} {h : Hp} {g : Gp} {P : Row} : (wld E ad h g).set 130 (ad 130, .inl (E.2.1, 5, .inl P)) = wld E ad (su h 22 P) g := wset_O (r := 22) (by decide) (by decide) rfl
theorem wl_r23 {E : Ev} {ad : Nat → Nat} {h : Hp} {g : Gp} {R : Row} (e : h 23 = R) : (wld E ad h g)[131]? = some (ad 131, .inl (E.2.1, 5, .inl R)) := by
  rw [show (131 : Nat) = 23 + 108 from rfl, wl_O (by decide) (by decide), e]
  rfl
theorem ws_r23 {E : Ev} {ad : Nat → Nat} {h : Hp} {g : Gp} {P : Row} : (wld E ad h g).set 131 (ad 131, .inl (E.2.1, 5, .inl P)) = wld E ad (su h 23 P) g := wset_O (r := 23) (by decide) (by decide) rfl
theorem wl_r30 {E : Ev} {ad : Nat → Nat} {h : Hp} {g : Gp} {R : Row} (e : h 30 = R) : (wld E ad h g)[138]? = some (ad 138, .inl (E.2.1, 6, .inl R)) := by
  rw [show (138 : Nat) = 30 + 108 from rfl, wl_O (by decide) (by decide), e]
  rfl
theorem ws_r30 {E : Ev} {ad : Nat → Nat} {h : Hp} {g : Gp} {P : Row} : (wld E ad h g).set 138 (ad 138, .inl (E.2.1, 6, .inl P)) = wld E ad (su h 30 P) g := wset_O (r := 30) (by decide) (by decide) rfl
theorem wl_r31 {E : Ev} {ad : Nat → Nat} {h : Hp} {g : Gp} {R : Row} (e : h 31 = R) : (wld E ad h g)[139]? = some (ad 139, .inl (E.2.1, 6, .inl R)) := by
  rw [show (139 : Nat) = 31 + 108 from rfl, wl_O (by decide) (by decide), e]
  rfl
theorem ws_r31 {E : Ev} {ad : Nat → Nat} {h : Hp} {g : Gp} {P : Row} : (wld E ad h g).set 139 (ad 139, .inl (E.2.1, 6, .inl P)) = wld E ad (su h 31 P) g := wset_O (r := 31) (by decide) (by decide) rfl
theorem wl_r32 {E : Ev} {ad : Nat → Nat} {h : Hp} {g : Gp} {R : Row} (e : h 32 = R) : (wld E ad h g)[140]? = some (ad 140, .inl (E.2.1, 32, .inl R)) := by
  rw [show (140 : Nat) = 32 + 108 from rfl, wl_O (by decide) (by decide), e]
  rfl
theorem ws_r32 {E : Ev} {ad : Nat → Nat} {h : Hp} {g : Gp} {P : Row} : (wld E ad h g).set 140 (ad 140, .inl (E.2.1, 32, .inl P)) = wld E ad (su h 32 P) g := wset_O (r := 32) (by decide) (by decide) rfl
theorem wl_r34 {E : Ev} {ad : Nat → Nat} {h : Hp} {g : Gp} {R : Row} (e : h 34 = R) : (wld E ad h g)[142]? = some (ad 142, .inl (E.2.1, 32, .inl R)) := by
  rw [show (142 : Nat) = 34 + 108 from rfl, wl_O (by decide) (by decide), e]
  rfl
theorem ws_r34 {E : Ev} {ad : Nat → Nat} {h : Hp} {g : Gp} {P : Row} : (wld E ad h g).set 142 (ad 142, .inl (E.2.1, 32, .inl P)) = wld E ad (su h 34 P) g := wset_O (r := 34) (by decide) (by decide) rfl
theorem wl_r35 {E : Ev} {ad : Nat → Nat} {h : Hp} {g : Gp} {R : Row} (e : h 35 = R) : (wld E ad h g)[143]? = some (ad 143, .inl (E.2.1, 5, .inl R)) := by
  rw [show (143 : Nat) = 35 + 108 from rfl, wl_O (by decide) (by decide), e]
  rfl
theorem ws_r35 {E : Ev} {ad : Nat → Nat} {h : Hp} {g : Gp} {P : Row} : (wld E ad h g).set 143 (ad 143, .inl (E.2.1, 5, .inl P)) = wld E ad (su h 35 P) g := wset_O (r := 35) (by decide) (by decide) rfl
theorem wl_r36 {E : Ev} {ad : Nat → Nat} {h : Hp} {g : Gp} {R : Row} (e : h 36 = R) : (wld E ad h g)[144]? = some (ad 144, .inl (E.2.1, 5, .inl R)) := by
  rw [show (144 : Nat) = 36 + 108 from rfl, wl_O (by decide) (by decide), e]
  rfl
theorem ws_r36 {E : Ev} {ad : Nat → Nat} {h : Hp} {g : Gp} {P : Row} : (wld E ad h g).set 144 (ad 144, .inl (E.2.1, 5, .inl P)) = wld E ad (su h 36 P) g := wset_O (r := 36) (by decide) (by decide) rfl
theorem wl_r37 {E : Ev} {ad : Nat → Nat} {h : Hp} {g : Gp} {R : Row} (e : h 37 = R) : (wld E ad h g)[145]? = some (ad 145, .inl (E.2.1, 15, .inl R)) := by
  rw [show (145 : Nat) = 37 + 108 from rfl, wl_O (by decide) (by decide), e]
  rfl
theorem ws_r37 {E : Ev} {ad : Nat → Nat} {h : Hp} {g : Gp} {P : Row} : (wld E ad h g).set 145 (ad 145, .inl (E.2.1, 15, .inl P)) = wld E ad (su h 37 P) g := wset_O (r := 37) (by decide) (by decide) rfl
theorem wl_r38 {E : Ev} {ad : Nat → Nat} {h : Hp} {g : Gp} {R : Row} (e : h 38 = R) : (wld E ad h g)[146]? = some (ad 146, .inl (E.2.1, 36, .inl R)) := by
  rw [show (146 : Nat) = 38 + 108 from rfl, wl_O (by decide) (by decide), e]
  rfl
theorem ws_r38 {E : Ev} {ad : Nat → Nat} {h : Hp} {g : Gp} {P : Row} : (wld E ad h g).set 146 (ad 146, .inl (E.2.1, 36, .inl P)) = wld E ad (su h 38 P) g := wset_O (r := 38) (by decide) (by decide) rfl
theorem wl_r39 {E : Ev} {ad : Nat → Nat} {h : Hp} {g : Gp} {R : Row} (e : h 39 = R) : (wld E ad h g)[147]? = some (ad 147, .inl (E.2.1, 36, .inl R)) := by
  rw [show (147 : Nat) = 39 + 108 from rfl, wl_O (by decide) (by decide), e]
  rfl
theorem ws_r39 {E : Ev} {ad : Nat → Nat} {h : Hp} {g : Gp} {P : Row} : (wld E ad h g).set 147 (ad 147, .inl (E.2.1, 36, .inl P)) = wld E ad (su h 39 P) g := wset_O (r := 39) (by decide) (by decide) rfl
theorem wl_r40 {E : Ev} {ad : Nat → Nat} {h : Hp} {g : Gp} {R : Row} (e : h 40 = R) : (wld E ad h g)[148]? = some (ad 148, .inl (E.2.1, 504, .inl R)) := by
  rw [show (148 : Nat) = 40 + 108 from rfl, wl_O (by decide) (by decide), e]
  rfl
theorem ws_r40 {E : Ev} {ad : Nat → Nat} {h : Hp} {g : Gp} {P : Row} : (wld E ad h g).set 148 (ad 148, .inl (E.2.1, 504, .inl P)) = wld E ad (su h 40 P) g := wset_O (r := 40) (by decide) (by decide) rfl
theorem wl_r41 {E : Ev} {ad : Nat → Nat} {h : Hp} {g : Gp} {R : Row} (e : h 41 = R) : (wld E ad h g)[149]? = some (ad 149, .inl (E.2.1, 72, .inl R)) := by
  rw [show (149 : Nat) = 41 + 108 from rfl, wl_O (by decide) (by decide), e]
  rfl
theorem ws_r41 {E : Ev} {ad : Nat → Nat} {h : Hp} {g : Gp} {P : Row} : (wld E ad h g).set 149 (ad 149, .inl (E.2.1, 72, .inl P)) = wld E ad (su h 41 P) g := wset_O (r := 41) (by decide) (by decide) rfl
theorem wl_r43 {E : Ev} {ad : Nat → Nat} {h : Hp} {g : Gp} {R : Row} (e : h 43 = R) : (wld E ad h g)[151]? = some (ad 151, .inl (E.2.1, 6, .inl R)) := by
  rw [show (151 : Nat) = 43 + 108 from rfl, wl_O (by decide) (by decide), e]
  rfl
theorem ws_r43 {E : Ev} {ad : Nat → Nat} {h : Hp} {g : Gp} {P : Row} : (wld E ad h g).set 151 (ad 151, .inl (E.2.1, 6, .inl P)) = wld E ad (su h 43 P) g := wset_O (r := 43) (by decide) (by decide) rfl
theorem wl_r44 {E : Ev} {ad : Nat → Nat} {h : Hp} {g : Gp} {R : Row} (e : h 44 = R) : (wld E ad h g)[152]? = some (ad 152, .inl (E.2.1, 6, .inl R)) := by
  rw [show (152 : Nat) = 44 + 108 from rfl, wl_O (by decide) (by decide), e]
  rfl
theorem ws_r44 {E : Ev} {ad : Nat → Nat} {h : Hp} {g : Gp} {P : Row} : (wld E ad h g).set 152 (ad 152, .inl (E.2.1, 6, .inl P)) = wld E ad (su h 44 P) g := wset_O (r := 44) (by decide) (by decide) rfl
theorem wl_r45 {E : Ev} {ad : Nat → Nat} {h : Hp} {g : Gp} {R : Row} (e : h 45 = R) : (wld E ad h g)[153]? = some (ad 153, .inl (E.2.1, 32, .inl R)) := by
  rw [show (153 : Nat) = 45 + 108 from rfl, wl_O (by decide) (by decide), e]
  rfl
theorem ws_r45 {E : Ev} {ad : Nat → Nat} {h : Hp} {g : Gp} {P : Row} : (wld E ad h g).set 153 (ad 153, .inl (E.2.1, 32, .inl P)) = wld E ad (su h 45 P) g := wset_O (r := 45) (by decide) (by decide) rfl
theorem wl_r28 {E : Ev} {ad : Nat → Nat} {h : Hp} {g : Gp} {R : Row} (e : h 28 = R) : (wld E ad h g)[136]? = some (ad 136, .inl (E.2.2.1, 2, .inl R)) := by
  rw [show (136 : Nat) = 28 + 108 from rfl, wl_O (by decide) (by decide), e]
  rfl
theorem ws_r28 {E : Ev} {ad : Nat → Nat} {h : Hp} {g : Gp} {P : Row} : (wld E ad h g).set 136 (ad 136, .inl (E.2.2.1, 2, .inl P)) = wld E ad (su h 28 P) g := wset_O (r := 28) (by decide) (by decide) rfl
theorem wl_r42 {E : Ev} {ad : Nat → Nat} {h : Hp} {g : Gp} {R : Row} (e : h 42 = R) : (wld E ad h g)[150]? = some (ad 150, .inl (E.2.2.1, 2, .inl R)) := by
  rw [show (150 : Nat) = 42 + 108 from rfl, wl_O (by decide) (by decide), e]
  rfl
theorem ws_r42 {E : Ev} {ad : Nat → Nat} {h : Hp} {g : Gp} {P : Row} : (wld E ad h g).set 150 (ad 150, .inl (E.2.2.1, 2, .inl P)) = wld E ad (su h 42 P) g := wset_O (r := 42) (by decide) (by decide) rfl
theorem wl_r25 {E : Ev} {ad : Nat → Nat} {h : Hp} {g : Gp} : (wld E ad h g)[133]? = some (ad 133, .inl (E.2.2.2, 14, .inr (.inr (.inr (.inr (fun j => some (ad (7 * (2 + j))))))))) := by
  rw [show (133 : Nat) = 25 + 108 from rfl, wl_O (by decide) (by decide)]
  rfl
theorem wl_r27 {E : Ev} {ad : Nat → Nat} {h : Hp} {g : Gp} : (wld E ad h g)[135]? = some (ad 135, .inl (E.2.2.2, 2, .inr (.inr (.inr (.inr (fun j => some (ad (7 * (16 + j))))))))) := by
  rw [show (135 : Nat) = 27 + 108 from rfl, wl_O (by decide) (by decide)]
  rfl
theorem rcv_P {E : Ev} {ad : Nat → Nat} {h : Hp} {g : Gp} {b : Nat} {P : Row} (e : h b = P) (hb : b < 18) : Rcv E ad h g (ad (7 * b)) RX2 := ⟨7 * b, 2, _, _, wl_P0 e hb, rfl, rfl⟩
theorem wl_q {E : Ev} {ad : Nat → Nat} {h : Hp} {g : Gp} {p : Nat} {P : Row} (e : h p = P) (hp : p = 38 ∨ p = 39) : (wld E ad h g)[p + 108]? = some (ad (p + 108), .inl (E.2.1, 36, .inl P)) := by
  rcases hp with rfl | rfl
  · exact wl_r38 e
  · exact wl_r39 e
theorem ws_q {E : Ev} {ad : Nat → Nat} {h : Hp} {g : Gp} {p : Nat} {P Q : Row} (hp : p = 38 ∨ p = 39) : (wld E ad (su h p P) g).set (p + 108) (ad (p + 108), .inl (E.2.1, 36, .inl Q)) = wld E ad (su h p Q) g := by
  rcases hp with rfl | rfl
  · rw [← su_su h 38 P Q]
    exact ws_r38
  · rw [← su_su h 39 P Q]
    exact ws_r39
section XP
variable {p : Program} {l : Launch} {e : Env} {R : Room} {s : State} {m : MethodId} {args : Array Value} {below : List Frame} {meth : Method} {c : Code} {H : Heap} {locs : List Loc} {cells slots : Nat} {Q : State → Prop} {cc : ByteArray} {pc nL : Nat} {ls : Array Slot} {rest : List Value} {E : Ev} {ad : Nat → Nat} {h : Hp} {g : Gp} {own : String} {b k o j : Nat} {P : Row} {x v : Int32}
/-- a place of a Play's array number k -/
theorem x_pld (C : CallFix p m c cc nL s args lwA own) (X : Sx E ad s) (w : At E ad h g s H locs) (ee : h b = P) (hb : b < 18) (hk : k < 7) (h0 : 0 < k) (ho : 5 * (k - 1) = o) (hin : inb x 5 = true) (hj : x.toNatClampNeg = j) (hdg : decode cc pc = .ok (.iaload, 1)) (kk : W p l e R s m args below meth c H locs cells slots Q (F0 m (pc + 1) ls (.int (P (o + j)) :: rest))) : W p l e R s m args below meth c H locs cells slots Q (F0 m pc ls (.int x :: .ref (ad (7 * b + k)) :: rest)) := by
  subst hj; subst ho
  exact x_ild C X w (wl_Ps ee hb hk h0) hin (if_pos (inb_lt hin)) hdg kk
theorem x_pst (C : CallFix p m c cc nL s args lwA own) (X : Sx E ad s) (hI : Inj ad) (w : At E ad (su h b P) g s H locs) (hb : b < 18) (hk : k < 7) (h0 : 0 < k) (ho : 5 * (k - 1) = o) (hin : inb x 5 = true) (hj : x.toNatClampNeg = j) (hdg : decode cc pc = .ok (.iastore, 1)) (kk : ∀ (H : Heap) (locs : List Loc), At E ad (su h b (upd P (o + j) v)) g s H locs → W p l e R s m args below meth c H locs cells slots Q (F0 m (pc + 1) ls rest)) : W p l e R s m args below meth c H locs cells slots Q (F0 m pc ls (.int v :: .int x :: .ref (ad (7 * b + k)) :: rest)) := by
  subst hj; subst ho
  exact x_ist C X hI w (wl_Ps (su_same h b P) hb hk h0) hin (wset_Ps hb hk h0 (inb_lt hin)) hdg kk
theorem x_qld {q : Nat} (C : CallFix p m c cc nL s args lwA own) (X : Sx E ad s) (w : At E ad h g s H locs) (ee : h q = P) (hp : q = 38 ∨ q = 39) (hin : inb x 36 = true) (hj : x.toNatClampNeg = j) (hdg : decode cc pc = .ok (.iaload, 1)) (kk : W p l e R s m args below meth c H locs cells slots Q (F0 m (pc + 1) ls (.int (P j) :: rest))) : W p l e R s m args below meth c H locs cells slots Q (F0 m pc ls (.int x :: .ref (ad (q + 108)) :: rest)) := by
  subst hj
  exact x_ild C X w (wl_q ee hp) hin rfl hdg kk
theorem x_qst {q : Nat} (C : CallFix p m c cc nL s args lwA own) (X : Sx E ad s) (hI : Inj ad) (w : At E ad (su h q P) g s H locs) (hp : q = 38 ∨ q = 39) (hin : inb x 36 = true) (hj : x.toNatClampNeg = j) (hdg : decode cc pc = .ok (.iastore, 1)) (kk : ∀ (H : Heap) (locs : List Loc), At E ad (su h q (upd P j v)) g s H locs → W p l e R s m args below meth c H locs cells slots Q (F0 m (pc + 1) ls rest)) : W p l e R s m args below meth c H locs cells slots Q (F0 m pc ls (.int v :: .int x :: .ref (ad (q + 108)) :: rest)) := by
  subst hj
  exact x_ist C X hI w (wl_q (su_same h q P) hp) hin (ws_q hp) hdg kk
theorem x_tp {y : Int32} (hy : y = x) (kk : W p l e R s m args below meth c H locs cells slots Q (F0 m pc ls (.int y :: rest))) : W p l e R s m args below meth c H locs cells slots Q (F0 m pc ls (.int x :: rest)) := by subst hy; exact kk
theorem x_tpl {x y : Int64} (hy : y = x) (kk : W p l e R s m args below meth c H locs cells slots Q (F0 m pc ls (.long y :: rest))) : W p l e R s m args below meth c H locs cells slots Q (F0 m pc ls (.long x :: rest)) := by subst hy; exact kk
end XP
theorem ti_ne {x k : Int32} {z : Int} (h : ¬ x = k) (hz : k.toInt = z) : x.toInt ≠ z := fun e => h (Int32.toInt_inj.mp (e.trans hz.symm))
theorem at_eq {E : Ev} {ad : Nat → Nat} {h h2 : Hp} {g : Gp} {s : State} {H : Heap} {locs : List Loc} (e : h2 = h) (w : At E ad h g s H locs) : At E ad h2 g s H locs := by subst e; exact w
theorem at_eqP {E : Ev} {ad : Nat → Nat} {h : Hp} {b : Nat} {P P2 : Row} {g : Gp} {s : State} {H : Heap} {locs : List Loc} (e : P2 = P) (w : At E ad (su h b P) g s H locs) : At E ad (su h b P2) g s H locs := by subst e; exact w
theorem at_eqG {E : Ev} {ad : Nat → Nat} {h : Hp} {g g2 : Gp} {s : State} {H : Heap} {locs : List Loc} (e : g2 = g) (w : At E ad h g s H locs) : At E ad h g2 s H locs := by subst e; exact w
def bi2 {α β γ : Type} (a : Option (α × β)) (k : α → β → Option γ) : Option γ := a.bind (fun q => k q.1 q.2)
theorem bi2_e {α β γ : Type} {a : Option (α × β)} {k : α → β → Option γ} {r : γ} (h : bi2 a k = some r) : ∃ x y, a = some (x, y) ∧ k x y = some r := by
  obtain ⟨⟨x, y⟩, h1, h2⟩ := bi_e h
  exact ⟨x, y, h1, h2⟩
def bi3 {α β γ δ : Type} (a : Option (α × β × γ)) (k : α → β → γ → Option δ) : Option δ := a.bind (fun q => k q.1 q.2.1 q.2.2)
theorem bi3_e {α β γ δ : Type} {a : Option (α × β × γ)} {k : α → β → γ → Option δ} {r : δ} (h : bi3 a k = some r) : ∃ x y z, a = some (x, y, z) ∧ k x y z = some r := by
  obtain ⟨⟨x, y, z⟩, h1, h2⟩ := bi_e h
  exact ⟨x, y, z, h1, h2⟩
def bi1 {α β : Type} (a : Option α) (k : α → Option β) : Option β := a.bind k
theorem bi1_e {α β : Type} {a : Option α} {k : α → Option β} {r : β} (h : bi1 a k = some r) : ∃ x, a = some x ∧ k x = some r := bi_e h

