section
-- ===== PART A: goes FIRST, ahead of the names: the tables' words, and 'selects' of the private methods out of them =====
/-- a private method of a class that the tables say can be made, by its rows of tables_1 -/
def lw_okq (q : MethodName × Nat) : Prop := (q.1.cls ≠ "java/lang/invoke/MethodHandle" ∧ q.1.cls ≠ "java/lang/invoke/VarHandle") ∧ Cond.instantiable q.1.cls q.2 ∈ tables_1 ∧ Cond.privateMethod q.1 ∈ tables_1 ∧ Cond.instanceMethod q.1 ∈ tables_1
theorem lw_p0 : lw_okq (⟨"OneTricycle$Text", "append", "(I)V"⟩, 2) := ⟨⟨by decide +kernel, by decide +kernel⟩, List.mem_of_getElem? (i := 20) (by decide +kernel), List.mem_of_getElem? (i := 204) (by decide +kernel), List.mem_of_getElem? (i := 205) (by decide +kernel)⟩
theorem lw_p1 : lw_okq (⟨"OneTricycle$Text", "faultPlace", "()I"⟩, 2) := ⟨⟨by decide +kernel, by decide +kernel⟩, List.mem_of_getElem? (i := 20) (by decide +kernel), List.mem_of_getElem? (i := 216) (by decide +kernel), List.mem_of_getElem? (i := 217) (by decide +kernel)⟩
theorem lw_p2 : lw_okq (⟨"OneTricycle$Kids", "tellFrom", "(LOneTricycle$Text;)V"⟩, 3) := ⟨⟨by decide +kernel, by decide +kernel⟩, List.mem_of_getElem? (i := 35) (by decide +kernel), List.mem_of_getElem? (i := 233) (by decide +kernel), List.mem_of_getElem? (i := 234) (by decide +kernel)⟩
theorem lw_p3 : lw_okq (⟨"OneTricycle$Text", "countChildren", "()I"⟩, 2) := ⟨⟨by decide +kernel, by decide +kernel⟩, List.mem_of_getElem? (i := 20) (by decide +kernel), List.mem_of_getElem? (i := 237) (by decide +kernel), List.mem_of_getElem? (i := 238) (by decide +kernel)⟩
theorem lw_p4 : lw_okq (⟨"OneTricycle$Text", "figureOfChild", "(II)I"⟩, 2) := ⟨⟨by decide +kernel, by decide +kernel⟩, List.mem_of_getElem? (i := 20) (by decide +kernel), List.mem_of_getElem? (i := 247) (by decide +kernel), List.mem_of_getElem? (i := 248) (by decide +kernel)⟩
theorem lw_p5 : lw_okq (⟨"OneTricycle$Text", "figure", "(I)I"⟩, 2) := ⟨⟨by decide +kernel, by decide +kernel⟩, List.mem_of_getElem? (i := 20) (by decide +kernel), List.mem_of_getElem? (i := 251) (by decide +kernel), List.mem_of_getElem? (i := 252) (by decide +kernel)⟩
theorem lw_p6 : lw_okq (⟨"OneTricycle$Play", "startFrom", "(LOneTricycle$Text;)V"⟩, 14) := ⟨⟨by decide +kernel, by decide +kernel⟩, List.mem_of_getElem? (i := 55) (by decide +kernel), List.mem_of_getElem? (i := 255) (by decide +kernel), List.mem_of_getElem? (i := 256) (by decide +kernel)⟩
theorem lw_p7 : lw_okq (⟨"OneTricycle$Acts", "forgetAll", "()V"⟩, 3) := ⟨⟨by decide +kernel, by decide +kernel⟩, List.mem_of_getElem? (i := 117) (by decide +kernel), List.mem_of_getElem? (i := 262) (by decide +kernel), List.mem_of_getElem? (i := 263) (by decide +kernel)⟩
theorem lw_p8 : lw_okq (⟨"OneTricycle$Slots", "forgetAll", "()V"⟩, 2) := ⟨⟨by decide +kernel, by decide +kernel⟩, List.mem_of_getElem? (i := 137) (by decide +kernel), List.mem_of_getElem? (i := 266) (by decide +kernel), List.mem_of_getElem? (i := 267) (by decide +kernel)⟩
theorem lw_p9 : lw_okq (⟨"OneTricycle$Play", "wanting", "()I"⟩, 14) := ⟨⟨by decide +kernel, by decide +kernel⟩, List.mem_of_getElem? (i := 55) (by decide +kernel), List.mem_of_getElem? (i := 274) (by decide +kernel), List.mem_of_getElem? (i := 275) (by decide +kernel)⟩
theorem lw_p10 : lw_okq (⟨"OneTricycle$Play", "asking", "()I"⟩, 14) := ⟨⟨by decide +kernel, by decide +kernel⟩, List.mem_of_getElem? (i := 55) (by decide +kernel), List.mem_of_getElem? (i := 278) (by decide +kernel), List.mem_of_getElem? (i := 279) (by decide +kernel)⟩
theorem lw_p11 : lw_okq (⟨"OneTricycle$Play", "next", "()I"⟩, 14) := ⟨⟨by decide +kernel, by decide +kernel⟩, List.mem_of_getElem? (i := 55) (by decide +kernel), List.mem_of_getElem? (i := 283) (by decide +kernel), List.mem_of_getElem? (i := 284) (by decide +kernel)⟩
theorem lw_p12 : lw_okq (⟨"OneTricycle$Play", "comesAhead", "(II)Z"⟩, 14) := ⟨⟨by decide +kernel, by decide +kernel⟩, List.mem_of_getElem? (i := 55) (by decide +kernel), List.mem_of_getElem? (i := 291) (by decide +kernel), List.mem_of_getElem? (i := 292) (by decide +kernel)⟩
theorem lw_p13 : lw_okq (⟨"OneTricycle$Kids", "might", "(I)I"⟩, 3) := ⟨⟨by decide +kernel, by decide +kernel⟩, List.mem_of_getElem? (i := 35) (by decide +kernel), List.mem_of_getElem? (i := 295) (by decide +kernel), List.mem_of_getElem? (i := 296) (by decide +kernel)⟩
theorem lw_p14 : lw_okq (⟨"OneTricycle$Play", "isThere", "(I)Z"⟩, 14) := ⟨⟨by decide +kernel, by decide +kernel⟩, List.mem_of_getElem? (i := 55) (by decide +kernel), List.mem_of_getElem? (i := 303) (by decide +kernel), List.mem_of_getElem? (i := 304) (by decide +kernel)⟩
theorem lw_p15 : lw_okq (⟨"OneTricycle$Acts", "remember", "(LOneTricycle$Play;)V"⟩, 3) := ⟨⟨by decide +kernel, by decide +kernel⟩, List.mem_of_getElem? (i := 117) (by decide +kernel), List.mem_of_getElem? (i := 312) (by decide +kernel), List.mem_of_getElem? (i := 313) (by decide +kernel)⟩
def lw_privs_1 : List (MethodName × Nat) := [(⟨"OneTricycle$Text", "append", "(I)V"⟩, 2), (⟨"OneTricycle$Text", "faultPlace", "()I"⟩, 2), (⟨"OneTricycle$Kids", "tellFrom", "(LOneTricycle$Text;)V"⟩, 3), (⟨"OneTricycle$Text", "countChildren", "()I"⟩, 2), (⟨"OneTricycle$Text", "figureOfChild", "(II)I"⟩, 2), (⟨"OneTricycle$Text", "figure", "(I)I"⟩, 2), (⟨"OneTricycle$Play", "startFrom", "(LOneTricycle$Text;)V"⟩, 14), (⟨"OneTricycle$Acts", "forgetAll", "()V"⟩, 3), (⟨"OneTricycle$Slots", "forgetAll", "()V"⟩, 2), (⟨"OneTricycle$Play", "wanting", "()I"⟩, 14), (⟨"OneTricycle$Play", "asking", "()I"⟩, 14), (⟨"OneTricycle$Play", "next", "()I"⟩, 14), (⟨"OneTricycle$Play", "comesAhead", "(II)Z"⟩, 14), (⟨"OneTricycle$Kids", "might", "(I)I"⟩, 3), (⟨"OneTricycle$Play", "isThere", "(I)Z"⟩, 14), (⟨"OneTricycle$Acts", "remember", "(LOneTricycle$Play;)V"⟩, 3)]
theorem lw_r1 : ∀ q ∈ lw_privs_1, lw_okq q := List.forall_mem_cons.mpr ⟨lw_p0, List.forall_mem_cons.mpr ⟨lw_p1, List.forall_mem_cons.mpr ⟨lw_p2, List.forall_mem_cons.mpr ⟨lw_p3, List.forall_mem_cons.mpr ⟨lw_p4, List.forall_mem_cons.mpr ⟨lw_p5, List.forall_mem_cons.mpr ⟨lw_p6, List.forall_mem_cons.mpr ⟨lw_p7, List.forall_mem_cons.mpr ⟨lw_p8, List.forall_mem_cons.mpr ⟨lw_p9, List.forall_mem_cons.mpr ⟨lw_p10, List.forall_mem_cons.mpr ⟨lw_p11, List.forall_mem_cons.mpr ⟨lw_p12, List.forall_mem_cons.mpr ⟨lw_p13, List.forall_mem_cons.mpr ⟨lw_p14, List.forall_mem_cons.mpr ⟨lw_p15, fun _ h => absurd h List.not_mem_nil⟩⟩⟩⟩⟩⟩⟩⟩⟩⟩⟩⟩⟩⟩⟩⟩
theorem lw_p16 : lw_okq (⟨"OneTricycle$Play", "copyFrom", "(LOneTricycle$Play;)V"⟩, 14) := ⟨⟨by decide +kernel, by decide +kernel⟩, List.mem_of_getElem? (i := 55) (by decide +kernel), List.mem_of_getElem? (i := 316) (by decide +kernel), List.mem_of_getElem? (i := 317) (by decide +kernel)⟩
theorem lw_p17 : lw_okq (⟨"OneTricycle$Play", "passMinute", "()V"⟩, 14) := ⟨⟨by decide +kernel, by decide +kernel⟩, List.mem_of_getElem? (i := 55) (by decide +kernel), List.mem_of_getElem? (i := 321) (by decide +kernel), List.mem_of_getElem? (i := 322) (by decide +kernel)⟩
theorem lw_p18 : lw_okq (⟨"OneTricycle$Play", "rides", "(I)Z"⟩, 14) := ⟨⟨by decide +kernel, by decide +kernel⟩, List.mem_of_getElem? (i := 55) (by decide +kernel), List.mem_of_getElem? (i := 325) (by decide +kernel), List.mem_of_getElem? (i := 326) (by decide +kernel)⟩
theorem lw_p19 : lw_okq (⟨"OneTricycle$Play", "getOffIfDue", "(I)V"⟩, 14) := ⟨⟨by decide +kernel, by decide +kernel⟩, List.mem_of_getElem? (i := 55) (by decide +kernel), List.mem_of_getElem? (i := 329) (by decide +kernel), List.mem_of_getElem? (i := 330) (by decide +kernel)⟩
theorem lw_p20 : lw_okq (⟨"OneTricycle$Play", "getOff", "(I)V"⟩, 14) := ⟨⟨by decide +kernel, by decide +kernel⟩, List.mem_of_getElem? (i := 55) (by decide +kernel), List.mem_of_getElem? (i := 333) (by decide +kernel), List.mem_of_getElem? (i := 334) (by decide +kernel)⟩
theorem lw_p21 : lw_okq (⟨"OneTricycle$Play", "pushOff", "(I)V"⟩, 14) := ⟨⟨by decide +kernel, by decide +kernel⟩, List.mem_of_getElem? (i := 55) (by decide +kernel), List.mem_of_getElem? (i := 338) (by decide +kernel), List.mem_of_getElem? (i := 339) (by decide +kernel)⟩
theorem lw_p22 : lw_okq (⟨"OneTricycle$Play", "getOn", "(I)V"⟩, 14) := ⟨⟨by decide +kernel, by decide +kernel⟩, List.mem_of_getElem? (i := 55) (by decide +kernel), List.mem_of_getElem? (i := 348) (by decide +kernel), List.mem_of_getElem? (i := 349) (by decide +kernel)⟩
theorem lw_p23 : lw_okq (⟨"OneTricycle$Play", "rideAndStare", "()V"⟩, 14) := ⟨⟨by decide +kernel, by decide +kernel⟩, List.mem_of_getElem? (i := 55) (by decide +kernel), List.mem_of_getElem? (i := 352) (by decide +kernel), List.mem_of_getElem? (i := 353) (by decide +kernel)⟩
theorem lw_p24 : lw_okq (⟨"OneTricycle$Play", "canBePushed", "(I)Z"⟩, 14) := ⟨⟨by decide +kernel, by decide +kernel⟩, List.mem_of_getElem? (i := 55) (by decide +kernel), List.mem_of_getElem? (i := 369) (by decide +kernel), List.mem_of_getElem? (i := 370) (by decide +kernel)⟩
theorem lw_p25 : lw_okq (⟨"OneTricycle$Play", "canBeCalled", "(I)Z"⟩, 14) := ⟨⟨by decide +kernel, by decide +kernel⟩, List.mem_of_getElem? (i := 55) (by decide +kernel), List.mem_of_getElem? (i := 379) (by decide +kernel), List.mem_of_getElem? (i := 380) (by decide +kernel)⟩
theorem lw_p26 : lw_okq (⟨"OneTricycle$Play", "callAway", "(I)V"⟩, 14) := ⟨⟨by decide +kernel, by decide +kernel⟩, List.mem_of_getElem? (i := 55) (by decide +kernel), List.mem_of_getElem? (i := 383) (by decide +kernel), List.mem_of_getElem? (i := 384) (by decide +kernel)⟩
theorem lw_p27 : lw_okq (⟨"OneTricycle$Play", "setRule", "(II)V"⟩, 14) := ⟨⟨by decide +kernel, by decide +kernel⟩, List.mem_of_getElem? (i := 55) (by decide +kernel), List.mem_of_getElem? (i := 397) (by decide +kernel), List.mem_of_getElem? (i := 398) (by decide +kernel)⟩
theorem lw_p28 : lw_okq (⟨"OneTricycle$Play", "putOrTakeAway", "()V"⟩, 14) := ⟨⟨by decide +kernel, by decide +kernel⟩, List.mem_of_getElem? (i := 55) (by decide +kernel), List.mem_of_getElem? (i := 405) (by decide +kernel), List.mem_of_getElem? (i := 406) (by decide +kernel)⟩
theorem lw_p29 : lw_okq (⟨"OneTricycle$Play", "leaveRiding", "(I)V"⟩, 14) := ⟨⟨by decide +kernel, by decide +kernel⟩, List.mem_of_getElem? (i := 55) (by decide +kernel), List.mem_of_getElem? (i := 409) (by decide +kernel), List.mem_of_getElem? (i := 410) (by decide +kernel)⟩
theorem lw_p30 : lw_okq (⟨"OneTricycle$Acts", "takeBack", "(LOneTricycle$Play;)V"⟩, 3) := ⟨⟨by decide +kernel, by decide +kernel⟩, List.mem_of_getElem? (i := 117) (by decide +kernel), List.mem_of_getElem? (i := 417) (by decide +kernel), List.mem_of_getElem? (i := 418) (by decide +kernel)⟩
theorem lw_p31 : lw_okq (⟨"OneTricycle", "look", "(IIII)V"⟩, 9) := ⟨⟨by decide +kernel, by decide +kernel⟩, List.mem_of_getElem? (i := 12) (by decide +kernel), List.mem_of_getElem? (i := 428) (by decide +kernel), List.mem_of_getElem? (i := 429) (by decide +kernel)⟩
def lw_privs_2 : List (MethodName × Nat) := [(⟨"OneTricycle$Play", "copyFrom", "(LOneTricycle$Play;)V"⟩, 14), (⟨"OneTricycle$Play", "passMinute", "()V"⟩, 14), (⟨"OneTricycle$Play", "rides", "(I)Z"⟩, 14), (⟨"OneTricycle$Play", "getOffIfDue", "(I)V"⟩, 14), (⟨"OneTricycle$Play", "getOff", "(I)V"⟩, 14), (⟨"OneTricycle$Play", "pushOff", "(I)V"⟩, 14), (⟨"OneTricycle$Play", "getOn", "(I)V"⟩, 14), (⟨"OneTricycle$Play", "rideAndStare", "()V"⟩, 14), (⟨"OneTricycle$Play", "canBePushed", "(I)Z"⟩, 14), (⟨"OneTricycle$Play", "canBeCalled", "(I)Z"⟩, 14), (⟨"OneTricycle$Play", "callAway", "(I)V"⟩, 14), (⟨"OneTricycle$Play", "setRule", "(II)V"⟩, 14), (⟨"OneTricycle$Play", "putOrTakeAway", "()V"⟩, 14), (⟨"OneTricycle$Play", "leaveRiding", "(I)V"⟩, 14), (⟨"OneTricycle$Acts", "takeBack", "(LOneTricycle$Play;)V"⟩, 3), (⟨"OneTricycle", "look", "(IIII)V"⟩, 9)]
theorem lw_r2 : ∀ q ∈ lw_privs_2, lw_okq q := List.forall_mem_cons.mpr ⟨lw_p16, List.forall_mem_cons.mpr ⟨lw_p17, List.forall_mem_cons.mpr ⟨lw_p18, List.forall_mem_cons.mpr ⟨lw_p19, List.forall_mem_cons.mpr ⟨lw_p20, List.forall_mem_cons.mpr ⟨lw_p21, List.forall_mem_cons.mpr ⟨lw_p22, List.forall_mem_cons.mpr ⟨lw_p23, List.forall_mem_cons.mpr ⟨lw_p24, List.forall_mem_cons.mpr ⟨lw_p25, List.forall_mem_cons.mpr ⟨lw_p26, List.forall_mem_cons.mpr ⟨lw_p27, List.forall_mem_cons.mpr ⟨lw_p28, List.forall_mem_cons.mpr ⟨lw_p29, List.forall_mem_cons.mpr ⟨lw_p30, List.forall_mem_cons.mpr ⟨lw_p31, fun _ h => absurd h List.not_mem_nil⟩⟩⟩⟩⟩⟩⟩⟩⟩⟩⟩⟩⟩⟩⟩⟩
theorem lw_p32 : lw_okq (⟨"OneTricycle", "outlook", "(I)I"⟩, 9) := ⟨⟨by decide +kernel, by decide +kernel⟩, List.mem_of_getElem? (i := 12) (by decide +kernel), List.mem_of_getElem? (i := 433) (by decide +kernel), List.mem_of_getElem? (i := 434) (by decide +kernel)⟩
theorem lw_p33 : lw_okq (⟨"OneTricycle$Play", "staredByAll", "()I"⟩, 14) := ⟨⟨by decide +kernel, by decide +kernel⟩, List.mem_of_getElem? (i := 55) (by decide +kernel), List.mem_of_getElem? (i := 437) (by decide +kernel), List.mem_of_getElem? (i := 438) (by decide +kernel)⟩
theorem lw_p34 : lw_okq (⟨"OneTricycle$Play", "gap", "()I"⟩, 14) := ⟨⟨by decide +kernel, by decide +kernel⟩, List.mem_of_getElem? (i := 55) (by decide +kernel), List.mem_of_getElem? (i := 441) (by decide +kernel), List.mem_of_getElem? (i := 442) (by decide +kernel)⟩
theorem lw_p35 : lw_okq (⟨"OneTricycle$Play", "neverRidden", "()I"⟩, 14) := ⟨⟨by decide +kernel, by decide +kernel⟩, List.mem_of_getElem? (i := 55) (by decide +kernel), List.mem_of_getElem? (i := 445) (by decide +kernel), List.mem_of_getElem? (i := 446) (by decide +kernel)⟩
theorem lw_p36 : lw_okq (⟨"OneTricycle$Play", "doIfItCanBe", "(II)Z"⟩, 14) := ⟨⟨by decide +kernel, by decide +kernel⟩, List.mem_of_getElem? (i := 55) (by decide +kernel), List.mem_of_getElem? (i := 475) (by decide +kernel), List.mem_of_getElem? (i := 476) (by decide +kernel)⟩
theorem lw_p37 : lw_okq (⟨"OneTricycle", "riddenByGroup", "(I)I"⟩, 9) := ⟨⟨by decide +kernel, by decide +kernel⟩, List.mem_of_getElem? (i := 12) (by decide +kernel), List.mem_of_getElem? (i := 489) (by decide +kernel), List.mem_of_getElem? (i := 490) (by decide +kernel)⟩
theorem lw_p38 : lw_okq (⟨"OneTricycle$Play", "leaveOnly", "(I)V"⟩, 14) := ⟨⟨by decide +kernel, by decide +kernel⟩, List.mem_of_getElem? (i := 55) (by decide +kernel), List.mem_of_getElem? (i := 493) (by decide +kernel), List.mem_of_getElem? (i := 494) (by decide +kernel)⟩
theorem lw_p39 : lw_okq (⟨"OneTricycle$Seen", "append", "(II)V"⟩, 3) := ⟨⟨by decide +kernel, by decide +kernel⟩, List.mem_of_getElem? (i := 155) (by decide +kernel), List.mem_of_getElem? (i := 515) (by decide +kernel), List.mem_of_getElem? (i := 516) (by decide +kernel)⟩
theorem lw_p40 : lw_okq (⟨"OneTricycle", "allSeenIsSoBy", "(I)Z"⟩, 9) := ⟨⟨by decide +kernel, by decide +kernel⟩, List.mem_of_getElem? (i := 12) (by decide +kernel), List.mem_of_getElem? (i := 527) (by decide +kernel), List.mem_of_getElem? (i := 528) (by decide +kernel)⟩
theorem lw_p41 : lw_okq (⟨"OneTricycle$Seen", "ridersIn", "(I)I"⟩, 3) := ⟨⟨by decide +kernel, by decide +kernel⟩, List.mem_of_getElem? (i := 155) (by decide +kernel), List.mem_of_getElem? (i := 531) (by decide +kernel), List.mem_of_getElem? (i := 532) (by decide +kernel)⟩
theorem lw_p42 : lw_okq (⟨"OneTricycle", "staysWith", "(IIII)Z"⟩, 9) := ⟨⟨by decide +kernel, by decide +kernel⟩, List.mem_of_getElem? (i := 12) (by decide +kernel), List.mem_of_getElem? (i := 539) (by decide +kernel), List.mem_of_getElem? (i := 540) (by decide +kernel)⟩
theorem lw_p43 : lw_okq (⟨"OneTricycle", "gain", "(IIII)I"⟩, 9) := ⟨⟨by decide +kernel, by decide +kernel⟩, List.mem_of_getElem? (i := 12) (by decide +kernel), List.mem_of_getElem? (i := 543) (by decide +kernel), List.mem_of_getElem? (i := 544) (by decide +kernel)⟩
theorem lw_p44 : lw_okq (⟨"OneTricycle", "ridesAfterWorms", "(III)Z"⟩, 9) := ⟨⟨by decide +kernel, by decide +kernel⟩, List.mem_of_getElem? (i := 12) (by decide +kernel), List.mem_of_getElem? (i := 554) (by decide +kernel), List.mem_of_getElem? (i := 555) (by decide +kernel)⟩
theorem lw_p45 : lw_okq (⟨"OneTricycleModel", "readGarden", "()I"⟩, 26) := ⟨⟨by decide +kernel, by decide +kernel⟩, List.mem_of_getElem? (i := 581) (by decide +kernel), List.mem_of_getElem? (i := 682) (by decide +kernel), List.mem_of_getElem? (i := 683) (by decide +kernel)⟩
theorem lw_p46 : lw_okq (⟨"OneTricycleModel", "readHead", "()Z"⟩, 26) := ⟨⟨by decide +kernel, by decide +kernel⟩, List.mem_of_getElem? (i := 581) (by decide +kernel), List.mem_of_getElem? (i := 686) (by decide +kernel), List.mem_of_getElem? (i := 687) (by decide +kernel)⟩
theorem lw_p47 : lw_okq (⟨"OneTricycleModel", "figure", "(II)I"⟩, 26) := ⟨⟨by decide +kernel, by decide +kernel⟩, List.mem_of_getElem? (i := 581) (by decide +kernel), List.mem_of_getElem? (i := 690) (by decide +kernel), List.mem_of_getElem? (i := 691) (by decide +kernel)⟩
def lw_privs_3 : List (MethodName × Nat) := [(⟨"OneTricycle", "outlook", "(I)I"⟩, 9), (⟨"OneTricycle$Play", "staredByAll", "()I"⟩, 14), (⟨"OneTricycle$Play", "gap", "()I"⟩, 14), (⟨"OneTricycle$Play", "neverRidden", "()I"⟩, 14), (⟨"OneTricycle$Play", "doIfItCanBe", "(II)Z"⟩, 14), (⟨"OneTricycle", "riddenByGroup", "(I)I"⟩, 9), (⟨"OneTricycle$Play", "leaveOnly", "(I)V"⟩, 14), (⟨"OneTricycle$Seen", "append", "(II)V"⟩, 3), (⟨"OneTricycle", "allSeenIsSoBy", "(I)Z"⟩, 9), (⟨"OneTricycle$Seen", "ridersIn", "(I)I"⟩, 3), (⟨"OneTricycle", "staysWith", "(IIII)Z"⟩, 9), (⟨"OneTricycle", "gain", "(IIII)I"⟩, 9), (⟨"OneTricycle", "ridesAfterWorms", "(III)Z"⟩, 9), (⟨"OneTricycleModel", "readGarden", "()I"⟩, 26), (⟨"OneTricycleModel", "readHead", "()Z"⟩, 26), (⟨"OneTricycleModel", "figure", "(II)I"⟩, 26)]
theorem lw_r3 : ∀ q ∈ lw_privs_3, lw_okq q := List.forall_mem_cons.mpr ⟨lw_p32, List.forall_mem_cons.mpr ⟨lw_p33, List.forall_mem_cons.mpr ⟨lw_p34, List.forall_mem_cons.mpr ⟨lw_p35, List.forall_mem_cons.mpr ⟨lw_p36, List.forall_mem_cons.mpr ⟨lw_p37, List.forall_mem_cons.mpr ⟨lw_p38, List.forall_mem_cons.mpr ⟨lw_p39, List.forall_mem_cons.mpr ⟨lw_p40, List.forall_mem_cons.mpr ⟨lw_p41, List.forall_mem_cons.mpr ⟨lw_p42, List.forall_mem_cons.mpr ⟨lw_p43, List.forall_mem_cons.mpr ⟨lw_p44, List.forall_mem_cons.mpr ⟨lw_p45, List.forall_mem_cons.mpr ⟨lw_p46, List.forall_mem_cons.mpr ⟨lw_p47, fun _ h => absurd h List.not_mem_nil⟩⟩⟩⟩⟩⟩⟩⟩⟩⟩⟩⟩⟩⟩⟩⟩
theorem lw_p48 : lw_okq (⟨"OneTricycleModel", "readOne", "()Z"⟩, 26) := ⟨⟨by decide +kernel, by decide +kernel⟩, List.mem_of_getElem? (i := 581) (by decide +kernel), List.mem_of_getElem? (i := 694) (by decide +kernel), List.mem_of_getElem? (i := 695) (by decide +kernel)⟩
theorem lw_p49 : lw_okq (⟨"OneTricycleModel", "all", "()I"⟩, 26) := ⟨⟨by decide +kernel, by decide +kernel⟩, List.mem_of_getElem? (i := 581) (by decide +kernel), List.mem_of_getElem? (i := 706) (by decide +kernel), List.mem_of_getElem? (i := 707) (by decide +kernel)⟩
theorem lw_p50 : lw_okq (⟨"OneTricycleModel", "wantsOf", "([I)I"⟩, 26) := ⟨⟨by decide +kernel, by decide +kernel⟩, List.mem_of_getElem? (i := 581) (by decide +kernel), List.mem_of_getElem? (i := 710) (by decide +kernel), List.mem_of_getElem? (i := 711) (by decide +kernel)⟩
theorem lw_p51 : lw_okq (⟨"OneTricycleModel", "asksOf", "([I)I"⟩, 26) := ⟨⟨by decide +kernel, by decide +kernel⟩, List.mem_of_getElem? (i := 581) (by decide +kernel), List.mem_of_getElem? (i := 717) (by decide +kernel), List.mem_of_getElem? (i := 718) (by decide +kernel)⟩
theorem lw_p52 : lw_okq (⟨"OneTricycleModel", "nextOf", "([I)I"⟩, 26) := ⟨⟨by decide +kernel, by decide +kernel⟩, List.mem_of_getElem? (i := 581) (by decide +kernel), List.mem_of_getElem? (i := 721) (by decide +kernel), List.mem_of_getElem? (i := 722) (by decide +kernel)⟩
theorem lw_p53 : lw_okq (⟨"OneTricycleModel", "claim", "([II)I"⟩, 26) := ⟨⟨by decide +kernel, by decide +kernel⟩, List.mem_of_getElem? (i := 581) (by decide +kernel), List.mem_of_getElem? (i := 725) (by decide +kernel), List.mem_of_getElem? (i := 726) (by decide +kernel)⟩
theorem lw_p54 : lw_okq (⟨"OneTricycleModel", "might", "(I)I"⟩, 26) := ⟨⟨by decide +kernel, by decide +kernel⟩, List.mem_of_getElem? (i := 581) (by decide +kernel), List.mem_of_getElem? (i := 729) (by decide +kernel), List.mem_of_getElem? (i := 730) (by decide +kernel)⟩
theorem lw_p55 : lw_okq (⟨"OneTricycleModel", "noChild", "(I)Z"⟩, 26) := ⟨⟨by decide +kernel, by decide +kernel⟩, List.mem_of_getElem? (i := 581) (by decide +kernel), List.mem_of_getElem? (i := 737) (by decide +kernel), List.mem_of_getElem? (i := 738) (by decide +kernel)⟩
theorem lw_p56 : lw_okq (⟨"OneTricycleModel", "note", "()V"⟩, 26) := ⟨⟨by decide +kernel, by decide +kernel⟩, List.mem_of_getElem? (i := 581) (by decide +kernel), List.mem_of_getElem? (i := 745) (by decide +kernel), List.mem_of_getElem? (i := 746) (by decide +kernel)⟩
theorem lw_p57 : lw_okq (⟨"OneTricycleModel", "goMinute", "([I)V"⟩, 26) := ⟨⟨by decide +kernel, by decide +kernel⟩, List.mem_of_getElem? (i := 581) (by decide +kernel), List.mem_of_getElem? (i := 749) (by decide +kernel), List.mem_of_getElem? (i := 750) (by decide +kernel)⟩
theorem lw_p58 : lw_okq (⟨"OneTricycleModel", "lookAt", "([II)V"⟩, 26) := ⟨⟨by decide +kernel, by decide +kernel⟩, List.mem_of_getElem? (i := 581) (by decide +kernel), List.mem_of_getElem? (i := 753) (by decide +kernel), List.mem_of_getElem? (i := 754) (by decide +kernel)⟩
theorem lw_p59 : lw_okq (⟨"OneTricycleModel", "go", "(III)V"⟩, 26) := ⟨⟨by decide +kernel, by decide +kernel⟩, List.mem_of_getElem? (i := 581) (by decide +kernel), List.mem_of_getElem? (i := 797) (by decide +kernel), List.mem_of_getElem? (i := 798) (by decide +kernel)⟩
theorem lw_p60 : lw_okq (⟨"OneTricycleModel", "begin", "()V"⟩, 26) := ⟨⟨by decide +kernel, by decide +kernel⟩, List.mem_of_getElem? (i := 581) (by decide +kernel), List.mem_of_getElem? (i := 801) (by decide +kernel), List.mem_of_getElem? (i := 802) (by decide +kernel)⟩
theorem lw_p61 : lw_okq (⟨"OneTricycleModel", "toldOf", "([II)I"⟩, 26) := ⟨⟨by decide +kernel, by decide +kernel⟩, List.mem_of_getElem? (i := 581) (by decide +kernel), List.mem_of_getElem? (i := 805) (by decide +kernel), List.mem_of_getElem? (i := 806) (by decide +kernel)⟩
theorem lw_p62 : lw_okq (⟨"OneTricycleModel", "sumOf", "([II)I"⟩, 26) := ⟨⟨by decide +kernel, by decide +kernel⟩, List.mem_of_getElem? (i := 581) (by decide +kernel), List.mem_of_getElem? (i := 809) (by decide +kernel), List.mem_of_getElem? (i := 810) (by decide +kernel)⟩
theorem lw_p63 : lw_okq (⟨"OneTricycleModel", "gapOf", "([I)I"⟩, 26) := ⟨⟨by decide +kernel, by decide +kernel⟩, List.mem_of_getElem? (i := 581) (by decide +kernel), List.mem_of_getElem? (i := 813) (by decide +kernel), List.mem_of_getElem? (i := 814) (by decide +kernel)⟩
def lw_privs_4 : List (MethodName × Nat) := [(⟨"OneTricycleModel", "readOne", "()Z"⟩, 26), (⟨"OneTricycleModel", "all", "()I"⟩, 26), (⟨"OneTricycleModel", "wantsOf", "([I)I"⟩, 26), (⟨"OneTricycleModel", "asksOf", "([I)I"⟩, 26), (⟨"OneTricycleModel", "nextOf", "([I)I"⟩, 26), (⟨"OneTricycleModel", "claim", "([II)I"⟩, 26), (⟨"OneTricycleModel", "might", "(I)I"⟩, 26), (⟨"OneTricycleModel", "noChild", "(I)Z"⟩, 26), (⟨"OneTricycleModel", "note", "()V"⟩, 26), (⟨"OneTricycleModel", "goMinute", "([I)V"⟩, 26), (⟨"OneTricycleModel", "lookAt", "([II)V"⟩, 26), (⟨"OneTricycleModel", "go", "(III)V"⟩, 26), (⟨"OneTricycleModel", "begin", "()V"⟩, 26), (⟨"OneTricycleModel", "toldOf", "([II)I"⟩, 26), (⟨"OneTricycleModel", "sumOf", "([II)I"⟩, 26), (⟨"OneTricycleModel", "gapOf", "([I)I"⟩, 26)]
theorem lw_r4 : ∀ q ∈ lw_privs_4, lw_okq q := List.forall_mem_cons.mpr ⟨lw_p48, List.forall_mem_cons.mpr ⟨lw_p49, List.forall_mem_cons.mpr ⟨lw_p50, List.forall_mem_cons.mpr ⟨lw_p51, List.forall_mem_cons.mpr ⟨lw_p52, List.forall_mem_cons.mpr ⟨lw_p53, List.forall_mem_cons.mpr ⟨lw_p54, List.forall_mem_cons.mpr ⟨lw_p55, List.forall_mem_cons.mpr ⟨lw_p56, List.forall_mem_cons.mpr ⟨lw_p57, List.forall_mem_cons.mpr ⟨lw_p58, List.forall_mem_cons.mpr ⟨lw_p59, List.forall_mem_cons.mpr ⟨lw_p60, List.forall_mem_cons.mpr ⟨lw_p61, List.forall_mem_cons.mpr ⟨lw_p62, List.forall_mem_cons.mpr ⟨lw_p63, fun _ h => absurd h List.not_mem_nil⟩⟩⟩⟩⟩⟩⟩⟩⟩⟩⟩⟩⟩⟩⟩⟩
theorem lw_p64 : lw_okq (⟨"OneTricycleModel", "does", "(I)Z"⟩, 26) := ⟨⟨by decide +kernel, by decide +kernel⟩, List.mem_of_getElem? (i := 581) (by decide +kernel), List.mem_of_getElem? (i := 846) (by decide +kernel), List.mem_of_getElem? (i := 847) (by decide +kernel)⟩
theorem lw_p65 : lw_okq (⟨"OneTricycleModel", "isSeen", "(I)Z"⟩, 26) := ⟨⟨by decide +kernel, by decide +kernel⟩, List.mem_of_getElem? (i := 581) (by decide +kernel), List.mem_of_getElem? (i := 876) (by decide +kernel), List.mem_of_getElem? (i := 877) (by decide +kernel)⟩
theorem lw_p66 : lw_okq (⟨"OneTricycleModel", "findRests", "(II)V"⟩, 26) := ⟨⟨by decide +kernel, by decide +kernel⟩, List.mem_of_getElem? (i := 581) (by decide +kernel), List.mem_of_getElem? (i := 884) (by decide +kernel), List.mem_of_getElem? (i := 885) (by decide +kernel)⟩
theorem lw_p67 : lw_okq (⟨"OneTricycleModel", "hasBy", "(IIII)I"⟩, 26) := ⟨⟨by decide +kernel, by decide +kernel⟩, List.mem_of_getElem? (i := 581) (by decide +kernel), List.mem_of_getElem? (i := 888) (by decide +kernel), List.mem_of_getElem? (i := 889) (by decide +kernel)⟩
def lw_privs_5 : List (MethodName × Nat) := [(⟨"OneTricycleModel", "does", "(I)Z"⟩, 26), (⟨"OneTricycleModel", "isSeen", "(I)Z"⟩, 26), (⟨"OneTricycleModel", "findRests", "(II)V"⟩, 26), (⟨"OneTricycleModel", "hasBy", "(IIII)I"⟩, 26)]
theorem lw_r5 : ∀ q ∈ lw_privs_5, lw_okq q := List.forall_mem_cons.mpr ⟨lw_p64, List.forall_mem_cons.mpr ⟨lw_p65, List.forall_mem_cons.mpr ⟨lw_p66, List.forall_mem_cons.mpr ⟨lw_p67, fun _ h => absurd h List.not_mem_nil⟩⟩⟩⟩
def lw_privs : List (MethodName × Nat) := lw_privs_1 ++ (lw_privs_2 ++ (lw_privs_3 ++ (lw_privs_4 ++ (lw_privs_5))))
def lw_tbl : List Cond := k2_sels lw_privs ++ tables_1
theorem lw_privs_ok : ∀ q ∈ lw_privs, lw_okq q := by
  show ∀ q ∈ lw_privs_1 ++ (lw_privs_2 ++ (lw_privs_3 ++ (lw_privs_4 ++ (lw_privs_5)))), lw_okq q
  exact List.forall_mem_append.mpr ⟨lw_r1, List.forall_mem_append.mpr ⟨lw_r2, List.forall_mem_append.mpr ⟨lw_r3, List.forall_mem_append.mpr ⟨lw_r4, lw_r5⟩⟩⟩⟩

theorem goodIn_r {big : List Cond} (ws : List Cond) (ps : List Nat) (hp : ws = ps.filterMap (fun i => big[i]?)) (h : ws.all goodWord = true) : GoodIn big ws := by
  intro w hw
  have h1 := List.all_eq_true.mp h w hw
  rw [hp] at hw
  obtain ⟨i, -, hi⟩ := List.mem_filterMap.mp hw
  have hm : w ∈ big := by first | exact List.mem_of_getElem? hi | exact List.getElem?_mem hi
  exact ⟨hm, good_of_word h1⟩
theorem goodIn_app {big a b : List Cond} (ha : GoodIn big a) (hb : GoodIn big b) : GoodIn big (a ++ b) := fun w h => (List.mem_append.mp h).elim (ha w) (hb w)
theorem goodIn_ca {big a b : List Cond} {c : Cond} (ha : GoodIn big (c :: a)) (hb : GoodIn big b) : GoodIn big (c :: (a ++ b)) := fun w h => (List.mem_cons.mp h).elim (fun e => ha w (List.mem_cons.mpr (Or.inl e))) (fun h => (List.mem_append.mp h).elim (fun h => ha w (List.mem_cons.mpr (Or.inr h))) (hb w))
theorem goodIn_sub {big ws : List Cond} (hm : ∀ w ∈ ws, w ∈ big) (h : ws.all goodWord = true) : GoodIn big ws := fun w hw => ⟨hm w hw, good_of_word (List.all_eq_true.mp h w hw)⟩
def RX0 : String := "OneTricycle$Acts"
def TX0 : u_T := fun k => match k with
  | 0 => ("OneTricycle$Acts", "before", "[LOneTricycle$Play;", true)
  | 1 => ("OneTricycle$Acts", "count", "I", false)
  | _ => ("OneTricycle$Acts", "end", "I", false)
def tyX0 : Nat → FieldType := fun k => match k with
  | 0 => .array (.object "OneTricycle$Play")
  | 1 => .int
  | _ => .int
abbrev wsX00 : List Cond := u_ws RX0 TX0 3
theorem nmX0 : ∀ a, a < 3 → ∀ b, b < 3 → a ≠ b → (TX0 a).2.1 ≠ (TX0 b).2.1 := by decide +kernel
theorem tyX0_ok : ∀ k, k < 3 → parseFieldDescriptor (TX0 k).2.2.1 = some (tyX0 k) := by decide +kernel
abbrev cX0_init : ByteArray := prog_2_method_1_code
def yX0_init : MethodName := ⟨RX0, "<init>", "(LOneTricycle$Kids;)V"⟩
abbrev cX0_remember : ByteArray := prog_2_method_2_code
def yX0_remember : MethodName := ⟨RX0, "remember", "(LOneTricycle$Play;)V"⟩
abbrev cX0_takeBack : ByteArray := prog_2_method_3_code
def yX0_takeBack : MethodName := ⟨RX0, "takeBack", "(LOneTricycle$Play;)V"⟩
abbrev cX0_forgetAll : ByteArray := prog_2_method_4_code
def yX0_forgetAll : MethodName := ⟨RX0, "forgetAll", "()V"⟩
def RX1 : String := "OneTricycle$Kids"
def TX1 : u_T := fun k => match k with
  | 0 => ("OneTricycle$Kids", "count", "I", false)
  | 1 => ("OneTricycle$Kids", "strength", "[I", true)
  | _ => ("OneTricycle$Kids", "kind", "[I", true)
def tyX1 : Nat → FieldType := fun k => match k with
  | 0 => .int
  | 1 => .array .int
  | _ => .array .int
abbrev wsX10 : List Cond := u_ws RX1 TX1 3
theorem nmX1 : ∀ a, a < 3 → ∀ b, b < 3 → a ≠ b → (TX1 a).2.1 ≠ (TX1 b).2.1 := by decide +kernel
theorem tyX1_ok : ∀ k, k < 3 → parseFieldDescriptor (TX1 k).2.2.1 = some (tyX1 k) := by decide +kernel
abbrev cX1_init : ByteArray := prog_3_method_1_code
def yX1_init : MethodName := ⟨RX1, "<init>", "()V"⟩
abbrev cX1_tellFrom : ByteArray := prog_3_method_2_code
def yX1_tellFrom : MethodName := ⟨RX1, "tellFrom", "(LOneTricycle$Text;)V"⟩
abbrev cX1_might : ByteArray := prog_3_method_3_code
def yX1_might : MethodName := ⟨RX1, "might", "(I)I"⟩
def RX2 : String := "OneTricycle$Play"
def TX2 : u_T := fun k => match k with
  | 0 => ("OneTricycle$Play", "kids", "LOneTricycle$Kids;", true)
  | 1 => ("OneTricycle$Play", "there", "I", false)
  | 2 => ("OneTricycle$Play", "riders", "I", false)
  | 3 => ("OneTricycle$Play", "last", "I", false)
  | 4 => ("OneTricycle$Play", "rule", "I", false)
  | 5 => ("OneTricycle$Play", "length", "I", false)
  | 6 => ("OneTricycle$Play", "things", "I", false)
  | 7 => ("OneTricycle$Play", "minutes", "I", false)
  | 8 => ("OneTricycle$Play", "wish", "[I", true)
  | 9 => ("OneTricycle$Play", "rode", "[I", true)
  | 10 => ("OneTricycle$Play", "ridden", "[I", true)
  | 11 => ("OneTricycle$Play", "stared", "[I", true)
  | 12 => ("OneTricycle$Play", "staredSince", "[I", true)
  | _ => ("OneTricycle$Play", "howled", "[I", true)
def tyX2 : Nat → FieldType := fun k => match k with
  | 0 => .object "OneTricycle$Kids"
  | 1 => .int
  | 2 => .int
  | 3 => .int
  | 4 => .int
  | 5 => .int
  | 6 => .int
  | 7 => .int
  | 8 => .array .int
  | 9 => .array .int
  | 10 => .array .int
  | 11 => .array .int
  | 12 => .array .int
  | _ => .array .int
abbrev wsX20 : List Cond := u_ws RX2 TX2 14
theorem nmX2 : ∀ a, a < 14 → ∀ b, b < 14 → a ≠ b → (TX2 a).2.1 ≠ (TX2 b).2.1 := by decide +kernel
theorem tyX2_ok : ∀ k, k < 14 → parseFieldDescriptor (TX2 k).2.2.1 = some (tyX2 k) := by decide +kernel
abbrev cX2_init : ByteArray := prog_4_method_1_code
def yX2_init : MethodName := ⟨RX2, "<init>", "(LOneTricycle$Kids;)V"⟩
abbrev cX2_startFrom : ByteArray := prog_4_method_2_code
def yX2_startFrom : MethodName := ⟨RX2, "startFrom", "(LOneTricycle$Text;)V"⟩
abbrev cX2_copyFrom : ByteArray := prog_4_method_3_code
def yX2_copyFrom : MethodName := ⟨RX2, "copyFrom", "(LOneTricycle$Play;)V"⟩
abbrev cX2_isThere : ByteArray := prog_4_method_4_code
def yX2_isThere : MethodName := ⟨RX2, "isThere", "(I)Z"⟩
abbrev cX2_rides : ByteArray := prog_4_method_5_code
def yX2_rides : MethodName := ⟨RX2, "rides", "(I)Z"⟩
abbrev cX2_wanting : ByteArray := prog_4_method_6_code
def yX2_wanting : MethodName := ⟨RX2, "wanting", "()I"⟩
abbrev cX2_asking : ByteArray := prog_4_method_7_code
def yX2_asking : MethodName := ⟨RX2, "asking", "()I"⟩
abbrev cX2_next : ByteArray := prog_4_method_8_code
def yX2_next : MethodName := ⟨RX2, "next", "()I"⟩
abbrev cX2_comesAhead : ByteArray := prog_4_method_9_code
def yX2_comesAhead : MethodName := ⟨RX2, "comesAhead", "(II)Z"⟩
abbrev cX2_passMinute : ByteArray := prog_4_method_10_code
def yX2_passMinute : MethodName := ⟨RX2, "passMinute", "()V"⟩
abbrev cX2_getOffIfDue : ByteArray := prog_4_method_11_code
def yX2_getOffIfDue : MethodName := ⟨RX2, "getOffIfDue", "(I)V"⟩
abbrev cX2_rideAndStare : ByteArray := prog_4_method_12_code
def yX2_rideAndStare : MethodName := ⟨RX2, "rideAndStare", "()V"⟩
abbrev cX2_getOn : ByteArray := prog_4_method_13_code
def yX2_getOn : MethodName := ⟨RX2, "getOn", "(I)V"⟩
abbrev cX2_getOff : ByteArray := prog_4_method_14_code
def yX2_getOff : MethodName := ⟨RX2, "getOff", "(I)V"⟩
abbrev cX2_canBePushed : ByteArray := prog_4_method_15_code
def yX2_canBePushed : MethodName := ⟨RX2, "canBePushed", "(I)Z"⟩
abbrev cX2_pushOff : ByteArray := prog_4_method_16_code
def yX2_pushOff : MethodName := ⟨RX2, "pushOff", "(I)V"⟩
abbrev cX2_canBeCalled : ByteArray := prog_4_method_17_code
def yX2_canBeCalled : MethodName := ⟨RX2, "canBeCalled", "(I)Z"⟩
abbrev cX2_callAway : ByteArray := prog_4_method_18_code
def yX2_callAway : MethodName := ⟨RX2, "callAway", "(I)V"⟩
abbrev cX2_setRule : ByteArray := prog_4_method_19_code
def yX2_setRule : MethodName := ⟨RX2, "setRule", "(II)V"⟩
abbrev cX2_putOrTakeAway : ByteArray := prog_4_method_20_code
def yX2_putOrTakeAway : MethodName := ⟨RX2, "putOrTakeAway", "()V"⟩
abbrev cX2_leaveRiding : ByteArray := prog_4_method_21_code
def yX2_leaveRiding : MethodName := ⟨RX2, "leaveRiding", "(I)V"⟩
abbrev cX2_leaveOnly : ByteArray := prog_4_method_22_code
def yX2_leaveOnly : MethodName := ⟨RX2, "leaveOnly", "(I)V"⟩
abbrev cX2_doIfItCanBe : ByteArray := prog_4_method_23_code
def yX2_doIfItCanBe : MethodName := ⟨RX2, "doIfItCanBe", "(II)Z"⟩
abbrev cX2_staredByAll : ByteArray := prog_4_method_24_code
def yX2_staredByAll : MethodName := ⟨RX2, "staredByAll", "()I"⟩
abbrev cX2_gap : ByteArray := prog_4_method_25_code
def yX2_gap : MethodName := ⟨RX2, "gap", "()I"⟩
abbrev cX2_neverRidden : ByteArray := prog_4_method_26_code
def yX2_neverRidden : MethodName := ⟨RX2, "neverRidden", "()I"⟩
def RX3 : String := "OneTricycle$Seen"
def TX3 : u_T := fun k => match k with
  | 0 => ("OneTricycle$Seen", "child", "[I", true)
  | 1 => ("OneTricycle$Seen", "minutes", "[I", true)
  | _ => ("OneTricycle$Seen", "count", "I", false)
def tyX3 : Nat → FieldType := fun k => match k with
  | 0 => .array .int
  | 1 => .array .int
  | _ => .int
abbrev wsX30 : List Cond := u_ws RX3 TX3 3
theorem nmX3 : ∀ a, a < 3 → ∀ b, b < 3 → a ≠ b → (TX3 a).2.1 ≠ (TX3 b).2.1 := by decide +kernel
theorem tyX3_ok : ∀ k, k < 3 → parseFieldDescriptor (TX3 k).2.2.1 = some (tyX3 k) := by decide +kernel
abbrev cX3_init : ByteArray := prog_5_method_1_code
def yX3_init : MethodName := ⟨RX3, "<init>", "()V"⟩
abbrev cX3_append : ByteArray := prog_5_method_2_code
def yX3_append : MethodName := ⟨RX3, "append", "(II)V"⟩
abbrev cX3_ridersIn : ByteArray := prog_5_method_3_code
def yX3_ridersIn : MethodName := ⟨RX3, "ridersIn", "(I)I"⟩
def RX4 : String := "OneTricycle$Slots"
def TX4 : u_T := fun k => match k with
  | 0 => ("OneTricycle$Slots", "plays", "[LOneTricycle$Play;", true)
  | _ => ("OneTricycle$Slots", "kept", "[Z", true)
def tyX4 : Nat → FieldType := fun k => match k with
  | 0 => .array (.object "OneTricycle$Play")
  | _ => .array .boolean
abbrev wsX40 : List Cond := u_ws RX4 TX4 2
theorem nmX4 : ∀ a, a < 2 → ∀ b, b < 2 → a ≠ b → (TX4 a).2.1 ≠ (TX4 b).2.1 := by decide +kernel
theorem tyX4_ok : ∀ k, k < 2 → parseFieldDescriptor (TX4 k).2.2.1 = some (tyX4 k) := by decide +kernel
abbrev cX4_init : ByteArray := prog_6_method_1_code
def yX4_init : MethodName := ⟨RX4, "<init>", "(LOneTricycle$Kids;)V"⟩
abbrev cX4_forgetAll : ByteArray := prog_6_method_2_code
def yX4_forgetAll : MethodName := ⟨RX4, "forgetAll", "()V"⟩
def RX5 : String := "OneTricycle$Text"
def TX5 : u_T := fun k => match k with
  | 0 => ("OneTricycle$Text", "letters", "[I", true)
  | _ => ("OneTricycle$Text", "length", "I", false)
def tyX5 : Nat → FieldType := fun k => match k with
  | 0 => .array .int
  | _ => .int
abbrev wsX50 : List Cond := u_ws RX5 TX5 2
theorem nmX5 : ∀ a, a < 2 → ∀ b, b < 2 → a ≠ b → (TX5 a).2.1 ≠ (TX5 b).2.1 := by decide +kernel
theorem tyX5_ok : ∀ k, k < 2 → parseFieldDescriptor (TX5 k).2.2.1 = some (tyX5 k) := by decide +kernel
abbrev cX5_init : ByteArray := prog_7_method_1_code
def yX5_init : MethodName := ⟨RX5, "<init>", "()V"⟩
abbrev cX5_append : ByteArray := prog_7_method_2_code
def yX5_append : MethodName := ⟨RX5, "append", "(I)V"⟩
abbrev cX5_faultPlace : ByteArray := prog_7_method_3_code
def yX5_faultPlace : MethodName := ⟨RX5, "faultPlace", "()I"⟩
abbrev cX5_fits : ByteArray := prog_7_method_4_code
def yX5_fits : MethodName := ⟨RX5, "fits", "(II)Z"⟩
abbrev cX5_fitsChild : ByteArray := prog_7_method_5_code
def yX5_fitsChild : MethodName := ⟨RX5, "fitsChild", "(II)Z"⟩
abbrev cX5_isFigure : ByteArray := prog_7_method_6_code
def yX5_isFigure : MethodName := ⟨RX5, "isFigure", "(III)Z"⟩
abbrev cX5_figure : ByteArray := prog_7_method_7_code
def yX5_figure : MethodName := ⟨RX5, "figure", "(I)I"⟩
abbrev cX5_figureOfChild : ByteArray := prog_7_method_8_code
def yX5_figureOfChild : MethodName := ⟨RX5, "figureOfChild", "(II)I"⟩
abbrev cX5_countChildren : ByteArray := prog_7_method_9_code
def yX5_countChildren : MethodName := ⟨RX5, "countChildren", "()I"⟩
def RX6 : String := "OneTricycle"
def TX6 : u_T := fun k => match k with
  | 0 => ("OneTricycle", "text", "LOneTricycle$Text;", true)
  | 1 => ("OneTricycle", "kids", "LOneTricycle$Kids;", true)
  | 2 => ("OneTricycle", "now", "LOneTricycle$Play;", true)
  | 3 => ("OneTricycle", "then", "LOneTricycle$Play;", true)
  | 4 => ("OneTricycle", "acts", "LOneTricycle$Acts;", true)
  | 5 => ("OneTricycle", "slots", "LOneTricycle$Slots;", true)
  | 6 => ("OneTricycle", "seen", "LOneTricycle$Seen;", true)
  | 7 => ("OneTricycle", "worths", "[I", true)
  | _ => ("OneTricycle", "seed", "J", false)
def tyX6 : Nat → FieldType := fun k => match k with
  | 0 => .object "OneTricycle$Text"
  | 1 => .object "OneTricycle$Kids"
  | 2 => .object "OneTricycle$Play"
  | 3 => .object "OneTricycle$Play"
  | 4 => .object "OneTricycle$Acts"
  | 5 => .object "OneTricycle$Slots"
  | 6 => .object "OneTricycle$Seen"
  | 7 => .array .int
  | _ => .long
abbrev wsX60 : List Cond := u_ws RX6 TX6 9
theorem nmX6 : ∀ a, a < 9 → ∀ b, b < 9 → a ≠ b → (TX6 a).2.1 ≠ (TX6 b).2.1 := by decide +kernel
theorem tyX6_ok : ∀ k, k < 9 → parseFieldDescriptor (TX6 k).2.2.1 = some (tyX6 k) := by decide +kernel
abbrev cX6_init : ByteArray := prog_1_method_1_code
def yX6_init : MethodName := ⟨RX6, "<init>", "()V"⟩
abbrev cX6_write : ByteArray := prog_1_method_2_code
def yX6_write : MethodName := ⟨RX6, "write", "(I)I"⟩
abbrev cX6_wipe : ByteArray := prog_1_method_3_code
def yX6_wipe : MethodName := ⟨RX6, "wipe", "()I"⟩
abbrev cX6_fault : ByteArray := prog_1_method_4_code
def yX6_fault : MethodName := ⟨RX6, "fault", "()I"⟩
abbrev cX6_garden : ByteArray := prog_1_method_5_code
def yX6_garden : MethodName := ⟨RX6, "garden", "()I"⟩
abbrev cX6_about : ByteArray := prog_1_method_6_code
def yX6_about : MethodName := ⟨RX6, "about", "(I)I"⟩
abbrev cX6_child : ByteArray := prog_1_method_7_code
def yX6_child : MethodName := ⟨RX6, "child", "(II)I"⟩
abbrev cX6_minute : ByteArray := prog_1_method_8_code
def yX6_minute : MethodName := ⟨RX6, "minute", "()I"⟩
abbrev cX6_give : ByteArray := prog_1_method_9_code
def yX6_give : MethodName := ⟨RX6, "give", "(II)I"⟩
abbrev cX6_push : ByteArray := prog_1_method_10_code
def yX6_push : MethodName := ⟨RX6, "push", "(I)I"⟩
abbrev cX6_call : ByteArray := prog_1_method_11_code
def yX6_call : MethodName := ⟨RX6, "call", "(I)I"⟩
abbrev cX6_rule : ByteArray := prog_1_method_12_code
def yX6_rule : MethodName := ⟨RX6, "rule", "(II)I"⟩
abbrev cX6_put : ByteArray := prog_1_method_13_code
def yX6_put : MethodName := ⟨RX6, "put", "()I"⟩
abbrev cX6_undo : ByteArray := prog_1_method_14_code
def yX6_undo : MethodName := ⟨RX6, "undo", "()I"⟩
abbrev cX6_ahead : ByteArray := prog_1_method_15_code
def yX6_ahead : MethodName := ⟨RX6, "ahead", "(II)I"⟩
abbrev cX6_by : ByteArray := prog_1_method_16_code
def yX6_by : MethodName := ⟨RX6, "by", "(IIII)I"⟩
abbrev cX6_bestLength : ByteArray := prog_1_method_17_code
def yX6_bestLength : MethodName := ⟨RX6, "bestLength", "(II)I"⟩
abbrev cX6_bestRule : ByteArray := prog_1_method_18_code
def yX6_bestRule : MethodName := ⟨RX6, "bestRule", "(I)I"⟩
abbrev cX6_first : ByteArray := prog_1_method_19_code
def yX6_first : MethodName := ⟨RX6, "first", "(I)I"⟩
abbrev cX6_second : ByteArray := prog_1_method_20_code
def yX6_second : MethodName := ⟨RX6, "second", "(I)I"⟩
abbrev cX6_judge : ByteArray := prog_1_method_21_code
def yX6_judge : MethodName := ⟨RX6, "judge", "(II)I"⟩
abbrev cX6_share : ByteArray := prog_1_method_22_code
def yX6_share : MethodName := ⟨RX6, "share", "(IZ)I"⟩
abbrev cX6_see : ByteArray := prog_1_method_23_code
def yX6_see : MethodName := ⟨RX6, "see", "(II)I"⟩
abbrev cX6_unsee : ByteArray := prog_1_method_24_code
def yX6_unsee : MethodName := ⟨RX6, "unsee", "()I"⟩
abbrev cX6_may : ByteArray := prog_1_method_25_code
def yX6_may : MethodName := ⟨RX6, "may", "()I"⟩
abbrev cX6_rests : ByteArray := prog_1_method_26_code
def yX6_rests : MethodName := ⟨RX6, "rests", "(III)I"⟩
abbrev cX6_chance : ByteArray := prog_1_method_27_code
def yX6_chance : MethodName := ⟨RX6, "chance", "(IIIZ)I"⟩
abbrev cX6_seed : ByteArray := prog_1_method_28_code
def yX6_seed : MethodName := ⟨RX6, "seed", "(J)J"⟩
abbrev cX6_days : ByteArray := prog_1_method_29_code
def yX6_days : MethodName := ⟨RX6, "days", "(I)I"⟩
abbrev cX6_keep : ByteArray := prog_1_method_30_code
def yX6_keep : MethodName := ⟨RX6, "keep", "(I)I"⟩
abbrev cX6_again : ByteArray := prog_1_method_31_code
def yX6_again : MethodName := ⟨RX6, "again", "(I)I"⟩
abbrev cX6_isRule : ByteArray := prog_1_method_32_code
def yX6_isRule : MethodName := ⟨RX6, "isRule", "(I)Z"⟩
abbrev cX6_isLength : ByteArray := prog_1_method_33_code
def yX6_isLength : MethodName := ⟨RX6, "isLength", "(I)Z"⟩
abbrev cX6_isOutlook : ByteArray := prog_1_method_34_code
def yX6_isOutlook : MethodName := ⟨RX6, "isOutlook", "(I)Z"⟩
abbrev cX6_isSlot : ByteArray := prog_1_method_35_code
def yX6_isSlot : MethodName := ⟨RX6, "isSlot", "(I)Z"⟩
abbrev cX6_has : ByteArray := prog_1_method_36_code
def yX6_has : MethodName := ⟨RX6, "has", "(II)Z"⟩
abbrev cX6_look : ByteArray := prog_1_method_37_code
def yX6_look : MethodName := ⟨RX6, "look", "(IIII)V"⟩
abbrev cX6_outlook : ByteArray := prog_1_method_38_code
def yX6_outlook : MethodName := ⟨RX6, "outlook", "(I)I"⟩
abbrev cX6_riddenByGroup : ByteArray := prog_1_method_39_code
def yX6_riddenByGroup : MethodName := ⟨RX6, "riddenByGroup", "(I)I"⟩
abbrev cX6_allSeenIsSoBy : ByteArray := prog_1_method_40_code
def yX6_allSeenIsSoBy : MethodName := ⟨RX6, "allSeenIsSoBy", "(I)Z"⟩
abbrev cX6_staysWith : ByteArray := prog_1_method_41_code
def yX6_staysWith : MethodName := ⟨RX6, "staysWith", "(IIII)Z"⟩
abbrev cX6_gain : ByteArray := prog_1_method_42_code
def yX6_gain : MethodName := ⟨RX6, "gain", "(IIII)I"⟩
abbrev cX6_weightOfWorms : ByteArray := prog_1_method_43_code
def yX6_weightOfWorms : MethodName := ⟨RX6, "weightOfWorms", "(III)I"⟩
abbrev cX6_ridesAfterWorms : ByteArray := prog_1_method_44_code
def yX6_ridesAfterWorms : MethodName := ⟨RX6, "ridesAfterWorms", "(III)Z"⟩
abbrev cX6_fraction : ByteArray := prog_1_method_45_code
def yX6_fraction : MethodName := ⟨RX6, "fraction", "(IIZ)I"⟩
abbrev cX6_commonDivisor : ByteArray := prog_1_method_46_code
def yX6_commonDivisor : MethodName := ⟨RX6, "commonDivisor", "(II)I"⟩
def RX7 : String := "OneTricycleModel"
def TX7 : u_T := fun k => match k with
  | 0 => ("OneTricycleModel", "thrown", "I", false)
  | 1 => ("OneTricycleModel", "text", "[I", true)
  | 2 => ("OneTricycleModel", "textSize", "I", false)
  | 3 => ("OneTricycleModel", "place", "I", false)
  | 4 => ("OneTricycleModel", "children", "I", false)
  | 5 => ("OneTricycleModel", "strong", "[I", true)
  | 6 => ("OneTricycleModel", "kind", "[I", true)
  | 7 => ("OneTricycleModel", "readRule", "I", false)
  | 8 => ("OneTricycleModel", "readLength", "I", false)
  | 9 => ("OneTricycleModel", "readThings", "I", false)
  | 10 => ("OneTricycleModel", "readChildren", "I", false)
  | 11 => ("OneTricycleModel", "readChild", "[I", true)
  | 12 => ("OneTricycleModel", "page", "[I", true)
  | 13 => ("OneTricycleModel", "trial", "[I", true)
  | 14 => ("OneTricycleModel", "book", "[I", true)
  | 15 => ("OneTricycleModel", "acts", "I", false)
  | 16 => ("OneTricycleModel", "kept", "[I", true)
  | 17 => ("OneTricycleModel", "isKept", "[Z", true)
  | 18 => ("OneTricycleModel", "seen", "I", false)
  | 19 => ("OneTricycleModel", "seenChild", "[I", true)
  | 20 => ("OneTricycleModel", "seenMinute", "[I", true)
  | 21 => ("OneTricycleModel", "seed", "J", false)
  | 22 => ("OneTricycleModel", "restMany", "I", false)
  | 23 => ("OneTricycleModel", "restFirst", "I", false)
  | 24 => ("OneTricycleModel", "value", "[I", true)
  | _ => ("OneTricycleModel", "there", "I", false)
def tyX7 : Nat → FieldType := fun k => match k with
  | 0 => .int
  | 1 => .array .int
  | 2 => .int
  | 3 => .int
  | 4 => .int
  | 5 => .array .int
  | 6 => .array .int
  | 7 => .int
  | 8 => .int
  | 9 => .int
  | 10 => .int
  | 11 => .array .int
  | 12 => .array .int
  | 13 => .array .int
  | 14 => .array .int
  | 15 => .int
  | 16 => .array .int
  | 17 => .array .boolean
  | 18 => .int
  | 19 => .array .int
  | 20 => .array .int
  | 21 => .long
  | 22 => .int
  | 23 => .int
  | 24 => .array .int
  | _ => .int
abbrev wsX70 : List Cond := u_ws RX7 TX7 26
theorem nmX7 : ∀ a, a < 26 → ∀ b, b < 26 → a ≠ b → (TX7 a).2.1 ≠ (TX7 b).2.1 := by decide +kernel
theorem tyX7_ok : ∀ k, k < 26 → parseFieldDescriptor (TX7 k).2.2.1 = some (tyX7 k) := by decide +kernel
abbrev cX7_init : ByteArray := prog_9_method_1_code
def yX7_init : MethodName := ⟨RX7, "<init>", "()V"⟩
abbrev cX7_in : ByteArray := prog_9_method_3_code
def yX7_in : MethodName := ⟨RX7, "in", "(JJJ)Z"⟩
abbrev cX7_has : ByteArray := prog_9_method_4_code
def yX7_has : MethodName := ⟨RX7, "has", "(II)Z"⟩
abbrev cX7_many : ByteArray := prog_9_method_5_code
def yX7_many : MethodName := ⟨RX7, "many", "(I)I"⟩
abbrev cX7_noChild : ByteArray := prog_9_method_6_code
def yX7_noChild : MethodName := ⟨RX7, "noChild", "(I)Z"⟩
abbrev cX7_write : ByteArray := prog_9_method_7_code
def yX7_write : MethodName := ⟨RX7, "write", "(I)I"⟩
abbrev cX7_wipe : ByteArray := prog_9_method_8_code
def yX7_wipe : MethodName := ⟨RX7, "wipe", "()I"⟩
abbrev cX7_figure : ByteArray := prog_9_method_9_code
def yX7_figure : MethodName := ⟨RX7, "figure", "(II)I"⟩
abbrev cX7_readHead : ByteArray := prog_9_method_10_code
def yX7_readHead : MethodName := ⟨RX7, "readHead", "()Z"⟩
abbrev cX7_readOne : ByteArray := prog_9_method_11_code
def yX7_readOne : MethodName := ⟨RX7, "readOne", "()Z"⟩
abbrev cX7_readGarden : ByteArray := prog_9_method_12_code
def yX7_readGarden : MethodName := ⟨RX7, "readGarden", "()I"⟩
abbrev cX7_fault : ByteArray := prog_9_method_13_code
def yX7_fault : MethodName := ⟨RX7, "fault", "()I"⟩
abbrev cX7_garden : ByteArray := prog_9_method_14_code
def yX7_garden : MethodName := ⟨RX7, "garden", "()I"⟩
abbrev cX7_might : ByteArray := prog_9_method_15_code
def yX7_might : MethodName := ⟨RX7, "might", "(I)I"⟩
abbrev cX7_wantsOf : ByteArray := prog_9_method_16_code
def yX7_wantsOf : MethodName := ⟨RX7, "wantsOf", "([I)I"⟩
abbrev cX7_asksOf : ByteArray := prog_9_method_17_code
def yX7_asksOf : MethodName := ⟨RX7, "asksOf", "([I)I"⟩
abbrev cX7_claim : ByteArray := prog_9_method_18_code
def yX7_claim : MethodName := ⟨RX7, "claim", "([II)I"⟩
abbrev cX7_nextOf : ByteArray := prog_9_method_19_code
def yX7_nextOf : MethodName := ⟨RX7, "nextOf", "([I)I"⟩
abbrev cX7_getOff : ByteArray := prog_9_method_20_code
def yX7_getOff : MethodName := ⟨RX7, "getOff", "([II)V"⟩
abbrev cX7_getOn : ByteArray := prog_9_method_21_code
def yX7_getOn : MethodName := ⟨RX7, "getOn", "([II)V"⟩
abbrev cX7_lookAt : ByteArray := prog_9_method_22_code
def yX7_lookAt : MethodName := ⟨RX7, "lookAt", "([II)V"⟩
abbrev cX7_goMinute : ByteArray := prog_9_method_23_code
def yX7_goMinute : MethodName := ⟨RX7, "goMinute", "([I)V"⟩
abbrev cX7_all : ByteArray := prog_9_method_24_code
def yX7_all : MethodName := ⟨RX7, "all", "()I"⟩
abbrev cX7_sumOf : ByteArray := prog_9_method_25_code
def yX7_sumOf : MethodName := ⟨RX7, "sumOf", "([II)I"⟩
abbrev cX7_about : ByteArray := prog_9_method_26_code
def yX7_about : MethodName := ⟨RX7, "about", "(I)I"⟩
abbrev cX7_child : ByteArray := prog_9_method_27_code
def yX7_child : MethodName := ⟨RX7, "child", "(II)I"⟩
abbrev cX7_note : ByteArray := prog_9_method_28_code
def yX7_note : MethodName := ⟨RX7, "note", "()V"⟩
abbrev cX7_minute : ByteArray := prog_9_method_29_code
def yX7_minute : MethodName := ⟨RX7, "minute", "()I"⟩
abbrev cX7_give : ByteArray := prog_9_method_30_code
def yX7_give : MethodName := ⟨RX7, "give", "(II)I"⟩
abbrev cX7_push : ByteArray := prog_9_method_31_code
def yX7_push : MethodName := ⟨RX7, "push", "(I)I"⟩
abbrev cX7_call : ByteArray := prog_9_method_32_code
def yX7_call : MethodName := ⟨RX7, "call", "(I)I"⟩
abbrev cX7_rule : ByteArray := prog_9_method_33_code
def yX7_rule : MethodName := ⟨RX7, "rule", "(II)I"⟩
abbrev cX7_put : ByteArray := prog_9_method_34_code
def yX7_put : MethodName := ⟨RX7, "put", "()I"⟩
abbrev cX7_undo : ByteArray := prog_9_method_35_code
def yX7_undo : MethodName := ⟨RX7, "undo", "()I"⟩
abbrev cX7_begin : ByteArray := prog_9_method_36_code
def yX7_begin : MethodName := ⟨RX7, "begin", "()V"⟩
abbrev cX7_go : ByteArray := prog_9_method_37_code
def yX7_go : MethodName := ⟨RX7, "go", "(III)V"⟩
abbrev cX7_gapOf : ByteArray := prog_9_method_38_code
def yX7_gapOf : MethodName := ⟨RX7, "gapOf", "([I)I"⟩
abbrev cX7_toldOf : ByteArray := prog_9_method_39_code
def yX7_toldOf : MethodName := ⟨RX7, "toldOf", "([II)I"⟩
abbrev cX7_ahead : ByteArray := prog_9_method_40_code
def yX7_ahead : MethodName := ⟨RX7, "ahead", "(II)I"⟩
abbrev cX7_by : ByteArray := prog_9_method_41_code
def yX7_by : MethodName := ⟨RX7, "by", "(IIII)I"⟩
abbrev cX7_bestLength : ByteArray := prog_9_method_42_code
def yX7_bestLength : MethodName := ⟨RX7, "bestLength", "(II)I"⟩
abbrev cX7_bestRule : ByteArray := prog_9_method_43_code
def yX7_bestRule : MethodName := ⟨RX7, "bestRule", "(I)I"⟩
abbrev cX7_first : ByteArray := prog_9_method_44_code
def yX7_first : MethodName := ⟨RX7, "first", "(I)I"⟩
abbrev cX7_second : ByteArray := prog_9_method_45_code
def yX7_second : MethodName := ⟨RX7, "second", "(I)I"⟩
abbrev cX7_power : ByteArray := prog_9_method_46_code
def yX7_power : MethodName := ⟨RX7, "power", "(II)I"⟩
abbrev cX7_does : ByteArray := prog_9_method_47_code
def yX7_does : MethodName := ⟨RX7, "does", "(I)Z"⟩
abbrev cX7_judge : ByteArray := prog_9_method_48_code
def yX7_judge : MethodName := ⟨RX7, "judge", "(II)I"⟩
abbrev cX7_ways : ByteArray := prog_9_method_49_code
def yX7_ways : MethodName := ⟨RX7, "ways", "(I)I"⟩
abbrev cX7_divisor : ByteArray := prog_9_method_50_code
def yX7_divisor : MethodName := ⟨RX7, "divisor", "(II)I"⟩
abbrev cX7_fraction : ByteArray := prog_9_method_51_code
def yX7_fraction : MethodName := ⟨RX7, "fraction", "(IIZ)I"⟩
abbrev cX7_share : ByteArray := prog_9_method_52_code
def yX7_share : MethodName := ⟨RX7, "share", "(IZ)I"⟩
abbrev cX7_see : ByteArray := prog_9_method_53_code
def yX7_see : MethodName := ⟨RX7, "see", "(II)I"⟩
abbrev cX7_unsee : ByteArray := prog_9_method_54_code
def yX7_unsee : MethodName := ⟨RX7, "unsee", "()I"⟩
abbrev cX7_isSeen : ByteArray := prog_9_method_55_code
def yX7_isSeen : MethodName := ⟨RX7, "isSeen", "(I)Z"⟩
abbrev cX7_may : ByteArray := prog_9_method_56_code
def yX7_may : MethodName := ⟨RX7, "may", "()I"⟩
abbrev cX7_hasBy : ByteArray := prog_9_method_57_code
def yX7_hasBy : MethodName := ⟨RX7, "hasBy", "(IIII)I"⟩
abbrev cX7_findRests : ByteArray := prog_9_method_58_code
def yX7_findRests : MethodName := ⟨RX7, "findRests", "(II)V"⟩
abbrev cX7_rests : ByteArray := prog_9_method_59_code
def yX7_rests : MethodName := ⟨RX7, "rests", "(III)I"⟩
abbrev cX7_chance : ByteArray := prog_9_method_60_code
def yX7_chance : MethodName := ⟨RX7, "chance", "(IIIZ)I"⟩
abbrev cX7_seed : ByteArray := prog_9_method_61_code
def yX7_seed : MethodName := ⟨RX7, "seed", "(J)J"⟩
abbrev cX7_days : ByteArray := prog_9_method_62_code
def yX7_days : MethodName := ⟨RX7, "days", "(I)I"⟩
abbrev cX7_keep : ByteArray := prog_9_method_63_code
def yX7_keep : MethodName := ⟨RX7, "keep", "(I)I"⟩
abbrev cX7_again : ByteArray := prog_9_method_64_code
def yX7_again : MethodName := ⟨RX7, "again", "(I)I"⟩
def RJ6 : String := "java/lang/Integer"
def TJ6 : u_T := fun k => match k with
  | _ => ("", "", "", false)
def tyJ6 : Nat → FieldType := fun k => match k with
  | _ => .int
abbrev wsJ60 : List Cond := u_ws RJ6 TJ6 0
theorem nmJ6 : ∀ a, a < 0 → ∀ b, b < 0 → a ≠ b → (TJ6 a).2.1 ≠ (TJ6 b).2.1 := by decide +kernel
theorem tyJ6_ok : ∀ k, k < 0 → parseFieldDescriptor (TJ6 k).2.2.1 = some (tyJ6 k) := by decide +kernel
abbrev cJ6_bitCount_0f7a4 : ByteArray := prog_10_method_49_code
def yJ6_bitCount_0f7a4 : MethodName := ⟨RJ6, "bitCount", "(I)I"⟩
def RJ9 : String := "java/lang/Math"
def TJ9 : u_T := fun k => match k with
  | _ => ("", "", "", false)
def tyJ9 : Nat → FieldType := fun k => match k with
  | _ => .int
abbrev wsJ90 : List Cond := u_ws RJ9 TJ9 0
theorem nmJ9 : ∀ a, a < 0 → ∀ b, b < 0 → a ≠ b → (TJ9 a).2.1 ≠ (TJ9 b).2.1 := by decide +kernel
theorem tyJ9_ok : ∀ k, k < 0 → parseFieldDescriptor (TJ9 k).2.2.1 = some (tyJ9 k) := by decide +kernel
abbrev cJ9_abs_0f7a4 : ByteArray := prog_11_method_59_code
def yJ9_abs_0f7a4 : MethodName := ⟨RJ9, "abs", "(I)I"⟩
abbrev cJ9_max_7cf53 : ByteArray := prog_11_method_65_code
def yJ9_max_7cf53 : MethodName := ⟨RJ9, "max", "(II)I"⟩
abbrev cJ9_min_7cf53 : ByteArray := prog_11_method_69_code
def yJ9_min_7cf53 : MethodName := ⟨RJ9, "min", "(II)I"⟩
def RL : String := "OneTricycleLaw"
abbrev cL_law : ByteArray := code
def yL_law : MethodName := ⟨RL, "law", "([I)Z"⟩
abbrev vwCl : List vw_C := [(RX0, TX0, 3), (RX1, TX1, 3), (RX2, TX2, 14), (RX3, TX3, 3), (RX4, TX4, 2), (RX5, TX5, 2), (RX6, TX6, 9), (RX7, TX7, 26)]
end
section
/-! THE HEAP OF BOTH SIDES: rows of numbers. Rows 0 .. 17: the Plays (now 0, then 1, those of Acts 2 .. 15, of Slots 16, 17), each laid as the reference's page is (wish 0, rode 5, ridden 10, stared 15, since 20, howled 25, riders 30, last 31, rule 32, length 33, things 34, minutes 35) and there at 36; rows 18 .. 32 the rest of the class, 33 .. 45 the reference: of an object the int field k at k, of an array its places. -/
abbrev Row : Type := Nat → Int32
abbrev Hp : Type := Nat → Row
abbrev Gp : Type := Nat → Int64
abbrev Ev : Type := va_G × ClassId × ClassId × ClassId
def su (h : Hp) (r : Nat) (P : Row) : Hp := fun q => if q = r then P else h q
def sg (g : Gp) (r : Nat) (x : Int64) : Gp := fun q => if q = r then x else g q
def clip (o : Nat) (P : Row) : Row := fun j => if j < 5 then P (o + j) else 0
theorem su_same (h : Hp) (r : Nat) (P : Row) : su h r P r = P := if_pos rfl
theorem su_ne {h : Hp} {r q : Nat} {P : Row} (hq : q ≠ r) : su h r P q = h q := if_neg hq
theorem su_su (h : Hp) (r : Nat) (P P2 : Row) : su (su h r P) r P2 = su h r P2 := by
  funext q
  by_cases hq : q = r
  · subst hq
    rw [su_same, su_same]
  · rw [su_ne hq, su_ne hq, su_ne hq]
theorem su_self (h : Hp) (r : Nat) : su h r (h r) = h := by
  funext q
  by_cases hq : q = r
  · subst hq
    rw [su_same]
  · rw [su_ne hq]
theorem sg_same (g : Gp) (r : Nat) (x : Int64) : sg g r x r = x := if_pos rfl
theorem sg_ne {g : Gp} {r q : Nat} {x : Int64} (hq : q ≠ r) : sg g r x q = g q := if_neg hq
theorem clip_far {P : Row} {o k : Nat} (x : Int32) (hk : k < o ∨ o + 5 ≤ k) : clip o (upd P k x) = clip o P := by
  funext j
  unfold clip upd
  by_cases hj : j < 5
  · rw [if_pos hj, if_pos hj, if_neg (by omega)]
  · rw [if_neg hj, if_neg hj]
theorem clip_put {P : Row} {o k : Nat} (x : Int32) (hk : k < 5) : clip o (upd P (o + k) x) = upd (clip o P) k x := by
  funext j
  show (if j < 5 then (if o + j = o + k then x else P (o + j)) else 0) = if j = k then x else (if j < 5 then P (o + j) else 0)
  by_cases hj : j < 5
  · by_cases e : j = k
    · subst e
      simp [hj]
    · rw [if_pos hj, if_neg (by omega), if_neg e, if_pos hj]
  · rw [if_neg hj, if_neg (by omega), if_neg hj]
def lenO (r : Nat) : Nat := match r with
  | 20 => 32 | 22 => 5 | 23 => 5 | 30 => 6 | 31 => 6 | 32 => 32 | 34 => 32 | 35 => 5 | 36 => 5 | 37 => 15 | 38 => 36 | 39 => 36 | 40 => 504 | 41 => 72 | 43 => 6 | 44 => 6 | _ => 32
def entP (E : Ev) (ad : Nat → Nat) (P : Row) (b s : Nat) : va_E :=
  if s = 0 then .inr (2, [.ref (ad 129), .int (P 36), .int (P 30), .int (P 31), .int (P 32), .int (P 33), .int (P 34), .int (P 35), .ref (ad (7 * b + 1)), .ref (ad (7 * b + 2)), .ref (ad (7 * b + 3)), .ref (ad (7 * b + 4)), .ref (ad (7 * b + 5)), .ref (ad (7 * b + 6))])
  else .inl (E.2.1, 5, .inl (clip (5 * (s - 1)) P))
def entO (E : Ev) (ad : Nat → Nat) (H : Row) (g : Int64) (r : Nat) : va_E := match r with
  | 18 => .inr (6, [.ref (ad 127), .ref (ad 129), .ref (ad 0), .ref (ad 7), .ref (ad 132), .ref (ad 134), .ref (ad 137), .ref (ad 140), .long g])
  | 19 => .inr (5, [.ref (ad 128), .int (H 1)])
  | 21 => .inr (1, [.int (H 0), .ref (ad 130), .ref (ad 131)])
  | 24 => .inr (0, [.ref (ad 133), .int (H 1), .int (H 2)])
  | 25 => .inl (E.2.2.2, 14, .inr (.inr (.inr (.inr (fun j => some (ad (7 * (2 + j))))))))
  | 26 => .inr (4, [.ref (ad 135), .ref (ad 136)])
  | 27 => .inl (E.2.2.2, 2, .inr (.inr (.inr (.inr (fun j => some (ad (7 * (16 + j))))))))
  | 28 => .inl (E.2.2.1, 2, .inl H)
  | 29 => .inr (3, [.ref (ad 138), .ref (ad 139), .int (H 2)])
  | 33 => .inr (7, [.int (H 0), .ref (ad 142), .int (H 2), .int (H 3), .int (H 4), .ref (ad 143), .ref (ad 144), .int (H 7), .int (H 8), .int (H 9), .int (H 10), .ref (ad 145), .ref (ad 146), .ref (ad 147), .ref (ad 148), .int (H 15), .ref (ad 149), .ref (ad 150), .int (H 18), .ref (ad 151), .ref (ad 152), .long g, .int (H 22), .int (H 23), .ref (ad 153), .int (H 25)])
  | 42 => .inl (E.2.2.1, 2, .inl H)
  | r => .inl (E.2.1, lenO r, .inl H)
def ent (E : Ev) (ad : Nat → Nat) (h : Hp) (g : Gp) (i : Nat) : va_E :=
  if i < 126 then entP E ad (h (i / 7)) (i / 7) (i % 7) else entO E ad (h (i - 108)) (g (i - 108)) (i - 108)
def wld (E : Ev) (ad : Nat → Nat) (h : Hp) (g : Gp) : va_W := (List.range 154).map (fun i => (ad i, ent E ad h g i))
def adA (ad : Nat → Nat) : Nat → Prop := fun q => ∃ i, i < 154 ∧ q = ad i
def Inj (ad : Nat → Nat) : Prop := ∀ i j, i < 154 → j < 154 → ad i = ad j → i = j
theorem wl_at {E : Ev} {ad : Nat → Nat} {h : Hp} {g : Gp} {i : Nat} (hi : i < 154) : (wld E ad h g)[i]? = some (ad i, ent E ad h g i) := by
  unfold wld
  rw [List.getElem?_map, List.getElem?_range hi]
  rfl
theorem wl_out {E : Ev} {ad : Nat → Nat} {h : Hp} {g : Gp} {i : Nat} (hi : ¬ i < 154) : (wld E ad h g)[i]? = none := by
  unfold wld
  rw [List.getElem?_eq_none]
  simp only [List.length_map, List.length_range]
  omega
theorem wl_get {E : Ev} {ad : Nat → Nat} {h : Hp} {g : Gp} {i : Nat} {q : Nat × va_E} (hq : (wld E ad h g)[i]? = some q) : i < 154 ∧ q = (ad i, ent E ad h g i) := by
  by_cases hi : i < 154
  · rw [wl_at hi] at hq
    exact ⟨hi, (Option.some.inj hq).symm⟩
  · rw [wl_out hi] at hq
    cases hq
theorem wD {E : Ev} {ad : Nat → Nat} {h : Hp} {g : Gp} (hI : Inj ad) : va_D (adA ad) (wld E ad h g) := by
  refine ⟨fun i j p q hp hq e => ?_, fun k q hq => ?_⟩
  · obtain ⟨h1, rfl⟩ := wl_get hp
    obtain ⟨h2, rfl⟩ := wl_get hq
    exact hI i j h1 h2 e
  · obtain ⟨h1, rfl⟩ := wl_get hq
    exact ⟨k, h1, rfl⟩
theorem wset {E : Ev} {ad : Nat → Nat} {h h2 : Hp} {g g2 : Gp} {i : Nat} {En : va_E} (hi : i < 154) (hE : ent E ad h2 g2 i = En) (hne : ∀ j, j < 154 → j ≠ i → ent E ad h2 g2 j = ent E ad h g j) : (wld E ad h g).set i (ad i, En) = wld E ad h2 g2 := by
  apply List.ext_getElem?
  intro j
  by_cases hj : j < 154
  · by_cases e : j = i
    · subst e
      rw [List.getElem?_set_self (by unfold wld; simp only [List.length_map, List.length_range]; exact hj), wl_at hj, hE]
    · rw [List.getElem?_set_ne (fun q => e q.symm), wl_at hj, wl_at hj, hne j hj e]
  · rw [wl_out hj, List.getElem?_eq_none]
    unfold wld
    simp only [List.length_set, List.length_map, List.length_range]
    omega
theorem ent_P {E : Ev} {ad : Nat → Nat} {h : Hp} {g : Gp} {b s : Nat} (hb : b < 18) (hs : s < 7) : ent E ad h g (7 * b + s) = entP E ad (h b) b s := by
  unfold ent
  rw [if_pos (by omega), show (7 * b + s) / 7 = b by omega, show (7 * b + s) % 7 = s by omega]
theorem ent_O {E : Ev} {ad : Nat → Nat} {h : Hp} {g : Gp} {r : Nat} (hr : 18 ≤ r) : ent E ad h g (r + 108) = entO E ad (h r) (g r) r := by
  unfold ent
  rw [if_neg (by omega), show r + 108 - 108 = r by omega]
/-- a Play's row changes: all but its own cells stay -/
theorem ent_su_ne {E : Ev} {ad : Nat → Nat} {h : Hp} {g : Gp} {b : Nat} {P P2 : Row} (hb : b < 18) {j : Nat} (hj : j < 154) (hn : ¬ (7 * b ≤ j ∧ j < 7 * b + 7)) : ent E ad (su h b P2) g j = ent E ad (su h b P) g j := by
  unfold ent
  by_cases h1 : j < 126
  · rw [if_pos h1, if_pos h1, su_ne (by omega), su_ne (by omega)]
  · rw [if_neg h1, if_neg h1, su_ne (by omega), su_ne (by omega)]
theorem wl_P0 {E : Ev} {ad : Nat → Nat} {h : Hp} {g : Gp} {b : Nat} {P : Row} (e : h b = P) (hb : b < 18) : (wld E ad h g)[7 * b]? = some (ad (7 * b), .inr (2, [.ref (ad 129), .int (P 36), .int (P 30), .int (P 31), .int (P 32), .int (P 33), .int (P 34), .int (P 35), .ref (ad (7 * b + 1)), .ref (ad (7 * b + 2)), .ref (ad (7 * b + 3)), .ref (ad (7 * b + 4)), .ref (ad (7 * b + 5)), .ref (ad (7 * b + 6))])) := by
  rw [wl_at (by omega), show ent E ad h g (7 * b) = entP E ad (h b) b 0 from ent_P (s := 0) hb (by omega), e]
  rfl
theorem wl_Ps {E : Ev} {ad : Nat → Nat} {h : Hp} {g : Gp} {b s : Nat} {P : Row} (e : h b = P) (hb : b < 18) (hs : s < 7) (h0 : 0 < s) : (wld E ad h g)[7 * b + s]? = some (ad (7 * b + s), .inl (E.2.1, 5, .inl (clip (5 * (s - 1)) P))) := by
  rw [wl_at (by omega), ent_P hb hs, e]
  unfold entP
  rw [if_neg (by omega)]
theorem wset_P0 {E : Ev} {ad : Nat → Nat} {h : Hp} {g : Gp} {b k : Nat} {P : Row} {x : Int32} {En : va_E} (hb : b < 18) (hk : 30 ≤ k) (hE : entP E ad (upd P k x) b 0 = En) : (wld E ad (su h b P) g).set (7 * b) (ad (7 * b), En) = wld E ad (su h b (upd P k x)) g := by
  refine wset (by omega) ?_ ?_
  · rw [← hE, show ent E ad (su h b (upd P k x)) g (7 * b) = entP E ad (su h b (upd P k x) b) b 0 from ent_P (s := 0) hb (by omega), su_same]
  · intro j hj hne
    by_cases hn : 7 * b ≤ j ∧ j < 7 * b + 7
    · obtain ⟨s, hs, rfl⟩ : ∃ s, s < 7 ∧ j = 7 * b + s := ⟨j - 7 * b, by omega, by omega⟩
      rw [ent_P hb hs, ent_P hb hs, su_same, su_same]
      unfold entP
      rw [if_neg (by omega), if_neg (by omega), clip_far x (by omega)]
    · exact ent_su_ne hb hj hn
theorem wset_Ps {E : Ev} {ad : Nat → Nat} {h : Hp} {g : Gp} {b s k : Nat} {P : Row} {x : Int32} (hb : b < 18) (hs : s < 7) (h0 : 0 < s) (hk : k < 5) : (wld E ad (su h b P) g).set (7 * b + s) (ad (7 * b + s), .inl (E.2.1, 5, .inl (upd (clip (5 * (s - 1)) P) k x))) = wld E ad (su h b (upd P (5 * (s - 1) + k) x)) g := by
  refine wset (by omega) ?_ ?_
  · rw [ent_P hb hs, su_same]
    unfold entP
    rw [if_neg (by omega), clip_put x hk]
  · intro j hj hne
    by_cases hn : 7 * b ≤ j ∧ j < 7 * b + 7
    · obtain ⟨s2, hs2, rfl⟩ : ∃ s2, s2 < 7 ∧ j = 7 * b + s2 := ⟨j - 7 * b, by omega, by omega⟩
      rw [ent_P hb hs2, ent_P hb hs2, su_same, su_same]
      unfold entP
      by_cases e0 : s2 = 0
      · rw [if_pos e0, if_pos e0]
        simp only [upd]
        rw [if_neg (by omega), if_neg (by omega), if_neg (by omega), if_neg (by omega), if_neg (by omega), if_neg (by omega), if_neg (by omega)]
      · rw [if_neg e0, if_neg e0, clip_far x (by omega)]
    · exact ent_su_ne hb hj hn
theorem wl_O {E : Ev} {ad : Nat → Nat} {h : Hp} {g : Gp} {r : Nat} (hr : 18 ≤ r) (hr2 : r < 46) : (wld E ad h g)[r + 108]? = some (ad (r + 108), entO E ad (h r) (g r) r) := by
  rw [wl_at (by omega), ent_O hr]
theorem ent_out {E : Ev} {ad : Nat → Nat} {h h2 : Hp} {g g2 : Gp} {r : Nat} (hh : ∀ q, q ≠ r → h2 q = h q) (hg : ∀ q, q ≠ r → g2 q = g q) (hr : 18 ≤ r) {j : Nat} (hj : j ≠ r + 108) : ent E ad h2 g2 j = ent E ad h g j := by
  unfold ent
  by_cases h1 : j < 126
  · rw [if_pos h1, if_pos h1, hh _ (by omega)]
  · rw [if_neg h1, if_neg h1, hh _ (by omega), hg _ (by omega)]
theorem wset_O {E : Ev} {ad : Nat → Nat} {h : Hp} {g : Gp} {r : Nat} {P : Row} {En : va_E} (hr : 18 ≤ r) (hr2 : r < 46) (hE : entO E ad P (g r) r = En) : (wld E ad h g).set (r + 108) (ad (r + 108), En) = wld E ad (su h r P) g := by
  refine wset (by omega) ?_ (fun j hj hne => ent_out (fun q hq => su_ne hq) (fun _ _ => rfl) hr hne)
  rw [ent_O hr, su_same, hE]
theorem wset_G {E : Ev} {ad : Nat → Nat} {h : Hp} {g : Gp} {r : Nat} {x : Int64} {En : va_E} (hr : 18 ≤ r) (hr2 : r < 46) (hE : entO E ad (h r) x r = En) : (wld E ad h g).set (r + 108) (ad (r + 108), En) = wld E ad h (sg g r x) := by
  refine wset (by omega) ?_ (fun j hj hne => ent_out (fun _ _ => rfl) (fun q hq => sg_ne hq) hr hne)
  rw [ent_O hr, sg_same, hE]
/-! words of the tables -/
def nestF : List (String × Nat × String × String × String × String) := [("OneTricycle", 64, "OneTricycle$Text", "length", "I", "OneTricycle"), ("OneTricycle", 87, "OneTricycle$Kids", "count", "I", "OneTricycle"), ("OneTricycle", 124, "OneTricycle$Kids", "strength", "[I", "OneTricycle"), ("OneTricycle$Play", 77, "OneTricycle$Kids", "kind", "[I", "OneTricycle"), ("OneTricycle", 127, "OneTricycle$Kids", "kind", "[I", "OneTricycle"), ("OneTricycle", 280, "OneTricycle$Play", "there", "I", "OneTricycle"), ("OneTricycle", 97, "OneTricycle$Play", "riders", "I", "OneTricycle"), ("OneTricycle", 109, "OneTricycle$Play", "last", "I", "OneTricycle"), ("OneTricycle", 90, "OneTricycle$Play", "rule", "I", "OneTricycle"), ("OneTricycle", 93, "OneTricycle$Play", "length", "I", "OneTricycle"), ("OneTricycle", 94, "OneTricycle$Play", "things", "I", "OneTricycle"), ("OneTricycle", 112, "OneTricycle$Play", "minutes", "I", "OneTricycle"), ("OneTricycle", 121, "OneTricycle$Play", "wish", "[I", "OneTricycle"), ("OneTricycle", 134, "OneTricycle$Play", "rode", "[I", "OneTricycle"), ("OneTricycle", 137, "OneTricycle$Play", "ridden", "[I", "OneTricycle"), ("OneTricycle", 140, "OneTricycle$Play", "stared", "[I", "OneTricycle"), ("OneTricycle", 143, "OneTricycle$Play", "staredSince", "[I", "OneTricycle"), ("OneTricycle", 146, "OneTricycle$Play", "howled", "[I", "OneTricycle"), ("OneTricycle", 115, "OneTricycle$Acts", "count", "I", "OneTricycle"), ("OneTricycle", 263, "OneTricycle$Slots", "plays", "[LOneTricycle$Play;", "OneTricycle"), ("OneTricycle", 267, "OneTricycle$Slots", "kept", "[Z", "OneTricycle"), ("OneTricycle", 116, "OneTricycle$Seen", "count", "I", "OneTricycle")]
def nestM : List (String × Nat × MethodName × String) := [("OneTricycle", 9, ⟨"OneTricycle$Text", "<init>", "()V"⟩, "OneTricycle"), ("OneTricycle", 18, ⟨"OneTricycle$Kids", "<init>", "()V"⟩, "OneTricycle"), ("OneTricycle", 25, ⟨"OneTricycle$Play", "<init>", "(LOneTricycle$Kids;)V"⟩, "OneTricycle"), ("OneTricycle", 37, ⟨"OneTricycle$Acts", "<init>", "(LOneTricycle$Kids;)V"⟩, "OneTricycle"), ("OneTricycle$Acts", 24, ⟨"OneTricycle$Play", "<init>", "(LOneTricycle$Kids;)V"⟩, "OneTricycle"), ("OneTricycle", 44, ⟨"OneTricycle$Slots", "<init>", "(LOneTricycle$Kids;)V"⟩, "OneTricycle"), ("OneTricycle$Slots", 21, ⟨"OneTricycle$Play", "<init>", "(LOneTricycle$Kids;)V"⟩, "OneTricycle"), ("OneTricycle", 51, ⟨"OneTricycle$Seen", "<init>", "()V"⟩, "OneTricycle"), ("OneTricycle", 68, ⟨"OneTricycle$Text", "append", "(I)V"⟩, "OneTricycle"), ("OneTricycle", 72, ⟨"OneTricycle$Text", "faultPlace", "()I"⟩, "OneTricycle"), ("OneTricycle", 76, ⟨"OneTricycle$Kids", "tellFrom", "(LOneTricycle$Text;)V"⟩, "OneTricycle"), ("OneTricycle$Kids", 22, ⟨"OneTricycle$Text", "countChildren", "()I"⟩, "OneTricycle"), ("OneTricycle$Kids", 28, ⟨"OneTricycle$Text", "figureOfChild", "(II)I"⟩, "OneTricycle"), ("OneTricycle", 80, ⟨"OneTricycle$Play", "startFrom", "(LOneTricycle$Text;)V"⟩, "OneTricycle"), ("OneTricycle$Play", 56, ⟨"OneTricycle$Text", "countChildren", "()I"⟩, "OneTricycle"), ("OneTricycle$Play", 62, ⟨"OneTricycle$Text", "figure", "(I)I"⟩, "OneTricycle"), ("OneTricycle$Play", 66, ⟨"OneTricycle$Text", "figureOfChild", "(II)I"⟩, "OneTricycle"), ("OneTricycle", 83, ⟨"OneTricycle$Acts", "forgetAll", "()V"⟩, "OneTricycle"), ("OneTricycle", 86, ⟨"OneTricycle$Slots", "forgetAll", "()V"⟩, "OneTricycle"), ("OneTricycle", 100, ⟨"OneTricycle$Play", "wanting", "()I"⟩, "OneTricycle"), ("OneTricycle", 103, ⟨"OneTricycle$Play", "asking", "()I"⟩, "OneTricycle"), ("OneTricycle", 106, ⟨"OneTricycle$Play", "next", "()I"⟩, "OneTricycle"), ("OneTricycle$Play", 70, ⟨"OneTricycle", "has", "(II)Z"⟩, "OneTricycle"), ("OneTricycle$Play", 88, ⟨"OneTricycle$Kids", "might", "(I)I"⟩, "OneTricycle"), ("OneTricycle", 117, ⟨"OneTricycle$Play", "isThere", "(I)Z"⟩, "OneTricycle"), ("OneTricycle", 130, ⟨"OneTricycle$Kids", "might", "(I)I"⟩, "OneTricycle"), ("OneTricycle", 149, ⟨"OneTricycle$Acts", "remember", "(LOneTricycle$Play;)V"⟩, "OneTricycle"), ("OneTricycle$Acts", 27, ⟨"OneTricycle$Play", "copyFrom", "(LOneTricycle$Play;)V"⟩, "OneTricycle"), ("OneTricycle", 153, ⟨"OneTricycle$Play", "passMinute", "()V"⟩, "OneTricycle"), ("OneTricycle", 156, ⟨"OneTricycle$Play", "rides", "(I)Z"⟩, "OneTricycle"), ("OneTricycle", 159, ⟨"OneTricycle$Play", "getOff", "(I)V"⟩, "OneTricycle"), ("OneTricycle", 162, ⟨"OneTricycle$Play", "getOn", "(I)V"⟩, "OneTricycle"), ("OneTricycle", 165, ⟨"OneTricycle$Play", "canBePushed", "(I)Z"⟩, "OneTricycle"), ("OneTricycle", 168, ⟨"OneTricycle$Play", "pushOff", "(I)V"⟩, "OneTricycle"), ("OneTricycle", 171, ⟨"OneTricycle$Play", "canBeCalled", "(I)Z"⟩, "OneTricycle"), ("OneTricycle", 174, ⟨"OneTricycle$Play", "callAway", "(I)V"⟩, "OneTricycle"), ("OneTricycle", 183, ⟨"OneTricycle$Play", "setRule", "(II)V"⟩, "OneTricycle"), ("OneTricycle", 187, ⟨"OneTricycle$Play", "putOrTakeAway", "()V"⟩, "OneTricycle"), ("OneTricycle", 190, ⟨"OneTricycle$Acts", "takeBack", "(LOneTricycle$Play;)V"⟩, "OneTricycle"), ("OneTricycle", 209, ⟨"OneTricycle$Play", "copyFrom", "(LOneTricycle$Play;)V"⟩, "OneTricycle"), ("OneTricycle", 206, ⟨"OneTricycle$Play", "staredByAll", "()I"⟩, "OneTricycle"), ("OneTricycle", 203, ⟨"OneTricycle$Play", "gap", "()I"⟩, "OneTricycle"), ("OneTricycle", 271, ⟨"OneTricycle$Play", "neverRidden", "()I"⟩, "OneTricycle"), ("OneTricycle", 215, ⟨"OneTricycle$Play", "doIfItCanBe", "(II)Z"⟩, "OneTricycle"), ("OneTricycle$Play", 145, ⟨"OneTricycle", "isRule", "(I)Z"⟩, "OneTricycle"), ("OneTricycle", 274, ⟨"OneTricycle$Play", "leaveOnly", "(I)V"⟩, "OneTricycle"), ("OneTricycle", 237, ⟨"OneTricycle$Seen", "append", "(II)V"⟩, "OneTricycle"), ("OneTricycle", 277, ⟨"OneTricycle$Seen", "ridersIn", "(I)I"⟩, "OneTricycle"), ("OneTricycle", 287, ⟨"OneTricycle$Play", "leaveRiding", "(I)V"⟩, "OneTricycle")]
def NW (U : State) : Prop := (∀ q ∈ nestF, va_Nw (.fieldLinkNest q.1 q.2.1 q.2.2.1 q.2.2.2.1 q.2.2.2.2.1 q.2.2.2.2.2) U) ∧ ∀ q ∈ nestM, va_Nw (.methodLinkNest q.1 q.2.1 q.2.2.1 q.2.2.2) U
theorem NW.warm {s U : State} (hW : s.WarmedH U.vm) (h : NW s) : NW U := ⟨fun q hq => va_Nw.warmF hW (h.1 q hq), fun q hq => va_Nw.warmM hW (h.2 q hq)⟩
theorem NW.same {s U : State} (hv : s.vm = U.vm) (h : NW s) : NW U := ⟨fun q hq => va_Nw.same rfl hv (h.1 q hq), fun q hq => va_Nw.same rfl hv (h.2 q hq)⟩
def tysL (E : Ev) : List (ClassId × FieldType) := [(E.2.1, .int), (E.2.2.1, .boolean), (E.2.2.2, .object "OneTricycle$Play")]
def hunR : Row := fun j => match j with
  | 0 => 1
  | 1 => 100
  | 2 => 10000
  | _ => 1000000
def ordR : Row := fun j => match j with
  | 0 => 1
  | 1 => 1
  | 2 => 2
  | 3 => 6
  | 4 => 24
  | _ => 120
/-- the class's two constant arrays -/
def StA (n : String) (N : Nat) (f : Row) (ad : Nat → Nat) (U : State) (H : Heap) : Prop := ∃ t : Nat, va_Z "OneTricycle" n "[I" (.ref t) (adA ad) U H ∧ va_T .int t N (fun j => .int (f j)) (adA ad) U H
def Sx (E : Ev) (ad : Nat → Nat) (U : State) : Prop := va_K E.1 vwCl (tysL E) U ∧ NW U ∧ StA "HUNDREDS" 4 hunR ad U U.heap ∧ StA "ORDERS" 6 ordR ad U U.heap
theorem StA.warm {n : String} {N : Nat} {f : Row} {ad : Nat → Nat} {s U : State} {locs : List Loc} {H : Heap} (hv : s.vm.Alike U.vm) (hS : va_S (adA ad) s.heap H locs) (h : StA n N f ad s s.heap) : StA n N f ad U H := by
  obtain ⟨t, h1, h2⟩ := h
  exact ⟨t, (h1.kept hS.2.1).moved hv, (h2.kept hS.2.1).moved hv⟩
theorem Sx.warm {E : Ev} {ad : Nat → Nat} {s U : State} {locs : List Loc} {H : Heap} (hW : s.WarmedH U.vm) (hU : U.heap = H) (hS : va_S (adA ad) s.heap H locs) (h : Sx E ad s) : Sx E ad U := by
  subst hU
  exact ⟨va_K.moved hW.alike h.1, h.2.1.warm hW, h.2.2.1.warm hW.alike hS, h.2.2.2.warm hW.alike hS⟩
theorem Sx.same {E : Ev} {ad : Nat → Nat} {s U : State} (hv : s.vm = U.vm) (hU : U.heap = s.heap) (h : Sx E ad s) : Sx E ad U := by
  have ha : s.vm.Alike U.vm := by rw [← hv]; exact Vm.Alike.refl s.vm
  have hS : va_S (adA ad) s.heap s.heap [] := va_S.rf
  exact ⟨va_K.moved ha h.1, h.2.1.same hv, by rw [hU]; exact h.2.2.1.warm ha hS, by rw [hU]; exact h.2.2.2.warm ha hS⟩
def At (E : Ev) (ad : Nat → Nat) (h : Hp) (g : Gp) (s : State) (H : Heap) (locs : List Loc) : Prop := va_P E.1 vwCl (wld E ad h g) H ∧ va_S (adA ad) s.heap H locs
theorem at_us {E : Ev} {ad : Nat → Nat} {h : Hp} {g : Gp} {s : State} {H : Heap} {locs : List Loc} {r : Nat} (w : At E ad (su h r (h r)) g s H locs) : At E ad h g s H locs := by rw [su_self] at w; exact w
theorem at_su {E : Ev} {ad : Nat → Nat} {h : Hp} {g : Gp} {s : State} {H : Heap} {locs : List Loc} (r : Nat) (w : At E ad h g s H locs) : At E ad (su h r (h r)) g s H locs := by rw [su_self]; exact w
/-- the tables' words that a call hands on -/
def lwA : List Cond := lw_tbl.filter goodWord
theorem lwA_in {w : Cond} (h : w ∈ lwA) : w ∈ lw_tbl := (List.mem_filter.mp h).1
theorem lwA_s {w : Cond} (i : Nat) (h : (k2_sels lw_privs)[i]? = some w) (hg : goodWord w = true) : w ∈ lwA := List.mem_filter.mpr ⟨List.mem_append_left _ (List.mem_of_getElem? h), hg⟩
theorem lwA_1 {w : Cond} (i : Nat) (h : tables_1_1[i]? = some w) (hg : goodWord w = true) : w ∈ lwA := List.mem_filter.mpr ⟨List.mem_append_right _ (List.mem_append_left _ (List.mem_of_getElem? h)), hg⟩
theorem lwA_2 {w : Cond} (i : Nat) (h : tables_1_2[i]? = some w) (hg : goodWord w = true) : w ∈ lwA := List.mem_filter.mpr ⟨List.mem_append_right _ (List.mem_append_right _ (List.mem_append_left _ (List.mem_of_getElem? h))), hg⟩
theorem lwA_3 {w : Cond} (i : Nat) (h : tables_1_3[i]? = some w) (hg : goodWord w = true) : w ∈ lwA := List.mem_filter.mpr ⟨List.mem_append_right _ (List.mem_append_right _ (List.mem_append_right _ (List.mem_append_left _ (List.mem_of_getElem? h)))), hg⟩
theorem lwA_4 {w : Cond} (i : Nat) (h : tables_1_4[i]? = some w) (hg : goodWord w = true) : w ∈ lwA := List.mem_filter.mpr ⟨List.mem_append_right _ (List.mem_append_right _ (List.mem_append_right _ (List.mem_append_right _ (List.mem_of_getElem? h)))), hg⟩
theorem good_ws {y : MethodName} {bytes : ByteArray} {maxL : Nat} {ret : Option FieldType} (h : Cond.code y bytes maxL ret ∈ lwA) : GoodIn lwA (Cond.code y bytes maxL ret :: lwA) := by
  intro w hw
  have hm : w ∈ lwA := by
    rcases List.mem_cons.mp hw with e | e
    · rw [e]; exact h
    · exact e
  exact ⟨hm, good_of_word (List.mem_filter.mp hm).2⟩
end
section
/-! walking over the world 'wld': reads, writes, calls and ends, with the heap as rows of numbers -/
def bd {α β : Type} (a : α) (k : α → Option β) : Option β := k a
theorem bd_e {α β : Type} {a : α} {k : α → Option β} {r : β} (h : bd a k = some r) : ∃ x, x = a ∧ k x = some r := ⟨a, rfl, h⟩
def ck {β : Type} (p : Bool) (k : Option β) : Option β := if p = true then k else none
theorem ck_e {β : Type} {p : Bool} {k : Option β} {r : β} (h : ck p k = some r) : p = true ∧ k = some r := by
  unfold ck at h
  by_cases hp : p = true
  · rw [if_pos hp] at h
    exact ⟨hp, h⟩
  · rw [if_neg hp] at h
    cases h
theorem bi_e {α β : Type} {a : Option α} {k : α → Option β} {r : β} (h : a.bind k = some r) : ∃ x, a = some x ∧ k x = some r := by
  cases a with
  | none => cases h
  | some x => exact ⟨x, rfl, h⟩
def inb (x : Int32) (n : Nat) : Bool := !decide (x < 0) && decide (x.toNatClampNeg < n)
theorem inb_in {x : Int32} {n : Nat} (h : inb x n = true) : vp_in x n := by
  unfold inb at h
  rw [Bool.and_eq_true, Bool.not_eq_true', decide_eq_false_iff_not, decide_eq_true_eq] at h
  intro q
  rcases q with q | q
  · exact h.1 q
  · omega
theorem inb_lt {x : Int32} {n : Nat} (h : inb x n = true) : x.toNatClampNeg < n := by
  unfold inb at h
  rw [Bool.and_eq_true, decide_eq_true_eq] at h
  exact h.2
def nz (x : Int32) : Bool := !decide (x = 0)
theorem nz_e {x : Int32} (h : nz x = true) : ¬ x = 0 := by
  unfold nz at h
  rw [Bool.not_eq_true', decide_eq_false_iff_not] at h
  exact h
def bz (x : Int32) : Bool := decide (x = 0) || decide (x = 1)
theorem bz_e {x : Int32} (h : bz x = true) : narrow .boolean (.int x) = .int x := by
  unfold bz at h
  rw [Bool.or_eq_true, decide_eq_true_eq, decide_eq_true_eq] at h
  rcases h with rfl | rfl <;> rfl
section XR
variable {p : Program} {l : Launch} {e : Env} {R : Room} {s : State} {m : MethodId} {args : Array Value} {below : List Frame} {meth : Method} {c : Code} {H : Heap} {locs : List Loc} {cells slots : Nat} {Q : State → Prop} {cc : ByteArray} {pc nL : Nat} {ls : Array Slot} {rest : List Value} {E : Ev} {ad : Nat → Nat} {h h2 : Hp} {g g2 : Gp} {own : String}
theorem x_get {Cn ref : String} {T : u_T} {N ci index i a : Nat} {fs : List Value} {v : Value} (C : CallFix p m c cc nL s args lwA own) (X : Sx E ad s) (w : At E ad h g s H locs) (he : (wld E ad h g)[i]? = some (a, .inr (ci, fs))) (hc : vwCl[ci]? = some (Cn, T, N)) (hin : ∀ w ∈ u_ws Cn T N, w ∈ lwA) (k : Nat) (hk : k < N) (hl : Cond.fieldLink own index ref (T k).2.1 (T k).2.2.1 ∈ lwA) (hs : (T k).1 = ref) (hv : fs[k]? = some v) (hdg : decode cc pc = .ok (.getfield index, 3)) (kk : W p l e R s m args below meth c H locs cells slots Q (F0 m (pc + 3) ls (v :: rest))) : W p l e R s m args below meth c H locs cells slots Q (F0 m pc ls (.ref a :: rest)) :=
  va_get C.1 C.2.1 C.2.2.2.2 hin C.2.2.2.1 X.1 w.1 i he hc k hk (C.2.2.2.2 _ hl) (fun x hx => by rw [← hs]; exact hx) hv hdg kk
theorem x_getN {Cn ref host : String} {T : u_T} {N ci index i a : Nat} {fs : List Value} {v : Value} (C : CallFix p m c cc nL s args lwA own) (X : Sx E ad s) (w : At E ad h g s H locs) (he : (wld E ad h g)[i]? = some (a, .inr (ci, fs))) (hc : vwCl[ci]? = some (Cn, T, N)) (hin : ∀ w ∈ u_ws Cn T N, w ∈ lwA) (k : Nat) (hk : k < N) (hl : (own, index, ref, (T k).2.1, (T k).2.2.1, host) ∈ nestF) (hs : (T k).1 = ref) (hv : fs[k]? = some v) (hdg : decode cc pc = .ok (.getfield index, 3)) (kk : W p l e R s m args below meth c H locs cells slots Q (F0 m (pc + 3) ls (v :: rest))) : W p l e R s m args below meth c H locs cells slots Q (F0 m pc ls (.ref a :: rest)) :=
  va_getN C.1 C.2.1 C.2.2.2.2 hin C.2.2.2.1 X.1 w.1 i he hc k hk (va_Nw.use rfl (X.2.1.1 _ hl)) (fun x hx => by rw [← hs]; exact hx) hv hdg kk
theorem x_put {Cn ref : String} {T : u_T} {N ci index i a : Nat} {fs : List Value} {v : Value} {ty0 : Nat → FieldType} (C : CallFix p m c cc nL s args lwA own) (X : Sx E ad s) (hI : Inj ad) (w : At E ad h g s H locs) (he : (wld E ad h g)[i]? = some (a, .inr (ci, fs))) (hc : vwCl[ci]? = some (Cn, T, N)) (hin : ∀ w ∈ u_ws Cn T N, w ∈ lwA) (hty : ∀ k, k < N → parseFieldDescriptor (T k).2.2.1 = some (ty0 k)) (hnm : ∀ a, a < N → ∀ b, b < N → a ≠ b → (T a).2.1 ≠ (T b).2.1) (k : Nat) (hk : k < N) (hl : Cond.fieldLink own index ref (T k).2.1 (T k).2.2.1 ∈ lwA) (hs : (T k).1 = ref) (hfin : (T k).2.2.2 = false) (hn : narrow (ty0 k) v = v) (hfit : fits (ty0 k) v = true) (hkl : k < fs.length) (hset : (wld E ad h g).set i (a, .inr (ci, fs.set k v)) = wld E ad h2 g2) (hdg : decode cc pc = .ok (.putfield index, 3)) (kk : ∀ (H : Heap) (locs : List Loc), At E ad h2 g2 s H locs → W p l e R s m args below meth c H locs cells slots Q (F0 m (pc + 3) ls rest)) : W p l e R s m args below meth c H locs cells slots Q (F0 m pc ls (v :: .ref a :: rest)) :=
  va_put C.1 C.2.1 C.2.2.2.2 hin ty0 hty hnm C.2.2.2.1 X.1 w.1 (wD hI) w.2 i he hc k hk (C.2.2.2.2 _ hl) (fun x hx => by rw [← hs]; exact hx) hfin (hty k hk) hn hfit hkl hdg (fun H locs hP _ hS => kk H locs ⟨by rw [← hset]; exact hP, hS⟩)
theorem x_putN {Cn ref host : String} {T : u_T} {N ci index i a : Nat} {fs : List Value} {v : Value} {ty0 : Nat → FieldType} (C : CallFix p m c cc nL s args lwA own) (X : Sx E ad s) (hI : Inj ad) (w : At E ad h g s H locs) (he : (wld E ad h g)[i]? = some (a, .inr (ci, fs))) (hc : vwCl[ci]? = some (Cn, T, N)) (hin : ∀ w ∈ u_ws Cn T N, w ∈ lwA) (hty : ∀ k, k < N → parseFieldDescriptor (T k).2.2.1 = some (ty0 k)) (hnm : ∀ a, a < N → ∀ b, b < N → a ≠ b → (T a).2.1 ≠ (T b).2.1) (k : Nat) (hk : k < N) (hl : (own, index, ref, (T k).2.1, (T k).2.2.1, host) ∈ nestF) (hs : (T k).1 = ref) (hfin : (T k).2.2.2 = false) (hn : narrow (ty0 k) v = v) (hfit : fits (ty0 k) v = true) (hkl : k < fs.length) (hset : (wld E ad h g).set i (a, .inr (ci, fs.set k v)) = wld E ad h2 g2) (hdg : decode cc pc = .ok (.putfield index, 3)) (kk : ∀ (H : Heap) (locs : List Loc), At E ad h2 g2 s H locs → W p l e R s m args below meth c H locs cells slots Q (F0 m (pc + 3) ls rest)) : W p l e R s m args below meth c H locs cells slots Q (F0 m pc ls (v :: .ref a :: rest)) :=
  va_putN C.1 C.2.1 C.2.2.2.2 hin ty0 hty hnm C.2.2.2.1 X.1 w.1 (wD hI) w.2 i he hc k hk (va_Nw.use rfl (X.2.1.1 _ hl)) (fun x hx => by rw [← hs]; exact hx) hfin (hty k hk) hn hfit hkl hdg (fun H locs hP _ hS => kk H locs ⟨by rw [← hset]; exact hP, hS⟩)
theorem x_ild {i a n : Nat} {f : Row} {x v : Int32} (C : CallFix p m c cc nL s args lwA own) (X : Sx E ad s) (w : At E ad h g s H locs) (he : (wld E ad h g)[i]? = some (a, .inl (E.2.1, n, .inl f))) (hin : inb x n = true) (hv : f x.toNatClampNeg = v) (hdg : decode cc pc = .ok (.iaload, 1)) (kk : W p l e R s m args below meth c H locs cells slots Q (F0 m (pc + 1) ls (.int v :: rest))) : W p l e R s m args below meth c H locs cells slots Q (F0 m pc ls (.int x :: .ref a :: rest)) := by
  subst hv
  exact va_iald C.1 C.2.1 X.1 w.1 i 0 he rfl (inb_in hin) hdg kk
theorem x_zld {i a n : Nat} {f : Row} {x v : Int32} (C : CallFix p m c cc nL s args lwA own) (X : Sx E ad s) (w : At E ad h g s H locs) (he : (wld E ad h g)[i]? = some (a, .inl (E.2.2.1, n, .inl f))) (hin : inb x n = true) (hv : f x.toNatClampNeg = v) (hdg : decode cc pc = .ok (.baload, 1)) (kk : W p l e R s m args below meth c H locs cells slots Q (F0 m (pc + 1) ls (.int v :: rest))) : W p l e R s m args below meth c H locs cells slots Q (F0 m pc ls (.int x :: .ref a :: rest)) := by
  subst hv
  exact va_zald C.1 C.2.1 X.1 w.1 i 1 he rfl (inb_in hin) hdg kk
theorem x_ist {i a n : Nat} {f : Row} {x v : Int32} (C : CallFix p m c cc nL s args lwA own) (X : Sx E ad s) (hI : Inj ad) (w : At E ad h g s H locs) (he : (wld E ad h g)[i]? = some (a, .inl (E.2.1, n, .inl f))) (hin : inb x n = true) (hset : (wld E ad h g).set i (a, .inl (E.2.1, n, .inl (upd f x.toNatClampNeg v))) = wld E ad h2 g2) (hdg : decode cc pc = .ok (.iastore, 1)) (kk : ∀ (H : Heap) (locs : List Loc), At E ad h2 g2 s H locs → W p l e R s m args below meth c H locs cells slots Q (F0 m (pc + 1) ls rest)) : W p l e R s m args below meth c H locs cells slots Q (F0 m pc ls (.int v :: .int x :: .ref a :: rest)) :=
  va_iast C.1 C.2.1 X.1 w.1 (wD hI) w.2 i 0 he rfl (inb_in hin) hdg (fun H locs hP _ hS => kk H locs ⟨by rw [← hset]; exact hP, hS⟩)
theorem x_zst {i a n : Nat} {f : Row} {x v : Int32} (C : CallFix p m c cc nL s args lwA own) (X : Sx E ad s) (hI : Inj ad) (w : At E ad h g s H locs) (he : (wld E ad h g)[i]? = some (a, .inl (E.2.2.1, n, .inl f))) (hin : inb x n = true) (hv : vp_nar .boolean v = v) (hset : (wld E ad h g).set i (a, .inl (E.2.2.1, n, .inl (upd f x.toNatClampNeg v))) = wld E ad h2 g2) (hdg : decode cc pc = .ok (.bastore, 1)) (kk : ∀ (H : Heap) (locs : List Loc), At E ad h2 g2 s H locs → W p l e R s m args below meth c H locs cells slots Q (F0 m (pc + 1) ls rest)) : W p l e R s m args below meth c H locs cells slots Q (F0 m pc ls (.int v :: .int x :: .ref a :: rest)) :=
  va_zast C.1 C.2.1 X.1 w.1 (wD hI) w.2 i 1 he rfl (inb_in hin) hdg (fun H locs hP _ hS => kk H locs ⟨by rw [← hset, ← hv]; exact hP, hS⟩)
theorem x_ald {i a n : Nat} {f : Nat → Option Nat} {x : Int32} {q : Nat} (C : CallFix p m c cc nL s args lwA own) (X : Sx E ad s) (w : At E ad h g s H locs) (he : (wld E ad h g)[i]? = some (a, .inl (E.2.2.2, n, .inr (.inr (.inr (.inr f)))))) (hin : inb x n = true) (hv : f x.toNatClampNeg = some q) (hdg : decode cc pc = .ok (.aaload, 1)) (kk : W p l e R s m args below meth c H locs cells slots Q (F0 m (pc + 1) ls (.ref q :: rest))) : W p l e R s m args below meth c H locs cells slots Q (F0 m pc ls (.int x :: .ref a :: rest)) :=
  va_aldq C.1 C.2.1 X.1 w.1 i 2 he rfl (inb_in hin) hdg (by rw [hv]; exact kk)
end XR
/-! contracts: no method but a constructor makes anything -/
def WS (y : MethodName) (bytes : ByteArray) (maxL : Nat) (ret : Option FieldType) : List Cond := .code y bytes maxL ret :: lwA
def RM (f n : Nat) : Room := { frames := f, cells := 0, slots := 0, locals := n }
def PcW (E : Ev) (ad : Nat → Nat) (h : Hp) (g : Gp) (av : List Value) : Array Value → State → Prop := va_Pc av (fun U => Sx E ad U ∧ va_P E.1 vwCl (wld E ad h g) U.heap)
def QcI (E : Ev) (ad : Nat → Nat) (h : Hp) (g : Gp) (r : Int32) : Array Value → State → Outcome → State → Prop := va_Qi (fun r2 (_ : Unit) => r2 = r) (fun _ t => va_P E.1 vwCl (wld E ad h g) t.heap) (adA ad)
def QcL (E : Ev) (ad : Nat → Nat) (h : Hp) (g : Gp) (r : Int64) : Array Value → State → Outcome → State → Prop := va_Ql (fun r2 (_ : Unit) => r2 = r) (fun _ t => va_P E.1 vwCl (wld E ad h g) t.heap) (adA ad)
def QcV (E : Ev) (ad : Nat → Nat) (h : Hp) (g : Gp) : Array Value → State → Outcome → State → Prop := va_Qv (fun (_ : Unit) => True) (fun _ t => va_P E.1 vwCl (wld E ad h g) t.heap) (adA ad)
def CtI (l : Launch) (y : MethodName) (bytes : ByteArray) (maxL : Nat) (ret : Option FieldType) (f n : Nat) (E : Ev) (ad : Nat → Nat) (g g2 : Gp) (av : List Value) (h h2 : Hp) (r : Int32) : Prop := Met l y (WS y bytes maxL ret) (RM f n) (PcW E ad h g av) (QcI E ad h2 g2 r) 0 0 (adA ad)
def CtL (l : Launch) (y : MethodName) (bytes : ByteArray) (maxL : Nat) (ret : Option FieldType) (f n : Nat) (E : Ev) (ad : Nat → Nat) (g g2 : Gp) (av : List Value) (h h2 : Hp) (r : Int64) : Prop := Met l y (WS y bytes maxL ret) (RM f n) (PcW E ad h g av) (QcL E ad h2 g2 r) 0 0 (adA ad)
def CtV (l : Launch) (y : MethodName) (bytes : ByteArray) (maxL : Nat) (ret : Option FieldType) (f n : Nat) (E : Ev) (ad : Nat → Nat) (g g2 : Gp) (av : List Value) (h h2 : Hp) : Prop := Met l y (WS y bytes maxL ret) (RM f n) (PcW E ad h g av) (QcV E ad h2 g2) 0 0 (adA ad)
def QI (E : Ev) (ad : Nat → Nat) (h : Hp) (g : Gp) (r : Int32) (below : List Frame) (args : Array Value) (s : State) : State → Prop := MQ below (QcI E ad h g r) args s 0 0 (adA ad)
def QL (E : Ev) (ad : Nat → Nat) (h : Hp) (g : Gp) (r : Int64) (below : List Frame) (args : Array Value) (s : State) : State → Prop := MQ below (QcL E ad h g r) args s 0 0 (adA ad)
def QV (E : Ev) (ad : Nat → Nat) (h : Hp) (g : Gp) (below : List Frame) (args : Array Value) (s : State) : State → Prop := MQ below (QcV E ad h g) args s 0 0 (adA ad)
theorem PcW_blind {E : Ev} {ad : Nat → Nat} {h : Hp} {g : Gp} {av : List Value} : FrameBlind (PcW E ad h g av) := fun a U g2 mk q => ⟨q.1, Sx.same (s := U) (U := U.calling g2 mk a) rfl rfl q.2.1, q.2.2⟩
theorem PcW_pre {E : Ev} {ad : Nat → Nat} {h : Hp} {g : Gp} {s : State} {H : Heap} {locs : List Loc} (X : Sx E ad s) (w : At E ad h g s H locs) (av : List Value) : PreS s H (PcW E ad h g av) av := ⟨PcW_blind, fun U hU hW => ⟨rfl, X.warm hW hU w.2, by rw [hU]; exact w.1⟩⟩
/-- the words of a call: of an instance method, of a static one; by the caller's own link, by a nest mate's -/
def MwY (y : MethodName) (bytes : ByteArray) (maxL : Nat) (ret : Option FieldType) (n : Nat) : Prop := Cond.code y bytes maxL ret ∈ lwA ∧ Cond.initialized y.cls ∈ lwA ∧ y.cls ≠ "java/lang/invoke/MethodHandle" ∧ y.cls ≠ "java/lang/invoke/VarHandle" ∧ (parseMethodDescriptor y.desc).map (fun d => d.parameters.length) = some n
def MwV (y : MethodName) (bytes : ByteArray) (maxL : Nat) (ret : Option FieldType) (n : Nat) : Prop := MwY y bytes maxL ret n ∧ Cond.instanceMethod y ∈ lwA ∧ Cond.selects y.cls y y ∈ lwA
def MwS (y : MethodName) (bytes : ByteArray) (maxL : Nat) (ret : Option FieldType) (n : Nat) : Prop := MwY y bytes maxL ret n ∧ Cond.static y ∈ lwA
section XC
variable {p : Program} {l : Launch} {e : Env} {R : Room} {s : State} {m : MethodId} {args : Array Value} {below : List Frame} {meth : Method} {c : Code} {H : Heap} {locs : List Loc} {cells slots : Nat} {Q : State → Prop} {cc : ByteArray} {pc nL : Nat} {ls : Array Slot} {rest : List Value} {E : Ev} {ad : Nat → Nat} {h h2 : Hp} {g g2 : Gp} {own : String}
variable {y : MethodName} {bytes : ByteArray} {maxL n index f nn : Nat} {ret : Option FieldType} {host : String} {a : Nat} {As st0 : List Value}
def RmOk (R : Room) (cells slots f maxL nn : Nat) : Prop := (f + 1 ≤ R.frames ∧ 8 + (maxL + 11) + nn ≤ R.locals) ∧ cells + 0 ≤ R.cells ∧ slots + 0 ≤ R.slots
theorem x_B (C : CallFix p m c cc nL s args lwA own) (hM : MwY y bytes maxL ret n) (hl : Cond.methodLink own index y ∈ lwA) (hR : f + 1 ≤ R.frames ∧ 8 + (maxL + 11) + nn ≤ R.locals) : CallB R s args own index y bytes maxL ret (WS y bytes maxL ret) (RM f nn) 0 0 n :=
  callB_of n C.2.2.2.2 (good_ws hM.1) rfl rfl rfl (C.2.2.2.2 _ hM.2.1) (C.2.2.2.2 _ hl) hM.2.2 hR
theorem x_BN (C : CallFix p m c cc nL s args lwA own) (X : Sx E ad s) (hM : MwY y bytes maxL ret n) (hl : (own, index, y, host) ∈ nestM) (hR : f + 1 ≤ R.frames ∧ 8 + (maxL + 11) + nn ≤ R.locals) : va_CN R s args own index y host bytes maxL ret (WS y bytes maxL ret) (RM f nn) 0 0 n :=
  va_cnB n C.2.2.2.2 (good_ws hM.1) rfl rfl rfl (X.2.1.2 _ hl) (C.2.2.2.2 _ hM.2.1) hM.2.2 hR
/-- a receiver: an object of the callee's class -/
def Rcv (E : Ev) (ad : Nat → Nat) (h : Hp) (g : Gp) (a : Nat) (C : String) : Prop := ∃ (i ci : Nat) (fs : List Value) (q : vw_C), (wld E ad h g)[i]? = some (a, .inr (ci, fs)) ∧ vwCl[ci]? = some q ∧ q.1 = C
theorem Rcv.pre (X : Sx E ad s) (w : At E ad h g s H locs) {C : String} (r : Rcv E ad h g a C) (As : List Value) : PreV s H C a (PcW E ad h g (.ref a :: As)) As := by
  obtain ⟨i, ci, fs, q, h1, h2, h3⟩ := r
  have := va_recv X.1 w.1 (ci := ci) (q0 := i) h2 h1
  rw [h3] at this
  exact ⟨PcW_blind, this, fun U hU hW => ⟨rfl, X.warm hW hU w.2, by rw [hU]; exact w.1⟩⟩
theorem x_contI {r : Int32} {av : Array Value} (X : Sx E ad s) (w : At E ad h g s H locs) (hr : va_Run p l e R s m args below meth c H locs cells slots 0 0 (F0 m pc ls st0) rest (QcI E ad h2 g2 r av) (adA ad)) (kk : ∀ (H : Heap) (locs : List Loc), At E ad h2 g2 s H locs → W p l e R s m args below meth c H locs cells slots Q (F0 m (pc + 3) ls (.int r :: rest))) : W p l e R s m args below meth c H locs cells slots Q (F0 m pc ls st0) := by
  refine va_calli hr w.2 (fun _ _ h => h) (fun _ h => h) (fun r2 u t H1 locs1 ht hvm hw hB _ _ hS => ?_)
  subst hw
  exact kk H1 locs1 ⟨by rw [← ht]; exact hB, hS⟩
theorem x_contL {r : Int64} {av : Array Value} (X : Sx E ad s) (w : At E ad h g s H locs) (hr : va_Run p l e R s m args below meth c H locs cells slots 0 0 (F0 m pc ls st0) rest (QcL E ad h2 g2 r av) (adA ad)) (kk : ∀ (H : Heap) (locs : List Loc), At E ad h2 g2 s H locs → W p l e R s m args below meth c H locs cells slots Q (F0 m (pc + 3) ls (.long r :: rest))) : W p l e R s m args below meth c H locs cells slots Q (F0 m pc ls st0) := by
  refine va_calll hr w.2 (fun _ _ h => h) (fun _ h => h) (fun r2 u t H1 locs1 ht hvm hw hB _ _ hS => ?_)
  subst hw
  exact kk H1 locs1 ⟨by rw [← ht]; exact hB, hS⟩
theorem x_contV {av : Array Value} (X : Sx E ad s) (w : At E ad h g s H locs) (hr : va_Run p l e R s m args below meth c H locs cells slots 0 0 (F0 m pc ls st0) rest (QcV E ad h2 g2 av) (adA ad)) (kk : ∀ (H : Heap) (locs : List Loc), At E ad h2 g2 s H locs → W p l e R s m args below meth c H locs cells slots Q (F0 m (pc + 3) ls rest)) : W p l e R s m args below meth c H locs cells slots Q (F0 m pc ls st0) := by
  refine va_callv hr w.2 (fun _ _ h => h) (fun _ h => h) (fun u t H1 locs1 ht hvm hw hB _ _ hS => ?_)
  exact kk H1 locs1 ⟨by rw [← ht]; exact hB, hS⟩
theorem x_cVi {r : Int32} (C : CallFix p m c cc nL s args lwA own) (X : Sx E ad s) (w : At E ad h g s H locs) (hM : CtI l y bytes maxL ret f nn E ad g g2 (.ref a :: As) h h2 r) (hw : MwV y bytes maxL ret n) (hl : Cond.methodLink own index y ∈ lwA) (rc : Rcv E ad h g a y.cls) (hn : As.length = n) (hz : ls.size = nL) (hst : st0 = As.reverse ++ .ref a :: rest) (hW : (rest.map fun v => v.category).sum ≤ 8) (hR : RmOk R cells slots f maxL nn) (hdg : decode cc pc = .ok (.invokevirtual index, 3)) (kk : ∀ (H : Heap) (locs : List Loc), At E ad h2 g2 s H locs → W p l e R s m args below meth c H locs cells slots Q (F0 m (pc + 3) ls (.int r :: rest))) : W p l e R s m args below meth c H locs cells slots Q (F0 m pc ls st0) :=
  x_contI X w (va_runV (As := As) (rest := rest) C hM ⟨x_B C hw.1 hl hR.1, C.2.2.2.2 _ hw.2.1, C.2.2.2.2 _ hw.2.2⟩ (Rcv.pre X w rc As) rfl hn hz hst (lv_room hW) hdg hR.2) kk
theorem x_cViN {r : Int32} (C : CallFix p m c cc nL s args lwA own) (X : Sx E ad s) (w : At E ad h g s H locs) (hM : CtI l y bytes maxL ret f nn E ad g g2 (.ref a :: As) h h2 r) (hw : MwV y bytes maxL ret n) (hl : (own, index, y, host) ∈ nestM) (rc : Rcv E ad h g a y.cls) (hn : As.length = n) (hz : ls.size = nL) (hst : st0 = As.reverse ++ .ref a :: rest) (hW : (rest.map fun v => v.category).sum ≤ 8) (hR : RmOk R cells slots f maxL nn) (hdg : decode cc pc = .ok (.invokevirtual index, 3)) (kk : ∀ (H : Heap) (locs : List Loc), At E ad h2 g2 s H locs → W p l e R s m args below meth c H locs cells slots Q (F0 m (pc + 3) ls (.int r :: rest))) : W p l e R s m args below meth c H locs cells slots Q (F0 m pc ls st0) :=
  x_contI X w (va_runVN (As := As) (rest := rest) C hM ⟨x_BN C X hw.1 hl hR.1, C.2.2.2.2 _ hw.2.1, C.2.2.2.2 _ hw.2.2⟩ (Rcv.pre X w rc As) rfl hn hz hst (lv_room hW) hdg hR.2) kk
theorem x_cVv (C : CallFix p m c cc nL s args lwA own) (X : Sx E ad s) (w : At E ad h g s H locs) (hM : CtV l y bytes maxL ret f nn E ad g g2 (.ref a :: As) h h2) (hw : MwV y bytes maxL ret n) (hl : Cond.methodLink own index y ∈ lwA) (rc : Rcv E ad h g a y.cls) (hn : As.length = n) (hz : ls.size = nL) (hst : st0 = As.reverse ++ .ref a :: rest) (hW : (rest.map fun v => v.category).sum ≤ 8) (hR : RmOk R cells slots f maxL nn) (hdg : decode cc pc = .ok (.invokevirtual index, 3)) (kk : ∀ (H : Heap) (locs : List Loc), At E ad h2 g2 s H locs → W p l e R s m args below meth c H locs cells slots Q (F0 m (pc + 3) ls rest)) : W p l e R s m args below meth c H locs cells slots Q (F0 m pc ls st0) :=
  x_contV X w (va_runV (As := As) (rest := rest) C hM ⟨x_B C hw.1 hl hR.1, C.2.2.2.2 _ hw.2.1, C.2.2.2.2 _ hw.2.2⟩ (Rcv.pre X w rc As) rfl hn hz hst (lv_room hW) hdg hR.2) kk
theorem x_cVvN (C : CallFix p m c cc nL s args lwA own) (X : Sx E ad s) (w : At E ad h g s H locs) (hM : CtV l y bytes maxL ret f nn E ad g g2 (.ref a :: As) h h2) (hw : MwV y bytes maxL ret n) (hl : (own, index, y, host) ∈ nestM) (rc : Rcv E ad h g a y.cls) (hn : As.length = n) (hz : ls.size = nL) (hst : st0 = As.reverse ++ .ref a :: rest) (hW : (rest.map fun v => v.category).sum ≤ 8) (hR : RmOk R cells slots f maxL nn) (hdg : decode cc pc = .ok (.invokevirtual index, 3)) (kk : ∀ (H : Heap) (locs : List Loc), At E ad h2 g2 s H locs → W p l e R s m args below meth c H locs cells slots Q (F0 m (pc + 3) ls rest)) : W p l e R s m args below meth c H locs cells slots Q (F0 m pc ls st0) :=
  x_contV X w (va_runVN (As := As) (rest := rest) C hM ⟨x_BN C X hw.1 hl hR.1, C.2.2.2.2 _ hw.2.1, C.2.2.2.2 _ hw.2.2⟩ (Rcv.pre X w rc As) rfl hn hz hst (lv_room hW) hdg hR.2) kk
theorem x_cVl {r : Int64} (C : CallFix p m c cc nL s args lwA own) (X : Sx E ad s) (w : At E ad h g s H locs) (hM : CtL l y bytes maxL ret f nn E ad g g2 (.ref a :: As) h h2 r) (hw : MwV y bytes maxL ret n) (hl : Cond.methodLink own index y ∈ lwA) (rc : Rcv E ad h g a y.cls) (hn : As.length = n) (hz : ls.size = nL) (hst : st0 = As.reverse ++ .ref a :: rest) (hW : (rest.map fun v => v.category).sum ≤ 8) (hR : RmOk R cells slots f maxL nn) (hdg : decode cc pc = .ok (.invokevirtual index, 3)) (kk : ∀ (H : Heap) (locs : List Loc), At E ad h2 g2 s H locs → W p l e R s m args below meth c H locs cells slots Q (F0 m (pc + 3) ls (.long r :: rest))) : W p l e R s m args below meth c H locs cells slots Q (F0 m pc ls st0) :=
  x_contL X w (va_runV (As := As) (rest := rest) C hM ⟨x_B C hw.1 hl hR.1, C.2.2.2.2 _ hw.2.1, C.2.2.2.2 _ hw.2.2⟩ (Rcv.pre X w rc As) rfl hn hz hst (lv_room hW) hdg hR.2) kk
theorem x_cVlN {r : Int64} (C : CallFix p m c cc nL s args lwA own) (X : Sx E ad s) (w : At E ad h g s H locs) (hM : CtL l y bytes maxL ret f nn E ad g g2 (.ref a :: As) h h2 r) (hw : MwV y bytes maxL ret n) (hl : (own, index, y, host) ∈ nestM) (rc : Rcv E ad h g a y.cls) (hn : As.length = n) (hz : ls.size = nL) (hst : st0 = As.reverse ++ .ref a :: rest) (hW : (rest.map fun v => v.category).sum ≤ 8) (hR : RmOk R cells slots f maxL nn) (hdg : decode cc pc = .ok (.invokevirtual index, 3)) (kk : ∀ (H : Heap) (locs : List Loc), At E ad h2 g2 s H locs → W p l e R s m args below meth c H locs cells slots Q (F0 m (pc + 3) ls (.long r :: rest))) : W p l e R s m args below meth c H locs cells slots Q (F0 m pc ls st0) :=
  x_contL X w (va_runVN (As := As) (rest := rest) C hM ⟨x_BN C X hw.1 hl hR.1, C.2.2.2.2 _ hw.2.1, C.2.2.2.2 _ hw.2.2⟩ (Rcv.pre X w rc As) rfl hn hz hst (lv_room hW) hdg hR.2) kk
theorem x_cSi {r : Int32} (C : CallFix p m c cc nL s args lwA own) (X : Sx E ad s) (w : At E ad h g s H locs) (hM : CtI l y bytes maxL ret f nn E ad g g2 As h h2 r) (hw : MwS y bytes maxL ret n) (hl : Cond.methodLink own index y ∈ lwA) (hn : As.length = n) (hz : ls.size = nL) (hst : st0 = As.reverse ++ rest) (hW : (rest.map fun v => v.category).sum ≤ 8) (hR : RmOk R cells slots f maxL nn) (hdg : decode cc pc = .ok (.invokestatic index, 3)) (kk : ∀ (H : Heap) (locs : List Loc), At E ad h2 g2 s H locs → W p l e R s m args below meth c H locs cells slots Q (F0 m (pc + 3) ls (.int r :: rest))) : W p l e R s m args below meth c H locs cells slots Q (F0 m pc ls st0) :=
  x_contI X w (va_runS (As := As) (rest := rest) C hM ⟨x_B C hw.1 hl hR.1, C.2.2.2.2 _ hw.2⟩ (PcW_pre X w As) rfl hn hz hst (lv_room hW) hdg hR.2) kk
theorem x_cSiN {r : Int32} (C : CallFix p m c cc nL s args lwA own) (X : Sx E ad s) (w : At E ad h g s H locs) (hM : CtI l y bytes maxL ret f nn E ad g g2 As h h2 r) (hw : MwS y bytes maxL ret n) (hl : (own, index, y, host) ∈ nestM) (hn : As.length = n) (hz : ls.size = nL) (hst : st0 = As.reverse ++ rest) (hW : (rest.map fun v => v.category).sum ≤ 8) (hR : RmOk R cells slots f maxL nn) (hdg : decode cc pc = .ok (.invokestatic index, 3)) (kk : ∀ (H : Heap) (locs : List Loc), At E ad h2 g2 s H locs → W p l e R s m args below meth c H locs cells slots Q (F0 m (pc + 3) ls (.int r :: rest))) : W p l e R s m args below meth c H locs cells slots Q (F0 m pc ls st0) :=
  x_contI X w (va_runSN (As := As) (rest := rest) C hM ⟨x_BN C X hw.1 hl hR.1, C.2.2.2.2 _ hw.2, trivial⟩ (PcW_pre X w As) rfl hn hz hst (lv_room hW) hdg hR.2) kk
theorem x_cSv (C : CallFix p m c cc nL s args lwA own) (X : Sx E ad s) (w : At E ad h g s H locs) (hM : CtV l y bytes maxL ret f nn E ad g g2 As h h2) (hw : MwS y bytes maxL ret n) (hl : Cond.methodLink own index y ∈ lwA) (hn : As.length = n) (hz : ls.size = nL) (hst : st0 = As.reverse ++ rest) (hW : (rest.map fun v => v.category).sum ≤ 8) (hR : RmOk R cells slots f maxL nn) (hdg : decode cc pc = .ok (.invokestatic index, 3)) (kk : ∀ (H : Heap) (locs : List Loc), At E ad h2 g2 s H locs → W p l e R s m args below meth c H locs cells slots Q (F0 m (pc + 3) ls rest)) : W p l e R s m args below meth c H locs cells slots Q (F0 m pc ls st0) :=
  x_contV X w (va_runS (As := As) (rest := rest) C hM ⟨x_B C hw.1 hl hR.1, C.2.2.2.2 _ hw.2⟩ (PcW_pre X w As) rfl hn hz hst (lv_room hW) hdg hR.2) kk
theorem x_cSvN (C : CallFix p m c cc nL s args lwA own) (X : Sx E ad s) (w : At E ad h g s H locs) (hM : CtV l y bytes maxL ret f nn E ad g g2 As h h2) (hw : MwS y bytes maxL ret n) (hl : (own, index, y, host) ∈ nestM) (hn : As.length = n) (hz : ls.size = nL) (hst : st0 = As.reverse ++ rest) (hW : (rest.map fun v => v.category).sum ≤ 8) (hR : RmOk R cells slots f maxL nn) (hdg : decode cc pc = .ok (.invokestatic index, 3)) (kk : ∀ (H : Heap) (locs : List Loc), At E ad h2 g2 s H locs → W p l e R s m args below meth c H locs cells slots Q (F0 m (pc + 3) ls rest)) : W p l e R s m args below meth c H locs cells slots Q (F0 m pc ls st0) :=
  x_contV X w (va_runSN (As := As) (rest := rest) C hM ⟨x_BN C X hw.1 hl hR.1, C.2.2.2.2 _ hw.2, trivial⟩ (PcW_pre X w As) rfl hn hz hst (lv_room hW) hdg hR.2) kk
theorem x_cSl {r : Int64} (C : CallFix p m c cc nL s args lwA own) (X : Sx E ad s) (w : At E ad h g s H locs) (hM : CtL l y bytes maxL ret f nn E ad g g2 As h h2 r) (hw : MwS y bytes maxL ret n) (hl : Cond.methodLink own index y ∈ lwA) (hn : As.length = n) (hz : ls.size = nL) (hst : st0 = As.reverse ++ rest) (hW : (rest.map fun v => v.category).sum ≤ 8) (hR : RmOk R cells slots f maxL nn) (hdg : decode cc pc = .ok (.invokestatic index, 3)) (kk : ∀ (H : Heap) (locs : List Loc), At E ad h2 g2 s H locs → W p l e R s m args below meth c H locs cells slots Q (F0 m (pc + 3) ls (.long r :: rest))) : W p l e R s m args below meth c H locs cells slots Q (F0 m pc ls st0) :=
  x_contL X w (va_runS (As := As) (rest := rest) C hM ⟨x_B C hw.1 hl hR.1, C.2.2.2.2 _ hw.2⟩ (PcW_pre X w As) rfl hn hz hst (lv_room hW) hdg hR.2) kk
theorem x_cSlN {r : Int64} (C : CallFix p m c cc nL s args lwA own) (X : Sx E ad s) (w : At E ad h g s H locs) (hM : CtL l y bytes maxL ret f nn E ad g g2 As h h2 r) (hw : MwS y bytes maxL ret n) (hl : (own, index, y, host) ∈ nestM) (hn : As.length = n) (hz : ls.size = nL) (hst : st0 = As.reverse ++ rest) (hW : (rest.map fun v => v.category).sum ≤ 8) (hR : RmOk R cells slots f maxL nn) (hdg : decode cc pc = .ok (.invokestatic index, 3)) (kk : ∀ (H : Heap) (locs : List Loc), At E ad h2 g2 s H locs → W p l e R s m args below meth c H locs cells slots Q (F0 m (pc + 3) ls (.long r :: rest))) : W p l e R s m args below meth c H locs cells slots Q (F0 m pc ls st0) :=
  x_contL X w (va_runSN (As := As) (rest := rest) C hM ⟨x_BN C X hw.1 hl hR.1, C.2.2.2.2 _ hw.2, trivial⟩ (PcW_pre X w As) rfl hn hz hst (lv_room hW) hdg hR.2) kk
/-! ends -/
theorem x_iret {r : Int32} (C : CallFix p m c cc nL s args lwA own) (hr : meth.sig.returnType = some .int) (hlocks : meth.locks = false) (w : At E ad h g s H locs) (hdg : decode cc pc = .ok (.ireturn, 1)) : W p l e R s m args below meth c H locs 0 0 (QI E ad h g r below args s) (F0 m pc ls [.int r]) :=
  W.iret C.1 C.2.1 hr (fun t ht _ => ⟨⟨r, (), rfl, rfl, by subst ht; exact w.1⟩, w.2.F ht⟩) w.2.2.2 hdg hlocks
theorem x_zret {r : Int32} (C : CallFix p m c cc nL s args lwA own) (hr : meth.sig.returnType = some .boolean) (hlocks : meth.locks = false) (w : At E ad h g s H locs) (hn : narrow .boolean (.int r) = .int r) (hdg : decode cc pc = .ok (.ireturn, 1)) : W p l e R s m args below meth c H locs 0 0 (QI E ad h g r below args s) (F0 m pc ls [.int r]) :=
  W.zret C.1 C.2.1 hr hn (fun t ht _ => ⟨⟨r, (), rfl, rfl, by subst ht; exact w.1⟩, w.2.F ht⟩) w.2.2.2 hdg hlocks
theorem x_lret {r : Int64} (C : CallFix p m c cc nL s args lwA own) (hr : meth.sig.returnType = some .long) (hlocks : meth.locks = false) (w : At E ad h g s H locs) (hdg : decode cc pc = .ok (.lreturn, 1)) : W p l e R s m args below meth c H locs 0 0 (QL E ad h g r below args s) (F0 m pc ls [.long r]) :=
  W.lret C.1 C.2.1 hr (fun t ht _ => ⟨⟨r, (), rfl, rfl, by subst ht; exact w.1⟩, w.2.F ht⟩) w.2.2.2 hdg hlocks
theorem x_vret (C : CallFix p m c cc nL s args lwA own) (hr : meth.sig.returnType = none) (hlocks : meth.locks = false) (w : At E ad h g s H locs) (hdg : decode cc pc = .ok (.return_, 1)) : W p l e R s m args below meth c H locs 0 0 (QV E ad h g below args s) (F0 m pc ls []) :=
  W.vret C.1 C.2.1 hr (fun t ht _ => ⟨⟨(), rfl, trivial, by subst ht; exact w.1⟩, w.2.F ht⟩) w.2.2.2 hdg hlocks
end XC
/-! the beginning of a method -/
theorem x_begin {l : Launch} {y : MethodName} {cc : ByteArray} {maxL : Nat} {ret : Option FieldType} {f n : Nat} {E : Ev} {ad : Nat → Nat} {g : Gp} {h : Hp} {av : List Value} {Qc : Array Value → State → Outcome → State → Prop} (hy : plainName y.cls = true) (hs : (lg_sl av).length ≤ maxL)
    (body : ∀ p e s m below meth c ls, CallFix p m c cc maxL s av.toArray lwA y.cls → meth.sig.returnType = ret → meth.locks = false → Sx E ad s → At E ad h g s s.heap [] → lv_has ls maxL (lv_args 0 av) → W p l e (RM f n) s m av.toArray below meth c s.heap [] 0 0 (MQ below Qc av.toArray s 0 0 (adA ad)) (F0 m 0 ls [])) : Met l y (WS y cc maxL ret) (RM f n) (PcW E ad h g av) Qc 0 0 (adA ad) := by
  refine Met.ofW (cc := cc) (maxL := maxL) (ret := ret) hy rfl ?_
  intro p e s m args below meth c s₁ B hml hv
  obtain ⟨rfl, X, hP⟩ := hv
  have hts := atoms_spec (ws := WS y cc maxL ret) B.pre
  have hown : s.vm.findClass y.cls = some m.cls := findClass_of_methodNamed B.named
  have hl := lv_entry av (n := maxL) hs
  rw [lg_entry_eq]
  generalize (lg_sl av ++ List.replicate (maxL - (lg_sl av).length) Slot.unset).toArray = ls at hl ⊢
  exact body p e s m below meth c ls ⟨B.exec, B.bytes, hml, hown, fun w hw => hts w (List.mem_cons_of_mem _ hw)⟩ B.returns B.notSynchronized X ⟨hP, va_S.rf⟩ hl
end
