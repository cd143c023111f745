-- ===== PART A: goes FIRST, ahead of the names: the tables' words, and 'selects' of the own methods out of them =====
/-- a own method of a program that the tables say can be made, by its rows of tables_1 -/
def lw_okq (q : MethodName × Nat) : Prop := (q.1.cls ≠ "java/lang/invoke/MethodHandle" ∧ q.1.cls ≠ "java/lang/invoke/VarHandle") ∧ Cond.instantiable q.1.cls q.2 ∈ tables_1 ∧ Cond.privateMethod q.1 ∈ tables_1 ∧ Cond.instanceMethod q.1 ∈ tables_1
theorem lw_p0 : lw_okq (⟨"OneTricycle$Text", "append", "(I)V"⟩, 2) := ⟨⟨by decide +kernel, by decide +kernel⟩, List.mem_of_getElem? (i := 20) (by decide +kernel), List.mem_of_getElem? (i := 204) (by decide +kernel), List.mem_of_getElem? (i := 205) (by decide +kernel)⟩
theorem lw_p1 : lw_okq (⟨"OneTricycle$Text", "faultPlace", "()I"⟩, 2) := ⟨⟨by decide +kernel, by decide +kernel⟩, List.mem_of_getElem? (i := 20) (by decide +kernel), List.mem_of_getElem? (i := 216) (by decide +kernel), List.mem_of_getElem? (i := 217) (by decide +kernel)⟩
theorem lw_p2 : lw_okq (⟨"OneTricycle$Kids", "tellFrom", "(LOneTricycle$Text;)V"⟩, 3) := ⟨⟨by decide +kernel, by decide +kernel⟩, List.mem_of_getElem? (i := 35) (by decide +kernel), List.mem_of_getElem? (i := 233) (by decide +kernel), List.mem_of_getElem? (i := 234) (by decide +kernel)⟩
theorem lw_p3 : lw_okq (⟨"OneTricycle$Text", "countChildren", "()I"⟩, 2) := ⟨⟨by decide +kernel, by decide +kernel⟩, List.mem_of_getElem? (i := 20) (by decide +kernel), List.mem_of_getElem? (i := 237) (by decide +kernel), List.mem_of_getElem? (i := 238) (by decide +kernel)⟩
theorem lw_p4 : lw_okq (⟨"OneTricycle$Text", "figureOfChild", "(II)I"⟩, 2) := ⟨⟨by decide +kernel, by decide +kernel⟩, List.mem_of_getElem? (i := 20) (by decide +kernel), List.mem_of_getElem? (i := 247) (by decide +kernel), List.mem_of_getElem? (i := 248) (by decide +kernel)⟩
theorem lw_p5 : lw_okq (⟨"OneTricycle$Text", "figure", "(I)I"⟩, 2) := ⟨⟨by decide +kernel, by decide +kernel⟩, List.mem_of_getElem? (i := 20) (by decide +kernel), List.mem_of_getElem? (i := 251) (by decide +kernel), List.mem_of_getElem? (i := 252) (by decide +kernel)⟩
theorem lw_p6 : lw_okq (⟨"OneTricycle$Play", "startFrom", "(LOneTricycle$Text;)V"⟩, 14) := ⟨⟨by decide +kernel, by decide +kernel⟩, List.mem_of_getElem? (i := 55) (by decide +kernel), List.mem_of_getElem? (i := 255) (by decide +kernel), List.mem_of_getElem? (i := 256) (by decide +kernel)⟩
theorem lw_p7 : lw_okq (⟨"OneTricycle$Acts", "forgetAll", "()V"⟩, 3) := ⟨⟨by decide +kernel, by decide +kernel⟩, List.mem_of_getElem? (i := 117) (by decide +kernel), List.mem_of_getElem? (i := 262) (by decide +kernel), List.mem_of_getElem? (i := 263) (by decide +kernel)⟩
theorem lw_p8 : lw_okq (⟨"OneTricycle$Slots", "forgetAll", "()V"⟩, 2) := ⟨⟨by decide +kernel, by decide +kernel⟩, List.mem_of_getElem? (i := 137) (by decide +kernel), List.mem_of_getElem? (i := 266) (by decide +kernel), List.mem_of_getElem? (i := 267) (by decide +kernel)⟩
theorem lw_p9 : lw_okq (⟨"OneTricycle$Play", "wanting", "()I"⟩, 14) := ⟨⟨by decide +kernel, by decide +kernel⟩, List.mem_of_getElem? (i := 55) (by decide +kernel), List.mem_of_getElem? (i := 274) (by decide +kernel), List.mem_of_getElem? (i := 275) (by decide +kernel)⟩
theorem lw_p10 : lw_okq (⟨"OneTricycle$Play", "asking", "()I"⟩, 14) := ⟨⟨by decide +kernel, by decide +kernel⟩, List.mem_of_getElem? (i := 55) (by decide +kernel), List.mem_of_getElem? (i := 278) (by decide +kernel), List.mem_of_getElem? (i := 279) (by decide +kernel)⟩
theorem lw_p11 : lw_okq (⟨"OneTricycle$Play", "next", "()I"⟩, 14) := ⟨⟨by decide +kernel, by decide +kernel⟩, List.mem_of_getElem? (i := 55) (by decide +kernel), List.mem_of_getElem? (i := 283) (by decide +kernel), List.mem_of_getElem? (i := 284) (by decide +kernel)⟩
theorem lw_p12 : lw_okq (⟨"OneTricycle$Play", "comesAhead", "(II)Z"⟩, 14) := ⟨⟨by decide +kernel, by decide +kernel⟩, List.mem_of_getElem? (i := 55) (by decide +kernel), List.mem_of_getElem? (i := 291) (by decide +kernel), List.mem_of_getElem? (i := 292) (by decide +kernel)⟩
theorem lw_p13 : lw_okq (⟨"OneTricycle$Kids", "might", "(I)I"⟩, 3) := ⟨⟨by decide +kernel, by decide +kernel⟩, List.mem_of_getElem? (i := 35) (by decide +kernel), List.mem_of_getElem? (i := 295) (by decide +kernel), List.mem_of_getElem? (i := 296) (by decide +kernel)⟩
theorem lw_p14 : lw_okq (⟨"OneTricycle$Play", "isThere", "(I)Z"⟩, 14) := ⟨⟨by decide +kernel, by decide +kernel⟩, List.mem_of_getElem? (i := 55) (by decide +kernel), List.mem_of_getElem? (i := 303) (by decide +kernel), List.mem_of_getElem? (i := 304) (by decide +kernel)⟩
theorem lw_p15 : lw_okq (⟨"OneTricycle$Acts", "remember", "(LOneTricycle$Play;)V"⟩, 3) := ⟨⟨by decide +kernel, by decide +kernel⟩, List.mem_of_getElem? (i := 117) (by decide +kernel), List.mem_of_getElem? (i := 312) (by decide +kernel), List.mem_of_getElem? (i := 313) (by decide +kernel)⟩
def lw_privs_1 : List (MethodName × Nat) := [(⟨"OneTricycle$Text", "append", "(I)V"⟩, 2), (⟨"OneTricycle$Text", "faultPlace", "()I"⟩, 2), (⟨"OneTricycle$Kids", "tellFrom", "(LOneTricycle$Text;)V"⟩, 3), (⟨"OneTricycle$Text", "countChildren", "()I"⟩, 2), (⟨"OneTricycle$Text", "figureOfChild", "(II)I"⟩, 2), (⟨"OneTricycle$Text", "figure", "(I)I"⟩, 2), (⟨"OneTricycle$Play", "startFrom", "(LOneTricycle$Text;)V"⟩, 14), (⟨"OneTricycle$Acts", "forgetAll", "()V"⟩, 3), (⟨"OneTricycle$Slots", "forgetAll", "()V"⟩, 2), (⟨"OneTricycle$Play", "wanting", "()I"⟩, 14), (⟨"OneTricycle$Play", "asking", "()I"⟩, 14), (⟨"OneTricycle$Play", "next", "()I"⟩, 14), (⟨"OneTricycle$Play", "comesAhead", "(II)Z"⟩, 14), (⟨"OneTricycle$Kids", "might", "(I)I"⟩, 3), (⟨"OneTricycle$Play", "isThere", "(I)Z"⟩, 14), (⟨"OneTricycle$Acts", "remember", "(LOneTricycle$Play;)V"⟩, 3)]
theorem lw_r1 : ∀ q ∈ lw_privs_1, lw_okq q := List.forall_mem_cons.mpr ⟨lw_p0, List.forall_mem_cons.mpr ⟨lw_p1, List.forall_mem_cons.mpr ⟨lw_p2, List.forall_mem_cons.mpr ⟨lw_p3, List.forall_mem_cons.mpr ⟨lw_p4, List.forall_mem_cons.mpr ⟨lw_p5, List.forall_mem_cons.mpr ⟨lw_p6, List.forall_mem_cons.mpr ⟨lw_p7, List.forall_mem_cons.mpr ⟨lw_p8, List.forall_mem_cons.mpr ⟨lw_p9, List.forall_mem_cons.mpr ⟨lw_p10, List.forall_mem_cons.mpr ⟨lw_p11, List.forall_mem_cons.mpr ⟨lw_p12, List.forall_mem_cons.mpr ⟨lw_p13, List.forall_mem_cons.mpr ⟨lw_p14, List.forall_mem_cons.mpr ⟨lw_p15, fun _ h => absurd h List.not_mem_nil⟩⟩⟩⟩⟩⟩⟩⟩⟩⟩⟩⟩⟩⟩⟩⟩
theorem lw_p16 : lw_okq (⟨"OneTricycle$Play", "copyFrom", "(LOneTricycle$Play;)V"⟩, 14) := ⟨⟨by decide +kernel, by decide +kernel⟩, List.mem_of_getElem? (i := 55) (by decide +kernel), List.mem_of_getElem? (i := 316) (by decide +kernel), List.mem_of_getElem? (i := 317) (by decide +kernel)⟩
theorem lw_p17 : lw_okq (⟨"OneTricycle$Play", "passMinute", "()V"⟩, 14) := ⟨⟨by decide +kernel, by decide +kernel⟩, List.mem_of_getElem? (i := 55) (by decide +kernel), List.mem_of_getElem? (i := 321) (by decide +kernel), List.mem_of_getElem? (i := 322) (by decide +kernel)⟩
theorem lw_p18 : lw_okq (⟨"OneTricycle$Play", "rides", "(I)Z"⟩, 14) := ⟨⟨by decide +kernel, by decide +kernel⟩, List.mem_of_getElem? (i := 55) (by decide +kernel), List.mem_of_getElem? (i := 325) (by decide +kernel), List.mem_of_getElem? (i := 326) (by decide +kernel)⟩
theorem lw_p19 : lw_okq (⟨"OneTricycle$Play", "getOffIfDue", "(I)V"⟩, 14) := ⟨⟨by decide +kernel, by decide +kernel⟩, List.mem_of_getElem? (i := 55) (by decide +kernel), List.mem_of_getElem? (i := 329) (by decide +kernel), List.mem_of_getElem? (i := 330) (by decide +kernel)⟩
theorem lw_p20 : lw_okq (⟨"OneTricycle$Play", "getOff", "(I)V"⟩, 14) := ⟨⟨by decide +kernel, by decide +kernel⟩, List.mem_of_getElem? (i := 55) (by decide +kernel), List.mem_of_getElem? (i := 333) (by decide +kernel), List.mem_of_getElem? (i := 334) (by decide +kernel)⟩
theorem lw_p21 : lw_okq (⟨"OneTricycle$Play", "pushOff", "(I)V"⟩, 14) := ⟨⟨by decide +kernel, by decide +kernel⟩, List.mem_of_getElem? (i := 55) (by decide +kernel), List.mem_of_getElem? (i := 338) (by decide +kernel), List.mem_of_getElem? (i := 339) (by decide +kernel)⟩
theorem lw_p22 : lw_okq (⟨"OneTricycle$Play", "getOn", "(I)V"⟩, 14) := ⟨⟨by decide +kernel, by decide +kernel⟩, List.mem_of_getElem? (i := 55) (by decide +kernel), List.mem_of_getElem? (i := 348) (by decide +kernel), List.mem_of_getElem? (i := 349) (by decide +kernel)⟩
theorem lw_p23 : lw_okq (⟨"OneTricycle$Play", "rideAndStare", "()V"⟩, 14) := ⟨⟨by decide +kernel, by decide +kernel⟩, List.mem_of_getElem? (i := 55) (by decide +kernel), List.mem_of_getElem? (i := 352) (by decide +kernel), List.mem_of_getElem? (i := 353) (by decide +kernel)⟩
theorem lw_p24 : lw_okq (⟨"OneTricycle$Play", "canBePushed", "(I)Z"⟩, 14) := ⟨⟨by decide +kernel, by decide +kernel⟩, List.mem_of_getElem? (i := 55) (by decide +kernel), List.mem_of_getElem? (i := 369) (by decide +kernel), List.mem_of_getElem? (i := 370) (by decide +kernel)⟩
theorem lw_p25 : lw_okq (⟨"OneTricycle$Play", "canBeCalled", "(I)Z"⟩, 14) := ⟨⟨by decide +kernel, by decide +kernel⟩, List.mem_of_getElem? (i := 55) (by decide +kernel), List.mem_of_getElem? (i := 379) (by decide +kernel), List.mem_of_getElem? (i := 380) (by decide +kernel)⟩
theorem lw_p26 : lw_okq (⟨"OneTricycle$Play", "callAway", "(I)V"⟩, 14) := ⟨⟨by decide +kernel, by decide +kernel⟩, List.mem_of_getElem? (i := 55) (by decide +kernel), List.mem_of_getElem? (i := 383) (by decide +kernel), List.mem_of_getElem? (i := 384) (by decide +kernel)⟩
theorem lw_p27 : lw_okq (⟨"OneTricycle$Play", "setRule", "(II)V"⟩, 14) := ⟨⟨by decide +kernel, by decide +kernel⟩, List.mem_of_getElem? (i := 55) (by decide +kernel), List.mem_of_getElem? (i := 397) (by decide +kernel), List.mem_of_getElem? (i := 398) (by decide +kernel)⟩
theorem lw_p28 : lw_okq (⟨"OneTricycle$Play", "putOrTakeAway", "()V"⟩, 14) := ⟨⟨by decide +kernel, by decide +kernel⟩, List.mem_of_getElem? (i := 55) (by decide +kernel), List.mem_of_getElem? (i := 405) (by decide +kernel), List.mem_of_getElem? (i := 406) (by decide +kernel)⟩
theorem lw_p29 : lw_okq (⟨"OneTricycle$Play", "leaveRiding", "(I)V"⟩, 14) := ⟨⟨by decide +kernel, by decide +kernel⟩, List.mem_of_getElem? (i := 55) (by decide +kernel), List.mem_of_getElem? (i := 409) (by decide +kernel), List.mem_of_getElem? (i := 410) (by decide +kernel)⟩
theorem lw_p30 : lw_okq (⟨"OneTricycle$Acts", "takeBack", "(LOneTricycle$Play;)V"⟩, 3) := ⟨⟨by decide +kernel, by decide +kernel⟩, List.mem_of_getElem? (i := 117) (by decide +kernel), List.mem_of_getElem? (i := 417) (by decide +kernel), List.mem_of_getElem? (i := 418) (by decide +kernel)⟩
theorem lw_p31 : lw_okq (⟨"OneTricycle", "look", "(IIII)V"⟩, 9) := ⟨⟨by decide +kernel, by decide +kernel⟩, List.mem_of_getElem? (i := 12) (by decide +kernel), List.mem_of_getElem? (i := 428) (by decide +kernel), List.mem_of_getElem? (i := 429) (by decide +kernel)⟩
def lw_privs_2 : List (MethodName × Nat) := [(⟨"OneTricycle$Play", "copyFrom", "(LOneTricycle$Play;)V"⟩, 14), (⟨"OneTricycle$Play", "passMinute", "()V"⟩, 14), (⟨"OneTricycle$Play", "rides", "(I)Z"⟩, 14), (⟨"OneTricycle$Play", "getOffIfDue", "(I)V"⟩, 14), (⟨"OneTricycle$Play", "getOff", "(I)V"⟩, 14), (⟨"OneTricycle$Play", "pushOff", "(I)V"⟩, 14), (⟨"OneTricycle$Play", "getOn", "(I)V"⟩, 14), (⟨"OneTricycle$Play", "rideAndStare", "()V"⟩, 14), (⟨"OneTricycle$Play", "canBePushed", "(I)Z"⟩, 14), (⟨"OneTricycle$Play", "canBeCalled", "(I)Z"⟩, 14), (⟨"OneTricycle$Play", "callAway", "(I)V"⟩, 14), (⟨"OneTricycle$Play", "setRule", "(II)V"⟩, 14), (⟨"OneTricycle$Play", "putOrTakeAway", "()V"⟩, 14), (⟨"OneTricycle$Play", "leaveRiding", "(I)V"⟩, 14), (⟨"OneTricycle$Acts", "takeBack", "(LOneTricycle$Play;)V"⟩, 3), (⟨"OneTricycle", "look", "(IIII)V"⟩, 9)]
theorem lw_r2 : ∀ q ∈ lw_privs_2, lw_okq q := List.forall_mem_cons.mpr ⟨lw_p16, List.forall_mem_cons.mpr ⟨lw_p17, List.forall_mem_cons.mpr ⟨lw_p18, List.forall_mem_cons.mpr ⟨lw_p19, List.forall_mem_cons.mpr ⟨lw_p20, List.forall_mem_cons.mpr ⟨lw_p21, List.forall_mem_cons.mpr ⟨lw_p22, List.forall_mem_cons.mpr ⟨lw_p23, List.forall_mem_cons.mpr ⟨lw_p24, List.forall_mem_cons.mpr ⟨lw_p25, List.forall_mem_cons.mpr ⟨lw_p26, List.forall_mem_cons.mpr ⟨lw_p27, List.forall_mem_cons.mpr ⟨lw_p28, List.forall_mem_cons.mpr ⟨lw_p29, List.forall_mem_cons.mpr ⟨lw_p30, List.forall_mem_cons.mpr ⟨lw_p31, fun _ h => absurd h List.not_mem_nil⟩⟩⟩⟩⟩⟩⟩⟩⟩⟩⟩⟩⟩⟩⟩⟩
theorem lw_p32 : lw_okq (⟨"OneTricycle", "outlook", "(I)I"⟩, 9) := ⟨⟨by decide +kernel, by decide +kernel⟩, List.mem_of_getElem? (i := 12) (by decide +kernel), List.mem_of_getElem? (i := 433) (by decide +kernel), List.mem_of_getElem? (i := 434) (by decide +kernel)⟩
theorem lw_p33 : lw_okq (⟨"OneTricycle$Play", "staredByAll", "()I"⟩, 14) := ⟨⟨by decide +kernel, by decide +kernel⟩, List.mem_of_getElem? (i := 55) (by decide +kernel), List.mem_of_getElem? (i := 437) (by decide +kernel), List.mem_of_getElem? (i := 438) (by decide +kernel)⟩
theorem lw_p34 : lw_okq (⟨"OneTricycle$Play", "gap", "()I"⟩, 14) := ⟨⟨by decide +kernel, by decide +kernel⟩, List.mem_of_getElem? (i := 55) (by decide +kernel), List.mem_of_getElem? (i := 441) (by decide +kernel), List.mem_of_getElem? (i := 442) (by decide +kernel)⟩
theorem lw_p35 : lw_okq (⟨"OneTricycle$Play", "neverRidden", "()I"⟩, 14) := ⟨⟨by decide +kernel, by decide +kernel⟩, List.mem_of_getElem? (i := 55) (by decide +kernel), List.mem_of_getElem? (i := 445) (by decide +kernel), List.mem_of_getElem? (i := 446) (by decide +kernel)⟩
theorem lw_p36 : lw_okq (⟨"OneTricycle$Play", "doIfItCanBe", "(II)Z"⟩, 14) := ⟨⟨by decide +kernel, by decide +kernel⟩, List.mem_of_getElem? (i := 55) (by decide +kernel), List.mem_of_getElem? (i := 475) (by decide +kernel), List.mem_of_getElem? (i := 476) (by decide +kernel)⟩
theorem lw_p37 : lw_okq (⟨"OneTricycle", "riddenByGroup", "(I)I"⟩, 9) := ⟨⟨by decide +kernel, by decide +kernel⟩, List.mem_of_getElem? (i := 12) (by decide +kernel), List.mem_of_getElem? (i := 489) (by decide +kernel), List.mem_of_getElem? (i := 490) (by decide +kernel)⟩
theorem lw_p38 : lw_okq (⟨"OneTricycle$Play", "leaveOnly", "(I)V"⟩, 14) := ⟨⟨by decide +kernel, by decide +kernel⟩, List.mem_of_getElem? (i := 55) (by decide +kernel), List.mem_of_getElem? (i := 493) (by decide +kernel), List.mem_of_getElem? (i := 494) (by decide +kernel)⟩
theorem lw_p39 : lw_okq (⟨"OneTricycle$Seen", "append", "(II)V"⟩, 3) := ⟨⟨by decide +kernel, by decide +kernel⟩, List.mem_of_getElem? (i := 155) (by decide +kernel), List.mem_of_getElem? (i := 515) (by decide +kernel), List.mem_of_getElem? (i := 516) (by decide +kernel)⟩
theorem lw_p40 : lw_okq (⟨"OneTricycle", "allSeenIsSoBy", "(I)Z"⟩, 9) := ⟨⟨by decide +kernel, by decide +kernel⟩, List.mem_of_getElem? (i := 12) (by decide +kernel), List.mem_of_getElem? (i := 527) (by decide +kernel), List.mem_of_getElem? (i := 528) (by decide +kernel)⟩
theorem lw_p41 : lw_okq (⟨"OneTricycle$Seen", "ridersIn", "(I)I"⟩, 3) := ⟨⟨by decide +kernel, by decide +kernel⟩, List.mem_of_getElem? (i := 155) (by decide +kernel), List.mem_of_getElem? (i := 531) (by decide +kernel), List.mem_of_getElem? (i := 532) (by decide +kernel)⟩
theorem lw_p42 : lw_okq (⟨"OneTricycle", "staysWith", "(IIII)Z"⟩, 9) := ⟨⟨by decide +kernel, by decide +kernel⟩, List.mem_of_getElem? (i := 12) (by decide +kernel), List.mem_of_getElem? (i := 539) (by decide +kernel), List.mem_of_getElem? (i := 540) (by decide +kernel)⟩
theorem lw_p43 : lw_okq (⟨"OneTricycle", "gain", "(IIII)I"⟩, 9) := ⟨⟨by decide +kernel, by decide +kernel⟩, List.mem_of_getElem? (i := 12) (by decide +kernel), List.mem_of_getElem? (i := 543) (by decide +kernel), List.mem_of_getElem? (i := 544) (by decide +kernel)⟩
theorem lw_p44 : lw_okq (⟨"OneTricycle", "ridesAfterWorms", "(III)Z"⟩, 9) := ⟨⟨by decide +kernel, by decide +kernel⟩, List.mem_of_getElem? (i := 12) (by decide +kernel), List.mem_of_getElem? (i := 554) (by decide +kernel), List.mem_of_getElem? (i := 555) (by decide +kernel)⟩
theorem lw_p45 : lw_okq (⟨"OneTricycleModel", "readGarden", "()I"⟩, 26) := ⟨⟨by decide +kernel, by decide +kernel⟩, List.mem_of_getElem? (i := 581) (by decide +kernel), List.mem_of_getElem? (i := 682) (by decide +kernel), List.mem_of_getElem? (i := 683) (by decide +kernel)⟩
theorem lw_p46 : lw_okq (⟨"OneTricycleModel", "readHead", "()Z"⟩, 26) := ⟨⟨by decide +kernel, by decide +kernel⟩, List.mem_of_getElem? (i := 581) (by decide +kernel), List.mem_of_getElem? (i := 686) (by decide +kernel), List.mem_of_getElem? (i := 687) (by decide +kernel)⟩
theorem lw_p47 : lw_okq (⟨"OneTricycleModel", "figure", "(II)I"⟩, 26) := ⟨⟨by decide +kernel, by decide +kernel⟩, List.mem_of_getElem? (i := 581) (by decide +kernel), List.mem_of_getElem? (i := 690) (by decide +kernel), List.mem_of_getElem? (i := 691) (by decide +kernel)⟩
def lw_privs_3 : List (MethodName × Nat) := [(⟨"OneTricycle", "outlook", "(I)I"⟩, 9), (⟨"OneTricycle$Play", "staredByAll", "()I"⟩, 14), (⟨"OneTricycle$Play", "gap", "()I"⟩, 14), (⟨"OneTricycle$Play", "neverRidden", "()I"⟩, 14), (⟨"OneTricycle$Play", "doIfItCanBe", "(II)Z"⟩, 14), (⟨"OneTricycle", "riddenByGroup", "(I)I"⟩, 9), (⟨"OneTricycle$Play", "leaveOnly", "(I)V"⟩, 14), (⟨"OneTricycle$Seen", "append", "(II)V"⟩, 3), (⟨"OneTricycle", "allSeenIsSoBy", "(I)Z"⟩, 9), (⟨"OneTricycle$Seen", "ridersIn", "(I)I"⟩, 3), (⟨"OneTricycle", "staysWith", "(IIII)Z"⟩, 9), (⟨"OneTricycle", "gain", "(IIII)I"⟩, 9), (⟨"OneTricycle", "ridesAfterWorms", "(III)Z"⟩, 9), (⟨"OneTricycleModel", "readGarden", "()I"⟩, 26), (⟨"OneTricycleModel", "readHead", "()Z"⟩, 26), (⟨"OneTricycleModel", "figure", "(II)I"⟩, 26)]
theorem lw_r3 : ∀ q ∈ lw_privs_3, lw_okq q := List.forall_mem_cons.mpr ⟨lw_p32, List.forall_mem_cons.mpr ⟨lw_p33, List.forall_mem_cons.mpr ⟨lw_p34, List.forall_mem_cons.mpr ⟨lw_p35, List.forall_mem_cons.mpr ⟨lw_p36, List.forall_mem_cons.mpr ⟨lw_p37, List.forall_mem_cons.mpr ⟨lw_p38, List.forall_mem_cons.mpr ⟨lw_p39, List.forall_mem_cons.mpr ⟨lw_p40, List.forall_mem_cons.mpr ⟨lw_p41, List.forall_mem_cons.mpr ⟨lw_p42, List.forall_mem_cons.mpr ⟨lw_p43, List.forall_mem_cons.mpr ⟨lw_p44, List.forall_mem_cons.mpr ⟨lw_p45, List.forall_mem_cons.mpr ⟨lw_p46, List.forall_mem_cons.mpr ⟨lw_p47, fun _ h => absurd h List.not_mem_nil⟩⟩⟩⟩⟩⟩⟩⟩⟩⟩⟩⟩⟩⟩⟩⟩
theorem lw_p48 : lw_okq (⟨"OneTricycleModel", "readOne", "()Z"⟩, 26) := ⟨⟨by decide +kernel, by decide +kernel⟩, List.mem_of_getElem? (i := 581) (by decide +kernel), List.mem_of_getElem? (i := 694) (by decide +kernel), List.mem_of_getElem? (i := 695) (by decide +kernel)⟩
theorem lw_p49 : lw_okq (⟨"OneTricycleModel", "all", "()I"⟩, 26) := ⟨⟨by decide +kernel, by decide +kernel⟩, List.mem_of_getElem? (i := 581) (by decide +kernel), List.mem_of_getElem? (i := 706) (by decide +kernel), List.mem_of_getElem? (i := 707) (by decide +kernel)⟩
theorem lw_p50 : lw_okq (⟨"OneTricycleModel", "wantsOf", "([I)I"⟩, 26) := ⟨⟨by decide +kernel, by decide +kernel⟩, List.mem_of_getElem? (i := 581) (by decide +kernel), List.mem_of_getElem? (i := 710) (by decide +kernel), List.mem_of_getElem? (i := 711) (by decide +kernel)⟩
theorem lw_p51 : lw_okq (⟨"OneTricycleModel", "asksOf", "([I)I"⟩, 26) := ⟨⟨by decide +kernel, by decide +kernel⟩, List.mem_of_getElem? (i := 581) (by decide +kernel), List.mem_of_getElem? (i := 717) (by decide +kernel), List.mem_of_getElem? (i := 718) (by decide +kernel)⟩
theorem lw_p52 : lw_okq (⟨"OneTricycleModel", "nextOf", "([I)I"⟩, 26) := ⟨⟨by decide +kernel, by decide +kernel⟩, List.mem_of_getElem? (i := 581) (by decide +kernel), List.mem_of_getElem? (i := 721) (by decide +kernel), List.mem_of_getElem? (i := 722) (by decide +kernel)⟩
theorem lw_p53 : lw_okq (⟨"OneTricycleModel", "claim", "([II)I"⟩, 26) := ⟨⟨by decide +kernel, by decide +kernel⟩, List.mem_of_getElem? (i := 581) (by decide +kernel), List.mem_of_getElem? (i := 725) (by decide +kernel), List.mem_of_getElem? (i := 726) (by decide +kernel)⟩
theorem lw_p54 : lw_okq (⟨"OneTricycleModel", "might", "(I)I"⟩, 26) := ⟨⟨by decide +kernel, by decide +kernel⟩, List.mem_of_getElem? (i := 581) (by decide +kernel), List.mem_of_getElem? (i := 729) (by decide +kernel), List.mem_of_getElem? (i := 730) (by decide +kernel)⟩
theorem lw_p55 : lw_okq (⟨"OneTricycleModel", "noChild", "(I)Z"⟩, 26) := ⟨⟨by decide +kernel, by decide +kernel⟩, List.mem_of_getElem? (i := 581) (by decide +kernel), List.mem_of_getElem? (i := 737) (by decide +kernel), List.mem_of_getElem? (i := 738) (by decide +kernel)⟩
theorem lw_p56 : lw_okq (⟨"OneTricycleModel", "note", "()V"⟩, 26) := ⟨⟨by decide +kernel, by decide +kernel⟩, List.mem_of_getElem? (i := 581) (by decide +kernel), List.mem_of_getElem? (i := 745) (by decide +kernel), List.mem_of_getElem? (i := 746) (by decide +kernel)⟩
theorem lw_p57 : lw_okq (⟨"OneTricycleModel", "goMinute", "([I)V"⟩, 26) := ⟨⟨by decide +kernel, by decide +kernel⟩, List.mem_of_getElem? (i := 581) (by decide +kernel), List.mem_of_getElem? (i := 749) (by decide +kernel), List.mem_of_getElem? (i := 750) (by decide +kernel)⟩
theorem lw_p58 : lw_okq (⟨"OneTricycleModel", "lookAt", "([II)V"⟩, 26) := ⟨⟨by decide +kernel, by decide +kernel⟩, List.mem_of_getElem? (i := 581) (by decide +kernel), List.mem_of_getElem? (i := 753) (by decide +kernel), List.mem_of_getElem? (i := 754) (by decide +kernel)⟩
theorem lw_p59 : lw_okq (⟨"OneTricycleModel", "go", "(III)V"⟩, 26) := ⟨⟨by decide +kernel, by decide +kernel⟩, List.mem_of_getElem? (i := 581) (by decide +kernel), List.mem_of_getElem? (i := 797) (by decide +kernel), List.mem_of_getElem? (i := 798) (by decide +kernel)⟩
theorem lw_p60 : lw_okq (⟨"OneTricycleModel", "begin", "()V"⟩, 26) := ⟨⟨by decide +kernel, by decide +kernel⟩, List.mem_of_getElem? (i := 581) (by decide +kernel), List.mem_of_getElem? (i := 801) (by decide +kernel), List.mem_of_getElem? (i := 802) (by decide +kernel)⟩
theorem lw_p61 : lw_okq (⟨"OneTricycleModel", "toldOf", "([II)I"⟩, 26) := ⟨⟨by decide +kernel, by decide +kernel⟩, List.mem_of_getElem? (i := 581) (by decide +kernel), List.mem_of_getElem? (i := 805) (by decide +kernel), List.mem_of_getElem? (i := 806) (by decide +kernel)⟩
theorem lw_p62 : lw_okq (⟨"OneTricycleModel", "sumOf", "([II)I"⟩, 26) := ⟨⟨by decide +kernel, by decide +kernel⟩, List.mem_of_getElem? (i := 581) (by decide +kernel), List.mem_of_getElem? (i := 809) (by decide +kernel), List.mem_of_getElem? (i := 810) (by decide +kernel)⟩
theorem lw_p63 : lw_okq (⟨"OneTricycleModel", "gapOf", "([I)I"⟩, 26) := ⟨⟨by decide +kernel, by decide +kernel⟩, List.mem_of_getElem? (i := 581) (by decide +kernel), List.mem_of_getElem? (i := 813) (by decide +kernel), List.mem_of_getElem? (i := 814) (by decide +kernel)⟩
def lw_privs_4 : List (MethodName × Nat) := [(⟨"OneTricycleModel", "readOne", "()Z"⟩, 26), (⟨"OneTricycleModel", "all", "()I"⟩, 26), (⟨"OneTricycleModel", "wantsOf", "([I)I"⟩, 26), (⟨"OneTricycleModel", "asksOf", "([I)I"⟩, 26), (⟨"OneTricycleModel", "nextOf", "([I)I"⟩, 26), (⟨"OneTricycleModel", "claim", "([II)I"⟩, 26), (⟨"OneTricycleModel", "might", "(I)I"⟩, 26), (⟨"OneTricycleModel", "noChild", "(I)Z"⟩, 26), (⟨"OneTricycleModel", "note", "()V"⟩, 26), (⟨"OneTricycleModel", "goMinute", "([I)V"⟩, 26), (⟨"OneTricycleModel", "lookAt", "([II)V"⟩, 26), (⟨"OneTricycleModel", "go", "(III)V"⟩, 26), (⟨"OneTricycleModel", "begin", "()V"⟩, 26), (⟨"OneTricycleModel", "toldOf", "([II)I"⟩, 26), (⟨"OneTricycleModel", "sumOf", "([II)I"⟩, 26), (⟨"OneTricycleModel", "gapOf", "([I)I"⟩, 26)]
theorem lw_r4 : ∀ q ∈ lw_privs_4, lw_okq q := List.forall_mem_cons.mpr ⟨lw_p48, List.forall_mem_cons.mpr ⟨lw_p49, List.forall_mem_cons.mpr ⟨lw_p50, List.forall_mem_cons.mpr ⟨lw_p51, List.forall_mem_cons.mpr ⟨lw_p52, List.forall_mem_cons.mpr ⟨lw_p53, List.forall_mem_cons.mpr ⟨lw_p54, List.forall_mem_cons.mpr ⟨lw_p55, List.forall_mem_cons.mpr ⟨lw_p56, List.forall_mem_cons.mpr ⟨lw_p57, List.forall_mem_cons.mpr ⟨lw_p58, List.forall_mem_cons.mpr ⟨lw_p59, List.forall_mem_cons.mpr ⟨lw_p60, List.forall_mem_cons.mpr ⟨lw_p61, List.forall_mem_cons.mpr ⟨lw_p62, List.forall_mem_cons.mpr ⟨lw_p63, fun _ h => absurd h List.not_mem_nil⟩⟩⟩⟩⟩⟩⟩⟩⟩⟩⟩⟩⟩⟩⟩⟩
theorem lw_p64 : lw_okq (⟨"OneTricycleModel", "does", "(I)Z"⟩, 26) := ⟨⟨by decide +kernel, by decide +kernel⟩, List.mem_of_getElem? (i := 581) (by decide +kernel), List.mem_of_getElem? (i := 846) (by decide +kernel), List.mem_of_getElem? (i := 847) (by decide +kernel)⟩
theorem lw_p65 : lw_okq (⟨"OneTricycleModel", "isSeen", "(I)Z"⟩, 26) := ⟨⟨by decide +kernel, by decide +kernel⟩, List.mem_of_getElem? (i := 581) (by decide +kernel), List.mem_of_getElem? (i := 876) (by decide +kernel), List.mem_of_getElem? (i := 877) (by decide +kernel)⟩
theorem lw_p66 : lw_okq (⟨"OneTricycleModel", "findRests", "(II)V"⟩, 26) := ⟨⟨by decide +kernel, by decide +kernel⟩, List.mem_of_getElem? (i := 581) (by decide +kernel), List.mem_of_getElem? (i := 884) (by decide +kernel), List.mem_of_getElem? (i := 885) (by decide +kernel)⟩
theorem lw_p67 : lw_okq (⟨"OneTricycleModel", "hasBy", "(IIII)I"⟩, 26) := ⟨⟨by decide +kernel, by decide +kernel⟩, List.mem_of_getElem? (i := 581) (by decide +kernel), List.mem_of_getElem? (i := 888) (by decide +kernel), List.mem_of_getElem? (i := 889) (by decide +kernel)⟩
def lw_privs_5 : List (MethodName × Nat) := [(⟨"OneTricycleModel", "does", "(I)Z"⟩, 26), (⟨"OneTricycleModel", "isSeen", "(I)Z"⟩, 26), (⟨"OneTricycleModel", "findRests", "(II)V"⟩, 26), (⟨"OneTricycleModel", "hasBy", "(IIII)I"⟩, 26)]
theorem lw_r5 : ∀ q ∈ lw_privs_5, lw_okq q := List.forall_mem_cons.mpr ⟨lw_p64, List.forall_mem_cons.mpr ⟨lw_p65, List.forall_mem_cons.mpr ⟨lw_p66, List.forall_mem_cons.mpr ⟨lw_p67, fun _ h => absurd h List.not_mem_nil⟩⟩⟩⟩
def lw_privs : List (MethodName × Nat) := lw_privs_1 ++ (lw_privs_2 ++ (lw_privs_3 ++ (lw_privs_4 ++ (lw_privs_5))))
def lw_tbl : List Cond := k2_sels lw_privs ++ tables_1
theorem lw_privs_ok : ∀ q ∈ lw_privs, lw_okq q := by
  show ∀ q ∈ lw_privs_1 ++ (lw_privs_2 ++ (lw_privs_3 ++ (lw_privs_4 ++ (lw_privs_5)))), lw_okq q
  exact List.forall_mem_append.mpr ⟨lw_r1, List.forall_mem_append.mpr ⟨lw_r2, List.forall_mem_append.mpr ⟨lw_r3, List.forall_mem_append.mpr ⟨lw_r4, lw_r5⟩⟩⟩⟩

theorem goodIn_r {big : List Cond} (ws : List Cond) (ps : List Nat) (hp : ws = ps.filterMap (fun i => big[i]?)) (h : ws.all goodWord = true) : GoodIn big ws := by
  intro w hw
  have h1 := List.all_eq_true.mp h w hw
  rw [hp] at hw
  obtain ⟨i, -, hi⟩ := List.mem_filterMap.mp hw
  have hm : w ∈ big := by first | exact List.mem_of_getElem? hi | exact List.getElem?_mem hi
  exact ⟨hm, good_of_word h1⟩
theorem goodIn_app {big a b : List Cond} (ha : GoodIn big a) (hb : GoodIn big b) : GoodIn big (a ++ b) := fun w h => (List.mem_append.mp h).elim (ha w) (hb w)
theorem goodIn_ca {big a b : List Cond} {c : Cond} (ha : GoodIn big (c :: a)) (hb : GoodIn big b) : GoodIn big (c :: (a ++ b)) := fun w h => (List.mem_cons.mp h).elim (fun e => ha w (List.mem_cons.mpr (Or.inl e))) (fun h => (List.mem_append.mp h).elim (fun h => ha w (List.mem_cons.mpr (Or.inr h))) (hb w))
theorem goodIn_sub {big ws : List Cond} (hm : ∀ w ∈ ws, w ∈ big) (h : ws.all goodWord = true) : GoodIn big ws := fun w hw => ⟨hm w hw, good_of_word (List.all_eq_true.mp h w hw)⟩
def RX0 : String := "OneTricycle$Acts"
def TX0 : u_T := fun k => match k with
  | 0 => ("OneTricycle$Acts", "before", "[LOneTricycle$Play;", true)
  | 1 => ("OneTricycle$Acts", "count", "I", false)
  | _ => ("OneTricycle$Acts", "end", "I", false)
def tyX0 : Nat → FieldType := fun k => match k with
  | 0 => .array (.object "OneTricycle$Play")
  | 1 => .int
  | _ => .int
abbrev wsX00 : List Cond := u_ws RX0 TX0 3
theorem nmX0 : ∀ a, a < 3 → ∀ b, b < 3 → a ≠ b → (TX0 a).2.1 ≠ (TX0 b).2.1 := by decide +kernel
theorem tyX0_ok : ∀ k, k < 3 → parseFieldDescriptor (TX0 k).2.2.1 = some (tyX0 k) := by decide +kernel
abbrev cX0_init : ByteArray := prog_2_method_1_code
def yX0_init : MethodName := ⟨RX0, "<init>", "(LOneTricycle$Kids;)V"⟩
abbrev cX0_remember : ByteArray := prog_2_method_2_code
def yX0_remember : MethodName := ⟨RX0, "remember", "(LOneTricycle$Play;)V"⟩
abbrev cX0_takeBack : ByteArray := prog_2_method_3_code
def yX0_takeBack : MethodName := ⟨RX0, "takeBack", "(LOneTricycle$Play;)V"⟩
abbrev cX0_forgetAll : ByteArray := prog_2_method_4_code
def yX0_forgetAll : MethodName := ⟨RX0, "forgetAll", "()V"⟩
def RX1 : String := "OneTricycle$Kids"
def TX1 : u_T := fun k => match k with
  | 0 => ("OneTricycle$Kids", "count", "I", false)
  | 1 => ("OneTricycle$Kids", "strength", "[I", true)
  | _ => ("OneTricycle$Kids", "kind", "[I", true)
def tyX1 : Nat → FieldType := fun k => match k with
  | 0 => .int
  | 1 => .array .int
  | _ => .array .int
abbrev wsX10 : List Cond := u_ws RX1 TX1 3
theorem nmX1 : ∀ a, a < 3 → ∀ b, b < 3 → a ≠ b → (TX1 a).2.1 ≠ (TX1 b).2.1 := by decide +kernel
theorem tyX1_ok : ∀ k, k < 3 → parseFieldDescriptor (TX1 k).2.2.1 = some (tyX1 k) := by decide +kernel
abbrev cX1_init : ByteArray := prog_3_method_1_code
def yX1_init : MethodName := ⟨RX1, "<init>", "()V"⟩
abbrev cX1_tellFrom : ByteArray := prog_3_method_2_code
def yX1_tellFrom : MethodName := ⟨RX1, "tellFrom", "(LOneTricycle$Text;)V"⟩
abbrev cX1_might : ByteArray := prog_3_method_3_code
def yX1_might : MethodName := ⟨RX1, "might", "(I)I"⟩
def RX2 : String := "OneTricycle$Play"
def TX2 : u_T := fun k => match k with
  | 0 => ("OneTricycle$Play", "kids", "LOneTricycle$Kids;", true)
  | 1 => ("OneTricycle$Play", "there", "I", false)
  | 2 => ("OneTricycle$Play", "riders", "I", false)
  | 3 => ("OneTricycle$Play", "last", "I", false)
  | 4 => ("OneTricycle$Play", "rule", "I", false)
  | 5 => ("OneTricycle$Play", "length", "I", false)
  | 6 => ("OneTricycle$Play", "things", "I", false)
  | 7 => ("OneTricycle$Play", "minutes", "I", false)
  | 8 => ("OneTricycle$Play", "wish", "[I", true)
  | 9 => ("OneTricycle$Play", "rode", "[I", true)
  | 10 => ("OneTricycle$Play", "ridden", "[I", true)
  | 11 => ("OneTricycle$Play", "stared", "[I", true)
  | 12 => ("OneTricycle$Play", "staredSince", "[I", true)
  | _ => ("OneTricycle$Play", "howled", "[I", true)
def tyX2 : Nat → FieldType := fun k => match k with
  | 0 => .object "OneTricycle$Kids"
  | 1 => .int
  | 2 => .int
  | 3 => .int
  | 4 => .int
  | 5 => .int
  | 6 => .int
  | 7 => .int
  | 8 => .array .int
  | 9 => .array .int
  | 10 => .array .int
  | 11 => .array .int
  | 12 => .array .int
  | _ => .array .int
abbrev wsX20 : List Cond := u_ws RX2 TX2 14
theorem nmX2 : ∀ a, a < 14 → ∀ b, b < 14 → a ≠ b → (TX2 a).2.1 ≠ (TX2 b).2.1 := by decide +kernel
theorem tyX2_ok : ∀ k, k < 14 → parseFieldDescriptor (TX2 k).2.2.1 = some (tyX2 k) := by decide +kernel
abbrev cX2_init : ByteArray := prog_4_method_1_code
def yX2_init : MethodName := ⟨RX2, "<init>", "(LOneTricycle$Kids;)V"⟩
abbrev cX2_startFrom : ByteArray := prog_4_method_2_code
def yX2_startFrom : MethodName := ⟨RX2, "startFrom", "(LOneTricycle$Text;)V"⟩
abbrev cX2_copyFrom : ByteArray := prog_4_method_3_code
def yX2_copyFrom : MethodName := ⟨RX2, "copyFrom", "(LOneTricycle$Play;)V"⟩
abbrev cX2_isThere : ByteArray := prog_4_method_4_code
def yX2_isThere : MethodName := ⟨RX2, "isThere", "(I)Z"⟩
abbrev cX2_rides : ByteArray := prog_4_method_5_code
def yX2_rides : MethodName := ⟨RX2, "rides", "(I)Z"⟩
abbrev cX2_wanting : ByteArray := prog_4_method_6_code
def yX2_wanting : MethodName := ⟨RX2, "wanting", "()I"⟩
abbrev cX2_asking : ByteArray := prog_4_method_7_code
def yX2_asking : MethodName := ⟨RX2, "asking", "()I"⟩
abbrev cX2_next : ByteArray := prog_4_method_8_code
def yX2_next : MethodName := ⟨RX2, "next", "()I"⟩
abbrev cX2_comesAhead : ByteArray := prog_4_method_9_code
def yX2_comesAhead : MethodName := ⟨RX2, "comesAhead", "(II)Z"⟩
abbrev cX2_passMinute : ByteArray := prog_4_method_10_code
def yX2_passMinute : MethodName := ⟨RX2, "passMinute", "()V"⟩
abbrev cX2_getOffIfDue : ByteArray := prog_4_method_11_code
def yX2_getOffIfDue : MethodName := ⟨RX2, "getOffIfDue", "(I)V"⟩
abbrev cX2_rideAndStare : ByteArray := prog_4_method_12_code
def yX2_rideAndStare : MethodName := ⟨RX2, "rideAndStare", "()V"⟩
abbrev cX2_getOn : ByteArray := prog_4_method_13_code
def yX2_getOn : MethodName := ⟨RX2, "getOn", "(I)V"⟩
abbrev cX2_getOff : ByteArray := prog_4_method_14_code
def yX2_getOff : MethodName := ⟨RX2, "getOff", "(I)V"⟩
abbrev cX2_canBePushed : ByteArray := prog_4_method_15_code
def yX2_canBePushed : MethodName := ⟨RX2, "canBePushed", "(I)Z"⟩
abbrev cX2_pushOff : ByteArray := prog_4_method_16_code
def yX2_pushOff : MethodName := ⟨RX2, "pushOff", "(I)V"⟩
abbrev cX2_canBeCalled : ByteArray := prog_4_method_17_code
def yX2_canBeCalled : MethodName := ⟨RX2, "canBeCalled", "(I)Z"⟩
abbrev cX2_callAway : ByteArray := prog_4_method_18_code
def yX2_callAway : MethodName := ⟨RX2, "callAway", "(I)V"⟩
abbrev cX2_setRule : ByteArray := prog_4_method_19_code
def yX2_setRule : MethodName := ⟨RX2, "setRule", "(II)V"⟩
abbrev cX2_putOrTakeAway : ByteArray := prog_4_method_20_code
def yX2_putOrTakeAway : MethodName := ⟨RX2, "putOrTakeAway", "()V"⟩
abbrev cX2_leaveRiding : ByteArray := prog_4_method_21_code
def yX2_leaveRiding : MethodName := ⟨RX2, "leaveRiding", "(I)V"⟩
abbrev cX2_leaveOnly : ByteArray := prog_4_method_22_code
def yX2_leaveOnly : MethodName := ⟨RX2, "leaveOnly", "(I)V"⟩
abbrev cX2_doIfItCanBe : ByteArray := prog_4_method_23_code
def yX2_doIfItCanBe : MethodName := ⟨RX2, "doIfItCanBe", "(II)Z"⟩
abbrev cX2_staredByAll : ByteArray := prog_4_method_24_code
def yX2_staredByAll : MethodName := ⟨RX2, "staredByAll", "()I"⟩
abbrev cX2_gap : ByteArray := prog_4_method_25_code
def yX2_gap : MethodName := ⟨RX2, "gap", "()I"⟩
abbrev cX2_neverRidden : ByteArray := prog_4_method_26_code
def yX2_neverRidden : MethodName := ⟨RX2, "neverRidden", "()I"⟩
def RX3 : String := "OneTricycle$Seen"
def TX3 : u_T := fun k => match k with
  | 0 => ("OneTricycle$Seen", "child", "[I", true)
  | 1 => ("OneTricycle$Seen", "minutes", "[I", true)
  | _ => ("OneTricycle$Seen", "count", "I", false)
def tyX3 : Nat → FieldType := fun k => match k with
  | 0 => .array .int
  | 1 => .array .int
  | _ => .int
abbrev wsX30 : List Cond := u_ws RX3 TX3 3
theorem nmX3 : ∀ a, a < 3 → ∀ b, b < 3 → a ≠ b → (TX3 a).2.1 ≠ (TX3 b).2.1 := by decide +kernel
theorem tyX3_ok : ∀ k, k < 3 → parseFieldDescriptor (TX3 k).2.2.1 = some (tyX3 k) := by decide +kernel
abbrev cX3_init : ByteArray := prog_5_method_1_code
def yX3_init : MethodName := ⟨RX3, "<init>", "()V"⟩
abbrev cX3_append : ByteArray := prog_5_method_2_code
def yX3_append : MethodName := ⟨RX3, "append", "(II)V"⟩
abbrev cX3_ridersIn : ByteArray := prog_5_method_3_code
def yX3_ridersIn : MethodName := ⟨RX3, "ridersIn", "(I)I"⟩
def RX4 : String := "OneTricycle$Slots"
def TX4 : u_T := fun k => match k with
  | 0 => ("OneTricycle$Slots", "plays", "[LOneTricycle$Play;", true)
  | _ => ("OneTricycle$Slots", "kept", "[Z", true)
def tyX4 : Nat → FieldType := fun k => match k with
  | 0 => .array (.object "OneTricycle$Play")
  | _ => .array .boolean
abbrev wsX40 : List Cond := u_ws RX4 TX4 2
theorem nmX4 : ∀ a, a < 2 → ∀ b, b < 2 → a ≠ b → (TX4 a).2.1 ≠ (TX4 b).2.1 := by decide +kernel
theorem tyX4_ok : ∀ k, k < 2 → parseFieldDescriptor (TX4 k).2.2.1 = some (tyX4 k) := by decide +kernel
abbrev cX4_init : ByteArray := prog_6_method_1_code
def yX4_init : MethodName := ⟨RX4, "<init>", "(LOneTricycle$Kids;)V"⟩
abbrev cX4_forgetAll : ByteArray := prog_6_method_2_code
def yX4_forgetAll : MethodName := ⟨RX4, "forgetAll", "()V"⟩
def RX5 : String := "OneTricycle$Text"
def TX5 : u_T := fun k => match k with
  | 0 => ("OneTricycle$Text", "letters", "[I", true)
  | _ => ("OneTricycle$Text", "length", "I", false)
def tyX5 : Nat → FieldType := fun k => match k with
  | 0 => .array .int
  | _ => .int
abbrev wsX50 : List Cond := u_ws RX5 TX5 2
theorem nmX5 : ∀ a, a < 2 → ∀ b, b < 2 → a ≠ b → (TX5 a).2.1 ≠ (TX5 b).2.1 := by decide +kernel
theorem tyX5_ok : ∀ k, k < 2 → parseFieldDescriptor (TX5 k).2.2.1 = some (tyX5 k) := by decide +kernel
abbrev cX5_init : ByteArray := prog_7_method_1_code
def yX5_init : MethodName := ⟨RX5, "<init>", "()V"⟩
abbrev cX5_append : ByteArray := prog_7_method_2_code
def yX5_append : MethodName := ⟨RX5, "append", "(I)V"⟩
abbrev cX5_faultPlace : ByteArray := prog_7_method_3_code
def yX5_faultPlace : MethodName := ⟨RX5, "faultPlace", "()I"⟩
abbrev cX5_fits : ByteArray := prog_7_method_4_code
def yX5_fits : MethodName := ⟨RX5, "fits", "(II)Z"⟩
abbrev cX5_fitsChild : ByteArray := prog_7_method_5_code
def yX5_fitsChild : MethodName := ⟨RX5, "fitsChild", "(II)Z"⟩
abbrev cX5_isFigure : ByteArray := prog_7_method_6_code
def yX5_isFigure : MethodName := ⟨RX5, "isFigure", "(III)Z"⟩
abbrev cX5_figure : ByteArray := prog_7_method_7_code
def yX5_figure : MethodName := ⟨RX5, "figure", "(I)I"⟩
abbrev cX5_figureOfChild : ByteArray := prog_7_method_8_code
def yX5_figureOfChild : MethodName := ⟨RX5, "figureOfChild", "(II)I"⟩
abbrev cX5_countChildren : ByteArray := prog_7_method_9_code
def yX5_countChildren : MethodName := ⟨RX5, "countChildren", "()I"⟩
def RX6 : String := "OneTricycle"
def TX6 : u_T := fun k => match k with
  | 0 => ("OneTricycle", "text", "LOneTricycle$Text;", true)
  | 1 => ("OneTricycle", "kids", "LOneTricycle$Kids;", true)
  | 2 => ("OneTricycle", "now", "LOneTricycle$Play;", true)
  | 3 => ("OneTricycle", "then", "LOneTricycle$Play;", true)
  | 4 => ("OneTricycle", "acts", "LOneTricycle$Acts;", true)
  | 5 => ("OneTricycle", "slots", "LOneTricycle$Slots;", true)
  | 6 => ("OneTricycle", "seen", "LOneTricycle$Seen;", true)
  | 7 => ("OneTricycle", "worths", "[I", true)
  | _ => ("OneTricycle", "seed", "J", false)
def tyX6 : Nat → FieldType := fun k => match k with
  | 0 => .object "OneTricycle$Text"
  | 1 => .object "OneTricycle$Kids"
  | 2 => .object "OneTricycle$Play"
  | 3 => .object "OneTricycle$Play"
  | 4 => .object "OneTricycle$Acts"
  | 5 => .object "OneTricycle$Slots"
  | 6 => .object "OneTricycle$Seen"
  | 7 => .array .int
  | _ => .long
abbrev wsX60 : List Cond := u_ws RX6 TX6 9
theorem nmX6 : ∀ a, a < 9 → ∀ b, b < 9 → a ≠ b → (TX6 a).2.1 ≠ (TX6 b).2.1 := by decide +kernel
theorem tyX6_ok : ∀ k, k < 9 → parseFieldDescriptor (TX6 k).2.2.1 = some (tyX6 k) := by decide +kernel
abbrev cX6_init : ByteArray := prog_1_method_1_code
def yX6_init : MethodName := ⟨RX6, "<init>", "()V"⟩
abbrev cX6_write : ByteArray := prog_1_method_2_code
def yX6_write : MethodName := ⟨RX6, "write", "(I)I"⟩
abbrev cX6_wipe : ByteArray := prog_1_method_3_code
def yX6_wipe : MethodName := ⟨RX6, "wipe", "()I"⟩
abbrev cX6_fault : ByteArray := prog_1_method_4_code
def yX6_fault : MethodName := ⟨RX6, "fault", "()I"⟩
abbrev cX6_garden : ByteArray := prog_1_method_5_code
def yX6_garden : MethodName := ⟨RX6, "garden", "()I"⟩
abbrev cX6_about : ByteArray := prog_1_method_6_code
def yX6_about : MethodName := ⟨RX6, "about", "(I)I"⟩
abbrev cX6_child : ByteArray := prog_1_method_7_code
def yX6_child : MethodName := ⟨RX6, "child", "(II)I"⟩
abbrev cX6_minute : ByteArray := prog_1_method_8_code
def yX6_minute : MethodName := ⟨RX6, "minute", "()I"⟩
abbrev cX6_give : ByteArray := prog_1_method_9_code
def yX6_give : MethodName := ⟨RX6, "give", "(II)I"⟩
abbrev cX6_push : ByteArray := prog_1_method_10_code
def yX6_push : MethodName := ⟨RX6, "push", "(I)I"⟩
abbrev cX6_call : ByteArray := prog_1_method_11_code
def yX6_call : MethodName := ⟨RX6, "call", "(I)I"⟩
abbrev cX6_rule : ByteArray := prog_1_method_12_code
def yX6_rule : MethodName := ⟨RX6, "rule", "(II)I"⟩
abbrev cX6_put : ByteArray := prog_1_method_13_code
def yX6_put : MethodName := ⟨RX6, "put", "()I"⟩
abbrev cX6_undo : ByteArray := prog_1_method_14_code
def yX6_undo : MethodName := ⟨RX6, "undo", "()I"⟩
abbrev cX6_ahead : ByteArray := prog_1_method_15_code
def yX6_ahead : MethodName := ⟨RX6, "ahead", "(II)I"⟩
abbrev cX6_by : ByteArray := prog_1_method_16_code
def yX6_by : MethodName := ⟨RX6, "by", "(IIII)I"⟩
abbrev cX6_bestLength : ByteArray := prog_1_method_17_code
def yX6_bestLength : MethodName := ⟨RX6, "bestLength", "(II)I"⟩
abbrev cX6_bestRule : ByteArray := prog_1_method_18_code
def yX6_bestRule : MethodName := ⟨RX6, "bestRule", "(I)I"⟩
abbrev cX6_first : ByteArray := prog_1_method_19_code
def yX6_first : MethodName := ⟨RX6, "first", "(I)I"⟩
abbrev cX6_second : ByteArray := prog_1_method_20_code
def yX6_second : MethodName := ⟨RX6, "second", "(I)I"⟩
abbrev cX6_judge : ByteArray := prog_1_method_21_code
def yX6_judge : MethodName := ⟨RX6, "judge", "(II)I"⟩
abbrev cX6_share : ByteArray := prog_1_method_22_code
def yX6_share : MethodName := ⟨RX6, "share", "(IZ)I"⟩
abbrev cX6_see : ByteArray := prog_1_method_23_code
def yX6_see : MethodName := ⟨RX6, "see", "(II)I"⟩
abbrev cX6_unsee : ByteArray := prog_1_method_24_code
def yX6_unsee : MethodName := ⟨RX6, "unsee", "()I"⟩
abbrev cX6_may : ByteArray := prog_1_method_25_code
def yX6_may : MethodName := ⟨RX6, "may", "()I"⟩
abbrev cX6_rests : ByteArray := prog_1_method_26_code
def yX6_rests : MethodName := ⟨RX6, "rests", "(III)I"⟩
abbrev cX6_chance : ByteArray := prog_1_method_27_code
def yX6_chance : MethodName := ⟨RX6, "chance", "(IIIZ)I"⟩
abbrev cX6_seed : ByteArray := prog_1_method_28_code
def yX6_seed : MethodName := ⟨RX6, "seed", "(J)J"⟩
abbrev cX6_days : ByteArray := prog_1_method_29_code
def yX6_days : MethodName := ⟨RX6, "days", "(I)I"⟩
abbrev cX6_keep : ByteArray := prog_1_method_30_code
def yX6_keep : MethodName := ⟨RX6, "keep", "(I)I"⟩
abbrev cX6_again : ByteArray := prog_1_method_31_code
def yX6_again : MethodName := ⟨RX6, "again", "(I)I"⟩
abbrev cX6_isRule : ByteArray := prog_1_method_32_code
def yX6_isRule : MethodName := ⟨RX6, "isRule", "(I)Z"⟩
abbrev cX6_isLength : ByteArray := prog_1_method_33_code
def yX6_isLength : MethodName := ⟨RX6, "isLength", "(I)Z"⟩
abbrev cX6_isOutlook : ByteArray := prog_1_method_34_code
def yX6_isOutlook : MethodName := ⟨RX6, "isOutlook", "(I)Z"⟩
abbrev cX6_isSlot : ByteArray := prog_1_method_35_code
def yX6_isSlot : MethodName := ⟨RX6, "isSlot", "(I)Z"⟩
abbrev cX6_has : ByteArray := prog_1_method_36_code
def yX6_has : MethodName := ⟨RX6, "has", "(II)Z"⟩
abbrev cX6_look : ByteArray := prog_1_method_37_code
def yX6_look : MethodName := ⟨RX6, "look", "(IIII)V"⟩
abbrev cX6_outlook : ByteArray := prog_1_method_38_code
def yX6_outlook : MethodName := ⟨RX6, "outlook", "(I)I"⟩
abbrev cX6_riddenByGroup : ByteArray := prog_1_method_39_code
def yX6_riddenByGroup : MethodName := ⟨RX6, "riddenByGroup", "(I)I"⟩
abbrev cX6_allSeenIsSoBy : ByteArray := prog_1_method_40_code
def yX6_allSeenIsSoBy : MethodName := ⟨RX6, "allSeenIsSoBy", "(I)Z"⟩
abbrev cX6_staysWith : ByteArray := prog_1_method_41_code
def yX6_staysWith : MethodName := ⟨RX6, "staysWith", "(IIII)Z"⟩
abbrev cX6_gain : ByteArray := prog_1_method_42_code
def yX6_gain : MethodName := ⟨RX6, "gain", "(IIII)I"⟩
abbrev cX6_weightOfWorms : ByteArray := prog_1_method_43_code
def yX6_weightOfWorms : MethodName := ⟨RX6, "weightOfWorms", "(III)I"⟩
abbrev cX6_ridesAfterWorms : ByteArray := prog_1_method_44_code
def yX6_ridesAfterWorms : MethodName := ⟨RX6, "ridesAfterWorms", "(III)Z"⟩
abbrev cX6_fraction : ByteArray := prog_1_method_45_code
def yX6_fraction : MethodName := ⟨RX6, "fraction", "(IIZ)I"⟩
abbrev cX6_commonDivisor : ByteArray := prog_1_method_46_code
def yX6_commonDivisor : MethodName := ⟨RX6, "commonDivisor", "(II)I"⟩
def RX7 : String := "OneTricycleModel"
def TX7 : u_T := fun k => match k with
  | 0 => ("OneTricycleModel", "thrown", "I", false)
  | 1 => ("OneTricycleModel", "text", "[I", true)
  | 2 => ("OneTricycleModel", "textSize", "I", false)
  | 3 => ("OneTricycleModel", "place", "I", false)
  | 4 => ("OneTricycleModel", "children", "I", false)
  | 5 => ("OneTricycleModel", "strong", "[I", true)
  | 6 => ("OneTricycleModel", "kind", "[I", true)
  | 7 => ("OneTricycleModel", "readRule", "I", false)
  | 8 => ("OneTricycleModel", "readLength", "I", false)
  | 9 => ("OneTricycleModel", "readThings", "I", false)
  | 10 => ("OneTricycleModel", "readChildren", "I", false)
  | 11 => ("OneTricycleModel", "readChild", "[I", true)
  | 12 => ("OneTricycleModel", "page", "[I", true)
  | 13 => ("OneTricycleModel", "trial", "[I", true)
  | 14 => ("OneTricycleModel", "book", "[I", true)
  | 15 => ("OneTricycleModel", "acts", "I", false)
  | 16 => ("OneTricycleModel", "kept", "[I", true)
  | 17 => ("OneTricycleModel", "isKept", "[Z", true)
  | 18 => ("OneTricycleModel", "seen", "I", false)
  | 19 => ("OneTricycleModel", "seenChild", "[I", true)
  | 20 => ("OneTricycleModel", "seenMinute", "[I", true)
  | 21 => ("OneTricycleModel", "seed", "J", false)
  | 22 => ("OneTricycleModel", "restMany", "I", false)
  | 23 => ("OneTricycleModel", "restFirst", "I", false)
  | 24 => ("OneTricycleModel", "value", "[I", true)
  | _ => ("OneTricycleModel", "there", "I", false)
def tyX7 : Nat → FieldType := fun k => match k with
  | 0 => .int
  | 1 => .array .int
  | 2 => .int
  | 3 => .int
  | 4 => .int
  | 5 => .array .int
  | 6 => .array .int
  | 7 => .int
  | 8 => .int
  | 9 => .int
  | 10 => .int
  | 11 => .array .int
  | 12 => .array .int
  | 13 => .array .int
  | 14 => .array .int
  | 15 => .int
  | 16 => .array .int
  | 17 => .array .boolean
  | 18 => .int
  | 19 => .array .int
  | 20 => .array .int
  | 21 => .long
  | 22 => .int
  | 23 => .int
  | 24 => .array .int
  | _ => .int
abbrev wsX70 : List Cond := u_ws RX7 TX7 26
theorem nmX7 : ∀ a, a < 26 → ∀ b, b < 26 → a ≠ b → (TX7 a).2.1 ≠ (TX7 b).2.1 := by decide +kernel
theorem tyX7_ok : ∀ k, k < 26 → parseFieldDescriptor (TX7 k).2.2.1 = some (tyX7 k) := by decide +kernel
abbrev cX7_init : ByteArray := prog_9_method_1_code
def yX7_init : MethodName := ⟨RX7, "<init>", "()V"⟩
abbrev cX7_in : ByteArray := prog_9_method_3_code
def yX7_in : MethodName := ⟨RX7, "in", "(JJJ)Z"⟩
abbrev cX7_has : ByteArray := prog_9_method_4_code
def yX7_has : MethodName := ⟨RX7, "has", "(II)Z"⟩
abbrev cX7_many : ByteArray := prog_9_method_5_code
def yX7_many : MethodName := ⟨RX7, "many", "(I)I"⟩
abbrev cX7_noChild : ByteArray := prog_9_method_6_code
def yX7_noChild : MethodName := ⟨RX7, "noChild", "(I)Z"⟩
abbrev cX7_write : ByteArray := prog_9_method_7_code
def yX7_write : MethodName := ⟨RX7, "write", "(I)I"⟩
abbrev cX7_wipe : ByteArray := prog_9_method_8_code
def yX7_wipe : MethodName := ⟨RX7, "wipe", "()I"⟩
abbrev cX7_figure : ByteArray := prog_9_method_9_code
def yX7_figure : MethodName := ⟨RX7, "figure", "(II)I"⟩
abbrev cX7_readHead : ByteArray := prog_9_method_10_code
def yX7_readHead : MethodName := ⟨RX7, "readHead", "()Z"⟩
abbrev cX7_readOne : ByteArray := prog_9_method_11_code
def yX7_readOne : MethodName := ⟨RX7, "readOne", "()Z"⟩
abbrev cX7_readGarden : ByteArray := prog_9_method_12_code
def yX7_readGarden : MethodName := ⟨RX7, "readGarden", "()I"⟩
abbrev cX7_fault : ByteArray := prog_9_method_13_code
def yX7_fault : MethodName := ⟨RX7, "fault", "()I"⟩
abbrev cX7_garden : ByteArray := prog_9_method_14_code
def yX7_garden : MethodName := ⟨RX7, "garden", "()I"⟩
abbrev cX7_might : ByteArray := prog_9_method_15_code
def yX7_might : MethodName := ⟨RX7, "might", "(I)I"⟩
abbrev cX7_wantsOf : ByteArray := prog_9_method_16_code
def yX7_wantsOf : MethodName := ⟨RX7, "wantsOf", "([I)I"⟩
abbrev cX7_asksOf : ByteArray := prog_9_method_17_code
def yX7_asksOf : MethodName := ⟨RX7, "asksOf", "([I)I"⟩
abbrev cX7_claim : ByteArray := prog_9_method_18_code
def yX7_claim : MethodName := ⟨RX7, "claim", "([II)I"⟩
abbrev cX7_nextOf : ByteArray := prog_9_method_19_code
def yX7_nextOf : MethodName := ⟨RX7, "nextOf", "([I)I"⟩
abbrev cX7_getOff : ByteArray := prog_9_method_20_code
def yX7_getOff : MethodName := ⟨RX7, "getOff", "([II)V"⟩
abbrev cX7_getOn : ByteArray := prog_9_method_21_code
def yX7_getOn : MethodName := ⟨RX7, "getOn", "([II)V"⟩
abbrev cX7_lookAt : ByteArray := prog_9_method_22_code
def yX7_lookAt : MethodName := ⟨RX7, "lookAt", "([II)V"⟩
abbrev cX7_goMinute : ByteArray := prog_9_method_23_code
def yX7_goMinute : MethodName := ⟨RX7, "goMinute", "([I)V"⟩
abbrev cX7_all : ByteArray := prog_9_method_24_code
def yX7_all : MethodName := ⟨RX7, "all", "()I"⟩
abbrev cX7_sumOf : ByteArray := prog_9_method_25_code
def yX7_sumOf : MethodName := ⟨RX7, "sumOf", "([II)I"⟩
abbrev cX7_about : ByteArray := prog_9_method_26_code
def yX7_about : MethodName := ⟨RX7, "about", "(I)I"⟩
abbrev cX7_child : ByteArray := prog_9_method_27_code
def yX7_child : MethodName := ⟨RX7, "child", "(II)I"⟩
abbrev cX7_note : ByteArray := prog_9_method_28_code
def yX7_note : MethodName := ⟨RX7, "note", "()V"⟩
abbrev cX7_minute : ByteArray := prog_9_method_29_code
def yX7_minute : MethodName := ⟨RX7, "minute", "()I"⟩
abbrev cX7_give : ByteArray := prog_9_method_30_code
def yX7_give : MethodName := ⟨RX7, "give", "(II)I"⟩
abbrev cX7_push : ByteArray := prog_9_method_31_code
def yX7_push : MethodName := ⟨RX7, "push", "(I)I"⟩
abbrev cX7_call : ByteArray := prog_9_method_32_code
def yX7_call : MethodName := ⟨RX7, "call", "(I)I"⟩
abbrev cX7_rule : ByteArray := prog_9_method_33_code
def yX7_rule : MethodName := ⟨RX7, "rule", "(II)I"⟩
abbrev cX7_put : ByteArray := prog_9_method_34_code
def yX7_put : MethodName := ⟨RX7, "put", "()I"⟩
abbrev cX7_undo : ByteArray := prog_9_method_35_code
def yX7_undo : MethodName := ⟨RX7, "undo", "()I"⟩
abbrev cX7_begin : ByteArray := prog_9_method_36_code
def yX7_begin : MethodName := ⟨RX7, "begin", "()V"⟩
abbrev cX7_go : ByteArray := prog_9_method_37_code
def yX7_go : MethodName := ⟨RX7, "go", "(III)V"⟩
abbrev cX7_gapOf : ByteArray := prog_9_method_38_code
def yX7_gapOf : MethodName := ⟨RX7, "gapOf", "([I)I"⟩
abbrev cX7_toldOf : ByteArray := prog_9_method_39_code
def yX7_toldOf : MethodName := ⟨RX7, "toldOf", "([II)I"⟩
abbrev cX7_ahead : ByteArray := prog_9_method_40_code
def yX7_ahead : MethodName := ⟨RX7, "ahead", "(II)I"⟩
abbrev cX7_by : ByteArray := prog_9_method_41_code
def yX7_by : MethodName := ⟨RX7, "by", "(IIII)I"⟩
abbrev cX7_bestLength : ByteArray := prog_9_method_42_code
def yX7_bestLength : MethodName := ⟨RX7, "bestLength", "(II)I"⟩
abbrev cX7_bestRule : ByteArray := prog_9_method_43_code
def yX7_bestRule : MethodName := ⟨RX7, "bestRule", "(I)I"⟩
abbrev cX7_first : ByteArray := prog_9_method_44_code
def yX7_first : MethodName := ⟨RX7, "first", "(I)I"⟩
abbrev cX7_second : ByteArray := prog_9_method_45_code
def yX7_second : MethodName := ⟨RX7, "second", "(I)I"⟩
abbrev cX7_power : ByteArray := prog_9_method_46_code
def yX7_power : MethodName := ⟨RX7, "power", "(II)I"⟩
abbrev cX7_does : ByteArray := prog_9_method_47_code
def yX7_does : MethodName := ⟨RX7, "does", "(I)Z"⟩
abbrev cX7_judge : ByteArray := prog_9_method_48_code
def yX7_judge : MethodName := ⟨RX7, "judge", "(II)I"⟩
abbrev cX7_ways : ByteArray := prog_9_method_49_code
def yX7_ways : MethodName := ⟨RX7, "ways", "(I)I"⟩
abbrev cX7_divisor : ByteArray := prog_9_method_50_code
def yX7_divisor : MethodName := ⟨RX7, "divisor", "(II)I"⟩
abbrev cX7_fraction : ByteArray := prog_9_method_51_code
def yX7_fraction : MethodName := ⟨RX7, "fraction", "(IIZ)I"⟩
abbrev cX7_share : ByteArray := prog_9_method_52_code
def yX7_share : MethodName := ⟨RX7, "share", "(IZ)I"⟩
abbrev cX7_see : ByteArray := prog_9_method_53_code
def yX7_see : MethodName := ⟨RX7, "see", "(II)I"⟩
abbrev cX7_unsee : ByteArray := prog_9_method_54_code
def yX7_unsee : MethodName := ⟨RX7, "unsee", "()I"⟩
abbrev cX7_isSeen : ByteArray := prog_9_method_55_code
def yX7_isSeen : MethodName := ⟨RX7, "isSeen", "(I)Z"⟩
abbrev cX7_may : ByteArray := prog_9_method_56_code
def yX7_may : MethodName := ⟨RX7, "may", "()I"⟩
abbrev cX7_hasBy : ByteArray := prog_9_method_57_code
def yX7_hasBy : MethodName := ⟨RX7, "hasBy", "(IIII)I"⟩
abbrev cX7_findRests : ByteArray := prog_9_method_58_code
def yX7_findRests : MethodName := ⟨RX7, "findRests", "(II)V"⟩
abbrev cX7_rests : ByteArray := prog_9_method_59_code
def yX7_rests : MethodName := ⟨RX7, "rests", "(III)I"⟩
abbrev cX7_chance : ByteArray := prog_9_method_60_code
def yX7_chance : MethodName := ⟨RX7, "chance", "(IIIZ)I"⟩
abbrev cX7_seed : ByteArray := prog_9_method_61_code
def yX7_seed : MethodName := ⟨RX7, "seed", "(J)J"⟩
abbrev cX7_days : ByteArray := prog_9_method_62_code
def yX7_days : MethodName := ⟨RX7, "days", "(I)I"⟩
abbrev cX7_keep : ByteArray := prog_9_method_63_code
def yX7_keep : MethodName := ⟨RX7, "keep", "(I)I"⟩
abbrev cX7_again : ByteArray := prog_9_method_64_code
def yX7_again : MethodName := ⟨RX7, "again", "(I)I"⟩
def RJ6 : String := "java/lang/Integer"
def TJ6 : u_T := fun k => match k with
  | _ => ("", "", "", false)
def tyJ6 : Nat → FieldType := fun k => match k with
  | _ => .int
abbrev wsJ60 : List Cond := u_ws RJ6 TJ6 0
theorem nmJ6 : ∀ a, a < 0 → ∀ b, b < 0 → a ≠ b → (TJ6 a).2.1 ≠ (TJ6 b).2.1 := by decide +kernel
theorem tyJ6_ok : ∀ k, k < 0 → parseFieldDescriptor (TJ6 k).2.2.1 = some (tyJ6 k) := by decide +kernel
abbrev cJ6_bitCount_0f7a4 : ByteArray := prog_10_method_49_code
def yJ6_bitCount_0f7a4 : MethodName := ⟨RJ6, "bitCount", "(I)I"⟩
def RJ9 : String := "java/lang/Math"
def TJ9 : u_T := fun k => match k with
  | _ => ("", "", "", false)
def tyJ9 : Nat → FieldType := fun k => match k with
  | _ => .int
abbrev wsJ90 : List Cond := u_ws RJ9 TJ9 0
theorem nmJ9 : ∀ a, a < 0 → ∀ b, b < 0 → a ≠ b → (TJ9 a).2.1 ≠ (TJ9 b).2.1 := by decide +kernel
theorem tyJ9_ok : ∀ k, k < 0 → parseFieldDescriptor (TJ9 k).2.2.1 = some (tyJ9 k) := by decide +kernel
abbrev cJ9_abs_0f7a4 : ByteArray := prog_11_method_59_code
def yJ9_abs_0f7a4 : MethodName := ⟨RJ9, "abs", "(I)I"⟩
abbrev cJ9_max_7cf53 : ByteArray := prog_11_method_65_code
def yJ9_max_7cf53 : MethodName := ⟨RJ9, "max", "(II)I"⟩
abbrev cJ9_min_7cf53 : ByteArray := prog_11_method_69_code
def yJ9_min_7cf53 : MethodName := ⟨RJ9, "min", "(II)I"⟩
def RL : String := "OneTricycleLaw"
abbrev cL_law : ByteArray := code
def yL_law : MethodName := ⟨RL, "law", "([I)Z"⟩
abbrev vwCl : List vw_C := [(RX0, TX0, 3), (RX1, TX1, 3), (RX2, TX2, 14), (RX3, TX3, 3), (RX4, TX4, 2), (RX5, TX5, 2), (RX6, TX6, 9), (RX7, TX7, 26)]
