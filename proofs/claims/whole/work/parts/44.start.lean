theorem wd_instantiable_OneTricycle_9 : Cond.instantiable RX6 9 ∈ lwA := lwA_1 12 (by rfl) (by rfl)
theorem wd_instantiable_OneTricycleModel_26 : Cond.instantiable RX7 26 ∈ lwA := lwA_3 101 (by rfl) (by rfl)
theorem wd_classLink_OneTricycleLaw_7_OneTricycle_ : Cond.classLink RL 7 RX6 ∈ lwA := lwA_1 11 (by rfl) (by rfl)
theorem wd_classLink_OneTricycleLaw_10_OneTricycleModel_ : Cond.classLink RL 10 RX7 ∈ lwA := lwA_3 100 (by rfl) (by rfl)
theorem wd_code_X6_init : Cond.code yX6_init cX6_init 1 none ∈ lwA := lwA_1 15 (by rfl) (by rfl)
theorem wd_instanceMethod_OneTricycle_init_V_ : Cond.instanceMethod yX6_init ∈ lwA := lwA_1 14 (by rfl) (by rfl)
theorem wd_code_X7_init : Cond.code yX7_init cX7_init 1 none ∈ lwA := lwA_3 104 (by rfl) (by rfl)
theorem wd_instanceMethod_OneTricycleModel_init_V_ : Cond.instanceMethod yX7_init ∈ lwA := lwA_3 103 (by rfl) (by rfl)
theorem wd_methodLink_OneTricycleLaw_9_OneTricycle_init_V_ : Cond.methodLink RL 9 yX6_init ∈ lwA := lwA_1 13 (by rfl) (by rfl)
theorem wd_methodLink_OneTricycleLaw_12_OneTricycleModel_init_V_ : Cond.methodLink RL 12 yX7_init ∈ lwA := lwA_3 102 (by rfl) (by rfl)
theorem mi_X6_init : MwY yX6_init cX6_init 1 none 0 := ⟨wd_code_X6_init, wd_initialized_OneTricycle_, by decide +kernel, by decide +kernel, by decide +kernel⟩
theorem mi_X7_init : MwY yX7_init cX7_init 1 none 0 := ⟨wd_code_X7_init, wd_initialized_OneTricycleModel_, by decide +kernel, by decide +kernel, by decide +kernel⟩
theorem ml_L_9 : Cond.methodLink RL 9 yX6_init ∈ lwA := wd_methodLink_OneTricycleLaw_9_OneTricycle_init_V_
theorem ml_L_12 : Cond.methodLink RL 12 yX7_init ∈ lwA := wd_methodLink_OneTricycleLaw_12_OneTricycleModel_init_V_
theorem nf_0 : Cond.fieldLinkNest "OneTricycle" 64 "OneTricycle$Text" "length" "I" "OneTricycle" ∈ lw_tbl := List.mem_append_right _ (List.mem_append_left _ (List.mem_of_getElem? (i := 27) (by rfl)))
theorem nf_1 : Cond.fieldLinkNest "OneTricycle" 87 "OneTricycle$Kids" "count" "I" "OneTricycle" ∈ lw_tbl := List.mem_append_right _ (List.mem_append_left _ (List.mem_of_getElem? (i := 41) (by rfl)))
theorem nf_2 : Cond.fieldLinkNest "OneTricycle" 124 "OneTricycle$Kids" "strength" "[I" "OneTricycle" ∈ lw_tbl := List.mem_append_right _ (List.mem_append_left _ (List.mem_of_getElem? (i := 43) (by rfl)))
theorem nf_3 : Cond.fieldLinkNest "OneTricycle$Play" 77 "OneTricycle$Kids" "kind" "[I" "OneTricycle" ∈ lw_tbl := List.mem_append_right _ (List.mem_append_left _ (List.mem_of_getElem? (i := 45) (by rfl)))
theorem nf_4 : Cond.fieldLinkNest "OneTricycle" 127 "OneTricycle$Kids" "kind" "[I" "OneTricycle" ∈ lw_tbl := List.mem_append_right _ (List.mem_append_left _ (List.mem_of_getElem? (i := 46) (by rfl)))
theorem nf_5 : Cond.fieldLinkNest "OneTricycle" 280 "OneTricycle$Play" "there" "I" "OneTricycle" ∈ lw_tbl := List.mem_append_right _ (List.mem_append_left _ (List.mem_of_getElem? (i := 62) (by rfl)))
theorem nf_6 : Cond.fieldLinkNest "OneTricycle" 97 "OneTricycle$Play" "riders" "I" "OneTricycle" ∈ lw_tbl := List.mem_append_right _ (List.mem_append_left _ (List.mem_of_getElem? (i := 64) (by rfl)))
theorem nf_7 : Cond.fieldLinkNest "OneTricycle" 109 "OneTricycle$Play" "last" "I" "OneTricycle" ∈ lw_tbl := List.mem_append_right _ (List.mem_append_left _ (List.mem_of_getElem? (i := 66) (by rfl)))
theorem nf_8 : Cond.fieldLinkNest "OneTricycle" 90 "OneTricycle$Play" "rule" "I" "OneTricycle" ∈ lw_tbl := List.mem_append_right _ (List.mem_append_left _ (List.mem_of_getElem? (i := 68) (by rfl)))
theorem nf_9 : Cond.fieldLinkNest "OneTricycle" 93 "OneTricycle$Play" "length" "I" "OneTricycle" ∈ lw_tbl := List.mem_append_right _ (List.mem_append_left _ (List.mem_of_getElem? (i := 70) (by rfl)))
theorem nf_10 : Cond.fieldLinkNest "OneTricycle" 94 "OneTricycle$Play" "things" "I" "OneTricycle" ∈ lw_tbl := List.mem_append_right _ (List.mem_append_left _ (List.mem_of_getElem? (i := 72) (by rfl)))
theorem nf_11 : Cond.fieldLinkNest "OneTricycle" 112 "OneTricycle$Play" "minutes" "I" "OneTricycle" ∈ lw_tbl := List.mem_append_right _ (List.mem_append_left _ (List.mem_of_getElem? (i := 74) (by rfl)))
theorem nf_12 : Cond.fieldLinkNest "OneTricycle" 121 "OneTricycle$Play" "wish" "[I" "OneTricycle" ∈ lw_tbl := List.mem_append_right _ (List.mem_append_left _ (List.mem_of_getElem? (i := 76) (by rfl)))
theorem nf_13 : Cond.fieldLinkNest "OneTricycle" 134 "OneTricycle$Play" "rode" "[I" "OneTricycle" ∈ lw_tbl := List.mem_append_right _ (List.mem_append_left _ (List.mem_of_getElem? (i := 78) (by rfl)))
theorem nf_14 : Cond.fieldLinkNest "OneTricycle" 137 "OneTricycle$Play" "ridden" "[I" "OneTricycle" ∈ lw_tbl := List.mem_append_right _ (List.mem_append_left _ (List.mem_of_getElem? (i := 80) (by rfl)))
theorem nf_15 : Cond.fieldLinkNest "OneTricycle" 140 "OneTricycle$Play" "stared" "[I" "OneTricycle" ∈ lw_tbl := List.mem_append_right _ (List.mem_append_left _ (List.mem_of_getElem? (i := 82) (by rfl)))
theorem nf_16 : Cond.fieldLinkNest "OneTricycle" 143 "OneTricycle$Play" "staredSince" "[I" "OneTricycle" ∈ lw_tbl := List.mem_append_right _ (List.mem_append_left _ (List.mem_of_getElem? (i := 84) (by rfl)))
theorem nf_17 : Cond.fieldLinkNest "OneTricycle" 146 "OneTricycle$Play" "howled" "[I" "OneTricycle" ∈ lw_tbl := List.mem_append_right _ (List.mem_append_left _ (List.mem_of_getElem? (i := 86) (by rfl)))
theorem nf_18 : Cond.fieldLinkNest "OneTricycle" 115 "OneTricycle$Acts" "count" "I" "OneTricycle" ∈ lw_tbl := List.mem_append_right _ (List.mem_append_left _ (List.mem_of_getElem? (i := 127) (by rfl)))
theorem nf_19 : Cond.fieldLinkNest "OneTricycle" 263 "OneTricycle$Slots" "plays" "[LOneTricycle$Play;" "OneTricycle" ∈ lw_tbl := List.mem_append_right _ (List.mem_append_left _ (List.mem_of_getElem? (i := 145) (by rfl)))
theorem nf_20 : Cond.fieldLinkNest "OneTricycle" 267 "OneTricycle$Slots" "kept" "[Z" "OneTricycle" ∈ lw_tbl := List.mem_append_right _ (List.mem_append_left _ (List.mem_of_getElem? (i := 147) (by rfl)))
theorem nf_21 : Cond.fieldLinkNest "OneTricycle" 116 "OneTricycle$Seen" "count" "I" "OneTricycle" ∈ lw_tbl := List.mem_append_right _ (List.mem_append_left _ (List.mem_of_getElem? (i := 163) (by rfl)))
theorem nm_0 : Cond.methodLinkNest "OneTricycle" 9 ⟨"OneTricycle$Text", "<init>", "()V"⟩ "OneTricycle" ∈ lw_tbl := List.mem_append_right _ (List.mem_append_left _ (List.mem_of_getElem? (i := 21) (by rfl)))
theorem nm_1 : Cond.methodLinkNest "OneTricycle" 18 ⟨"OneTricycle$Kids", "<init>", "()V"⟩ "OneTricycle" ∈ lw_tbl := List.mem_append_right _ (List.mem_append_left _ (List.mem_of_getElem? (i := 36) (by rfl)))
theorem nm_2 : Cond.methodLinkNest "OneTricycle" 25 ⟨"OneTricycle$Play", "<init>", "(LOneTricycle$Kids;)V"⟩ "OneTricycle" ∈ lw_tbl := List.mem_append_right _ (List.mem_append_left _ (List.mem_of_getElem? (i := 56) (by rfl)))
theorem nm_3 : Cond.methodLinkNest "OneTricycle" 37 ⟨"OneTricycle$Acts", "<init>", "(LOneTricycle$Kids;)V"⟩ "OneTricycle" ∈ lw_tbl := List.mem_append_right _ (List.mem_append_left _ (List.mem_of_getElem? (i := 118) (by rfl)))
theorem nm_4 : Cond.methodLinkNest "OneTricycle$Acts" 24 ⟨"OneTricycle$Play", "<init>", "(LOneTricycle$Kids;)V"⟩ "OneTricycle" ∈ lw_tbl := List.mem_append_right _ (List.mem_append_left _ (List.mem_of_getElem? (i := 124) (by rfl)))
theorem nm_5 : Cond.methodLinkNest "OneTricycle" 44 ⟨"OneTricycle$Slots", "<init>", "(LOneTricycle$Kids;)V"⟩ "OneTricycle" ∈ lw_tbl := List.mem_append_right _ (List.mem_append_left _ (List.mem_of_getElem? (i := 138) (by rfl)))
theorem nm_6 : Cond.methodLinkNest "OneTricycle$Slots" 21 ⟨"OneTricycle$Play", "<init>", "(LOneTricycle$Kids;)V"⟩ "OneTricycle" ∈ lw_tbl := List.mem_append_right _ (List.mem_append_left _ (List.mem_of_getElem? (i := 143) (by rfl)))
theorem nm_7 : Cond.methodLinkNest "OneTricycle" 51 ⟨"OneTricycle$Seen", "<init>", "()V"⟩ "OneTricycle" ∈ lw_tbl := List.mem_append_right _ (List.mem_append_left _ (List.mem_of_getElem? (i := 156) (by rfl)))
theorem nm_8 : Cond.methodLinkNest "OneTricycle" 68 ⟨"OneTricycle$Text", "append", "(I)V"⟩ "OneTricycle" ∈ lw_tbl := List.mem_append_right _ (List.mem_append_left _ (List.mem_of_getElem? (i := 203) (by rfl)))
theorem nm_9 : Cond.methodLinkNest "OneTricycle" 72 ⟨"OneTricycle$Text", "faultPlace", "()I"⟩ "OneTricycle" ∈ lw_tbl := List.mem_append_right _ (List.mem_append_left _ (List.mem_of_getElem? (i := 215) (by rfl)))
theorem nm_10 : Cond.methodLinkNest "OneTricycle" 76 ⟨"OneTricycle$Kids", "tellFrom", "(LOneTricycle$Text;)V"⟩ "OneTricycle" ∈ lw_tbl := List.mem_append_right _ (List.mem_append_left _ (List.mem_of_getElem? (i := 232) (by rfl)))
theorem nm_11 : Cond.methodLinkNest "OneTricycle$Kids" 22 ⟨"OneTricycle$Text", "countChildren", "()I"⟩ "OneTricycle" ∈ lw_tbl := List.mem_append_right _ (List.mem_append_left _ (List.mem_of_getElem? (i := 236) (by rfl)))
theorem nm_12 : Cond.methodLinkNest "OneTricycle$Kids" 28 ⟨"OneTricycle$Text", "figureOfChild", "(II)I"⟩ "OneTricycle" ∈ lw_tbl := List.mem_append_right _ (List.mem_append_right _ (List.mem_append_left _ (List.mem_of_getElem? (i := 6) (by rfl))))
theorem nm_13 : Cond.methodLinkNest "OneTricycle" 80 ⟨"OneTricycle$Play", "startFrom", "(LOneTricycle$Text;)V"⟩ "OneTricycle" ∈ lw_tbl := List.mem_append_right _ (List.mem_append_right _ (List.mem_append_left _ (List.mem_of_getElem? (i := 14) (by rfl))))
theorem nm_14 : Cond.methodLinkNest "OneTricycle$Play" 56 ⟨"OneTricycle$Text", "countChildren", "()I"⟩ "OneTricycle" ∈ lw_tbl := List.mem_append_right _ (List.mem_append_right _ (List.mem_append_left _ (List.mem_of_getElem? (i := 18) (by rfl))))
theorem nm_15 : Cond.methodLinkNest "OneTricycle$Play" 62 ⟨"OneTricycle$Text", "figure", "(I)I"⟩ "OneTricycle" ∈ lw_tbl := List.mem_append_right _ (List.mem_append_right _ (List.mem_append_left _ (List.mem_of_getElem? (i := 19) (by rfl))))
theorem nm_16 : Cond.methodLinkNest "OneTricycle$Play" 66 ⟨"OneTricycle$Text", "figureOfChild", "(II)I"⟩ "OneTricycle" ∈ lw_tbl := List.mem_append_right _ (List.mem_append_right _ (List.mem_append_left _ (List.mem_of_getElem? (i := 20) (by rfl))))
theorem nm_17 : Cond.methodLinkNest "OneTricycle" 83 ⟨"OneTricycle$Acts", "forgetAll", "()V"⟩ "OneTricycle" ∈ lw_tbl := List.mem_append_right _ (List.mem_append_right _ (List.mem_append_left _ (List.mem_of_getElem? (i := 21) (by rfl))))
theorem nm_18 : Cond.methodLinkNest "OneTricycle" 86 ⟨"OneTricycle$Slots", "forgetAll", "()V"⟩ "OneTricycle" ∈ lw_tbl := List.mem_append_right _ (List.mem_append_right _ (List.mem_append_left _ (List.mem_of_getElem? (i := 25) (by rfl))))
theorem nm_19 : Cond.methodLinkNest "OneTricycle" 100 ⟨"OneTricycle$Play", "wanting", "()I"⟩ "OneTricycle" ∈ lw_tbl := List.mem_append_right _ (List.mem_append_right _ (List.mem_append_left _ (List.mem_of_getElem? (i := 33) (by rfl))))
theorem nm_20 : Cond.methodLinkNest "OneTricycle" 103 ⟨"OneTricycle$Play", "asking", "()I"⟩ "OneTricycle" ∈ lw_tbl := List.mem_append_right _ (List.mem_append_right _ (List.mem_append_left _ (List.mem_of_getElem? (i := 37) (by rfl))))
theorem nm_21 : Cond.methodLinkNest "OneTricycle" 106 ⟨"OneTricycle$Play", "next", "()I"⟩ "OneTricycle" ∈ lw_tbl := List.mem_append_right _ (List.mem_append_right _ (List.mem_append_left _ (List.mem_of_getElem? (i := 42) (by rfl))))
theorem nm_22 : Cond.methodLinkNest "OneTricycle$Play" 70 ⟨"OneTricycle", "has", "(II)Z"⟩ "OneTricycle" ∈ lw_tbl := List.mem_append_right _ (List.mem_append_right _ (List.mem_append_left _ (List.mem_of_getElem? (i := 47) (by rfl))))
theorem nm_23 : Cond.methodLinkNest "OneTricycle$Play" 88 ⟨"OneTricycle$Kids", "might", "(I)I"⟩ "OneTricycle" ∈ lw_tbl := List.mem_append_right _ (List.mem_append_right _ (List.mem_append_left _ (List.mem_of_getElem? (i := 54) (by rfl))))
theorem nm_24 : Cond.methodLinkNest "OneTricycle" 117 ⟨"OneTricycle$Play", "isThere", "(I)Z"⟩ "OneTricycle" ∈ lw_tbl := List.mem_append_right _ (List.mem_append_right _ (List.mem_append_left _ (List.mem_of_getElem? (i := 62) (by rfl))))
theorem nm_25 : Cond.methodLinkNest "OneTricycle" 130 ⟨"OneTricycle$Kids", "might", "(I)I"⟩ "OneTricycle" ∈ lw_tbl := List.mem_append_right _ (List.mem_append_right _ (List.mem_append_left _ (List.mem_of_getElem? (i := 66) (by rfl))))
theorem nm_26 : Cond.methodLinkNest "OneTricycle" 149 ⟨"OneTricycle$Acts", "remember", "(LOneTricycle$Play;)V"⟩ "OneTricycle" ∈ lw_tbl := List.mem_append_right _ (List.mem_append_right _ (List.mem_append_left _ (List.mem_of_getElem? (i := 71) (by rfl))))
theorem nm_27 : Cond.methodLinkNest "OneTricycle$Acts" 27 ⟨"OneTricycle$Play", "copyFrom", "(LOneTricycle$Play;)V"⟩ "OneTricycle" ∈ lw_tbl := List.mem_append_right _ (List.mem_append_right _ (List.mem_append_left _ (List.mem_of_getElem? (i := 75) (by rfl))))
theorem nm_28 : Cond.methodLinkNest "OneTricycle" 153 ⟨"OneTricycle$Play", "passMinute", "()V"⟩ "OneTricycle" ∈ lw_tbl := List.mem_append_right _ (List.mem_append_right _ (List.mem_append_left _ (List.mem_of_getElem? (i := 80) (by rfl))))
theorem nm_29 : Cond.methodLinkNest "OneTricycle" 156 ⟨"OneTricycle$Play", "rides", "(I)Z"⟩ "OneTricycle" ∈ lw_tbl := List.mem_append_right _ (List.mem_append_right _ (List.mem_append_left _ (List.mem_of_getElem? (i := 121) (by rfl))))
theorem nm_30 : Cond.methodLinkNest "OneTricycle" 159 ⟨"OneTricycle$Play", "getOff", "(I)V"⟩ "OneTricycle" ∈ lw_tbl := List.mem_append_right _ (List.mem_append_right _ (List.mem_append_left _ (List.mem_of_getElem? (i := 122) (by rfl))))
theorem nm_31 : Cond.methodLinkNest "OneTricycle" 162 ⟨"OneTricycle$Play", "getOn", "(I)V"⟩ "OneTricycle" ∈ lw_tbl := List.mem_append_right _ (List.mem_append_right _ (List.mem_append_left _ (List.mem_of_getElem? (i := 123) (by rfl))))
theorem nm_32 : Cond.methodLinkNest "OneTricycle" 165 ⟨"OneTricycle$Play", "canBePushed", "(I)Z"⟩ "OneTricycle" ∈ lw_tbl := List.mem_append_right _ (List.mem_append_right _ (List.mem_append_left _ (List.mem_of_getElem? (i := 128) (by rfl))))
theorem nm_33 : Cond.methodLinkNest "OneTricycle" 168 ⟨"OneTricycle$Play", "pushOff", "(I)V"⟩ "OneTricycle" ∈ lw_tbl := List.mem_append_right _ (List.mem_append_right _ (List.mem_append_left _ (List.mem_of_getElem? (i := 133) (by rfl))))
theorem nm_34 : Cond.methodLinkNest "OneTricycle" 171 ⟨"OneTricycle$Play", "canBeCalled", "(I)Z"⟩ "OneTricycle" ∈ lw_tbl := List.mem_append_right _ (List.mem_append_right _ (List.mem_append_left _ (List.mem_of_getElem? (i := 138) (by rfl))))
theorem nm_35 : Cond.methodLinkNest "OneTricycle" 174 ⟨"OneTricycle$Play", "callAway", "(I)V"⟩ "OneTricycle" ∈ lw_tbl := List.mem_append_right _ (List.mem_append_right _ (List.mem_append_left _ (List.mem_of_getElem? (i := 142) (by rfl))))
theorem nm_36 : Cond.methodLinkNest "OneTricycle" 183 ⟨"OneTricycle$Play", "setRule", "(II)V"⟩ "OneTricycle" ∈ lw_tbl := List.mem_append_right _ (List.mem_append_right _ (List.mem_append_left _ (List.mem_of_getElem? (i := 156) (by rfl))))
theorem nm_37 : Cond.methodLinkNest "OneTricycle" 187 ⟨"OneTricycle$Play", "putOrTakeAway", "()V"⟩ "OneTricycle" ∈ lw_tbl := List.mem_append_right _ (List.mem_append_right _ (List.mem_append_left _ (List.mem_of_getElem? (i := 164) (by rfl))))
theorem nm_38 : Cond.methodLinkNest "OneTricycle" 190 ⟨"OneTricycle$Acts", "takeBack", "(LOneTricycle$Play;)V"⟩ "OneTricycle" ∈ lw_tbl := List.mem_append_right _ (List.mem_append_right _ (List.mem_append_left _ (List.mem_of_getElem? (i := 176) (by rfl))))
theorem nm_39 : Cond.methodLinkNest "OneTricycle" 209 ⟨"OneTricycle$Play", "copyFrom", "(LOneTricycle$Play;)V"⟩ "OneTricycle" ∈ lw_tbl := List.mem_append_right _ (List.mem_append_right _ (List.mem_append_left _ (List.mem_of_getElem? (i := 191) (by rfl))))
theorem nm_40 : Cond.methodLinkNest "OneTricycle" 206 ⟨"OneTricycle$Play", "staredByAll", "()I"⟩ "OneTricycle" ∈ lw_tbl := List.mem_append_right _ (List.mem_append_right _ (List.mem_append_left _ (List.mem_of_getElem? (i := 196) (by rfl))))
theorem nm_41 : Cond.methodLinkNest "OneTricycle" 203 ⟨"OneTricycle$Play", "gap", "()I"⟩ "OneTricycle" ∈ lw_tbl := List.mem_append_right _ (List.mem_append_right _ (List.mem_append_left _ (List.mem_of_getElem? (i := 200) (by rfl))))
theorem nm_42 : Cond.methodLinkNest "OneTricycle" 271 ⟨"OneTricycle$Play", "neverRidden", "()I"⟩ "OneTricycle" ∈ lw_tbl := List.mem_append_right _ (List.mem_append_right _ (List.mem_append_left _ (List.mem_of_getElem? (i := 204) (by rfl))))
theorem nm_43 : Cond.methodLinkNest "OneTricycle" 215 ⟨"OneTricycle$Play", "doIfItCanBe", "(II)Z"⟩ "OneTricycle" ∈ lw_tbl := List.mem_append_right _ (List.mem_append_right _ (List.mem_append_left _ (List.mem_of_getElem? (i := 234) (by rfl))))
theorem nm_44 : Cond.methodLinkNest "OneTricycle$Play" 145 ⟨"OneTricycle", "isRule", "(I)Z"⟩ "OneTricycle" ∈ lw_tbl := List.mem_append_right _ (List.mem_append_right _ (List.mem_append_right _ (List.mem_append_left _ (List.mem_of_getElem? (i := 2) (by rfl)))))
theorem nm_45 : Cond.methodLinkNest "OneTricycle" 274 ⟨"OneTricycle$Play", "leaveOnly", "(I)V"⟩ "OneTricycle" ∈ lw_tbl := List.mem_append_right _ (List.mem_append_right _ (List.mem_append_right _ (List.mem_append_left _ (List.mem_of_getElem? (i := 12) (by rfl)))))
theorem nm_46 : Cond.methodLinkNest "OneTricycle" 237 ⟨"OneTricycle$Seen", "append", "(II)V"⟩ "OneTricycle" ∈ lw_tbl := List.mem_append_right _ (List.mem_append_right _ (List.mem_append_right _ (List.mem_append_left _ (List.mem_of_getElem? (i := 34) (by rfl)))))
theorem nm_47 : Cond.methodLinkNest "OneTricycle" 277 ⟨"OneTricycle$Seen", "ridersIn", "(I)I"⟩ "OneTricycle" ∈ lw_tbl := List.mem_append_right _ (List.mem_append_right _ (List.mem_append_right _ (List.mem_append_left _ (List.mem_of_getElem? (i := 50) (by rfl)))))
theorem nm_48 : Cond.methodLinkNest "OneTricycle" 287 ⟨"OneTricycle$Play", "leaveRiding", "(I)V"⟩ "OneTricycle" ∈ lw_tbl := List.mem_append_right _ (List.mem_append_right _ (List.mem_append_right _ (List.mem_append_left _ (List.mem_of_getElem? (i := 77) (by rfl)))))
theorem nestF_in : ∀ q ∈ nestF, Cond.fieldLinkNest q.1 q.2.1 q.2.2.1 q.2.2.2.1 q.2.2.2.2.1 q.2.2.2.2.2 ∈ lw_tbl := List.forall_mem_cons.mpr ⟨nf_0, List.forall_mem_cons.mpr ⟨nf_1, List.forall_mem_cons.mpr ⟨nf_2, List.forall_mem_cons.mpr ⟨nf_3, List.forall_mem_cons.mpr ⟨nf_4, List.forall_mem_cons.mpr ⟨nf_5, List.forall_mem_cons.mpr ⟨nf_6, List.forall_mem_cons.mpr ⟨nf_7, List.forall_mem_cons.mpr ⟨nf_8, List.forall_mem_cons.mpr ⟨nf_9, List.forall_mem_cons.mpr ⟨nf_10, List.forall_mem_cons.mpr ⟨nf_11, List.forall_mem_cons.mpr ⟨nf_12, List.forall_mem_cons.mpr ⟨nf_13, List.forall_mem_cons.mpr ⟨nf_14, List.forall_mem_cons.mpr ⟨nf_15, List.forall_mem_cons.mpr ⟨nf_16, List.forall_mem_cons.mpr ⟨nf_17, List.forall_mem_cons.mpr ⟨nf_18, List.forall_mem_cons.mpr ⟨nf_19, List.forall_mem_cons.mpr ⟨nf_20, List.forall_mem_cons.mpr ⟨nf_21, fun _ h => absurd h List.not_mem_nil⟩⟩⟩⟩⟩⟩⟩⟩⟩⟩⟩⟩⟩⟩⟩⟩⟩⟩⟩⟩⟩⟩
theorem nestM_in : ∀ q ∈ nestM, Cond.methodLinkNest q.1 q.2.1 q.2.2.1 q.2.2.2 ∈ lw_tbl := List.forall_mem_cons.mpr ⟨nm_0, List.forall_mem_cons.mpr ⟨nm_1, List.forall_mem_cons.mpr ⟨nm_2, List.forall_mem_cons.mpr ⟨nm_3, List.forall_mem_cons.mpr ⟨nm_4, List.forall_mem_cons.mpr ⟨nm_5, List.forall_mem_cons.mpr ⟨nm_6, List.forall_mem_cons.mpr ⟨nm_7, List.forall_mem_cons.mpr ⟨nm_8, List.forall_mem_cons.mpr ⟨nm_9, List.forall_mem_cons.mpr ⟨nm_10, List.forall_mem_cons.mpr ⟨nm_11, List.forall_mem_cons.mpr ⟨nm_12, List.forall_mem_cons.mpr ⟨nm_13, List.forall_mem_cons.mpr ⟨nm_14, List.forall_mem_cons.mpr ⟨nm_15, List.forall_mem_cons.mpr ⟨nm_16, List.forall_mem_cons.mpr ⟨nm_17, List.forall_mem_cons.mpr ⟨nm_18, List.forall_mem_cons.mpr ⟨nm_19, List.forall_mem_cons.mpr ⟨nm_20, List.forall_mem_cons.mpr ⟨nm_21, List.forall_mem_cons.mpr ⟨nm_22, List.forall_mem_cons.mpr ⟨nm_23, List.forall_mem_cons.mpr ⟨nm_24, List.forall_mem_cons.mpr ⟨nm_25, List.forall_mem_cons.mpr ⟨nm_26, List.forall_mem_cons.mpr ⟨nm_27, List.forall_mem_cons.mpr ⟨nm_28, List.forall_mem_cons.mpr ⟨nm_29, List.forall_mem_cons.mpr ⟨nm_30, List.forall_mem_cons.mpr ⟨nm_31, List.forall_mem_cons.mpr ⟨nm_32, List.forall_mem_cons.mpr ⟨nm_33, List.forall_mem_cons.mpr ⟨nm_34, List.forall_mem_cons.mpr ⟨nm_35, List.forall_mem_cons.mpr ⟨nm_36, List.forall_mem_cons.mpr ⟨nm_37, List.forall_mem_cons.mpr ⟨nm_38, List.forall_mem_cons.mpr ⟨nm_39, List.forall_mem_cons.mpr ⟨nm_40, List.forall_mem_cons.mpr ⟨nm_41, List.forall_mem_cons.mpr ⟨nm_42, List.forall_mem_cons.mpr ⟨nm_43, List.forall_mem_cons.mpr ⟨nm_44, List.forall_mem_cons.mpr ⟨nm_45, List.forall_mem_cons.mpr ⟨nm_46, List.forall_mem_cons.mpr ⟨nm_47, List.forall_mem_cons.mpr ⟨nm_48, fun _ h => absurd h List.not_mem_nil⟩⟩⟩⟩⟩⟩⟩⟩⟩⟩⟩⟩⟩⟩⟩⟩⟩⟩⟩⟩⟩⟩⟩⟩⟩⟩⟩⟩⟩⟩⟩⟩⟩⟩⟩⟩⟩⟩⟩⟩⟩⟩⟩⟩⟩⟩⟩⟩⟩
theorem ao_in : Cond.arrayOver (.object "OneTricycle$Play") ∈ lw_tbl := List.mem_append_right _ (List.mem_append_left _ (List.mem_of_getElem? (i := 123) (by rfl)))
theorem ls_h : Cond.laysStatic "OneTricycle" "HUNDREDS" "[I" ∈ lw_tbl := List.mem_append_right _ (List.mem_append_right _ (List.mem_append_left _ (List.mem_of_getElem? (i := 233) (by rfl))))
theorem ls_o : Cond.laysStatic "OneTricycle" "ORDERS" "[I" ∈ lw_tbl := List.mem_append_right _ (List.mem_append_right _ (List.mem_append_right _ (List.mem_append_left _ (List.mem_of_getElem? (i := 19) (by rfl)))))
theorem sta_HUNDREDS {s : State} {b : Nat} (hts : ∀ w ∈ lw_tbl, w.before #[Value.ref b] s = true) (hgv : (Jvm.Cond.and given_1 narrow_1).before #[Value.ref b] s = true) {ad : Nat → Nat} (hA : ∀ i, i < 154 → s.heap.size ≤ ad i) : StA "HUNDREDS" 4 hunR ad s s.heap := by
  have hs := flat_of_before _ hgv
  have hn : ∀ a : Nat, a < s.heap.size → ¬ adA ad a := by
    intro a ha h
    obtain ⟨i, hi, e⟩ := h
    have := hA i hi
    omega
  have hel : ∀ j : Nat, j < 4 → (Term.elem (.static "OneTricycle" "HUNDREDS" "[I") (.int (Int32.ofNat j))).eval #[Value.ref b] s none [] s = some (.int (hunR j)) := by
    intro j hj
    match j, hj with
    | 0, _ => exact va_eqt (hs _ (by decide +kernel))
    | 1, _ => exact va_eqt (hs _ (by decide +kernel))
    | 2, _ => exact va_eqt (hs _ (by decide +kernel))
    | 3, _ => exact va_eqt (hs _ (by decide +kernel))
    | j + 4, h => exact absurd h (by omega)
  obtain ⟨t, h1, h2⟩ := va_Tof (args := #[Value.ref b]) (s := s) (tm := .static "OneTricycle" "HUNDREDS" "[I") (ty := .int) (N := 4) (f := fun j => .int (hunR j)) (A := adA ad) (by decide) (hs _ (by decide +kernel)) (va_eqt (hs _ (by decide +kernel))) hel hn
  exact ⟨t, va_Zref (hts _ ls_h) (hts _ (lwA_in wd_initialized_OneTricycle_)) h1 hn, h2⟩
theorem sta_ORDERS {s : State} {b : Nat} (hts : ∀ w ∈ lw_tbl, w.before #[Value.ref b] s = true) (hgv : (Jvm.Cond.and given_1 narrow_1).before #[Value.ref b] s = true) {ad : Nat → Nat} (hA : ∀ i, i < 154 → s.heap.size ≤ ad i) : StA "ORDERS" 6 ordR ad s s.heap := by
  have hs := flat_of_before _ hgv
  have hn : ∀ a : Nat, a < s.heap.size → ¬ adA ad a := by
    intro a ha h
    obtain ⟨i, hi, e⟩ := h
    have := hA i hi
    omega
  have hel : ∀ j : Nat, j < 6 → (Term.elem (.static "OneTricycle" "ORDERS" "[I") (.int (Int32.ofNat j))).eval #[Value.ref b] s none [] s = some (.int (ordR j)) := by
    intro j hj
    match j, hj with
    | 0, _ => exact va_eqt (hs _ (by decide +kernel))
    | 1, _ => exact va_eqt (hs _ (by decide +kernel))
    | 2, _ => exact va_eqt (hs _ (by decide +kernel))
    | 3, _ => exact va_eqt (hs _ (by decide +kernel))
    | 4, _ => exact va_eqt (hs _ (by decide +kernel))
    | 5, _ => exact va_eqt (hs _ (by decide +kernel))
    | j + 6, h => exact absurd h (by omega)
  obtain ⟨t, h1, h2⟩ := va_Tof (args := #[Value.ref b]) (s := s) (tm := .static "OneTricycle" "ORDERS" "[I") (ty := .int) (N := 6) (f := fun j => .int (ordR j)) (A := adA ad) (by decide) (hs _ (by decide +kernel)) (va_eqt (hs _ (by decide +kernel))) hel hn
  exact ⟨t, va_Zref (hts _ ls_o) (hts _ (lwA_in wd_initialized_OneTricycle_)) h1 hn, h2⟩
set_option maxHeartbeats 4000000 in
set_option maxRecDepth 100000 in
theorem start_of {p : Program} {e : Env} {s : State} {m : MethodId} {below : List Frame} {meth : Method} {c : Code} (l : Launch) {b L : Nat} {xs : Nat → Int32} (C0 : lw_At p s m meth c b L xs) (hp : qL_law_18 L xs 600 h0 g0 (0 : Int32) = some ()) : W p l e room_1 s m #[Value.ref b] below meth c s.heap [] 0 0 (lw_Z below #[Value.ref b] s) (entryFrame m ([Value.ref b] : List Value).toArray 4) := by
  obtain ⟨hx, hb, hr, hml, hown, hts, hX, hbl, hlk, hgv⟩ := id C0
  have htA : ∀ w ∈ lwA, w.before #[Value.ref b] s = true := fun w h => hts w (lwA_in h)
  have C : CallFix p m c code 4 s #[Value.ref b] lwA RL := ⟨hx, hb, hml, hown, htA⟩
  have hA : ∀ q : Nat, s.heap.size ≤ q → (fun q : Nat => s.heap.size ≤ q) q := fun _ h => h
  obtain ⟨c0, i0, hKn0⟩ := u_known (C := RX0) (T := TX0) (N := 3) (n := 3) htA inA0 (htA _ wd_instantiable_OneTricycle_Acts_3)
  obtain ⟨c1, i1, hKn1⟩ := u_known (C := RX1) (T := TX1) (N := 3) (n := 3) htA inA1 (htA _ wd_instantiable_OneTricycle_Kids_3)
  obtain ⟨c2, i2, hKn2⟩ := u_known (C := RX2) (T := TX2) (N := 14) (n := 14) htA inA2 (htA _ wd_instantiable_OneTricycle_Play_14)
  obtain ⟨c3, i3, hKn3⟩ := u_known (C := RX3) (T := TX3) (N := 3) (n := 3) htA inA3 (htA _ wd_instantiable_OneTricycle_Seen_3)
  obtain ⟨c4, i4, hKn4⟩ := u_known (C := RX4) (T := TX4) (N := 2) (n := 2) htA inA4 (htA _ wd_instantiable_OneTricycle_Slots_2)
  obtain ⟨c5, i5, hKn5⟩ := u_known (C := RX5) (T := TX5) (N := 2) (n := 2) htA inA5 (htA _ wd_instantiable_OneTricycle_Text_2)
  obtain ⟨c6, i6, hKn6⟩ := u_known (C := RX6) (T := TX6) (N := 9) (n := 9) htA inA6 (htA _ wd_instantiable_OneTricycle_9)
  obtain ⟨c7, i7, hKn7⟩ := u_known (C := RX7) (T := TX7) (N := 26) (n := 26) htA inA7 (htA _ wd_instantiable_OneTricycleModel_26)
  obtain ⟨dC, dI, hKc⟩ : ∃ (dC : Nat → ClassId) (dI : Nat → Nat → Nat), ∀ (k : Nat) (q : vw_C), vwCl[k]? = some q → u_Kn s q.1 q.2.1 q.2.2 (dC k) (dI k) := by
    refine ⟨fun k => if k = 0 then c0 else if k = 1 then c1 else if k = 2 then c2 else if k = 3 then c3 else if k = 4 then c4 else if k = 5 then c5 else if k = 6 then c6 else c7, fun k => if k = 0 then i0 else if k = 1 then i1 else if k = 2 then i2 else if k = 3 then i3 else if k = 4 then i4 else if k = 5 then i5 else if k = 6 then i6 else i7, ?_⟩
    intro k q hq
    match k, hq with
    | 0, hq => cases hq; exact hKn0
    | 1, hq => cases hq; exact hKn1
    | 2, hq => cases hq; exact hKn2
    | 3, hq => cases hq; exact hKn3
    | 4, hq => cases hq; exact hKn4
    | 5, hq => cases hq; exact hKn5
    | 6, hq => cases hq; exact hKn6
    | 7, hq => cases hq; exact hKn7
    | k + 8, hq => simp [vwCl] at hq
  obtain ⟨cI, kI, pI, hI1, hI2, hI3⟩ := Cond.arrayClass_spec (type := .int) (htA _ wd_arrayClass_FT_int)
  obtain ⟨cZ, kZ, pZ, hZ1, hZ2, hZ3⟩ := Cond.arrayClass_spec (type := .boolean) (htA _ wd_arrayClass_FT_boolean)
  obtain ⟨pO, cO, kO, hO1, hO2, hO3, hO4, hO5⟩ := Cond.arrayOver_spec (n := "OneTricycle$Play") (hts _ ao_in)
  have X : KX ((dC, dI), cI, cZ, cO) s := by
    refine ⟨⟨hKc, fun k q hq => ?_⟩, ⟨fun q hq => va_Nw.of rfl (hts _ (nestF_in q hq)), fun q hq => va_Nw.of rfl (hts _ (nestM_in q hq))⟩, va_AO.of (hts _ ao_in)⟩
    match k, hq with
    | 0, hq => cases hq; exact ⟨fun n z => ⟨fun k h => (by cases h), kI, hI2, pI, hI3⟩, hI1⟩
    | 1, hq => cases hq; exact ⟨fun n z => ⟨fun k h => (by cases h), kZ, hZ2, pZ, hZ3⟩, hZ1⟩
    | 2, hq => cases hq; exact ⟨fun n z => ⟨fun k h => (by cases h), kO, hO3, pO, hO4⟩, kO, pO, hO3, hO4, hO1, hO5⟩
    | k + 3, hq => simp [tysL] at hq
  generalize hE : ((dC, dI), cI, cZ, cO) = E at X
  have hS : va_S (fun q : Nat => s.heap.size ≤ q) s.heap s.heap [] := va_S.rf
  have hP : va_P E.1 vwCl [] s.heap := fun k q h => by simp at h
  have hD : va_D (fun q : Nat => s.heap.size ≤ q) [] := ⟨fun i j p q h => by simp at h, fun k q h => by simp at h⟩
  have hl := lv_entry ([.ref b]) (n := 4) (Nat.le_of_ble_eq_true rfl)
  rw [lg_entry_eq]
  generalize (lg_sl ([.ref b]) ++ List.replicate (4 - (lg_sl ([.ref b])).length) Slot.unset).toArray = ls at hl ⊢
  replace hl : lv_has ls 4 [(0, .ref b)] := hl
  refine va_new (ci := 6) (fs := [.null, .null, .null, .null, .null, .null, .null, .null, .long 0]) (C := RX6) (T := TX6) (N := 9) C.1 C.2.1 C.2.2.2.2 inA6 tyX6 tyX6_ok C.2.2.2.1 (C.2.2.2.2 _ wd_classLink_OneTricycleLaw_7_OneTricycle_) (C.2.2.2.2 _ wd_instantiable_OneTricycle_9) (C.2.2.2.2 _ wd_initialized_OneTricycle_) X.1 hP hD hS hA rfl (fun j hj => by rcases (show j = 0 ∨ j = 1 ∨ j = 2 ∨ j = 3 ∨ j = 4 ∨ j = 5 ∨ j = 6 ∨ j = 7 ∨ j = 8 by omega) with rfl | rfl | rfl | rfl | rfl | rfl | rfl | rfl | rfl <;> rfl) (Nat.le_of_ble_eq_true rfl) (Nat.le_of_ble_eq_true rfl) dL_law_0 (fun o H hP hD hS => ?_)
  refine W.widen (k := 1) (n := 9) (Nat.le_of_ble_eq_true rfl) (Nat.le_of_ble_eq_true rfl) ?_
  refine lv_dup C.1 C.2.1 dL_law_3 rfl ?_
  refine x_init (As := []) (rest := [.ref o]) C X hP hD hS hA (n_X6_init l E o H.size) mi_X6_init wd_instanceMethod_OneTricycle_init_V_ rfl ml_L_9 rfl hl.1 rfl (Nat.le_of_ble_eq_true rfl) ⟨⟨Nat.le_of_ble_eq_true rfl, Nat.le_of_ble_eq_true rfl⟩, Nat.le_of_ble_eq_true rfl, Nat.le_of_ble_eq_true rfl⟩ dL_law_4 (fun w H locs hP hD hS => ?_)
  refine lv_astore_n (lv' := [(1, .ref o), (0, .ref b)]) C.1 C.2.1 dL_law_7 rfl hl (by decide) rfl (fun ls hl => ?_)
  refine va_new (ci := 7) (fs := [.int 0, .null, .int 0, .int 0, .int 0, .null, .null, .int 0, .int 0, .int 0, .int 0, .null, .null, .null, .null, .int 0, .null, .null, .int 0, .null, .null, .long 0, .int 0, .int 0, .null, .int 0]) (C := RX7) (T := TX7) (N := 26) C.1 C.2.1 C.2.2.2.2 inA7 tyX7 tyX7_ok C.2.2.2.1 (C.2.2.2.2 _ wd_classLink_OneTricycleLaw_10_OneTricycleModel_) (C.2.2.2.2 _ wd_instantiable_OneTricycleModel_26) (C.2.2.2.2 _ wd_initialized_OneTricycleModel_) X.1 hP hD hS hA rfl (fun j hj => by rcases (show j = 0 ∨ j = 1 ∨ j = 2 ∨ j = 3 ∨ j = 4 ∨ j = 5 ∨ j = 6 ∨ j = 7 ∨ j = 8 ∨ j = 9 ∨ j = 10 ∨ j = 11 ∨ j = 12 ∨ j = 13 ∨ j = 14 ∨ j = 15 ∨ j = 16 ∨ j = 17 ∨ j = 18 ∨ j = 19 ∨ j = 20 ∨ j = 21 ∨ j = 22 ∨ j = 23 ∨ j = 24 ∨ j = 25 by omega) with rfl | rfl | rfl | rfl | rfl | rfl | rfl | rfl | rfl | rfl | rfl | rfl | rfl | rfl | rfl | rfl | rfl | rfl | rfl | rfl | rfl | rfl | rfl | rfl | rfl | rfl <;> rfl) (Nat.le_of_ble_eq_true rfl) (Nat.le_of_ble_eq_true rfl) dL_law_8 (fun o2 H hP hD hS => ?_)
  refine lv_dup C.1 C.2.1 dL_law_11 rfl ?_
  refine x_init (As := []) (rest := [.ref o2]) C X hP hD hS hA (n_X7_init l E o2 H.size) mi_X7_init wd_instanceMethod_OneTricycleModel_init_V_ rfl ml_L_12 rfl hl.1 rfl (Nat.le_of_ble_eq_true rfl) ⟨⟨Nat.le_of_ble_eq_true rfl, Nat.le_of_ble_eq_true rfl⟩, Nat.le_of_ble_eq_true rfl, Nat.le_of_ble_eq_true rfl⟩ dL_law_12 (fun v H locs hP hD hS => ?_)
  refine lv_astore_n (lv' := [(2, .ref o2), (1, .ref o), (0, .ref b)]) C.1 C.2.1 dL_law_15 rfl hl (by decide) rfl (fun ls hl => ?_)
  refine lv_iconst (v := 0) C.1 C.2.1 dL_law_16 (by decide) ?_
  refine lv_istore_n (lv' := [(3, .int 0), (2, .ref o2), (1, .ref o), (0, .ref b)]) C.1 C.2.1 dL_law_17 rfl hl (by decide) rfl (fun ls hl => ?_)
  obtain ⟨w2, hI, hA2⟩ := asm (E := E) (o := o) (w := w) (o2 := o2) (v := v) (s := s) (H := H) hS.1 (fun q hq => hS.2.1 q hq (by omega)) hP hD
  refine va_forget (fun q hq => hS.2.2 q hq) ?_
  refine W.widen (k := 600000) (n := 7302250) (Nat.le_of_ble_eq_true rfl) (Nat.le_of_ble_eq_true rfl) ?_
  have X2 : Sx E (aF o w o2 v) s := ⟨X.1, X.2.1, sta_HUNDREDS hts hgv hA2, sta_ORDERS hts hgv hA2⟩
  have hbA : ¬ adA (aF o w o2 v) b := by
    intro h
    obtain ⟨i, hi, e⟩ := h
    have := hA2 i hi
    omega
  exact w_L_law_18 C hr hlk X2 hI hA2 hX hbl hbA 600 h0 g0 0 H [] ls w2 (lv_sub hl [3, 2, 1, 0] rfl) hp

