section
-- ===== PART A: goes FIRST, ahead of the names: the tables' words, and 'selects' of the private methods out of them =====
/-- a private method of a class that the tables say can be made, by its rows of tables_1 -/
def lw_okq (q : MethodName × Nat) : Prop := (q.1.cls ≠ "java/lang/invoke/MethodHandle" ∧ q.1.cls ≠ "java/lang/invoke/VarHandle") ∧ Cond.instantiable q.1.cls q.2 ∈ tables_1 ∧ Cond.privateMethod q.1 ∈ tables_1 ∧ Cond.instanceMethod q.1 ∈ tables_1
theorem lw_p0 : lw_okq (⟨"TepidPurse$Tape", "nextToken", "()V"⟩, 11) := ⟨⟨by decide +kernel, by decide +kernel⟩, List.mem_of_getElem? (i := 127) (by decide +kernel), List.mem_of_getElem? (i := 399) (by decide +kernel), List.mem_of_getElem? (i := 400) (by decide +kernel)⟩
theorem lw_p1 : lw_okq (⟨"TepidPurse$Tape", "skipBlanks", "()V"⟩, 11) := ⟨⟨by decide +kernel, by decide +kernel⟩, List.mem_of_getElem? (i := 127) (by decide +kernel), List.mem_of_getElem? (i := 403) (by decide +kernel), List.mem_of_getElem? (i := 404) (by decide +kernel)⟩
theorem lw_p2 : lw_okq (⟨"TepidPurse$Tape", "skipLetters", "()V"⟩, 11) := ⟨⟨by decide +kernel, by decide +kernel⟩, List.mem_of_getElem? (i := 127) (by decide +kernel), List.mem_of_getElem? (i := 410) (by decide +kernel), List.mem_of_getElem? (i := 411) (by decide +kernel)⟩
theorem lw_p3 : lw_okq (⟨"TepidPurse$Tape", "takeFigures", "()V"⟩, 11) := ⟨⟨by decide +kernel, by decide +kernel⟩, List.mem_of_getElem? (i := 127) (by decide +kernel), List.mem_of_getElem? (i := 417) (by decide +kernel), List.mem_of_getElem? (i := 418) (by decide +kernel)⟩
theorem lw_p4 : lw_okq (⟨"TepidPurse$Tape", "blame", "(II)V"⟩, 11) := ⟨⟨by decide +kernel, by decide +kernel⟩, List.mem_of_getElem? (i := 127) (by decide +kernel), List.mem_of_getElem? (i := 421) (by decide +kernel), List.mem_of_getElem? (i := 422) (by decide +kernel)⟩
theorem lw_p5 : lw_okq (⟨"TepidPurse$Tape", "readLine", "(LTepidPurse$World;)V"⟩, 11) := ⟨⟨by decide +kernel, by decide +kernel⟩, List.mem_of_getElem? (i := 127) (by decide +kernel), List.mem_of_getElem? (i := 425) (by decide +kernel), List.mem_of_getElem? (i := 426) (by decide +kernel)⟩
theorem lw_p6 : lw_okq (⟨"TepidPurse$Tape", "kindNamed", "()I"⟩, 11) := ⟨⟨by decide +kernel, by decide +kernel⟩, List.mem_of_getElem? (i := 127) (by decide +kernel), List.mem_of_getElem? (i := 429) (by decide +kernel), List.mem_of_getElem? (i := 430) (by decide +kernel)⟩
theorem lw_p7 : lw_okq (⟨"TepidPurse$Tape", "isName", "(Ljava/lang/String;)Z"⟩, 11) := ⟨⟨by decide +kernel, by decide +kernel⟩, List.mem_of_getElem? (i := 127) (by decide +kernel), List.mem_of_getElem? (i := 434) (by decide +kernel), List.mem_of_getElem? (i := 435) (by decide +kernel)⟩
theorem lw_p8 : lw_okq (⟨"TepidPurse$Tape", "readMan", "(LTepidPurse$World;)V"⟩, 11) := ⟨⟨by decide +kernel, by decide +kernel⟩, List.mem_of_getElem? (i := 127) (by decide +kernel), List.mem_of_getElem? (i := 490) (by decide +kernel), List.mem_of_getElem? (i := 491) (by decide +kernel)⟩
theorem lw_p9 : lw_okq (⟨"TepidPurse$Tape", "refuse", "(ZI)V"⟩, 11) := ⟨⟨by decide +kernel, by decide +kernel⟩, List.mem_of_getElem? (i := 127) (by decide +kernel), List.mem_of_getElem? (i := 494) (by decide +kernel), List.mem_of_getElem? (i := 495) (by decide +kernel)⟩
theorem lw_p10 : lw_okq (⟨"TepidPurse$Tape", "readNumber", "(II)I"⟩, 11) := ⟨⟨by decide +kernel, by decide +kernel⟩, List.mem_of_getElem? (i := 127) (by decide +kernel), List.mem_of_getElem? (i := 498) (by decide +kernel), List.mem_of_getElem? (i := 499) (by decide +kernel)⟩
theorem lw_p11 : lw_okq (⟨"TepidPurse$Tape", "readSemicolon", "()Z"⟩, 11) := ⟨⟨by decide +kernel, by decide +kernel⟩, List.mem_of_getElem? (i := 127) (by decide +kernel), List.mem_of_getElem? (i := 503) (by decide +kernel), List.mem_of_getElem? (i := 504) (by decide +kernel)⟩
theorem lw_p12 : lw_okq (⟨"TepidPurse$Tape", "readStone", "(LTepidPurse$World;I)V"⟩, 11) := ⟨⟨by decide +kernel, by decide +kernel⟩, List.mem_of_getElem? (i := 127) (by decide +kernel), List.mem_of_getElem? (i := 511) (by decide +kernel), List.mem_of_getElem? (i := 512) (by decide +kernel)⟩
theorem lw_p13 : lw_okq (⟨"TepidPurse$Tape", "readOven", "(LTepidPurse$World;)V"⟩, 11) := ⟨⟨by decide +kernel, by decide +kernel⟩, List.mem_of_getElem? (i := 127) (by decide +kernel), List.mem_of_getElem? (i := 520) (by decide +kernel), List.mem_of_getElem? (i := 521) (by decide +kernel)⟩
theorem lw_p14 : lw_okq (⟨"TepidPurse$Tape", "readWind", "(LTepidPurse$World;)V"⟩, 11) := ⟨⟨by decide +kernel, by decide +kernel⟩, List.mem_of_getElem? (i := 127) (by decide +kernel), List.mem_of_getElem? (i := 525) (by decide +kernel), List.mem_of_getElem? (i := 526) (by decide +kernel)⟩
theorem lw_p15 : lw_okq (⟨"TepidPurse$Tape", "readPrice", "(LTepidPurse$World;)V"⟩, 11) := ⟨⟨by decide +kernel, by decide +kernel⟩, List.mem_of_getElem? (i := 127) (by decide +kernel), List.mem_of_getElem? (i := 530) (by decide +kernel), List.mem_of_getElem? (i := 531) (by decide +kernel)⟩
def lw_privs_1 : List (MethodName × Nat) := [(⟨"TepidPurse$Tape", "nextToken", "()V"⟩, 11), (⟨"TepidPurse$Tape", "skipBlanks", "()V"⟩, 11), (⟨"TepidPurse$Tape", "skipLetters", "()V"⟩, 11), (⟨"TepidPurse$Tape", "takeFigures", "()V"⟩, 11), (⟨"TepidPurse$Tape", "blame", "(II)V"⟩, 11), (⟨"TepidPurse$Tape", "readLine", "(LTepidPurse$World;)V"⟩, 11), (⟨"TepidPurse$Tape", "kindNamed", "()I"⟩, 11), (⟨"TepidPurse$Tape", "isName", "(Ljava/lang/String;)Z"⟩, 11), (⟨"TepidPurse$Tape", "readMan", "(LTepidPurse$World;)V"⟩, 11), (⟨"TepidPurse$Tape", "refuse", "(ZI)V"⟩, 11), (⟨"TepidPurse$Tape", "readNumber", "(II)I"⟩, 11), (⟨"TepidPurse$Tape", "readSemicolon", "()Z"⟩, 11), (⟨"TepidPurse$Tape", "readStone", "(LTepidPurse$World;I)V"⟩, 11), (⟨"TepidPurse$Tape", "readOven", "(LTepidPurse$World;)V"⟩, 11), (⟨"TepidPurse$Tape", "readWind", "(LTepidPurse$World;)V"⟩, 11), (⟨"TepidPurse$Tape", "readPrice", "(LTepidPurse$World;)V"⟩, 11)]
theorem lw_r1 : ∀ q ∈ lw_privs_1, lw_okq q := List.forall_mem_cons.mpr ⟨lw_p0, List.forall_mem_cons.mpr ⟨lw_p1, List.forall_mem_cons.mpr ⟨lw_p2, List.forall_mem_cons.mpr ⟨lw_p3, List.forall_mem_cons.mpr ⟨lw_p4, List.forall_mem_cons.mpr ⟨lw_p5, List.forall_mem_cons.mpr ⟨lw_p6, List.forall_mem_cons.mpr ⟨lw_p7, List.forall_mem_cons.mpr ⟨lw_p8, List.forall_mem_cons.mpr ⟨lw_p9, List.forall_mem_cons.mpr ⟨lw_p10, List.forall_mem_cons.mpr ⟨lw_p11, List.forall_mem_cons.mpr ⟨lw_p12, List.forall_mem_cons.mpr ⟨lw_p13, List.forall_mem_cons.mpr ⟨lw_p14, List.forall_mem_cons.mpr ⟨lw_p15, fun _ h => absurd h List.not_mem_nil⟩⟩⟩⟩⟩⟩⟩⟩⟩⟩⟩⟩⟩⟩⟩⟩
theorem lw_p16 : lw_okq (⟨"TepidPurse$Tape", "readDebt", "(LTepidPurse$World;)V"⟩, 11) := ⟨⟨by decide +kernel, by decide +kernel⟩, List.mem_of_getElem? (i := 127) (by decide +kernel), List.mem_of_getElem? (i := 535) (by decide +kernel), List.mem_of_getElem? (i := 536) (by decide +kernel)⟩
theorem lw_p17 : lw_okq (⟨"TepidPurse$Route", "step", "(LTepidPurse$World;IIIII)V"⟩, 7) := ⟨⟨by decide +kernel, by decide +kernel⟩, List.mem_of_getElem? (i := 207) (by decide +kernel), List.mem_of_getElem? (i := 721) (by decide +kernel), List.mem_of_getElem? (i := 722) (by decide +kernel)⟩
theorem lw_p18 : lw_okq (⟨"TepidPurse$Route", "judge", "(III)V"⟩, 7) := ⟨⟨by decide +kernel, by decide +kernel⟩, List.mem_of_getElem? (i := 207) (by decide +kernel), List.mem_of_getElem? (i := 725) (by decide +kernel), List.mem_of_getElem? (i := 726) (by decide +kernel)⟩
theorem lw_p19 : lw_okq (⟨"TepidPurse$Clearing", "foresee", "(LTepidPurse$World;I)V"⟩, 5) := ⟨⟨by decide +kernel, by decide +kernel⟩, List.mem_of_getElem? (i := 239) (by decide +kernel), List.mem_of_getElem? (i := 743) (by decide +kernel), List.mem_of_getElem? (i := 744) (by decide +kernel)⟩
theorem lw_p20 : lw_okq (⟨"TepidPurse$Clearing", "choose", "(LTepidPurse$World;III)Z"⟩, 5) := ⟨⟨by decide +kernel, by decide +kernel⟩, List.mem_of_getElem? (i := 239) (by decide +kernel), List.mem_of_getElem? (i := 756) (by decide +kernel), List.mem_of_getElem? (i := 757) (by decide +kernel)⟩
theorem lw_p21 : lw_okq (⟨"TepidPurse$Clearing", "lessen", "(LTepidPurse$World;II)V"⟩, 5) := ⟨⟨by decide +kernel, by decide +kernel⟩, List.mem_of_getElem? (i := 239) (by decide +kernel), List.mem_of_getElem? (i := 760) (by decide +kernel), List.mem_of_getElem? (i := 761) (by decide +kernel)⟩
theorem lw_p22 : lw_okq (⟨"TepidPurse$Settling", "arrange", "(LTepidPurse$Clearing;II)V"⟩, 4) := ⟨⟨by decide +kernel, by decide +kernel⟩, List.mem_of_getElem? (i := 267) (by decide +kernel), List.mem_of_getElem? (i := 775) (by decide +kernel), List.mem_of_getElem? (i := 776) (by decide +kernel)⟩
theorem lw_p23 : lw_okq (⟨"TepidPurse$Settling", "judge", "(LTepidPurse$World;)V"⟩, 4) := ⟨⟨by decide +kernel, by decide +kernel⟩, List.mem_of_getElem? (i := 267) (by decide +kernel), List.mem_of_getElem? (i := 779) (by decide +kernel), List.mem_of_getElem? (i := 780) (by decide +kernel)⟩
theorem lw_p24 : lw_okq (⟨"TepidPurse$Walking", "clearRow", "()V"⟩, 6) := ⟨⟨by decide +kernel, by decide +kernel⟩, List.mem_of_getElem? (i := 290) (by decide +kernel), List.mem_of_getElem? (i := 805) (by decide +kernel), List.mem_of_getElem? (i := 806) (by decide +kernel)⟩
theorem lw_p25 : lw_okq (⟨"TepidPurse$Walking", "stay", "()V"⟩, 6) := ⟨⟨by decide +kernel, by decide +kernel⟩, List.mem_of_getElem? (i := 290) (by decide +kernel), List.mem_of_getElem? (i := 813) (by decide +kernel), List.mem_of_getElem? (i := 814) (by decide +kernel)⟩
theorem lw_p26 : lw_okq (⟨"TepidPurse$Walking", "walkOnce", "()V"⟩, 6) := ⟨⟨by decide +kernel, by decide +kernel⟩, List.mem_of_getElem? (i := 290) (by decide +kernel), List.mem_of_getElem? (i := 818) (by decide +kernel), List.mem_of_getElem? (i := 819) (by decide +kernel)⟩
theorem lw_p27 : lw_okq (⟨"TepidPurse$Walking", "walkedUntil", "(III)I"⟩, 6) := ⟨⟨by decide +kernel, by decide +kernel⟩, List.mem_of_getElem? (i := 290) (by decide +kernel), List.mem_of_getElem? (i := 822) (by decide +kernel), List.mem_of_getElem? (i := 823) (by decide +kernel)⟩
theorem lw_p28 : lw_okq (⟨"TepidPurse$Sightings", "isPair", "(II)Z"⟩, 7) := ⟨⟨by decide +kernel, by decide +kernel⟩, List.mem_of_getElem? (i := 172) (by decide +kernel), List.mem_of_getElem? (i := 891) (by decide +kernel), List.mem_of_getElem? (i := 892) (by decide +kernel)⟩
theorem lw_p29 : lw_okq (⟨"TepidPurseModel", "step", "()V"⟩, 40) := ⟨⟨by decide +kernel, by decide +kernel⟩, List.mem_of_getElem? (i := 972) (by decide +kernel), List.mem_of_getElem? (i := 1116) (by decide +kernel), List.mem_of_getElem? (i := 1117) (by decide +kernel)⟩
theorem lw_p30 : lw_okq (⟨"TepidPurseModel", "byteAt", "(I)I"⟩, 40) := ⟨⟨by decide +kernel, by decide +kernel⟩, List.mem_of_getElem? (i := 972) (by decide +kernel), List.mem_of_getElem? (i := 1120) (by decide +kernel), List.mem_of_getElem? (i := 1121) (by decide +kernel)⟩
theorem lw_p31 : lw_okq (⟨"TepidPurseModel", "fails", "(I)V"⟩, 40) := ⟨⟨by decide +kernel, by decide +kernel⟩, List.mem_of_getElem? (i := 972) (by decide +kernel), List.mem_of_getElem? (i := 1128) (by decide +kernel), List.mem_of_getElem? (i := 1129) (by decide +kernel)⟩
def lw_privs_2 : List (MethodName × Nat) := [(⟨"TepidPurse$Tape", "readDebt", "(LTepidPurse$World;)V"⟩, 11), (⟨"TepidPurse$Route", "step", "(LTepidPurse$World;IIIII)V"⟩, 7), (⟨"TepidPurse$Route", "judge", "(III)V"⟩, 7), (⟨"TepidPurse$Clearing", "foresee", "(LTepidPurse$World;I)V"⟩, 5), (⟨"TepidPurse$Clearing", "choose", "(LTepidPurse$World;III)Z"⟩, 5), (⟨"TepidPurse$Clearing", "lessen", "(LTepidPurse$World;II)V"⟩, 5), (⟨"TepidPurse$Settling", "arrange", "(LTepidPurse$Clearing;II)V"⟩, 4), (⟨"TepidPurse$Settling", "judge", "(LTepidPurse$World;)V"⟩, 4), (⟨"TepidPurse$Walking", "clearRow", "()V"⟩, 6), (⟨"TepidPurse$Walking", "stay", "()V"⟩, 6), (⟨"TepidPurse$Walking", "walkOnce", "()V"⟩, 6), (⟨"TepidPurse$Walking", "walkedUntil", "(III)I"⟩, 6), (⟨"TepidPurse$Sightings", "isPair", "(II)Z"⟩, 7), (⟨"TepidPurseModel", "step", "()V"⟩, 40), (⟨"TepidPurseModel", "byteAt", "(I)I"⟩, 40), (⟨"TepidPurseModel", "fails", "(I)V"⟩, 40)]
theorem lw_r2 : ∀ q ∈ lw_privs_2, lw_okq q := List.forall_mem_cons.mpr ⟨lw_p16, List.forall_mem_cons.mpr ⟨lw_p17, List.forall_mem_cons.mpr ⟨lw_p18, List.forall_mem_cons.mpr ⟨lw_p19, List.forall_mem_cons.mpr ⟨lw_p20, List.forall_mem_cons.mpr ⟨lw_p21, List.forall_mem_cons.mpr ⟨lw_p22, List.forall_mem_cons.mpr ⟨lw_p23, List.forall_mem_cons.mpr ⟨lw_p24, List.forall_mem_cons.mpr ⟨lw_p25, List.forall_mem_cons.mpr ⟨lw_p26, List.forall_mem_cons.mpr ⟨lw_p27, List.forall_mem_cons.mpr ⟨lw_p28, List.forall_mem_cons.mpr ⟨lw_p29, List.forall_mem_cons.mpr ⟨lw_p30, List.forall_mem_cons.mpr ⟨lw_p31, fun _ h => absurd h List.not_mem_nil⟩⟩⟩⟩⟩⟩⟩⟩⟩⟩⟩⟩⟩⟩⟩⟩
theorem lw_p32 : lw_okq (⟨"TepidPurseModel", "readLine", "()V"⟩, 40) := ⟨⟨by decide +kernel, by decide +kernel⟩, List.mem_of_getElem? (i := 972) (by decide +kernel), List.mem_of_getElem? (i := 1132) (by decide +kernel), List.mem_of_getElem? (i := 1133) (by decide +kernel)⟩
theorem lw_p33 : lw_okq (⟨"TepidPurseModel", "nameHere", "()I"⟩, 40) := ⟨⟨by decide +kernel, by decide +kernel⟩, List.mem_of_getElem? (i := 972) (by decide +kernel), List.mem_of_getElem? (i := 1136) (by decide +kernel), List.mem_of_getElem? (i := 1137) (by decide +kernel)⟩
theorem lw_p34 : lw_okq (⟨"TepidPurseModel", "readMore", "(I)V"⟩, 40) := ⟨⟨by decide +kernel, by decide +kernel⟩, List.mem_of_getElem? (i := 972) (by decide +kernel), List.mem_of_getElem? (i := 1143) (by decide +kernel), List.mem_of_getElem? (i := 1144) (by decide +kernel)⟩
theorem lw_p35 : lw_okq (⟨"TepidPurseModel", "number", "(II)I"⟩, 40) := ⟨⟨by decide +kernel, by decide +kernel⟩, List.mem_of_getElem? (i := 972) (by decide +kernel), List.mem_of_getElem? (i := 1147) (by decide +kernel), List.mem_of_getElem? (i := 1148) (by decide +kernel)⟩
theorem lw_p36 : lw_okq (⟨"TepidPurseModel", "oneHere", "()I"⟩, 40) := ⟨⟨by decide +kernel, by decide +kernel⟩, List.mem_of_getElem? (i := 972) (by decide +kernel), List.mem_of_getElem? (i := 1151) (by decide +kernel), List.mem_of_getElem? (i := 1152) (by decide +kernel)⟩
theorem lw_p37 : lw_okq (⟨"TepidPurseModel", "readDebt", "()V"⟩, 40) := ⟨⟨by decide +kernel, by decide +kernel⟩, List.mem_of_getElem? (i := 972) (by decide +kernel), List.mem_of_getElem? (i := 1155) (by decide +kernel), List.mem_of_getElem? (i := 1156) (by decide +kernel)⟩
theorem lw_p38 : lw_okq (⟨"TepidPurseModel", "isOne", "(I)Z"⟩, 40) := ⟨⟨by decide +kernel, by decide +kernel⟩, List.mem_of_getElem? (i := 972) (by decide +kernel), List.mem_of_getElem? (i := 1172) (by decide +kernel), List.mem_of_getElem? (i := 1173) (by decide +kernel)⟩
theorem lw_p39 : lw_okq (⟨"TepidPurseModel", "isStone", "(I)Z"⟩, 40) := ⟨⟨by decide +kernel, by decide +kernel⟩, List.mem_of_getElem? (i := 972) (by decide +kernel), List.mem_of_getElem? (i := 1180) (by decide +kernel), List.mem_of_getElem? (i := 1181) (by decide +kernel)⟩
theorem lw_p40 : lw_okq (⟨"TepidPurseModel", "rateOn", "(II)I"⟩, 40) := ⟨⟨by decide +kernel, by decide +kernel⟩, List.mem_of_getElem? (i := 972) (by decide +kernel), List.mem_of_getElem? (i := 1184) (by decide +kernel), List.mem_of_getElem? (i := 1185) (by decide +kernel)⟩
theorem lw_p41 : lw_okq (⟨"TepidPurseModel", "isDebt", "(I)Z"⟩, 40) := ⟨⟨by decide +kernel, by decide +kernel⟩, List.mem_of_getElem? (i := 972) (by decide +kernel), List.mem_of_getElem? (i := 1195) (by decide +kernel), List.mem_of_getElem? (i := 1196) (by decide +kernel)⟩
theorem lw_p42 : lw_okq (⟨"TepidPurseModel", "puts", "(ZIII)I"⟩, 40) := ⟨⟨by decide +kernel, by decide +kernel⟩, List.mem_of_getElem? (i := 972) (by decide +kernel), List.mem_of_getElem? (i := 1208) (by decide +kernel), List.mem_of_getElem? (i := 1209) (by decide +kernel)⟩
theorem lw_p43 : lw_okq (⟨"TepidPurseModel", "goesOn", "(II)V"⟩, 40) := ⟨⟨by decide +kernel, by decide +kernel⟩, List.mem_of_getElem? (i := 972) (by decide +kernel), List.mem_of_getElem? (i := 1241) (by decide +kernel), List.mem_of_getElem? (i := 1242) (by decide +kernel)⟩
theorem lw_p44 : lw_okq (⟨"TepidPurseModel", "minuteOn", "(II)V"⟩, 40) := ⟨⟨by decide +kernel, by decide +kernel⟩, List.mem_of_getElem? (i := 972) (by decide +kernel), List.mem_of_getElem? (i := 1245) (by decide +kernel), List.mem_of_getElem? (i := 1246) (by decide +kernel)⟩
theorem lw_p45 : lw_okq (⟨"TepidPurseModel", "warmOnes", "()I"⟩, 40) := ⟨⟨by decide +kernel, by decide +kernel⟩, List.mem_of_getElem? (i := 972) (by decide +kernel), List.mem_of_getElem? (i := 1252) (by decide +kernel), List.mem_of_getElem? (i := 1253) (by decide +kernel)⟩
theorem lw_p46 : lw_okq (⟨"TepidPurseModel", "paid", "(II)I"⟩, 40) := ⟨⟨by decide +kernel, by decide +kernel⟩, List.mem_of_getElem? (i := 972) (by decide +kernel), List.mem_of_getElem? (i := 1260) (by decide +kernel), List.mem_of_getElem? (i := 1261) (by decide +kernel)⟩
theorem lw_p47 : lw_okq (⟨"TepidPurseModel", "wayOn", "(III)I"⟩, 40) := ⟨⟨by decide +kernel, by decide +kernel⟩, List.mem_of_getElem? (i := 972) (by decide +kernel), List.mem_of_getElem? (i := 1264) (by decide +kernel), List.mem_of_getElem? (i := 1265) (by decide +kernel)⟩
def lw_privs_3 : List (MethodName × Nat) := [(⟨"TepidPurseModel", "readLine", "()V"⟩, 40), (⟨"TepidPurseModel", "nameHere", "()I"⟩, 40), (⟨"TepidPurseModel", "readMore", "(I)V"⟩, 40), (⟨"TepidPurseModel", "number", "(II)I"⟩, 40), (⟨"TepidPurseModel", "oneHere", "()I"⟩, 40), (⟨"TepidPurseModel", "readDebt", "()V"⟩, 40), (⟨"TepidPurseModel", "isOne", "(I)Z"⟩, 40), (⟨"TepidPurseModel", "isStone", "(I)Z"⟩, 40), (⟨"TepidPurseModel", "rateOn", "(II)I"⟩, 40), (⟨"TepidPurseModel", "isDebt", "(I)Z"⟩, 40), (⟨"TepidPurseModel", "puts", "(ZIII)I"⟩, 40), (⟨"TepidPurseModel", "goesOn", "(II)V"⟩, 40), (⟨"TepidPurseModel", "minuteOn", "(II)V"⟩, 40), (⟨"TepidPurseModel", "warmOnes", "()I"⟩, 40), (⟨"TepidPurseModel", "paid", "(II)I"⟩, 40), (⟨"TepidPurseModel", "wayOn", "(III)I"⟩, 40)]
theorem lw_r3 : ∀ q ∈ lw_privs_3, lw_okq q := List.forall_mem_cons.mpr ⟨lw_p32, List.forall_mem_cons.mpr ⟨lw_p33, List.forall_mem_cons.mpr ⟨lw_p34, List.forall_mem_cons.mpr ⟨lw_p35, List.forall_mem_cons.mpr ⟨lw_p36, List.forall_mem_cons.mpr ⟨lw_p37, List.forall_mem_cons.mpr ⟨lw_p38, List.forall_mem_cons.mpr ⟨lw_p39, List.forall_mem_cons.mpr ⟨lw_p40, List.forall_mem_cons.mpr ⟨lw_p41, List.forall_mem_cons.mpr ⟨lw_p42, List.forall_mem_cons.mpr ⟨lw_p43, List.forall_mem_cons.mpr ⟨lw_p44, List.forall_mem_cons.mpr ⟨lw_p45, List.forall_mem_cons.mpr ⟨lw_p46, List.forall_mem_cons.mpr ⟨lw_p47, fun _ h => absurd h List.not_mem_nil⟩⟩⟩⟩⟩⟩⟩⟩⟩⟩⟩⟩⟩⟩⟩⟩
theorem lw_p48 : lw_okq (⟨"TepidPurseModel", "apart", "(II)I"⟩, 40) := ⟨⟨by decide +kernel, by decide +kernel⟩, List.mem_of_getElem? (i := 972) (by decide +kernel), List.mem_of_getElem? (i := 1268) (by decide +kernel), List.mem_of_getElem? (i := 1269) (by decide +kernel)⟩
theorem lw_p49 : lw_okq (⟨"TepidPurseModel", "paysOn", "(III)I"⟩, 40) := ⟨⟨by decide +kernel, by decide +kernel⟩, List.mem_of_getElem? (i := 972) (by decide +kernel), List.mem_of_getElem? (i := 1272) (by decide +kernel), List.mem_of_getElem? (i := 1273) (by decide +kernel)⟩
theorem lw_p50 : lw_okq (⟨"TepidPurseModel", "ovenWay", "(I)I"⟩, 40) := ⟨⟨by decide +kernel, by decide +kernel⟩, List.mem_of_getElem? (i := 972) (by decide +kernel), List.mem_of_getElem? (i := 1280) (by decide +kernel), List.mem_of_getElem? (i := 1281) (by decide +kernel)⟩
theorem lw_p51 : lw_okq (⟨"TepidPurseModel", "heatNow", "()I"⟩, 40) := ⟨⟨by decide +kernel, by decide +kernel⟩, List.mem_of_getElem? (i := 972) (by decide +kernel), List.mem_of_getElem? (i := 1284) (by decide +kernel), List.mem_of_getElem? (i := 1285) (by decide +kernel)⟩
theorem lw_p52 : lw_okq (⟨"TepidPurseModel", "afterOf", "(III)I"⟩, 40) := ⟨⟨by decide +kernel, by decide +kernel⟩, List.mem_of_getElem? (i := 972) (by decide +kernel), List.mem_of_getElem? (i := 1292) (by decide +kernel), List.mem_of_getElem? (i := 1293) (by decide +kernel)⟩
theorem lw_p53 : lw_okq (⟨"TepidPurseModel", "laysHands", "(III)I"⟩, 40) := ⟨⟨by decide +kernel, by decide +kernel⟩, List.mem_of_getElem? (i := 972) (by decide +kernel), List.mem_of_getElem? (i := 1305) (by decide +kernel), List.mem_of_getElem? (i := 1306) (by decide +kernel)⟩
theorem lw_p54 : lw_okq (⟨"TepidPurseModel", "handed", "(II)I"⟩, 40) := ⟨⟨by decide +kernel, by decide +kernel⟩, List.mem_of_getElem? (i := 972) (by decide +kernel), List.mem_of_getElem? (i := 1309) (by decide +kernel), List.mem_of_getElem? (i := 1310) (by decide +kernel)⟩
theorem lw_p55 : lw_okq (⟨"TepidPurseModel", "fewestFrom", "(II)I"⟩, 40) := ⟨⟨by decide +kernel, by decide +kernel⟩, List.mem_of_getElem? (i := 972) (by decide +kernel), List.mem_of_getElem? (i := 1318) (by decide +kernel), List.mem_of_getElem? (i := 1319) (by decide +kernel)⟩
theorem lw_p56 : lw_okq (⟨"TepidPurseModel", "laysRow", "(IIII)Z"⟩, 40) := ⟨⟨by decide +kernel, by decide +kernel⟩, List.mem_of_getElem? (i := 972) (by decide +kernel), List.mem_of_getElem? (i := 1322) (by decide +kernel), List.mem_of_getElem? (i := 1323) (by decide +kernel)⟩
theorem lw_p57 : lw_okq (⟨"TepidPurseModel", "copies", "(II)V"⟩, 40) := ⟨⟨by decide +kernel, by decide +kernel⟩, List.mem_of_getElem? (i := 972) (by decide +kernel), List.mem_of_getElem? (i := 1326) (by decide +kernel), List.mem_of_getElem? (i := 1327) (by decide +kernel)⟩
theorem lw_p58 : lw_okq (⟨"TepidPurseModel", "laysOrder", "(I)Z"⟩, 40) := ⟨⟨by decide +kernel, by decide +kernel⟩, List.mem_of_getElem? (i := 972) (by decide +kernel), List.mem_of_getElem? (i := 1334) (by decide +kernel), List.mem_of_getElem? (i := 1335) (by decide +kernel)⟩
theorem lw_p59 : lw_okq (⟨"TepidPurseModel", "settled", "()I"⟩, 40) := ⟨⟨by decide +kernel, by decide +kernel⟩, List.mem_of_getElem? (i := 972) (by decide +kernel), List.mem_of_getElem? (i := 1338) (by decide +kernel), List.mem_of_getElem? (i := 1339) (by decide +kernel)⟩
theorem lw_p60 : lw_okq (⟨"TepidPurseModel", "reaches", "(III)V"⟩, 40) := ⟨⟨by decide +kernel, by decide +kernel⟩, List.mem_of_getElem? (i := 972) (by decide +kernel), List.mem_of_getElem? (i := 1350) (by decide +kernel), List.mem_of_getElem? (i := 1351) (by decide +kernel)⟩
theorem lw_p61 : lw_okq (⟨"TepidPurseModel", "walked", "(IIII)I"⟩, 40) := ⟨⟨by decide +kernel, by decide +kernel⟩, List.mem_of_getElem? (i := 972) (by decide +kernel), List.mem_of_getElem? (i := 1354) (by decide +kernel), List.mem_of_getElem? (i := 1355) (by decide +kernel)⟩
theorem lw_p62 : lw_okq (⟨"TepidPurseModel", "bought", "(II)I"⟩, 40) := ⟨⟨by decide +kernel, by decide +kernel⟩, List.mem_of_getElem? (i := 972) (by decide +kernel), List.mem_of_getElem? (i := 1362) (by decide +kernel), List.mem_of_getElem? (i := 1363) (by decide +kernel)⟩
theorem lw_p63 : lw_okq (⟨"TepidPurseModel", "byWind", "(IIZI)J"⟩, 40) := ⟨⟨by decide +kernel, by decide +kernel⟩, List.mem_of_getElem? (i := 972) (by decide +kernel), List.mem_of_getElem? (i := 1370) (by decide +kernel), List.mem_of_getElem? (i := 1371) (by decide +kernel)⟩
def lw_privs_4 : List (MethodName × Nat) := [(⟨"TepidPurseModel", "apart", "(II)I"⟩, 40), (⟨"TepidPurseModel", "paysOn", "(III)I"⟩, 40), (⟨"TepidPurseModel", "ovenWay", "(I)I"⟩, 40), (⟨"TepidPurseModel", "heatNow", "()I"⟩, 40), (⟨"TepidPurseModel", "afterOf", "(III)I"⟩, 40), (⟨"TepidPurseModel", "laysHands", "(III)I"⟩, 40), (⟨"TepidPurseModel", "handed", "(II)I"⟩, 40), (⟨"TepidPurseModel", "fewestFrom", "(II)I"⟩, 40), (⟨"TepidPurseModel", "laysRow", "(IIII)Z"⟩, 40), (⟨"TepidPurseModel", "copies", "(II)V"⟩, 40), (⟨"TepidPurseModel", "laysOrder", "(I)Z"⟩, 40), (⟨"TepidPurseModel", "settled", "()I"⟩, 40), (⟨"TepidPurseModel", "reaches", "(III)V"⟩, 40), (⟨"TepidPurseModel", "walked", "(IIII)I"⟩, 40), (⟨"TepidPurseModel", "bought", "(II)I"⟩, 40), (⟨"TepidPurseModel", "byWind", "(IIZI)J"⟩, 40)]
theorem lw_r4 : ∀ q ∈ lw_privs_4, lw_okq q := List.forall_mem_cons.mpr ⟨lw_p48, List.forall_mem_cons.mpr ⟨lw_p49, List.forall_mem_cons.mpr ⟨lw_p50, List.forall_mem_cons.mpr ⟨lw_p51, List.forall_mem_cons.mpr ⟨lw_p52, List.forall_mem_cons.mpr ⟨lw_p53, List.forall_mem_cons.mpr ⟨lw_p54, List.forall_mem_cons.mpr ⟨lw_p55, List.forall_mem_cons.mpr ⟨lw_p56, List.forall_mem_cons.mpr ⟨lw_p57, List.forall_mem_cons.mpr ⟨lw_p58, List.forall_mem_cons.mpr ⟨lw_p59, List.forall_mem_cons.mpr ⟨lw_p60, List.forall_mem_cons.mpr ⟨lw_p61, List.forall_mem_cons.mpr ⟨lw_p62, List.forall_mem_cons.mpr ⟨lw_p63, fun _ h => absurd h List.not_mem_nil⟩⟩⟩⟩⟩⟩⟩⟩⟩⟩⟩⟩⟩⟩⟩⟩
theorem lw_p64 : lw_okq (⟨"TepidPurseModel", "windy", "(II)I"⟩, 40) := ⟨⟨by decide +kernel, by decide +kernel⟩, List.mem_of_getElem? (i := 972) (by decide +kernel), List.mem_of_getElem? (i := 1374) (by decide +kernel), List.mem_of_getElem? (i := 1375) (by decide +kernel)⟩
theorem lw_p65 : lw_okq (⟨"TepidPurseModel", "spent", "(I)J"⟩, 40) := ⟨⟨by decide +kernel, by decide +kernel⟩, List.mem_of_getElem? (i := 972) (by decide +kernel), List.mem_of_getElem? (i := 1390) (by decide +kernel), List.mem_of_getElem? (i := 1391) (by decide +kernel)⟩
theorem lw_p66 : lw_okq (⟨"TepidPurseModel", "isAsSeen", "(II)Z"⟩, 40) := ⟨⟨by decide +kernel, by decide +kernel⟩, List.mem_of_getElem? (i := 972) (by decide +kernel), List.mem_of_getElem? (i := 1408) (by decide +kernel), List.mem_of_getElem? (i := 1409) (by decide +kernel)⟩
theorem lw_p67 : lw_okq (⟨"TepidPurseModel", "draws", "(I)I"⟩, 40) := ⟨⟨by decide +kernel, by decide +kernel⟩, List.mem_of_getElem? (i := 972) (by decide +kernel), List.mem_of_getElem? (i := 1416) (by decide +kernel), List.mem_of_getElem? (i := 1417) (by decide +kernel)⟩
def lw_privs_5 : List (MethodName × Nat) := [(⟨"TepidPurseModel", "windy", "(II)I"⟩, 40), (⟨"TepidPurseModel", "spent", "(I)J"⟩, 40), (⟨"TepidPurseModel", "isAsSeen", "(II)Z"⟩, 40), (⟨"TepidPurseModel", "draws", "(I)I"⟩, 40)]
theorem lw_r5 : ∀ q ∈ lw_privs_5, lw_okq q := List.forall_mem_cons.mpr ⟨lw_p64, List.forall_mem_cons.mpr ⟨lw_p65, List.forall_mem_cons.mpr ⟨lw_p66, List.forall_mem_cons.mpr ⟨lw_p67, fun _ h => absurd h List.not_mem_nil⟩⟩⟩⟩
def lw_privs : List (MethodName × Nat) := lw_privs_1 ++ (lw_privs_2 ++ (lw_privs_3 ++ (lw_privs_4 ++ (lw_privs_5))))
def lw_tbl : List Cond := k2_sels lw_privs ++ tables_1
theorem lw_privs_ok : ∀ q ∈ lw_privs, lw_okq q := by
  show ∀ q ∈ lw_privs_1 ++ (lw_privs_2 ++ (lw_privs_3 ++ (lw_privs_4 ++ (lw_privs_5)))), lw_okq q
  exact List.forall_mem_append.mpr ⟨lw_r1, List.forall_mem_append.mpr ⟨lw_r2, List.forall_mem_append.mpr ⟨lw_r3, List.forall_mem_append.mpr ⟨lw_r4, lw_r5⟩⟩⟩⟩
end
section
def RX0 : String := "TepidPurse$Clearing"
def TX0 : u_T := fun k => match k with
  | 0 => ("TepidPurse$Clearing", "size", "I", false)
  | 1 => ("TepidPurse$Clearing", "chosen", "[I", true)
  | 2 => ("TepidPurse$Clearing", "arrival", "[[I", true)
  | 3 => ("TepidPurse$Clearing", "owed", "[[I", true)
  | _ => ("TepidPurse$Clearing", "wanted", "I", false)
def tyX0 : Nat → FieldType := fun k => match k with
  | 0 => .int
  | 1 => .array .int
  | 2 => .array (.array .int)
  | 3 => .array (.array .int)
  | _ => .int
abbrev wsX00 : List Cond := u_ws RX0 TX0 5
theorem nmX0 : ∀ a, a < 5 → ∀ b, b < 5 → a ≠ b → (TX0 a).2.1 ≠ (TX0 b).2.1 := by decide +kernel
theorem tyX0_ok : ∀ k, k < 5 → parseFieldDescriptor (TX0 k).2.2.1 = some (tyX0 k) := by decide +kernel
def RX1 : String := "TepidPurse$Route"
def TX1 : u_T := fun k => match k with
  | 0 => ("TepidPurse$Route", "trail", "[I", true)
  | 1 => ("TepidPurse$Route", "best", "[I", true)
  | 2 => ("TepidPurse$Route", "bestLength", "I", false)
  | 3 => ("TepidPurse$Route", "bestWarmth", "I", false)
  | 4 => ("TepidPurse$Route", "bestMinutes", "I", false)
  | 5 => ("TepidPurse$Route", "kind", "I", false)
  | _ => ("TepidPurse$Route", "target", "I", false)
def tyX1 : Nat → FieldType := fun k => match k with
  | 0 => .array .int
  | 1 => .array .int
  | 2 => .int
  | 3 => .int
  | 4 => .int
  | 5 => .int
  | _ => .int
abbrev wsX10 : List Cond := u_ws RX1 TX1 7
theorem nmX1 : ∀ a, a < 7 → ∀ b, b < 7 → a ≠ b → (TX1 a).2.1 ≠ (TX1 b).2.1 := by decide +kernel
theorem tyX1_ok : ∀ k, k < 7 → parseFieldDescriptor (TX1 k).2.2.1 = some (tyX1 k) := by decide +kernel
def RX2 : String := "TepidPurse$Settling"
def TX2 : u_T := fun k => match k with
  | 0 => ("TepidPurse$Settling", "mostCleared", "I", false)
  | 1 => ("TepidPurse$Settling", "best", "[I", true)
  | 2 => ("TepidPurse$Settling", "order", "[I", true)
  | _ => ("TepidPurse$Settling", "worlds", "[LTepidPurse$World;", true)
def tyX2 : Nat → FieldType := fun k => match k with
  | 0 => .int
  | 1 => .array .int
  | 2 => .array .int
  | _ => .array (.object "TepidPurse$World")
abbrev wsX20 : List Cond := u_ws RX2 TX2 4
theorem nmX2 : ∀ a, a < 4 → ∀ b, b < 4 → a ≠ b → (TX2 a).2.1 ≠ (TX2 b).2.1 := by decide +kernel
theorem tyX2_ok : ∀ k, k < 4 → parseFieldDescriptor (TX2 k).2.2.1 = some (tyX2 k) := by decide +kernel
def RX3 : String := "TepidPurse$Sheet"
def TX3 : u_T := fun k => match k with
  | 0 => ("TepidPurse$Sheet", "lane", "I", false)
  | 1 => ("TepidPurse$Sheet", "length", "I", false)
  | _ => ("TepidPurse$Sheet", "cells", "[I", true)
def tyX3 : Nat → FieldType := fun k => match k with
  | 0 => .int
  | 1 => .int
  | _ => .array .int
abbrev wsX30 : List Cond := u_ws RX3 TX3 3
theorem nmX3 : ∀ a, a < 3 → ∀ b, b < 3 → a ≠ b → (TX3 a).2.1 ≠ (TX3 b).2.1 := by decide +kernel
theorem tyX3_ok : ∀ k, k < 3 → parseFieldDescriptor (TX3 k).2.2.1 = some (tyX3 k) := by decide +kernel
def RX4 : String := "TepidPurse$Sightings"
def TX4 : u_T := fun k => match k with
  | 0 => ("TepidPurse$Sightings", "size", "I", false)
  | 1 => ("TepidPurse$Sightings", "minutes", "[I", true)
  | 2 => ("TepidPurse$Sightings", "warmths", "[I", true)
  | 3 => ("TepidPurse$Sightings", "pairs", "I", false)
  | 4 => ("TepidPurse$Sightings", "firstPair", "I", false)
  | 5 => ("TepidPurse$Sightings", "fittingStones", "I", false)
  | _ => ("TepidPurse$Sightings", "fittingPeople", "I", false)
def tyX4 : Nat → FieldType := fun k => match k with
  | 0 => .int
  | 1 => .array .int
  | 2 => .array .int
  | 3 => .int
  | 4 => .int
  | 5 => .int
  | _ => .int
abbrev wsX40 : List Cond := u_ws RX4 TX4 7
theorem nmX4 : ∀ a, a < 7 → ∀ b, b < 7 → a ≠ b → (TX4 a).2.1 ≠ (TX4 b).2.1 := by decide +kernel
theorem tyX4_ok : ∀ k, k < 7 → parseFieldDescriptor (TX4 k).2.2.1 = some (tyX4 k) := by decide +kernel
def RX5 : String := "TepidPurse$Tape"
def TX5 : u_T := fun k => match k with
  | 0 => ("TepidPurse$Tape", "bytes", "[B", true)
  | 1 => ("TepidPurse$Tape", "length", "I", false)
  | 2 => ("TepidPurse$Tape", "fault", "I", false)
  | 3 => ("TepidPurse$Tape", "faultPlace", "I", false)
  | 4 => ("TepidPurse$Tape", "position", "I", false)
  | 5 => ("TepidPurse$Tape", "token", "I", false)
  | 6 => ("TepidPurse$Tape", "tokenStart", "I", false)
  | 7 => ("TepidPurse$Tape", "number", "I", false)
  | 8 => ("TepidPurse$Tape", "ovenTold", "Z", false)
  | 9 => ("TepidPurse$Tape", "windTold", "Z", false)
  | _ => ("TepidPurse$Tape", "pricesTold", "I", false)
def tyX5 : Nat → FieldType := fun k => match k with
  | 0 => .array .byte
  | 1 => .int
  | 2 => .int
  | 3 => .int
  | 4 => .int
  | 5 => .int
  | 6 => .int
  | 7 => .int
  | 8 => .boolean
  | 9 => .boolean
  | _ => .int
abbrev wsX50 : List Cond := u_ws RX5 TX5 11
theorem nmX5 : ∀ a, a < 11 → ∀ b, b < 11 → a ≠ b → (TX5 a).2.1 ≠ (TX5 b).2.1 := by decide +kernel
theorem tyX5_ok : ∀ k, k < 11 → parseFieldDescriptor (TX5 k).2.2.1 = some (tyX5 k) := by decide +kernel
def RX6 : String := "TepidPurse$Walking"
def TX6 : u_T := fun k => match k with
  | 0 => ("TepidPurse$Walking", "warmest", "[I", false)
  | 1 => ("TepidPurse$Walking", "withOneLess", "[I", false)
  | 2 => ("TepidPurse$Walking", "minutes", "I", false)
  | 3 => ("TepidPurse$Walking", "rate", "I", false)
  | 4 => ("TepidPurse$Walking", "distance", "I", false)
  | _ => ("TepidPurse$Walking", "heat", "I", false)
def tyX6 : Nat → FieldType := fun k => match k with
  | 0 => .array .int
  | 1 => .array .int
  | 2 => .int
  | 3 => .int
  | 4 => .int
  | _ => .int
abbrev wsX60 : List Cond := u_ws RX6 TX6 6
theorem nmX6 : ∀ a, a < 6 → ∀ b, b < 6 → a ≠ b → (TX6 a).2.1 ≠ (TX6 b).2.1 := by decide +kernel
theorem tyX6_ok : ∀ k, k < 6 → parseFieldDescriptor (TX6 k).2.2.1 = some (tyX6 k) := by decide +kernel
def RX7 : String := "TepidPurse$World"
def TX7 : u_T := fun k => match k with
  | 0 => ("TepidPurse$World", "people", "I", false)
  | 1 => ("TepidPurse$World", "wool", "[I", true)
  | 2 => ("TepidPurse$World", "place", "[I", true)
  | 3 => ("TepidPurse$World", "stones", "I", false)
  | 4 => ("TepidPurse$World", "kind", "[I", true)
  | 5 => ("TepidPurse$World", "warmth", "[I", true)
  | 6 => ("TepidPurse$World", "owner", "[I", true)
  | 7 => ("TepidPurse$World", "ovenPlace", "I", false)
  | 8 => ("TepidPurse$World", "heat", "I", false)
  | 9 => ("TepidPurse$World", "wind", "I", false)
  | 10 => ("TepidPurse$World", "price", "[I", true)
  | 11 => ("TepidPurse$World", "debts", "I", false)
  | 12 => ("TepidPurse$World", "debtor", "[I", true)
  | 13 => ("TepidPurse$World", "creditor", "[I", true)
  | 14 => ("TepidPurse$World", "amount", "[I", true)
  | _ => ("TepidPurse$World", "minute", "I", false)
def tyX7 : Nat → FieldType := fun k => match k with
  | 0 => .int
  | 1 => .array .int
  | 2 => .array .int
  | 3 => .int
  | 4 => .array .int
  | 5 => .array .int
  | 6 => .array .int
  | 7 => .int
  | 8 => .int
  | 9 => .int
  | 10 => .array .int
  | 11 => .int
  | 12 => .array .int
  | 13 => .array .int
  | 14 => .array .int
  | _ => .int
abbrev wsX70 : List Cond := u_ws RX7 TX7 16
theorem nmX7 : ∀ a, a < 16 → ∀ b, b < 16 → a ≠ b → (TX7 a).2.1 ≠ (TX7 b).2.1 := by decide +kernel
theorem tyX7_ok : ∀ k, k < 16 → parseFieldDescriptor (TX7 k).2.2.1 = some (tyX7 k) := by decide +kernel
def RX8 : String := "TepidPurse"
def TX8 : u_T := fun k => match k with
  | 0 => ("TepidPurse", "world", "LTepidPurse$World;", true)
  | 1 => ("TepidPurse", "scratch", "LTepidPurse$World;", true)
  | 2 => ("TepidPurse", "images", "[LTepidPurse$World;", true)
  | 3 => ("TepidPurse", "kept", "[Z", true)
  | 4 => ("TepidPurse", "tape", "LTepidPurse$Tape;", true)
  | 5 => ("TepidPurse", "sightings", "LTepidPurse$Sightings;", true)
  | 6 => ("TepidPurse", "sheets", "[LTepidPurse$Sheet;", true)
  | 7 => ("TepidPurse", "route", "LTepidPurse$Route;", true)
  | 8 => ("TepidPurse", "clearing", "LTepidPurse$Clearing;", true)
  | 9 => ("TepidPurse", "settling", "LTepidPurse$Settling;", true)
  | 10 => ("TepidPurse", "walking", "LTepidPurse$Walking;", true)
  | 11 => ("TepidPurse", "textFault", "I", false)
  | _ => ("TepidPurse", "readFault", "I", false)
def tyX8 : Nat → FieldType := fun k => match k with
  | 0 => .object "TepidPurse$World"
  | 1 => .object "TepidPurse$World"
  | 2 => .array (.object "TepidPurse$World")
  | 3 => .array .boolean
  | 4 => .object "TepidPurse$Tape"
  | 5 => .object "TepidPurse$Sightings"
  | 6 => .array (.object "TepidPurse$Sheet")
  | 7 => .object "TepidPurse$Route"
  | 8 => .object "TepidPurse$Clearing"
  | 9 => .object "TepidPurse$Settling"
  | 10 => .object "TepidPurse$Walking"
  | 11 => .int
  | _ => .int
abbrev wsX80 : List Cond := u_ws RX8 TX8 13
theorem nmX8 : ∀ a, a < 13 → ∀ b, b < 13 → a ≠ b → (TX8 a).2.1 ≠ (TX8 b).2.1 := by decide +kernel
theorem tyX8_ok : ∀ k, k < 13 → parseFieldDescriptor (TX8 k).2.2.1 = some (tyX8 k) := by decide +kernel
def RX9 : String := "TepidPurseModel"
def TX9 : u_T := fun k => match k with
  | 0 => ("TepidPurseModel", "state", "[I", true)
  | 1 => ("TepidPurseModel", "oneMany", "I", false)
  | 2 => ("TepidPurseModel", "owed", "[I", true)
  | 3 => ("TepidPurseModel", "debtMany", "I", false)
  | 4 => ("TepidPurseModel", "bases", "[I", true)
  | 5 => ("TepidPurseModel", "readPage", "[I", true)
  | 6 => ("TepidPurseModel", "readOwed", "[I", true)
  | 7 => ("TepidPurseModel", "readOnes", "I", false)
  | 8 => ("TepidPurseModel", "readDebts", "I", false)
  | 9 => ("TepidPurseModel", "toldOnce", "I", false)
  | 10 => ("TepidPurseModel", "pricesTold", "I", false)
  | 11 => ("TepidPurseModel", "highOne", "I", false)
  | 12 => ("TepidPurseModel", "tape", "[I", true)
  | 13 => ("TepidPurseModel", "taped", "I", false)
  | 14 => ("TepidPurseModel", "fault", "I", false)
  | 15 => ("TepidPurseModel", "broken", "I", false)
  | 16 => ("TepidPurseModel", "brokenAt", "I", false)
  | 17 => ("TepidPurseModel", "spot", "I", false)
  | 18 => ("TepidPurseModel", "here", "I", false)
  | 19 => ("TepidPurseModel", "token", "I", false)
  | 20 => ("TepidPurseModel", "value", "I", false)
  | 21 => ("TepidPurseModel", "cuts", "[I", true)
  | 22 => ("TepidPurseModel", "letters", "[I", true)
  | 23 => ("TepidPurseModel", "hands", "[I", true)
  | 24 => ("TepidPurseModel", "wayMinutes", "I", false)
  | 25 => ("TepidPurseModel", "row", "[I", true)
  | 26 => ("TepidPurseModel", "bestRow", "[I", true)
  | 27 => ("TepidPurseModel", "order", "[I", true)
  | 28 => ("TepidPurseModel", "heatings", "[I", true)
  | 29 => ("TepidPurseModel", "worths", "[J", true)
  | 30 => ("TepidPurseModel", "worthsThen", "[J", true)
  | 31 => ("TepidPurseModel", "isAtOnce", "Z", false)
  | 32 => ("TepidPurseModel", "seen", "[I", true)
  | 33 => ("TepidPurseModel", "seenMany", "I", false)
  | 34 => ("TepidPurseModel", "drawn", "I", false)
  | 35 => ("TepidPurseModel", "isKept", "[Z", true)
  | 36 => ("TepidPurseModel", "lanes", "[I", true)
  | 37 => ("TepidPurseModel", "lengths", "[I", true)
  | 38 => ("TepidPurseModel", "cells", "[I", true)
  | _ => ("TepidPurseModel", "torn", "I", false)
def tyX9 : Nat → FieldType := fun k => match k with
  | 0 => .array .int
  | 1 => .int
  | 2 => .array .int
  | 3 => .int
  | 4 => .array .int
  | 5 => .array .int
  | 6 => .array .int
  | 7 => .int
  | 8 => .int
  | 9 => .int
  | 10 => .int
  | 11 => .int
  | 12 => .array .int
  | 13 => .int
  | 14 => .int
  | 15 => .int
  | 16 => .int
  | 17 => .int
  | 18 => .int
  | 19 => .int
  | 20 => .int
  | 21 => .array .int
  | 22 => .array .int
  | 23 => .array .int
  | 24 => .int
  | 25 => .array .int
  | 26 => .array .int
  | 27 => .array .int
  | 28 => .array .int
  | 29 => .array .long
  | 30 => .array .long
  | 31 => .boolean
  | 32 => .array .int
  | 33 => .int
  | 34 => .int
  | 35 => .array .boolean
  | 36 => .array .int
  | 37 => .array .int
  | 38 => .array .int
  | _ => .int
abbrev wsX90 : List Cond := u_ws RX9 TX9 40
theorem nmX9 : ∀ a, a < 40 → ∀ b, b < 40 → a ≠ b → (TX9 a).2.1 ≠ (TX9 b).2.1 := by decide +kernel
theorem tyX9_ok : ∀ k, k < 40 → parseFieldDescriptor (TX9 k).2.2.1 = some (tyX9 k) := by decide +kernel
def RJ6 : String := "java/lang/Integer"
def RJ9 : String := "java/lang/Math"
def RJ0 : String := "java/lang/String"
def RJ1 : String := "java/lang/StringLatin1"
def RJ2 : String := "java/lang/StringUTF16"
def RJ10 : String := "java/lang/System"
def RJ3 : String := "jdk/internal/util/Preconditions"
def RL : String := "TepidPurseLaw"
abbrev cX0_init : ByteArray := prog_2_method_1_code
def yX0_init : MethodName := ⟨RX0, "<init>", "()V"⟩
abbrev cX0_find : ByteArray := prog_2_method_2_code
def yX0_find : MethodName := ⟨RX0, "find", "(LTepidPurse$World;I)Z"⟩
abbrev cX0_foresee : ByteArray := prog_2_method_3_code
def yX0_foresee : MethodName := ⟨RX0, "foresee", "(LTepidPurse$World;I)V"⟩
abbrev cX0_choose : ByteArray := prog_2_method_4_code
def yX0_choose : MethodName := ⟨RX0, "choose", "(LTepidPurse$World;III)Z"⟩
abbrev cX0_lessen : ByteArray := prog_2_method_5_code
def yX0_lessen : MethodName := ⟨RX0, "lessen", "(LTepidPurse$World;II)V"⟩
abbrev cX1_init : ByteArray := prog_3_method_1_code
def yX1_init : MethodName := ⟨RX1, "<init>", "()V"⟩
abbrev cX1_find : ByteArray := prog_3_method_2_code
def yX1_find : MethodName := ⟨RX1, "find", "(LTepidPurse$World;II)V"⟩
abbrev cX1_step : ByteArray := prog_3_method_3_code
def yX1_step : MethodName := ⟨RX1, "step", "(LTepidPurse$World;IIIII)V"⟩
abbrev cX1_judge : ByteArray := prog_3_method_4_code
def yX1_judge : MethodName := ⟨RX1, "judge", "(III)V"⟩
abbrev cX2_init : ByteArray := prog_4_method_1_code
def yX2_init : MethodName := ⟨RX2, "<init>", "()V"⟩
abbrev cX2_find : ByteArray := prog_4_method_2_code
def yX2_find : MethodName := ⟨RX2, "find", "(LTepidPurse$World;LTepidPurse$Clearing;)V"⟩
abbrev cX2_arrange : ByteArray := prog_4_method_3_code
def yX2_arrange : MethodName := ⟨RX2, "arrange", "(LTepidPurse$Clearing;II)V"⟩
abbrev cX2_judge : ByteArray := prog_4_method_4_code
def yX2_judge : MethodName := ⟨RX2, "judge", "(LTepidPurse$World;)V"⟩
abbrev cX3_init : ByteArray := prog_5_method_1_code
def yX3_init : MethodName := ⟨RX3, "<init>", "()V"⟩
abbrev cX3_isThere : ByteArray := prog_5_method_2_code
def yX3_isThere : MethodName := ⟨RX3, "isThere", "()Z"⟩
abbrev cX3_renew : ByteArray := prog_5_method_3_code
def yX3_renew : MethodName := ⟨RX3, "renew", "(II)V"⟩
abbrev cX3_faultOfPair : ByteArray := prog_5_method_4_code
def yX3_faultOfPair : MethodName := ⟨RX3, "faultOfPair", "(IJ)I"⟩
abbrev cX3_faultOfCells : ByteArray := prog_5_method_5_code
def yX3_faultOfCells : MethodName := ⟨RX3, "faultOfCells", "(JI)I"⟩
abbrev cX3_put : ByteArray := prog_5_method_6_code
def yX3_put : MethodName := ⟨RX3, "put", "(II)V"⟩
abbrev cX4_init : ByteArray := prog_6_method_1_code
def yX4_init : MethodName := ⟨RX4, "<init>", "()V"⟩
abbrev cX4_append : ByteArray := prog_6_method_2_code
def yX4_append : MethodName := ⟨RX4, "append", "(II)Z"⟩
abbrev cX4_match : ByteArray := prog_6_method_3_code
def yX4_match : MethodName := ⟨RX4, "match", "(LTepidPurse$World;)V"⟩
abbrev cX4_isPair : ByteArray := prog_6_method_4_code
def yX4_isPair : MethodName := ⟨RX4, "isPair", "(II)Z"⟩
abbrev cX5_init : ByteArray := prog_7_method_1_code
def yX5_init : MethodName := ⟨RX5, "<init>", "()V"⟩
abbrev cX5_append : ByteArray := prog_7_method_2_code
def yX5_append : MethodName := ⟨RX5, "append", "(I)Z"⟩
abbrev cX5_tell : ByteArray := prog_7_method_3_code
def yX5_tell : MethodName := ⟨RX5, "tell", "(LTepidPurse$World;)I"⟩
abbrev cX5_blame : ByteArray := prog_7_method_4_code
def yX5_blame : MethodName := ⟨RX5, "blame", "(II)V"⟩
abbrev cX5_nextToken : ByteArray := prog_7_method_5_code
def yX5_nextToken : MethodName := ⟨RX5, "nextToken", "()V"⟩
abbrev cX5_isLetter : ByteArray := prog_7_method_6_code
def yX5_isLetter : MethodName := ⟨RX5, "isLetter", "(I)Z"⟩
abbrev cX5_isFigure : ByteArray := prog_7_method_7_code
def yX5_isFigure : MethodName := ⟨RX5, "isFigure", "(I)Z"⟩
abbrev cX5_skipBlanks : ByteArray := prog_7_method_8_code
def yX5_skipBlanks : MethodName := ⟨RX5, "skipBlanks", "()V"⟩
abbrev cX5_skipLetters : ByteArray := prog_7_method_9_code
def yX5_skipLetters : MethodName := ⟨RX5, "skipLetters", "()V"⟩
abbrev cX5_takeFigures : ByteArray := prog_7_method_10_code
def yX5_takeFigures : MethodName := ⟨RX5, "takeFigures", "()V"⟩
abbrev cX5_isName : ByteArray := prog_7_method_11_code
def yX5_isName : MethodName := ⟨RX5, "isName", "(Ljava/lang/String;)Z"⟩
abbrev cX5_kindNamed : ByteArray := prog_7_method_12_code
def yX5_kindNamed : MethodName := ⟨RX5, "kindNamed", "()I"⟩
abbrev cX5_readLine : ByteArray := prog_7_method_13_code
def yX5_readLine : MethodName := ⟨RX5, "readLine", "(LTepidPurse$World;)V"⟩
abbrev cX5_refuse : ByteArray := prog_7_method_14_code
def yX5_refuse : MethodName := ⟨RX5, "refuse", "(ZI)V"⟩
abbrev cX5_readNumber : ByteArray := prog_7_method_15_code
def yX5_readNumber : MethodName := ⟨RX5, "readNumber", "(II)I"⟩
abbrev cX5_readSemicolon : ByteArray := prog_7_method_16_code
def yX5_readSemicolon : MethodName := ⟨RX5, "readSemicolon", "()Z"⟩
abbrev cX5_readMan : ByteArray := prog_7_method_17_code
def yX5_readMan : MethodName := ⟨RX5, "readMan", "(LTepidPurse$World;)V"⟩
abbrev cX5_readStone : ByteArray := prog_7_method_18_code
def yX5_readStone : MethodName := ⟨RX5, "readStone", "(LTepidPurse$World;I)V"⟩
abbrev cX5_readOven : ByteArray := prog_7_method_19_code
def yX5_readOven : MethodName := ⟨RX5, "readOven", "(LTepidPurse$World;)V"⟩
abbrev cX5_readWind : ByteArray := prog_7_method_20_code
def yX5_readWind : MethodName := ⟨RX5, "readWind", "(LTepidPurse$World;)V"⟩
abbrev cX5_readPrice : ByteArray := prog_7_method_21_code
def yX5_readPrice : MethodName := ⟨RX5, "readPrice", "(LTepidPurse$World;)V"⟩
abbrev cX5_readDebt : ByteArray := prog_7_method_22_code
def yX5_readDebt : MethodName := ⟨RX5, "readDebt", "(LTepidPurse$World;)V"⟩
abbrev cX6_init : ByteArray := prog_8_method_1_code
def yX6_init : MethodName := ⟨RX6, "<init>", "()V"⟩
abbrev cX6_leastWalks : ByteArray := prog_8_method_2_code
def yX6_leastWalks : MethodName := ⟨RX6, "leastWalks", "(LTepidPurse$World;II)I"⟩
abbrev cX6_orPebble : ByteArray := prog_8_method_3_code
def yX6_orPebble : MethodName := ⟨RX6, "orPebble", "(I)I"⟩
abbrev cX6_clearRow : ByteArray := prog_8_method_4_code
def yX6_clearRow : MethodName := ⟨RX6, "clearRow", "()V"⟩
abbrev cX6_stay : ByteArray := prog_8_method_5_code
def yX6_stay : MethodName := ⟨RX6, "stay", "()V"⟩
abbrev cX6_walkOnce : ByteArray := prog_8_method_6_code
def yX6_walkOnce : MethodName := ⟨RX6, "walkOnce", "()V"⟩
abbrev cX6_walkedUntil : ByteArray := prog_8_method_7_code
def yX6_walkedUntil : MethodName := ⟨RX6, "walkedUntil", "(III)I"⟩
abbrev cX7_init : ByteArray := prog_9_method_1_code
def yX7_init : MethodName := ⟨RX7, "<init>", "()V"⟩
abbrev cX7_clear : ByteArray := prog_9_method_2_code
def yX7_clear : MethodName := ⟨RX7, "clear", "()V"⟩
abbrev cX7_copyFrom : ByteArray := prog_9_method_3_code
def yX7_copyFrom : MethodName := ⟨RX7, "copyFrom", "(LTepidPurse$World;)V"⟩
abbrev cX7_hasOne : ByteArray := prog_9_method_4_code
def yX7_hasOne : MethodName := ⟨RX7, "hasOne", "(I)Z"⟩
abbrev cX7_hasStone : ByteArray := prog_9_method_5_code
def yX7_hasStone : MethodName := ⟨RX7, "hasStone", "(I)Z"⟩
abbrev cX7_hasDebt : ByteArray := prog_9_method_6_code
def yX7_hasDebt : MethodName := ⟨RX7, "hasDebt", "(I)Z"⟩
abbrev cX7_addOne : ByteArray := prog_9_method_7_code
def yX7_addOne : MethodName := ⟨RX7, "addOne", "(II)V"⟩
abbrev cX7_addStone : ByteArray := prog_9_method_8_code
def yX7_addStone : MethodName := ⟨RX7, "addStone", "(III)V"⟩
abbrev cX7_addDebt : ByteArray := prog_9_method_9_code
def yX7_addDebt : MethodName := ⟨RX7, "addDebt", "(III)V"⟩
abbrev cX7_namesOnlyItsPeople : ByteArray := prog_9_method_10_code
def yX7_namesOnlyItsPeople : MethodName := ⟨RX7, "namesOnlyItsPeople", "()Z"⟩
abbrev cX7_stonesOf : ByteArray := prog_9_method_11_code
def yX7_stonesOf : MethodName := ⟨RX7, "stonesOf", "(I)I"⟩
abbrev cX7_warmthOf : ByteArray := prog_9_method_12_code
def yX7_warmthOf : MethodName := ⟨RX7, "warmthOf", "(I)I"⟩
abbrev cX7_allWarmth : ByteArray := prog_9_method_13_code
def yX7_allWarmth : MethodName := ⟨RX7, "allWarmth", "()I"⟩
abbrev cX7_allDebts : ByteArray := prog_9_method_14_code
def yX7_allDebts : MethodName := ⟨RX7, "allDebts", "()I"⟩
abbrev cX7_countWarm : ByteArray := prog_9_method_15_code
def yX7_countWarm : MethodName := ⟨RX7, "countWarm", "()I"⟩
abbrev cX7_rateOf : ByteArray := prog_9_method_16_code
def yX7_rateOf : MethodName := ⟨RX7, "rateOf", "(I)I"⟩
abbrev cX7_boughtFor : ByteArray := prog_9_method_17_code
def yX7_boughtFor : MethodName := ⟨RX7, "boughtFor", "(II)I"⟩
abbrev cX7_ovenDistance : ByteArray := prog_9_method_18_code
def yX7_ovenDistance : MethodName := ⟨RX7, "ovenDistance", "(I)I"⟩
abbrev cX7_minutesBetween : ByteArray := prog_9_method_19_code
def yX7_minutesBetween : MethodName := ⟨RX7, "minutesBetween", "(II)I"⟩
abbrev cX7_letPass : ByteArray := prog_9_method_20_code
def yX7_letPass : MethodName := ⟨RX7, "letPass", "(I)V"⟩
abbrev cX7_bake : ByteArray := prog_9_method_21_code
def yX7_bake : MethodName := ⟨RX7, "bake", "(I)V"⟩
abbrev cX7_refusalToPay : ByteArray := prog_9_method_22_code
def yX7_refusalToPay : MethodName := ⟨RX7, "refusalToPay", "(II)I"⟩
abbrev cX7_handOver : ByteArray := prog_9_method_23_code
def yX7_handOver : MethodName := ⟨RX7, "handOver", "(II)I"⟩
abbrev cX7_firstOwed : ByteArray := prog_9_method_24_code
def yX7_firstOwed : MethodName := ⟨RX7, "firstOwed", "([III)I"⟩
abbrev cX7_lessened : ByteArray := prog_9_method_25_code
def yX7_lessened : MethodName := ⟨RX7, "lessened", "(II)I"⟩
abbrev cX8_init : ByteArray := prog_1_method_1_code
def yX8_init : MethodName := ⟨RX8, "<init>", "()V"⟩
abbrev cX8_feed : ByteArray := prog_1_method_2_code
def yX8_feed : MethodName := ⟨RX8, "feed", "(I)I"⟩
abbrev cX8_end : ByteArray := prog_1_method_3_code
def yX8_end : MethodName := ⟨RX8, "end", "(I)I"⟩
abbrev cX8_text : ByteArray := prog_1_method_4_code
def yX8_text : MethodName := ⟨RX8, "text", "()I"⟩
abbrev cX8_fault : ByteArray := prog_1_method_5_code
def yX8_fault : MethodName := ⟨RX8, "fault", "()I"⟩
abbrev cX8_rule : ByteArray := prog_1_method_6_code
def yX8_rule : MethodName := ⟨RX8, "rule", "(I)I"⟩
abbrev cX8_one : ByteArray := prog_1_method_7_code
def yX8_one : MethodName := ⟨RX8, "one", "(II)I"⟩
abbrev cX8_stone : ByteArray := prog_1_method_8_code
def yX8_stone : MethodName := ⟨RX8, "stone", "(II)I"⟩
abbrev cX8_debt : ByteArray := prog_1_method_9_code
def yX8_debt : MethodName := ⟨RX8, "debt", "(II)I"⟩
abbrev cX8_price : ByteArray := prog_1_method_10_code
def yX8_price : MethodName := ⟨RX8, "price", "(I)I"⟩
abbrev cX8_dress : ByteArray := prog_1_method_11_code
def yX8_dress : MethodName := ⟨RX8, "dress", "(III)I"⟩
abbrev cX8_warm : ByteArray := prog_1_method_12_code
def yX8_warm : MethodName := ⟨RX8, "warm", "(III)I"⟩
abbrev cX8_set : ByteArray := prog_1_method_13_code
def yX8_set : MethodName := ⟨RX8, "set", "(II)I"⟩
abbrev cX8_ask : ByteArray := prog_1_method_14_code
def yX8_ask : MethodName := ⟨RX8, "ask", "(II)I"⟩
abbrev cX8_owe : ByteArray := prog_1_method_15_code
def yX8_owe : MethodName := ⟨RX8, "owe", "(II)I"⟩
abbrev cX8_halve : ByteArray := prog_1_method_16_code
def yX8_halve : MethodName := ⟨RX8, "halve", "(I)I"⟩
abbrev cX8_go : ByteArray := prog_1_method_17_code
def yX8_go : MethodName := ⟨RX8, "go", "(I)I"⟩
abbrev cX8_pay : ByteArray := prog_1_method_18_code
def yX8_pay : MethodName := ⟨RX8, "pay", "(II)I"⟩
abbrev cX8_heat : ByteArray := prog_1_method_19_code
def yX8_heat : MethodName := ⟨RX8, "heat", "(I)I"⟩
abbrev cX8_after : ByteArray := prog_1_method_20_code
def yX8_after : MethodName := ⟨RX8, "after", "(II)I"⟩
abbrev cX8_cold : ByteArray := prog_1_method_21_code
def yX8_cold : MethodName := ⟨RX8, "cold", "(I)I"⟩
abbrev cX8_way : ByteArray := prog_1_method_22_code
def yX8_way : MethodName := ⟨RX8, "way", "(III)I"⟩
abbrev cX8_fewest : ByteArray := prog_1_method_23_code
def yX8_fewest : MethodName := ⟨RX8, "fewest", "(II)I"⟩
abbrev cX8_settle : ByteArray := prog_1_method_24_code
def yX8_settle : MethodName := ⟨RX8, "settle", "(I)I"⟩
abbrev cX8_wool : ByteArray := prog_1_method_25_code
def yX8_wool : MethodName := ⟨RX8, "wool", "(II)I"⟩
abbrev cX8_walks : ByteArray := prog_1_method_26_code
def yX8_walks : MethodName := ⟨RX8, "walks", "(II)I"⟩
abbrev cX8_buys : ByteArray := prog_1_method_27_code
def yX8_buys : MethodName := ⟨RX8, "buys", "(II)I"⟩
abbrev cX8_lasts : ByteArray := prog_1_method_28_code
def yX8_lasts : MethodName := ⟨RX8, "lasts", "(III)J"⟩
abbrev cX8_mean : ByteArray := prog_1_method_29_code
def yX8_mean : MethodName := ⟨RX8, "mean", "(III)J"⟩
abbrev cX8_spend : ByteArray := prog_1_method_30_code
def yX8_spend : MethodName := ⟨RX8, "spend", "(II)J"⟩
abbrev cX8_see : ByteArray := prog_1_method_31_code
def yX8_see : MethodName := ⟨RX8, "see", "(II)I"⟩
abbrev cX8_forget : ByteArray := prog_1_method_32_code
def yX8_forget : MethodName := ⟨RX8, "forget", "(I)I"⟩
abbrev cX8_fits : ByteArray := prog_1_method_33_code
def yX8_fits : MethodName := ⟨RX8, "fits", "(I)I"⟩
abbrev cX8_drift : ByteArray := prog_1_method_34_code
def yX8_drift : MethodName := ⟨RX8, "drift", "(III)I"⟩
abbrev cX8_keep : ByteArray := prog_1_method_35_code
def yX8_keep : MethodName := ⟨RX8, "keep", "(I)I"⟩
abbrev cX8_back : ByteArray := prog_1_method_36_code
def yX8_back : MethodName := ⟨RX8, "back", "(I)I"⟩
abbrev cX8_sheet : ByteArray := prog_1_method_37_code
def yX8_sheet : MethodName := ⟨RX8, "sheet", "(III)I"⟩
abbrev cX8_lay : ByteArray := prog_1_method_38_code
def yX8_lay : MethodName := ⟨RX8, "lay", "(III)I"⟩
abbrev cX8_read : ByteArray := prog_1_method_39_code
def yX8_read : MethodName := ⟨RX8, "read", "(IIII)I"⟩
abbrev cX8_torn : ByteArray := prog_1_method_40_code
def yX8_torn : MethodName := ⟨RX8, "torn", "()I"⟩
abbrev cX8_count : ByteArray := prog_1_method_41_code
def yX8_count : MethodName := ⟨RX8, "count", "(I)I"⟩
abbrev cX8_isIn : ByteArray := prog_1_method_42_code
def yX8_isIn : MethodName := ⟨RX8, "isIn", "(III)Z"⟩
abbrev cX8_isSheet : ByteArray := prog_1_method_43_code
def yX8_isSheet : MethodName := ⟨RX8, "isSheet", "(I)Z"⟩
abbrev cX8_isLane : ByteArray := prog_1_method_44_code
def yX8_isLane : MethodName := ⟨RX8, "isLane", "(I)Z"⟩
abbrev cX8_exchange : ByteArray := prog_1_method_45_code
def yX8_exchange : MethodName := ⟨RX8, "exchange", "([III)I"⟩
abbrev cX8_nextSeed : ByteArray := prog_1_method_46_code
def yX8_nextSeed : MethodName := ⟨RX8, "nextSeed", "(I)I"⟩
abbrev cX8_seedBits : ByteArray := prog_1_method_47_code
def yX8_seedBits : MethodName := ⟨RX8, "seedBits", "(I)I"⟩
abbrev cX8_isWarm : ByteArray := prog_1_method_48_code
def yX8_isWarm : MethodName := ⟨RX8, "isWarm", "(I)Z"⟩
abbrev cX8_rate : ByteArray := prog_1_method_49_code
def yX8_rate : MethodName := ⟨RX8, "rate", "(II)I"⟩
abbrev cX8_cooled : ByteArray := prog_1_method_50_code
def yX8_cooled : MethodName := ⟨RX8, "cooled", "(II)I"⟩
abbrev cX8_cooledFor : ByteArray := prog_1_method_51_code
def yX8_cooledFor : MethodName := ⟨RX8, "cooledFor", "(III)I"⟩
abbrev cX8_weightOfWarm : ByteArray := prog_1_method_52_code
def yX8_weightOfWarm : MethodName := ⟨RX8, "weightOfWarm", "(IIII)J"⟩
abbrev cX8_weightOfWarmth : ByteArray := prog_1_method_53_code
def yX8_weightOfWarmth : MethodName := ⟨RX8, "weightOfWarmth", "(IIII)J"⟩
abbrev cX8_weightBought : ByteArray := prog_1_method_54_code
def yX8_weightBought : MethodName := ⟨RX8, "weightBought", "(LTepidPurse$World;III)J"⟩
abbrev cX8_weightBoughtLater : ByteArray := prog_1_method_55_code
def yX8_weightBoughtLater : MethodName := ⟨RX8, "weightBoughtLater", "(LTepidPurse$World;III)J"⟩
abbrev cX8_fractionPart : ByteArray := prog_1_method_56_code
def yX8_fractionPart : MethodName := ⟨RX8, "fractionPart", "(JII)J"⟩
abbrev cX8_commonDivisor : ByteArray := prog_1_method_57_code
def yX8_commonDivisor : MethodName := ⟨RX8, "commonDivisor", "(JJ)J"⟩
abbrev cX9_init : ByteArray := prog_11_method_1_code
def yX9_init : MethodName := ⟨RX9, "<init>", "()V"⟩
abbrev cX9_in : ByteArray := prog_11_method_3_code
def yX9_in : MethodName := ⟨RX9, "in", "(JJJ)Z"⟩
abbrev cX9_feed : ByteArray := prog_11_method_4_code
def yX9_feed : MethodName := ⟨RX9, "feed", "(I)I"⟩
abbrev cX9_end : ByteArray := prog_11_method_5_code
def yX9_end : MethodName := ⟨RX9, "end", "(I)I"⟩
abbrev cX9_byteAt : ByteArray := prog_11_method_6_code
def yX9_byteAt : MethodName := ⟨RX9, "byteAt", "(I)I"⟩
abbrev cX9_fails : ByteArray := prog_11_method_7_code
def yX9_fails : MethodName := ⟨RX9, "fails", "(I)V"⟩
abbrev cX9_nameHere : ByteArray := prog_11_method_8_code
def yX9_nameHere : MethodName := ⟨RX9, "nameHere", "()I"⟩
abbrev cX9_step : ByteArray := prog_11_method_9_code
def yX9_step : MethodName := ⟨RX9, "step", "()V"⟩
abbrev cX9_number : ByteArray := prog_11_method_10_code
def yX9_number : MethodName := ⟨RX9, "number", "(II)I"⟩
abbrev cX9_oneHere : ByteArray := prog_11_method_11_code
def yX9_oneHere : MethodName := ⟨RX9, "oneHere", "()I"⟩
abbrev cX9_readDebt : ByteArray := prog_11_method_12_code
def yX9_readDebt : MethodName := ⟨RX9, "readDebt", "()V"⟩
abbrev cX9_readMore : ByteArray := prog_11_method_13_code
def yX9_readMore : MethodName := ⟨RX9, "readMore", "(I)V"⟩
abbrev cX9_readLine : ByteArray := prog_11_method_14_code
def yX9_readLine : MethodName := ⟨RX9, "readLine", "()V"⟩
abbrev cX9_text : ByteArray := prog_11_method_15_code
def yX9_text : MethodName := ⟨RX9, "text", "()I"⟩
abbrev cX9_fault : ByteArray := prog_11_method_16_code
def yX9_fault : MethodName := ⟨RX9, "fault", "()I"⟩
abbrev cX9_isOne : ByteArray := prog_11_method_17_code
def yX9_isOne : MethodName := ⟨RX9, "isOne", "(I)Z"⟩
abbrev cX9_isStone : ByteArray := prog_11_method_18_code
def yX9_isStone : MethodName := ⟨RX9, "isStone", "(I)Z"⟩
abbrev cX9_isDebt : ByteArray := prog_11_method_19_code
def yX9_isDebt : MethodName := ⟨RX9, "isDebt", "(I)Z"⟩
abbrev cX9_rule : ByteArray := prog_11_method_20_code
def yX9_rule : MethodName := ⟨RX9, "rule", "(I)I"⟩
abbrev cX9_rateOf : ByteArray := prog_11_method_21_code
def yX9_rateOf : MethodName := ⟨RX9, "rateOf", "(II)I"⟩
abbrev cX9_rateOn : ByteArray := prog_11_method_22_code
def yX9_rateOn : MethodName := ⟨RX9, "rateOn", "(II)I"⟩
abbrev cX9_cooled : ByteArray := prog_11_method_23_code
def yX9_cooled : MethodName := ⟨RX9, "cooled", "(II)I"⟩
abbrev cX9_one : ByteArray := prog_11_method_24_code
def yX9_one : MethodName := ⟨RX9, "one", "(II)I"⟩
abbrev cX9_stone : ByteArray := prog_11_method_25_code
def yX9_stone : MethodName := ⟨RX9, "stone", "(II)I"⟩
abbrev cX9_debt : ByteArray := prog_11_method_26_code
def yX9_debt : MethodName := ⟨RX9, "debt", "(II)I"⟩
abbrev cX9_price : ByteArray := prog_11_method_27_code
def yX9_price : MethodName := ⟨RX9, "price", "(I)I"⟩
abbrev cX9_puts : ByteArray := prog_11_method_28_code
def yX9_puts : MethodName := ⟨RX9, "puts", "(ZIII)I"⟩
abbrev cX9_dress : ByteArray := prog_11_method_29_code
def yX9_dress : MethodName := ⟨RX9, "dress", "(III)I"⟩
abbrev cX9_warm : ByteArray := prog_11_method_30_code
def yX9_warm : MethodName := ⟨RX9, "warm", "(III)I"⟩
abbrev cX9_set : ByteArray := prog_11_method_31_code
def yX9_set : MethodName := ⟨RX9, "set", "(II)I"⟩
abbrev cX9_ask : ByteArray := prog_11_method_32_code
def yX9_ask : MethodName := ⟨RX9, "ask", "(II)I"⟩
abbrev cX9_owe : ByteArray := prog_11_method_33_code
def yX9_owe : MethodName := ⟨RX9, "owe", "(II)I"⟩
abbrev cX9_halve : ByteArray := prog_11_method_34_code
def yX9_halve : MethodName := ⟨RX9, "halve", "(I)I"⟩
abbrev cX9_minuteOn : ByteArray := prog_11_method_35_code
def yX9_minuteOn : MethodName := ⟨RX9, "minuteOn", "(II)V"⟩
abbrev cX9_goesOn : ByteArray := prog_11_method_36_code
def yX9_goesOn : MethodName := ⟨RX9, "goesOn", "(II)V"⟩
abbrev cX9_apart : ByteArray := prog_11_method_37_code
def yX9_apart : MethodName := ⟨RX9, "apart", "(II)I"⟩
abbrev cX9_wayOn : ByteArray := prog_11_method_38_code
def yX9_wayOn : MethodName := ⟨RX9, "wayOn", "(III)I"⟩
abbrev cX9_paysOn : ByteArray := prog_11_method_39_code
def yX9_paysOn : MethodName := ⟨RX9, "paysOn", "(III)I"⟩
abbrev cX9_go : ByteArray := prog_11_method_40_code
def yX9_go : MethodName := ⟨RX9, "go", "(I)I"⟩
abbrev cX9_warmOnes : ByteArray := prog_11_method_41_code
def yX9_warmOnes : MethodName := ⟨RX9, "warmOnes", "()I"⟩
abbrev cX9_paid : ByteArray := prog_11_method_42_code
def yX9_paid : MethodName := ⟨RX9, "paid", "(II)I"⟩
abbrev cX9_pay : ByteArray := prog_11_method_43_code
def yX9_pay : MethodName := ⟨RX9, "pay", "(II)I"⟩
abbrev cX9_heatNow : ByteArray := prog_11_method_44_code
def yX9_heatNow : MethodName := ⟨RX9, "heatNow", "()I"⟩
abbrev cX9_ovenWay : ByteArray := prog_11_method_45_code
def yX9_ovenWay : MethodName := ⟨RX9, "ovenWay", "(I)I"⟩
abbrev cX9_heat : ByteArray := prog_11_method_46_code
def yX9_heat : MethodName := ⟨RX9, "heat", "(I)I"⟩
abbrev cX9_afterOf : ByteArray := prog_11_method_47_code
def yX9_afterOf : MethodName := ⟨RX9, "afterOf", "(III)I"⟩
abbrev cX9_after : ByteArray := prog_11_method_48_code
def yX9_after : MethodName := ⟨RX9, "after", "(II)I"⟩
abbrev cX9_cold : ByteArray := prog_11_method_49_code
def yX9_cold : MethodName := ⟨RX9, "cold", "(I)I"⟩
abbrev cX9_laysHands : ByteArray := prog_11_method_50_code
def yX9_laysHands : MethodName := ⟨RX9, "laysHands", "(III)I"⟩
abbrev cX9_handed : ByteArray := prog_11_method_51_code
def yX9_handed : MethodName := ⟨RX9, "handed", "(II)I"⟩
abbrev cX9_way : ByteArray := prog_11_method_52_code
def yX9_way : MethodName := ⟨RX9, "way", "(III)I"⟩
abbrev cX9_copies : ByteArray := prog_11_method_53_code
def yX9_copies : MethodName := ⟨RX9, "copies", "(II)V"⟩
abbrev cX9_laysRow : ByteArray := prog_11_method_54_code
def yX9_laysRow : MethodName := ⟨RX9, "laysRow", "(IIII)Z"⟩
abbrev cX9_fewestFrom : ByteArray := prog_11_method_55_code
def yX9_fewestFrom : MethodName := ⟨RX9, "fewestFrom", "(II)I"⟩
abbrev cX9_fewest : ByteArray := prog_11_method_56_code
def yX9_fewest : MethodName := ⟨RX9, "fewest", "(II)I"⟩
abbrev cX9_laysOrder : ByteArray := prog_11_method_57_code
def yX9_laysOrder : MethodName := ⟨RX9, "laysOrder", "(I)Z"⟩
abbrev cX9_settled : ByteArray := prog_11_method_58_code
def yX9_settled : MethodName := ⟨RX9, "settled", "()I"⟩
abbrev cX9_settle : ByteArray := prog_11_method_59_code
def yX9_settle : MethodName := ⟨RX9, "settle", "(I)I"⟩
abbrev cX9_wool : ByteArray := prog_11_method_60_code
def yX9_wool : MethodName := ⟨RX9, "wool", "(II)I"⟩
abbrev cX9_reaches : ByteArray := prog_11_method_61_code
def yX9_reaches : MethodName := ⟨RX9, "reaches", "(III)V"⟩
abbrev cX9_walked : ByteArray := prog_11_method_62_code
def yX9_walked : MethodName := ⟨RX9, "walked", "(IIII)I"⟩
abbrev cX9_walks : ByteArray := prog_11_method_63_code
def yX9_walks : MethodName := ⟨RX9, "walks", "(II)I"⟩
abbrev cX9_bought : ByteArray := prog_11_method_64_code
def yX9_bought : MethodName := ⟨RX9, "bought", "(II)I"⟩
abbrev cX9_buys : ByteArray := prog_11_method_65_code
def yX9_buys : MethodName := ⟨RX9, "buys", "(II)I"⟩
abbrev cX9_lowest : ByteArray := prog_11_method_66_code
def yX9_lowest : MethodName := ⟨RX9, "lowest", "(JJI)J"⟩
abbrev cX9_windy : ByteArray := prog_11_method_67_code
def yX9_windy : MethodName := ⟨RX9, "windy", "(II)I"⟩
abbrev cX9_byWind : ByteArray := prog_11_method_68_code
def yX9_byWind : MethodName := ⟨RX9, "byWind", "(IIZI)J"⟩
abbrev cX9_lasts : ByteArray := prog_11_method_69_code
def yX9_lasts : MethodName := ⟨RX9, "lasts", "(III)J"⟩
abbrev cX9_mean : ByteArray := prog_11_method_70_code
def yX9_mean : MethodName := ⟨RX9, "mean", "(III)J"⟩
abbrev cX9_spent : ByteArray := prog_11_method_71_code
def yX9_spent : MethodName := ⟨RX9, "spent", "(I)J"⟩
abbrev cX9_spend : ByteArray := prog_11_method_72_code
def yX9_spend : MethodName := ⟨RX9, "spend", "(II)J"⟩
abbrev cX9_see : ByteArray := prog_11_method_73_code
def yX9_see : MethodName := ⟨RX9, "see", "(II)I"⟩
abbrev cX9_forget : ByteArray := prog_11_method_74_code
def yX9_forget : MethodName := ⟨RX9, "forget", "(I)I"⟩
abbrev cX9_isAsSeen : ByteArray := prog_11_method_75_code
def yX9_isAsSeen : MethodName := ⟨RX9, "isAsSeen", "(II)Z"⟩
abbrev cX9_fits : ByteArray := prog_11_method_76_code
def yX9_fits : MethodName := ⟨RX9, "fits", "(I)I"⟩
abbrev cX9_draws : ByteArray := prog_11_method_77_code
def yX9_draws : MethodName := ⟨RX9, "draws", "(I)I"⟩
abbrev cX9_drift : ByteArray := prog_11_method_78_code
def yX9_drift : MethodName := ⟨RX9, "drift", "(III)I"⟩
abbrev cX9_keep : ByteArray := prog_11_method_79_code
def yX9_keep : MethodName := ⟨RX9, "keep", "(I)I"⟩
abbrev cX9_back : ByteArray := prog_11_method_80_code
def yX9_back : MethodName := ⟨RX9, "back", "(I)I"⟩
abbrev cX9_sheet : ByteArray := prog_11_method_81_code
def yX9_sheet : MethodName := ⟨RX9, "sheet", "(III)I"⟩
abbrev cX9_lay : ByteArray := prog_11_method_82_code
def yX9_lay : MethodName := ⟨RX9, "lay", "(III)I"⟩
abbrev cX9_read : ByteArray := prog_11_method_83_code
def yX9_read : MethodName := ⟨RX9, "read", "(IIII)I"⟩
abbrev cX9_torn : ByteArray := prog_11_method_84_code
def yX9_torn : MethodName := ⟨RX9, "torn", "()I"⟩
abbrev cX9_count : ByteArray := prog_11_method_85_code
def yX9_count : MethodName := ⟨RX9, "count", "(I)I"⟩
abbrev cJ6_bitCount_0f7a4 : ByteArray := prog_12_method_49_code
def yJ6_bitCount_0f7a4 : MethodName := ⟨RJ6, "bitCount", "(I)I"⟩
abbrev cJ9_abs_0f7a4 : ByteArray := prog_13_method_59_code
def yJ9_abs_0f7a4 : MethodName := ⟨RJ9, "abs", "(I)I"⟩
abbrev cJ9_max_7cf53 : ByteArray := prog_13_method_65_code
def yJ9_max_7cf53 : MethodName := ⟨RJ9, "max", "(II)I"⟩
abbrev cJ9_max_f86c9 : ByteArray := prog_13_method_66_code
def yJ9_max_f86c9 : MethodName := ⟨RJ9, "max", "(JJ)J"⟩
abbrev cJ9_min_7cf53 : ByteArray := prog_13_method_69_code
def yJ9_min_7cf53 : MethodName := ⟨RJ9, "min", "(II)I"⟩
abbrev cJ0_length_8abf5 : ByteArray := prog_14_method_54_code
def yJ0_length_8abf5 : MethodName := ⟨RJ0, "length", "()I"⟩
abbrev cJ0_charAt_5068e : ByteArray := prog_14_method_56_code
def yJ0_charAt_5068e : MethodName := ⟨RJ0, "charAt", "(I)C"⟩
abbrev cJ0_coder_7d493 : ByteArray := prog_14_method_152_code
def yJ0_coder_7d493 : MethodName := ⟨RJ0, "coder", "()B"⟩
abbrev cJ0_isLatin1_aae02 : ByteArray := prog_14_method_154_code
def yJ0_isLatin1_aae02 : MethodName := ⟨RJ0, "isLatin1", "()Z"⟩
abbrev cJ0_checkIndex_df160 : ByteArray := prog_14_method_155_code
def yJ0_checkIndex_df160 : MethodName := ⟨RJ0, "checkIndex", "(II)V"⟩
abbrev cJ1_charAt_3b067 : ByteArray := prog_15_method_2_code
def yJ1_charAt_3b067 : MethodName := ⟨RJ1, "charAt", "([BI)C"⟩
abbrev cJ3_checkIndex_8e157 : ByteArray := prog_18_method_11_code
def yJ3_checkIndex_8e157 : MethodName := ⟨RJ3, "checkIndex", "(IILjava/util/function/BiFunction;)I"⟩
abbrev cL_law : ByteArray := code
def yL_law : MethodName := ⟨RL, "law", "([I)Z"⟩
abbrev vwCl : List vw_C := [(RX0, TX0, 5), (RX1, TX1, 7), (RX2, TX2, 4), (RX3, TX3, 3), (RX4, TX4, 7), (RX5, TX5, 11), (RX6, TX6, 6), (RX7, TX7, 16), (RX8, TX8, 13), (RX9, TX9, 40)]
end
section
def kX0_init : List (Nat × Instr × Nat × Nat) := [(0, .aload 0, 1, 0), (1, .invokespecial 9990000, 4, 311), (4, .aload 0, 5, 0), (5, .iconst 0, 6, 0), (6, .putfield 0, 9, 314), (9, .aload 0, 10, 0), (10, .iconst 5, 11, 0), (11, .newarray .int, 13, 0), (13, .putfield 1, 16, 317), (16, .aload 0, 17, 0), (17, .iconst 5, 18, 0), (18, .iconst 5, 19, 0), (19, .multianewarray 0 2, 23, 312), (23, .putfield 2, 26, 320), (26, .aload 0, 27, 0), (27, .iconst 6, 29, 0), (29, .iconst 4, 30, 0), (30, .multianewarray 0 2, 34, 312), (34, .putfield 3, 37, 321), (37, .aload 0, 38, 0), (38, .iconst 0, 39, 0), (39, .putfield 4, 42, 322), (42, .return_, 43, 0)]
def kX0_find : List (Nat × Instr × Nat × Nat) := [(0, .aload 0, 1, 0), (1, .iload 2, 2, 0), (2, .putfield 4, 5, 322), (5, .aload 1, 6, 0), (6, .getfield 714, 9, 154), (9, .iconst 0, 10, 0), (10, .aload 0, 11, 0), (11, .getfield 3, 14, 321), (14, .iconst 0, 15, 0), (15, .aaload, 16, 0), (16, .iconst 0, 17, 0), (17, .iconst 4, 18, 0), (18, .invokestatic 9980000, 21, 808), (21, .aload 1, 22, 0), (22, .aload 1, 23, 0), (23, .getfield 712, 26, 147), (26, .iload 2, 27, 0), (27, .iaload, 28, 0), (28, .invokevirtual 620207, 31, 809), (31, .istore 3, 32, 0), (32, .aload 0, 33, 0), (33, .aload 1, 34, 0), (34, .iload 3, 35, 0), (35, .invokevirtual 20300, 38, 810), (38, .iconst 0, 39, 0), (39, .istore 4, 41, 0), (41, .iload 4, 43, 0), (43, .iload 3, 44, 0), (44, .invokestatic 2180100, 47, 817), (47, .if_icmp .gt 76, 50, 0), (50, .aload 0, 51, 0), (51, .aload 1, 52, 0), (52, .iconst 0, 53, 0), (53, .iload 4, 55, 0), (55, .iload 3, 56, 0), (56, .invokevirtual 30500, 59, 823), (59, .ifCond .eq 70, 62, 0), (62, .aload 0, 63, 0), (63, .iload 4, 65, 0), (65, .putfield 0, 68, 314), (68, .iconst 1, 69, 0), (69, .ireturn, 70, 0), (70, .iinc 4 1, 73, 0), (73, .goto 41, 76, 0), (76, .iconst 0, 77, 0), (77, .ireturn, 78, 0)]
def kX0_foresee : List (Nat × Instr × Nat × Nat) := [(0, .aload 1, 1, 0), (1, .aload 1, 2, 0), (2, .getfield 712, 5, 147), (5, .aload 0, 6, 0), (6, .getfield 4, 9, 322), (9, .iaload, 10, 0), (10, .aload 1, 11, 0), (11, .getfield 713, 14, 150), (14, .aload 0, 15, 0), (15, .getfield 4, 18, 322), (18, .iaload, 19, 0), (19, .invokevirtual 700307, 22, 814), (22, .istore 3, 23, 0), (23, .iconst 0, 24, 0), (24, .istore 4, 26, 0), (26, .iload 4, 28, 0), (28, .aload 1, 29, 0), (29, .getfield 703, 32, 113), (32, .if_icmp .ge 100, 35, 0), (35, .iload 2, 36, 0), (36, .iload 4, 38, 0), (38, .ishr, 39, 0), (39, .iconst 1, 40, 0), (40, .iand, 41, 0), (41, .ifCond .eq 94, 44, 0), (44, .aload 1, 45, 0), (45, .getfield 705, 48, 124), (48, .iload 4, 50, 0), (50, .iaload, 51, 0), (51, .istore 5, 53, 0), (53, .iconst 0, 54, 0), (54, .istore 6, 56, 0), (56, .iload 6, 58, 0), (58, .iconst 5, 59, 0), (59, .if_icmp .ge 94, 62, 0), (62, .iload 5, 64, 0), (64, .aload 1, 65, 0), (65, .iload 4, 67, 0), (67, .invokevirtual 670207, 70, 815), (70, .iload 3, 71, 0), (71, .invokestatic 1270300, 74, 816), (74, .istore 5, 76, 0), (76, .aload 0, 77, 0), (77, .getfield 2, 80, 320), (80, .iload 4, 82, 0), (82, .aaload, 83, 0), (83, .iload 6, 85, 0), (85, .iload 5, 87, 0), (87, .iastore, 88, 0), (88, .iinc 6 1, 91, 0), (91, .goto 56, 94, 0), (94, .iinc 4 1, 97, 0), (97, .goto 26, 100, 0), (100, .return_, 101, 0)]
def kX0_choose_q0 : List (Nat × Instr × Nat × Nat) := [(0, .iload 2, 1, 0), (1, .iload 3, 2, 0), (2, .if_icmp .ge 10, 5, 0), (5, .iload 2, 6, 0), (6, .iconst 5, 7, 0), (7, .if_icmp .lt 30, 10, 0), (10, .aload 0, 11, 0), (11, .getfield 3, 14, 321), (14, .iload 2, 15, 0), (15, .aaload, 16, 0), (16, .aload 0, 17, 0), (17, .getfield 4, 20, 322), (20, .iaload, 21, 0), (21, .ifCond .ne 28, 24, 0), (24, .iconst 1, 25, 0), (25, .goto 29, 28, 0), (28, .iconst 0, 29, 0), (29, .ireturn, 30, 0), (30, .iconst 0, 31, 0), (31, .istore 5, 33, 0), (33, .iload 5, 35, 0), (35, .aload 1, 36, 0), (36, .getfield 703, 39, 113), (39, .if_icmp .ge 104, 42, 0), (42, .iload 4, 44, 0), (44, .iload 5, 46, 0), (46, .ishr, 47, 0), (47, .iconst 1, 48, 0), (48, .iand, 49, 0), (49, .ifCond .eq 98, 52, 0), (52, .aload 0, 53, 0), (53, .getfield 1, 56, 317), (56, .iload 2, 57, 0), (57, .iload 5, 59, 0), (59, .iastore, 60, 0), (60, .aload 0, 61, 0), (61, .aload 1, 62, 0), (62, .iload 2, 63, 0), (63, .aload 0, 64, 0), (64, .getfield 2, 67, 320), (67, .iload 5, 69, 0), (69, .aaload, 70, 0), (70, .iload 2, 71, 0), (71, .iaload, 72, 0), (72, .invokevirtual 40400, 75, 827), (75, .aload 0, 76, 0), (76, .aload 1, 77, 0), (77, .iload 2, 78, 0), (78, .iconst 1, 79, 0), (79, .iadd, 80, 0), (80, .iload 3, 81, 0), (81, .iload 4, 83, 0), (83, .iconst 1, 84, 0), (84, .iload 5, 86, 0), (86, .ishl, 87, 0), (87, .iconst (-1), 88, 0), (88, .ixor, 89, 0), (89, .iand, 90, 0), (90, .invokevirtual 30500, 93, 823), (93, .ifCond .eq 98, 96, 0)]
def kX0_choose_q1 : List (Nat × Instr × Nat × Nat) := [(96, .iconst 1, 97, 0), (97, .ireturn, 98, 0), (98, .iinc 5 1, 101, 0), (101, .goto 33, 104, 0), (104, .iconst 0, 105, 0), (105, .ireturn, 106, 0)]
def kX0_choose : List (Nat × Instr × Nat × Nat) := (kX0_choose_q0 ++ kX0_choose_q1)
def kX0_lessen : List (Nat × Instr × Nat × Nat) := [(0, .aload 0, 1, 0), (1, .getfield 3, 4, 321), (4, .iload 2, 5, 0), (5, .iconst 1, 6, 0), (6, .iadd, 7, 0), (7, .aaload, 8, 0), (8, .astore 4, 10, 0), (10, .aload 0, 11, 0), (11, .getfield 3, 14, 321), (14, .iload 2, 15, 0), (15, .aaload, 16, 0), (16, .iconst 0, 17, 0), (17, .aload 4, 19, 0), (19, .iconst 0, 20, 0), (20, .iconst 4, 21, 0), (21, .invokestatic 9980000, 24, 808), (24, .aload 1, 25, 0), (25, .aload 4, 27, 0), (27, .aload 1, 28, 0), (28, .getfield 712, 31, 147), (31, .aload 0, 32, 0), (32, .getfield 4, 35, 322), (35, .iaload, 36, 0), (36, .aload 1, 37, 0), (37, .getfield 713, 40, 150), (40, .aload 0, 41, 0), (41, .getfield 4, 44, 322), (44, .iaload, 45, 0), (45, .invokevirtual 750407, 48, 831), (48, .istore 5, 50, 0), (50, .iload 5, 52, 0), (52, .ifCond .lt 69, 55, 0), (55, .aload 4, 57, 0), (57, .iload 5, 59, 0), (59, .aload 4, 61, 0), (61, .iload 5, 63, 0), (63, .iaload, 64, 0), (64, .iload 3, 65, 0), (65, .invokestatic 760200, 68, 832), (68, .iastore, 69, 0), (69, .return_, 70, 0)]
def kX1_init : List (Nat × Instr × Nat × Nat) := [(0, .aload 0, 1, 0), (1, .invokespecial 9990000, 4, 279), (4, .aload 0, 5, 0), (5, .iconst 4, 6, 0), (6, .newarray .int, 8, 0), (8, .putfield 100, 11, 280), (11, .aload 0, 12, 0), (12, .iconst 4, 13, 0), (13, .newarray .int, 15, 0), (15, .putfield 101, 18, 281), (18, .aload 0, 19, 0), (19, .iconst 0, 20, 0), (20, .putfield 102, 23, 283), (23, .aload 0, 24, 0), (24, .iconst 0, 25, 0), (25, .putfield 103, 28, 285), (28, .aload 0, 29, 0), (29, .iconst 0, 30, 0), (30, .putfield 104, 33, 287), (33, .aload 0, 34, 0), (34, .iconst 0, 35, 0), (35, .putfield 105, 38, 289), (38, .aload 0, 39, 0), (39, .iconst 0, 40, 0), (40, .putfield 106, 43, 290), (43, .return_, 44, 0)]
def kX1_find : List (Nat × Instr × Nat × Nat) := [(0, .aload 0, 1, 0), (1, .aload 1, 2, 0), (2, .getfield 704, 5, 117), (5, .iload 2, 6, 0), (6, .iaload, 7, 0), (7, .putfield 105, 10, 289), (10, .aload 0, 11, 0), (11, .iload 3, 12, 0), (12, .putfield 106, 15, 290), (15, .aload 0, 16, 0), (16, .iconst 0, 17, 0), (17, .putfield 102, 20, 283), (20, .aload 0, 21, 0), (21, .iconst (-1), 22, 0), (22, .putfield 103, 25, 285), (25, .aload 0, 26, 0), (26, .iconst 0, 27, 0), (27, .putfield 104, 30, 287), (30, .aload 0, 31, 0), (31, .aload 1, 32, 0), (32, .iconst 0, 33, 0), (33, .aload 1, 34, 0), (34, .getfield 706, 37, 127), (37, .iload 2, 38, 0), (38, .iaload, 39, 0), (39, .aload 1, 40, 0), (40, .getfield 705, 43, 121), (43, .iload 2, 44, 0), (44, .iaload, 45, 0), (45, .iconst 0, 46, 0), (46, .iconst 1, 47, 0), (47, .aload 1, 48, 0), (48, .getfield 706, 51, 127), (51, .iload 2, 52, 0), (52, .iaload, 53, 0), (53, .ishl, 54, 0), (54, .invokevirtual 70701, 57, 788), (57, .return_, 58, 0)]
def kX1_step_q0 : List (Nat × Instr × Nat × Nat) := [(0, .iload 3, 1, 0), (1, .aload 0, 2, 0), (2, .getfield 106, 5, 290), (5, .if_icmp .ne 18, 8, 0), (8, .aload 0, 9, 0), (9, .iload 2, 10, 0), (10, .iload 4, 12, 0), (12, .iload 5, 14, 0), (14, .invokevirtual 80401, 17, 792), (17, .return_, 18, 0), (18, .iload 2, 19, 0), (19, .iconst 4, 20, 0), (20, .if_icmp .lt 24, 23, 0), (23, .return_, 24, 0), (24, .iconst 0, 25, 0), (25, .istore 7, 27, 0), (27, .iload 7, 29, 0), (29, .aload 1, 30, 0), (30, .getfield 700, 33, 101), (33, .if_icmp .ge 115, 36, 0), (36, .iload 6, 38, 0), (38, .iload 7, 40, 0), (40, .ishr, 41, 0), (41, .iconst 1, 42, 0), (42, .iand, 43, 0), (43, .ifCond .ne 109, 46, 0), (46, .aload 1, 47, 0), (47, .iload 3, 48, 0), (48, .iload 7, 50, 0), (50, .invokevirtual 700307, 53, 797), (53, .istore 8, 55, 0), (55, .iload 4, 57, 0), (57, .aload 0, 58, 0), (58, .getfield 105, 61, 289), (61, .aload 1, 62, 0), (62, .getfield 701, 65, 107), (65, .iload 3, 66, 0), (66, .iaload, 67, 0), (67, .invokestatic 1250200, 70, 798), (70, .iload 8, 72, 0), (72, .invokestatic 1270300, 75, 799), (75, .istore 9, 77, 0), (77, .aload 0, 78, 0), (78, .getfield 100, 81, 280), (81, .iload 2, 82, 0), (82, .iload 7, 84, 0), (84, .iastore, 85, 0), (85, .aload 0, 86, 0), (86, .aload 1, 87, 0), (87, .iload 2, 88, 0), (88, .iconst 1, 89, 0), (89, .iadd, 90, 0), (90, .iload 7, 92, 0), (92, .iload 9, 94, 0), (94, .iload 5, 96, 0), (96, .iload 8, 98, 0), (98, .iadd, 99, 0), (99, .iload 6, 101, 0), (101, .iconst 1, 102, 0), (102, .iload 7, 104, 0)]
def kX1_step_q1 : List (Nat × Instr × Nat × Nat) := [(104, .ishl, 105, 0), (105, .ior, 106, 0), (106, .invokevirtual 70701, 109, 788), (109, .iinc 7 1, 112, 0), (112, .goto 27, 115, 0), (115, .return_, 116, 0)]
def kX1_step : List (Nat × Instr × Nat × Nat) := (kX1_step_q0 ++ kX1_step_q1)
def kX1_judge : List (Nat × Instr × Nat × Nat) := [(0, .iload 2, 1, 0), (1, .aload 0, 2, 0), (2, .getfield 103, 5, 285), (5, .if_icmp .gt 24, 8, 0), (8, .iload 2, 9, 0), (9, .aload 0, 10, 0), (10, .getfield 103, 13, 285), (13, .if_icmp .ne 53, 16, 0), (16, .iload 1, 17, 0), (17, .aload 0, 18, 0), (18, .getfield 102, 21, 283), (21, .if_icmp .ge 53, 24, 0), (24, .aload 0, 25, 0), (25, .iload 1, 26, 0), (26, .putfield 102, 29, 283), (29, .aload 0, 30, 0), (30, .iload 2, 31, 0), (31, .putfield 103, 34, 285), (34, .aload 0, 35, 0), (35, .iload 3, 36, 0), (36, .putfield 104, 39, 287), (39, .aload 0, 40, 0), (40, .getfield 100, 43, 280), (43, .iconst 0, 44, 0), (44, .aload 0, 45, 0), (45, .getfield 101, 48, 281), (48, .iconst 0, 49, 0), (49, .iconst 4, 50, 0), (50, .invokestatic 9980000, 53, 796), (53, .return_, 54, 0)]
def kX2_init : List (Nat × Instr × Nat × Nat) := [(0, .aload 0, 1, 0), (1, .invokespecial 9990000, 4, 339), (4, .aload 0, 5, 0), (5, .iconst 0, 6, 0), (6, .putfield 200, 9, 342), (9, .aload 0, 10, 0), (10, .iconst 4, 11, 0), (11, .newarray .int, 13, 0), (13, .putfield 201, 16, 344), (16, .aload 0, 17, 0), (17, .iconst 4, 18, 0), (18, .newarray .int, 20, 0), (20, .putfield 202, 23, 346), (23, .aload 0, 24, 0), (24, .iconst 5, 25, 0), (25, .anewarray 7, 28, 340), (28, .putfield 203, 31, 347), (31, .iconst 0, 32, 0), (32, .istore 1, 33, 0), (33, .iload 1, 34, 0), (34, .iconst 4, 35, 0), (35, .if_icmp .gt 57, 38, 0), (38, .aload 0, 39, 0), (39, .getfield 203, 42, 347), (42, .iload 1, 43, 0), (43, .new 7, 46, 340), (46, .dup, 47, 0), (47, .invokespecial 520107, 50, 341), (50, .aastore, 51, 0), (51, .iinc 1 1, 54, 0), (54, .goto 33, 57, 0), (57, .return_, 58, 0)]
def kX2_find : List (Nat × Instr × Nat × Nat) := [(0, .aload 0, 1, 0), (1, .getfield 203, 4, 347), (4, .iconst 0, 5, 0), (5, .aaload, 6, 0), (6, .aload 1, 7, 0), (7, .invokevirtual 540207, 10, 841), (10, .aload 0, 11, 0), (11, .iconst (-1), 12, 0), (12, .putfield 200, 15, 342), (15, .aload 0, 16, 0), (16, .aload 2, 17, 0), (17, .iconst 0, 18, 0), (18, .iconst 0, 19, 0), (19, .invokevirtual 110402, 22, 842), (22, .return_, 23, 0)]
def kX2_arrange_q0 : List (Nat × Instr × Nat × Nat) := [(0, .iload 2, 1, 0), (1, .aload 0, 2, 0), (2, .getfield 203, 5, 347), (5, .iconst 0, 6, 0), (6, .aaload, 7, 0), (7, .getfield 711, 10, 143), (10, .if_icmp .ge 18, 13, 0), (13, .iload 2, 14, 0), (14, .iconst 4, 15, 0), (15, .if_icmp .lt 29, 18, 0), (18, .aload 0, 19, 0), (19, .aload 0, 20, 0), (20, .getfield 203, 23, 347), (23, .iload 2, 24, 0), (24, .aaload, 25, 0), (25, .invokevirtual 120202, 28, 846), (28, .return_, 29, 0), (29, .iconst 0, 30, 0), (30, .istore 4, 32, 0), (32, .iload 4, 34, 0), (34, .aload 0, 35, 0), (35, .getfield 203, 38, 347), (38, .iconst 0, 39, 0), (39, .aaload, 40, 0), (40, .getfield 711, 43, 143), (43, .if_icmp .ge 154, 46, 0), (46, .iload 3, 47, 0), (47, .iload 4, 49, 0), (49, .ishr, 50, 0), (50, .iconst 1, 51, 0), (51, .iand, 52, 0), (52, .ifCond .ne 148, 55, 0), (55, .aload 0, 56, 0), (56, .getfield 202, 59, 346), (59, .iload 2, 60, 0), (60, .iload 4, 62, 0), (62, .iastore, 63, 0), (63, .aload 0, 64, 0), (64, .getfield 203, 67, 347), (67, .iload 2, 68, 0), (68, .iconst 1, 69, 0), (69, .iadd, 70, 0), (70, .aaload, 71, 0), (71, .astore 5, 73, 0), (73, .aload 5, 75, 0), (75, .aload 0, 76, 0), (76, .getfield 203, 79, 347), (79, .iload 2, 80, 0), (80, .aaload, 81, 0), (81, .invokevirtual 540207, 84, 841), (84, .aload 1, 85, 0), (85, .aload 5, 87, 0), (87, .iload 4, 89, 0), (89, .invokevirtual 10300, 92, 851), (92, .ifCond .eq 134, 95, 0), (95, .iconst 0, 96, 0), (96, .istore 6, 98, 0), (98, .iload 6, 100, 0), (100, .aload 1, 101, 0), (101, .getfield 0, 104, 315)]
def kX2_arrange_q1 : List (Nat × Instr × Nat × Nat) := [(104, .if_icmp .ge 134, 107, 0), (107, .aload 5, 109, 0), (109, .aload 1, 110, 0), (110, .getfield 1, 113, 318), (113, .iload 6, 115, 0), (115, .iaload, 116, 0), (116, .aload 5, 118, 0), (118, .getfield 713, 121, 151), (121, .iload 4, 123, 0), (123, .iaload, 124, 0), (124, .invokevirtual 740307, 127, 852), (127, .pop, 128, 0), (128, .iinc 6 1, 131, 0), (131, .goto 98, 134, 0), (134, .aload 0, 135, 0), (135, .aload 1, 136, 0), (136, .iload 2, 137, 0), (137, .iconst 1, 138, 0), (138, .iadd, 139, 0), (139, .iload 3, 140, 0), (140, .iconst 1, 141, 0), (141, .iload 4, 143, 0), (143, .ishl, 144, 0), (144, .ior, 145, 0), (145, .invokevirtual 110402, 148, 842), (148, .iinc 4 1, 151, 0), (151, .goto 32, 154, 0), (154, .return_, 155, 0)]
def kX2_arrange : List (Nat × Instr × Nat × Nat) := (kX2_arrange_q0 ++ kX2_arrange_q1)
def kX2_judge : List (Nat × Instr × Nat × Nat) := [(0, .iconst 0, 1, 0), (1, .istore 2, 2, 0), (2, .iconst 0, 3, 0), (3, .istore 3, 4, 0), (4, .iload 3, 5, 0), (5, .aload 1, 6, 0), (6, .getfield 711, 9, 143), (9, .if_icmp .ge 44, 12, 0), (12, .aload 0, 13, 0), (13, .getfield 203, 16, 347), (16, .iconst 0, 17, 0), (17, .aaload, 18, 0), (18, .getfield 714, 21, 155), (21, .iload 3, 22, 0), (22, .iaload, 23, 0), (23, .ifCond .eq 38, 26, 0), (26, .aload 1, 27, 0), (27, .getfield 714, 30, 155), (30, .iload 3, 31, 0), (31, .iaload, 32, 0), (32, .ifCond .ne 38, 35, 0), (35, .iinc 2 1, 38, 0), (38, .iinc 3 1, 41, 0), (41, .goto 4, 44, 0), (44, .iload 2, 45, 0), (45, .aload 0, 46, 0), (46, .getfield 200, 49, 342), (49, .if_icmp .le 71, 52, 0), (52, .aload 0, 53, 0), (53, .iload 2, 54, 0), (54, .putfield 200, 57, 342), (57, .aload 0, 58, 0), (58, .getfield 202, 61, 346), (61, .iconst 0, 62, 0), (62, .aload 0, 63, 0), (63, .getfield 201, 66, 344), (66, .iconst 0, 67, 0), (67, .iconst 4, 68, 0), (68, .invokestatic 9980000, 71, 850), (71, .return_, 72, 0)]
def kX3_init : List (Nat × Instr × Nat × Nat) := [(0, .aload 0, 1, 0), (1, .invokespecial 9990000, 4, 386), (4, .aload 0, 5, 0), (5, .iconst (-1), 6, 0), (6, .putfield 300, 9, 387), (9, .aload 0, 10, 0), (10, .iconst 0, 11, 0), (11, .putfield 301, 14, 388), (14, .aload 0, 15, 0), (15, .iconst 40, 17, 0), (17, .newarray .int, 19, 0), (19, .putfield 302, 22, 390), (22, .return_, 23, 0)]
def kX3_isThere : List (Nat × Instr × Nat × Nat) := [(0, .aload 0, 1, 0), (1, .getfield 300, 4, 387), (4, .iconst (-1), 5, 0), (5, .if_icmp .eq 12, 8, 0), (8, .iconst 1, 9, 0), (9, .goto 13, 12, 0), (12, .iconst 0, 13, 0), (13, .ireturn, 14, 0)]
def kX3_renew : List (Nat × Instr × Nat × Nat) := [(0, .aload 0, 1, 0), (1, .iload 1, 2, 0), (2, .putfield 300, 5, 387), (5, .aload 0, 6, 0), (6, .iload 2, 7, 0), (7, .putfield 301, 10, 388), (10, .iconst 0, 11, 0), (11, .istore 3, 12, 0), (12, .iload 3, 13, 0), (13, .iconst 40, 15, 0), (15, .if_icmp .ge 31, 18, 0), (18, .aload 0, 19, 0), (19, .getfield 302, 22, 390), (22, .iload 3, 23, 0), (23, .iconst 0, 24, 0), (24, .iastore, 25, 0), (25, .iinc 3 1, 28, 0), (28, .goto 12, 31, 0), (31, .return_, 32, 0)]
def kX3_faultOfPair : List (Nat × Instr × Nat × Nat) := [(0, .aload 0, 1, 0), (1, .invokevirtual 140103, 4, 1004), (4, .ifCond .eq 19, 7, 0), (7, .aload 0, 8, 0), (8, .getfield 300, 11, 387), (11, .iload 1, 12, 0), (12, .if_icmp .eq 19, 15, 0), (15, .iconst 3, 16, 0), (16, .goto 25, 19, 0), (19, .aload 0, 20, 0), (20, .lload 2, 21, 0), (21, .iconst 2, 22, 0), (22, .invokevirtual 170303, 25, 1021), (25, .ireturn, 26, 0)]
def kX3_faultOfCells : List (Nat × Instr × Nat × Nat) := [(0, .aload 0, 1, 0), (1, .invokevirtual 140103, 4, 1004), (4, .ifCond .ne 9, 7, 0), (7, .iconst 1, 8, 0), (8, .ireturn, 9, 0), (9, .lload 1, 10, 0), (10, .ldc2_w 0, 11, 0), (11, .lcmp, 12, 0), (12, .ifCond .lt 32, 15, 0), (15, .lload 1, 16, 0), (16, .iload 3, 17, 0), (17, .i2l, 18, 0), (18, .ladd, 19, 0), (19, .aload 0, 20, 0), (20, .getfield 301, 23, 388), (23, .i2l, 24, 0), (24, .lcmp, 25, 0), (25, .ifCond .gt 32, 28, 0), (28, .iconst 0, 29, 0), (29, .goto 33, 32, 0), (32, .iconst 2, 33, 0), (33, .ireturn, 34, 0)]
def kX3_put : List (Nat × Instr × Nat × Nat) := [(0, .aload 0, 1, 0), (1, .getfield 300, 4, 387), (4, .ifCond .ne 18, 7, 0), (7, .aload 0, 8, 0), (8, .getfield 302, 11, 390), (11, .iload 1, 12, 0), (12, .iload 2, 13, 0), (13, .i2b, 14, 0), (14, .iastore, 15, 0), (15, .goto 44, 18, 0), (18, .aload 0, 19, 0), (19, .getfield 300, 22, 387), (22, .iconst 1, 23, 0), (23, .if_icmp .ne 37, 26, 0), (26, .aload 0, 27, 0), (27, .getfield 302, 30, 390), (30, .iload 1, 31, 0), (31, .iload 2, 32, 0), (32, .i2s, 33, 0), (33, .iastore, 34, 0), (34, .goto 44, 37, 0), (37, .aload 0, 38, 0), (38, .getfield 302, 41, 390), (41, .iload 1, 42, 0), (42, .iload 2, 43, 0), (43, .iastore, 44, 0), (44, .return_, 45, 0)]
def kX4_init : List (Nat × Instr × Nat × Nat) := [(0, .aload 0, 1, 0), (1, .invokespecial 9990000, 4, 244), (4, .aload 0, 5, 0), (5, .iconst 0, 6, 0), (6, .putfield 400, 9, 245), (9, .aload 0, 10, 0), (10, .iconst 6, 12, 0), (12, .newarray .int, 14, 0), (14, .putfield 401, 17, 247), (17, .aload 0, 18, 0), (18, .iconst 6, 20, 0), (20, .newarray .int, 22, 0), (22, .putfield 402, 25, 248), (25, .aload 0, 26, 0), (26, .iconst 0, 27, 0), (27, .putfield 403, 30, 249), (30, .aload 0, 31, 0), (31, .iconst (-4), 33, 0), (33, .putfield 404, 36, 251), (36, .aload 0, 37, 0), (37, .iconst 0, 38, 0), (38, .putfield 405, 41, 253), (41, .aload 0, 42, 0), (42, .iconst 0, 43, 0), (43, .putfield 406, 46, 255), (46, .return_, 47, 0)]
def kX4_append : List (Nat × Instr × Nat × Nat) := [(0, .aload 0, 1, 0), (1, .getfield 400, 4, 245), (4, .iconst 6, 6, 0), (6, .if_icmp .lt 11, 9, 0), (9, .iconst 0, 10, 0), (10, .ireturn, 11, 0), (11, .aload 0, 12, 0), (12, .getfield 401, 15, 247), (15, .aload 0, 16, 0), (16, .getfield 400, 19, 245), (19, .iload 1, 20, 0), (20, .iastore, 21, 0), (21, .aload 0, 22, 0), (22, .getfield 402, 25, 248), (25, .aload 0, 26, 0), (26, .getfield 400, 29, 245), (29, .iload 2, 30, 0), (30, .iastore, 31, 0), (31, .aload 0, 32, 0), (32, .dup, 33, 0), (33, .getfield 400, 36, 245), (36, .iconst 1, 37, 0), (37, .iadd, 38, 0), (38, .putfield 400, 41, 245), (41, .iconst 1, 42, 0), (42, .ireturn, 43, 0)]
def kX4_match_q0 : List (Nat × Instr × Nat × Nat) := [(0, .aload 0, 1, 0), (1, .iconst 0, 2, 0), (2, .putfield 403, 5, 249), (5, .aload 0, 6, 0), (6, .iconst (-4), 8, 0), (8, .putfield 404, 11, 251), (11, .aload 0, 12, 0), (12, .iconst 0, 13, 0), (13, .putfield 405, 16, 253), (16, .aload 0, 17, 0), (17, .iconst 0, 18, 0), (18, .putfield 406, 21, 255), (21, .iconst 0, 22, 0), (22, .istore 2, 23, 0), (23, .iload 2, 24, 0), (24, .aload 1, 25, 0), (25, .getfield 703, 28, 112), (28, .if_icmp .ge 139, 31, 0), (31, .iconst 0, 32, 0), (32, .istore 3, 33, 0), (33, .iload 3, 34, 0), (34, .aload 1, 35, 0), (35, .getfield 700, 38, 102), (38, .if_icmp .ge 133, 41, 0), (41, .aload 0, 42, 0), (42, .aload 1, 43, 0), (43, .getfield 705, 46, 123), (46, .iload 2, 47, 0), (47, .iaload, 48, 0), (48, .aload 1, 49, 0), (49, .getfield 704, 52, 118), (52, .iload 2, 53, 0), (53, .iaload, 54, 0), (54, .aload 1, 55, 0), (55, .getfield 701, 58, 106), (58, .iload 3, 59, 0), (59, .iaload, 60, 0), (60, .invokestatic 1250200, 63, 957), (63, .invokevirtual 220304, 66, 958), (66, .ifCond .eq 127, 69, 0), (69, .aload 0, 70, 0), (70, .aload 0, 71, 0), (71, .getfield 403, 74, 249), (74, .ifCond .ne 86, 77, 0), (77, .iconst 10, 79, 0), (79, .iload 2, 80, 0), (80, .imul, 81, 0), (81, .iload 3, 82, 0), (82, .iadd, 83, 0), (83, .goto 90, 86, 0), (86, .aload 0, 87, 0), (87, .getfield 404, 90, 251), (90, .putfield 404, 93, 251), (93, .aload 0, 94, 0), (94, .dup, 95, 0), (95, .getfield 403, 98, 249), (98, .iconst 1, 99, 0), (99, .iadd, 100, 0), (100, .putfield 403, 103, 249), (103, .aload 0, 104, 0)]
def kX4_match_q1 : List (Nat × Instr × Nat × Nat) := [(104, .dup, 105, 0), (105, .getfield 405, 108, 253), (108, .iconst 1, 109, 0), (109, .iload 2, 110, 0), (110, .ishl, 111, 0), (111, .ior, 112, 0), (112, .putfield 405, 115, 253), (115, .aload 0, 116, 0), (116, .dup, 117, 0), (117, .getfield 406, 120, 255), (120, .iconst 1, 121, 0), (121, .iload 3, 122, 0), (122, .ishl, 123, 0), (123, .ior, 124, 0), (124, .putfield 406, 127, 255), (127, .iinc 3 1, 130, 0), (130, .goto 33, 133, 0), (133, .iinc 2 1, 136, 0), (136, .goto 23, 139, 0), (139, .return_, 140, 0)]
def kX4_match : List (Nat × Instr × Nat × Nat) := (kX4_match_q0 ++ kX4_match_q1)
def kX4_isPair : List (Nat × Instr × Nat × Nat) := [(0, .iconst 0, 1, 0), (1, .istore 3, 2, 0), (2, .iload 3, 3, 0), (3, .aload 0, 4, 0), (4, .getfield 400, 7, 245), (7, .if_icmp .ge 38, 10, 0), (10, .iload 1, 11, 0), (11, .iload 2, 12, 0), (12, .aload 0, 13, 0), (13, .getfield 401, 16, 247), (16, .iload 3, 17, 0), (17, .iaload, 18, 0), (18, .invokestatic 1270300, 21, 962), (21, .aload 0, 22, 0), (22, .getfield 402, 25, 248), (25, .iload 3, 26, 0), (26, .iaload, 27, 0), (27, .if_icmp .eq 32, 30, 0), (30, .iconst 0, 31, 0), (31, .ireturn, 32, 0), (32, .iinc 3 1, 35, 0), (35, .goto 2, 38, 0), (38, .iconst 1, 39, 0), (39, .ireturn, 40, 0)]
def kX5_init : List (Nat × Instr × Nat × Nat) := [(0, .aload 0, 1, 0), (1, .invokespecial 9990000, 4, 199), (4, .aload 0, 5, 0), (5, .iconst 160, 8, 0), (8, .newarray .byte, 10, 0), (10, .putfield 500, 13, 200), (13, .aload 0, 14, 0), (14, .iconst 0, 15, 0), (15, .putfield 501, 18, 201), (18, .aload 0, 19, 0), (19, .iconst 0, 20, 0), (20, .putfield 502, 23, 203), (23, .aload 0, 24, 0), (24, .iconst 0, 25, 0), (25, .putfield 503, 28, 205), (28, .aload 0, 29, 0), (29, .iconst 0, 30, 0), (30, .putfield 504, 33, 207), (33, .aload 0, 34, 0), (34, .iconst 0, 35, 0), (35, .putfield 505, 38, 208), (38, .aload 0, 39, 0), (39, .iconst 0, 40, 0), (40, .putfield 506, 43, 209), (43, .aload 0, 44, 0), (44, .iconst 0, 45, 0), (45, .putfield 507, 48, 210), (48, .aload 0, 49, 0), (49, .iconst 0, 50, 0), (50, .putfield 508, 53, 211), (53, .aload 0, 54, 0), (54, .iconst 0, 55, 0), (55, .putfield 509, 58, 212), (58, .aload 0, 59, 0), (59, .iconst 0, 60, 0), (60, .putfield 510, 63, 213), (63, .return_, 64, 0)]
def kX5_append : List (Nat × Instr × Nat × Nat) := [(0, .aload 0, 1, 0), (1, .getfield 501, 4, 201), (4, .iconst 160, 7, 0), (7, .if_icmp .lt 12, 10, 0), (10, .iconst 0, 11, 0), (11, .ireturn, 12, 0), (12, .aload 0, 13, 0), (13, .getfield 500, 16, 200), (16, .aload 0, 17, 0), (17, .getfield 501, 20, 201), (20, .iload 1, 21, 0), (21, .i2b, 22, 0), (22, .bastore, 23, 0), (23, .aload 0, 24, 0), (24, .dup, 25, 0), (25, .getfield 501, 28, 201), (28, .iconst 1, 29, 0), (29, .iadd, 30, 0), (30, .putfield 501, 33, 201), (33, .iconst 1, 34, 0), (34, .ireturn, 35, 0)]
def kX5_tell : List (Nat × Instr × Nat × Nat) := [(0, .aload 1, 1, 0), (1, .invokevirtual 530107, 4, 462), (4, .aload 0, 5, 0), (5, .iconst 0, 6, 0), (6, .putfield 502, 9, 203), (9, .aload 0, 10, 0), (10, .iconst 0, 11, 0), (11, .putfield 504, 14, 207), (14, .aload 0, 15, 0), (15, .iconst 0, 16, 0), (16, .putfield 508, 19, 211), (19, .aload 0, 20, 0), (20, .iconst 0, 21, 0), (21, .putfield 509, 24, 212), (24, .aload 0, 25, 0), (25, .iconst 0, 26, 0), (26, .putfield 510, 29, 213), (29, .iconst 0, 30, 0), (30, .istore 2, 31, 0), (31, .aload 0, 32, 0), (32, .invokevirtual 270105, 35, 466), (35, .iconst 0, 36, 0), (36, .istore 3, 37, 0), (37, .iload 3, 38, 0), (38, .iconst 160, 41, 0), (41, .if_icmp .gt 83, 44, 0), (44, .aload 0, 45, 0), (45, .getfield 502, 48, 203), (48, .ifCond .ne 83, 51, 0), (51, .aload 0, 52, 0), (52, .getfield 505, 55, 208), (55, .ifCond .eq 83, 58, 0), (58, .aload 0, 59, 0), (59, .aload 1, 60, 0), (60, .invokevirtual 350205, 63, 492), (63, .aload 0, 64, 0), (64, .getfield 502, 67, 203), (67, .ifCond .ne 77, 70, 0), (70, .iinc 2 1, 73, 0), (73, .aload 0, 74, 0), (74, .invokevirtual 270105, 77, 466), (77, .iinc 3 1, 80, 0), (80, .goto 37, 83, 0), (83, .aload 0, 84, 0), (84, .getfield 502, 87, 203), (87, .ifCond .ne 107, 90, 0), (90, .aload 1, 91, 0), (91, .invokevirtual 610107, 94, 610), (94, .ifCond .ne 107, 97, 0), (97, .aload 0, 98, 0), (98, .iconst 6, 100, 0), (100, .aload 0, 101, 0), (101, .getfield 501, 104, 201), (104, .invokevirtual 260305, 107, 488), (107, .iload 2, 108, 0), (108, .ireturn, 109, 0)]
def kX5_blame : List (Nat × Instr × Nat × Nat) := [(0, .aload 0, 1, 0), (1, .getfield 502, 4, 203), (4, .ifCond .ne 17, 7, 0), (7, .aload 0, 8, 0), (8, .iload 1, 9, 0), (9, .putfield 502, 12, 203), (12, .aload 0, 13, 0), (13, .iload 2, 14, 0), (14, .putfield 503, 17, 205), (17, .return_, 18, 0)]
def kX5_nextToken_q0 : List (Nat × Instr × Nat × Nat) := [(0, .aload 0, 1, 0), (1, .invokevirtual 300105, 4, 470), (4, .aload 0, 5, 0), (5, .aload 0, 6, 0), (6, .getfield 504, 9, 207), (9, .putfield 506, 12, 209), (12, .aload 0, 13, 0), (13, .getfield 504, 16, 207), (16, .aload 0, 17, 0), (17, .getfield 501, 20, 201), (20, .if_icmp .lt 31, 23, 0), (23, .aload 0, 24, 0), (24, .iconst 0, 25, 0), (25, .putfield 505, 28, 208), (28, .goto 126, 31, 0), (31, .aload 0, 32, 0), (32, .getfield 500, 35, 200), (35, .aload 0, 36, 0), (36, .getfield 504, 39, 207), (39, .baload, 40, 0), (40, .invokestatic 280100, 43, 474), (43, .ifCond .eq 58, 46, 0), (46, .aload 0, 47, 0), (47, .iconst 1, 48, 0), (48, .putfield 505, 51, 208), (51, .aload 0, 52, 0), (52, .invokevirtual 310105, 55, 477), (55, .goto 126, 58, 0), (58, .aload 0, 59, 0), (59, .getfield 500, 62, 200), (62, .aload 0, 63, 0), (63, .getfield 504, 66, 207), (66, .baload, 67, 0), (67, .invokestatic 290100, 70, 481), (70, .ifCond .eq 85, 73, 0), (73, .aload 0, 74, 0), (74, .iconst 2, 75, 0), (75, .putfield 505, 78, 208), (78, .aload 0, 79, 0), (79, .invokevirtual 320105, 82, 484), (82, .goto 126, 85, 0), (85, .aload 0, 86, 0), (86, .getfield 500, 89, 200), (89, .aload 0, 90, 0), (90, .getfield 504, 93, 207), (93, .baload, 94, 0), (94, .iconst 59, 96, 0), (96, .if_icmp .ne 117, 99, 0), (99, .aload 0, 100, 0), (100, .iconst 3, 101, 0), (101, .putfield 505, 104, 208), (104, .aload 0, 105, 0), (105, .dup, 106, 0), (106, .getfield 504, 109, 207), (109, .iconst 1, 110, 0), (110, .iadd, 111, 0), (111, .putfield 504, 114, 207), (114, .goto 126, 117, 0), (117, .aload 0, 118, 0), (118, .iconst 1, 119, 0)]
def kX5_nextToken_q1 : List (Nat × Instr × Nat × Nat) := [(119, .aload 0, 120, 0), (120, .getfield 506, 123, 209), (123, .invokevirtual 260305, 126, 488), (126, .return_, 127, 0)]
def kX5_nextToken : List (Nat × Instr × Nat × Nat) := (kX5_nextToken_q0 ++ kX5_nextToken_q1)
def kX5_isLetter : List (Nat × Instr × Nat × Nat) := [(0, .iload 0, 1, 0), (1, .iconst 97, 3, 0), (3, .if_icmp .lt 16, 6, 0), (6, .iload 0, 7, 0), (7, .iconst 122, 9, 0), (9, .if_icmp .gt 16, 12, 0), (12, .iconst 1, 13, 0), (13, .goto 17, 16, 0), (16, .iconst 0, 17, 0), (17, .ireturn, 18, 0)]
def kX5_isFigure : List (Nat × Instr × Nat × Nat) := [(0, .iload 0, 1, 0), (1, .iconst 48, 3, 0), (3, .if_icmp .lt 16, 6, 0), (6, .iload 0, 7, 0), (7, .iconst 57, 9, 0), (9, .if_icmp .gt 16, 12, 0), (12, .iconst 1, 13, 0), (13, .goto 17, 16, 0), (16, .iconst 0, 17, 0), (17, .ireturn, 18, 0)]
def kX5_skipBlanks : List (Nat × Instr × Nat × Nat) := [(0, .aload 0, 1, 0), (1, .getfield 504, 4, 207), (4, .aload 0, 5, 0), (5, .getfield 501, 8, 201), (8, .if_icmp .ge 38, 11, 0), (11, .aload 0, 12, 0), (12, .getfield 500, 15, 200), (15, .aload 0, 16, 0), (16, .getfield 504, 19, 207), (19, .baload, 20, 0), (20, .iconst 32, 22, 0), (22, .if_icmp .ne 38, 25, 0), (25, .aload 0, 26, 0), (26, .dup, 27, 0), (27, .getfield 504, 30, 207), (30, .iconst 1, 31, 0), (31, .iadd, 32, 0), (32, .putfield 504, 35, 207), (35, .goto 0, 38, 0), (38, .return_, 39, 0)]
def kX5_skipLetters : List (Nat × Instr × Nat × Nat) := [(0, .aload 0, 1, 0), (1, .getfield 504, 4, 207), (4, .aload 0, 5, 0), (5, .getfield 501, 8, 201), (8, .if_icmp .ge 39, 11, 0), (11, .aload 0, 12, 0), (12, .getfield 500, 15, 200), (15, .aload 0, 16, 0), (16, .getfield 504, 19, 207), (19, .baload, 20, 0), (20, .invokestatic 280100, 23, 474), (23, .ifCond .eq 39, 26, 0), (26, .aload 0, 27, 0), (27, .dup, 28, 0), (28, .getfield 504, 31, 207), (31, .iconst 1, 32, 0), (32, .iadd, 33, 0), (33, .putfield 504, 36, 207), (36, .goto 0, 39, 0), (39, .return_, 40, 0)]
def kX5_takeFigures : List (Nat × Instr × Nat × Nat) := [(0, .aload 0, 1, 0), (1, .iconst 0, 2, 0), (2, .putfield 507, 5, 210), (5, .aload 0, 6, 0), (6, .getfield 504, 9, 207), (9, .aload 0, 10, 0), (10, .getfield 501, 13, 201), (13, .if_icmp .ge 68, 16, 0), (16, .aload 0, 17, 0), (17, .getfield 500, 20, 200), (20, .aload 0, 21, 0), (21, .getfield 504, 24, 207), (24, .baload, 25, 0), (25, .invokestatic 290100, 28, 481), (28, .ifCond .eq 68, 31, 0), (31, .aload 0, 32, 0), (32, .aload 0, 33, 0), (33, .getfield 507, 36, 210), (36, .iconst 10, 38, 0), (38, .imul, 39, 0), (39, .aload 0, 40, 0), (40, .getfield 500, 43, 200), (43, .aload 0, 44, 0), (44, .getfield 504, 47, 207), (47, .baload, 48, 0), (48, .iconst 48, 50, 0), (50, .isub, 51, 0), (51, .iadd, 52, 0), (52, .putfield 507, 55, 210), (55, .aload 0, 56, 0), (56, .dup, 57, 0), (57, .getfield 504, 60, 207), (60, .iconst 1, 61, 0), (61, .iadd, 62, 0), (62, .putfield 504, 65, 207), (65, .goto 5, 68, 0), (68, .aload 0, 69, 0), (69, .getfield 504, 72, 207), (72, .aload 0, 73, 0), (73, .getfield 506, 76, 209), (76, .isub, 77, 0), (77, .iconst 2, 78, 0), (78, .if_icmp .le 90, 81, 0), (81, .aload 0, 82, 0), (82, .iconst 1, 83, 0), (83, .aload 0, 84, 0), (84, .getfield 506, 87, 209), (87, .invokevirtual 260305, 90, 488), (90, .return_, 91, 0)]
def kX5_isName : List (Nat × Instr × Nat × Nat) := [(0, .aload 0, 1, 0), (1, .getfield 505, 4, 208), (4, .iconst 1, 5, 0), (5, .if_icmp .ne 24, 8, 0), (8, .aload 0, 9, 0), (9, .getfield 504, 12, 207), (12, .aload 0, 13, 0), (13, .getfield 506, 16, 209), (16, .isub, 17, 0), (17, .aload 1, 18, 0), (18, .invokevirtual 2230190, 21, 505), (21, .if_icmp .eq 26, 24, 0), (24, .iconst 0, 25, 0), (25, .ireturn, 26, 0), (26, .iconst 0, 27, 0), (27, .istore 2, 28, 0), (28, .iload 2, 29, 0), (29, .aload 1, 30, 0), (30, .invokevirtual 2230190, 33, 505), (33, .if_icmp .ge 63, 36, 0), (36, .aload 0, 37, 0), (37, .getfield 500, 40, 200), (40, .aload 0, 41, 0), (41, .getfield 506, 44, 209), (44, .iload 2, 45, 0), (45, .iadd, 46, 0), (46, .baload, 47, 0), (47, .aload 1, 48, 0), (48, .iload 2, 49, 0), (49, .invokevirtual 2240290, 52, 515), (52, .if_icmp .eq 57, 55, 0), (55, .iconst 0, 56, 0), (56, .ireturn, 57, 0), (57, .iinc 2 1, 60, 0), (60, .goto 28, 63, 0), (63, .iconst 1, 64, 0), (64, .ireturn, 65, 0)]
def kX5_kindNamed : List (Nat × Instr × Nat × Nat) := [(0, .aload 0, 1, 0), (1, .ldc 10, 3, 500), (3, .invokevirtual 330205, 6, 501), (6, .ifCond .eq 11, 9, 0), (9, .iconst 0, 10, 0), (10, .ireturn, 11, 0), (11, .aload 0, 12, 0), (12, .ldc 11, 14, 553), (14, .invokevirtual 330205, 17, 501), (17, .ifCond .eq 22, 20, 0), (20, .iconst 1, 21, 0), (21, .ireturn, 22, 0), (22, .aload 0, 23, 0), (23, .ldc 12, 25, 554), (25, .invokevirtual 330205, 28, 501), (28, .ifCond .eq 33, 31, 0), (31, .iconst 2, 32, 0), (32, .ireturn, 33, 0), (33, .aload 0, 34, 0), (34, .ldc 13, 36, 555), (36, .invokevirtual 330205, 39, 501), (39, .ifCond .eq 46, 42, 0), (42, .iconst 3, 43, 0), (43, .goto 48, 46, 0), (46, .iconst (-4), 48, 0), (48, .ireturn, 49, 0)]
def kX5_readLine : List (Nat × Instr × Nat × Nat) := [(0, .aload 0, 1, 0), (1, .invokevirtual 340105, 4, 496), (4, .istore 2, 5, 0), (5, .aload 0, 6, 0), (6, .ldc 14, 8, 556), (8, .invokevirtual 330205, 11, 501), (11, .ifCond .eq 22, 14, 0), (14, .aload 0, 15, 0), (15, .aload 1, 16, 0), (16, .invokevirtual 390205, 19, 557), (19, .goto 112, 22, 0), (22, .iload 2, 23, 0), (23, .ifCond .lt 35, 26, 0), (26, .aload 0, 27, 0), (27, .aload 1, 28, 0), (28, .iload 2, 29, 0), (29, .invokevirtual 400305, 32, 578), (32, .goto 112, 35, 0), (35, .aload 0, 36, 0), (36, .ldc 15, 38, 586), (38, .invokevirtual 330205, 41, 501), (41, .ifCond .eq 52, 44, 0), (44, .aload 0, 45, 0), (45, .aload 1, 46, 0), (46, .invokevirtual 410205, 49, 587), (49, .goto 112, 52, 0), (52, .aload 0, 53, 0), (53, .ldc 16, 55, 591), (55, .invokevirtual 330205, 58, 501), (58, .ifCond .eq 69, 61, 0), (61, .aload 0, 62, 0), (62, .aload 1, 63, 0), (63, .invokevirtual 420205, 66, 592), (66, .goto 112, 69, 0), (69, .aload 0, 70, 0), (70, .ldc 17, 72, 596), (72, .invokevirtual 330205, 75, 501), (75, .ifCond .eq 86, 78, 0), (78, .aload 0, 79, 0), (79, .aload 1, 80, 0), (80, .invokevirtual 430205, 83, 597), (83, .goto 112, 86, 0), (86, .aload 0, 87, 0), (87, .ldc 18, 89, 601), (89, .invokevirtual 330205, 92, 501), (92, .ifCond .eq 103, 95, 0), (95, .aload 0, 96, 0), (96, .aload 1, 97, 0), (97, .invokevirtual 440205, 100, 602), (100, .goto 112, 103, 0), (103, .aload 0, 104, 0), (104, .iconst 2, 105, 0), (105, .aload 0, 106, 0), (106, .getfield 506, 109, 209), (109, .invokevirtual 260305, 112, 488), (112, .return_, 113, 0)]
def kX5_refuse : List (Nat × Instr × Nat × Nat) := [(0, .iload 1, 1, 0), (1, .ifCond .eq 13, 4, 0), (4, .aload 0, 5, 0), (5, .iload 2, 6, 0), (6, .aload 0, 7, 0), (7, .getfield 506, 10, 209), (10, .invokevirtual 260305, 13, 488), (13, .return_, 14, 0)]
def kX5_readNumber : List (Nat × Instr × Nat × Nat) := [(0, .aload 0, 1, 0), (1, .getfield 502, 4, 203), (4, .ifCond .ne 51, 7, 0), (7, .aload 0, 8, 0), (8, .invokevirtual 270105, 11, 466), (11, .aload 0, 12, 0), (12, .aload 0, 13, 0), (13, .getfield 505, 16, 208), (16, .iconst 2, 17, 0), (17, .if_icmp .eq 24, 20, 0), (20, .iconst 1, 21, 0), (21, .goto 25, 24, 0), (24, .iconst 0, 25, 0), (25, .iconst 2, 26, 0), (26, .invokevirtual 360305, 29, 561), (29, .aload 0, 30, 0), (30, .aload 0, 31, 0), (31, .getfield 507, 34, 210), (34, .iload 1, 35, 0), (35, .iload 2, 36, 0), (36, .invokestatic 1180300, 39, 569), (39, .ifCond .ne 46, 42, 0), (42, .iconst 1, 43, 0), (43, .goto 47, 46, 0), (46, .iconst 0, 47, 0), (47, .iconst 3, 48, 0), (48, .invokevirtual 360305, 51, 561), (51, .aload 0, 52, 0), (52, .getfield 502, 55, 203), (55, .ifCond .ne 65, 58, 0), (58, .aload 0, 59, 0), (59, .getfield 507, 62, 210), (62, .goto 66, 65, 0), (65, .iload 1, 66, 0), (66, .ireturn, 67, 0)]
def kX5_readSemicolon : List (Nat × Instr × Nat × Nat) := [(0, .aload 0, 1, 0), (1, .getfield 502, 4, 203), (4, .ifCond .ne 29, 7, 0), (7, .aload 0, 8, 0), (8, .invokevirtual 270105, 11, 466), (11, .aload 0, 12, 0), (12, .aload 0, 13, 0), (13, .getfield 505, 16, 208), (16, .iconst 3, 17, 0), (17, .if_icmp .eq 24, 20, 0), (20, .iconst 1, 21, 0), (21, .goto 25, 24, 0), (24, .iconst 0, 25, 0), (25, .iconst 2, 26, 0), (26, .invokevirtual 360305, 29, 561), (29, .aload 0, 30, 0), (30, .getfield 502, 33, 203), (33, .ifCond .ne 40, 36, 0), (36, .iconst 1, 37, 0), (37, .goto 41, 40, 0), (40, .iconst 0, 41, 0), (41, .ireturn, 42, 0)]
def kX5_readMan : List (Nat × Instr × Nat × Nat) := [(0, .aload 0, 1, 0), (1, .aload 1, 2, 0), (2, .getfield 700, 5, 104), (5, .iconst 4, 6, 0), (6, .if_icmp .lt 13, 9, 0), (9, .iconst 1, 10, 0), (10, .goto 14, 13, 0), (13, .iconst 0, 14, 0), (14, .iconst 5, 15, 0), (15, .invokevirtual 360305, 18, 561), (18, .aload 0, 19, 0), (19, .iconst 0, 20, 0), (20, .iconst 5, 21, 0), (21, .invokevirtual 370305, 24, 565), (24, .istore 2, 25, 0), (25, .aload 0, 26, 0), (26, .iconst 0, 27, 0), (27, .iconst 9, 29, 0), (29, .invokevirtual 370305, 32, 565), (32, .istore 3, 33, 0), (33, .aload 0, 34, 0), (34, .invokevirtual 380105, 37, 570), (37, .ifCond .eq 46, 40, 0), (40, .aload 1, 41, 0), (41, .iload 2, 42, 0), (42, .iload 3, 43, 0), (43, .invokevirtual 580307, 46, 574), (46, .return_, 47, 0)]
def kX5_readStone : List (Nat × Instr × Nat × Nat) := [(0, .aload 0, 1, 0), (1, .aload 1, 2, 0), (2, .getfield 703, 5, 115), (5, .iconst 5, 6, 0), (6, .if_icmp .lt 13, 9, 0), (9, .iconst 1, 10, 0), (10, .goto 14, 13, 0), (13, .iconst 0, 14, 0), (14, .iconst 5, 15, 0), (15, .invokevirtual 360305, 18, 561), (18, .aload 0, 19, 0), (19, .iconst 0, 20, 0), (20, .iconst 99, 22, 0), (22, .invokevirtual 370305, 25, 565), (25, .istore 3, 26, 0), (26, .aload 0, 27, 0), (27, .iconst 0, 28, 0), (28, .iconst 3, 29, 0), (29, .invokevirtual 370305, 32, 565), (32, .istore 4, 34, 0), (34, .aload 0, 35, 0), (35, .invokevirtual 380105, 38, 570), (38, .ifCond .eq 49, 41, 0), (41, .aload 1, 42, 0), (42, .iload 2, 43, 0), (43, .iload 3, 44, 0), (44, .iload 4, 46, 0), (46, .invokevirtual 590407, 49, 582), (49, .return_, 50, 0)]
def kX5_readOven : List (Nat × Instr × Nat × Nat) := [(0, .aload 0, 1, 0), (1, .aload 0, 2, 0), (2, .getfield 508, 5, 211), (5, .iconst 4, 6, 0), (6, .invokevirtual 360305, 9, 561), (9, .aload 0, 10, 0), (10, .iconst 1, 11, 0), (11, .putfield 508, 14, 211), (14, .aload 0, 15, 0), (15, .iconst 0, 16, 0), (16, .iconst 9, 18, 0), (18, .invokevirtual 370305, 21, 565), (21, .istore 2, 22, 0), (22, .aload 0, 23, 0), (23, .iconst 5, 24, 0), (24, .iconst 99, 26, 0), (26, .invokevirtual 370305, 29, 565), (29, .istore 3, 30, 0), (30, .aload 0, 31, 0), (31, .invokevirtual 380105, 34, 570), (34, .ifCond .eq 47, 37, 0), (37, .aload 1, 38, 0), (38, .iload 2, 39, 0), (39, .putfield 707, 42, 131), (42, .aload 1, 43, 0), (43, .iload 3, 44, 0), (44, .putfield 708, 47, 135), (47, .return_, 48, 0)]
def kX5_readWind : List (Nat × Instr × Nat × Nat) := [(0, .aload 0, 1, 0), (1, .aload 0, 2, 0), (2, .getfield 509, 5, 212), (5, .iconst 4, 6, 0), (6, .invokevirtual 360305, 9, 561), (9, .aload 0, 10, 0), (10, .iconst 1, 11, 0), (11, .putfield 509, 14, 212), (14, .aload 0, 15, 0), (15, .iconst 0, 16, 0), (16, .iconst 10, 18, 0), (18, .invokevirtual 370305, 21, 565), (21, .istore 2, 22, 0), (22, .aload 0, 23, 0), (23, .invokevirtual 380105, 26, 570), (26, .ifCond .eq 34, 29, 0), (29, .aload 1, 30, 0), (30, .iload 2, 31, 0), (31, .putfield 709, 34, 138), (34, .return_, 35, 0)]
def kX5_readPrice : List (Nat × Instr × Nat × Nat) := [(0, .aload 0, 1, 0), (1, .iconst 0, 2, 0), (2, .iconst 5, 3, 0), (3, .invokevirtual 370305, 6, 565), (6, .istore 2, 7, 0), (7, .aload 0, 8, 0), (8, .aload 0, 9, 0), (9, .getfield 510, 12, 213), (12, .iload 2, 13, 0), (13, .ishr, 14, 0), (14, .iconst 1, 15, 0), (15, .iand, 16, 0), (16, .ifCond .eq 23, 19, 0), (19, .iconst 1, 20, 0), (20, .goto 24, 23, 0), (23, .iconst 0, 24, 0), (24, .iconst 4, 25, 0), (25, .invokevirtual 360305, 28, 561), (28, .aload 0, 29, 0), (29, .dup, 30, 0), (30, .getfield 510, 33, 213), (33, .iconst 1, 34, 0), (34, .iload 2, 35, 0), (35, .ishl, 36, 0), (36, .ior, 37, 0), (37, .putfield 510, 40, 213), (40, .aload 0, 41, 0), (41, .iconst 1, 42, 0), (42, .iconst 9, 44, 0), (44, .invokevirtual 370305, 47, 565), (47, .istore 3, 48, 0), (48, .aload 0, 49, 0), (49, .invokevirtual 380105, 52, 570), (52, .ifCond .eq 62, 55, 0), (55, .aload 1, 56, 0), (56, .getfield 710, 59, 141), (59, .iload 2, 60, 0), (60, .iload 3, 61, 0), (61, .iastore, 62, 0), (62, .return_, 63, 0)]
def kX5_readDebt : List (Nat × Instr × Nat × Nat) := [(0, .aload 0, 1, 0), (1, .aload 1, 2, 0), (2, .getfield 711, 5, 145), (5, .iconst 4, 6, 0), (6, .if_icmp .lt 13, 9, 0), (9, .iconst 1, 10, 0), (10, .goto 14, 13, 0), (13, .iconst 0, 14, 0), (14, .iconst 5, 15, 0), (15, .invokevirtual 360305, 18, 561), (18, .aload 0, 19, 0), (19, .iconst 0, 20, 0), (20, .iconst 3, 21, 0), (21, .invokevirtual 370305, 24, 565), (24, .istore 2, 25, 0), (25, .aload 0, 26, 0), (26, .iconst 0, 27, 0), (27, .iconst 3, 28, 0), (28, .invokevirtual 370305, 31, 565), (31, .istore 3, 32, 0), (32, .aload 0, 33, 0), (33, .iload 2, 34, 0), (34, .iload 3, 35, 0), (35, .if_icmp .ne 42, 38, 0), (38, .iconst 1, 39, 0), (39, .goto 43, 42, 0), (42, .iconst 0, 43, 0), (43, .iconst 3, 44, 0), (44, .invokevirtual 360305, 47, 561), (47, .aload 0, 48, 0), (48, .iconst 0, 49, 0), (49, .iconst 99, 51, 0), (51, .invokevirtual 370305, 54, 565), (54, .istore 4, 56, 0), (56, .aload 0, 57, 0), (57, .invokevirtual 380105, 60, 570), (60, .ifCond .eq 71, 63, 0), (63, .aload 1, 64, 0), (64, .iload 2, 65, 0), (65, .iload 3, 66, 0), (66, .iload 4, 68, 0), (68, .invokevirtual 600407, 71, 606), (71, .return_, 72, 0)]
def kX6_init : List (Nat × Instr × Nat × Nat) := [(0, .aload 0, 1, 0), (1, .invokespecial 9990000, 4, 362), (4, .aload 0, 5, 0), (5, .iconst 61, 7, 0), (7, .newarray .int, 9, 0), (9, .putfield 600, 12, 363), (12, .aload 0, 13, 0), (13, .iconst 61, 15, 0), (15, .newarray .int, 17, 0), (17, .putfield 601, 20, 364), (20, .aload 0, 21, 0), (21, .iconst 0, 22, 0), (22, .putfield 602, 25, 365), (25, .aload 0, 26, 0), (26, .iconst 1, 27, 0), (27, .putfield 603, 30, 366), (30, .aload 0, 31, 0), (31, .iconst 0, 32, 0), (32, .putfield 604, 35, 367), (35, .aload 0, 36, 0), (36, .iconst 0, 37, 0), (37, .putfield 605, 40, 368), (40, .return_, 41, 0)]
def kX6_leastWalks : List (Nat × Instr × Nat × Nat) := [(0, .aload 0, 1, 0), (1, .iconst 0, 2, 0), (2, .iload 3, 3, 0), (3, .iconst 60, 5, 0), (5, .invokestatic 2220200, 8, 866), (8, .invokestatic 2200200, 11, 869), (11, .putfield 602, 14, 365), (14, .aload 0, 15, 0), (15, .aload 1, 16, 0), (16, .iload 2, 17, 0), (17, .invokevirtual 670207, 20, 870), (20, .putfield 603, 23, 366), (23, .aload 0, 24, 0), (24, .aload 1, 25, 0), (25, .iload 2, 26, 0), (26, .invokevirtual 690207, 29, 871), (29, .putfield 604, 32, 367), (32, .aload 0, 33, 0), (33, .aload 1, 34, 0), (34, .getfield 708, 37, 133), (37, .putfield 605, 40, 368), (40, .aload 0, 41, 0), (41, .invokevirtual 480106, 44, 872), (44, .aload 0, 45, 0), (45, .getfield 600, 48, 363), (48, .iconst 0, 49, 0), (49, .aload 1, 50, 0), (50, .getfield 705, 53, 122), (53, .iload 2, 54, 0), (54, .iaload, 55, 0), (55, .invokestatic 470100, 58, 876), (58, .iastore, 59, 0), (59, .aload 0, 60, 0), (60, .invokevirtual 490106, 63, 880), (63, .iconst 0, 64, 0), (64, .istore 4, 66, 0), (66, .iload 4, 68, 0), (68, .aload 0, 69, 0), (69, .getfield 602, 72, 365), (72, .if_icmp .gt 104, 75, 0), (75, .aload 0, 76, 0), (76, .getfield 600, 79, 363), (79, .aload 0, 80, 0), (80, .getfield 602, 83, 365), (83, .iaload, 84, 0), (84, .ifCond .le 90, 87, 0), (87, .iload 4, 89, 0), (89, .ireturn, 90, 0), (90, .aload 0, 91, 0), (91, .invokevirtual 500106, 94, 885), (94, .aload 0, 95, 0), (95, .invokevirtual 490106, 98, 880), (98, .iinc 4 1, 101, 0), (101, .goto 66, 104, 0), (104, .iconst (-4), 106, 0), (106, .ireturn, 107, 0)]
def kX6_orPebble : List (Nat × Instr × Nat × Nat) := [(0, .iload 0, 1, 0), (1, .invokestatic 1240100, 4, 879), (4, .ifCond .eq 11, 7, 0), (7, .iload 0, 8, 0), (8, .goto 12, 11, 0), (11, .iconst 0, 12, 0), (12, .ireturn, 13, 0)]
def kX6_clearRow : List (Nat × Instr × Nat × Nat) := [(0, .iconst 0, 1, 0), (1, .istore 1, 2, 0), (2, .iload 1, 3, 0), (3, .iconst 60, 5, 0), (5, .if_icmp .gt 21, 8, 0), (8, .aload 0, 9, 0), (9, .getfield 600, 12, 363), (12, .iload 1, 13, 0), (13, .iconst 0, 14, 0), (14, .iastore, 15, 0), (15, .iinc 1 1, 18, 0), (18, .goto 2, 21, 0), (21, .return_, 22, 0)]
def kX6_stay : List (Nat × Instr × Nat × Nat) := [(0, .iconst 1, 1, 0), (1, .istore 1, 2, 0), (2, .iload 1, 3, 0), (3, .aload 0, 4, 0), (4, .getfield 602, 7, 365), (7, .if_icmp .gt 49, 10, 0), (10, .aload 0, 11, 0), (11, .getfield 600, 14, 363), (14, .iload 1, 15, 0), (15, .aload 0, 16, 0), (16, .getfield 600, 19, 363), (19, .iload 1, 20, 0), (20, .iaload, 21, 0), (21, .aload 0, 22, 0), (22, .getfield 600, 25, 363), (25, .iload 1, 26, 0), (26, .iconst 1, 27, 0), (27, .isub, 28, 0), (28, .iaload, 29, 0), (29, .aload 0, 30, 0), (30, .getfield 603, 33, 366), (33, .invokestatic 1260200, 36, 884), (36, .invokestatic 470100, 39, 876), (39, .invokestatic 2200200, 42, 869), (42, .iastore, 43, 0), (43, .iinc 1 1, 46, 0), (46, .goto 2, 49, 0), (49, .return_, 50, 0)]
def kX6_walkOnce : List (Nat × Instr × Nat × Nat) := [(0, .aload 0, 1, 0), (1, .getfield 601, 4, 364), (4, .astore 1, 5, 0), (5, .aload 0, 6, 0), (6, .aload 0, 7, 0), (7, .getfield 600, 10, 363), (10, .putfield 601, 13, 364), (13, .aload 0, 14, 0), (14, .aload 1, 15, 0), (15, .putfield 600, 18, 363), (18, .aload 0, 19, 0), (19, .invokevirtual 480106, 22, 872), (22, .iconst 0, 23, 0), (23, .istore 2, 24, 0), (24, .iload 2, 25, 0), (25, .aload 0, 26, 0), (26, .getfield 602, 29, 365), (29, .if_icmp .ge 92, 32, 0), (32, .aload 0, 33, 0), (33, .getfield 601, 36, 364), (36, .iload 2, 37, 0), (37, .iaload, 38, 0), (38, .ifCond .le 86, 41, 0), (41, .aload 0, 42, 0), (42, .getfield 602, 45, 365), (45, .iload 2, 46, 0), (46, .iconst 2, 47, 0), (47, .aload 0, 48, 0), (48, .getfield 604, 51, 367), (51, .imul, 52, 0), (52, .iadd, 53, 0), (53, .iconst 1, 54, 0), (54, .iadd, 55, 0), (55, .invokestatic 2220200, 58, 866), (58, .istore 3, 59, 0), (59, .aload 0, 60, 0), (60, .getfield 600, 63, 363), (63, .iload 3, 64, 0), (64, .aload 0, 65, 0), (65, .getfield 600, 68, 363), (68, .iload 3, 69, 0), (69, .iaload, 70, 0), (70, .aload 0, 71, 0), (71, .iload 3, 72, 0), (72, .iload 2, 73, 0), (73, .aload 0, 74, 0), (74, .getfield 601, 77, 364), (77, .iload 2, 78, 0), (78, .iaload, 79, 0), (79, .invokevirtual 510406, 82, 889), (82, .invokestatic 2200200, 85, 869), (85, .iastore, 86, 0), (86, .iinc 2 1, 89, 0), (89, .goto 24, 92, 0), (92, .return_, 93, 0)]
def kX6_walkedUntil : List (Nat × Instr × Nat × Nat) := [(0, .iload 3, 1, 0), (1, .istore 4, 3, 0), (3, .iload 2, 4, 0), (4, .iconst 1, 5, 0), (5, .iadd, 6, 0), (6, .istore 5, 8, 0), (8, .iload 5, 10, 0), (10, .iload 1, 11, 0), (11, .if_icmp .gt 76, 14, 0), (14, .iload 4, 16, 0), (16, .ifCond .le 76, 19, 0), (19, .iload 5, 21, 0), (21, .iload 2, 22, 0), (22, .aload 0, 23, 0), (23, .getfield 604, 26, 367), (26, .iadd, 27, 0), (27, .iconst 1, 28, 0), (28, .iadd, 29, 0), (29, .if_icmp .ne 36, 32, 0), (32, .iconst 1, 33, 0), (33, .goto 37, 36, 0), (36, .iconst 0, 37, 0), (37, .istore 6, 39, 0), (39, .iload 6, 41, 0), (41, .ifCond .eq 56, 44, 0), (44, .iload 4, 46, 0), (46, .aload 0, 47, 0), (47, .getfield 605, 50, 368), (50, .invokestatic 2200200, 53, 869), (53, .goto 68, 56, 0), (56, .iload 4, 58, 0), (58, .aload 0, 59, 0), (59, .getfield 603, 62, 366), (62, .invokestatic 1260200, 65, 884), (65, .invokestatic 470100, 68, 876), (68, .istore 4, 70, 0), (70, .iinc 5 1, 73, 0), (73, .goto 8, 76, 0), (76, .iload 4, 78, 0), (78, .ireturn, 79, 0)]
def kX7_init_q0 : List (Nat × Instr × Nat × Nat) := [(0, .aload 0, 1, 0), (1, .invokespecial 9990000, 4, 99), (4, .aload 0, 5, 0), (5, .iconst 0, 6, 0), (6, .putfield 700, 9, 100), (9, .aload 0, 10, 0), (10, .iconst 4, 11, 0), (11, .newarray .int, 13, 0), (13, .putfield 701, 16, 105), (16, .aload 0, 17, 0), (17, .iconst 4, 18, 0), (18, .newarray .int, 20, 0), (20, .putfield 702, 23, 109), (23, .aload 0, 24, 0), (24, .iconst 0, 25, 0), (25, .putfield 703, 28, 111), (28, .aload 0, 29, 0), (29, .iconst 5, 30, 0), (30, .newarray .int, 32, 0), (32, .putfield 704, 35, 116), (35, .aload 0, 36, 0), (36, .iconst 5, 37, 0), (37, .newarray .int, 39, 0), (39, .putfield 705, 42, 120), (42, .aload 0, 43, 0), (43, .iconst 5, 44, 0), (44, .newarray .int, 46, 0), (46, .putfield 706, 49, 126), (49, .aload 0, 50, 0), (50, .iconst 0, 51, 0), (51, .putfield 707, 54, 129), (54, .aload 0, 55, 0), (55, .iconst 50, 57, 0), (57, .putfield 708, 60, 132), (60, .aload 0, 61, 0), (61, .iconst 2, 62, 0), (62, .putfield 709, 65, 136), (65, .aload 0, 66, 0), (66, .iconst 6, 68, 0), (68, .newarray .int, 70, 0), (70, .dup, 71, 0), (71, .iconst 0, 72, 0), (72, .iconst 1, 73, 0), (73, .iastore, 74, 0), (74, .dup, 75, 0), (75, .iconst 1, 76, 0), (76, .iconst 1, 77, 0), (77, .iastore, 78, 0), (78, .dup, 79, 0), (79, .iconst 2, 80, 0), (80, .iconst 1, 81, 0), (81, .iastore, 82, 0), (82, .dup, 83, 0), (83, .iconst 3, 84, 0), (84, .iconst 1, 85, 0), (85, .iastore, 86, 0), (86, .dup, 87, 0), (87, .iconst 4, 88, 0), (88, .iconst 1, 89, 0), (89, .iastore, 90, 0)]
def kX7_init_q1 : List (Nat × Instr × Nat × Nat) := [(90, .dup, 91, 0), (91, .iconst 5, 92, 0), (92, .iconst 1, 93, 0), (93, .iastore, 94, 0), (94, .putfield 710, 97, 139), (97, .aload 0, 98, 0), (98, .iconst 0, 99, 0), (99, .putfield 711, 102, 142), (102, .aload 0, 103, 0), (103, .iconst 4, 104, 0), (104, .newarray .int, 106, 0), (106, .putfield 712, 109, 146), (109, .aload 0, 110, 0), (110, .iconst 4, 111, 0), (111, .newarray .int, 113, 0), (113, .putfield 713, 116, 149), (116, .aload 0, 117, 0), (117, .iconst 4, 118, 0), (118, .newarray .int, 120, 0), (120, .putfield 714, 123, 153), (123, .aload 0, 124, 0), (124, .iconst 0, 125, 0), (125, .putfield 715, 128, 157), (128, .return_, 129, 0)]
def kX7_init : List (Nat × Instr × Nat × Nat) := (kX7_init_q0 ++ kX7_init_q1)
def kX7_clear : List (Nat × Instr × Nat × Nat) := [(0, .aload 0, 1, 0), (1, .iconst 0, 2, 0), (2, .putfield 700, 5, 100), (5, .aload 0, 6, 0), (6, .iconst 0, 7, 0), (7, .putfield 703, 10, 111), (10, .aload 0, 11, 0), (11, .iconst 0, 12, 0), (12, .putfield 707, 15, 129), (15, .aload 0, 16, 0), (16, .iconst 50, 18, 0), (18, .putfield 708, 21, 132), (21, .aload 0, 22, 0), (22, .iconst 2, 23, 0), (23, .putfield 709, 26, 136), (26, .iconst 0, 27, 0), (27, .istore 1, 28, 0), (28, .iload 1, 29, 0), (29, .iconst 5, 30, 0), (30, .if_icmp .gt 46, 33, 0), (33, .aload 0, 34, 0), (34, .getfield 710, 37, 139), (37, .iload 1, 38, 0), (38, .iconst 1, 39, 0), (39, .iastore, 40, 0), (40, .iinc 1 1, 43, 0), (43, .goto 28, 46, 0), (46, .aload 0, 47, 0), (47, .iconst 0, 48, 0), (48, .putfield 711, 51, 142), (51, .aload 0, 52, 0), (52, .iconst 0, 53, 0), (53, .putfield 715, 56, 157), (56, .return_, 57, 0)]
def kX7_copyFrom_q0 : List (Nat × Instr × Nat × Nat) := [(0, .aload 0, 1, 0), (1, .aload 1, 2, 0), (2, .getfield 700, 5, 100), (5, .putfield 700, 8, 100), (8, .aload 1, 9, 0), (9, .getfield 701, 12, 105), (12, .iconst 0, 13, 0), (13, .aload 0, 14, 0), (14, .getfield 701, 17, 105), (17, .iconst 0, 18, 0), (18, .iconst 4, 19, 0), (19, .invokestatic 9980000, 22, 622), (22, .aload 1, 23, 0), (23, .getfield 702, 26, 109), (26, .iconst 0, 27, 0), (27, .aload 0, 28, 0), (28, .getfield 702, 31, 109), (31, .iconst 0, 32, 0), (32, .iconst 4, 33, 0), (33, .invokestatic 9980000, 36, 622), (36, .aload 0, 37, 0), (37, .aload 1, 38, 0), (38, .getfield 703, 41, 111), (41, .putfield 703, 44, 111), (44, .aload 1, 45, 0), (45, .getfield 704, 48, 116), (48, .iconst 0, 49, 0), (49, .aload 0, 50, 0), (50, .getfield 704, 53, 116), (53, .iconst 0, 54, 0), (54, .iconst 5, 55, 0), (55, .invokestatic 9980000, 58, 622), (58, .aload 1, 59, 0), (59, .getfield 705, 62, 120), (62, .iconst 0, 63, 0), (63, .aload 0, 64, 0), (64, .getfield 705, 67, 120), (67, .iconst 0, 68, 0), (68, .iconst 5, 69, 0), (69, .invokestatic 9980000, 72, 622), (72, .aload 1, 73, 0), (73, .getfield 706, 76, 126), (76, .iconst 0, 77, 0), (77, .aload 0, 78, 0), (78, .getfield 706, 81, 126), (81, .iconst 0, 82, 0), (82, .iconst 5, 83, 0), (83, .invokestatic 9980000, 86, 622), (86, .aload 0, 87, 0), (87, .aload 1, 88, 0), (88, .getfield 707, 91, 129), (91, .putfield 707, 94, 129), (94, .aload 0, 95, 0), (95, .aload 1, 96, 0), (96, .getfield 708, 99, 132), (99, .putfield 708, 102, 132), (102, .aload 0, 103, 0), (103, .aload 1, 104, 0), (104, .getfield 709, 107, 136), (107, .putfield 709, 110, 136)]
def kX7_copyFrom_q1 : List (Nat × Instr × Nat × Nat) := [(110, .aload 1, 111, 0), (111, .getfield 710, 114, 139), (114, .iconst 0, 115, 0), (115, .aload 0, 116, 0), (116, .getfield 710, 119, 139), (119, .iconst 0, 120, 0), (120, .iconst 6, 122, 0), (122, .invokestatic 9980000, 125, 622), (125, .aload 0, 126, 0), (126, .aload 1, 127, 0), (127, .getfield 711, 130, 142), (130, .putfield 711, 133, 142), (133, .aload 1, 134, 0), (134, .getfield 712, 137, 146), (137, .iconst 0, 138, 0), (138, .aload 0, 139, 0), (139, .getfield 712, 142, 146), (142, .iconst 0, 143, 0), (143, .iconst 4, 144, 0), (144, .invokestatic 9980000, 147, 622), (147, .aload 1, 148, 0), (148, .getfield 713, 151, 149), (151, .iconst 0, 152, 0), (152, .aload 0, 153, 0), (153, .getfield 713, 156, 149), (156, .iconst 0, 157, 0), (157, .iconst 4, 158, 0), (158, .invokestatic 9980000, 161, 622), (161, .aload 1, 162, 0), (162, .getfield 714, 165, 153), (165, .iconst 0, 166, 0), (166, .aload 0, 167, 0), (167, .getfield 714, 170, 153), (170, .iconst 0, 171, 0), (171, .iconst 4, 172, 0), (172, .invokestatic 9980000, 175, 622), (175, .aload 0, 176, 0), (176, .aload 1, 177, 0), (177, .getfield 715, 180, 157), (180, .putfield 715, 183, 157), (183, .return_, 184, 0)]
def kX7_copyFrom : List (Nat × Instr × Nat × Nat) := (kX7_copyFrom_q0 ++ kX7_copyFrom_q1)
def kX7_hasOne : List (Nat × Instr × Nat × Nat) := [(0, .iload 1, 1, 0), (1, .ifCond .lt 16, 4, 0), (4, .iload 1, 5, 0), (5, .aload 0, 6, 0), (6, .getfield 700, 9, 100), (9, .if_icmp .ge 16, 12, 0), (12, .iconst 1, 13, 0), (13, .goto 17, 16, 0), (16, .iconst 0, 17, 0), (17, .ireturn, 18, 0)]
def kX7_hasStone : List (Nat × Instr × Nat × Nat) := [(0, .iload 1, 1, 0), (1, .ifCond .lt 16, 4, 0), (4, .iload 1, 5, 0), (5, .aload 0, 6, 0), (6, .getfield 703, 9, 111), (9, .if_icmp .ge 16, 12, 0), (12, .iconst 1, 13, 0), (13, .goto 17, 16, 0), (16, .iconst 0, 17, 0), (17, .ireturn, 18, 0)]
def kX7_hasDebt : List (Nat × Instr × Nat × Nat) := [(0, .iload 1, 1, 0), (1, .ifCond .lt 16, 4, 0), (4, .iload 1, 5, 0), (5, .aload 0, 6, 0), (6, .getfield 711, 9, 142), (9, .if_icmp .ge 16, 12, 0), (12, .iconst 1, 13, 0), (13, .goto 17, 16, 0), (16, .iconst 0, 17, 0), (17, .ireturn, 18, 0)]
def kX7_addOne : List (Nat × Instr × Nat × Nat) := [(0, .aload 0, 1, 0), (1, .getfield 700, 4, 100), (4, .iconst 4, 5, 0), (5, .if_icmp .ge 38, 8, 0), (8, .aload 0, 9, 0), (9, .getfield 701, 12, 105), (12, .aload 0, 13, 0), (13, .getfield 700, 16, 100), (16, .iload 1, 17, 0), (17, .iastore, 18, 0), (18, .aload 0, 19, 0), (19, .getfield 702, 22, 109), (22, .aload 0, 23, 0), (23, .getfield 700, 26, 100), (26, .iload 2, 27, 0), (27, .iastore, 28, 0), (28, .aload 0, 29, 0), (29, .dup, 30, 0), (30, .getfield 700, 33, 100), (33, .iconst 1, 34, 0), (34, .iadd, 35, 0), (35, .putfield 700, 38, 100), (38, .return_, 39, 0)]
def kX7_addStone : List (Nat × Instr × Nat × Nat) := [(0, .aload 0, 1, 0), (1, .getfield 703, 4, 111), (4, .iconst 5, 5, 0), (5, .if_icmp .ge 48, 8, 0), (8, .aload 0, 9, 0), (9, .getfield 704, 12, 116), (12, .aload 0, 13, 0), (13, .getfield 703, 16, 111), (16, .iload 1, 17, 0), (17, .iastore, 18, 0), (18, .aload 0, 19, 0), (19, .getfield 705, 22, 120), (22, .aload 0, 23, 0), (23, .getfield 703, 26, 111), (26, .iload 2, 27, 0), (27, .iastore, 28, 0), (28, .aload 0, 29, 0), (29, .getfield 706, 32, 126), (32, .aload 0, 33, 0), (33, .getfield 703, 36, 111), (36, .iload 3, 37, 0), (37, .iastore, 38, 0), (38, .aload 0, 39, 0), (39, .dup, 40, 0), (40, .getfield 703, 43, 111), (43, .iconst 1, 44, 0), (44, .iadd, 45, 0), (45, .putfield 703, 48, 111), (48, .return_, 49, 0)]
def kX7_addDebt : List (Nat × Instr × Nat × Nat) := [(0, .aload 0, 1, 0), (1, .getfield 711, 4, 142), (4, .iconst 4, 5, 0), (5, .if_icmp .ge 48, 8, 0), (8, .aload 0, 9, 0), (9, .getfield 712, 12, 146), (12, .aload 0, 13, 0), (13, .getfield 711, 16, 142), (16, .iload 1, 17, 0), (17, .iastore, 18, 0), (18, .aload 0, 19, 0), (19, .getfield 713, 22, 149), (22, .aload 0, 23, 0), (23, .getfield 711, 26, 142), (26, .iload 2, 27, 0), (27, .iastore, 28, 0), (28, .aload 0, 29, 0), (29, .getfield 714, 32, 153), (32, .aload 0, 33, 0), (33, .getfield 711, 36, 142), (36, .iload 3, 37, 0), (37, .iastore, 38, 0), (38, .aload 0, 39, 0), (39, .dup, 40, 0), (40, .getfield 711, 43, 142), (43, .iconst 1, 44, 0), (44, .iadd, 45, 0), (45, .putfield 711, 48, 142), (48, .return_, 49, 0)]
def kX7_namesOnlyItsPeople : List (Nat × Instr × Nat × Nat) := [(0, .iconst 0, 1, 0), (1, .istore 1, 2, 0), (2, .iload 1, 3, 0), (3, .aload 0, 4, 0), (4, .getfield 703, 7, 111), (7, .if_icmp .ge 31, 10, 0), (10, .aload 0, 11, 0), (11, .aload 0, 12, 0), (12, .getfield 706, 15, 126), (15, .iload 1, 16, 0), (16, .iaload, 17, 0), (17, .invokevirtual 550207, 20, 614), (20, .ifCond .ne 25, 23, 0), (23, .iconst 0, 24, 0), (24, .ireturn, 25, 0), (25, .iinc 1 1, 28, 0), (28, .goto 2, 31, 0), (31, .iconst 0, 32, 0), (32, .istore 1, 33, 0), (33, .iload 1, 34, 0), (34, .aload 0, 35, 0), (35, .getfield 711, 38, 142), (38, .if_icmp .ge 75, 41, 0), (41, .aload 0, 42, 0), (42, .aload 0, 43, 0), (43, .getfield 712, 46, 146), (46, .iload 1, 47, 0), (47, .iaload, 48, 0), (48, .invokevirtual 550207, 51, 614), (51, .ifCond .eq 67, 54, 0), (54, .aload 0, 55, 0), (55, .aload 0, 56, 0), (56, .getfield 713, 59, 149), (59, .iload 1, 60, 0), (60, .iaload, 61, 0), (61, .invokevirtual 550207, 64, 614), (64, .ifCond .ne 69, 67, 0), (67, .iconst 0, 68, 0), (68, .ireturn, 69, 0), (69, .iinc 1 1, 72, 0), (72, .goto 33, 75, 0), (75, .iconst 1, 76, 0), (76, .ireturn, 77, 0)]
def kX7_stonesOf : List (Nat × Instr × Nat × Nat) := [(0, .iconst 0, 1, 0), (1, .istore 2, 2, 0), (2, .iconst 0, 3, 0), (3, .istore 3, 4, 0), (4, .iload 3, 5, 0), (5, .aload 0, 6, 0), (6, .getfield 703, 9, 111), (9, .if_icmp .ge 34, 12, 0), (12, .aload 0, 13, 0), (13, .getfield 706, 16, 126), (16, .iload 3, 17, 0), (17, .iaload, 18, 0), (18, .iload 1, 19, 0), (19, .if_icmp .ne 28, 22, 0), (22, .iload 2, 23, 0), (23, .iconst 1, 24, 0), (24, .iload 3, 25, 0), (25, .ishl, 26, 0), (26, .ior, 27, 0), (27, .istore 2, 28, 0), (28, .iinc 3 1, 31, 0), (31, .goto 4, 34, 0), (34, .iload 2, 35, 0), (35, .ireturn, 36, 0)]
def kX7_warmthOf : List (Nat × Instr × Nat × Nat) := [(0, .iconst 0, 1, 0), (1, .istore 2, 2, 0), (2, .iconst 0, 3, 0), (3, .istore 3, 4, 0), (4, .iload 3, 5, 0), (5, .aload 0, 6, 0), (6, .getfield 703, 9, 111), (9, .if_icmp .ge 37, 12, 0), (12, .aload 0, 13, 0), (13, .getfield 706, 16, 126), (16, .iload 3, 17, 0), (17, .iaload, 18, 0), (18, .iload 1, 19, 0), (19, .if_icmp .ne 31, 22, 0), (22, .iload 2, 23, 0), (23, .aload 0, 24, 0), (24, .getfield 705, 27, 120), (27, .iload 3, 28, 0), (28, .iaload, 29, 0), (29, .iadd, 30, 0), (30, .istore 2, 31, 0), (31, .iinc 3 1, 34, 0), (34, .goto 4, 37, 0), (37, .iload 2, 38, 0), (38, .ireturn, 39, 0)]
def kX7_allWarmth : List (Nat × Instr × Nat × Nat) := [(0, .iconst 0, 1, 0), (1, .istore 1, 2, 0), (2, .iconst 0, 3, 0), (3, .istore 2, 4, 0), (4, .iload 2, 5, 0), (5, .aload 0, 6, 0), (6, .getfield 703, 9, 111), (9, .if_icmp .ge 27, 12, 0), (12, .iload 1, 13, 0), (13, .aload 0, 14, 0), (14, .getfield 705, 17, 120), (17, .iload 2, 18, 0), (18, .iaload, 19, 0), (19, .iadd, 20, 0), (20, .istore 1, 21, 0), (21, .iinc 2 1, 24, 0), (24, .goto 4, 27, 0), (27, .iload 1, 28, 0), (28, .ireturn, 29, 0)]
def kX7_allDebts : List (Nat × Instr × Nat × Nat) := [(0, .iconst 0, 1, 0), (1, .istore 1, 2, 0), (2, .iconst 0, 3, 0), (3, .istore 2, 4, 0), (4, .iload 2, 5, 0), (5, .aload 0, 6, 0), (6, .getfield 711, 9, 142), (9, .if_icmp .ge 27, 12, 0), (12, .iload 1, 13, 0), (13, .aload 0, 14, 0), (14, .getfield 714, 17, 153), (17, .iload 2, 18, 0), (18, .iaload, 19, 0), (19, .iadd, 20, 0), (20, .istore 1, 21, 0), (21, .iinc 2 1, 24, 0), (24, .goto 4, 27, 0), (27, .iload 1, 28, 0), (28, .ireturn, 29, 0)]
def kX7_countWarm : List (Nat × Instr × Nat × Nat) := [(0, .iconst 0, 1, 0), (1, .istore 1, 2, 0), (2, .iconst 0, 3, 0), (3, .istore 2, 4, 0), (4, .iload 2, 5, 0), (5, .aload 0, 6, 0), (6, .getfield 703, 9, 111), (9, .if_icmp .ge 33, 12, 0), (12, .aload 0, 13, 0), (13, .getfield 705, 16, 120), (16, .iload 2, 17, 0), (17, .iaload, 18, 0), (18, .invokestatic 1240100, 21, 728), (21, .ifCond .eq 27, 24, 0), (24, .iinc 1 1, 27, 0), (27, .iinc 2 1, 30, 0), (30, .goto 4, 33, 0), (33, .iload 1, 34, 0), (34, .ireturn, 35, 0)]
def kX7_rateOf : List (Nat × Instr × Nat × Nat) := [(0, .aload 0, 1, 0), (1, .getfield 704, 4, 116), (4, .iload 1, 5, 0), (5, .iaload, 6, 0), (6, .aload 0, 7, 0), (7, .getfield 701, 10, 105), (10, .aload 0, 11, 0), (11, .getfield 706, 14, 126), (14, .iload 1, 15, 0), (15, .iaload, 16, 0), (16, .iaload, 17, 0), (17, .invokestatic 1250200, 20, 658), (20, .ireturn, 21, 0)]
def kX7_boughtFor : List (Nat × Instr × Nat × Nat) := [(0, .iload 1, 1, 0), (1, .iconst 1, 2, 0), (2, .aload 0, 3, 0), (3, .getfield 710, 6, 139), (6, .iload 2, 7, 0), (7, .iaload, 8, 0), (8, .invokestatic 2200200, 11, 757), (11, .idiv, 12, 0), (12, .ireturn, 13, 0)]
def kX7_ovenDistance : List (Nat × Instr × Nat × Nat) := [(0, .aload 0, 1, 0), (1, .getfield 702, 4, 109), (4, .aload 0, 5, 0), (5, .getfield 706, 8, 126), (8, .iload 1, 9, 0), (9, .iaload, 10, 0), (10, .iaload, 11, 0), (11, .aload 0, 12, 0), (12, .getfield 707, 15, 129), (15, .isub, 16, 0), (16, .invokestatic 2190100, 19, 742), (19, .ireturn, 20, 0)]
def kX7_minutesBetween : List (Nat × Instr × Nat × Nat) := [(0, .aload 0, 1, 0), (1, .getfield 702, 4, 109), (4, .iload 1, 5, 0), (5, .iaload, 6, 0), (6, .aload 0, 7, 0), (7, .getfield 702, 10, 109), (10, .iload 2, 11, 0), (11, .iaload, 12, 0), (12, .isub, 13, 0), (13, .invokestatic 2190100, 16, 742), (16, .iconst 1, 17, 0), (17, .iadd, 18, 0), (18, .ireturn, 19, 0)]
def kX7_letPass : List (Nat × Instr × Nat × Nat) := [(0, .iconst 0, 1, 0), (1, .istore 2, 2, 0), (2, .iload 2, 3, 0), (3, .aload 0, 4, 0), (4, .getfield 703, 7, 111), (7, .if_icmp .ge 37, 10, 0), (10, .aload 0, 11, 0), (11, .getfield 705, 14, 120), (14, .iload 2, 15, 0), (15, .aload 0, 16, 0), (16, .getfield 705, 19, 120), (19, .iload 2, 20, 0), (20, .iaload, 21, 0), (21, .aload 0, 22, 0), (22, .iload 2, 23, 0), (23, .invokevirtual 670207, 26, 717), (26, .iload 1, 27, 0), (27, .invokestatic 1270300, 30, 718), (30, .iastore, 31, 0), (31, .iinc 2 1, 34, 0), (34, .goto 2, 37, 0), (37, .aload 0, 38, 0), (38, .dup, 39, 0), (39, .getfield 715, 42, 157), (42, .iload 1, 43, 0), (43, .iadd, 44, 0), (44, .putfield 715, 47, 157), (47, .return_, 48, 0)]
def kX7_bake : List (Nat × Instr × Nat × Nat) := [(0, .aload 0, 1, 0), (1, .iload 1, 2, 0), (2, .invokevirtual 690207, 5, 770), (5, .istore 2, 6, 0), (6, .aload 0, 7, 0), (7, .iload 2, 8, 0), (8, .invokevirtual 710207, 11, 749), (11, .aload 0, 12, 0), (12, .getfield 705, 15, 120), (15, .iload 1, 16, 0), (16, .iaload, 17, 0), (17, .aload 0, 18, 0), (18, .getfield 708, 21, 132), (21, .invokestatic 2200200, 24, 757), (24, .istore 3, 25, 0), (25, .aload 0, 26, 0), (26, .iconst 1, 27, 0), (27, .invokevirtual 710207, 30, 749), (30, .aload 0, 31, 0), (31, .getfield 705, 34, 120), (34, .iload 1, 35, 0), (35, .iload 3, 36, 0), (36, .iastore, 37, 0), (37, .aload 0, 38, 0), (38, .iload 2, 39, 0), (39, .invokevirtual 710207, 42, 749), (42, .return_, 43, 0)]
def kX7_refusalToPay : List (Nat × Instr × Nat × Nat) := [(0, .aload 0, 1, 0), (1, .iload 1, 2, 0), (2, .invokevirtual 560207, 5, 737), (5, .ifCond .eq 16, 8, 0), (8, .aload 0, 9, 0), (9, .iload 2, 10, 0), (10, .invokevirtual 550207, 13, 614), (13, .ifCond .ne 18, 16, 0), (16, .iconst (-1), 17, 0), (17, .ireturn, 18, 0), (18, .aload 0, 19, 0), (19, .getfield 706, 22, 126), (22, .iload 1, 23, 0), (23, .iaload, 24, 0), (24, .iload 2, 25, 0), (25, .if_icmp .ne 31, 28, 0), (28, .iconst (-2), 30, 0), (30, .ireturn, 31, 0), (31, .aload 0, 32, 0), (32, .getfield 715, 35, 157), (35, .aload 0, 36, 0), (36, .aload 0, 37, 0), (37, .getfield 706, 40, 126), (40, .iload 1, 41, 0), (41, .iaload, 42, 0), (42, .iload 2, 43, 0), (43, .invokevirtual 700307, 46, 738), (46, .iadd, 47, 0), (47, .iconst 1000, 50, 0), (50, .if_icmp .lt 58, 53, 0), (53, .iconst (-3), 55, 0), (55, .goto 59, 58, 0), (58, .iconst 0, 59, 0), (59, .ireturn, 60, 0)]
def kX7_handOver : List (Nat × Instr × Nat × Nat) := [(0, .aload 0, 1, 0), (1, .getfield 706, 4, 126), (4, .iload 1, 5, 0), (5, .iaload, 6, 0), (6, .istore 3, 7, 0), (7, .aload 0, 8, 0), (8, .aload 0, 9, 0), (9, .iload 3, 10, 0), (10, .iload 2, 11, 0), (11, .invokevirtual 700307, 14, 738), (14, .invokevirtual 710207, 17, 749), (17, .aload 0, 18, 0), (18, .getfield 706, 21, 126), (21, .iload 1, 22, 0), (22, .iload 2, 23, 0), (23, .iastore, 24, 0), (24, .aload 0, 25, 0), (25, .aload 0, 26, 0), (26, .getfield 714, 29, 153), (29, .iload 3, 30, 0), (30, .iload 2, 31, 0), (31, .invokevirtual 750407, 34, 750), (34, .istore 4, 36, 0), (36, .iload 4, 38, 0), (38, .ifCond .lt 64, 41, 0), (41, .aload 0, 42, 0), (42, .getfield 714, 45, 153), (45, .iload 4, 47, 0), (47, .aload 0, 48, 0), (48, .getfield 714, 51, 153), (51, .iload 4, 53, 0), (53, .iaload, 54, 0), (54, .aload 0, 55, 0), (55, .getfield 705, 58, 120), (58, .iload 1, 59, 0), (59, .iaload, 60, 0), (60, .invokestatic 760200, 63, 754), (63, .iastore, 64, 0), (64, .aload 0, 65, 0), (65, .getfield 705, 68, 120), (68, .iload 1, 69, 0), (69, .iaload, 70, 0), (70, .ireturn, 71, 0)]
def kX7_firstOwed : List (Nat × Instr × Nat × Nat) := [(0, .iconst 0, 1, 0), (1, .istore 4, 3, 0), (3, .iload 4, 5, 0), (5, .aload 0, 6, 0), (6, .getfield 711, 9, 142), (9, .if_icmp .ge 50, 12, 0), (12, .aload 0, 13, 0), (13, .getfield 712, 16, 146), (16, .iload 4, 18, 0), (18, .iaload, 19, 0), (19, .iload 2, 20, 0), (20, .if_icmp .ne 44, 23, 0), (23, .aload 0, 24, 0), (24, .getfield 713, 27, 149), (27, .iload 4, 29, 0), (29, .iaload, 30, 0), (30, .iload 3, 31, 0), (31, .if_icmp .ne 44, 34, 0), (34, .aload 1, 35, 0), (35, .iload 4, 37, 0), (37, .iaload, 38, 0), (38, .ifCond .eq 44, 41, 0), (41, .iload 4, 43, 0), (43, .ireturn, 44, 0), (44, .iinc 4 1, 47, 0), (47, .goto 3, 50, 0), (50, .iconst (-4), 52, 0), (52, .ireturn, 53, 0)]
def kX7_lessened : List (Nat × Instr × Nat × Nat) := [(0, .iload 1, 1, 0), (1, .invokestatic 1240100, 4, 728), (4, .ifCond .eq 17, 7, 0), (7, .iconst 0, 8, 0), (8, .iload 0, 9, 0), (9, .iload 1, 10, 0), (10, .isub, 11, 0), (11, .invokestatic 2200200, 14, 757), (14, .goto 18, 17, 0), (17, .iload 0, 18, 0), (18, .ireturn, 19, 0)]
def kX8_init_q0 : List (Nat × Instr × Nat × Nat) := [(0, .aload 0, 1, 0), (1, .invokespecial 9990000, 4, 91), (4, .aload 0, 5, 0), (5, .new 7, 8, 94), (8, .dup, 9, 0), (9, .invokespecial 520107, 12, 96), (12, .putfield 800, 15, 399), (15, .aload 0, 16, 0), (16, .new 7, 19, 94), (19, .dup, 20, 0), (20, .invokespecial 520107, 23, 96), (23, .putfield 801, 26, 400), (26, .aload 0, 27, 0), (27, .iconst 2, 28, 0), (28, .anewarray 7, 31, 94), (31, .putfield 802, 34, 401), (34, .aload 0, 35, 0), (35, .iconst 2, 36, 0), (36, .newarray .boolean, 38, 0), (38, .putfield 803, 41, 402), (41, .aload 0, 42, 0), (42, .new 5, 45, 194), (45, .dup, 46, 0), (46, .invokespecial 230105, 49, 196), (49, .putfield 804, 52, 403), (52, .aload 0, 53, 0), (53, .new 4, 56, 239), (56, .dup, 57, 0), (57, .invokespecial 190104, 60, 241), (60, .putfield 805, 63, 404), (63, .aload 0, 64, 0), (64, .iconst 4, 65, 0), (65, .anewarray 3, 68, 272), (68, .putfield 806, 71, 405), (71, .aload 0, 72, 0), (72, .new 1, 75, 274), (75, .dup, 76, 0), (76, .invokespecial 50101, 79, 276), (79, .putfield 807, 82, 406), (82, .aload 0, 83, 0), (83, .new 0, 86, 306), (86, .dup, 87, 0), (87, .invokespecial 100, 90, 308), (90, .putfield 808, 93, 407), (93, .aload 0, 94, 0), (94, .new 2, 97, 334), (97, .dup, 98, 0), (98, .invokespecial 90102, 101, 336), (101, .putfield 809, 104, 408), (104, .aload 0, 105, 0), (105, .new 6, 108, 357), (108, .dup, 109, 0), (109, .invokespecial 450106, 112, 359), (112, .putfield 810, 115, 409), (115, .aload 0, 116, 0), (116, .iconst 0, 117, 0), (117, .putfield 811, 120, 410), (120, .aload 0, 121, 0), (121, .iconst 0, 122, 0), (122, .putfield 812, 125, 411)]
def kX8_init_q1 : List (Nat × Instr × Nat × Nat) := [(125, .iconst 0, 126, 0), (126, .istore 1, 127, 0), (127, .iload 1, 128, 0), (128, .iconst 2, 129, 0), (129, .if_icmp .ge 151, 132, 0), (132, .aload 0, 133, 0), (133, .getfield 802, 136, 401), (136, .iload 1, 137, 0), (137, .new 7, 140, 94), (140, .dup, 141, 0), (141, .invokespecial 520107, 144, 96), (144, .aastore, 145, 0), (145, .iinc 1 1, 148, 0), (148, .goto 127, 151, 0), (151, .iconst 0, 152, 0), (152, .istore 1, 153, 0), (153, .iload 1, 154, 0), (154, .iconst 4, 155, 0), (155, .if_icmp .ge 177, 158, 0), (158, .aload 0, 159, 0), (159, .getfield 806, 162, 405), (162, .iload 1, 163, 0), (163, .new 3, 166, 272), (166, .dup, 167, 0), (167, .invokespecial 130103, 170, 383), (170, .aastore, 171, 0), (171, .iinc 1 1, 174, 0), (174, .goto 153, 177, 0), (177, .return_, 178, 0)]
def kX8_init : List (Nat × Instr × Nat × Nat) := (kX8_init_q0 ++ kX8_init_q1)
def kX8_feed : List (Nat × Instr × Nat × Nat) := [(0, .iload 1, 1, 0), (1, .iconst 0, 2, 0), (2, .iconst 127, 4, 0), (4, .invokestatic 1180300, 7, 443), (7, .ifCond .ne 12, 10, 0), (10, .iconst (-1), 11, 0), (11, .ireturn, 12, 0), (12, .aload 0, 13, 0), (13, .getfield 804, 16, 403), (16, .iload 1, 17, 0), (17, .invokevirtual 240205, 20, 446), (20, .ifCond .eq 33, 23, 0), (23, .aload 0, 24, 0), (24, .getfield 804, 27, 403), (27, .getfield 501, 30, 202), (30, .goto 35, 33, 0), (33, .iconst (-3), 35, 0), (35, .ireturn, 36, 0)]
def kX8_end : List (Nat × Instr × Nat × Nat) := [(0, .iload 1, 1, 0), (1, .iconst 0, 2, 0), (2, .aload 0, 3, 0), (3, .getfield 804, 6, 403), (6, .getfield 501, 9, 202), (9, .invokestatic 1180300, 12, 443), (12, .ifCond .ne 17, 15, 0), (15, .iconst (-1), 16, 0), (16, .ireturn, 17, 0), (17, .aload 0, 18, 0), (18, .getfield 804, 21, 403), (21, .getfield 501, 24, 202), (24, .istore 2, 25, 0), (25, .aload 0, 26, 0), (26, .getfield 804, 29, 403), (29, .iload 1, 30, 0), (30, .putfield 501, 33, 202), (33, .iload 2, 34, 0), (34, .ireturn, 35, 0)]
def kX8_text : List (Nat × Instr × Nat × Nat) := [(0, .aload 0, 1, 0), (1, .getfield 804, 4, 403), (4, .aload 0, 5, 0), (5, .getfield 801, 8, 400), (8, .invokevirtual 250205, 11, 458), (11, .istore 1, 12, 0), (12, .aload 0, 13, 0), (13, .aload 0, 14, 0), (14, .getfield 804, 17, 403), (17, .getfield 502, 20, 204), (20, .putfield 811, 23, 410), (23, .aload 0, 24, 0), (24, .getfield 804, 27, 403), (27, .iconst 0, 28, 0), (28, .putfield 501, 31, 202), (31, .aload 0, 32, 0), (32, .getfield 811, 35, 410), (35, .ifCond .eq 49, 38, 0), (38, .iconst (-10), 40, 0), (40, .aload 0, 41, 0), (41, .getfield 804, 44, 403), (44, .getfield 503, 47, 206), (47, .isub, 48, 0), (48, .ireturn, 49, 0), (49, .aload 0, 50, 0), (50, .getfield 800, 53, 399), (53, .aload 0, 54, 0), (54, .getfield 801, 57, 400), (57, .invokevirtual 540207, 60, 618), (60, .aload 0, 61, 0), (61, .getfield 805, 64, 404), (64, .iconst 0, 65, 0), (65, .putfield 400, 68, 246), (68, .iconst 0, 69, 0), (69, .istore 2, 70, 0), (70, .iload 2, 71, 0), (71, .iconst 2, 72, 0), (72, .if_icmp .ge 88, 75, 0), (75, .aload 0, 76, 0), (76, .getfield 803, 79, 402), (79, .iload 2, 80, 0), (80, .iconst 0, 81, 0), (81, .bastore, 82, 0), (82, .iinc 2 1, 85, 0), (85, .goto 70, 88, 0), (88, .iload 1, 89, 0), (89, .ireturn, 90, 0)]
def kX8_fault : List (Nat × Instr × Nat × Nat) := [(0, .aload 0, 1, 0), (1, .getfield 811, 4, 410), (4, .ireturn, 5, 0)]
def kX8_rule : List (Nat × Instr × Nat × Nat) := [(0, .iload 1, 1, 0), (1, .tableswitch 100 0 6 #[44, 52, 60, 68, 76, 84, 92], 44, 0), (44, .aload 0, 45, 0), (45, .getfield 800, 48, 399), (48, .getfield 700, 51, 103), (51, .ireturn, 52, 0), (52, .aload 0, 53, 0), (53, .getfield 800, 56, 399), (56, .getfield 703, 59, 114), (59, .ireturn, 60, 0), (60, .aload 0, 61, 0), (61, .getfield 800, 64, 399), (64, .getfield 711, 67, 144), (67, .ireturn, 68, 0), (68, .aload 0, 69, 0), (69, .getfield 800, 72, 399), (72, .getfield 707, 75, 130), (75, .ireturn, 76, 0), (76, .aload 0, 77, 0), (77, .getfield 800, 80, 399), (80, .getfield 708, 83, 134), (83, .ireturn, 84, 0), (84, .aload 0, 85, 0), (85, .getfield 800, 88, 399), (88, .getfield 709, 91, 137), (91, .ireturn, 92, 0), (92, .aload 0, 93, 0), (93, .getfield 800, 96, 399), (96, .getfield 715, 99, 158), (99, .ireturn, 100, 0), (100, .iconst (-1), 101, 0), (101, .ireturn, 102, 0)]
def kX8_one : List (Nat × Instr × Nat × Nat) := [(0, .aload 0, 1, 0), (1, .getfield 800, 4, 399), (4, .iload 1, 5, 0), (5, .invokevirtual 550207, 8, 637), (8, .ifCond .ne 13, 11, 0), (11, .iconst (-1), 12, 0), (12, .ireturn, 13, 0), (13, .iload 2, 14, 0), (14, .tableswitch 82 0 3 #[44, 54, 64, 73], 44, 0), (44, .aload 0, 45, 0), (45, .getfield 800, 48, 399), (48, .getfield 701, 51, 108), (51, .iload 1, 52, 0), (52, .iaload, 53, 0), (53, .ireturn, 54, 0), (54, .aload 0, 55, 0), (55, .getfield 800, 58, 399), (58, .getfield 702, 61, 110), (61, .iload 1, 62, 0), (62, .iaload, 63, 0), (63, .ireturn, 64, 0), (64, .aload 0, 65, 0), (65, .getfield 800, 68, 399), (68, .iload 1, 69, 0), (69, .invokevirtual 620207, 72, 638), (72, .ireturn, 73, 0), (73, .aload 0, 74, 0), (74, .getfield 800, 77, 399), (77, .iload 1, 78, 0), (78, .invokevirtual 630207, 81, 642), (81, .ireturn, 82, 0), (82, .iconst (-1), 83, 0), (83, .ireturn, 84, 0)]
def kX8_stone : List (Nat × Instr × Nat × Nat) := [(0, .aload 0, 1, 0), (1, .getfield 800, 4, 399), (4, .iload 1, 5, 0), (5, .invokevirtual 560207, 8, 650), (8, .ifCond .ne 13, 11, 0), (11, .iconst (-1), 12, 0), (12, .ireturn, 13, 0), (13, .iload 2, 14, 0), (14, .tableswitch 108 0 4 #[48, 58, 68, 78, 87], 48, 0), (48, .aload 0, 49, 0), (49, .getfield 800, 52, 399), (52, .getfield 704, 55, 119), (55, .iload 1, 56, 0), (56, .iaload, 57, 0), (57, .ireturn, 58, 0), (58, .aload 0, 59, 0), (59, .getfield 800, 62, 399), (62, .getfield 705, 65, 125), (65, .iload 1, 66, 0), (66, .iaload, 67, 0), (67, .ireturn, 68, 0), (68, .aload 0, 69, 0), (69, .getfield 800, 72, 399), (72, .getfield 706, 75, 128), (75, .iload 1, 76, 0), (76, .iaload, 77, 0), (77, .ireturn, 78, 0), (78, .aload 0, 79, 0), (79, .getfield 800, 82, 399), (82, .iload 1, 83, 0), (83, .invokevirtual 670207, 86, 654), (86, .ireturn, 87, 0), (87, .aload 0, 88, 0), (88, .getfield 800, 91, 399), (91, .getfield 705, 94, 125), (94, .iload 1, 95, 0), (95, .iaload, 96, 0), (96, .invokestatic 1240100, 99, 666), (99, .ifCond .eq 106, 102, 0), (102, .iconst 1, 103, 0), (103, .goto 107, 106, 0), (106, .iconst 0, 107, 0), (107, .ireturn, 108, 0), (108, .iconst (-1), 109, 0), (109, .ireturn, 110, 0)]
def kX8_debt : List (Nat × Instr × Nat × Nat) := [(0, .aload 0, 1, 0), (1, .getfield 800, 4, 399), (4, .iload 1, 5, 0), (5, .invokevirtual 570207, 8, 673), (8, .ifCond .ne 13, 11, 0), (11, .iconst (-1), 12, 0), (12, .ireturn, 13, 0), (13, .iload 2, 14, 0), (14, .tableswitch 70 0 2 #[40, 50, 60], 40, 0), (40, .aload 0, 41, 0), (41, .getfield 800, 44, 399), (44, .getfield 712, 47, 148), (47, .iload 1, 48, 0), (48, .iaload, 49, 0), (49, .ireturn, 50, 0), (50, .aload 0, 51, 0), (51, .getfield 800, 54, 399), (54, .getfield 713, 57, 152), (57, .iload 1, 58, 0), (58, .iaload, 59, 0), (59, .ireturn, 60, 0), (60, .aload 0, 61, 0), (61, .getfield 800, 64, 399), (64, .getfield 714, 67, 156), (67, .iload 1, 68, 0), (68, .iaload, 69, 0), (69, .ireturn, 70, 0), (70, .iconst (-1), 71, 0), (71, .ireturn, 72, 0)]
def kX8_price : List (Nat × Instr × Nat × Nat) := [(0, .iload 1, 1, 0), (1, .iconst 0, 2, 0), (2, .iconst 5, 3, 0), (3, .invokestatic 1180300, 6, 443), (6, .ifCond .eq 21, 9, 0), (9, .aload 0, 10, 0), (10, .getfield 800, 13, 399), (13, .getfield 710, 16, 140), (16, .iload 1, 17, 0), (17, .iaload, 18, 0), (18, .goto 22, 21, 0), (21, .iconst (-1), 22, 0), (22, .ireturn, 23, 0)]
def kX8_dress : List (Nat × Instr × Nat × Nat) := [(0, .aload 0, 1, 0), (1, .getfield 800, 4, 399), (4, .iload 1, 5, 0), (5, .invokevirtual 550207, 8, 637), (8, .ifCond .ne 13, 11, 0), (11, .iconst (-1), 12, 0), (12, .ireturn, 13, 0), (13, .iload 2, 14, 0), (14, .ifCond .ne 39, 17, 0), (17, .iload 3, 18, 0), (18, .iconst 0, 19, 0), (19, .iconst 5, 20, 0), (20, .invokestatic 1180300, 23, 443), (23, .ifCond .eq 39, 26, 0), (26, .aload 0, 27, 0), (27, .getfield 800, 30, 399), (30, .getfield 701, 33, 108), (33, .iload 1, 34, 0), (34, .iload 3, 35, 0), (35, .invokestatic 1210300, 38, 685), (38, .ireturn, 39, 0), (39, .iload 2, 40, 0), (40, .iconst 1, 41, 0), (41, .if_icmp .ne 67, 44, 0), (44, .iload 3, 45, 0), (45, .iconst 0, 46, 0), (46, .iconst 9, 48, 0), (48, .invokestatic 1180300, 51, 443), (51, .ifCond .eq 67, 54, 0), (54, .aload 0, 55, 0), (55, .getfield 800, 58, 399), (58, .getfield 702, 61, 110), (61, .iload 1, 62, 0), (62, .iload 3, 63, 0), (63, .invokestatic 1210300, 66, 685), (66, .ireturn, 67, 0), (67, .iconst (-1), 68, 0), (68, .ireturn, 69, 0)]
def kX8_warm : List (Nat × Instr × Nat × Nat) := [(0, .aload 0, 1, 0), (1, .getfield 800, 4, 399), (4, .iload 1, 5, 0), (5, .invokevirtual 560207, 8, 650), (8, .ifCond .ne 13, 11, 0), (11, .iconst (-1), 12, 0), (12, .ireturn, 13, 0), (13, .iload 2, 14, 0), (14, .ifCond .ne 44, 17, 0), (17, .iload 3, 18, 0), (18, .iconst 0, 19, 0), (19, .getstatic 1, 22, 661), (22, .arraylength, 23, 0), (23, .iconst 1, 24, 0), (24, .isub, 25, 0), (25, .invokestatic 1180300, 28, 443), (28, .ifCond .eq 44, 31, 0), (31, .aload 0, 32, 0), (32, .getfield 800, 35, 399), (35, .getfield 704, 38, 119), (38, .iload 1, 39, 0), (39, .iload 3, 40, 0), (40, .invokestatic 1210300, 43, 685), (43, .ireturn, 44, 0), (44, .iload 2, 45, 0), (45, .iconst 1, 46, 0), (46, .if_icmp .ne 72, 49, 0), (49, .iload 3, 50, 0), (50, .iconst 0, 51, 0), (51, .iconst 99, 53, 0), (53, .invokestatic 1180300, 56, 443), (56, .ifCond .eq 72, 59, 0), (59, .aload 0, 60, 0), (60, .getfield 800, 63, 399), (63, .getfield 705, 66, 125), (66, .iload 1, 67, 0), (67, .iload 3, 68, 0), (68, .invokestatic 1210300, 71, 685), (71, .ireturn, 72, 0), (72, .iconst (-1), 73, 0), (73, .ireturn, 74, 0)]
def kX8_set : List (Nat × Instr × Nat × Nat) := [(0, .iconst (-1), 1, 0), (1, .istore 3, 2, 0), (2, .iload 1, 3, 0), (3, .ifCond .ne 35, 6, 0), (6, .iload 2, 7, 0), (7, .iconst 0, 8, 0), (8, .iconst 10, 10, 0), (10, .invokestatic 1180300, 13, 443), (13, .ifCond .eq 35, 16, 0), (16, .aload 0, 17, 0), (17, .getfield 800, 20, 399), (20, .getfield 709, 23, 137), (23, .istore 3, 24, 0), (24, .aload 0, 25, 0), (25, .getfield 800, 28, 399), (28, .iload 2, 29, 0), (29, .putfield 709, 32, 137), (32, .goto 100, 35, 0), (35, .iload 1, 36, 0), (36, .iconst 1, 37, 0), (37, .if_icmp .ne 69, 40, 0), (40, .iload 2, 41, 0), (41, .iconst 5, 42, 0), (42, .iconst 99, 44, 0), (44, .invokestatic 1180300, 47, 443), (47, .ifCond .eq 69, 50, 0), (50, .aload 0, 51, 0), (51, .getfield 800, 54, 399), (54, .getfield 708, 57, 134), (57, .istore 3, 58, 0), (58, .aload 0, 59, 0), (59, .getfield 800, 62, 399), (62, .iload 2, 63, 0), (63, .putfield 708, 66, 134), (66, .goto 100, 69, 0), (69, .iload 1, 70, 0), (70, .iconst 2, 71, 0), (71, .if_icmp .ne 100, 74, 0), (74, .iload 2, 75, 0), (75, .iconst 0, 76, 0), (76, .iconst 9, 78, 0), (78, .invokestatic 1180300, 81, 443), (81, .ifCond .eq 100, 84, 0), (84, .aload 0, 85, 0), (85, .getfield 800, 88, 399), (88, .getfield 707, 91, 130), (91, .istore 3, 92, 0), (92, .aload 0, 93, 0), (93, .getfield 800, 96, 399), (96, .iload 2, 97, 0), (97, .putfield 707, 100, 130), (100, .iload 3, 101, 0), (101, .ireturn, 102, 0)]
def kX8_ask : List (Nat × Instr × Nat × Nat) := [(0, .iload 1, 1, 0), (1, .iconst 0, 2, 0), (2, .iconst 5, 3, 0), (3, .invokestatic 1180300, 6, 443), (6, .ifCond .eq 19, 9, 0), (9, .iload 2, 10, 0), (10, .iconst 1, 11, 0), (11, .iconst 9, 13, 0), (13, .invokestatic 1180300, 16, 443), (16, .ifCond .ne 21, 19, 0), (19, .iconst (-1), 20, 0), (20, .ireturn, 21, 0), (21, .aload 0, 22, 0), (22, .getfield 800, 25, 399), (25, .getfield 710, 28, 140), (28, .iload 1, 29, 0), (29, .iload 2, 30, 0), (30, .invokestatic 1210300, 33, 685), (33, .ireturn, 34, 0)]
def kX8_owe : List (Nat × Instr × Nat × Nat) := [(0, .aload 0, 1, 0), (1, .getfield 800, 4, 399), (4, .iload 1, 5, 0), (5, .invokevirtual 570207, 8, 673), (8, .ifCond .eq 21, 11, 0), (11, .iload 2, 12, 0), (12, .iconst 0, 13, 0), (13, .iconst 99, 15, 0), (15, .invokestatic 1180300, 18, 443), (18, .ifCond .ne 23, 21, 0), (21, .iconst (-1), 22, 0), (22, .ireturn, 23, 0), (23, .aload 0, 24, 0), (24, .getfield 800, 27, 399), (27, .getfield 714, 30, 156), (30, .iload 1, 31, 0), (31, .iload 2, 32, 0), (32, .invokestatic 1210300, 35, 685), (35, .ireturn, 36, 0)]
def kX8_halve_q0 : List (Nat × Instr × Nat × Nat) := [(0, .aload 0, 1, 0), (1, .getfield 800, 4, 399), (4, .iload 1, 5, 0), (5, .invokevirtual 560207, 8, 650), (8, .ifCond .ne 13, 11, 0), (11, .iconst (-1), 12, 0), (12, .ireturn, 13, 0), (13, .aload 0, 14, 0), (14, .getfield 800, 17, 399), (17, .getfield 705, 20, 125), (20, .iload 1, 21, 0), (21, .iaload, 22, 0), (22, .invokestatic 1240100, 25, 666), (25, .ifCond .ne 31, 28, 0), (28, .iconst (-2), 30, 0), (30, .ireturn, 31, 0), (31, .aload 0, 32, 0), (32, .getfield 800, 35, 399), (35, .getfield 703, 38, 114), (38, .iconst 5, 39, 0), (39, .if_icmp .lt 45, 42, 0), (42, .iconst (-3), 44, 0), (44, .ireturn, 45, 0), (45, .aload 0, 46, 0), (46, .getfield 800, 49, 399), (49, .getfield 705, 52, 125), (52, .iload 1, 53, 0), (53, .iconst 0, 54, 0), (54, .aload 0, 55, 0), (55, .getfield 800, 58, 399), (58, .getfield 705, 61, 125), (61, .iload 1, 62, 0), (62, .iaload, 63, 0), (63, .iconst 2, 64, 0), (64, .idiv, 65, 0), (65, .iconst 1, 66, 0), (66, .isub, 67, 0), (67, .invokestatic 2200200, 70, 663), (70, .iastore, 71, 0), (71, .aload 0, 72, 0), (72, .getfield 800, 75, 399), (75, .aload 0, 76, 0), (76, .getfield 800, 79, 399), (79, .getfield 704, 82, 119), (82, .iload 1, 83, 0), (83, .iaload, 84, 0), (84, .aload 0, 85, 0), (85, .getfield 800, 88, 399), (88, .getfield 705, 91, 125), (91, .iload 1, 92, 0), (92, .iaload, 93, 0), (93, .aload 0, 94, 0), (94, .getfield 800, 97, 399), (97, .getfield 706, 100, 128), (100, .iload 1, 101, 0), (101, .iaload, 102, 0), (102, .invokevirtual 590407, 105, 708), (105, .aload 0, 106, 0), (106, .getfield 800, 109, 399), (109, .getfield 703, 112, 114)]
def kX8_halve_q1 : List (Nat × Instr × Nat × Nat) := [(112, .ireturn, 113, 0)]
def kX8_halve : List (Nat × Instr × Nat × Nat) := (kX8_halve_q0 ++ kX8_halve_q1)
def kX8_go : List (Nat × Instr × Nat × Nat) := [(0, .iload 1, 1, 0), (1, .iconst 0, 2, 0), (2, .iconst 60, 4, 0), (4, .invokestatic 1180300, 7, 443), (7, .ifCond .ne 12, 10, 0), (10, .iconst (-1), 11, 0), (11, .ireturn, 12, 0), (12, .aload 0, 13, 0), (13, .getfield 800, 16, 399), (16, .getfield 715, 19, 158), (19, .iload 1, 20, 0), (20, .iadd, 21, 0), (21, .iconst 1000, 24, 0), (24, .if_icmp .lt 30, 27, 0), (27, .iconst (-3), 29, 0), (29, .ireturn, 30, 0), (30, .aload 0, 31, 0), (31, .getfield 800, 34, 399), (34, .iload 1, 35, 0), (35, .invokevirtual 710207, 38, 713), (38, .aload 0, 39, 0), (39, .getfield 800, 42, 399), (42, .invokevirtual 660107, 45, 724), (45, .ireturn, 46, 0)]
def kX8_pay : List (Nat × Instr × Nat × Nat) := [(0, .aload 0, 1, 0), (1, .getfield 800, 4, 399), (4, .iload 1, 5, 0), (5, .iload 2, 6, 0), (6, .invokevirtual 730307, 9, 733), (9, .istore 3, 10, 0), (10, .iload 3, 11, 0), (11, .ifCond .eq 18, 14, 0), (14, .iload 3, 15, 0), (15, .goto 27, 18, 0), (18, .aload 0, 19, 0), (19, .getfield 800, 22, 399), (22, .iload 1, 23, 0), (23, .iload 2, 24, 0), (24, .invokevirtual 740307, 27, 745), (27, .ireturn, 28, 0)]
def kX8_heat : List (Nat × Instr × Nat × Nat) := [(0, .aload 0, 1, 0), (1, .getfield 800, 4, 399), (4, .iload 1, 5, 0), (5, .invokevirtual 560207, 8, 650), (8, .ifCond .ne 13, 11, 0), (11, .iconst (-1), 12, 0), (12, .ireturn, 13, 0), (13, .aload 0, 14, 0), (14, .getfield 800, 17, 399), (17, .getfield 715, 20, 158), (20, .iconst 2, 21, 0), (21, .aload 0, 22, 0), (22, .getfield 800, 25, 399), (25, .iload 1, 26, 0), (26, .invokevirtual 690207, 29, 762), (29, .imul, 30, 0), (30, .iadd, 31, 0), (31, .iconst 1, 32, 0), (32, .iadd, 33, 0), (33, .iconst 1000, 36, 0), (36, .if_icmp .lt 42, 39, 0), (39, .iconst (-3), 41, 0), (41, .ireturn, 42, 0), (42, .aload 0, 43, 0), (43, .getfield 800, 46, 399), (46, .iload 1, 47, 0), (47, .invokevirtual 720207, 50, 766), (50, .aload 0, 51, 0), (51, .getfield 800, 54, 399), (54, .getfield 705, 57, 125), (57, .iload 1, 58, 0), (58, .iaload, 59, 0), (59, .ireturn, 60, 0)]
def kX8_after : List (Nat × Instr × Nat × Nat) := [(0, .aload 0, 1, 0), (1, .getfield 800, 4, 399), (4, .iload 1, 5, 0), (5, .invokevirtual 560207, 8, 650), (8, .ifCond .eq 21, 11, 0), (11, .iload 2, 12, 0), (12, .iconst 0, 13, 0), (13, .iconst 60, 15, 0), (15, .invokestatic 1180300, 18, 443), (18, .ifCond .ne 23, 21, 0), (21, .iconst (-1), 22, 0), (22, .ireturn, 23, 0), (23, .aload 0, 24, 0), (24, .getfield 800, 27, 399), (27, .getfield 705, 30, 125), (30, .iload 1, 31, 0), (31, .iaload, 32, 0), (32, .aload 0, 33, 0), (33, .getfield 800, 36, 399), (36, .iload 1, 37, 0), (37, .invokevirtual 670207, 40, 654), (40, .iload 2, 41, 0), (41, .invokestatic 1270300, 44, 775), (44, .ireturn, 45, 0)]
def kX8_cold : List (Nat × Instr × Nat × Nat) := [(0, .aload 0, 1, 0), (1, .getfield 800, 4, 399), (4, .iload 1, 5, 0), (5, .invokevirtual 560207, 8, 650), (8, .ifCond .ne 13, 11, 0), (11, .iconst (-1), 12, 0), (12, .ireturn, 13, 0), (13, .aload 0, 14, 0), (14, .getfield 800, 17, 399), (17, .getfield 705, 20, 125), (20, .iload 1, 21, 0), (21, .iaload, 22, 0), (22, .istore 2, 23, 0), (23, .iconst 0, 24, 0), (24, .istore 3, 25, 0), (25, .iconst 0, 26, 0), (26, .istore 4, 28, 0), (28, .iload 4, 30, 0), (30, .iconst 99, 32, 0), (32, .if_icmp .gt 64, 35, 0), (35, .iload 2, 36, 0), (36, .invokestatic 1240100, 39, 666), (39, .ifCond .eq 64, 42, 0), (42, .iload 2, 43, 0), (43, .aload 0, 44, 0), (44, .getfield 800, 47, 399), (47, .iload 1, 48, 0), (48, .invokevirtual 670207, 51, 654), (51, .invokestatic 1260200, 54, 721), (54, .istore 2, 55, 0), (55, .iinc 3 1, 58, 0), (58, .iinc 4 1, 61, 0), (61, .goto 28, 64, 0), (64, .iload 3, 65, 0), (65, .ireturn, 66, 0)]
def kX8_way_q0 : List (Nat × Instr × Nat × Nat) := [(0, .iload 3, 1, 0), (1, .iconst 10, 3, 0), (3, .iconst 13, 5, 0), (5, .invokestatic 1180300, 8, 443), (8, .istore 4, 10, 0), (10, .aload 0, 11, 0), (11, .getfield 800, 14, 399), (14, .iload 1, 15, 0), (15, .invokevirtual 560207, 18, 650), (18, .ifCond .eq 46, 21, 0), (21, .aload 0, 22, 0), (22, .getfield 800, 25, 399), (25, .iload 2, 26, 0), (26, .invokevirtual 550207, 29, 637), (29, .ifCond .eq 46, 32, 0), (32, .iload 3, 33, 0), (33, .iconst 0, 34, 0), (34, .iconst 1, 35, 0), (35, .invokestatic 1180300, 38, 443), (38, .ifCond .ne 48, 41, 0), (41, .iload 4, 43, 0), (43, .ifCond .ne 48, 46, 0), (46, .iconst (-1), 47, 0), (47, .ireturn, 48, 0), (48, .aload 0, 49, 0), (49, .getfield 800, 52, 399), (52, .getfield 706, 55, 128), (55, .iload 1, 56, 0), (56, .iaload, 57, 0), (57, .iload 2, 58, 0), (58, .if_icmp .ne 64, 61, 0), (61, .iconst (-2), 63, 0), (63, .ireturn, 64, 0), (64, .aload 0, 65, 0), (65, .getfield 807, 68, 406), (68, .aload 0, 69, 0), (69, .getfield 800, 72, 399), (72, .iload 1, 73, 0), (73, .iload 2, 74, 0), (74, .invokevirtual 60401, 77, 784), (77, .iload 3, 78, 0), (78, .ifCond .ne 89, 81, 0), (81, .aload 0, 82, 0), (82, .getfield 807, 85, 406), (85, .getfield 103, 88, 286), (88, .ireturn, 89, 0), (89, .iload 3, 90, 0), (90, .iconst 1, 91, 0), (91, .if_icmp .ne 102, 94, 0), (94, .aload 0, 95, 0), (95, .getfield 807, 98, 406), (98, .getfield 104, 101, 288), (101, .ireturn, 102, 0), (102, .iload 3, 103, 0), (103, .iconst 10, 105, 0), (105, .isub, 106, 0), (106, .aload 0, 107, 0), (107, .getfield 807, 110, 406), (110, .getfield 102, 113, 284), (113, .if_icmp .ge 131, 116, 0)]
def kX8_way_q1 : List (Nat × Instr × Nat × Nat) := [(116, .aload 0, 117, 0), (117, .getfield 807, 120, 406), (120, .getfield 101, 123, 282), (123, .iload 3, 124, 0), (124, .iconst 10, 126, 0), (126, .isub, 127, 0), (127, .iaload, 128, 0), (128, .goto 133, 131, 0), (131, .iconst (-4), 133, 0), (133, .ireturn, 134, 0)]
def kX8_way : List (Nat × Instr × Nat × Nat) := (kX8_way_q0 ++ kX8_way_q1)
def kX8_fewest : List (Nat × Instr × Nat × Nat) := [(0, .iload 2, 1, 0), (1, .iconst 10, 3, 0), (3, .iconst 14, 5, 0), (5, .invokestatic 1180300, 8, 443), (8, .istore 3, 9, 0), (9, .aload 0, 10, 0), (10, .getfield 800, 13, 399), (13, .iload 1, 14, 0), (14, .invokevirtual 570207, 17, 673), (17, .ifCond .eq 28, 20, 0), (20, .iload 2, 21, 0), (21, .ifCond .eq 30, 24, 0), (24, .iload 3, 25, 0), (25, .ifCond .ne 30, 28, 0), (28, .iconst (-1), 29, 0), (29, .ireturn, 30, 0), (30, .aload 0, 31, 0), (31, .getfield 808, 34, 407), (34, .aload 0, 35, 0), (35, .getfield 800, 38, 399), (38, .iload 1, 39, 0), (39, .invokevirtual 10300, 42, 804), (42, .ifCond .ne 48, 45, 0), (45, .iconst (-4), 47, 0), (47, .ireturn, 48, 0), (48, .iload 2, 49, 0), (49, .ifCond .ne 60, 52, 0), (52, .aload 0, 53, 0), (53, .getfield 808, 56, 407), (56, .getfield 0, 59, 316), (59, .ireturn, 60, 0), (60, .iload 2, 61, 0), (61, .iconst 10, 63, 0), (63, .isub, 64, 0), (64, .aload 0, 65, 0), (65, .getfield 808, 68, 407), (68, .getfield 0, 71, 316), (71, .if_icmp .ge 89, 74, 0), (74, .aload 0, 75, 0), (75, .getfield 808, 78, 407), (78, .getfield 1, 81, 319), (81, .iload 2, 82, 0), (82, .iconst 10, 84, 0), (84, .isub, 85, 0), (85, .iaload, 86, 0), (86, .goto 91, 89, 0), (89, .iconst (-4), 91, 0), (91, .ireturn, 92, 0)]
def kX8_settle : List (Nat × Instr × Nat × Nat) := [(0, .iload 1, 1, 0), (1, .ifCond .eq 27, 4, 0), (4, .iload 1, 5, 0), (5, .iconst 10, 7, 0), (7, .iconst 10, 9, 0), (9, .aload 0, 10, 0), (10, .getfield 800, 13, 399), (13, .getfield 711, 16, 144), (16, .iadd, 17, 0), (17, .iconst 1, 18, 0), (18, .isub, 19, 0), (19, .invokestatic 1180300, 22, 443), (22, .ifCond .ne 27, 25, 0), (25, .iconst (-1), 26, 0), (26, .ireturn, 27, 0), (27, .aload 0, 28, 0), (28, .getfield 809, 31, 408), (31, .aload 0, 32, 0), (32, .getfield 800, 35, 399), (35, .aload 0, 36, 0), (36, .getfield 808, 39, 407), (39, .invokevirtual 100302, 42, 837), (42, .iload 1, 43, 0), (43, .ifCond .ne 56, 46, 0), (46, .aload 0, 47, 0), (47, .getfield 809, 50, 408), (50, .getfield 200, 53, 343), (53, .goto 68, 56, 0), (56, .aload 0, 57, 0), (57, .getfield 809, 60, 408), (60, .getfield 201, 63, 345), (63, .iload 1, 64, 0), (64, .iconst 10, 66, 0), (66, .isub, 67, 0), (67, .iaload, 68, 0), (68, .ireturn, 69, 0)]
def kX8_wool : List (Nat × Instr × Nat × Nat) := [(0, .aload 0, 1, 0), (1, .getfield 800, 4, 399), (4, .iload 1, 5, 0), (5, .invokevirtual 560207, 8, 650), (8, .ifCond .eq 21, 11, 0), (11, .iload 2, 12, 0), (12, .iconst 0, 13, 0), (13, .iconst 60, 15, 0), (15, .invokestatic 1180300, 18, 443), (18, .ifCond .ne 23, 21, 0), (21, .iconst (-1), 22, 0), (22, .ireturn, 23, 0), (23, .iconst 0, 24, 0), (24, .istore 3, 25, 0), (25, .iload 3, 26, 0), (26, .iconst 5, 27, 0), (27, .if_icmp .gt 70, 30, 0), (30, .aload 0, 31, 0), (31, .getfield 800, 34, 399), (34, .getfield 705, 37, 125), (37, .iload 1, 38, 0), (38, .iaload, 39, 0), (39, .aload 0, 40, 0), (40, .getfield 800, 43, 399), (43, .getfield 704, 46, 119), (46, .iload 1, 47, 0), (47, .iaload, 48, 0), (48, .iload 3, 49, 0), (49, .invokestatic 1250200, 52, 857), (52, .iload 2, 53, 0), (53, .invokestatic 1270300, 56, 775), (56, .invokestatic 1240100, 59, 666), (59, .ifCond .eq 64, 62, 0), (62, .iload 3, 63, 0), (63, .ireturn, 64, 0), (64, .iinc 3 1, 67, 0), (67, .goto 25, 70, 0), (70, .iconst (-4), 72, 0), (72, .ireturn, 73, 0)]
def kX8_walks : List (Nat × Instr × Nat × Nat) := [(0, .aload 0, 1, 0), (1, .getfield 800, 4, 399), (4, .iload 1, 5, 0), (5, .invokevirtual 560207, 8, 650), (8, .ifCond .eq 21, 11, 0), (11, .iload 2, 12, 0), (12, .iconst 0, 13, 0), (13, .iconst 60, 15, 0), (15, .invokestatic 1180300, 18, 443), (18, .ifCond .ne 23, 21, 0), (21, .iconst (-1), 22, 0), (22, .ireturn, 23, 0), (23, .aload 0, 24, 0), (24, .getfield 810, 27, 409), (27, .aload 0, 28, 0), (28, .getfield 800, 31, 399), (31, .iload 1, 32, 0), (32, .iload 2, 33, 0), (33, .invokevirtual 460406, 36, 862), (36, .ireturn, 37, 0)]
def kX8_buys : List (Nat × Instr × Nat × Nat) := [(0, .aload 0, 1, 0), (1, .getfield 800, 4, 399), (4, .iload 1, 5, 0), (5, .invokevirtual 560207, 8, 650), (8, .ifCond .eq 20, 11, 0), (11, .iload 2, 12, 0), (12, .iconst 0, 13, 0), (13, .iconst 1, 14, 0), (14, .invokestatic 1180300, 17, 443), (17, .ifCond .ne 22, 20, 0), (20, .iconst (-1), 21, 0), (21, .ireturn, 22, 0), (22, .iconst 0, 23, 0), (23, .istore 3, 24, 0), (24, .iconst (-1), 25, 0), (25, .istore 4, 27, 0), (27, .aload 0, 28, 0), (28, .getfield 800, 31, 399), (31, .getfield 705, 34, 125), (34, .iload 1, 35, 0), (35, .iaload, 36, 0), (36, .istore 5, 38, 0), (38, .iconst 0, 39, 0), (39, .istore 6, 41, 0), (41, .iload 6, 43, 0), (43, .iconst 5, 44, 0), (44, .if_icmp .gt 95, 47, 0), (47, .aload 0, 48, 0), (48, .getfield 800, 51, 399), (51, .iload 5, 53, 0), (53, .iload 6, 55, 0), (55, .invokevirtual 680307, 58, 897), (58, .istore 7, 60, 0), (60, .iload 7, 62, 0), (62, .iload 4, 64, 0), (64, .if_icmp .le 74, 67, 0), (67, .iload 7, 69, 0), (69, .istore 4, 71, 0), (71, .iload 6, 73, 0), (73, .istore 3, 74, 0), (74, .iload 5, 76, 0), (76, .aload 0, 77, 0), (77, .getfield 800, 80, 399), (80, .iload 1, 81, 0), (81, .invokevirtual 670207, 84, 654), (84, .invokestatic 1260200, 87, 721), (87, .istore 5, 89, 0), (89, .iinc 6 1, 92, 0), (92, .goto 41, 95, 0), (95, .iload 2, 96, 0), (96, .ifCond .ne 103, 99, 0), (99, .iload 3, 100, 0), (100, .goto 105, 103, 0), (103, .iload 4, 105, 0), (105, .ireturn, 106, 0)]
def kX8_lasts : List (Nat × Instr × Nat × Nat) := [(0, .aload 0, 1, 0), (1, .getfield 800, 4, 399), (4, .iload 1, 5, 0), (5, .invokevirtual 560207, 8, 650), (8, .ifCond .eq 30, 11, 0), (11, .iload 2, 12, 0), (12, .iconst 0, 13, 0), (13, .iconst 6, 15, 0), (15, .invokestatic 1180300, 18, 443), (18, .ifCond .eq 30, 21, 0), (21, .iload 3, 22, 0), (22, .iconst 0, 23, 0), (23, .iconst 1, 24, 0), (24, .invokestatic 1180300, 27, 443), (27, .ifCond .ne 34, 30, 0), (30, .ldc2_w 18446744073709551615, 33, 905), (33, .lreturn, 34, 0), (34, .aload 0, 35, 0), (35, .getfield 800, 38, 399), (38, .getfield 705, 41, 125), (41, .iload 1, 42, 0), (42, .iaload, 43, 0), (43, .aload 0, 44, 0), (44, .getfield 800, 47, 399), (47, .iload 1, 48, 0), (48, .invokevirtual 670207, 51, 654), (51, .aload 0, 52, 0), (52, .getfield 800, 55, 399), (55, .getfield 709, 58, 137), (58, .iload 2, 59, 0), (59, .invokestatic 1280400, 62, 906), (62, .iload 2, 63, 0), (63, .iload 3, 64, 0), (64, .invokestatic 1320300, 67, 909), (67, .lreturn, 68, 0)]
def kX8_mean : List (Nat × Instr × Nat × Nat) := [(0, .aload 0, 1, 0), (1, .getfield 800, 4, 399), (4, .iload 1, 5, 0), (5, .invokevirtual 560207, 8, 650), (8, .ifCond .eq 30, 11, 0), (11, .iload 2, 12, 0), (12, .iconst 0, 13, 0), (13, .iconst 6, 15, 0), (15, .invokestatic 1180300, 18, 443), (18, .ifCond .eq 30, 21, 0), (21, .iload 3, 22, 0), (22, .iconst 0, 23, 0), (23, .iconst 1, 24, 0), (24, .invokestatic 1180300, 27, 443), (27, .ifCond .ne 34, 30, 0), (30, .ldc2_w 18446744073709551615, 33, 905), (33, .lreturn, 34, 0), (34, .aload 0, 35, 0), (35, .getfield 800, 38, 399), (38, .getfield 705, 41, 125), (41, .iload 1, 42, 0), (42, .iaload, 43, 0), (43, .aload 0, 44, 0), (44, .getfield 800, 47, 399), (47, .iload 1, 48, 0), (48, .invokevirtual 670207, 51, 654), (51, .aload 0, 52, 0), (52, .getfield 800, 55, 399), (55, .getfield 709, 58, 137), (58, .iload 2, 59, 0), (59, .invokestatic 1290400, 62, 924), (62, .iload 2, 63, 0), (63, .iload 3, 64, 0), (64, .invokestatic 1320300, 67, 909), (67, .lreturn, 68, 0)]
def kX8_spend : List (Nat × Instr × Nat × Nat) := [(0, .aload 0, 1, 0), (1, .getfield 800, 4, 399), (4, .iload 1, 5, 0), (5, .invokevirtual 560207, 8, 650), (8, .ifCond .eq 20, 11, 0), (11, .iload 2, 12, 0), (12, .iconst 0, 13, 0), (13, .iconst 2, 14, 0), (14, .invokestatic 1180300, 17, 443), (17, .ifCond .ne 24, 20, 0), (20, .ldc2_w 18446744073709551615, 23, 905), (23, .lreturn, 24, 0), (24, .aload 0, 25, 0), (25, .getfield 800, 28, 399), (28, .getfield 705, 31, 125), (31, .iload 1, 32, 0), (32, .iaload, 33, 0), (33, .istore 3, 34, 0), (34, .aload 0, 35, 0), (35, .getfield 800, 38, 399), (38, .iload 1, 39, 0), (39, .invokevirtual 670207, 42, 654), (42, .istore 4, 44, 0), (44, .aload 0, 45, 0), (45, .getfield 800, 48, 399), (48, .iload 3, 49, 0), (49, .iconst 0, 50, 0), (50, .invokevirtual 680307, 53, 897), (53, .i2l, 54, 0), (54, .getstatic 2, 57, 912), (57, .iconst 5, 58, 0), (58, .laload, 59, 0), (59, .lmul, 60, 0), (60, .lstore 5, 62, 0), (62, .aload 0, 63, 0), (63, .getfield 800, 66, 399), (66, .iload 3, 67, 0), (67, .iload 4, 69, 0), (69, .iconst 0, 70, 0), (70, .invokestatic 1310400, 73, 931), (73, .lstore 7, 75, 0), (75, .iload 2, 76, 0), (76, .iconst 2, 77, 0), (77, .if_icmp .ne 94, 80, 0), (80, .lload 5, 82, 0), (82, .lload 7, 84, 0), (84, .lcmp, 85, 0), (85, .ifCond .lt 92, 88, 0), (88, .ldc2_w 1, 89, 0), (89, .goto 93, 92, 0), (92, .ldc2_w 0, 93, 0), (93, .lreturn, 94, 0), (94, .lload 5, 96, 0), (96, .lload 7, 98, 0), (98, .invokestatic 2210200, 101, 917), (101, .iconst 5, 102, 0), (102, .iload 2, 103, 0), (103, .invokestatic 1320300, 106, 909), (106, .lreturn, 107, 0)]
def kX8_see : List (Nat × Instr × Nat × Nat) := [(0, .iload 1, 1, 0), (1, .iconst 0, 2, 0), (2, .iconst 20, 4, 0), (4, .invokestatic 1180300, 7, 443), (7, .ifCond .eq 20, 10, 0), (10, .iload 2, 11, 0), (11, .iconst 0, 12, 0), (12, .iconst 99, 14, 0), (14, .invokestatic 1180300, 17, 443), (17, .ifCond .ne 22, 20, 0), (20, .iconst (-1), 21, 0), (21, .ireturn, 22, 0), (22, .aload 0, 23, 0), (23, .getfield 805, 26, 404), (26, .iload 1, 27, 0), (27, .iload 2, 28, 0), (28, .invokevirtual 200304, 31, 941), (31, .ifCond .eq 44, 34, 0), (34, .aload 0, 35, 0), (35, .getfield 805, 38, 404), (38, .getfield 400, 41, 246), (41, .goto 46, 44, 0), (44, .iconst (-3), 46, 0), (46, .ireturn, 47, 0)]
def kX8_forget : List (Nat × Instr × Nat × Nat) := [(0, .iload 1, 1, 0), (1, .iconst 0, 2, 0), (2, .aload 0, 3, 0), (3, .getfield 805, 6, 404), (6, .getfield 400, 9, 246), (9, .invokestatic 1180300, 12, 443), (12, .ifCond .ne 17, 15, 0), (15, .iconst (-1), 16, 0), (16, .ireturn, 17, 0), (17, .aload 0, 18, 0), (18, .getfield 805, 21, 404), (21, .getfield 400, 24, 246), (24, .istore 2, 25, 0), (25, .aload 0, 26, 0), (26, .getfield 805, 29, 404), (29, .iload 1, 30, 0), (30, .putfield 400, 33, 246), (33, .iload 2, 34, 0), (34, .ireturn, 35, 0)]
def kX8_fits : List (Nat × Instr × Nat × Nat) := [(0, .iload 1, 1, 0), (1, .iconst 0, 2, 0), (2, .iconst 3, 3, 0), (3, .invokestatic 1180300, 6, 443), (6, .ifCond .ne 11, 9, 0), (9, .iconst (-1), 10, 0), (10, .ireturn, 11, 0), (11, .aload 0, 12, 0), (12, .getfield 805, 15, 404), (15, .aload 0, 16, 0), (16, .getfield 800, 19, 399), (19, .invokevirtual 210204, 22, 953), (22, .iload 1, 23, 0), (23, .tableswitch 72 0 2 #[48, 56, 64], 48, 0), (48, .aload 0, 49, 0), (49, .getfield 805, 52, 404), (52, .getfield 403, 55, 250), (55, .ireturn, 56, 0), (56, .aload 0, 57, 0), (57, .getfield 805, 60, 404), (60, .getfield 404, 63, 252), (63, .ireturn, 64, 0), (64, .aload 0, 65, 0), (65, .getfield 805, 68, 404), (68, .getfield 405, 71, 254), (71, .ireturn, 72, 0), (72, .aload 0, 73, 0), (73, .getfield 805, 76, 404), (76, .getfield 406, 79, 256), (79, .ireturn, 80, 0)]
def kX8_drift_q0 : List (Nat × Instr × Nat × Nat) := [(0, .iload 2, 1, 0), (1, .iconst 1, 2, 0), (2, .iconst 60, 4, 0), (4, .invokestatic 1180300, 7, 443), (7, .ifCond .eq 19, 10, 0), (10, .iload 3, 11, 0), (11, .iconst 0, 12, 0), (12, .iconst 1, 13, 0), (13, .invokestatic 1180300, 16, 443), (16, .ifCond .ne 21, 19, 0), (19, .iconst (-1), 20, 0), (20, .ireturn, 21, 0), (21, .aload 0, 22, 0), (22, .getfield 800, 25, 399), (25, .getfield 703, 28, 114), (28, .ifCond .le 41, 31, 0), (31, .aload 0, 32, 0), (32, .getfield 800, 35, 399), (35, .getfield 700, 38, 103), (38, .ifCond .gt 44, 41, 0), (41, .iconst (-2), 43, 0), (43, .ireturn, 44, 0), (44, .aload 0, 45, 0), (45, .getfield 801, 48, 400), (48, .aload 0, 49, 0), (49, .getfield 800, 52, 399), (52, .invokevirtual 540207, 55, 618), (55, .iconst 0, 56, 0), (56, .istore 4, 58, 0), (58, .iload 1, 59, 0), (59, .istore 5, 61, 0), (61, .iconst 0, 62, 0), (62, .istore 6, 64, 0), (64, .iload 6, 66, 0), (66, .iload 2, 67, 0), (67, .if_icmp .ge 162, 70, 0), (70, .iload 5, 72, 0), (72, .invokestatic 1220100, 75, 967), (75, .istore 5, 77, 0), (77, .iload 5, 79, 0), (79, .invokestatic 1230100, 82, 971), (82, .aload 0, 83, 0), (83, .getfield 800, 86, 399), (86, .getfield 703, 89, 114), (89, .irem, 90, 0), (90, .istore 7, 92, 0), (92, .iload 5, 94, 0), (94, .invokestatic 1220100, 97, 967), (97, .istore 5, 99, 0), (99, .iload 5, 101, 0), (101, .invokestatic 1230100, 104, 971), (104, .aload 0, 105, 0), (105, .getfield 800, 108, 399), (108, .getfield 700, 111, 103), (111, .irem, 112, 0), (112, .istore 8, 114, 0), (114, .aload 0, 115, 0), (115, .getfield 801, 118, 400), (118, .getfield 706, 121, 128), (121, .iload 7, 123, 0)]
def kX8_drift_q1 : List (Nat × Instr × Nat × Nat) := [(123, .iaload, 124, 0), (124, .iload 8, 126, 0), (126, .if_icmp .ne 140, 129, 0), (129, .aload 0, 130, 0), (130, .getfield 801, 133, 400), (133, .iconst 1, 134, 0), (134, .invokevirtual 710207, 137, 713), (137, .goto 156, 140, 0), (140, .iload 4, 142, 0), (142, .aload 0, 143, 0), (143, .getfield 801, 146, 400), (146, .iload 7, 148, 0), (148, .iload 8, 150, 0), (150, .invokevirtual 740307, 153, 745), (153, .iadd, 154, 0), (154, .istore 4, 156, 0), (156, .iinc 6 1, 159, 0), (159, .goto 64, 162, 0), (162, .iload 3, 163, 0), (163, .ifCond .ne 171, 166, 0), (166, .iload 4, 168, 0), (168, .goto 186, 171, 0), (171, .aload 0, 172, 0), (172, .getfield 801, 175, 400), (175, .getfield 715, 178, 158), (178, .aload 0, 179, 0), (179, .getfield 800, 182, 399), (182, .getfield 715, 185, 158), (185, .isub, 186, 0), (186, .ireturn, 187, 0)]
def kX8_drift : List (Nat × Instr × Nat × Nat) := (kX8_drift_q0 ++ kX8_drift_q1)
def kX8_keep : List (Nat × Instr × Nat × Nat) := [(0, .iload 1, 1, 0), (1, .iconst 0, 2, 0), (2, .iconst 1, 3, 0), (3, .invokestatic 1180300, 6, 443), (6, .ifCond .ne 11, 9, 0), (9, .iconst (-1), 10, 0), (10, .ireturn, 11, 0), (11, .aload 0, 12, 0), (12, .getfield 803, 15, 402), (15, .iload 1, 16, 0), (16, .baload, 17, 0), (17, .ifCond .eq 24, 20, 0), (20, .iconst 1, 21, 0), (21, .goto 25, 24, 0), (24, .iconst 0, 25, 0), (25, .istore 2, 26, 0), (26, .aload 0, 27, 0), (27, .getfield 802, 30, 401), (30, .iload 1, 31, 0), (31, .aaload, 32, 0), (32, .aload 0, 33, 0), (33, .getfield 800, 36, 399), (36, .invokevirtual 540207, 39, 618), (39, .aload 0, 40, 0), (40, .getfield 803, 43, 402), (43, .iload 1, 44, 0), (44, .iconst 1, 45, 0), (45, .bastore, 46, 0), (46, .iload 2, 47, 0), (47, .ireturn, 48, 0)]
def kX8_back : List (Nat × Instr × Nat × Nat) := [(0, .iload 1, 1, 0), (1, .iconst 0, 2, 0), (2, .iconst 1, 3, 0), (3, .invokestatic 1180300, 6, 443), (6, .ifCond .ne 11, 9, 0), (9, .iconst (-1), 10, 0), (10, .ireturn, 11, 0), (11, .aload 0, 12, 0), (12, .getfield 803, 15, 402), (15, .iload 1, 16, 0), (16, .baload, 17, 0), (17, .ifCond .ne 23, 20, 0), (20, .iconst (-2), 22, 0), (22, .ireturn, 23, 0), (23, .aload 0, 24, 0), (24, .getfield 800, 27, 399), (27, .aload 0, 28, 0), (28, .getfield 802, 31, 401), (31, .iload 1, 32, 0), (32, .aaload, 33, 0), (33, .invokevirtual 540207, 36, 618), (36, .aload 0, 37, 0), (37, .getfield 800, 40, 399), (40, .getfield 715, 43, 158), (43, .ireturn, 44, 0)]
def kX8_sheet : List (Nat × Instr × Nat × Nat) := [(0, .iload 1, 1, 0), (1, .invokestatic 1190100, 4, 986), (4, .ifCond .eq 20, 7, 0), (7, .iload 2, 8, 0), (8, .invokestatic 1200100, 11, 989), (11, .ifCond .eq 20, 14, 0), (14, .iload 3, 15, 0), (15, .iconst 40, 17, 0), (17, .if_icmp .le 22, 20, 0), (20, .iconst (-1), 21, 0), (21, .ireturn, 22, 0), (22, .iload 3, 23, 0), (23, .ifCond .ge 29, 26, 0), (26, .iconst (-14), 28, 0), (28, .ireturn, 29, 0), (29, .aload 0, 30, 0), (30, .getfield 806, 33, 405), (33, .iload 1, 34, 0), (34, .aaload, 35, 0), (35, .iload 2, 36, 0), (36, .iload 3, 37, 0), (37, .invokevirtual 150303, 40, 992), (40, .iconst 1, 41, 0), (41, .ireturn, 42, 0)]
def kX8_lay : List (Nat × Instr × Nat × Nat) := [(0, .iload 1, 1, 0), (1, .invokestatic 1190100, 4, 986), (4, .ifCond .ne 9, 7, 0), (7, .iconst (-1), 8, 0), (8, .ireturn, 9, 0), (9, .aload 0, 10, 0), (10, .getfield 806, 13, 405), (13, .iload 1, 14, 0), (14, .aaload, 15, 0), (15, .iload 2, 16, 0), (16, .i2l, 17, 0), (17, .iconst 1, 18, 0), (18, .invokevirtual 170303, 21, 1000), (21, .istore 4, 23, 0), (23, .iload 4, 25, 0), (25, .ifCond .eq 34, 28, 0), (28, .iconst (-10), 30, 0), (30, .iload 4, 32, 0), (32, .isub, 33, 0), (33, .ireturn, 34, 0), (34, .aload 0, 35, 0), (35, .getfield 806, 38, 405), (38, .iload 1, 39, 0), (39, .aaload, 40, 0), (40, .iload 2, 41, 0), (41, .iload 3, 42, 0), (42, .invokevirtual 180303, 45, 1008), (45, .iconst 1, 46, 0), (46, .ireturn, 47, 0)]
def kX8_read_q0 : List (Nat × Instr × Nat × Nat) := [(0, .iload 1, 1, 0), (1, .invokestatic 1190100, 4, 986), (4, .ifCond .eq 25, 7, 0), (7, .iload 2, 8, 0), (8, .invokestatic 1200100, 11, 989), (11, .ifCond .eq 25, 14, 0), (14, .iload 4, 16, 0), (16, .iconst 0, 17, 0), (17, .iconst 20, 19, 0), (19, .invokestatic 1180300, 22, 443), (22, .ifCond .ne 27, 25, 0), (25, .iconst (-1), 26, 0), (26, .ireturn, 27, 0), (27, .aload 0, 28, 0), (28, .getfield 806, 31, 405), (31, .iload 1, 32, 0), (32, .aaload, 33, 0), (33, .astore 5, 35, 0), (35, .aload 0, 36, 0), (36, .getfield 801, 39, 400), (39, .aload 0, 40, 0), (40, .getfield 800, 43, 399), (43, .invokevirtual 540207, 46, 618), (46, .iconst 0, 47, 0), (47, .istore 6, 49, 0), (49, .iconst 0, 50, 0), (50, .istore 7, 52, 0), (52, .iconst 0, 53, 0), (53, .istore 8, 55, 0), (55, .iload 8, 57, 0), (57, .iload 4, 59, 0), (59, .if_icmp .ge 159, 62, 0), (62, .iload 7, 64, 0), (64, .ifCond .ne 159, 67, 0), (67, .iload 3, 68, 0), (68, .i2l, 69, 0), (69, .ldc2_w 2, 72, 1016), (72, .iload 8, 74, 0), (74, .i2l, 75, 0), (75, .lmul, 76, 0), (76, .ladd, 77, 0), (77, .lstore 9, 79, 0), (79, .aload 5, 81, 0), (81, .iload 2, 82, 0), (82, .lload 9, 84, 0), (84, .invokevirtual 160303, 87, 1017), (87, .istore 7, 89, 0), (89, .iload 7, 91, 0), (91, .ifCond .ne 153, 94, 0), (94, .aload 5, 96, 0), (96, .getfield 302, 99, 391), (99, .lload 9, 101, 0), (101, .l2i, 102, 0), (102, .iaload, 103, 0), (103, .istore 11, 105, 0), (105, .aload 5, 107, 0), (107, .getfield 302, 110, 391), (110, .lload 9, 112, 0), (112, .l2i, 113, 0), (113, .iconst 1, 114, 0)]
def kX8_read_q1 : List (Nat × Instr × Nat × Nat) := [(114, .iadd, 115, 0), (115, .iaload, 116, 0), (116, .istore 12, 118, 0), (118, .aload 0, 119, 0), (119, .getfield 801, 122, 400), (122, .iload 11, 124, 0), (124, .iload 12, 126, 0), (126, .invokevirtual 730307, 129, 733), (129, .ifCond .eq 138, 132, 0), (132, .iconst (-20), 134, 0), (134, .iload 8, 136, 0), (136, .isub, 137, 0), (137, .ireturn, 138, 0), (138, .aload 0, 139, 0), (139, .getfield 801, 142, 400), (142, .iload 11, 144, 0), (144, .iload 12, 146, 0), (146, .invokevirtual 740307, 149, 745), (149, .pop, 150, 0), (150, .iinc 6 1, 153, 0), (153, .iinc 8 1, 156, 0), (156, .goto 55, 159, 0), (159, .aload 0, 160, 0), (160, .getfield 800, 163, 399), (163, .aload 0, 164, 0), (164, .getfield 801, 167, 400), (167, .invokevirtual 540207, 170, 618), (170, .aload 0, 171, 0), (171, .iload 7, 173, 0), (173, .putfield 812, 176, 411), (176, .iload 6, 178, 0), (178, .ireturn, 179, 0)]
def kX8_read : List (Nat × Instr × Nat × Nat) := (kX8_read_q0 ++ kX8_read_q1)
def kX8_torn : List (Nat × Instr × Nat × Nat) := [(0, .aload 0, 1, 0), (1, .getfield 812, 4, 411), (4, .ireturn, 5, 0)]
def kX8_count : List (Nat × Instr × Nat × Nat) := [(0, .iload 1, 1, 0), (1, .tableswitch 141 0 6 #[44, 52, 82, 90, 117, 125, 133], 44, 0), (44, .aload 0, 45, 0), (45, .getfield 805, 48, 404), (48, .getfield 400, 51, 246), (51, .ireturn, 52, 0), (52, .aload 0, 53, 0), (53, .getfield 803, 56, 402), (56, .iconst 0, 57, 0), (57, .baload, 58, 0), (58, .ifCond .eq 65, 61, 0), (61, .iconst 1, 62, 0), (62, .goto 66, 65, 0), (65, .iconst 0, 66, 0), (66, .aload 0, 67, 0), (67, .getfield 803, 70, 402), (70, .iconst 1, 71, 0), (71, .baload, 72, 0), (72, .ifCond .eq 79, 75, 0), (75, .iconst 1, 76, 0), (76, .goto 80, 79, 0), (79, .iconst 0, 80, 0), (80, .iadd, 81, 0), (81, .ireturn, 82, 0), (82, .aload 0, 83, 0), (83, .getfield 804, 86, 403), (86, .getfield 501, 89, 202), (89, .ireturn, 90, 0), (90, .aload 0, 91, 0), (91, .getfield 806, 94, 405), (94, .iconst 0, 95, 0), (95, .aaload, 96, 0), (96, .invokevirtual 140103, 99, 1030), (99, .ifCond .eq 114, 102, 0), (102, .aload 0, 103, 0), (103, .getfield 806, 106, 405), (106, .iconst 0, 107, 0), (107, .aaload, 108, 0), (108, .getfield 301, 111, 389), (111, .goto 116, 114, 0), (114, .iconst (-4), 116, 0), (116, .ireturn, 117, 0), (117, .aload 0, 118, 0), (118, .getfield 800, 121, 399), (121, .invokevirtual 660107, 124, 724), (124, .ireturn, 125, 0), (125, .aload 0, 126, 0), (126, .getfield 800, 129, 399), (129, .invokevirtual 640107, 132, 1031), (132, .ireturn, 133, 0), (133, .aload 0, 134, 0), (134, .getfield 800, 137, 399), (137, .invokevirtual 650107, 140, 1035), (140, .ireturn, 141, 0), (141, .iconst (-1), 142, 0), (142, .ireturn, 143, 0)]
def kX8_isIn : List (Nat × Instr × Nat × Nat) := [(0, .iload 0, 1, 0), (1, .iload 1, 2, 0), (2, .if_icmp .lt 14, 5, 0), (5, .iload 0, 6, 0), (6, .iload 2, 7, 0), (7, .if_icmp .gt 14, 10, 0), (10, .iconst 1, 11, 0), (11, .goto 15, 14, 0), (14, .iconst 0, 15, 0), (15, .ireturn, 16, 0)]
def kX8_isSheet : List (Nat × Instr × Nat × Nat) := [(0, .iload 0, 1, 0), (1, .iconst 0, 2, 0), (2, .iconst 3, 3, 0), (3, .invokestatic 1180300, 6, 443), (6, .ireturn, 7, 0)]
def kX8_isLane : List (Nat × Instr × Nat × Nat) := [(0, .iload 0, 1, 0), (1, .iconst 0, 2, 0), (2, .iconst 2, 3, 0), (3, .invokestatic 1180300, 6, 443), (6, .ireturn, 7, 0)]
def kX8_exchange : List (Nat × Instr × Nat × Nat) := [(0, .aload 0, 1, 0), (1, .iload 1, 2, 0), (2, .iaload, 3, 0), (3, .istore 3, 4, 0), (4, .aload 0, 5, 0), (5, .iload 1, 6, 0), (6, .iload 2, 7, 0), (7, .iastore, 8, 0), (8, .iload 3, 9, 0), (9, .ireturn, 10, 0)]
def kX8_nextSeed : List (Nat × Instr × Nat × Nat) := [(0, .iload 0, 1, 0), (1, .iconst 1103515245, 4, 970), (4, .imul, 5, 0), (5, .iconst 12345, 8, 0), (8, .iadd, 9, 0), (9, .ireturn, 10, 0)]
def kX8_seedBits : List (Nat × Instr × Nat × Nat) := [(0, .iload 0, 1, 0), (1, .iconst 16, 3, 0), (3, .iushr, 4, 0), (4, .iconst 32767, 7, 0), (7, .iand, 8, 0), (8, .ireturn, 9, 0)]
def kX8_isWarm : List (Nat × Instr × Nat × Nat) := [(0, .iload 0, 1, 0), (1, .iconst 5, 2, 0), (2, .if_icmp .lt 9, 5, 0), (5, .iconst 1, 6, 0), (6, .goto 10, 9, 0), (9, .iconst 0, 10, 0), (10, .ireturn, 11, 0)]
def kX8_rate : List (Nat × Instr × Nat × Nat) := [(0, .iconst 1, 1, 0), (1, .getstatic 1, 4, 661), (4, .iload 0, 5, 0), (5, .iaload, 6, 0), (6, .iload 1, 7, 0), (7, .isub, 8, 0), (8, .invokestatic 2200200, 11, 663), (11, .ireturn, 12, 0)]
def kX8_cooled : List (Nat × Instr × Nat × Nat) := [(0, .iconst 0, 1, 0), (1, .iload 0, 2, 0), (2, .iconst 1, 3, 0), (3, .isub, 4, 0), (4, .iload 0, 5, 0), (5, .iload 1, 6, 0), (6, .imul, 7, 0), (7, .iconst 20, 9, 0), (9, .idiv, 10, 0), (10, .isub, 11, 0), (11, .invokestatic 2200200, 14, 663), (14, .ireturn, 15, 0)]
def kX8_cooledFor : List (Nat × Instr × Nat × Nat) := [(0, .iload 0, 1, 0), (1, .istore 3, 2, 0), (2, .iconst 0, 3, 0), (3, .istore 4, 5, 0), (5, .iload 4, 7, 0), (7, .iload 2, 8, 0), (8, .if_icmp .ge 23, 11, 0), (11, .iload 3, 12, 0), (12, .iload 1, 13, 0), (13, .invokestatic 1260200, 16, 721), (16, .istore 3, 17, 0), (17, .iinc 4 1, 20, 0), (20, .goto 5, 23, 0), (23, .iload 3, 24, 0), (24, .ireturn, 25, 0)]
def kX8_weightOfWarm : List (Nat × Instr × Nat × Nat) := [(0, .iload 3, 1, 0), (1, .ifCond .gt 17, 4, 0), (4, .iload 0, 5, 0), (5, .invokestatic 1240100, 8, 666), (8, .ifCond .eq 15, 11, 0), (11, .ldc2_w 1, 12, 0), (12, .goto 16, 15, 0), (15, .ldc2_w 0, 16, 0), (16, .lreturn, 17, 0), (17, .iload 0, 18, 0), (18, .iload 1, 19, 0), (19, .invokestatic 1260200, 22, 721), (22, .istore 4, 24, 0), (24, .iload 4, 26, 0), (26, .iload 1, 27, 0), (27, .invokestatic 1260200, 30, 721), (30, .istore 5, 32, 0), (32, .iconst 10, 34, 0), (34, .iload 2, 35, 0), (35, .isub, 36, 0), (36, .i2l, 37, 0), (37, .iload 4, 39, 0), (39, .iload 1, 40, 0), (40, .iload 2, 41, 0), (41, .iload 3, 42, 0), (42, .iconst 1, 43, 0), (43, .isub, 44, 0), (44, .invokestatic 1280400, 47, 906), (47, .lmul, 48, 0), (48, .iload 2, 49, 0), (49, .i2l, 50, 0), (50, .iload 5, 52, 0), (52, .iload 1, 53, 0), (53, .iload 2, 54, 0), (54, .iload 3, 55, 0), (55, .iconst 1, 56, 0), (56, .isub, 57, 0), (57, .invokestatic 1280400, 60, 906), (60, .lmul, 61, 0), (61, .ladd, 62, 0), (62, .lreturn, 63, 0)]
def kX8_weightOfWarmth : List (Nat × Instr × Nat × Nat) := [(0, .iload 3, 1, 0), (1, .ifCond .gt 7, 4, 0), (4, .iload 0, 5, 0), (5, .i2l, 6, 0), (6, .lreturn, 7, 0), (7, .iload 0, 8, 0), (8, .iload 1, 9, 0), (9, .invokestatic 1260200, 12, 721), (12, .istore 4, 14, 0), (14, .iload 4, 16, 0), (16, .iload 1, 17, 0), (17, .invokestatic 1260200, 20, 721), (20, .istore 5, 22, 0), (22, .iconst 10, 24, 0), (24, .iload 2, 25, 0), (25, .isub, 26, 0), (26, .i2l, 27, 0), (27, .iload 4, 29, 0), (29, .iload 1, 30, 0), (30, .iload 2, 31, 0), (31, .iload 3, 32, 0), (32, .iconst 1, 33, 0), (33, .isub, 34, 0), (34, .invokestatic 1290400, 37, 924), (37, .lmul, 38, 0), (38, .iload 2, 39, 0), (39, .i2l, 40, 0), (40, .iload 5, 42, 0), (42, .iload 1, 43, 0), (43, .iload 2, 44, 0), (44, .iload 3, 45, 0), (45, .iconst 1, 46, 0), (46, .isub, 47, 0), (47, .invokestatic 1290400, 50, 924), (50, .lmul, 51, 0), (51, .ladd, 52, 0), (52, .lreturn, 53, 0)]
def kX8_weightBought : List (Nat × Instr × Nat × Nat) := [(0, .iload 3, 1, 0), (1, .iconst 5, 2, 0), (2, .if_icmp .lt 13, 5, 0), (5, .aload 0, 6, 0), (6, .iload 1, 7, 0), (7, .iconst 5, 8, 0), (8, .invokevirtual 680307, 11, 897), (11, .i2l, 12, 0), (12, .lreturn, 13, 0), (13, .aload 0, 14, 0), (14, .iload 1, 15, 0), (15, .iload 3, 16, 0), (16, .invokevirtual 680307, 19, 897), (19, .i2l, 20, 0), (20, .getstatic 2, 23, 912), (23, .iconst 5, 24, 0), (24, .iload 3, 25, 0), (25, .isub, 26, 0), (26, .laload, 27, 0), (27, .lmul, 28, 0), (28, .lstore 4, 30, 0), (30, .lload 4, 32, 0), (32, .aload 0, 33, 0), (33, .iload 1, 34, 0), (34, .iload 2, 35, 0), (35, .iload 3, 36, 0), (36, .invokestatic 1310400, 39, 931), (39, .invokestatic 2210200, 42, 917), (42, .lreturn, 43, 0)]
def kX8_weightBoughtLater : List (Nat × Instr × Nat × Nat) := [(0, .iload 1, 1, 0), (1, .iload 2, 2, 0), (2, .invokestatic 1260200, 5, 721), (5, .istore 4, 7, 0), (7, .iload 4, 9, 0), (9, .iload 2, 10, 0), (10, .invokestatic 1260200, 13, 721), (13, .istore 5, 15, 0), (15, .iconst 10, 17, 0), (17, .aload 0, 18, 0), (18, .getfield 709, 21, 137), (21, .isub, 22, 0), (22, .i2l, 23, 0), (23, .aload 0, 24, 0), (24, .iload 4, 26, 0), (26, .iload 2, 27, 0), (27, .iload 3, 28, 0), (28, .iconst 1, 29, 0), (29, .iadd, 30, 0), (30, .invokestatic 1300400, 33, 934), (33, .lmul, 34, 0), (34, .aload 0, 35, 0), (35, .getfield 709, 38, 137), (38, .i2l, 39, 0), (39, .aload 0, 40, 0), (40, .iload 5, 42, 0), (42, .iload 2, 43, 0), (43, .iload 3, 44, 0), (44, .iconst 1, 45, 0), (45, .iadd, 46, 0), (46, .invokestatic 1300400, 49, 934), (49, .lmul, 50, 0), (50, .ladd, 51, 0), (51, .lreturn, 52, 0)]
def kX8_fractionPart : List (Nat × Instr × Nat × Nat) := [(0, .getstatic 2, 3, 912), (3, .iload 2, 4, 0), (4, .laload, 5, 0), (5, .lstore 4, 7, 0), (7, .ldc2_w 1, 8, 0), (8, .lload 0, 9, 0), (9, .lload 4, 11, 0), (11, .invokestatic 1330200, 14, 914), (14, .invokestatic 2210200, 17, 917), (17, .lstore 6, 19, 0), (19, .iload 3, 20, 0), (20, .ifCond .ne 27, 23, 0), (23, .lload 0, 24, 0), (24, .goto 29, 27, 0), (27, .lload 4, 29, 0), (29, .lload 6, 31, 0), (31, .ldiv, 32, 0), (32, .lreturn, 33, 0)]
def kX8_commonDivisor : List (Nat × Instr × Nat × Nat) := [(0, .lload 2, 1, 0), (1, .lstore 4, 3, 0), (3, .lload 0, 4, 0), (4, .lstore 6, 6, 0), (6, .iconst 0, 7, 0), (7, .istore 8, 9, 0), (9, .iload 8, 11, 0), (11, .iconst 200, 14, 0), (14, .if_icmp .ge 45, 17, 0), (17, .lload 6, 19, 0), (19, .ldc2_w 0, 20, 0), (20, .lcmp, 21, 0), (21, .ifCond .eq 45, 24, 0), (24, .lload 4, 26, 0), (26, .lload 6, 28, 0), (28, .lrem, 29, 0), (29, .lstore 9, 31, 0), (31, .lload 6, 33, 0), (33, .lstore 4, 35, 0), (35, .lload 9, 37, 0), (37, .lstore 6, 39, 0), (39, .iinc 8 1, 42, 0), (42, .goto 9, 45, 0), (45, .lload 4, 47, 0), (47, .lreturn, 48, 0)]
def kX9_init_q0 : List (Nat × Instr × Nat × Nat) := [(0, .aload 0, 1, 0), (1, .invokespecial 9990000, 4, 1044), (4, .aload 0, 5, 0), (5, .iconst 228, 8, 0), (8, .newarray .int, 10, 0), (10, .putfield 900, 13, 1045), (13, .aload 0, 14, 0), (14, .iconst 8, 16, 0), (16, .newarray .int, 18, 0), (18, .putfield 902, 21, 1047), (21, .aload 0, 22, 0), (22, .iconst 4, 23, 0), (23, .newarray .int, 25, 0), (25, .dup, 26, 0), (26, .iconst 0, 27, 0), (27, .iconst 6, 29, 0), (29, .iastore, 30, 0), (30, .dup, 31, 0), (31, .iconst 1, 32, 0), (32, .iconst 4, 33, 0), (33, .iastore, 34, 0), (34, .dup, 35, 0), (35, .iconst 2, 36, 0), (36, .iconst 8, 38, 0), (38, .iastore, 39, 0), (39, .dup, 40, 0), (40, .iconst 3, 41, 0), (41, .iconst 3, 42, 0), (42, .iastore, 43, 0), (43, .putfield 904, 46, 1049), (46, .aload 0, 47, 0), (47, .iconst 38, 49, 0), (49, .newarray .int, 51, 0), (51, .putfield 905, 54, 1050), (54, .aload 0, 55, 0), (55, .iconst 8, 57, 0), (57, .newarray .int, 59, 0), (59, .putfield 906, 62, 1051), (62, .aload 0, 63, 0), (63, .iconst 160, 66, 0), (66, .newarray .int, 68, 0), (68, .putfield 912, 71, 1057), (71, .aload 0, 72, 0), (72, .iconst 10, 74, 0), (74, .newarray .int, 76, 0), (76, .dup, 77, 0), (77, .iconst 0, 78, 0), (78, .iconst 0, 79, 0), (79, .iastore, 80, 0), (80, .dup, 81, 0), (81, .iconst 1, 82, 0), (82, .iconst 5, 83, 0), (83, .iastore, 84, 0), (84, .dup, 85, 0), (85, .iconst 2, 86, 0), (86, .iconst 10, 88, 0), (88, .iastore, 89, 0), (89, .dup, 90, 0), (90, .iconst 3, 91, 0), (91, .iconst 15, 93, 0)]
def kX9_init_q1 : List (Nat × Instr × Nat × Nat) := [(93, .iastore, 94, 0), (94, .dup, 95, 0), (95, .iconst 4, 96, 0), (96, .iconst 19, 98, 0), (98, .iastore, 99, 0), (99, .dup, 100, 0), (100, .iconst 5, 101, 0), (101, .iconst 22, 103, 0), (103, .iastore, 104, 0), (104, .dup, 105, 0), (105, .iconst 6, 107, 0), (107, .iconst 26, 109, 0), (109, .iastore, 110, 0), (110, .dup, 111, 0), (111, .iconst 7, 113, 0), (113, .iconst 30, 115, 0), (115, .iastore, 116, 0), (116, .dup, 117, 0), (117, .iconst 8, 119, 0), (119, .iconst 34, 121, 0), (121, .iastore, 122, 0), (122, .dup, 123, 0), (123, .iconst 9, 125, 0), (125, .iconst 39, 127, 0), (127, .iastore, 128, 0), (128, .putfield 921, 131, 1066), (131, .aload 0, 132, 0), (132, .iconst 39, 134, 0), (134, .newarray .int, 136, 0), (136, .dup, 137, 0), (137, .iconst 0, 138, 0), (138, .iconst 112, 140, 0), (140, .iastore, 141, 0), (141, .dup, 142, 0), (142, .iconst 1, 143, 0), (143, .iconst 108, 145, 0), (145, .iastore, 146, 0), (146, .dup, 147, 0), (147, .iconst 2, 148, 0), (148, .iconst 97, 150, 0), (150, .iastore, 151, 0), (151, .dup, 152, 0), (152, .iconst 3, 153, 0), (153, .iconst 105, 155, 0), (155, .iastore, 156, 0), (156, .dup, 157, 0), (157, .iconst 4, 158, 0), (158, .iconst 110, 160, 0), (160, .iastore, 161, 0), (161, .dup, 162, 0), (162, .iconst 5, 163, 0), (163, .iconst 102, 165, 0), (165, .iastore, 166, 0), (166, .dup, 167, 0), (167, .iconst 6, 169, 0), (169, .iconst 108, 171, 0), (171, .iastore, 172, 0), (172, .dup, 173, 0), (173, .iconst 7, 175, 0), (175, .iconst 105, 177, 0)]
def kX9_init_q2 : List (Nat × Instr × Nat × Nat) := [(177, .iastore, 178, 0), (178, .dup, 179, 0), (179, .iconst 8, 181, 0), (181, .iconst 110, 183, 0), (183, .iastore, 184, 0), (184, .dup, 185, 0), (185, .iconst 9, 187, 0), (187, .iconst 116, 189, 0), (189, .iastore, 190, 0), (190, .dup, 191, 0), (191, .iconst 10, 193, 0), (193, .iconst 115, 195, 0), (195, .iastore, 196, 0), (196, .dup, 197, 0), (197, .iconst 11, 199, 0), (199, .iconst 108, 201, 0), (201, .iastore, 202, 0), (202, .dup, 203, 0), (203, .iconst 12, 205, 0), (205, .iconst 97, 207, 0), (207, .iastore, 208, 0), (208, .dup, 209, 0), (209, .iconst 13, 211, 0), (211, .iconst 116, 213, 0), (213, .iastore, 214, 0), (214, .dup, 215, 0), (215, .iconst 14, 217, 0), (217, .iconst 101, 219, 0), (219, .iastore, 220, 0), (220, .dup, 221, 0), (221, .iconst 15, 223, 0), (223, .iconst 115, 225, 0), (225, .iastore, 226, 0), (226, .dup, 227, 0), (227, .iconst 16, 229, 0), (229, .iconst 111, 231, 0), (231, .iastore, 232, 0), (232, .dup, 233, 0), (233, .iconst 17, 235, 0), (235, .iconst 97, 237, 0), (237, .iastore, 238, 0), (238, .dup, 239, 0), (239, .iconst 18, 241, 0), (241, .iconst 112, 243, 0), (243, .iastore, 244, 0), (244, .dup, 245, 0), (245, .iconst 19, 247, 0), (247, .iconst 109, 249, 0), (249, .iastore, 250, 0), (250, .dup, 251, 0), (251, .iconst 20, 253, 0), (253, .iconst 97, 255, 0), (255, .iastore, 256, 0), (256, .dup, 257, 0), (257, .iconst 21, 259, 0), (259, .iconst 110, 261, 0), (261, .iastore, 262, 0), (262, .dup, 263, 0), (263, .iconst 22, 265, 0), (265, .iconst 100, 267, 0)]
def kX9_init_q3 : List (Nat × Instr × Nat × Nat) := [(267, .iastore, 268, 0), (268, .dup, 269, 0), (269, .iconst 23, 271, 0), (271, .iconst 101, 273, 0), (273, .iastore, 274, 0), (274, .dup, 275, 0), (275, .iconst 24, 277, 0), (277, .iconst 98, 279, 0), (279, .iastore, 280, 0), (280, .dup, 281, 0), (281, .iconst 25, 283, 0), (283, .iconst 116, 285, 0), (285, .iastore, 286, 0), (286, .dup, 287, 0), (287, .iconst 26, 289, 0), (289, .iconst 111, 291, 0), (291, .iastore, 292, 0), (292, .dup, 293, 0), (293, .iconst 27, 295, 0), (295, .iconst 118, 297, 0), (297, .iastore, 298, 0), (298, .dup, 299, 0), (299, .iconst 28, 301, 0), (301, .iconst 101, 303, 0), (303, .iastore, 304, 0), (304, .dup, 305, 0), (305, .iconst 29, 307, 0), (307, .iconst 110, 309, 0), (309, .iastore, 310, 0), (310, .dup, 311, 0), (311, .iconst 30, 313, 0), (313, .iconst 119, 315, 0), (315, .iastore, 316, 0), (316, .dup, 317, 0), (317, .iconst 31, 319, 0), (319, .iconst 105, 321, 0), (321, .iastore, 322, 0), (322, .dup, 323, 0), (323, .iconst 32, 325, 0), (325, .iconst 110, 327, 0), (327, .iastore, 328, 0), (328, .dup, 329, 0), (329, .iconst 33, 331, 0), (331, .iconst 100, 333, 0), (333, .iastore, 334, 0), (334, .dup, 335, 0), (335, .iconst 34, 337, 0), (337, .iconst 112, 339, 0), (339, .iastore, 340, 0), (340, .dup, 341, 0), (341, .iconst 35, 343, 0), (343, .iconst 114, 345, 0), (345, .iastore, 346, 0), (346, .dup, 347, 0), (347, .iconst 36, 349, 0), (349, .iconst 105, 351, 0), (351, .iastore, 352, 0), (352, .dup, 353, 0), (353, .iconst 37, 355, 0), (355, .iconst 99, 357, 0)]
def kX9_init_q4 : List (Nat × Instr × Nat × Nat) := [(357, .iastore, 358, 0), (358, .dup, 359, 0), (359, .iconst 38, 361, 0), (361, .iconst 101, 363, 0), (363, .iastore, 364, 0), (364, .putfield 922, 367, 1067), (367, .aload 0, 368, 0), (368, .iconst 3, 369, 0), (369, .newarray .int, 371, 0), (371, .putfield 923, 374, 1068), (374, .aload 0, 375, 0), (375, .iconst 5, 376, 0), (376, .newarray .int, 378, 0), (378, .putfield 925, 381, 1070), (381, .aload 0, 382, 0), (382, .iconst 5, 383, 0), (383, .newarray .int, 385, 0), (385, .putfield 926, 388, 1071), (388, .aload 0, 389, 0), (389, .iconst 4, 390, 0), (390, .newarray .int, 392, 0), (392, .putfield 927, 395, 1072), (395, .aload 0, 396, 0), (396, .iconst 6100, 399, 0), (399, .newarray .int, 401, 0), (401, .putfield 928, 404, 1073), (404, .aload 0, 405, 0), (405, .iconst 100, 407, 0), (407, .newarray .long, 409, 0), (409, .putfield 929, 412, 1074), (412, .aload 0, 413, 0), (413, .iconst 100, 415, 0), (415, .newarray .long, 417, 0), (417, .putfield 930, 420, 1075), (420, .aload 0, 421, 0), (421, .iconst 12, 423, 0), (423, .newarray .int, 425, 0), (425, .putfield 932, 428, 1077), (428, .aload 0, 429, 0), (429, .iconst 2, 430, 0), (430, .newarray .boolean, 432, 0), (432, .putfield 935, 435, 1080), (435, .aload 0, 436, 0), (436, .iconst 4, 437, 0), (437, .newarray .int, 439, 0), (439, .dup, 440, 0), (440, .iconst 0, 441, 0), (441, .iconst (-4), 443, 0), (443, .iastore, 444, 0), (444, .dup, 445, 0), (445, .iconst 1, 446, 0), (446, .iconst (-4), 448, 0), (448, .iastore, 449, 0), (449, .dup, 450, 0), (450, .iconst 2, 451, 0), (451, .iconst (-4), 453, 0), (453, .iastore, 454, 0), (454, .dup, 455, 0), (455, .iconst 3, 456, 0), (456, .iconst (-4), 458, 0)]
def kX9_init_q5 : List (Nat × Instr × Nat × Nat) := [(458, .iastore, 459, 0), (459, .putfield 936, 462, 1081), (462, .aload 0, 463, 0), (463, .iconst 4, 464, 0), (464, .newarray .int, 466, 0), (466, .putfield 937, 469, 1082), (469, .aload 0, 470, 0), (470, .iconst 160, 473, 0), (473, .newarray .int, 475, 0), (475, .putfield 938, 478, 1083), (478, .return_, 479, 0)]
def kX9_init : List (Nat × Instr × Nat × Nat) := (kX9_init_q0 ++ (kX9_init_q1 ++ (kX9_init_q2 ++ (kX9_init_q3 ++ (kX9_init_q4 ++ kX9_init_q5)))))
def kX9_in : List (Nat × Instr × Nat × Nat) := [(0, .lload 0, 1, 0), (1, .lload 2, 2, 0), (2, .lcmp, 3, 0), (3, .ifCond .lt 17, 6, 0), (6, .lload 0, 7, 0), (7, .lload 4, 9, 0), (9, .lcmp, 10, 0), (10, .ifCond .gt 17, 13, 0), (13, .iconst 1, 14, 0), (14, .goto 18, 17, 0), (17, .iconst 0, 18, 0), (18, .ireturn, 19, 0)]
def kX9_feed : List (Nat × Instr × Nat × Nat) := [(0, .iload 1, 1, 0), (1, .i2l, 2, 0), (2, .ldc2_w 0, 3, 0), (3, .ldc2_w 127, 6, 1171), (6, .invokestatic 1350300, 9, 1172), (9, .ifCond .ne 14, 12, 0), (12, .iconst (-1), 13, 0), (13, .ireturn, 14, 0), (14, .aload 0, 15, 0), (15, .getfield 913, 18, 1058), (18, .iconst 160, 21, 0), (21, .if_icmp .ne 27, 24, 0), (24, .iconst (-3), 26, 0), (26, .ireturn, 27, 0), (27, .aload 0, 28, 0), (28, .getfield 912, 31, 1057), (31, .aload 0, 32, 0), (32, .getfield 913, 35, 1058), (35, .iload 1, 36, 0), (36, .iastore, 37, 0), (37, .aload 0, 38, 0), (38, .dup, 39, 0), (39, .getfield 913, 42, 1058), (42, .iconst 1, 43, 0), (43, .iadd, 44, 0), (44, .putfield 913, 47, 1058), (47, .aload 0, 48, 0), (48, .getfield 913, 51, 1058), (51, .ireturn, 52, 0)]
def kX9_end : List (Nat × Instr × Nat × Nat) := [(0, .iload 1, 1, 0), (1, .i2l, 2, 0), (2, .ldc2_w 0, 3, 0), (3, .aload 0, 4, 0), (4, .getfield 913, 7, 1058), (7, .i2l, 8, 0), (8, .invokestatic 1350300, 11, 1172), (11, .ifCond .ne 16, 14, 0), (14, .iconst (-1), 15, 0), (15, .ireturn, 16, 0), (16, .aload 0, 17, 0), (17, .getfield 913, 20, 1058), (20, .istore 2, 21, 0), (21, .aload 0, 22, 0), (22, .iload 1, 23, 0), (23, .putfield 913, 26, 1058), (26, .iload 2, 27, 0), (27, .ireturn, 28, 0)]
def kX9_byteAt : List (Nat × Instr × Nat × Nat) := [(0, .iload 1, 1, 0), (1, .aload 0, 2, 0), (2, .getfield 913, 5, 1058), (5, .if_icmp .ge 17, 8, 0), (8, .aload 0, 9, 0), (9, .getfield 912, 12, 1057), (12, .iload 1, 13, 0), (13, .iaload, 14, 0), (14, .goto 19, 17, 0), (17, .iconst (-4), 19, 0), (19, .ireturn, 20, 0)]
def kX9_fails : List (Nat × Instr × Nat × Nat) := [(0, .aload 0, 1, 0), (1, .getfield 915, 4, 1060), (4, .ifCond .ne 20, 7, 0), (7, .aload 0, 8, 0), (8, .iload 1, 9, 0), (9, .putfield 915, 12, 1060), (12, .aload 0, 13, 0), (13, .aload 0, 14, 0), (14, .getfield 918, 17, 1063), (17, .putfield 916, 20, 1061), (20, .return_, 21, 0)]
def kX9_nameHere_q0 : List (Nat × Instr × Nat × Nat) := [(0, .iconst 0, 1, 0), (1, .istore 1, 2, 0), (2, .iload 1, 3, 0), (3, .iconst 9, 5, 0), (5, .if_icmp .ge 118, 8, 0), (8, .aload 0, 9, 0), (9, .getfield 919, 12, 1064), (12, .iconst 1, 13, 0), (13, .if_icmp .ne 118, 16, 0), (16, .aload 0, 17, 0), (17, .getfield 917, 20, 1062), (20, .aload 0, 21, 0), (21, .getfield 918, 24, 1063), (24, .isub, 25, 0), (25, .aload 0, 26, 0), (26, .getfield 921, 29, 1066), (29, .iload 1, 30, 0), (30, .iconst 1, 31, 0), (31, .iadd, 32, 0), (32, .iaload, 33, 0), (33, .aload 0, 34, 0), (34, .getfield 921, 37, 1066), (37, .iload 1, 38, 0), (38, .iaload, 39, 0), (39, .isub, 40, 0), (40, .if_icmp .ne 47, 43, 0), (43, .iconst 1, 44, 0), (44, .goto 48, 47, 0), (47, .iconst 0, 48, 0), (48, .istore 2, 49, 0), (49, .iconst 0, 50, 0), (50, .istore 3, 51, 0), (51, .iload 2, 52, 0), (52, .ifCond .eq 106, 55, 0), (55, .iload 3, 56, 0), (56, .aload 0, 57, 0), (57, .getfield 917, 60, 1062), (60, .aload 0, 61, 0), (61, .getfield 918, 64, 1063), (64, .isub, 65, 0), (65, .if_icmp .ge 106, 68, 0), (68, .aload 0, 69, 0), (69, .aload 0, 70, 0), (70, .getfield 918, 73, 1063), (73, .iload 3, 74, 0), (74, .iadd, 75, 0), (75, .invokevirtual 1380209, 78, 1187), (78, .aload 0, 79, 0), (79, .getfield 922, 82, 1067), (82, .aload 0, 83, 0), (83, .getfield 921, 86, 1066), (86, .iload 1, 87, 0), (87, .iaload, 88, 0), (88, .iload 3, 89, 0), (89, .iadd, 90, 0), (90, .iaload, 91, 0), (91, .if_icmp .ne 98, 94, 0), (94, .iconst 1, 95, 0), (95, .goto 99, 98, 0), (98, .iconst 0, 99, 0)]
def kX9_nameHere_q1 : List (Nat × Instr × Nat × Nat) := [(99, .istore 2, 100, 0), (100, .iinc 3 1, 103, 0), (103, .goto 51, 106, 0), (106, .iload 2, 107, 0), (107, .ifCond .eq 112, 110, 0), (110, .iload 1, 111, 0), (111, .ireturn, 112, 0), (112, .iinc 1 1, 115, 0), (115, .goto 2, 118, 0), (118, .iconst (-4), 120, 0), (120, .ireturn, 121, 0)]
def kX9_nameHere : List (Nat × Instr × Nat × Nat) := (kX9_nameHere_q0 ++ kX9_nameHere_q1)
def kX9_step_q0 : List (Nat × Instr × Nat × Nat) := [(0, .aload 0, 1, 0), (1, .getfield 915, 4, 1060), (4, .ifCond .le 8, 7, 0), (7, .return_, 8, 0), (8, .aload 0, 9, 0), (9, .aload 0, 10, 0), (10, .getfield 917, 13, 1062), (13, .invokevirtual 1380209, 16, 1187), (16, .iconst 32, 18, 0), (18, .if_icmp .ne 34, 21, 0), (21, .aload 0, 22, 0), (22, .dup, 23, 0), (23, .getfield 917, 26, 1062), (26, .iconst 1, 27, 0), (27, .iadd, 28, 0), (28, .putfield 917, 31, 1062), (31, .goto 8, 34, 0), (34, .aload 0, 35, 0), (35, .aload 0, 36, 0), (36, .getfield 917, 39, 1062), (39, .putfield 918, 42, 1063), (42, .aload 0, 43, 0), (43, .aload 0, 44, 0), (44, .getfield 917, 47, 1062), (47, .invokevirtual 1380209, 50, 1187), (50, .istore 1, 51, 0), (51, .aload 0, 52, 0), (52, .iconst 0, 53, 0), (53, .putfield 920, 56, 1065), (56, .iload 1, 57, 0), (57, .iconst (-4), 59, 0), (59, .if_icmp .ne 70, 62, 0), (62, .aload 0, 63, 0), (63, .iconst 0, 64, 0), (64, .putfield 919, 67, 1064), (67, .goto 269, 70, 0), (70, .iload 1, 71, 0), (71, .i2l, 72, 0), (72, .ldc2_w 97, 75, 1191), (75, .ldc2_w 122, 78, 1192), (78, .invokestatic 1350300, 81, 1172), (81, .ifCond .eq 126, 84, 0), (84, .aload 0, 85, 0), (85, .aload 0, 86, 0), (86, .getfield 917, 89, 1062), (89, .invokevirtual 1380209, 92, 1187), (92, .i2l, 93, 0), (93, .ldc2_w 97, 96, 1191), (96, .ldc2_w 122, 99, 1192), (99, .invokestatic 1350300, 102, 1172), (102, .ifCond .eq 118, 105, 0), (105, .aload 0, 106, 0), (106, .dup, 107, 0), (107, .getfield 917, 110, 1062), (110, .iconst 1, 111, 0), (111, .iadd, 112, 0), (112, .putfield 917, 115, 1062), (115, .goto 84, 118, 0), (118, .aload 0, 119, 0), (119, .iconst 1, 120, 0)]
def kX9_step_q1 : List (Nat × Instr × Nat × Nat) := [(120, .putfield 919, 123, 1064), (123, .goto 269, 126, 0), (126, .iload 1, 127, 0), (127, .i2l, 128, 0), (128, .ldc2_w 48, 131, 1193), (131, .ldc2_w 57, 134, 1194), (134, .invokestatic 1350300, 137, 1172), (137, .ifCond .eq 243, 140, 0), (140, .aload 0, 141, 0), (141, .aload 0, 142, 0), (142, .getfield 917, 145, 1062), (145, .invokevirtual 1380209, 148, 1187), (148, .i2l, 149, 0), (149, .ldc2_w 48, 152, 1193), (152, .ldc2_w 57, 155, 1194), (155, .invokestatic 1350300, 158, 1172), (158, .ifCond .eq 217, 161, 0), (161, .aload 0, 162, 0), (162, .aload 0, 163, 0), (163, .getfield 917, 166, 1062), (166, .aload 0, 167, 0), (167, .getfield 918, 170, 1063), (170, .isub, 171, 0), (171, .iconst 2, 172, 0), (172, .if_icmp .ge 197, 175, 0), (175, .iconst 10, 177, 0), (177, .aload 0, 178, 0), (178, .getfield 920, 181, 1065), (181, .imul, 182, 0), (182, .aload 0, 183, 0), (183, .aload 0, 184, 0), (184, .getfield 917, 187, 1062), (187, .invokevirtual 1380209, 190, 1187), (190, .iadd, 191, 0), (191, .iconst 48, 193, 0), (193, .isub, 194, 0), (194, .goto 201, 197, 0), (197, .aload 0, 198, 0), (198, .getfield 920, 201, 1065), (201, .putfield 920, 204, 1065), (204, .aload 0, 205, 0), (205, .dup, 206, 0), (206, .getfield 917, 209, 1062), (209, .iconst 1, 210, 0), (210, .iadd, 211, 0), (211, .putfield 917, 214, 1062), (214, .goto 140, 217, 0), (217, .aload 0, 218, 0), (218, .iconst 2, 219, 0), (219, .putfield 919, 222, 1064), (222, .aload 0, 223, 0), (223, .getfield 917, 226, 1062), (226, .aload 0, 227, 0), (227, .getfield 918, 230, 1063), (230, .isub, 231, 0), (231, .iconst 2, 232, 0), (232, .if_icmp .le 269, 235, 0), (235, .aload 0, 236, 0), (236, .iconst 1, 237, 0), (237, .invokevirtual 1390209, 240, 1195)]
def kX9_step_q2 : List (Nat × Instr × Nat × Nat) := [(240, .goto 269, 243, 0), (243, .aload 0, 244, 0), (244, .iconst 3, 245, 0), (245, .putfield 919, 248, 1064), (248, .aload 0, 249, 0), (249, .dup, 250, 0), (250, .getfield 917, 253, 1062), (253, .iconst 1, 254, 0), (254, .iadd, 255, 0), (255, .putfield 917, 258, 1062), (258, .iload 1, 259, 0), (259, .iconst 59, 261, 0), (261, .if_icmp .eq 269, 264, 0), (264, .aload 0, 265, 0), (265, .iconst 1, 266, 0), (266, .invokevirtual 1390209, 269, 1195), (269, .return_, 270, 0)]
def kX9_step : List (Nat × Instr × Nat × Nat) := (kX9_step_q0 ++ (kX9_step_q1 ++ kX9_step_q2))
def kX9_number : List (Nat × Instr × Nat × Nat) := [(0, .aload 0, 1, 0), (1, .getfield 915, 4, 1060), (4, .ifCond .ne 20, 7, 0), (7, .aload 0, 8, 0), (8, .getfield 919, 11, 1064), (11, .iconst 2, 12, 0), (12, .if_icmp .eq 20, 15, 0), (15, .aload 0, 16, 0), (16, .iconst 2, 17, 0), (17, .invokevirtual 1390209, 20, 1195), (20, .aload 0, 21, 0), (21, .getfield 915, 24, 1060), (24, .ifCond .ne 47, 27, 0), (27, .aload 0, 28, 0), (28, .getfield 920, 31, 1065), (31, .i2l, 32, 0), (32, .iload 1, 33, 0), (33, .i2l, 34, 0), (34, .iload 2, 35, 0), (35, .i2l, 36, 0), (36, .invokestatic 1350300, 39, 1172), (39, .ifCond .ne 47, 42, 0), (42, .aload 0, 43, 0), (43, .iconst 3, 44, 0), (44, .invokevirtual 1390209, 47, 1195), (47, .aload 0, 48, 0), (48, .getfield 915, 51, 1060), (51, .ifCond .ne 61, 54, 0), (54, .aload 0, 55, 0), (55, .getfield 920, 58, 1065), (58, .goto 62, 61, 0), (61, .iload 1, 62, 0), (62, .istore 3, 63, 0), (63, .aload 0, 64, 0), (64, .invokevirtual 1410109, 67, 1183), (67, .iload 3, 68, 0), (68, .ireturn, 69, 0)]
def kX9_oneHere : List (Nat × Instr × Nat × Nat) := [(0, .aload 0, 1, 0), (1, .iconst 0, 2, 0), (2, .iconst 3, 3, 0), (3, .invokevirtual 1420309, 6, 1214), (6, .istore 1, 7, 0), (7, .aload 0, 8, 0), (8, .iload 1, 9, 0), (9, .aload 0, 10, 0), (10, .getfield 911, 13, 1056), (13, .if_icmp .le 20, 16, 0), (16, .iload 1, 17, 0), (17, .goto 24, 20, 0), (20, .aload 0, 21, 0), (21, .getfield 911, 24, 1056), (24, .putfield 911, 27, 1056), (27, .iload 1, 28, 0), (28, .ireturn, 29, 0)]
def kX9_readDebt : List (Nat × Instr × Nat × Nat) := [(0, .aload 0, 1, 0), (1, .invokevirtual 1430109, 4, 1218), (4, .istore 1, 5, 0), (5, .aload 0, 6, 0), (6, .getfield 915, 9, 1060), (9, .ifCond .ne 33, 12, 0), (12, .aload 0, 13, 0), (13, .getfield 919, 16, 1064), (16, .iconst 2, 17, 0), (17, .if_icmp .ne 33, 20, 0), (20, .aload 0, 21, 0), (21, .getfield 920, 24, 1065), (24, .iload 1, 25, 0), (25, .if_icmp .ne 33, 28, 0), (28, .aload 0, 29, 0), (29, .iconst 3, 30, 0), (30, .invokevirtual 1390209, 33, 1195), (33, .aload 0, 34, 0), (34, .getfield 906, 37, 1051), (37, .iconst 2, 38, 0), (38, .aload 0, 39, 0), (39, .getfield 908, 42, 1053), (42, .imul, 43, 0), (43, .iload 1, 44, 0), (44, .iastore, 45, 0), (45, .aload 0, 46, 0), (46, .getfield 906, 49, 1051), (49, .iconst 2, 50, 0), (50, .aload 0, 51, 0), (51, .getfield 908, 54, 1053), (54, .imul, 55, 0), (55, .iconst 1, 56, 0), (56, .iadd, 57, 0), (57, .aload 0, 58, 0), (58, .invokevirtual 1430109, 61, 1218), (61, .iastore, 62, 0), (62, .aload 0, 63, 0), (63, .getfield 905, 66, 1050), (66, .iconst 33, 68, 0), (68, .aload 0, 69, 0), (69, .getfield 908, 72, 1053), (72, .iadd, 73, 0), (73, .aload 0, 74, 0), (74, .iconst 0, 75, 0), (75, .iconst 99, 77, 0), (77, .invokevirtual 1420309, 80, 1214), (80, .iastore, 81, 0), (81, .aload 0, 82, 0), (82, .dup, 83, 0), (83, .getfield 908, 86, 1053), (86, .iconst 1, 87, 0), (87, .iadd, 88, 0), (88, .putfield 908, 91, 1053), (91, .return_, 92, 0)]
def kX9_readMore_q0 : List (Nat × Instr × Nat × Nat) := [(0, .iload 1, 1, 0), (1, .iconst 3, 2, 0), (2, .if_icmp .gt 66, 5, 0), (5, .aload 0, 6, 0), (6, .getfield 905, 9, 1050), (9, .iconst 23, 11, 0), (11, .iaload, 12, 0), (12, .istore 2, 13, 0), (13, .aload 0, 14, 0), (14, .getfield 905, 17, 1050), (17, .iconst 8, 19, 0), (19, .iload 2, 20, 0), (20, .iadd, 21, 0), (21, .iload 1, 22, 0), (22, .iastore, 23, 0), (23, .aload 0, 24, 0), (24, .getfield 905, 27, 1050), (27, .iconst 13, 29, 0), (29, .iload 2, 30, 0), (30, .iadd, 31, 0), (31, .aload 0, 32, 0), (32, .iconst 0, 33, 0), (33, .iconst 99, 35, 0), (35, .invokevirtual 1420309, 38, 1214), (38, .iastore, 39, 0), (39, .aload 0, 40, 0), (40, .getfield 905, 43, 1050), (43, .iconst 18, 45, 0), (45, .iload 2, 46, 0), (46, .iadd, 47, 0), (47, .aload 0, 48, 0), (48, .invokevirtual 1430109, 51, 1218), (51, .iastore, 52, 0), (52, .aload 0, 53, 0), (53, .getfield 905, 56, 1050), (56, .iconst 23, 58, 0), (58, .dup2, 59, 0), (59, .iaload, 60, 0), (60, .iconst 1, 61, 0), (61, .iadd, 62, 0), (62, .iastore, 63, 0), (63, .goto 281, 66, 0), (66, .iload 1, 67, 0), (67, .iconst 4, 68, 0), (68, .if_icmp .ne 117, 71, 0), (71, .aload 0, 72, 0), (72, .getfield 905, 75, 1050), (75, .aload 0, 76, 0), (76, .getfield 907, 79, 1052), (79, .aload 0, 80, 0), (80, .iconst 0, 81, 0), (81, .iconst 5, 82, 0), (82, .invokevirtual 1420309, 85, 1214), (85, .iastore, 86, 0), (86, .aload 0, 87, 0), (87, .getfield 905, 90, 1050), (90, .iconst 4, 91, 0), (91, .aload 0, 92, 0), (92, .getfield 907, 95, 1052), (95, .iadd, 96, 0)]
def kX9_readMore_q1 : List (Nat × Instr × Nat × Nat) := [(96, .aload 0, 97, 0), (97, .iconst 0, 98, 0), (98, .iconst 9, 100, 0), (100, .invokevirtual 1420309, 103, 1214), (103, .iastore, 104, 0), (104, .aload 0, 105, 0), (105, .dup, 106, 0), (106, .getfield 907, 109, 1052), (109, .iconst 1, 110, 0), (110, .iadd, 111, 0), (111, .putfield 907, 114, 1052), (114, .goto 281, 117, 0), (117, .iload 1, 118, 0), (118, .iconst 5, 119, 0), (119, .if_icmp .ne 129, 122, 0), (122, .aload 0, 123, 0), (123, .invokevirtual 1440109, 126, 1222), (126, .goto 281, 129, 0), (129, .iload 1, 130, 0), (130, .iconst 6, 132, 0), (132, .if_icmp .ne 169, 135, 0), (135, .aload 0, 136, 0), (136, .getfield 905, 139, 1050), (139, .iconst 24, 141, 0), (141, .aload 0, 142, 0), (142, .iconst 0, 143, 0), (143, .iconst 9, 145, 0), (145, .invokevirtual 1420309, 148, 1214), (148, .iastore, 149, 0), (149, .aload 0, 150, 0), (150, .getfield 905, 153, 1050), (153, .iconst 25, 155, 0), (155, .aload 0, 156, 0), (156, .iconst 5, 157, 0), (157, .iconst 99, 159, 0), (159, .invokevirtual 1420309, 162, 1214), (162, .iconst 50, 164, 0), (164, .isub, 165, 0), (165, .iastore, 166, 0), (166, .goto 281, 169, 0), (169, .iload 1, 170, 0), (170, .iconst 7, 172, 0), (172, .if_icmp .ne 194, 175, 0), (175, .aload 0, 176, 0), (176, .getfield 905, 179, 1050), (179, .iconst 26, 181, 0), (181, .aload 0, 182, 0), (182, .iconst 0, 183, 0), (183, .iconst 10, 185, 0), (185, .invokevirtual 1420309, 188, 1214), (188, .iconst 2, 189, 0), (189, .isub, 190, 0), (190, .iastore, 191, 0), (191, .goto 281, 194, 0), (194, .aload 0, 195, 0), (195, .getfield 915, 198, 1060), (198, .ifCond .ne 244, 201, 0), (201, .aload 0, 202, 0), (202, .getfield 919, 205, 1064), (205, .iconst 2, 206, 0)]
def kX9_readMore_q2 : List (Nat × Instr × Nat × Nat) := [(206, .if_icmp .ne 244, 209, 0), (209, .aload 0, 210, 0), (210, .getfield 920, 213, 1065), (213, .i2l, 214, 0), (214, .ldc2_w 0, 215, 0), (215, .ldc2_w 5, 218, 1226), (218, .invokestatic 1350300, 221, 1172), (221, .ifCond .eq 244, 224, 0), (224, .aload 0, 225, 0), (225, .getfield 910, 228, 1055), (228, .aload 0, 229, 0), (229, .getfield 920, 232, 1065), (232, .ishr, 233, 0), (233, .iconst 1, 234, 0), (234, .iand, 235, 0), (235, .iconst 1, 236, 0), (236, .if_icmp .ne 244, 239, 0), (239, .aload 0, 240, 0), (240, .iconst 4, 241, 0), (241, .invokevirtual 1390209, 244, 1195), (244, .aload 0, 245, 0), (245, .iconst 0, 246, 0), (246, .iconst 5, 247, 0), (247, .invokevirtual 1420309, 250, 1214), (250, .istore 2, 251, 0), (251, .aload 0, 252, 0), (252, .dup, 253, 0), (253, .getfield 910, 256, 1055), (256, .iconst 1, 257, 0), (257, .iload 2, 258, 0), (258, .ishl, 259, 0), (259, .ior, 260, 0), (260, .putfield 910, 263, 1055), (263, .aload 0, 264, 0), (264, .getfield 905, 267, 1050), (267, .iconst 27, 269, 0), (269, .iload 2, 270, 0), (270, .iadd, 271, 0), (271, .aload 0, 272, 0), (272, .iconst 1, 273, 0), (273, .iconst 9, 275, 0), (275, .invokevirtual 1420309, 278, 1214), (278, .iconst 1, 279, 0), (279, .isub, 280, 0), (280, .iastore, 281, 0), (281, .return_, 282, 0)]
def kX9_readMore : List (Nat × Instr × Nat × Nat) := (kX9_readMore_q0 ++ (kX9_readMore_q1 ++ kX9_readMore_q2))
def kX9_readLine_q0 : List (Nat × Instr × Nat × Nat) := [(0, .aload 0, 1, 0), (1, .invokevirtual 1400109, 4, 1203), (4, .istore 1, 5, 0), (5, .iload 1, 6, 0), (6, .i2l, 7, 0), (7, .ldc2_w 0, 8, 0), (8, .ldc2_w 8, 11, 1207), (11, .invokestatic 1350300, 14, 1172), (14, .ifCond .ne 23, 17, 0), (17, .aload 0, 18, 0), (18, .iconst 2, 19, 0), (19, .invokevirtual 1390209, 22, 1195), (22, .return_, 23, 0), (23, .iload 1, 24, 0), (24, .iconst 3, 25, 0), (25, .if_icmp .gt 39, 28, 0), (28, .aload 0, 29, 0), (29, .getfield 905, 32, 1050), (32, .iconst 23, 34, 0), (34, .iaload, 35, 0), (35, .iconst 5, 36, 0), (36, .if_icmp .eq 65, 39, 0), (39, .iload 1, 40, 0), (40, .iconst 4, 41, 0), (41, .if_icmp .ne 52, 44, 0), (44, .aload 0, 45, 0), (45, .getfield 907, 48, 1052), (48, .iconst 4, 49, 0), (49, .if_icmp .eq 65, 52, 0), (52, .iload 1, 53, 0), (53, .iconst 5, 54, 0), (54, .if_icmp .ne 70, 57, 0), (57, .aload 0, 58, 0), (58, .getfield 908, 61, 1053), (61, .iconst 4, 62, 0), (62, .if_icmp .ne 70, 65, 0), (65, .aload 0, 66, 0), (66, .iconst 5, 67, 0), (67, .invokevirtual 1390209, 70, 1195), (70, .iload 1, 71, 0), (71, .i2l, 72, 0), (72, .ldc2_w 6, 75, 1208), (75, .ldc2_w 7, 78, 1209), (78, .invokestatic 1350300, 81, 1172), (81, .ifCond .eq 101, 84, 0), (84, .aload 0, 85, 0), (85, .getfield 909, 88, 1054), (88, .iload 1, 89, 0), (89, .ishr, 90, 0), (90, .iconst 1, 91, 0), (91, .iand, 92, 0), (92, .iconst 1, 93, 0), (93, .if_icmp .ne 101, 96, 0), (96, .aload 0, 97, 0), (97, .iconst 4, 98, 0), (98, .invokevirtual 1390209, 101, 1195), (101, .aload 0, 102, 0), (102, .dup, 103, 0), (103, .getfield 909, 106, 1054), (106, .iconst 1, 107, 0)]
def kX9_readLine_q1 : List (Nat × Instr × Nat × Nat) := [(107, .iload 1, 108, 0), (108, .ishl, 109, 0), (109, .ior, 110, 0), (110, .putfield 909, 113, 1054), (113, .aload 0, 114, 0), (114, .invokevirtual 1410109, 117, 1183), (117, .aload 0, 118, 0), (118, .getfield 915, 121, 1060), (121, .ifCond .le 125, 124, 0), (124, .return_, 125, 0), (125, .aload 0, 126, 0), (126, .iload 1, 127, 0), (127, .invokevirtual 1450209, 130, 1210), (130, .aload 0, 131, 0), (131, .getfield 915, 134, 1060), (134, .ifCond .ne 150, 137, 0), (137, .aload 0, 138, 0), (138, .getfield 919, 141, 1064), (141, .iconst 3, 142, 0), (142, .if_icmp .eq 150, 145, 0), (145, .aload 0, 146, 0), (146, .iconst 2, 147, 0), (147, .invokevirtual 1390209, 150, 1195), (150, .aload 0, 151, 0), (151, .invokevirtual 1410109, 154, 1183), (154, .return_, 155, 0)]
def kX9_readLine : List (Nat × Instr × Nat × Nat) := (kX9_readLine_q0 ++ kX9_readLine_q1)
def kX9_text_q0 : List (Nat × Instr × Nat × Nat) := [(0, .aload 0, 1, 0), (1, .iconst 0, 2, 0), (2, .putfield 915, 5, 1060), (5, .aload 0, 6, 0), (6, .iconst 0, 7, 0), (7, .putfield 917, 10, 1062), (10, .aload 0, 11, 0), (11, .iconst 0, 12, 0), (12, .putfield 907, 15, 1052), (15, .aload 0, 16, 0), (16, .iconst 0, 17, 0), (17, .putfield 908, 20, 1053), (20, .aload 0, 21, 0), (21, .iconst 0, 22, 0), (22, .putfield 909, 25, 1054), (25, .aload 0, 26, 0), (26, .iconst 0, 27, 0), (27, .putfield 910, 30, 1055), (30, .aload 0, 31, 0), (31, .iconst (-1), 32, 0), (32, .putfield 911, 35, 1056), (35, .iconst 0, 36, 0), (36, .istore 1, 37, 0), (37, .iconst 0, 38, 0), (38, .istore 2, 39, 0), (39, .iload 2, 40, 0), (40, .iconst 38, 42, 0), (42, .if_icmp .ge 58, 45, 0), (45, .aload 0, 46, 0), (46, .getfield 905, 49, 1050), (49, .iload 2, 50, 0), (50, .iconst 0, 51, 0), (51, .iastore, 52, 0), (52, .iinc 2 1, 55, 0), (55, .goto 39, 58, 0), (58, .aload 0, 59, 0), (59, .invokevirtual 1410109, 62, 1183), (62, .aload 0, 63, 0), (63, .getfield 915, 66, 1060), (66, .ifCond .ne 86, 69, 0), (69, .aload 0, 70, 0), (70, .getfield 919, 73, 1064), (73, .ifCond .eq 86, 76, 0), (76, .aload 0, 77, 0), (77, .invokevirtual 1460109, 80, 1199), (80, .iinc 1 1, 83, 0), (83, .goto 62, 86, 0), (86, .aload 0, 87, 0), (87, .getfield 915, 90, 1060), (90, .ifCond .ne 110, 93, 0), (93, .aload 0, 94, 0), (94, .getfield 911, 97, 1056), (97, .aload 0, 98, 0), (98, .getfield 907, 101, 1052), (101, .if_icmp .lt 110, 104, 0), (104, .aload 0, 105, 0), (105, .iconst 6, 107, 0), (107, .invokevirtual 1390209, 110, 1195), (110, .aload 0, 111, 0), (111, .iconst 0, 112, 0)]
def kX9_text_q1 : List (Nat × Instr × Nat × Nat) := [(112, .putfield 913, 115, 1058), (115, .aload 0, 116, 0), (116, .aload 0, 117, 0), (117, .getfield 915, 120, 1060), (120, .putfield 914, 123, 1059), (123, .aload 0, 124, 0), (124, .getfield 915, 127, 1060), (127, .ifCond .le 138, 130, 0), (130, .iconst (-10), 132, 0), (132, .aload 0, 133, 0), (133, .getfield 916, 136, 1061), (136, .isub, 137, 0), (137, .ireturn, 138, 0), (138, .iconst 0, 139, 0), (139, .istore 2, 140, 0), (140, .iload 2, 141, 0), (141, .iconst 38, 143, 0), (143, .if_icmp .ge 182, 146, 0), (146, .aload 0, 147, 0), (147, .getfield 900, 150, 1045), (150, .iload 2, 151, 0), (151, .aload 0, 152, 0), (152, .getfield 905, 155, 1050), (155, .iload 2, 156, 0), (156, .iaload, 157, 0), (157, .iastore, 158, 0), (158, .aload 0, 159, 0), (159, .getfield 902, 162, 1047), (162, .iload 2, 163, 0), (163, .iconst 8, 165, 0), (165, .irem, 166, 0), (166, .aload 0, 167, 0), (167, .getfield 906, 170, 1051), (170, .iload 2, 171, 0), (171, .iconst 8, 173, 0), (173, .irem, 174, 0), (174, .iaload, 175, 0), (175, .iastore, 176, 0), (176, .iinc 2 1, 179, 0), (179, .goto 140, 182, 0), (182, .aload 0, 183, 0), (183, .aload 0, 184, 0), (184, .getfield 907, 187, 1052), (187, .putfield 901, 190, 1046), (190, .aload 0, 191, 0), (191, .aload 0, 192, 0), (192, .getfield 908, 195, 1053), (195, .putfield 903, 198, 1048), (198, .aload 0, 199, 0), (199, .iconst 0, 200, 0), (200, .putfield 933, 203, 1078), (203, .aload 0, 204, 0), (204, .getfield 935, 207, 1080), (207, .iconst 0, 208, 0), (208, .iconst 0, 209, 0), (209, .bastore, 210, 0), (210, .aload 0, 211, 0), (211, .getfield 935, 214, 1080), (214, .iconst 1, 215, 0), (215, .iconst 0, 216, 0)]
def kX9_text_q2 : List (Nat × Instr × Nat × Nat) := [(216, .bastore, 217, 0), (217, .iload 1, 218, 0), (218, .ireturn, 219, 0)]
def kX9_text : List (Nat × Instr × Nat × Nat) := (kX9_text_q0 ++ (kX9_text_q1 ++ kX9_text_q2))
def kX9_fault : List (Nat × Instr × Nat × Nat) := [(0, .aload 0, 1, 0), (1, .getfield 914, 4, 1059), (4, .ireturn, 5, 0)]
def kX9_isOne : List (Nat × Instr × Nat × Nat) := [(0, .iload 1, 1, 0), (1, .i2l, 2, 0), (2, .ldc2_w 0, 3, 0), (3, .aload 0, 4, 0), (4, .getfield 901, 7, 1046), (7, .iconst 1, 8, 0), (8, .isub, 9, 0), (9, .i2l, 10, 0), (10, .invokestatic 1350300, 13, 1172), (13, .ireturn, 14, 0)]
def kX9_isStone : List (Nat × Instr × Nat × Nat) := [(0, .iload 1, 1, 0), (1, .i2l, 2, 0), (2, .ldc2_w 0, 3, 0), (3, .aload 0, 4, 0), (4, .getfield 900, 7, 1045), (7, .iconst 23, 9, 0), (9, .iaload, 10, 0), (10, .iconst 1, 11, 0), (11, .isub, 12, 0), (12, .i2l, 13, 0), (13, .invokestatic 1350300, 16, 1172), (16, .ireturn, 17, 0)]
def kX9_isDebt : List (Nat × Instr × Nat × Nat) := [(0, .iload 1, 1, 0), (1, .i2l, 2, 0), (2, .ldc2_w 0, 3, 0), (3, .aload 0, 4, 0), (4, .getfield 903, 7, 1048), (7, .iconst 1, 8, 0), (8, .isub, 9, 0), (9, .i2l, 10, 0), (10, .invokestatic 1350300, 13, 1172), (13, .ireturn, 14, 0)]
def kX9_rule : List (Nat × Instr × Nat × Nat) := [(0, .iload 1, 1, 0), (1, .tableswitch 99 0 6 #[44, 49, 57, 62, 70, 81, 91], 44, 0), (44, .aload 0, 45, 0), (45, .getfield 901, 48, 1046), (48, .ireturn, 49, 0), (49, .aload 0, 50, 0), (50, .getfield 900, 53, 1045), (53, .iconst 23, 55, 0), (55, .iaload, 56, 0), (56, .ireturn, 57, 0), (57, .aload 0, 58, 0), (58, .getfield 903, 61, 1048), (61, .ireturn, 62, 0), (62, .aload 0, 63, 0), (63, .getfield 900, 66, 1045), (66, .iconst 24, 68, 0), (68, .iaload, 69, 0), (69, .ireturn, 70, 0), (70, .aload 0, 71, 0), (71, .getfield 900, 74, 1045), (74, .iconst 25, 76, 0), (76, .iaload, 77, 0), (77, .iconst 50, 79, 0), (79, .iadd, 80, 0), (80, .ireturn, 81, 0), (81, .aload 0, 82, 0), (82, .getfield 900, 85, 1045), (85, .iconst 26, 87, 0), (87, .iaload, 88, 0), (88, .iconst 2, 89, 0), (89, .iadd, 90, 0), (90, .ireturn, 91, 0), (91, .aload 0, 92, 0), (92, .getfield 900, 95, 1045), (95, .iconst 37, 97, 0), (97, .iaload, 98, 0), (98, .ireturn, 99, 0), (99, .iconst (-1), 100, 0), (100, .ireturn, 101, 0)]
def kX9_rateOf : List (Nat × Instr × Nat × Nat) := [(0, .iload 0, 1, 0), (1, .iload 1, 2, 0), (2, .isub, 3, 0), (3, .iconst 1, 4, 0), (4, .if_icmp .ge 11, 7, 0), (7, .iconst 1, 8, 0), (8, .goto 14, 11, 0), (11, .iload 0, 12, 0), (12, .iload 1, 13, 0), (13, .isub, 14, 0), (14, .ireturn, 15, 0)]
def kX9_rateOn : List (Nat × Instr × Nat × Nat) := [(0, .aload 0, 1, 0), (1, .getfield 904, 4, 1049), (4, .aload 0, 5, 0), (5, .getfield 900, 8, 1045), (8, .iload 1, 9, 0), (9, .iconst 8, 11, 0), (11, .iadd, 12, 0), (12, .iload 2, 13, 0), (13, .iadd, 14, 0), (14, .iaload, 15, 0), (15, .iaload, 16, 0), (16, .aload 0, 17, 0), (17, .getfield 900, 20, 1045), (20, .iload 1, 21, 0), (21, .aload 0, 22, 0), (22, .getfield 900, 25, 1045), (25, .iload 1, 26, 0), (26, .iconst 18, 28, 0), (28, .iadd, 29, 0), (29, .iload 2, 30, 0), (30, .iadd, 31, 0), (31, .iaload, 32, 0), (32, .iadd, 33, 0), (33, .iaload, 34, 0), (34, .invokestatic 1530200, 37, 1255), (37, .ireturn, 38, 0)]
def kX9_cooled : List (Nat × Instr × Nat × Nat) := [(0, .iload 0, 1, 0), (1, .iconst 1, 2, 0), (2, .isub, 3, 0), (3, .iload 0, 4, 0), (4, .iload 1, 5, 0), (5, .imul, 6, 0), (6, .iconst 20, 8, 0), (8, .idiv, 9, 0), (9, .isub, 10, 0), (10, .istore 2, 11, 0), (11, .iload 2, 12, 0), (12, .ifCond .ge 19, 15, 0), (15, .iconst 0, 16, 0), (16, .goto 20, 19, 0), (19, .iload 2, 20, 0), (20, .ireturn, 21, 0)]
def kX9_one_q0 : List (Nat × Instr × Nat × Nat) := [(0, .aload 0, 1, 0), (1, .iload 1, 2, 0), (2, .invokevirtual 1490209, 5, 1239), (5, .ifCond .ne 10, 8, 0), (8, .iconst (-1), 9, 0), (9, .ireturn, 10, 0), (10, .iconst 0, 11, 0), (11, .istore 3, 12, 0), (12, .iconst 0, 13, 0), (13, .istore 4, 15, 0), (15, .iconst 0, 16, 0), (16, .istore 5, 18, 0), (18, .iload 5, 20, 0), (20, .aload 0, 21, 0), (21, .getfield 900, 24, 1045), (24, .iconst 23, 26, 0), (26, .iaload, 27, 0), (27, .if_icmp .ge 94, 30, 0), (30, .iload 3, 31, 0), (31, .aload 0, 32, 0), (32, .getfield 900, 35, 1045), (35, .iconst 18, 37, 0), (37, .iload 5, 39, 0), (39, .iadd, 40, 0), (40, .iaload, 41, 0), (41, .iload 1, 42, 0), (42, .if_icmp .ne 52, 45, 0), (45, .iconst 1, 46, 0), (46, .iload 5, 48, 0), (48, .ishl, 49, 0), (49, .goto 53, 52, 0), (52, .iconst 0, 53, 0), (53, .ior, 54, 0), (54, .istore 3, 55, 0), (55, .iload 4, 57, 0), (57, .aload 0, 58, 0), (58, .getfield 900, 61, 1045), (61, .iconst 18, 63, 0), (63, .iload 5, 65, 0), (65, .iadd, 66, 0), (66, .iaload, 67, 0), (67, .iload 1, 68, 0), (68, .if_icmp .ne 84, 71, 0), (71, .aload 0, 72, 0), (72, .getfield 900, 75, 1045), (75, .iconst 13, 77, 0), (77, .iload 5, 79, 0), (79, .iadd, 80, 0), (80, .iaload, 81, 0), (81, .goto 85, 84, 0), (84, .iconst 0, 85, 0), (85, .iadd, 86, 0), (86, .istore 4, 88, 0), (88, .iinc 5 1, 91, 0), (91, .goto 18, 94, 0), (94, .iload 2, 95, 0), (95, .tableswitch 145 0 3 #[124, 131, 140, 142], 124, 0), (124, .aload 0, 125, 0), (125, .getfield 900, 128, 1045), (128, .iload 1, 129, 0)]
def kX9_one_q1 : List (Nat × Instr × Nat × Nat) := [(129, .iaload, 130, 0), (130, .ireturn, 131, 0), (131, .aload 0, 132, 0), (132, .getfield 900, 135, 1045), (135, .iconst 4, 136, 0), (136, .iload 1, 137, 0), (137, .iadd, 138, 0), (138, .iaload, 139, 0), (139, .ireturn, 140, 0), (140, .iload 3, 141, 0), (141, .ireturn, 142, 0), (142, .iload 4, 144, 0), (144, .ireturn, 145, 0), (145, .iconst (-1), 146, 0), (146, .ireturn, 147, 0)]
def kX9_one : List (Nat × Instr × Nat × Nat) := (kX9_one_q0 ++ kX9_one_q1)
def kX9_stone : List (Nat × Instr × Nat × Nat) := [(0, .aload 0, 1, 0), (1, .iload 1, 2, 0), (2, .invokevirtual 1500209, 5, 1247), (5, .ifCond .ne 10, 8, 0), (8, .iconst (-1), 9, 0), (9, .ireturn, 10, 0), (10, .iload 2, 11, 0), (11, .tableswitch 100 0 4 #[44, 54, 64, 74, 81], 44, 0), (44, .aload 0, 45, 0), (45, .getfield 900, 48, 1045), (48, .iconst 8, 50, 0), (50, .iload 1, 51, 0), (51, .iadd, 52, 0), (52, .iaload, 53, 0), (53, .ireturn, 54, 0), (54, .aload 0, 55, 0), (55, .getfield 900, 58, 1045), (58, .iconst 13, 60, 0), (60, .iload 1, 61, 0), (61, .iadd, 62, 0), (62, .iaload, 63, 0), (63, .ireturn, 64, 0), (64, .aload 0, 65, 0), (65, .getfield 900, 68, 1045), (68, .iconst 18, 70, 0), (70, .iload 1, 71, 0), (71, .iadd, 72, 0), (72, .iaload, 73, 0), (73, .ireturn, 74, 0), (74, .aload 0, 75, 0), (75, .iconst 0, 76, 0), (76, .iload 1, 77, 0), (77, .invokevirtual 1540309, 80, 1251), (80, .ireturn, 81, 0), (81, .aload 0, 82, 0), (82, .getfield 900, 85, 1045), (85, .iconst 13, 87, 0), (87, .iload 1, 88, 0), (88, .iadd, 89, 0), (89, .iaload, 90, 0), (90, .iconst 5, 91, 0), (91, .if_icmp .lt 98, 94, 0), (94, .iconst 1, 95, 0), (95, .goto 99, 98, 0), (98, .iconst 0, 99, 0), (99, .ireturn, 100, 0), (100, .iconst (-1), 101, 0), (101, .ireturn, 102, 0)]
def kX9_debt : List (Nat × Instr × Nat × Nat) := [(0, .aload 0, 1, 0), (1, .iload 1, 2, 0), (2, .invokevirtual 1510209, 5, 1262), (5, .ifCond .eq 20, 8, 0), (8, .iload 2, 9, 0), (9, .i2l, 10, 0), (10, .ldc2_w 0, 11, 0), (11, .ldc2_w 2, 14, 1266), (14, .invokestatic 1350300, 17, 1172), (17, .ifCond .ne 24, 20, 0), (20, .iconst (-1), 21, 0), (21, .goto 51, 24, 0), (24, .iload 2, 25, 0), (25, .iconst 2, 26, 0), (26, .if_icmp .ne 41, 29, 0), (29, .aload 0, 30, 0), (30, .getfield 900, 33, 1045), (33, .iconst 33, 35, 0), (35, .iload 1, 36, 0), (36, .iadd, 37, 0), (37, .iaload, 38, 0), (38, .goto 51, 41, 0), (41, .aload 0, 42, 0), (42, .getfield 902, 45, 1047), (45, .iconst 2, 46, 0), (46, .iload 1, 47, 0), (47, .imul, 48, 0), (48, .iload 2, 49, 0), (49, .iadd, 50, 0), (50, .iaload, 51, 0), (51, .ireturn, 52, 0)]
def kX9_price : List (Nat × Instr × Nat × Nat) := [(0, .iload 1, 1, 0), (1, .i2l, 2, 0), (2, .ldc2_w 0, 3, 0), (3, .ldc2_w 5, 6, 1226), (6, .invokestatic 1350300, 9, 1172), (9, .ifCond .eq 26, 12, 0), (12, .aload 0, 13, 0), (13, .getfield 900, 16, 1045), (16, .iconst 27, 18, 0), (18, .iload 1, 19, 0), (19, .iadd, 20, 0), (20, .iaload, 21, 0), (21, .iconst 1, 22, 0), (22, .iadd, 23, 0), (23, .goto 27, 26, 0), (26, .iconst (-1), 27, 0), (27, .ireturn, 28, 0)]
def kX9_puts : List (Nat × Instr × Nat × Nat) := [(0, .iload 1, 1, 0), (1, .ifCond .ne 6, 4, 0), (4, .iconst (-1), 5, 0), (5, .ireturn, 6, 0), (6, .aload 0, 7, 0), (7, .getfield 900, 10, 1045), (10, .iload 2, 11, 0), (11, .iaload, 12, 0), (12, .iload 4, 14, 0), (14, .iadd, 15, 0), (15, .istore 5, 17, 0), (17, .aload 0, 18, 0), (18, .getfield 900, 21, 1045), (21, .iload 2, 22, 0), (22, .iload 3, 23, 0), (23, .iload 4, 25, 0), (25, .isub, 26, 0), (26, .iastore, 27, 0), (27, .iload 5, 29, 0), (29, .ireturn, 30, 0)]
def kX9_dress : List (Nat × Instr × Nat × Nat) := [(0, .iload 2, 1, 0), (1, .ifCond .ne 39, 4, 0), (4, .aload 0, 5, 0), (5, .aload 0, 6, 0), (6, .iload 1, 7, 0), (7, .invokevirtual 1490209, 10, 1239), (10, .ifCond .eq 29, 13, 0), (13, .iload 3, 14, 0), (14, .i2l, 15, 0), (15, .ldc2_w 0, 16, 0), (16, .ldc2_w 5, 19, 1226), (19, .invokestatic 1350300, 22, 1172), (22, .ifCond .eq 29, 25, 0), (25, .iconst 1, 26, 0), (26, .goto 30, 29, 0), (29, .iconst 0, 30, 0), (30, .iload 1, 31, 0), (31, .iload 3, 32, 0), (32, .iconst 0, 33, 0), (33, .invokevirtual 1600509, 36, 1275), (36, .goto 78, 39, 0), (39, .aload 0, 40, 0), (40, .iload 2, 41, 0), (41, .iconst 1, 42, 0), (42, .if_icmp .ne 69, 45, 0), (45, .aload 0, 46, 0), (46, .iload 1, 47, 0), (47, .invokevirtual 1490209, 50, 1239), (50, .ifCond .eq 69, 53, 0), (53, .iload 3, 54, 0), (54, .i2l, 55, 0), (55, .ldc2_w 0, 56, 0), (56, .ldc2_w 9, 59, 1279), (59, .invokestatic 1350300, 62, 1172), (62, .ifCond .eq 69, 65, 0), (65, .iconst 1, 66, 0), (66, .goto 70, 69, 0), (69, .iconst 0, 70, 0), (70, .iconst 4, 71, 0), (71, .iload 1, 72, 0), (72, .iadd, 73, 0), (73, .iload 3, 74, 0), (74, .iconst 0, 75, 0), (75, .invokevirtual 1600509, 78, 1275), (78, .ireturn, 79, 0)]
def kX9_warm : List (Nat × Instr × Nat × Nat) := [(0, .iload 2, 1, 0), (1, .ifCond .ne 42, 4, 0), (4, .aload 0, 5, 0), (5, .aload 0, 6, 0), (6, .iload 1, 7, 0), (7, .invokevirtual 1500209, 10, 1247), (10, .ifCond .eq 29, 13, 0), (13, .iload 3, 14, 0), (14, .i2l, 15, 0), (15, .ldc2_w 0, 16, 0), (16, .ldc2_w 3, 19, 1284), (19, .invokestatic 1350300, 22, 1172), (22, .ifCond .eq 29, 25, 0), (25, .iconst 1, 26, 0), (26, .goto 30, 29, 0), (29, .iconst 0, 30, 0), (30, .iconst 8, 32, 0), (32, .iload 1, 33, 0), (33, .iadd, 34, 0), (34, .iload 3, 35, 0), (35, .iconst 0, 36, 0), (36, .invokevirtual 1600509, 39, 1275), (39, .goto 82, 42, 0), (42, .aload 0, 43, 0), (43, .iload 2, 44, 0), (44, .iconst 1, 45, 0), (45, .if_icmp .ne 72, 48, 0), (48, .aload 0, 49, 0), (49, .iload 1, 50, 0), (50, .invokevirtual 1500209, 53, 1247), (53, .ifCond .eq 72, 56, 0), (56, .iload 3, 57, 0), (57, .i2l, 58, 0), (58, .ldc2_w 0, 59, 0), (59, .ldc2_w 99, 62, 1285), (62, .invokestatic 1350300, 65, 1172), (65, .ifCond .eq 72, 68, 0), (68, .iconst 1, 69, 0), (69, .goto 73, 72, 0), (72, .iconst 0, 73, 0), (73, .iconst 13, 75, 0), (75, .iload 1, 76, 0), (76, .iadd, 77, 0), (77, .iload 3, 78, 0), (78, .iconst 0, 79, 0), (79, .invokevirtual 1600509, 82, 1275), (82, .ireturn, 83, 0)]
def kX9_set : List (Nat × Instr × Nat × Nat) := [(0, .iload 1, 1, 0), (1, .tableswitch 85 0 2 #[28, 46, 67], 28, 0), (28, .aload 0, 29, 0), (29, .iload 2, 30, 0), (30, .i2l, 31, 0), (31, .ldc2_w 0, 32, 0), (32, .ldc2_w 10, 35, 1290), (35, .invokestatic 1350300, 38, 1172), (38, .iconst 26, 40, 0), (40, .iload 2, 41, 0), (41, .iconst 2, 42, 0), (42, .invokevirtual 1600509, 45, 1275), (45, .ireturn, 46, 0), (46, .aload 0, 47, 0), (47, .iload 2, 48, 0), (48, .i2l, 49, 0), (49, .ldc2_w 5, 52, 1226), (52, .ldc2_w 99, 55, 1285), (55, .invokestatic 1350300, 58, 1172), (58, .iconst 25, 60, 0), (60, .iload 2, 61, 0), (61, .iconst 50, 63, 0), (63, .invokevirtual 1600509, 66, 1275), (66, .ireturn, 67, 0), (67, .aload 0, 68, 0), (68, .iload 2, 69, 0), (69, .i2l, 70, 0), (70, .ldc2_w 0, 71, 0), (71, .ldc2_w 9, 74, 1279), (74, .invokestatic 1350300, 77, 1172), (77, .iconst 24, 79, 0), (79, .iload 2, 80, 0), (80, .iconst 0, 81, 0), (81, .invokevirtual 1600509, 84, 1275), (84, .ireturn, 85, 0), (85, .iconst (-1), 86, 0), (86, .ireturn, 87, 0)]
def kX9_ask : List (Nat × Instr × Nat × Nat) := [(0, .aload 0, 1, 0), (1, .iload 1, 2, 0), (2, .i2l, 3, 0), (3, .ldc2_w 0, 4, 0), (4, .ldc2_w 5, 7, 1226), (7, .invokestatic 1350300, 10, 1172), (10, .ifCond .eq 29, 13, 0), (13, .iload 2, 14, 0), (14, .i2l, 15, 0), (15, .ldc2_w 1, 16, 0), (16, .ldc2_w 9, 19, 1279), (19, .invokestatic 1350300, 22, 1172), (22, .ifCond .eq 29, 25, 0), (25, .iconst 1, 26, 0), (26, .goto 30, 29, 0), (29, .iconst 0, 30, 0), (30, .iconst 27, 32, 0), (32, .iload 1, 33, 0), (33, .iadd, 34, 0), (34, .iload 2, 35, 0), (35, .iconst 1, 36, 0), (36, .invokevirtual 1600509, 39, 1275), (39, .ireturn, 40, 0)]
def kX9_owe : List (Nat × Instr × Nat × Nat) := [(0, .aload 0, 1, 0), (1, .aload 0, 2, 0), (2, .iload 1, 3, 0), (3, .invokevirtual 1510209, 6, 1262), (6, .ifCond .eq 25, 9, 0), (9, .iload 2, 10, 0), (10, .i2l, 11, 0), (11, .ldc2_w 0, 12, 0), (12, .ldc2_w 99, 15, 1285), (15, .invokestatic 1350300, 18, 1172), (18, .ifCond .eq 25, 21, 0), (21, .iconst 1, 22, 0), (22, .goto 26, 25, 0), (25, .iconst 0, 26, 0), (26, .iconst 33, 28, 0), (28, .iload 1, 29, 0), (29, .iadd, 30, 0), (30, .iload 2, 31, 0), (31, .iconst 0, 32, 0), (32, .invokevirtual 1600509, 35, 1275), (35, .ireturn, 36, 0)]
def kX9_halve_q0 : List (Nat × Instr × Nat × Nat) := [(0, .aload 0, 1, 0), (1, .iload 1, 2, 0), (2, .invokevirtual 1500209, 5, 1247), (5, .ifCond .ne 10, 8, 0), (8, .iconst (-1), 9, 0), (9, .ireturn, 10, 0), (10, .aload 0, 11, 0), (11, .getfield 900, 14, 1045), (14, .iconst 13, 16, 0), (16, .iload 1, 17, 0), (17, .iadd, 18, 0), (18, .iaload, 19, 0), (19, .iconst 5, 20, 0), (20, .if_icmp .ge 26, 23, 0), (23, .iconst (-2), 25, 0), (25, .ireturn, 26, 0), (26, .aload 0, 27, 0), (27, .getfield 900, 30, 1045), (30, .iconst 23, 32, 0), (32, .iaload, 33, 0), (33, .istore 2, 34, 0), (34, .iload 2, 35, 0), (35, .iconst 5, 36, 0), (36, .if_icmp .ne 42, 39, 0), (39, .iconst (-3), 41, 0), (41, .ireturn, 42, 0), (42, .aload 0, 43, 0), (43, .getfield 900, 46, 1045), (46, .iconst 13, 48, 0), (48, .iload 1, 49, 0), (49, .iadd, 50, 0), (50, .aload 0, 51, 0), (51, .getfield 900, 54, 1045), (54, .iconst 13, 56, 0), (56, .iload 1, 57, 0), (57, .iadd, 58, 0), (58, .iaload, 59, 0), (59, .iconst 2, 60, 0), (60, .idiv, 61, 0), (61, .iconst 1, 62, 0), (62, .isub, 63, 0), (63, .iastore, 64, 0), (64, .aload 0, 65, 0), (65, .getfield 900, 68, 1045), (68, .iconst 8, 70, 0), (70, .iload 2, 71, 0), (71, .iadd, 72, 0), (72, .aload 0, 73, 0), (73, .getfield 900, 76, 1045), (76, .iconst 8, 78, 0), (78, .iload 1, 79, 0), (79, .iadd, 80, 0), (80, .iaload, 81, 0), (81, .iastore, 82, 0), (82, .aload 0, 83, 0), (83, .getfield 900, 86, 1045), (86, .iconst 13, 88, 0), (88, .iload 2, 89, 0), (89, .iadd, 90, 0), (90, .aload 0, 91, 0)]
def kX9_halve_q1 : List (Nat × Instr × Nat × Nat) := [(91, .getfield 900, 94, 1045), (94, .iconst 13, 96, 0), (96, .iload 1, 97, 0), (97, .iadd, 98, 0), (98, .iaload, 99, 0), (99, .iastore, 100, 0), (100, .aload 0, 101, 0), (101, .getfield 900, 104, 1045), (104, .iconst 18, 106, 0), (106, .iload 2, 107, 0), (107, .iadd, 108, 0), (108, .aload 0, 109, 0), (109, .getfield 900, 112, 1045), (112, .iconst 18, 114, 0), (114, .iload 1, 115, 0), (115, .iadd, 116, 0), (116, .iaload, 117, 0), (117, .iastore, 118, 0), (118, .aload 0, 119, 0), (119, .getfield 900, 122, 1045), (122, .iconst 23, 124, 0), (124, .dup2, 125, 0), (125, .iaload, 126, 0), (126, .iconst 1, 127, 0), (127, .iadd, 128, 0), (128, .iastore, 129, 0), (129, .iload 2, 130, 0), (130, .iconst 1, 131, 0), (131, .iadd, 132, 0), (132, .ireturn, 133, 0)]
def kX9_halve : List (Nat × Instr × Nat × Nat) := (kX9_halve_q0 ++ kX9_halve_q1)
def kX9_minuteOn : List (Nat × Instr × Nat × Nat) := [(0, .iconst 0, 1, 0), (1, .istore 3, 2, 0), (2, .iload 3, 3, 0), (3, .aload 0, 4, 0), (4, .getfield 900, 7, 1045), (7, .iload 1, 8, 0), (8, .iconst 23, 10, 0), (10, .iadd, 11, 0), (11, .iaload, 12, 0), (12, .if_icmp .ge 67, 15, 0), (15, .iload 1, 16, 0), (16, .iconst 13, 18, 0), (18, .iadd, 19, 0), (19, .iload 3, 20, 0), (20, .iadd, 21, 0), (21, .istore 4, 23, 0), (23, .aload 0, 24, 0), (24, .getfield 900, 27, 1045), (27, .iload 4, 29, 0), (29, .iload 3, 30, 0), (30, .iload 2, 31, 0), (31, .if_icmp .ne 44, 34, 0), (34, .aload 0, 35, 0), (35, .getfield 900, 38, 1045), (38, .iload 4, 40, 0), (40, .iaload, 41, 0), (41, .goto 60, 44, 0), (44, .aload 0, 45, 0), (45, .getfield 900, 48, 1045), (48, .iload 4, 50, 0), (50, .iaload, 51, 0), (51, .aload 0, 52, 0), (52, .iload 1, 53, 0), (53, .iload 3, 54, 0), (54, .invokevirtual 1540309, 57, 1251), (57, .invokestatic 1550200, 60, 1316), (60, .iastore, 61, 0), (61, .iinc 3 1, 64, 0), (64, .goto 2, 67, 0), (67, .aload 0, 68, 0), (68, .getfield 900, 71, 1045), (71, .iload 1, 72, 0), (72, .iconst 37, 74, 0), (74, .iadd, 75, 0), (75, .dup2, 76, 0), (76, .iaload, 77, 0), (77, .iconst 1, 78, 0), (78, .iadd, 79, 0), (79, .iastore, 80, 0), (80, .return_, 81, 0)]
def kX9_goesOn : List (Nat × Instr × Nat × Nat) := [(0, .iconst 0, 1, 0), (1, .istore 3, 2, 0), (2, .iload 3, 3, 0), (3, .iload 2, 4, 0), (4, .if_icmp .ge 19, 7, 0), (7, .aload 0, 8, 0), (8, .iload 1, 9, 0), (9, .iconst (-1), 10, 0), (10, .invokevirtual 1670309, 13, 1312), (13, .iinc 3 1, 16, 0), (16, .goto 2, 19, 0), (19, .return_, 20, 0)]
def kX9_apart : List (Nat × Instr × Nat × Nat) := [(0, .iload 1, 1, 0), (1, .iload 2, 2, 0), (2, .if_icmp .ge 11, 5, 0), (5, .iload 2, 6, 0), (6, .iload 1, 7, 0), (7, .isub, 8, 0), (8, .goto 14, 11, 0), (11, .iload 1, 12, 0), (12, .iload 2, 13, 0), (13, .isub, 14, 0), (14, .ireturn, 15, 0)]
def kX9_wayOn : List (Nat × Instr × Nat × Nat) := [(0, .aload 0, 1, 0), (1, .aload 0, 2, 0), (2, .getfield 900, 5, 1045), (5, .iload 1, 6, 0), (6, .iconst 4, 7, 0), (7, .iadd, 8, 0), (8, .iload 2, 9, 0), (9, .iadd, 10, 0), (10, .iaload, 11, 0), (11, .aload 0, 12, 0), (12, .getfield 900, 15, 1045), (15, .iload 1, 16, 0), (16, .iconst 4, 17, 0), (17, .iadd, 18, 0), (18, .iload 3, 19, 0), (19, .iadd, 20, 0), (20, .iaload, 21, 0), (21, .invokevirtual 1690309, 24, 1335), (24, .iconst 1, 25, 0), (25, .iadd, 26, 0), (26, .ireturn, 27, 0)]
def kX9_paysOn_q0 : List (Nat × Instr × Nat × Nat) := [(0, .aload 0, 1, 0), (1, .getfield 900, 4, 1045), (4, .iload 1, 5, 0), (5, .iconst 18, 7, 0), (7, .iadd, 8, 0), (8, .iload 2, 9, 0), (9, .iadd, 10, 0), (10, .iaload, 11, 0), (11, .istore 4, 13, 0), (13, .aload 0, 14, 0), (14, .iload 1, 15, 0), (15, .aload 0, 16, 0), (16, .iload 1, 17, 0), (17, .iload 4, 19, 0), (19, .iload 3, 20, 0), (20, .invokevirtual 1700409, 23, 1331), (23, .invokevirtual 1680309, 26, 1308), (26, .aload 0, 27, 0), (27, .getfield 900, 30, 1045), (30, .iload 1, 31, 0), (31, .iconst 18, 33, 0), (33, .iadd, 34, 0), (34, .iload 2, 35, 0), (35, .iadd, 36, 0), (36, .iload 3, 37, 0), (37, .iastore, 38, 0), (38, .aload 0, 39, 0), (39, .getfield 900, 42, 1045), (42, .iload 1, 43, 0), (43, .iconst 13, 45, 0), (45, .iadd, 46, 0), (46, .iload 2, 47, 0), (47, .iadd, 48, 0), (48, .iaload, 49, 0), (49, .istore 5, 51, 0), (51, .iload 5, 53, 0), (53, .iconst 5, 54, 0), (54, .if_icmp .lt 62, 57, 0), (57, .iload 5, 59, 0), (59, .goto 63, 62, 0), (62, .iconst 0, 63, 0), (63, .istore 6, 65, 0), (65, .iconst 0, 66, 0), (66, .istore 7, 68, 0), (68, .iload 7, 70, 0), (70, .aload 0, 71, 0), (71, .getfield 903, 74, 1048), (74, .if_icmp .ge 183, 77, 0), (77, .iload 6, 79, 0), (79, .ifCond .le 183, 82, 0), (82, .aload 0, 83, 0), (83, .getfield 902, 86, 1047), (86, .iconst 2, 87, 0), (87, .iload 7, 89, 0), (89, .imul, 90, 0), (90, .iaload, 91, 0), (91, .iload 4, 93, 0), (93, .if_icmp .ne 177, 96, 0), (96, .aload 0, 97, 0), (97, .getfield 902, 100, 1047)]
def kX9_paysOn_q1 : List (Nat × Instr × Nat × Nat) := [(100, .iconst 2, 101, 0), (101, .iload 7, 103, 0), (103, .imul, 104, 0), (104, .iconst 1, 105, 0), (105, .iadd, 106, 0), (106, .iaload, 107, 0), (107, .iload 3, 108, 0), (108, .if_icmp .ne 177, 111, 0), (111, .aload 0, 112, 0), (112, .getfield 900, 115, 1045), (115, .iload 1, 116, 0), (116, .iconst 33, 118, 0), (118, .iadd, 119, 0), (119, .iload 7, 121, 0), (121, .iadd, 122, 0), (122, .iaload, 123, 0), (123, .ifCond .le 177, 126, 0), (126, .aload 0, 127, 0), (127, .getfield 900, 130, 1045), (130, .iload 1, 131, 0), (131, .iconst 33, 133, 0), (133, .iadd, 134, 0), (134, .iload 7, 136, 0), (136, .iadd, 137, 0), (137, .aload 0, 138, 0), (138, .getfield 900, 141, 1045), (141, .iload 1, 142, 0), (142, .iconst 33, 144, 0), (144, .iadd, 145, 0), (145, .iload 7, 147, 0), (147, .iadd, 148, 0), (148, .iaload, 149, 0), (149, .iload 6, 151, 0), (151, .if_icmp .le 172, 154, 0), (154, .aload 0, 155, 0), (155, .getfield 900, 158, 1045), (158, .iload 1, 159, 0), (159, .iconst 33, 161, 0), (161, .iadd, 162, 0), (162, .iload 7, 164, 0), (164, .iadd, 165, 0), (165, .iaload, 166, 0), (166, .iload 6, 168, 0), (168, .isub, 169, 0), (169, .goto 173, 172, 0), (172, .iconst 0, 173, 0), (173, .iastore, 174, 0), (174, .iconst 0, 175, 0), (175, .istore 6, 177, 0), (177, .iinc 7 1, 180, 0), (180, .goto 68, 183, 0), (183, .iload 5, 185, 0), (185, .ireturn, 186, 0)]
def kX9_paysOn : List (Nat × Instr × Nat × Nat) := (kX9_paysOn_q0 ++ kX9_paysOn_q1)
def kX9_go : List (Nat × Instr × Nat × Nat) := [(0, .iload 1, 1, 0), (1, .i2l, 2, 0), (2, .ldc2_w 0, 3, 0), (3, .ldc2_w 60, 6, 1307), (6, .invokestatic 1350300, 9, 1172), (9, .ifCond .ne 14, 12, 0), (12, .iconst (-1), 13, 0), (13, .ireturn, 14, 0), (14, .aload 0, 15, 0), (15, .getfield 900, 18, 1045), (18, .iconst 37, 20, 0), (20, .iaload, 21, 0), (21, .iload 1, 22, 0), (22, .iadd, 23, 0), (23, .iconst 999, 26, 0), (26, .if_icmp .le 32, 29, 0), (29, .iconst (-3), 31, 0), (31, .ireturn, 32, 0), (32, .aload 0, 33, 0), (33, .iconst 0, 34, 0), (34, .iload 1, 35, 0), (35, .invokevirtual 1680309, 38, 1308), (38, .aload 0, 39, 0), (39, .invokevirtual 1730109, 42, 1319), (42, .ireturn, 43, 0)]
def kX9_warmOnes : List (Nat × Instr × Nat × Nat) := [(0, .iconst 0, 1, 0), (1, .istore 1, 2, 0), (2, .iconst 0, 3, 0), (3, .istore 2, 4, 0), (4, .iload 2, 5, 0), (5, .aload 0, 6, 0), (6, .getfield 900, 9, 1045), (9, .iconst 23, 11, 0), (11, .iaload, 12, 0), (12, .if_icmp .ge 42, 15, 0), (15, .iload 1, 16, 0), (16, .aload 0, 17, 0), (17, .getfield 900, 20, 1045), (20, .iconst 13, 22, 0), (22, .iload 2, 23, 0), (23, .iadd, 24, 0), (24, .iaload, 25, 0), (25, .iconst 5, 26, 0), (26, .if_icmp .lt 33, 29, 0), (29, .iconst 1, 30, 0), (30, .goto 34, 33, 0), (33, .iconst 0, 34, 0), (34, .iadd, 35, 0), (35, .istore 1, 36, 0), (36, .iinc 2 1, 39, 0), (39, .goto 4, 42, 0), (42, .iload 1, 43, 0), (43, .ireturn, 44, 0)]
def kX9_paid : List (Nat × Instr × Nat × Nat) := [(0, .aload 0, 1, 0), (1, .iload 1, 2, 0), (2, .invokevirtual 1500209, 5, 1247), (5, .ifCond .eq 16, 8, 0), (8, .aload 0, 9, 0), (9, .iload 2, 10, 0), (10, .invokevirtual 1490209, 13, 1239), (13, .ifCond .ne 18, 16, 0), (16, .iconst (-1), 17, 0), (17, .ireturn, 18, 0), (18, .aload 0, 19, 0), (19, .getfield 900, 22, 1045), (22, .iconst 18, 24, 0), (24, .iload 1, 25, 0), (25, .iadd, 26, 0), (26, .iaload, 27, 0), (27, .iload 2, 28, 0), (28, .if_icmp .ne 34, 31, 0), (31, .iconst (-2), 33, 0), (33, .ireturn, 34, 0), (34, .aload 0, 35, 0), (35, .getfield 900, 38, 1045), (38, .iconst 37, 40, 0), (40, .iaload, 41, 0), (41, .aload 0, 42, 0), (42, .iconst 0, 43, 0), (43, .aload 0, 44, 0), (44, .getfield 900, 47, 1045), (47, .iconst 18, 49, 0), (49, .iload 1, 50, 0), (50, .iadd, 51, 0), (51, .iaload, 52, 0), (52, .iload 2, 53, 0), (53, .invokevirtual 1700409, 56, 1331), (56, .iadd, 57, 0), (57, .iconst 999, 60, 0), (60, .if_icmp .le 68, 63, 0), (63, .iconst (-3), 65, 0), (65, .goto 75, 68, 0), (68, .aload 0, 69, 0), (69, .iconst 0, 70, 0), (70, .iload 1, 71, 0), (71, .iload 2, 72, 0), (72, .invokevirtual 1710409, 75, 1339), (75, .ireturn, 76, 0)]
def kX9_pay : List (Nat × Instr × Nat × Nat) := [(0, .aload 0, 1, 0), (1, .iload 1, 2, 0), (2, .iload 2, 3, 0), (3, .invokevirtual 1740309, 6, 1327), (6, .ireturn, 7, 0)]
def kX9_heatNow : List (Nat × Instr × Nat × Nat) := [(0, .aload 0, 1, 0), (1, .getfield 900, 4, 1045), (4, .iconst 25, 6, 0), (6, .iaload, 7, 0), (7, .iconst 50, 9, 0), (9, .iadd, 10, 0), (10, .ireturn, 11, 0)]
def kX9_ovenWay : List (Nat × Instr × Nat × Nat) := [(0, .aload 0, 1, 0), (1, .aload 0, 2, 0), (2, .getfield 900, 5, 1045), (5, .iconst 4, 6, 0), (6, .aload 0, 7, 0), (7, .getfield 900, 10, 1045), (10, .iconst 18, 12, 0), (12, .iload 1, 13, 0), (13, .iadd, 14, 0), (14, .iaload, 15, 0), (15, .iadd, 16, 0), (16, .iaload, 17, 0), (17, .aload 0, 18, 0), (18, .getfield 900, 21, 1045), (21, .iconst 24, 23, 0), (23, .iaload, 24, 0), (24, .invokevirtual 1690309, 27, 1335), (27, .ireturn, 28, 0)]
def kX9_heat_q0 : List (Nat × Instr × Nat × Nat) := [(0, .aload 0, 1, 0), (1, .iload 1, 2, 0), (2, .invokevirtual 1500209, 5, 1247), (5, .ifCond .ne 10, 8, 0), (8, .iconst (-1), 9, 0), (9, .ireturn, 10, 0), (10, .aload 0, 11, 0), (11, .iload 1, 12, 0), (12, .invokevirtual 1770209, 15, 1347), (15, .istore 2, 16, 0), (16, .aload 0, 17, 0), (17, .getfield 900, 20, 1045), (20, .iconst 37, 22, 0), (22, .iaload, 23, 0), (23, .iconst 2, 24, 0), (24, .iload 2, 25, 0), (25, .imul, 26, 0), (26, .iadd, 27, 0), (27, .iconst 1, 28, 0), (28, .iadd, 29, 0), (29, .iconst 999, 32, 0), (32, .if_icmp .le 38, 35, 0), (35, .iconst (-3), 37, 0), (37, .ireturn, 38, 0), (38, .aload 0, 39, 0), (39, .iconst 0, 40, 0), (40, .iload 2, 41, 0), (41, .invokevirtual 1680309, 44, 1308), (44, .aload 0, 45, 0), (45, .iconst 0, 46, 0), (46, .iload 1, 47, 0), (47, .invokevirtual 1670309, 50, 1312), (50, .aload 0, 51, 0), (51, .getfield 900, 54, 1045), (54, .iconst 13, 56, 0), (56, .iload 1, 57, 0), (57, .iadd, 58, 0), (58, .aload 0, 59, 0), (59, .getfield 900, 62, 1045), (62, .iconst 13, 64, 0), (64, .iload 1, 65, 0), (65, .iadd, 66, 0), (66, .iaload, 67, 0), (67, .aload 0, 68, 0), (68, .invokevirtual 1760109, 71, 1351), (71, .if_icmp .ge 81, 74, 0), (74, .aload 0, 75, 0), (75, .invokevirtual 1760109, 78, 1351), (78, .goto 90, 81, 0), (81, .aload 0, 82, 0), (82, .getfield 900, 85, 1045), (85, .iconst 13, 87, 0), (87, .iload 1, 88, 0), (88, .iadd, 89, 0), (89, .iaload, 90, 0), (90, .iastore, 91, 0), (91, .aload 0, 92, 0), (92, .iconst 0, 93, 0), (93, .iload 2, 94, 0), (94, .invokevirtual 1680309, 97, 1308)]
def kX9_heat_q1 : List (Nat × Instr × Nat × Nat) := [(97, .aload 0, 98, 0), (98, .getfield 900, 101, 1045), (101, .iconst 13, 103, 0), (103, .iload 1, 104, 0), (104, .iadd, 105, 0), (105, .iaload, 106, 0), (106, .ireturn, 107, 0)]
def kX9_heat : List (Nat × Instr × Nat × Nat) := (kX9_heat_q0 ++ kX9_heat_q1)
def kX9_afterOf : List (Nat × Instr × Nat × Nat) := [(0, .iload 1, 1, 0), (1, .istore 4, 3, 0), (3, .iconst 0, 4, 0), (4, .istore 5, 6, 0), (6, .iload 5, 8, 0), (8, .iload 3, 9, 0), (9, .if_icmp .ge 26, 12, 0), (12, .iload 4, 14, 0), (14, .iload 2, 15, 0), (15, .invokestatic 1550200, 18, 1316), (18, .istore 4, 20, 0), (20, .iinc 5 1, 23, 0), (23, .goto 6, 26, 0), (26, .iload 4, 28, 0), (28, .ireturn, 29, 0)]
def kX9_after : List (Nat × Instr × Nat × Nat) := [(0, .aload 0, 1, 0), (1, .iload 1, 2, 0), (2, .invokevirtual 1500209, 5, 1247), (5, .ifCond .eq 43, 8, 0), (8, .iload 2, 9, 0), (9, .i2l, 10, 0), (10, .ldc2_w 0, 11, 0), (11, .ldc2_w 60, 14, 1307), (14, .invokestatic 1350300, 17, 1172), (17, .ifCond .eq 43, 20, 0), (20, .aload 0, 21, 0), (21, .aload 0, 22, 0), (22, .getfield 900, 25, 1045), (25, .iconst 13, 27, 0), (27, .iload 1, 28, 0), (28, .iadd, 29, 0), (29, .iaload, 30, 0), (30, .aload 0, 31, 0), (31, .iconst 0, 32, 0), (32, .iload 1, 33, 0), (33, .invokevirtual 1540309, 36, 1251), (36, .iload 2, 37, 0), (37, .invokevirtual 1790409, 40, 1359), (40, .goto 44, 43, 0), (43, .iconst (-1), 44, 0), (44, .ireturn, 45, 0)]
def kX9_cold : List (Nat × Instr × Nat × Nat) := [(0, .aload 0, 1, 0), (1, .iload 1, 2, 0), (2, .invokevirtual 1500209, 5, 1247), (5, .ifCond .ne 10, 8, 0), (8, .iconst (-1), 9, 0), (9, .ireturn, 10, 0), (10, .iconst 0, 11, 0), (11, .istore 2, 12, 0), (12, .aload 0, 13, 0), (13, .getfield 900, 16, 1045), (16, .iconst 13, 18, 0), (18, .iload 1, 19, 0), (19, .iadd, 20, 0), (20, .iaload, 21, 0), (21, .istore 3, 22, 0), (22, .iload 3, 23, 0), (23, .iconst 5, 24, 0), (24, .if_icmp .lt 44, 27, 0), (27, .iload 3, 28, 0), (28, .aload 0, 29, 0), (29, .iconst 0, 30, 0), (30, .iload 1, 31, 0), (31, .invokevirtual 1540309, 34, 1251), (34, .invokestatic 1550200, 37, 1316), (37, .istore 3, 38, 0), (38, .iinc 2 1, 41, 0), (41, .goto 22, 44, 0), (44, .iload 2, 45, 0), (45, .ireturn, 46, 0)]
def kX9_laysHands_q0 : List (Nat × Instr × Nat × Nat) := [(0, .iconst 0, 1, 0), (1, .istore 4, 3, 0), (3, .iload 1, 4, 0), (4, .istore 5, 6, 0), (6, .iconst 1, 7, 0), (7, .iload 2, 8, 0), (8, .ishl, 9, 0), (9, .istore 6, 11, 0), (11, .iconst 1, 12, 0), (12, .istore 7, 14, 0), (14, .iconst 0, 15, 0), (15, .istore 8, 17, 0), (17, .iload 8, 19, 0), (19, .iconst 3, 20, 0), (20, .if_icmp .ge 145, 23, 0), (23, .iload 5, 25, 0), (25, .iconst 25, 27, 0), (27, .idiv, 28, 0), (28, .istore 9, 30, 0), (30, .iload 5, 32, 0), (32, .iconst 25, 34, 0), (34, .irem, 35, 0), (35, .iconst 5, 36, 0), (36, .imul, 37, 0), (37, .istore 5, 39, 0), (39, .iload 4, 41, 0), (41, .iload 8, 43, 0), (43, .if_icmp .ge 50, 46, 0), (46, .iconst 1, 47, 0), (47, .goto 51, 50, 0), (50, .iconst 0, 51, 0), (51, .istore 10, 53, 0), (53, .iload 7, 55, 0), (55, .ifCond .eq 92, 58, 0), (58, .iload 9, 60, 0), (60, .iconst 4, 61, 0), (61, .if_icmp .eq 88, 64, 0), (64, .iload 10, 66, 0), (66, .ifCond .ne 92, 69, 0), (69, .iload 9, 71, 0), (71, .aload 0, 72, 0), (72, .getfield 901, 75, 1046), (75, .if_icmp .ge 92, 78, 0), (78, .iload 6, 80, 0), (80, .iload 9, 82, 0), (82, .ishr, 83, 0), (83, .iconst 1, 84, 0), (84, .iand, 85, 0), (85, .ifCond .ne 92, 88, 0), (88, .iconst 1, 89, 0), (89, .goto 93, 92, 0), (92, .iconst 0, 93, 0), (93, .istore 7, 95, 0), (95, .iload 6, 97, 0), (97, .iconst 1, 98, 0), (98, .iload 9, 100, 0), (100, .ishl, 101, 0), (101, .ior, 102, 0), (102, .istore 6, 104, 0), (104, .aload 0, 105, 0)]
def kX9_laysHands_q1 : List (Nat × Instr × Nat × Nat) := [(105, .getfield 923, 108, 1068), (108, .iload 8, 110, 0), (110, .iload 9, 112, 0), (112, .iastore, 113, 0), (113, .iload 4, 115, 0), (115, .iload 7, 117, 0), (117, .ifCond .eq 135, 120, 0), (120, .iload 9, 122, 0), (122, .iconst 4, 123, 0), (123, .if_icmp .ge 135, 126, 0), (126, .iload 10, 128, 0), (128, .ifCond .ne 135, 131, 0), (131, .iconst 1, 132, 0), (132, .goto 136, 135, 0), (135, .iconst 0, 136, 0), (136, .iadd, 137, 0), (137, .istore 4, 139, 0), (139, .iinc 8 1, 142, 0), (142, .goto 17, 145, 0), (145, .iload 7, 147, 0), (147, .ifCond .eq 173, 150, 0), (150, .iload 4, 152, 0), (152, .ifCond .le 173, 155, 0), (155, .aload 0, 156, 0), (156, .getfield 923, 159, 1068), (159, .iload 4, 161, 0), (161, .iconst 1, 162, 0), (162, .isub, 163, 0), (163, .iaload, 164, 0), (164, .iload 3, 165, 0), (165, .if_icmp .ne 173, 168, 0), (168, .iload 4, 170, 0), (170, .goto 175, 173, 0), (173, .iconst (-4), 175, 0), (175, .ireturn, 176, 0)]
def kX9_laysHands : List (Nat × Instr × Nat × Nat) := (kX9_laysHands_q0 ++ kX9_laysHands_q1)
def kX9_handed_q0 : List (Nat × Instr × Nat × Nat) := [(0, .aload 0, 1, 0), (1, .getfield 900, 4, 1045), (4, .iconst 13, 6, 0), (6, .iload 1, 7, 0), (7, .iadd, 8, 0), (8, .iaload, 9, 0), (9, .istore 3, 10, 0), (10, .aload 0, 11, 0), (11, .getfield 900, 14, 1045), (14, .iconst 18, 16, 0), (16, .iload 1, 17, 0), (17, .iadd, 18, 0), (18, .iaload, 19, 0), (19, .istore 4, 21, 0), (21, .aload 0, 22, 0), (22, .iconst 0, 23, 0), (23, .putfield 924, 26, 1069), (26, .iconst 0, 27, 0), (27, .istore 5, 29, 0), (29, .iload 5, 31, 0), (31, .iload 2, 32, 0), (32, .if_icmp .ge 109, 35, 0), (35, .aload 0, 36, 0), (36, .iconst 0, 37, 0), (37, .iload 4, 39, 0), (39, .aload 0, 40, 0), (40, .getfield 923, 43, 1068), (43, .iload 5, 45, 0), (45, .iaload, 46, 0), (46, .invokevirtual 1700409, 49, 1331), (49, .istore 6, 51, 0), (51, .aload 0, 52, 0), (52, .iload 3, 53, 0), (53, .aload 0, 54, 0), (54, .getfield 904, 57, 1049), (57, .aload 0, 58, 0), (58, .getfield 900, 61, 1045), (61, .iconst 8, 63, 0), (63, .iload 1, 64, 0), (64, .iadd, 65, 0), (65, .iaload, 66, 0), (66, .iaload, 67, 0), (67, .aload 0, 68, 0), (68, .getfield 900, 71, 1045), (71, .iload 4, 73, 0), (73, .iaload, 74, 0), (74, .invokestatic 1530200, 77, 1255), (77, .iload 6, 79, 0), (79, .invokevirtual 1790409, 82, 1359), (82, .istore 3, 83, 0), (83, .aload 0, 84, 0), (84, .dup, 85, 0), (85, .getfield 924, 88, 1069), (88, .iload 6, 90, 0), (90, .iadd, 91, 0), (91, .putfield 924, 94, 1069), (94, .aload 0, 95, 0), (95, .getfield 923, 98, 1068), (98, .iload 5, 100, 0), (100, .iaload, 101, 0)]
def kX9_handed_q1 : List (Nat × Instr × Nat × Nat) := [(101, .istore 4, 103, 0), (103, .iinc 5 1, 106, 0), (106, .goto 29, 109, 0), (109, .iload 3, 110, 0), (110, .ireturn, 111, 0)]
def kX9_handed : List (Nat × Instr × Nat × Nat) := (kX9_handed_q0 ++ kX9_handed_q1)
def kX9_way_q0 : List (Nat × Instr × Nat × Nat) := [(0, .aload 0, 1, 0), (1, .iload 1, 2, 0), (2, .invokevirtual 1500209, 5, 1247), (5, .ifCond .eq 39, 8, 0), (8, .aload 0, 9, 0), (9, .iload 2, 10, 0), (10, .invokevirtual 1490209, 13, 1239), (13, .ifCond .eq 39, 16, 0), (16, .iload 3, 17, 0), (17, .ifCond .eq 41, 20, 0), (20, .iload 3, 21, 0), (21, .iconst 1, 22, 0), (22, .if_icmp .eq 41, 25, 0), (25, .iload 3, 26, 0), (26, .i2l, 27, 0), (27, .ldc2_w 10, 30, 1290), (30, .ldc2_w 13, 33, 1371), (33, .invokestatic 1350300, 36, 1172), (36, .ifCond .ne 41, 39, 0), (39, .iconst (-1), 40, 0), (40, .ireturn, 41, 0), (41, .aload 0, 42, 0), (42, .getfield 900, 45, 1045), (45, .iconst 18, 47, 0), (47, .iload 1, 48, 0), (48, .iadd, 49, 0), (49, .iaload, 50, 0), (50, .istore 4, 52, 0), (52, .iload 4, 54, 0), (54, .iload 2, 55, 0), (55, .if_icmp .ne 61, 58, 0), (58, .iconst (-2), 60, 0), (60, .ireturn, 61, 0), (61, .iconst (-1), 62, 0), (62, .istore 5, 64, 0), (64, .iconst 1000, 67, 0), (67, .istore 6, 69, 0), (69, .iconst 0, 70, 0), (70, .istore 7, 72, 0), (72, .iconst 0, 73, 0), (73, .istore 8, 75, 0), (75, .iload 8, 77, 0), (77, .iconst 125, 79, 0), (79, .if_icmp .ge 185, 82, 0), (82, .aload 0, 83, 0), (83, .iload 8, 85, 0), (85, .iload 4, 87, 0), (87, .iload 2, 88, 0), (88, .invokevirtual 1820409, 91, 1372), (91, .istore 9, 93, 0), (93, .iload 9, 95, 0), (95, .iconst (-4), 97, 0), (97, .if_icmp .eq 179, 100, 0), (100, .aload 0, 101, 0), (101, .iload 1, 102, 0), (102, .iload 9, 104, 0), (104, .invokevirtual 1830309, 107, 1376), (107, .istore 10, 109, 0), (109, .iload 10, 111, 0), (111, .iload 5, 113, 0)]
def kX9_way_q1 : List (Nat × Instr × Nat × Nat) := [(113, .if_icmp .gt 130, 116, 0), (116, .iload 10, 118, 0), (118, .iload 5, 120, 0), (120, .if_icmp .ne 134, 123, 0), (123, .iload 9, 125, 0), (125, .iload 6, 127, 0), (127, .if_icmp .ge 134, 130, 0), (130, .iconst 1, 131, 0), (131, .goto 135, 134, 0), (134, .iconst 0, 135, 0), (135, .istore 11, 137, 0), (137, .iload 11, 139, 0), (139, .ifCond .eq 147, 142, 0), (142, .iload 8, 144, 0), (144, .goto 149, 147, 0), (147, .iload 7, 149, 0), (149, .istore 7, 151, 0), (151, .iload 11, 153, 0), (153, .ifCond .eq 161, 156, 0), (156, .iload 9, 158, 0), (158, .goto 163, 161, 0), (161, .iload 6, 163, 0), (163, .istore 6, 165, 0), (165, .iload 11, 167, 0), (167, .ifCond .eq 175, 170, 0), (170, .iload 10, 172, 0), (172, .goto 177, 175, 0), (175, .iload 5, 177, 0), (177, .istore 5, 179, 0), (179, .iinc 8 1, 182, 0), (182, .goto 75, 185, 0), (185, .aload 0, 186, 0), (186, .iload 7, 188, 0), (188, .iload 4, 190, 0), (190, .iload 2, 191, 0), (191, .invokevirtual 1820409, 194, 1372), (194, .istore 8, 196, 0), (196, .aload 0, 197, 0), (197, .iload 1, 198, 0), (198, .iload 8, 200, 0), (200, .invokevirtual 1830309, 203, 1376), (203, .pop, 204, 0), (204, .iload 3, 205, 0), (205, .ifCond .ne 213, 208, 0), (208, .iload 5, 210, 0), (210, .goto 248, 213, 0), (213, .iload 3, 214, 0), (214, .iconst 1, 215, 0), (215, .if_icmp .ne 225, 218, 0), (218, .aload 0, 219, 0), (219, .getfield 924, 222, 1069), (222, .goto 248, 225, 0), (225, .iload 3, 226, 0), (226, .iconst 10, 228, 0), (228, .isub, 229, 0), (229, .iload 8, 231, 0), (231, .if_icmp .ge 246, 234, 0), (234, .aload 0, 235, 0), (235, .getfield 923, 238, 1068), (238, .iload 3, 239, 0)]
def kX9_way_q2 : List (Nat × Instr × Nat × Nat) := [(239, .iconst 10, 241, 0), (241, .isub, 242, 0), (242, .iaload, 243, 0), (243, .goto 248, 246, 0), (246, .iconst (-4), 248, 0), (248, .ireturn, 249, 0)]
def kX9_way : List (Nat × Instr × Nat × Nat) := (kX9_way_q0 ++ (kX9_way_q1 ++ kX9_way_q2))
def kX9_copies : List (Nat × Instr × Nat × Nat) := [(0, .iconst 0, 1, 0), (1, .istore 3, 2, 0), (2, .iload 3, 3, 0), (3, .iconst 38, 5, 0), (5, .if_icmp .ge 30, 8, 0), (8, .aload 0, 9, 0), (9, .getfield 900, 12, 1045), (12, .iload 2, 13, 0), (13, .iload 3, 14, 0), (14, .iadd, 15, 0), (15, .aload 0, 16, 0), (16, .getfield 900, 19, 1045), (19, .iload 1, 20, 0), (20, .iload 3, 21, 0), (21, .iadd, 22, 0), (22, .iaload, 23, 0), (23, .iastore, 24, 0), (24, .iinc 3 1, 27, 0), (27, .goto 2, 30, 0), (30, .return_, 31, 0)]
def kX9_laysRow_q0 : List (Nat × Instr × Nat × Nat) := [(0, .iload 2, 1, 0), (1, .istore 5, 3, 0), (3, .iconst 0, 4, 0), (4, .istore 6, 6, 0), (6, .iconst 1, 7, 0), (7, .istore 7, 9, 0), (9, .iload 3, 10, 0), (10, .iconst 1, 11, 0), (11, .isub, 12, 0), (12, .istore 8, 14, 0), (14, .iload 8, 16, 0), (16, .ifCond .lt 108, 19, 0), (19, .iload 5, 21, 0), (21, .iconst 5, 22, 0), (22, .irem, 23, 0), (23, .istore 9, 25, 0), (25, .iload 5, 27, 0), (27, .iconst 5, 28, 0), (28, .idiv, 29, 0), (29, .istore 5, 31, 0), (31, .iload 7, 33, 0), (33, .ifCond .eq 81, 36, 0), (36, .iload 9, 38, 0), (38, .aload 0, 39, 0), (39, .getfield 900, 42, 1045), (42, .iload 1, 43, 0), (43, .iconst 23, 45, 0), (45, .iadd, 46, 0), (46, .iaload, 47, 0), (47, .if_icmp .ge 81, 50, 0), (50, .aload 0, 51, 0), (51, .getfield 900, 54, 1045), (54, .iload 1, 55, 0), (55, .iconst 18, 57, 0), (57, .iadd, 58, 0), (58, .iload 9, 60, 0), (60, .iadd, 61, 0), (61, .iaload, 62, 0), (62, .iload 4, 64, 0), (64, .if_icmp .ne 81, 67, 0), (67, .iload 6, 69, 0), (69, .iload 9, 71, 0), (71, .ishr, 72, 0), (72, .iconst 1, 73, 0), (73, .iand, 74, 0), (74, .ifCond .ne 81, 77, 0), (77, .iconst 1, 78, 0), (78, .goto 82, 81, 0), (81, .iconst 0, 82, 0), (82, .istore 7, 84, 0), (84, .iload 6, 86, 0), (86, .iconst 1, 87, 0), (87, .iload 9, 89, 0), (89, .ishl, 90, 0), (90, .ior, 91, 0), (91, .istore 6, 93, 0), (93, .aload 0, 94, 0), (94, .getfield 925, 97, 1070), (97, .iload 8, 99, 0), (99, .iload 9, 101, 0)]
def kX9_laysRow_q1 : List (Nat × Instr × Nat × Nat) := [(101, .iastore, 102, 0), (102, .iinc 8 (-1), 105, 0), (105, .goto 14, 108, 0), (108, .iload 7, 110, 0), (110, .ireturn, 111, 0)]
def kX9_laysRow : List (Nat × Instr × Nat × Nat) := (kX9_laysRow_q0 ++ kX9_laysRow_q1)
def kX9_fewestFrom_q0 : List (Nat × Instr × Nat × Nat) := [(0, .iconst 1, 1, 0), (1, .istore 3, 2, 0), (2, .iconst 0, 3, 0), (3, .istore 4, 5, 0), (5, .iload 4, 7, 0), (7, .aload 0, 8, 0), (8, .getfield 900, 11, 1045), (11, .iload 1, 12, 0), (12, .iconst 23, 14, 0), (14, .iadd, 15, 0), (15, .iaload, 16, 0), (16, .if_icmp .gt 143, 19, 0), (19, .iconst 0, 20, 0), (20, .istore 5, 22, 0), (22, .iload 5, 24, 0), (24, .iload 3, 25, 0), (25, .if_icmp .ge 133, 28, 0), (28, .aload 0, 29, 0), (29, .iload 1, 30, 0), (30, .iload 5, 32, 0), (32, .iload 4, 34, 0), (34, .aload 0, 35, 0), (35, .getfield 902, 38, 1047), (38, .iconst 2, 39, 0), (39, .iload 2, 40, 0), (40, .imul, 41, 0), (41, .iaload, 42, 0), (42, .invokevirtual 1860509, 45, 1389), (45, .ifCond .eq 127, 48, 0), (48, .aload 0, 49, 0), (49, .iload 1, 50, 0), (50, .iconst 152, 53, 0), (53, .invokevirtual 1850309, 56, 1393), (56, .iconst 0, 57, 0), (57, .istore 6, 59, 0), (59, .iload 6, 61, 0), (61, .iload 4, 63, 0), (63, .if_icmp .ge 111, 66, 0), (66, .aload 0, 67, 0), (67, .iconst 152, 70, 0), (70, .aload 0, 71, 0), (71, .getfield 925, 74, 1070), (74, .iload 6, 76, 0), (76, .iaload, 77, 0), (77, .aload 0, 78, 0), (78, .getfield 902, 81, 1047), (81, .iconst 2, 82, 0), (82, .iload 2, 83, 0), (83, .imul, 84, 0), (84, .iconst 1, 85, 0), (85, .iadd, 86, 0), (86, .iaload, 87, 0), (87, .invokevirtual 1710409, 90, 1339), (90, .pop, 91, 0), (91, .aload 0, 92, 0), (92, .getfield 926, 95, 1071), (95, .iload 6, 97, 0), (97, .aload 0, 98, 0), (98, .getfield 925, 101, 1070), (101, .iload 6, 103, 0)]
def kX9_fewestFrom_q1 : List (Nat × Instr × Nat × Nat) := [(103, .iaload, 104, 0), (104, .iastore, 105, 0), (105, .iinc 6 1, 108, 0), (108, .goto 59, 111, 0), (111, .aload 0, 112, 0), (112, .getfield 900, 115, 1045), (115, .iconst 185, 118, 0), (118, .iload 2, 119, 0), (119, .iadd, 120, 0), (120, .iaload, 121, 0), (121, .ifCond .ne 127, 124, 0), (124, .iload 4, 126, 0), (126, .ireturn, 127, 0), (127, .iinc 5 1, 130, 0), (130, .goto 22, 133, 0), (133, .iload 3, 134, 0), (134, .iconst 5, 135, 0), (135, .imul, 136, 0), (136, .istore 3, 137, 0), (137, .iinc 4 1, 140, 0), (140, .goto 5, 143, 0), (143, .iconst (-4), 145, 0), (145, .ireturn, 146, 0)]
def kX9_fewestFrom : List (Nat × Instr × Nat × Nat) := (kX9_fewestFrom_q0 ++ kX9_fewestFrom_q1)
def kX9_fewest : List (Nat × Instr × Nat × Nat) := [(0, .aload 0, 1, 0), (1, .iload 1, 2, 0), (2, .invokevirtual 1510209, 5, 1262), (5, .ifCond .eq 26, 8, 0), (8, .iload 2, 9, 0), (9, .ifCond .eq 28, 12, 0), (12, .iload 2, 13, 0), (13, .i2l, 14, 0), (14, .ldc2_w 10, 17, 1290), (17, .ldc2_w 14, 20, 1384), (20, .invokestatic 1350300, 23, 1172), (23, .ifCond .ne 28, 26, 0), (26, .iconst (-1), 27, 0), (27, .ireturn, 28, 0), (28, .aload 0, 29, 0), (29, .iconst 0, 30, 0), (30, .iload 1, 31, 0), (31, .invokevirtual 1870309, 34, 1385), (34, .istore 3, 35, 0), (35, .iload 2, 36, 0), (36, .ifCond .eq 45, 39, 0), (39, .iload 3, 40, 0), (40, .iconst (-4), 42, 0), (42, .if_icmp .ne 49, 45, 0), (45, .iload 3, 46, 0), (46, .goto 71, 49, 0), (49, .iload 2, 50, 0), (50, .iconst 10, 52, 0), (52, .isub, 53, 0), (53, .iload 3, 54, 0), (54, .if_icmp .ge 69, 57, 0), (57, .aload 0, 58, 0), (58, .getfield 926, 61, 1071), (61, .iload 2, 62, 0), (62, .iconst 10, 64, 0), (64, .isub, 65, 0), (65, .iaload, 66, 0), (66, .goto 71, 69, 0), (69, .iconst (-4), 71, 0), (71, .ireturn, 72, 0)]
def kX9_laysOrder : List (Nat × Instr × Nat × Nat) := [(0, .iload 1, 1, 0), (1, .istore 2, 2, 0), (2, .iconst 0, 3, 0), (3, .istore 3, 4, 0), (4, .iconst 1, 5, 0), (5, .istore 4, 7, 0), (7, .aload 0, 8, 0), (8, .getfield 903, 11, 1048), (11, .iconst 1, 12, 0), (12, .isub, 13, 0), (13, .istore 5, 15, 0), (15, .iload 5, 17, 0), (17, .ifCond .lt 92, 20, 0), (20, .aload 0, 21, 0), (21, .getfield 927, 24, 1072), (24, .iload 5, 26, 0), (26, .iload 2, 27, 0), (27, .iconst 4, 28, 0), (28, .irem, 29, 0), (29, .iastore, 30, 0), (30, .iload 2, 31, 0), (31, .iconst 4, 32, 0), (32, .idiv, 33, 0), (33, .istore 2, 34, 0), (34, .iload 4, 36, 0), (36, .ifCond .eq 71, 39, 0), (39, .aload 0, 40, 0), (40, .getfield 927, 43, 1072), (43, .iload 5, 45, 0), (45, .iaload, 46, 0), (46, .aload 0, 47, 0), (47, .getfield 903, 50, 1048), (50, .if_icmp .ge 71, 53, 0), (53, .iload 3, 54, 0), (54, .aload 0, 55, 0), (55, .getfield 927, 58, 1072), (58, .iload 5, 60, 0), (60, .iaload, 61, 0), (61, .ishr, 62, 0), (62, .iconst 1, 63, 0), (63, .iand, 64, 0), (64, .ifCond .ne 71, 67, 0), (67, .iconst 1, 68, 0), (68, .goto 72, 71, 0), (71, .iconst 0, 72, 0), (72, .istore 4, 74, 0), (74, .iload 3, 75, 0), (75, .iconst 1, 76, 0), (76, .aload 0, 77, 0), (77, .getfield 927, 80, 1072), (80, .iload 5, 82, 0), (82, .iaload, 83, 0), (83, .ishl, 84, 0), (84, .ior, 85, 0), (85, .istore 3, 86, 0), (86, .iinc 5 (-1), 89, 0), (89, .goto 15, 92, 0), (92, .iload 4, 94, 0), (94, .ireturn, 95, 0)]
def kX9_settled_q0 : List (Nat × Instr × Nat × Nat) := [(0, .aload 0, 1, 0), (1, .iconst 0, 2, 0), (2, .iconst 190, 5, 0), (5, .invokevirtual 1850309, 8, 1393), (8, .iconst 0, 9, 0), (9, .istore 1, 10, 0), (10, .iload 1, 11, 0), (11, .aload 0, 12, 0), (12, .getfield 903, 15, 1048), (15, .if_icmp .ge 80, 18, 0), (18, .aload 0, 19, 0), (19, .iconst 190, 22, 0), (22, .aload 0, 23, 0), (23, .getfield 927, 26, 1072), (26, .iload 1, 27, 0), (27, .iaload, 28, 0), (28, .invokevirtual 1870309, 31, 1385), (31, .istore 2, 32, 0), (32, .iconst 0, 33, 0), (33, .istore 3, 34, 0), (34, .iload 3, 35, 0), (35, .iload 2, 36, 0), (36, .if_icmp .ge 74, 39, 0), (39, .aload 0, 40, 0), (40, .iconst 190, 43, 0), (43, .aload 0, 44, 0), (44, .getfield 926, 47, 1071), (47, .iload 3, 48, 0), (48, .iaload, 49, 0), (49, .aload 0, 50, 0), (50, .getfield 902, 53, 1047), (53, .iconst 2, 54, 0), (54, .aload 0, 55, 0), (55, .getfield 927, 58, 1072), (58, .iload 1, 59, 0), (59, .iaload, 60, 0), (60, .imul, 61, 0), (61, .iconst 1, 62, 0), (62, .iadd, 63, 0), (63, .iaload, 64, 0), (64, .invokevirtual 1710409, 67, 1339), (67, .pop, 68, 0), (68, .iinc 3 1, 71, 0), (71, .goto 34, 74, 0), (74, .iinc 1 1, 77, 0), (77, .goto 10, 80, 0), (80, .iconst 0, 81, 0), (81, .istore 1, 82, 0), (82, .iconst 0, 83, 0), (83, .istore 2, 84, 0), (84, .iload 2, 85, 0), (85, .aload 0, 86, 0), (86, .getfield 903, 89, 1048), (89, .if_icmp .ge 131, 92, 0), (92, .iload 1, 93, 0), (93, .aload 0, 94, 0), (94, .getfield 900, 97, 1045), (97, .iconst 33, 99, 0), (99, .iload 2, 100, 0), (100, .iadd, 101, 0)]
def kX9_settled_q1 : List (Nat × Instr × Nat × Nat) := [(101, .iaload, 102, 0), (102, .ifCond .le 122, 105, 0), (105, .aload 0, 106, 0), (106, .getfield 900, 109, 1045), (109, .iconst 223, 112, 0), (112, .iload 2, 113, 0), (113, .iadd, 114, 0), (114, .iaload, 115, 0), (115, .ifCond .ne 122, 118, 0), (118, .iconst 1, 119, 0), (119, .goto 123, 122, 0), (122, .iconst 0, 123, 0), (123, .iadd, 124, 0), (124, .istore 1, 125, 0), (125, .iinc 2 1, 128, 0), (128, .goto 84, 131, 0), (131, .iload 1, 132, 0), (132, .ireturn, 133, 0)]
def kX9_settled : List (Nat × Instr × Nat × Nat) := (kX9_settled_q0 ++ kX9_settled_q1)
def kX9_settle_q0 : List (Nat × Instr × Nat × Nat) := [(0, .iload 1, 1, 0), (1, .ifCond .eq 25, 4, 0), (4, .iload 1, 5, 0), (5, .i2l, 6, 0), (6, .ldc2_w 10, 9, 1290), (9, .iconst 9, 11, 0), (11, .aload 0, 12, 0), (12, .getfield 903, 15, 1048), (15, .iadd, 16, 0), (16, .i2l, 17, 0), (17, .invokestatic 1350300, 20, 1172), (20, .ifCond .ne 25, 23, 0), (23, .iconst (-1), 24, 0), (24, .ireturn, 25, 0), (25, .iconst 1, 26, 0), (26, .istore 2, 27, 0), (27, .iconst 0, 28, 0), (28, .istore 3, 29, 0), (29, .iload 3, 30, 0), (30, .aload 0, 31, 0), (31, .getfield 903, 34, 1048), (34, .if_icmp .ge 47, 37, 0), (37, .iload 2, 38, 0), (38, .iconst 4, 39, 0), (39, .imul, 40, 0), (40, .istore 2, 41, 0), (41, .iinc 3 1, 44, 0), (44, .goto 29, 47, 0), (47, .iconst (-1), 48, 0), (48, .istore 3, 49, 0), (49, .iconst 0, 50, 0), (50, .istore 4, 52, 0), (52, .iconst 0, 53, 0), (53, .istore 5, 55, 0), (55, .iload 5, 57, 0), (57, .iload 2, 58, 0), (58, .if_icmp .ge 114, 61, 0), (61, .aload 0, 62, 0), (62, .iload 5, 64, 0), (64, .invokevirtual 1890209, 67, 1401), (67, .ifCond .eq 77, 70, 0), (70, .aload 0, 71, 0), (71, .invokevirtual 1900109, 74, 1405), (74, .goto 78, 77, 0), (77, .iconst (-1), 78, 0), (78, .istore 6, 80, 0), (80, .iload 6, 82, 0), (82, .iload 3, 83, 0), (83, .if_icmp .le 91, 86, 0), (86, .iload 5, 88, 0), (88, .goto 93, 91, 0), (91, .iload 4, 93, 0), (93, .istore 4, 95, 0), (95, .iload 6, 97, 0), (97, .iload 3, 98, 0), (98, .if_icmp .le 106, 101, 0), (101, .iload 6, 103, 0), (103, .goto 107, 106, 0), (106, .iload 3, 107, 0), (107, .istore 3, 108, 0)]
def kX9_settle_q1 : List (Nat × Instr × Nat × Nat) := [(108, .iinc 5 1, 111, 0), (111, .goto 55, 114, 0), (114, .aload 0, 115, 0), (115, .iload 4, 117, 0), (117, .invokevirtual 1890209, 120, 1401), (120, .pop, 121, 0), (121, .iload 1, 122, 0), (122, .ifCond .ne 129, 125, 0), (125, .iload 3, 126, 0), (126, .goto 138, 129, 0), (129, .aload 0, 130, 0), (130, .getfield 927, 133, 1072), (133, .iload 1, 134, 0), (134, .iconst 10, 136, 0), (136, .isub, 137, 0), (137, .iaload, 138, 0), (138, .ireturn, 139, 0)]
def kX9_settle : List (Nat × Instr × Nat × Nat) := (kX9_settle_q0 ++ kX9_settle_q1)
def kX9_wool : List (Nat × Instr × Nat × Nat) := [(0, .aload 0, 1, 0), (1, .iload 1, 2, 0), (2, .invokevirtual 1500209, 5, 1247), (5, .ifCond .eq 20, 8, 0), (8, .iload 2, 9, 0), (9, .i2l, 10, 0), (10, .ldc2_w 0, 11, 0), (11, .ldc2_w 60, 14, 1307), (14, .invokestatic 1350300, 17, 1172), (17, .ifCond .ne 22, 20, 0), (20, .iconst (-1), 21, 0), (21, .ireturn, 22, 0), (22, .iconst 0, 23, 0), (23, .istore 3, 24, 0), (24, .iload 3, 25, 0), (25, .iconst 5, 26, 0), (26, .if_icmp .gt 73, 29, 0), (29, .aload 0, 30, 0), (30, .aload 0, 31, 0), (31, .getfield 900, 34, 1045), (34, .iconst 13, 36, 0), (36, .iload 1, 37, 0), (37, .iadd, 38, 0), (38, .iaload, 39, 0), (39, .aload 0, 40, 0), (40, .getfield 904, 43, 1049), (43, .aload 0, 44, 0), (44, .getfield 900, 47, 1045), (47, .iconst 8, 49, 0), (49, .iload 1, 50, 0), (50, .iadd, 51, 0), (51, .iaload, 52, 0), (52, .iaload, 53, 0), (53, .iload 3, 54, 0), (54, .invokestatic 1530200, 57, 1255), (57, .iload 2, 58, 0), (58, .invokevirtual 1790409, 61, 1359), (61, .iconst 5, 62, 0), (62, .if_icmp .lt 67, 65, 0), (65, .iload 3, 66, 0), (66, .ireturn, 67, 0), (67, .iinc 3 1, 70, 0), (70, .goto 24, 73, 0), (73, .iconst (-4), 75, 0), (75, .ireturn, 76, 0)]
def kX9_reaches : List (Nat × Instr × Nat × Nat) := [(0, .aload 0, 1, 0), (1, .getfield 928, 4, 1073), (4, .iconst 100, 6, 0), (6, .iload 1, 7, 0), (7, .imul, 8, 0), (8, .iload 2, 9, 0), (9, .iadd, 10, 0), (10, .iload 3, 11, 0), (11, .aload 0, 12, 0), (12, .getfield 928, 15, 1073), (15, .iconst 100, 17, 0), (17, .iload 1, 18, 0), (18, .imul, 19, 0), (19, .iload 2, 20, 0), (20, .iadd, 21, 0), (21, .iaload, 22, 0), (22, .if_icmp .ge 29, 25, 0), (25, .iload 3, 26, 0), (26, .goto 40, 29, 0), (29, .aload 0, 30, 0), (30, .getfield 928, 33, 1073), (33, .iconst 100, 35, 0), (35, .iload 1, 36, 0), (36, .imul, 37, 0), (37, .iload 2, 38, 0), (38, .iadd, 39, 0), (39, .iaload, 40, 0), (40, .iastore, 41, 0), (41, .return_, 42, 0)]
def kX9_walked : List (Nat × Instr × Nat × Nat) := [(0, .aload 0, 1, 0), (1, .iload 1, 2, 0), (2, .invokevirtual 1770209, 5, 1347), (5, .istore 5, 7, 0), (7, .iload 3, 8, 0), (8, .istore 6, 10, 0), (10, .iconst 1, 11, 0), (11, .istore 7, 13, 0), (13, .iload 7, 15, 0), (15, .iconst 2, 16, 0), (16, .iload 5, 18, 0), (18, .imul, 19, 0), (19, .iconst 1, 20, 0), (20, .iadd, 21, 0), (21, .if_icmp .gt 91, 24, 0), (24, .iload 7, 26, 0), (26, .iload 5, 28, 0), (28, .iconst 1, 29, 0), (29, .iadd, 30, 0), (30, .if_icmp .eq 47, 33, 0), (33, .iload 6, 35, 0), (35, .aload 0, 36, 0), (36, .iconst 0, 37, 0), (37, .iload 1, 38, 0), (38, .invokevirtual 1540309, 41, 1251), (41, .invokestatic 1550200, 44, 1316), (44, .goto 65, 47, 0), (47, .iload 6, 49, 0), (49, .aload 0, 50, 0), (50, .invokevirtual 1760109, 53, 1351), (53, .if_icmp .ge 63, 56, 0), (56, .aload 0, 57, 0), (57, .invokevirtual 1760109, 60, 1351), (60, .goto 65, 63, 0), (63, .iload 6, 65, 0), (65, .istore 6, 67, 0), (67, .iload 2, 68, 0), (68, .iload 7, 70, 0), (70, .iadd, 71, 0), (71, .iload 4, 73, 0), (73, .if_icmp .gt 85, 76, 0), (76, .iload 6, 78, 0), (78, .iconst 5, 79, 0), (79, .if_icmp .ge 85, 82, 0), (82, .iconst (-4), 84, 0), (84, .ireturn, 85, 0), (85, .iinc 7 1, 88, 0), (88, .goto 13, 91, 0), (91, .iload 6, 93, 0), (93, .ireturn, 94, 0)]
def kX9_walks_q0 : List (Nat × Instr × Nat × Nat) := [(0, .aload 0, 1, 0), (1, .iload 1, 2, 0), (2, .invokevirtual 1500209, 5, 1247), (5, .ifCond .eq 20, 8, 0), (8, .iload 2, 9, 0), (9, .i2l, 10, 0), (10, .ldc2_w 0, 11, 0), (11, .ldc2_w 60, 14, 1307), (14, .invokestatic 1350300, 17, 1172), (17, .ifCond .ne 22, 20, 0), (20, .iconst (-1), 21, 0), (21, .ireturn, 22, 0), (22, .iconst 0, 23, 0), (23, .istore 3, 24, 0), (24, .iload 3, 25, 0), (25, .iconst 6100, 28, 0), (28, .if_icmp .ge 46, 31, 0), (31, .aload 0, 32, 0), (32, .getfield 928, 35, 1073), (35, .iload 3, 36, 0), (36, .iconst 1000, 39, 0), (39, .iastore, 40, 0), (40, .iinc 3 1, 43, 0), (43, .goto 24, 46, 0), (46, .iconst 1000, 49, 0), (49, .istore 3, 50, 0), (50, .aload 0, 51, 0), (51, .getfield 900, 54, 1045), (54, .iconst 13, 56, 0), (56, .iload 1, 57, 0), (57, .iadd, 58, 0), (58, .iaload, 59, 0), (59, .iconst 5, 60, 0), (60, .if_icmp .lt 78, 63, 0), (63, .aload 0, 64, 0), (64, .iconst 0, 65, 0), (65, .aload 0, 66, 0), (66, .getfield 900, 69, 1045), (69, .iconst 13, 71, 0), (71, .iload 1, 72, 0), (72, .iadd, 73, 0), (73, .iaload, 74, 0), (74, .iconst 0, 75, 0), (75, .invokevirtual 1930409, 78, 1417), (78, .iconst 0, 79, 0), (79, .istore 4, 81, 0), (81, .iload 4, 83, 0), (83, .iload 2, 84, 0), (84, .if_icmp .gt 269, 87, 0), (87, .iconst 5, 88, 0), (88, .istore 5, 90, 0), (90, .iload 5, 92, 0), (92, .iconst 100, 94, 0), (94, .if_icmp .ge 263, 97, 0), (97, .aload 0, 98, 0), (98, .getfield 928, 101, 1073), (101, .iconst 100, 103, 0), (103, .iload 4, 105, 0), (105, .imul, 106, 0), (106, .iload 5, 108, 0)]
def kX9_walks_q1 : List (Nat × Instr × Nat × Nat) := [(108, .iadd, 109, 0), (109, .iaload, 110, 0), (110, .istore 6, 112, 0), (112, .iload 6, 114, 0), (114, .iconst 1000, 117, 0), (117, .if_icmp .ge 238, 120, 0), (120, .iload 4, 122, 0), (122, .iload 2, 123, 0), (123, .if_icmp .ge 238, 126, 0), (126, .iload 5, 128, 0), (128, .aload 0, 129, 0), (129, .iconst 0, 130, 0), (130, .iload 1, 131, 0), (131, .invokevirtual 1540309, 134, 1251), (134, .invokestatic 1550200, 137, 1316), (137, .istore 7, 139, 0), (139, .iload 7, 141, 0), (141, .iconst 5, 142, 0), (142, .if_icmp .lt 157, 145, 0), (145, .aload 0, 146, 0), (146, .iload 4, 148, 0), (148, .iconst 1, 149, 0), (149, .iadd, 150, 0), (150, .iload 7, 152, 0), (152, .iload 6, 154, 0), (154, .invokevirtual 1930409, 157, 1417), (157, .iload 4, 159, 0), (159, .iconst 2, 160, 0), (160, .aload 0, 161, 0), (161, .iload 1, 162, 0), (162, .invokevirtual 1770209, 165, 1347), (165, .imul, 166, 0), (166, .iadd, 167, 0), (167, .iconst 1, 168, 0), (168, .iadd, 169, 0), (169, .istore 8, 171, 0), (171, .aload 0, 172, 0), (172, .iload 1, 173, 0), (173, .iload 4, 175, 0), (175, .iload 5, 177, 0), (177, .iload 2, 178, 0), (178, .invokevirtual 1940509, 181, 1421), (181, .istore 9, 183, 0), (183, .iload 9, 185, 0), (185, .iconst (-4), 187, 0), (187, .if_icmp .eq 208, 190, 0), (190, .iload 8, 192, 0), (192, .iload 2, 193, 0), (193, .if_icmp .gt 208, 196, 0), (196, .aload 0, 197, 0), (197, .iload 8, 199, 0), (199, .iload 9, 201, 0), (201, .iload 6, 203, 0), (203, .iconst 1, 204, 0), (204, .iadd, 205, 0), (205, .invokevirtual 1930409, 208, 1417), (208, .iload 9, 210, 0), (210, .iconst (-4), 212, 0), (212, .if_icmp .eq 236, 215, 0), (215, .iload 8, 217, 0)]
def kX9_walks_q2 : List (Nat × Instr × Nat × Nat) := [(217, .iload 2, 218, 0), (218, .if_icmp .le 236, 221, 0), (221, .iload 6, 223, 0), (223, .iconst 1, 224, 0), (224, .iadd, 225, 0), (225, .iload 3, 226, 0), (226, .if_icmp .ge 236, 229, 0), (229, .iload 6, 231, 0), (231, .iconst 1, 232, 0), (232, .iadd, 233, 0), (233, .goto 237, 236, 0), (236, .iload 3, 237, 0), (237, .istore 3, 238, 0), (238, .iload 4, 240, 0), (240, .iload 2, 241, 0), (241, .if_icmp .ne 255, 244, 0), (244, .iload 6, 246, 0), (246, .iload 3, 247, 0), (247, .if_icmp .ge 255, 250, 0), (250, .iload 6, 252, 0), (252, .goto 256, 255, 0), (255, .iload 3, 256, 0), (256, .istore 3, 257, 0), (257, .iinc 5 1, 260, 0), (260, .goto 90, 263, 0), (263, .iinc 4 1, 266, 0), (266, .goto 81, 269, 0), (269, .iload 3, 270, 0), (270, .iconst 1000, 273, 0), (273, .if_icmp .ne 281, 276, 0), (276, .iconst (-4), 278, 0), (278, .goto 282, 281, 0), (281, .iload 3, 282, 0), (282, .ireturn, 283, 0)]
def kX9_walks : List (Nat × Instr × Nat × Nat) := (kX9_walks_q0 ++ (kX9_walks_q1 ++ kX9_walks_q2))
def kX9_bought : List (Nat × Instr × Nat × Nat) := [(0, .iload 1, 1, 0), (1, .aload 0, 2, 0), (2, .getfield 900, 5, 1045), (5, .iconst 27, 7, 0), (7, .iload 2, 8, 0), (8, .iadd, 9, 0), (9, .iaload, 10, 0), (10, .iconst 1, 11, 0), (11, .iadd, 12, 0), (12, .idiv, 13, 0), (13, .ireturn, 14, 0)]
def kX9_buys : List (Nat × Instr × Nat × Nat) := [(0, .aload 0, 1, 0), (1, .iload 1, 2, 0), (2, .invokevirtual 1500209, 5, 1247), (5, .ifCond .eq 18, 8, 0), (8, .iload 2, 9, 0), (9, .i2l, 10, 0), (10, .ldc2_w 0, 11, 0), (11, .ldc2_w 1, 12, 0), (12, .invokestatic 1350300, 15, 1172), (15, .ifCond .ne 20, 18, 0), (18, .iconst (-1), 19, 0), (19, .ireturn, 20, 0), (20, .iconst (-1), 21, 0), (21, .istore 3, 22, 0), (22, .iconst 0, 23, 0), (23, .istore 4, 25, 0), (25, .iconst 0, 26, 0), (26, .istore 5, 28, 0), (28, .iload 5, 30, 0), (30, .iconst 6, 32, 0), (32, .if_icmp .ge 98, 35, 0), (35, .aload 0, 36, 0), (36, .aload 0, 37, 0), (37, .aload 0, 38, 0), (38, .getfield 900, 41, 1045), (41, .iconst 13, 43, 0), (43, .iload 1, 44, 0), (44, .iadd, 45, 0), (45, .iaload, 46, 0), (46, .aload 0, 47, 0), (47, .iconst 0, 48, 0), (48, .iload 1, 49, 0), (49, .invokevirtual 1540309, 52, 1251), (52, .iload 5, 54, 0), (54, .invokevirtual 1790409, 57, 1359), (57, .iload 5, 59, 0), (59, .invokevirtual 1960309, 62, 1429), (62, .istore 6, 64, 0), (64, .iload 6, 66, 0), (66, .iload 3, 67, 0), (67, .if_icmp .le 75, 70, 0), (70, .iload 5, 72, 0), (72, .goto 77, 75, 0), (75, .iload 4, 77, 0), (77, .istore 4, 79, 0), (79, .iload 6, 81, 0), (81, .iload 3, 82, 0), (82, .if_icmp .le 90, 85, 0), (85, .iload 6, 87, 0), (87, .goto 91, 90, 0), (90, .iload 3, 91, 0), (91, .istore 3, 92, 0), (92, .iinc 5 1, 95, 0), (95, .goto 28, 98, 0), (98, .iload 2, 99, 0), (99, .ifCond .ne 107, 102, 0), (102, .iload 4, 104, 0), (104, .goto 108, 107, 0), (107, .iload 3, 108, 0), (108, .ireturn, 109, 0)]
def kX9_lowest : List (Nat × Instr × Nat × Nat) := [(0, .lload 0, 1, 0), (1, .lstore 5, 3, 0), (3, .lload 2, 4, 0), (4, .lstore 7, 6, 0), (6, .lload 7, 8, 0), (8, .ldc2_w 0, 9, 0), (9, .lcmp, 10, 0), (10, .ifCond .eq 31, 13, 0), (13, .lload 5, 15, 0), (15, .lload 7, 17, 0), (17, .lrem, 18, 0), (18, .lstore 9, 20, 0), (20, .lload 7, 22, 0), (22, .lstore 5, 24, 0), (24, .lload 9, 26, 0), (26, .lstore 7, 28, 0), (28, .goto 6, 31, 0), (31, .iload 4, 33, 0), (33, .ifCond .ne 40, 36, 0), (36, .lload 0, 37, 0), (37, .goto 41, 40, 0), (40, .lload 2, 41, 0), (41, .lload 5, 43, 0), (43, .ldiv, 44, 0), (44, .lreturn, 45, 0)]
def kX9_windy : List (Nat × Instr × Nat × Nat) := [(0, .iload 1, 1, 0), (1, .iload 2, 2, 0), (2, .invokestatic 1550200, 5, 1316), (5, .iload 2, 6, 0), (6, .invokestatic 1550200, 9, 1316), (9, .ireturn, 10, 0)]
def kX9_byWind_q0 : List (Nat × Instr × Nat × Nat) := [(0, .aload 0, 1, 0), (1, .iconst 0, 2, 0), (2, .iload 1, 3, 0), (3, .invokevirtual 1540309, 6, 1251), (6, .istore 5, 8, 0), (8, .aload 0, 9, 0), (9, .getfield 900, 12, 1045), (12, .iconst 26, 14, 0), (14, .iaload, 15, 0), (15, .iconst 2, 16, 0), (16, .iadd, 17, 0), (17, .istore 6, 19, 0), (19, .ldc2_w 0, 20, 0), (20, .lstore 7, 22, 0), (22, .ldc2_w 1, 23, 0), (23, .lstore 9, 25, 0), (25, .iconst 0, 26, 0), (26, .istore 11, 28, 0), (28, .iload 11, 30, 0), (30, .iload 2, 31, 0), (31, .if_icmp .ge 48, 34, 0), (34, .lload 9, 36, 0), (36, .ldc2_w 10, 39, 1290), (39, .lmul, 40, 0), (40, .lstore 9, 42, 0), (42, .iinc 11 1, 45, 0), (45, .goto 28, 48, 0), (48, .iconst 0, 49, 0), (49, .istore 11, 51, 0), (51, .iload 11, 53, 0), (53, .iconst 1, 54, 0), (54, .iload 2, 55, 0), (55, .ishl, 56, 0), (56, .if_icmp .ge 188, 59, 0), (59, .aload 0, 60, 0), (60, .getfield 900, 63, 1045), (63, .iconst 13, 65, 0), (65, .iload 1, 66, 0), (66, .iadd, 67, 0), (67, .iaload, 68, 0), (68, .istore 12, 70, 0), (70, .ldc2_w 1, 71, 0), (71, .lstore 13, 73, 0), (73, .iconst 0, 74, 0), (74, .istore 15, 76, 0), (76, .iload 15, 78, 0), (78, .iload 2, 79, 0), (79, .if_icmp .ge 153, 82, 0), (82, .iload 11, 84, 0), (84, .iload 15, 86, 0), (86, .ishr, 87, 0), (87, .iconst 1, 88, 0), (88, .iand, 89, 0), (89, .iconst 1, 90, 0), (90, .if_icmp .ne 97, 93, 0), (93, .iconst 1, 94, 0), (94, .goto 98, 97, 0), (97, .iconst 0, 98, 0), (98, .istore 16, 100, 0), (100, .iload 16, 102, 0)]
def kX9_byWind_q1 : List (Nat × Instr × Nat × Nat) := [(102, .ifCond .eq 116, 105, 0), (105, .aload 0, 106, 0), (106, .iload 12, 108, 0), (108, .iload 5, 110, 0), (110, .invokevirtual 1990309, 113, 1441), (113, .goto 123, 116, 0), (116, .iload 12, 118, 0), (118, .iload 5, 120, 0), (120, .invokestatic 1550200, 123, 1316), (123, .istore 12, 125, 0), (125, .lload 13, 127, 0), (127, .iload 16, 129, 0), (129, .ifCond .eq 138, 132, 0), (132, .iload 6, 134, 0), (134, .i2l, 135, 0), (135, .goto 144, 138, 0), (138, .iconst 10, 140, 0), (140, .iload 6, 142, 0), (142, .isub, 143, 0), (143, .i2l, 144, 0), (144, .lmul, 145, 0), (145, .lstore 13, 147, 0), (147, .iinc 15 1, 150, 0), (150, .goto 76, 153, 0), (153, .lload 7, 155, 0), (155, .lload 13, 157, 0), (157, .iload 3, 158, 0), (158, .ifCond .eq 166, 161, 0), (161, .iload 12, 163, 0), (163, .goto 177, 166, 0), (166, .iload 12, 168, 0), (168, .iconst 5, 169, 0), (169, .if_icmp .lt 176, 172, 0), (172, .iconst 1, 173, 0), (173, .goto 177, 176, 0), (176, .iconst 0, 177, 0), (177, .i2l, 178, 0), (178, .lmul, 179, 0), (179, .ladd, 180, 0), (180, .lstore 7, 182, 0), (182, .iinc 11 1, 185, 0), (185, .goto 51, 188, 0), (188, .lload 7, 190, 0), (190, .lload 9, 192, 0), (192, .iload 4, 194, 0), (194, .invokestatic 1980300, 197, 1445), (197, .lreturn, 198, 0)]
def kX9_byWind : List (Nat × Instr × Nat × Nat) := (kX9_byWind_q0 ++ kX9_byWind_q1)
def kX9_lasts : List (Nat × Instr × Nat × Nat) := [(0, .aload 0, 1, 0), (1, .iload 1, 2, 0), (2, .invokevirtual 1500209, 5, 1247), (5, .ifCond .eq 41, 8, 0), (8, .iload 2, 9, 0), (9, .i2l, 10, 0), (10, .ldc2_w 0, 11, 0), (11, .ldc2_w 6, 14, 1208), (14, .invokestatic 1350300, 17, 1172), (17, .ifCond .eq 41, 20, 0), (20, .iload 3, 21, 0), (21, .i2l, 22, 0), (22, .ldc2_w 0, 23, 0), (23, .ldc2_w 1, 24, 0), (24, .invokestatic 1350300, 27, 1172), (27, .ifCond .eq 41, 30, 0), (30, .aload 0, 31, 0), (31, .iload 1, 32, 0), (32, .iload 2, 33, 0), (33, .iconst 0, 34, 0), (34, .iload 3, 35, 0), (35, .invokevirtual 2000509, 38, 1437), (38, .goto 44, 41, 0), (41, .ldc2_w 18446744073709551615, 44, 1448), (44, .lreturn, 45, 0)]
def kX9_mean : List (Nat × Instr × Nat × Nat) := [(0, .aload 0, 1, 0), (1, .iload 1, 2, 0), (2, .invokevirtual 1500209, 5, 1247), (5, .ifCond .eq 41, 8, 0), (8, .iload 2, 9, 0), (9, .i2l, 10, 0), (10, .ldc2_w 0, 11, 0), (11, .ldc2_w 6, 14, 1208), (14, .invokestatic 1350300, 17, 1172), (17, .ifCond .eq 41, 20, 0), (20, .iload 3, 21, 0), (21, .i2l, 22, 0), (22, .ldc2_w 0, 23, 0), (23, .ldc2_w 1, 24, 0), (24, .invokestatic 1350300, 27, 1172), (27, .ifCond .eq 41, 30, 0), (30, .aload 0, 31, 0), (31, .iload 1, 32, 0), (32, .iload 2, 33, 0), (33, .iconst 1, 34, 0), (34, .iload 3, 35, 0), (35, .invokevirtual 2000509, 38, 1437), (38, .goto 44, 41, 0), (41, .ldc2_w 18446744073709551615, 44, 1448), (44, .lreturn, 45, 0)]
def kX9_spent_q0 : List (Nat × Instr × Nat × Nat) := [(0, .aload 0, 1, 0), (1, .iconst 0, 2, 0), (2, .iload 1, 3, 0), (3, .invokevirtual 1540309, 6, 1251), (6, .istore 2, 7, 0), (7, .aload 0, 8, 0), (8, .getfield 900, 11, 1045), (11, .iconst 26, 13, 0), (13, .iaload, 14, 0), (14, .iconst 2, 15, 0), (15, .iadd, 16, 0), (16, .istore 3, 17, 0), (17, .ldc2_w 1, 18, 0), (18, .lstore 4, 20, 0), (20, .aload 0, 21, 0), (21, .iconst 0, 22, 0), (22, .putfield 931, 25, 1076), (25, .iconst 5, 26, 0), (26, .istore 6, 28, 0), (28, .iload 6, 30, 0), (30, .ifCond .lt 214, 33, 0), (33, .iconst 0, 34, 0), (34, .istore 7, 36, 0), (36, .iload 7, 38, 0), (38, .iconst 100, 40, 0), (40, .if_icmp .ge 170, 43, 0), (43, .lload 4, 45, 0), (45, .aload 0, 46, 0), (46, .iload 7, 48, 0), (48, .iload 6, 50, 0), (50, .invokevirtual 1960309, 53, 1429), (53, .i2l, 54, 0), (54, .lmul, 55, 0), (55, .lstore 8, 57, 0), (57, .iload 6, 59, 0), (59, .iconst 5, 60, 0), (60, .if_icmp .ne 69, 63, 0), (63, .ldc2_w 18446744073709551615, 66, 1448), (66, .goto 102, 69, 0), (69, .iload 3, 70, 0), (70, .i2l, 71, 0), (71, .aload 0, 72, 0), (72, .getfield 929, 75, 1074), (75, .aload 0, 76, 0), (76, .iload 7, 78, 0), (78, .iload 2, 79, 0), (79, .invokevirtual 1990309, 82, 1441), (82, .laload, 83, 0), (83, .lmul, 84, 0), (84, .iconst 10, 86, 0), (86, .iload 3, 87, 0), (87, .isub, 88, 0), (88, .i2l, 89, 0), (89, .aload 0, 90, 0), (90, .getfield 929, 93, 1074), (93, .iload 7, 95, 0), (95, .iload 2, 96, 0), (96, .invokestatic 1550200, 99, 1316), (99, .laload, 100, 0), (100, .lmul, 101, 0)]
def kX9_spent_q1 : List (Nat × Instr × Nat × Nat) := [(101, .ladd, 102, 0), (102, .lstore 10, 104, 0), (104, .aload 0, 105, 0), (105, .iload 7, 107, 0), (107, .aload 0, 108, 0), (108, .getfield 900, 111, 1045), (111, .iconst 13, 113, 0), (113, .iload 1, 114, 0), (114, .iadd, 115, 0), (115, .iaload, 116, 0), (116, .if_icmp .ne 135, 119, 0), (119, .lload 8, 121, 0), (121, .lload 10, 123, 0), (123, .lcmp, 124, 0), (124, .ifCond .lt 131, 127, 0), (127, .iconst 1, 128, 0), (128, .goto 139, 131, 0), (131, .iconst 0, 132, 0), (132, .goto 139, 135, 0), (135, .aload 0, 136, 0), (136, .getfield 931, 139, 1076), (139, .putfield 931, 142, 1076), (142, .aload 0, 143, 0), (143, .getfield 930, 146, 1075), (146, .iload 7, 148, 0), (148, .lload 8, 150, 0), (150, .lload 10, 152, 0), (152, .lcmp, 153, 0), (153, .ifCond .lt 161, 156, 0), (156, .lload 8, 158, 0), (158, .goto 163, 161, 0), (161, .lload 10, 163, 0), (163, .lastore, 164, 0), (164, .iinc 7 1, 167, 0), (167, .goto 36, 170, 0), (170, .iconst 0, 171, 0), (171, .istore 7, 173, 0), (173, .iload 7, 175, 0), (175, .iconst 100, 177, 0), (177, .if_icmp .ge 200, 180, 0), (180, .aload 0, 181, 0), (181, .getfield 929, 184, 1074), (184, .iload 7, 186, 0), (186, .aload 0, 187, 0), (187, .getfield 930, 190, 1075), (190, .iload 7, 192, 0), (192, .laload, 193, 0), (193, .lastore, 194, 0), (194, .iinc 7 1, 197, 0), (197, .goto 173, 200, 0), (200, .lload 4, 202, 0), (202, .ldc2_w 10, 205, 1290), (205, .lmul, 206, 0), (206, .lstore 4, 208, 0), (208, .iinc 6 (-1), 211, 0), (211, .goto 28, 214, 0), (214, .aload 0, 215, 0), (215, .getfield 929, 218, 1074), (218, .aload 0, 219, 0), (219, .getfield 900, 222, 1045)]
def kX9_spent_q2 : List (Nat × Instr × Nat × Nat) := [(222, .iconst 13, 224, 0), (224, .iload 1, 225, 0), (225, .iadd, 226, 0), (226, .iaload, 227, 0), (227, .laload, 228, 0), (228, .lreturn, 229, 0)]
def kX9_spent : List (Nat × Instr × Nat × Nat) := (kX9_spent_q0 ++ (kX9_spent_q1 ++ kX9_spent_q2))
def kX9_spend : List (Nat × Instr × Nat × Nat) := [(0, .aload 0, 1, 0), (1, .iload 1, 2, 0), (2, .invokevirtual 1500209, 5, 1247), (5, .ifCond .eq 20, 8, 0), (8, .iload 2, 9, 0), (9, .i2l, 10, 0), (10, .ldc2_w 0, 11, 0), (11, .ldc2_w 2, 14, 1266), (14, .invokestatic 1350300, 17, 1172), (17, .ifCond .ne 24, 20, 0), (20, .ldc2_w 18446744073709551615, 23, 1448), (23, .lreturn, 24, 0), (24, .aload 0, 25, 0), (25, .iload 1, 26, 0), (26, .invokevirtual 2030209, 29, 1457), (29, .lstore 3, 30, 0), (30, .iload 2, 31, 0), (31, .iconst 2, 32, 0), (32, .if_icmp .ne 50, 35, 0), (35, .aload 0, 36, 0), (36, .getfield 931, 39, 1076), (39, .ifCond .eq 46, 42, 0), (42, .ldc2_w 1, 43, 0), (43, .goto 58, 46, 0), (46, .ldc2_w 0, 47, 0), (47, .goto 58, 50, 0), (50, .lload 3, 51, 0), (51, .ldc2_w 100000, 54, 1461), (54, .iload 2, 55, 0), (55, .invokestatic 1980300, 58, 1445), (58, .lreturn, 59, 0)]
def kX9_see : List (Nat × Instr × Nat × Nat) := [(0, .iload 1, 1, 0), (1, .i2l, 2, 0), (2, .ldc2_w 0, 3, 0), (3, .ldc2_w 20, 6, 1466), (6, .invokestatic 1350300, 9, 1172), (9, .ifCond .eq 24, 12, 0), (12, .iload 2, 13, 0), (13, .i2l, 14, 0), (14, .ldc2_w 0, 15, 0), (15, .ldc2_w 99, 18, 1285), (18, .invokestatic 1350300, 21, 1172), (21, .ifCond .ne 26, 24, 0), (24, .iconst (-1), 25, 0), (25, .ireturn, 26, 0), (26, .aload 0, 27, 0), (27, .getfield 933, 30, 1078), (30, .iconst 6, 32, 0), (32, .if_icmp .ne 38, 35, 0), (35, .iconst (-3), 37, 0), (37, .ireturn, 38, 0), (38, .aload 0, 39, 0), (39, .getfield 932, 42, 1077), (42, .iconst 2, 43, 0), (43, .aload 0, 44, 0), (44, .getfield 933, 47, 1078), (47, .imul, 48, 0), (48, .iload 1, 49, 0), (49, .iastore, 50, 0), (50, .aload 0, 51, 0), (51, .getfield 932, 54, 1077), (54, .iconst 2, 55, 0), (55, .aload 0, 56, 0), (56, .getfield 933, 59, 1078), (59, .imul, 60, 0), (60, .iconst 1, 61, 0), (61, .iadd, 62, 0), (62, .iload 2, 63, 0), (63, .iastore, 64, 0), (64, .aload 0, 65, 0), (65, .dup, 66, 0), (66, .getfield 933, 69, 1078), (69, .iconst 1, 70, 0), (70, .iadd, 71, 0), (71, .putfield 933, 74, 1078), (74, .aload 0, 75, 0), (75, .getfield 933, 78, 1078), (78, .ireturn, 79, 0)]
def kX9_forget : List (Nat × Instr × Nat × Nat) := [(0, .iload 1, 1, 0), (1, .i2l, 2, 0), (2, .ldc2_w 0, 3, 0), (3, .aload 0, 4, 0), (4, .getfield 933, 7, 1078), (7, .i2l, 8, 0), (8, .invokestatic 1350300, 11, 1172), (11, .ifCond .ne 16, 14, 0), (14, .iconst (-1), 15, 0), (15, .ireturn, 16, 0), (16, .aload 0, 17, 0), (17, .getfield 933, 20, 1078), (20, .istore 2, 21, 0), (21, .aload 0, 22, 0), (22, .iload 1, 23, 0), (23, .putfield 933, 26, 1078), (26, .iload 2, 27, 0), (27, .ireturn, 28, 0)]
def kX9_isAsSeen : List (Nat × Instr × Nat × Nat) := [(0, .iconst 1, 1, 0), (1, .istore 3, 2, 0), (2, .iconst 0, 3, 0), (3, .istore 4, 5, 0), (5, .iload 4, 7, 0), (7, .aload 0, 8, 0), (8, .getfield 933, 11, 1078), (11, .if_icmp .ge 89, 14, 0), (14, .iload 3, 15, 0), (15, .ifCond .eq 81, 18, 0), (18, .aload 0, 19, 0), (19, .aload 0, 20, 0), (20, .getfield 900, 23, 1045), (23, .iconst 13, 25, 0), (25, .iload 1, 26, 0), (26, .iadd, 27, 0), (27, .iaload, 28, 0), (28, .aload 0, 29, 0), (29, .getfield 904, 32, 1049), (32, .aload 0, 33, 0), (33, .getfield 900, 36, 1045), (36, .iconst 8, 38, 0), (38, .iload 1, 39, 0), (39, .iadd, 40, 0), (40, .iaload, 41, 0), (41, .iaload, 42, 0), (42, .aload 0, 43, 0), (43, .getfield 900, 46, 1045), (46, .iload 2, 47, 0), (47, .iaload, 48, 0), (48, .invokestatic 1530200, 51, 1255), (51, .aload 0, 52, 0), (52, .getfield 932, 55, 1077), (55, .iconst 2, 56, 0), (56, .iload 4, 58, 0), (58, .imul, 59, 0), (59, .iaload, 60, 0), (60, .invokevirtual 1790409, 63, 1359), (63, .aload 0, 64, 0), (64, .getfield 932, 67, 1077), (67, .iconst 2, 68, 0), (68, .iload 4, 70, 0), (70, .imul, 71, 0), (71, .iconst 1, 72, 0), (72, .iadd, 73, 0), (73, .iaload, 74, 0), (74, .if_icmp .ne 81, 77, 0), (77, .iconst 1, 78, 0), (78, .goto 82, 81, 0), (81, .iconst 0, 82, 0), (82, .istore 3, 83, 0), (83, .iinc 4 1, 86, 0), (86, .goto 5, 89, 0), (89, .iload 3, 90, 0), (90, .ireturn, 91, 0)]
def kX9_fits_q0 : List (Nat × Instr × Nat × Nat) := [(0, .iload 1, 1, 0), (1, .i2l, 2, 0), (2, .ldc2_w 0, 3, 0), (3, .ldc2_w 3, 6, 1284), (6, .invokestatic 1350300, 9, 1172), (9, .ifCond .ne 14, 12, 0), (12, .iconst (-1), 13, 0), (13, .ireturn, 14, 0), (14, .iconst 0, 15, 0), (15, .istore 2, 16, 0), (16, .iconst (-4), 18, 0), (18, .istore 3, 19, 0), (19, .iconst 0, 20, 0), (20, .istore 4, 22, 0), (22, .iconst 0, 23, 0), (23, .istore 5, 25, 0), (25, .iconst 0, 26, 0), (26, .istore 6, 28, 0), (28, .iload 6, 30, 0), (30, .aload 0, 31, 0), (31, .getfield 900, 34, 1045), (34, .iconst 23, 36, 0), (36, .iaload, 37, 0), (37, .if_icmp .ge 113, 40, 0), (40, .iconst 0, 41, 0), (41, .istore 7, 43, 0), (43, .iload 7, 45, 0), (45, .aload 0, 46, 0), (46, .getfield 901, 49, 1046), (49, .if_icmp .ge 107, 52, 0), (52, .aload 0, 53, 0), (53, .iload 6, 55, 0), (55, .iload 7, 57, 0), (57, .invokevirtual 2070309, 60, 1475), (60, .ifCond .eq 101, 63, 0), (63, .iload 2, 64, 0), (64, .ifCond .ne 78, 67, 0), (67, .iconst 10, 69, 0), (69, .iload 6, 71, 0), (71, .imul, 72, 0), (72, .iload 7, 74, 0), (74, .iadd, 75, 0), (75, .goto 79, 78, 0), (78, .iload 3, 79, 0), (79, .istore 3, 80, 0), (80, .iload 4, 82, 0), (82, .iconst 1, 83, 0), (83, .iload 6, 85, 0), (85, .ishl, 86, 0), (86, .ior, 87, 0), (87, .istore 4, 89, 0), (89, .iload 5, 91, 0), (91, .iconst 1, 92, 0), (92, .iload 7, 94, 0), (94, .ishl, 95, 0), (95, .ior, 96, 0), (96, .istore 5, 98, 0), (98, .iinc 2 1, 101, 0), (101, .iinc 7 1, 104, 0), (104, .goto 43, 107, 0)]
def kX9_fits_q1 : List (Nat × Instr × Nat × Nat) := [(107, .iinc 6 1, 110, 0), (110, .goto 28, 113, 0), (113, .iload 1, 114, 0), (114, .ifCond .ne 121, 117, 0), (117, .iload 2, 118, 0), (118, .goto 142, 121, 0), (121, .iload 1, 122, 0), (122, .iconst 1, 123, 0), (123, .if_icmp .ne 130, 126, 0), (126, .iload 3, 127, 0), (127, .goto 142, 130, 0), (130, .iload 1, 131, 0), (131, .iconst 2, 132, 0), (132, .if_icmp .ne 140, 135, 0), (135, .iload 4, 137, 0), (137, .goto 142, 140, 0), (140, .iload 5, 142, 0), (142, .ireturn, 143, 0)]
def kX9_fits : List (Nat × Instr × Nat × Nat) := (kX9_fits_q0 ++ kX9_fits_q1)
def kX9_draws : List (Nat × Instr × Nat × Nat) := [(0, .aload 0, 1, 0), (1, .aload 0, 2, 0), (2, .getfield 934, 5, 1079), (5, .iconst 1103515245, 8, 1487), (8, .imul, 9, 0), (9, .iconst 12345, 12, 0), (12, .iadd, 13, 0), (13, .putfield 934, 16, 1079), (16, .aload 0, 17, 0), (17, .getfield 934, 20, 1079), (20, .iconst 16, 22, 0), (22, .ishr, 23, 0), (23, .iconst 32767, 26, 0), (26, .iand, 27, 0), (27, .iload 1, 28, 0), (28, .irem, 29, 0), (29, .ireturn, 30, 0)]
def kX9_drift_q0 : List (Nat × Instr × Nat × Nat) := [(0, .iload 2, 1, 0), (1, .i2l, 2, 0), (2, .ldc2_w 1, 3, 0), (3, .ldc2_w 60, 6, 1307), (6, .invokestatic 1350300, 9, 1172), (9, .ifCond .eq 22, 12, 0), (12, .iload 3, 13, 0), (13, .i2l, 14, 0), (14, .ldc2_w 0, 15, 0), (15, .ldc2_w 1, 16, 0), (16, .invokestatic 1350300, 19, 1172), (19, .ifCond .ne 24, 22, 0), (22, .iconst (-1), 23, 0), (23, .ireturn, 24, 0), (24, .aload 0, 25, 0), (25, .getfield 900, 28, 1045), (28, .iconst 23, 30, 0), (30, .iaload, 31, 0), (31, .ifCond .ne 37, 34, 0), (34, .iconst (-2), 36, 0), (36, .ireturn, 37, 0), (37, .aload 0, 38, 0), (38, .iconst 0, 39, 0), (39, .iconst 152, 42, 0), (42, .invokevirtual 1850309, 45, 1393), (45, .aload 0, 46, 0), (46, .iload 1, 47, 0), (47, .putfield 934, 50, 1079), (50, .iconst 0, 51, 0), (51, .istore 4, 53, 0), (53, .iconst 0, 54, 0), (54, .istore 5, 56, 0), (56, .iload 5, 58, 0), (58, .iload 2, 59, 0), (59, .if_icmp .ge 134, 62, 0), (62, .aload 0, 63, 0), (63, .aload 0, 64, 0), (64, .getfield 900, 67, 1045), (67, .iconst 23, 69, 0), (69, .iaload, 70, 0), (70, .invokevirtual 2090209, 73, 1483), (73, .istore 6, 75, 0), (75, .aload 0, 76, 0), (76, .aload 0, 77, 0), (77, .getfield 901, 80, 1046), (80, .invokevirtual 2090209, 83, 1483), (83, .istore 7, 85, 0), (85, .aload 0, 86, 0), (86, .getfield 900, 89, 1045), (89, .iconst 170, 92, 0), (92, .iload 6, 94, 0), (94, .iadd, 95, 0), (95, .iaload, 96, 0), (96, .iload 7, 98, 0), (98, .if_icmp .ne 112, 101, 0), (101, .aload 0, 102, 0), (102, .iconst 152, 105, 0), (105, .iconst 1, 106, 0), (106, .invokevirtual 1680309, 109, 1308), (109, .goto 128, 112, 0)]
def kX9_drift_q1 : List (Nat × Instr × Nat × Nat) := [(112, .iload 4, 114, 0), (114, .aload 0, 115, 0), (115, .iconst 152, 118, 0), (118, .iload 6, 120, 0), (120, .iload 7, 122, 0), (122, .invokevirtual 1710409, 125, 1339), (125, .iadd, 126, 0), (126, .istore 4, 128, 0), (128, .iinc 5 1, 131, 0), (131, .goto 56, 134, 0), (134, .iload 3, 135, 0), (135, .ifCond .ne 143, 138, 0), (138, .iload 4, 140, 0), (140, .goto 159, 143, 0), (143, .aload 0, 144, 0), (144, .getfield 900, 147, 1045), (147, .iconst 189, 150, 0), (150, .iaload, 151, 0), (151, .aload 0, 152, 0), (152, .getfield 900, 155, 1045), (155, .iconst 37, 157, 0), (157, .iaload, 158, 0), (158, .isub, 159, 0), (159, .ireturn, 160, 0)]
def kX9_drift : List (Nat × Instr × Nat × Nat) := (kX9_drift_q0 ++ kX9_drift_q1)
def kX9_keep : List (Nat × Instr × Nat × Nat) := [(0, .iload 1, 1, 0), (1, .i2l, 2, 0), (2, .ldc2_w 0, 3, 0), (3, .ldc2_w 1, 4, 0), (4, .invokestatic 1350300, 7, 1172), (7, .ifCond .ne 12, 10, 0), (10, .iconst (-1), 11, 0), (11, .ireturn, 12, 0), (12, .aload 0, 13, 0), (13, .iconst 0, 14, 0), (14, .iconst 38, 16, 0), (16, .iload 1, 17, 0), (17, .iconst 1, 18, 0), (18, .iadd, 19, 0), (19, .imul, 20, 0), (20, .invokevirtual 1850309, 23, 1393), (23, .aload 0, 24, 0), (24, .getfield 935, 27, 1080), (27, .iload 1, 28, 0), (28, .baload, 29, 0), (29, .ifCond .eq 36, 32, 0), (32, .iconst 1, 33, 0), (33, .goto 37, 36, 0), (36, .iconst 0, 37, 0), (37, .istore 2, 38, 0), (38, .aload 0, 39, 0), (39, .getfield 935, 42, 1080), (42, .iload 1, 43, 0), (43, .iconst 1, 44, 0), (44, .bastore, 45, 0), (45, .iload 2, 46, 0), (46, .ireturn, 47, 0)]
def kX9_back : List (Nat × Instr × Nat × Nat) := [(0, .iload 1, 1, 0), (1, .i2l, 2, 0), (2, .ldc2_w 0, 3, 0), (3, .ldc2_w 1, 4, 0), (4, .invokestatic 1350300, 7, 1172), (7, .ifCond .ne 12, 10, 0), (10, .iconst (-1), 11, 0), (11, .ireturn, 12, 0), (12, .aload 0, 13, 0), (13, .getfield 935, 16, 1080), (16, .iload 1, 17, 0), (17, .baload, 18, 0), (18, .ifCond .ne 24, 21, 0), (21, .iconst (-2), 23, 0), (23, .ireturn, 24, 0), (24, .aload 0, 25, 0), (25, .iconst 38, 27, 0), (27, .iload 1, 28, 0), (28, .iconst 1, 29, 0), (29, .iadd, 30, 0), (30, .imul, 31, 0), (31, .iconst 0, 32, 0), (32, .invokevirtual 1850309, 35, 1393), (35, .aload 0, 36, 0), (36, .getfield 900, 39, 1045), (39, .iconst 37, 41, 0), (41, .iaload, 42, 0), (42, .ireturn, 43, 0)]
def kX9_sheet : List (Nat × Instr × Nat × Nat) := [(0, .iload 1, 1, 0), (1, .i2l, 2, 0), (2, .ldc2_w 0, 3, 0), (3, .ldc2_w 3, 6, 1284), (6, .invokestatic 1350300, 9, 1172), (9, .ifCond .eq 30, 12, 0), (12, .iload 2, 13, 0), (13, .i2l, 14, 0), (14, .ldc2_w 0, 15, 0), (15, .ldc2_w 2, 18, 1266), (18, .invokestatic 1350300, 21, 1172), (21, .ifCond .eq 30, 24, 0), (24, .iload 3, 25, 0), (25, .iconst 40, 27, 0), (27, .if_icmp .le 32, 30, 0), (30, .iconst (-1), 31, 0), (31, .ireturn, 32, 0), (32, .iload 3, 33, 0), (33, .ifCond .ge 39, 36, 0), (36, .iconst (-14), 38, 0), (38, .ireturn, 39, 0), (39, .aload 0, 40, 0), (40, .getfield 936, 43, 1081), (43, .iload 1, 44, 0), (44, .iload 2, 45, 0), (45, .iastore, 46, 0), (46, .aload 0, 47, 0), (47, .getfield 937, 50, 1082), (50, .iload 1, 51, 0), (51, .iload 3, 52, 0), (52, .iastore, 53, 0), (53, .iconst 0, 54, 0), (54, .istore 4, 56, 0), (56, .iload 4, 58, 0), (58, .iconst 40, 60, 0), (60, .if_icmp .ge 82, 63, 0), (63, .aload 0, 64, 0), (64, .getfield 938, 67, 1083), (67, .iconst 40, 69, 0), (69, .iload 1, 70, 0), (70, .imul, 71, 0), (71, .iload 4, 73, 0), (73, .iadd, 74, 0), (74, .iconst 0, 75, 0), (75, .iastore, 76, 0), (76, .iinc 4 1, 79, 0), (79, .goto 56, 82, 0), (82, .iconst 1, 83, 0), (83, .ireturn, 84, 0)]
def kX9_lay_q0 : List (Nat × Instr × Nat × Nat) := [(0, .iload 1, 1, 0), (1, .i2l, 2, 0), (2, .ldc2_w 0, 3, 0), (3, .ldc2_w 3, 6, 1284), (6, .invokestatic 1350300, 9, 1172), (9, .ifCond .ne 14, 12, 0), (12, .iconst (-1), 13, 0), (13, .ireturn, 14, 0), (14, .aload 0, 15, 0), (15, .getfield 936, 18, 1081), (18, .iload 1, 19, 0), (19, .iaload, 20, 0), (20, .iconst (-4), 22, 0), (22, .if_icmp .ne 28, 25, 0), (25, .iconst (-11), 27, 0), (27, .ireturn, 28, 0), (28, .iload 2, 29, 0), (29, .i2l, 30, 0), (30, .ldc2_w 0, 31, 0), (31, .aload 0, 32, 0), (32, .getfield 937, 35, 1082), (35, .iload 1, 36, 0), (36, .iaload, 37, 0), (37, .iconst 1, 38, 0), (38, .isub, 39, 0), (39, .i2l, 40, 0), (40, .invokestatic 1350300, 43, 1172), (43, .ifCond .ne 49, 46, 0), (46, .iconst (-12), 48, 0), (48, .ireturn, 49, 0), (49, .aload 0, 50, 0), (50, .getfield 938, 53, 1083), (53, .iconst 40, 55, 0), (55, .iload 1, 56, 0), (56, .imul, 57, 0), (57, .iload 2, 58, 0), (58, .iadd, 59, 0), (59, .aload 0, 60, 0), (60, .getfield 936, 63, 1081), (63, .iload 1, 64, 0), (64, .iaload, 65, 0), (65, .ifCond .ne 78, 68, 0), (68, .iload 3, 69, 0), (69, .iconst 24, 71, 0), (71, .ishl, 72, 0), (72, .iconst 24, 74, 0), (74, .ishr, 75, 0), (75, .goto 99, 78, 0), (78, .aload 0, 79, 0), (79, .getfield 936, 82, 1081), (82, .iload 1, 83, 0), (83, .iaload, 84, 0), (84, .iconst 1, 85, 0), (85, .if_icmp .ne 98, 88, 0), (88, .iload 3, 89, 0), (89, .iconst 16, 91, 0), (91, .ishl, 92, 0), (92, .iconst 16, 94, 0), (94, .ishr, 95, 0), (95, .goto 99, 98, 0)]
def kX9_lay_q1 : List (Nat × Instr × Nat × Nat) := [(98, .iload 3, 99, 0), (99, .iastore, 100, 0), (100, .iconst 1, 101, 0), (101, .ireturn, 102, 0)]
def kX9_lay : List (Nat × Instr × Nat × Nat) := (kX9_lay_q0 ++ kX9_lay_q1)
def kX9_read_q0 : List (Nat × Instr × Nat × Nat) := [(0, .iload 1, 1, 0), (1, .i2l, 2, 0), (2, .ldc2_w 0, 3, 0), (3, .ldc2_w 3, 6, 1284), (6, .invokestatic 1350300, 9, 1172), (9, .ifCond .eq 37, 12, 0), (12, .iload 2, 13, 0), (13, .i2l, 14, 0), (14, .ldc2_w 0, 15, 0), (15, .ldc2_w 2, 18, 1266), (18, .invokestatic 1350300, 21, 1172), (21, .ifCond .eq 37, 24, 0), (24, .iload 4, 26, 0), (26, .i2l, 27, 0), (27, .ldc2_w 0, 28, 0), (28, .ldc2_w 20, 31, 1466), (31, .invokestatic 1350300, 34, 1172), (34, .ifCond .ne 39, 37, 0), (37, .iconst (-1), 38, 0), (38, .ireturn, 39, 0), (39, .aload 0, 40, 0), (40, .iconst 0, 41, 0), (41, .iconst 114, 43, 0), (43, .invokevirtual 1850309, 46, 1393), (46, .iconst 0, 47, 0), (47, .istore 5, 49, 0), (49, .iconst 0, 50, 0), (50, .istore 6, 52, 0), (52, .iconst 0, 53, 0), (53, .istore 7, 55, 0), (55, .iload 7, 57, 0), (57, .iconst 2, 58, 0), (58, .iload 4, 60, 0), (60, .imul, 61, 0), (61, .if_icmp .ge 196, 64, 0), (64, .iload 5, 66, 0), (66, .ifCond .ne 196, 69, 0), (69, .aload 0, 70, 0), (70, .getfield 936, 73, 1081), (73, .iload 1, 74, 0), (74, .iaload, 75, 0), (75, .iconst (-4), 77, 0), (77, .if_icmp .ne 84, 80, 0), (80, .iconst 1, 81, 0), (81, .goto 125, 84, 0), (84, .aload 0, 85, 0), (85, .getfield 936, 88, 1081), (88, .iload 1, 89, 0), (89, .iaload, 90, 0), (90, .iload 2, 91, 0), (91, .if_icmp .eq 98, 94, 0), (94, .iconst 3, 95, 0), (95, .goto 125, 98, 0), (98, .iload 3, 99, 0), (99, .i2l, 100, 0), (100, .iload 7, 102, 0), (102, .i2l, 103, 0), (103, .ladd, 104, 0), (104, .ldc2_w 0, 105, 0), (105, .aload 0, 106, 0)]
def kX9_read_q1 : List (Nat × Instr × Nat × Nat) := [(106, .getfield 937, 109, 1082), (109, .iload 1, 110, 0), (110, .iaload, 111, 0), (111, .iconst 1, 112, 0), (112, .isub, 113, 0), (113, .i2l, 114, 0), (114, .invokestatic 1350300, 117, 1172), (117, .ifCond .ne 124, 120, 0), (120, .iconst 2, 121, 0), (121, .goto 125, 124, 0), (124, .iconst 0, 125, 0), (125, .istore 5, 127, 0), (127, .iload 5, 129, 0), (129, .ifCond .ne 190, 132, 0), (132, .iload 7, 134, 0), (134, .iconst 2, 135, 0), (135, .irem, 136, 0), (136, .iconst 1, 137, 0), (137, .if_icmp .ne 190, 140, 0), (140, .iconst 40, 142, 0), (142, .iload 1, 143, 0), (143, .imul, 144, 0), (144, .iload 3, 145, 0), (145, .iadd, 146, 0), (146, .iload 7, 148, 0), (148, .iadd, 149, 0), (149, .istore 8, 151, 0), (151, .aload 0, 152, 0), (152, .aload 0, 153, 0), (153, .getfield 938, 156, 1083), (156, .iload 8, 158, 0), (158, .iconst 1, 159, 0), (159, .isub, 160, 0), (160, .iaload, 161, 0), (161, .aload 0, 162, 0), (162, .getfield 938, 165, 1083), (165, .iload 8, 167, 0), (167, .iaload, 168, 0), (168, .invokevirtual 1740309, 171, 1327), (171, .ifCond .ge 187, 174, 0), (174, .aload 0, 175, 0), (175, .iconst 114, 177, 0), (177, .iconst 0, 178, 0), (178, .invokevirtual 1850309, 181, 1393), (181, .iconst (-20), 183, 0), (183, .iload 6, 185, 0), (185, .isub, 186, 0), (186, .ireturn, 187, 0), (187, .iinc 6 1, 190, 0), (190, .iinc 7 1, 193, 0), (193, .goto 55, 196, 0), (196, .aload 0, 197, 0), (197, .iload 5, 199, 0), (199, .putfield 939, 202, 1084), (202, .iload 6, 204, 0), (204, .ireturn, 205, 0)]
def kX9_read : List (Nat × Instr × Nat × Nat) := (kX9_read_q0 ++ kX9_read_q1)
def kX9_torn : List (Nat × Instr × Nat × Nat) := [(0, .aload 0, 1, 0), (1, .getfield 939, 4, 1084), (4, .ireturn, 5, 0)]
def kX9_count_q0 : List (Nat × Instr × Nat × Nat) := [(0, .iconst 0, 1, 0), (1, .istore 2, 2, 0), (2, .iconst 0, 3, 0), (3, .istore 3, 4, 0), (4, .iconst 0, 5, 0), (5, .istore 4, 7, 0), (7, .iload 4, 9, 0), (9, .aload 0, 10, 0), (10, .getfield 900, 13, 1045), (13, .iconst 23, 15, 0), (15, .iaload, 16, 0), (16, .if_icmp .ge 38, 19, 0), (19, .iload 2, 20, 0), (20, .aload 0, 21, 0), (21, .getfield 900, 24, 1045), (24, .iconst 13, 26, 0), (26, .iload 4, 28, 0), (28, .iadd, 29, 0), (29, .iaload, 30, 0), (30, .iadd, 31, 0), (31, .istore 2, 32, 0), (32, .iinc 4 1, 35, 0), (35, .goto 7, 38, 0), (38, .iconst 0, 39, 0), (39, .istore 4, 41, 0), (41, .iload 4, 43, 0), (43, .aload 0, 44, 0), (44, .getfield 903, 47, 1048), (47, .if_icmp .ge 69, 50, 0), (50, .iload 3, 51, 0), (51, .aload 0, 52, 0), (52, .getfield 900, 55, 1045), (55, .iconst 33, 57, 0), (57, .iload 4, 59, 0), (59, .iadd, 60, 0), (60, .iaload, 61, 0), (61, .iadd, 62, 0), (62, .istore 3, 63, 0), (63, .iinc 4 1, 66, 0), (66, .goto 41, 69, 0), (69, .iload 1, 70, 0), (70, .tableswitch 184 0 6 #[112, 117, 147, 152, 175, 180, 182], 112, 0), (112, .aload 0, 113, 0), (113, .getfield 933, 116, 1078), (116, .ireturn, 117, 0), (117, .aload 0, 118, 0), (118, .getfield 935, 121, 1080), (121, .iconst 0, 122, 0), (122, .baload, 123, 0), (123, .ifCond .eq 130, 126, 0), (126, .iconst 1, 127, 0), (127, .goto 131, 130, 0), (130, .iconst 0, 131, 0), (131, .aload 0, 132, 0), (132, .getfield 935, 135, 1080), (135, .iconst 1, 136, 0), (136, .baload, 137, 0), (137, .ifCond .eq 144, 140, 0), (140, .iconst 1, 141, 0), (141, .goto 145, 144, 0)]
def kX9_count_q1 : List (Nat × Instr × Nat × Nat) := [(144, .iconst 0, 145, 0), (145, .iadd, 146, 0), (146, .ireturn, 147, 0), (147, .aload 0, 148, 0), (148, .getfield 913, 151, 1058), (151, .ireturn, 152, 0), (152, .aload 0, 153, 0), (153, .getfield 936, 156, 1081), (156, .iconst 0, 157, 0), (157, .iaload, 158, 0), (158, .iconst (-4), 160, 0), (160, .if_icmp .ne 168, 163, 0), (163, .iconst (-4), 165, 0), (165, .goto 174, 168, 0), (168, .aload 0, 169, 0), (169, .getfield 937, 172, 1082), (172, .iconst 0, 173, 0), (173, .iaload, 174, 0), (174, .ireturn, 175, 0), (175, .aload 0, 176, 0), (176, .invokevirtual 1730109, 179, 1319), (179, .ireturn, 180, 0), (180, .iload 2, 181, 0), (181, .ireturn, 182, 0), (182, .iload 3, 183, 0), (183, .ireturn, 184, 0), (184, .iconst (-1), 185, 0), (185, .ireturn, 186, 0)]
def kX9_count : List (Nat × Instr × Nat × Nat) := (kX9_count_q0 ++ kX9_count_q1)
def kJ6_bitCount_0f7a4 : List (Nat × Instr × Nat × Nat) := [(0, .iload 0, 1, 0), (1, .iload 0, 2, 0), (2, .iconst 1, 3, 0), (3, .iushr, 4, 0), (4, .iconst 1431655765, 7, 820), (7, .iand, 8, 0), (8, .isub, 9, 0), (9, .istore 0, 10, 0), (10, .iload 0, 11, 0), (11, .iconst 858993459, 14, 821), (14, .iand, 15, 0), (15, .iload 0, 16, 0), (16, .iconst 2, 17, 0), (17, .iushr, 18, 0), (18, .iconst 858993459, 21, 821), (21, .iand, 22, 0), (22, .iadd, 23, 0), (23, .istore 0, 24, 0), (24, .iload 0, 25, 0), (25, .iload 0, 26, 0), (26, .iconst 4, 27, 0), (27, .iushr, 28, 0), (28, .iadd, 29, 0), (29, .iconst 252645135, 32, 822), (32, .iand, 33, 0), (33, .istore 0, 34, 0), (34, .iload 0, 35, 0), (35, .iload 0, 36, 0), (36, .iconst 8, 38, 0), (38, .iushr, 39, 0), (39, .iadd, 40, 0), (40, .istore 0, 41, 0), (41, .iload 0, 42, 0), (42, .iload 0, 43, 0), (43, .iconst 16, 45, 0), (45, .iushr, 46, 0), (46, .iadd, 47, 0), (47, .istore 0, 48, 0), (48, .iload 0, 49, 0), (49, .iconst 63, 51, 0), (51, .iand, 52, 0), (52, .ireturn, 53, 0)]
def kJ9_abs_0f7a4 : List (Nat × Instr × Nat × Nat) := [(0, .iload 0, 1, 0), (1, .ifCond .ge 9, 4, 0), (4, .iload 0, 5, 0), (5, .ineg, 6, 0), (6, .goto 10, 9, 0), (9, .iload 0, 10, 0), (10, .ireturn, 11, 0)]
def kJ9_max_7cf53 : List (Nat × Instr × Nat × Nat) := [(0, .iload 0, 1, 0), (1, .iload 1, 2, 0), (2, .if_icmp .lt 9, 5, 0), (5, .iload 0, 6, 0), (6, .goto 10, 9, 0), (9, .iload 1, 10, 0), (10, .ireturn, 11, 0)]
def kJ9_max_f86c9 : List (Nat × Instr × Nat × Nat) := [(0, .lload 0, 1, 0), (1, .lload 2, 2, 0), (2, .lcmp, 3, 0), (3, .ifCond .lt 10, 6, 0), (6, .lload 0, 7, 0), (7, .goto 11, 10, 0), (10, .lload 2, 11, 0), (11, .lreturn, 12, 0)]
def kJ9_min_7cf53 : List (Nat × Instr × Nat × Nat) := [(0, .iload 0, 1, 0), (1, .iload 1, 2, 0), (2, .if_icmp .gt 9, 5, 0), (5, .iload 0, 6, 0), (6, .goto 10, 9, 0), (9, .iload 1, 10, 0), (10, .ireturn, 11, 0)]
def kJ0_length_8abf5 : List (Nat × Instr × Nat × Nat) := [(0, .aload 0, 1, 0), (1, .getfield 9000, 4, 1516), (4, .arraylength, 5, 0), (5, .aload 0, 6, 0), (6, .invokevirtual 2250190, 9, 509), (9, .ishr, 10, 0), (10, .ireturn, 11, 0)]
def kJ0_charAt_5068e : List (Nat × Instr × Nat × Nat) := [(0, .aload 0, 1, 0), (1, .invokevirtual 2260190, 4, 519), (4, .ifCond .eq 16, 7, 0), (7, .aload 0, 8, 0), (8, .getfield 9000, 11, 1516), (11, .iload 1, 12, 0), (12, .invokestatic 2280200, 15, 523), (15, .ireturn, 16, 0), (16, .aload 0, 17, 0), (17, .getfield 9000, 20, 1516), (20, .iload 1, 21, 0), (24, .ireturn, 25, 0)]
def kJ0_coder_7d493 : List (Nat × Instr × Nat × Nat) := [(0, .getstatic 4, 3, 513), (3, .ifCond .eq 13, 6, 0), (6, .aload 0, 7, 0), (7, .getfield 9001, 10, 1517), (10, .goto 14, 13, 0), (13, .iconst 1, 14, 0), (14, .ireturn, 15, 0)]
def kJ0_isLatin1_aae02 : List (Nat × Instr × Nat × Nat) := [(0, .getstatic 4, 3, 513), (3, .ifCond .eq 17, 6, 0), (6, .aload 0, 7, 0), (7, .getfield 9001, 10, 1517), (10, .ifCond .ne 17, 13, 0), (13, .iconst 1, 14, 0), (14, .goto 18, 17, 0), (17, .iconst 0, 18, 0), (18, .ireturn, 19, 0)]
def kJ0_checkIndex_df160 : List (Nat × Instr × Nat × Nat) := [(0, .iload 0, 1, 0), (1, .iload 1, 2, 0), (2, .getstatic 3, 5, 529), (5, .invokestatic 2290300, 8, 531), (8, .pop, 9, 0), (9, .return_, 10, 0)]
def kJ1_charAt_3b067 : List (Nat × Instr × Nat × Nat) := [(0, .iload 1, 1, 0), (1, .aload 0, 2, 0), (2, .arraylength, 3, 0), (3, .invokestatic 2270200, 6, 526), (6, .aload 0, 7, 0), (7, .iload 1, 8, 0), (8, .baload, 9, 0), (9, .iconst 255, 12, 0), (12, .iand, 13, 0), (13, .i2c, 14, 0), (14, .ireturn, 15, 0)]
def kJ3_checkIndex_8e157 : List (Nat × Instr × Nat × Nat) := [(0, .iload 0, 1, 0), (1, .ifCond .lt 9, 4, 0), (4, .iload 0, 5, 0), (5, .iload 1, 6, 0), (6, .if_icmp .lt 16, 9, 0), (9, .aload 2, 10, 0), (10, .iload 0, 11, 0), (11, .iload 1, 12, 0), (15, .athrow, 16, 0), (16, .iload 0, 17, 0), (17, .ireturn, 18, 0)]
def kL_law_q0 : List (Nat × Instr × Nat × Nat) := [(0, .new 8, 3, 86), (3, .dup, 4, 0), (4, .invokespecial 770108, 7, 88), (7, .astore 1, 8, 0), (8, .new 9, 11, 1039), (11, .dup, 12, 0), (12, .invokespecial 1340109, 15, 1041), (15, .astore 2, 16, 0), (16, .iconst 0, 17, 0), (17, .istore 3, 18, 0), (18, .iload 3, 19, 0), (19, .aload 0, 20, 0), (20, .arraylength, 21, 0), (21, .iconst 5, 22, 0), (22, .isub, 23, 0), (23, .if_icmp .gt 1437, 26, 0), (26, .aload 0, 27, 0), (27, .iload 3, 28, 0), (28, .iaload, 29, 0), (29, .iconst 63, 31, 0), (31, .iand, 32, 0), (32, .tableswitch 1431 0 39 #[208, 231, 254, 267, 280, 303, 336, 369, 402, 425, 468, 511, 544, 577, 610, 633, 656, 689, 712, 745, 768, 811, 844, 867, 900, 933, 966, 1010, 1054, 1088, 1121, 1144, 1167, 1210, 1233, 1256, 1299, 1342, 1395, 1408], 208, 0), (208, .aload 1, 209, 0), (209, .aload 0, 210, 0), (210, .iload 3, 211, 0), (211, .iconst 1, 212, 0), (212, .iadd, 213, 0), (213, .iaload, 214, 0), (214, .invokevirtual 780208, 217, 439), (217, .aload 2, 218, 0), (218, .aload 0, 219, 0), (219, .iload 3, 220, 0), (220, .iconst 1, 221, 0), (221, .iadd, 222, 0), (222, .iaload, 223, 0), (223, .invokevirtual 1360209, 226, 1167), (226, .if_icmp .eq 1431, 229, 0), (229, .iconst 0, 230, 0), (230, .ireturn, 231, 0), (231, .aload 1, 232, 0), (232, .aload 0, 233, 0), (233, .iload 3, 234, 0), (234, .iconst 1, 235, 0), (235, .iadd, 236, 0), (236, .iaload, 237, 0), (237, .invokevirtual 790208, 240, 450), (240, .aload 2, 241, 0), (241, .aload 0, 242, 0), (242, .iload 3, 243, 0), (243, .iconst 1, 244, 0), (244, .iadd, 245, 0), (245, .iaload, 246, 0), (246, .invokevirtual 1370209, 249, 1175), (249, .if_icmp .eq 1431, 252, 0), (252, .iconst 0, 253, 0), (253, .ireturn, 254, 0), (254, .aload 1, 255, 0), (255, .invokevirtual 800108, 258, 454), (258, .aload 2, 259, 0), (259, .invokevirtual 1470109, 262, 1179)]
def kL_law_q1 : List (Nat × Instr × Nat × Nat) := [(262, .if_icmp .eq 1431, 265, 0), (265, .iconst 0, 266, 0), (266, .ireturn, 267, 0), (267, .aload 1, 268, 0), (268, .invokevirtual 810108, 271, 625), (271, .aload 2, 272, 0), (272, .invokevirtual 1480109, 275, 1227), (275, .if_icmp .eq 1431, 278, 0), (278, .iconst 0, 279, 0), (279, .ireturn, 280, 0), (280, .aload 1, 281, 0), (281, .aload 0, 282, 0), (282, .iload 3, 283, 0), (283, .iconst 1, 284, 0), (284, .iadd, 285, 0), (285, .iaload, 286, 0), (286, .invokevirtual 820208, 289, 629), (289, .aload 2, 290, 0), (290, .aload 0, 291, 0), (291, .iload 3, 292, 0), (292, .iconst 1, 293, 0), (293, .iadd, 294, 0), (294, .iaload, 295, 0), (295, .invokevirtual 1520209, 298, 1231), (298, .if_icmp .eq 1431, 301, 0), (301, .iconst 0, 302, 0), (302, .ireturn, 303, 0), (303, .aload 1, 304, 0), (304, .aload 0, 305, 0), (305, .iload 3, 306, 0), (306, .iconst 1, 307, 0), (307, .iadd, 308, 0), (308, .iaload, 309, 0), (309, .aload 0, 310, 0), (310, .iload 3, 311, 0), (311, .iconst 2, 312, 0), (312, .iadd, 313, 0), (313, .iaload, 314, 0), (314, .invokevirtual 830308, 317, 633), (317, .aload 2, 318, 0), (318, .aload 0, 319, 0), (319, .iload 3, 320, 0), (320, .iconst 1, 321, 0), (321, .iadd, 322, 0), (322, .iaload, 323, 0), (323, .aload 0, 324, 0), (324, .iload 3, 325, 0), (325, .iconst 2, 326, 0), (326, .iadd, 327, 0), (327, .iaload, 328, 0), (328, .invokevirtual 1560309, 331, 1235), (331, .if_icmp .eq 1431, 334, 0), (334, .iconst 0, 335, 0), (335, .ireturn, 336, 0), (336, .aload 1, 337, 0), (337, .aload 0, 338, 0), (338, .iload 3, 339, 0), (339, .iconst 1, 340, 0), (340, .iadd, 341, 0), (341, .iaload, 342, 0)]
def kL_law_q2 : List (Nat × Instr × Nat × Nat) := [(342, .aload 0, 343, 0), (343, .iload 3, 344, 0), (344, .iconst 2, 345, 0), (345, .iadd, 346, 0), (346, .iaload, 347, 0), (347, .invokevirtual 840308, 350, 646), (350, .aload 2, 351, 0), (351, .aload 0, 352, 0), (352, .iload 3, 353, 0), (353, .iconst 1, 354, 0), (354, .iadd, 355, 0), (355, .iaload, 356, 0), (356, .aload 0, 357, 0), (357, .iload 3, 358, 0), (358, .iconst 2, 359, 0), (359, .iadd, 360, 0), (360, .iaload, 361, 0), (361, .invokevirtual 1570309, 364, 1243), (364, .if_icmp .eq 1431, 367, 0), (367, .iconst 0, 368, 0), (368, .ireturn, 369, 0), (369, .aload 1, 370, 0), (370, .aload 0, 371, 0), (371, .iload 3, 372, 0), (372, .iconst 1, 373, 0), (373, .iadd, 374, 0), (374, .iaload, 375, 0), (375, .aload 0, 376, 0), (376, .iload 3, 377, 0), (377, .iconst 2, 378, 0), (378, .iadd, 379, 0), (379, .iaload, 380, 0), (380, .invokevirtual 850308, 383, 669), (383, .aload 2, 384, 0), (384, .aload 0, 385, 0), (385, .iload 3, 386, 0), (386, .iconst 1, 387, 0), (387, .iadd, 388, 0), (388, .iaload, 389, 0), (389, .aload 0, 390, 0), (390, .iload 3, 391, 0), (391, .iconst 2, 392, 0), (392, .iadd, 393, 0), (393, .iaload, 394, 0), (394, .invokevirtual 1580309, 397, 1258), (397, .if_icmp .eq 1431, 400, 0), (400, .iconst 0, 401, 0), (401, .ireturn, 402, 0), (402, .aload 1, 403, 0), (403, .aload 0, 404, 0), (404, .iload 3, 405, 0), (405, .iconst 1, 406, 0), (406, .iadd, 407, 0), (407, .iaload, 408, 0), (408, .invokevirtual 860208, 411, 677), (411, .aload 2, 412, 0), (412, .aload 0, 413, 0), (413, .iload 3, 414, 0), (414, .iconst 1, 415, 0), (415, .iadd, 416, 0)]
def kL_law_q3 : List (Nat × Instr × Nat × Nat) := [(416, .iaload, 417, 0), (417, .invokevirtual 1590209, 420, 1267), (420, .if_icmp .eq 1431, 423, 0), (423, .iconst 0, 424, 0), (424, .ireturn, 425, 0), (425, .aload 1, 426, 0), (426, .aload 0, 427, 0), (427, .iload 3, 428, 0), (428, .iconst 1, 429, 0), (429, .iadd, 430, 0), (430, .iaload, 431, 0), (431, .aload 0, 432, 0), (432, .iload 3, 433, 0), (433, .iconst 2, 434, 0), (434, .iadd, 435, 0), (435, .iaload, 436, 0), (436, .aload 0, 437, 0), (437, .iload 3, 438, 0), (438, .iconst 3, 439, 0), (439, .iadd, 440, 0), (440, .iaload, 441, 0), (441, .invokevirtual 870408, 444, 681), (444, .aload 2, 445, 0), (445, .aload 0, 446, 0), (446, .iload 3, 447, 0), (447, .iconst 1, 448, 0), (448, .iadd, 449, 0), (449, .iaload, 450, 0), (450, .aload 0, 451, 0), (451, .iload 3, 452, 0), (452, .iconst 2, 453, 0), (453, .iadd, 454, 0), (454, .iaload, 455, 0), (455, .aload 0, 456, 0), (456, .iload 3, 457, 0), (457, .iconst 3, 458, 0), (458, .iadd, 459, 0), (459, .iaload, 460, 0), (460, .invokevirtual 1610409, 463, 1271), (463, .if_icmp .eq 1431, 466, 0), (466, .iconst 0, 467, 0), (467, .ireturn, 468, 0), (468, .aload 1, 469, 0), (469, .aload 0, 470, 0), (470, .iload 3, 471, 0), (471, .iconst 1, 472, 0), (472, .iadd, 473, 0), (473, .iaload, 474, 0), (474, .aload 0, 475, 0), (475, .iload 3, 476, 0), (476, .iconst 2, 477, 0), (477, .iadd, 478, 0), (478, .iaload, 479, 0), (479, .aload 0, 480, 0), (480, .iload 3, 481, 0), (481, .iconst 3, 482, 0), (482, .iadd, 483, 0), (483, .iaload, 484, 0), (484, .invokevirtual 880408, 487, 688), (487, .aload 2, 488, 0)]
def kL_law_q4 : List (Nat × Instr × Nat × Nat) := [(488, .aload 0, 489, 0), (489, .iload 3, 490, 0), (490, .iconst 1, 491, 0), (491, .iadd, 492, 0), (492, .iaload, 493, 0), (493, .aload 0, 494, 0), (494, .iload 3, 495, 0), (495, .iconst 2, 496, 0), (496, .iadd, 497, 0), (497, .iaload, 498, 0), (498, .aload 0, 499, 0), (499, .iload 3, 500, 0), (500, .iconst 3, 501, 0), (501, .iadd, 502, 0), (502, .iaload, 503, 0), (503, .invokevirtual 1620409, 506, 1280), (506, .if_icmp .eq 1431, 509, 0), (509, .iconst 0, 510, 0), (510, .ireturn, 511, 0), (511, .aload 1, 512, 0), (512, .aload 0, 513, 0), (513, .iload 3, 514, 0), (514, .iconst 1, 515, 0), (515, .iadd, 516, 0), (516, .iaload, 517, 0), (517, .aload 0, 518, 0), (518, .iload 3, 519, 0), (519, .iconst 2, 520, 0), (520, .iadd, 521, 0), (521, .iaload, 522, 0), (522, .invokevirtual 890308, 525, 692), (525, .aload 2, 526, 0), (526, .aload 0, 527, 0), (527, .iload 3, 528, 0), (528, .iconst 1, 529, 0), (529, .iadd, 530, 0), (530, .iaload, 531, 0), (531, .aload 0, 532, 0), (532, .iload 3, 533, 0), (533, .iconst 2, 534, 0), (534, .iadd, 535, 0), (535, .iaload, 536, 0), (536, .invokevirtual 1630309, 539, 1286), (539, .if_icmp .eq 1431, 542, 0), (542, .iconst 0, 543, 0), (543, .ireturn, 544, 0), (544, .aload 1, 545, 0), (545, .aload 0, 546, 0), (546, .iload 3, 547, 0), (547, .iconst 1, 548, 0), (548, .iadd, 549, 0), (549, .iaload, 550, 0), (550, .aload 0, 551, 0), (551, .iload 3, 552, 0), (552, .iconst 2, 553, 0), (553, .iadd, 554, 0), (554, .iaload, 555, 0), (555, .invokevirtual 900308, 558, 696), (558, .aload 2, 559, 0), (559, .aload 0, 560, 0)]
def kL_law_q5 : List (Nat × Instr × Nat × Nat) := [(560, .iload 3, 561, 0), (561, .iconst 1, 562, 0), (562, .iadd, 563, 0), (563, .iaload, 564, 0), (564, .aload 0, 565, 0), (565, .iload 3, 566, 0), (566, .iconst 2, 567, 0), (567, .iadd, 568, 0), (568, .iaload, 569, 0), (569, .invokevirtual 1640309, 572, 1291), (572, .if_icmp .eq 1431, 575, 0), (575, .iconst 0, 576, 0), (576, .ireturn, 577, 0), (577, .aload 1, 578, 0), (578, .aload 0, 579, 0), (579, .iload 3, 580, 0), (580, .iconst 1, 581, 0), (581, .iadd, 582, 0), (582, .iaload, 583, 0), (583, .aload 0, 584, 0), (584, .iload 3, 585, 0), (585, .iconst 2, 586, 0), (586, .iadd, 587, 0), (587, .iaload, 588, 0), (588, .invokevirtual 910308, 591, 700), (591, .aload 2, 592, 0), (592, .aload 0, 593, 0), (593, .iload 3, 594, 0), (594, .iconst 1, 595, 0), (595, .iadd, 596, 0), (596, .iaload, 597, 0), (597, .aload 0, 598, 0), (598, .iload 3, 599, 0), (599, .iconst 2, 600, 0), (600, .iadd, 601, 0), (601, .iaload, 602, 0), (602, .invokevirtual 1650309, 605, 1295), (605, .if_icmp .eq 1431, 608, 0), (608, .iconst 0, 609, 0), (609, .ireturn, 610, 0), (610, .aload 1, 611, 0), (611, .aload 0, 612, 0), (612, .iload 3, 613, 0), (613, .iconst 1, 614, 0), (614, .iadd, 615, 0), (615, .iaload, 616, 0), (616, .invokevirtual 920208, 619, 704), (619, .aload 2, 620, 0), (620, .aload 0, 621, 0), (621, .iload 3, 622, 0), (622, .iconst 1, 623, 0), (623, .iadd, 624, 0), (624, .iaload, 625, 0), (625, .invokevirtual 1660209, 628, 1299), (628, .if_icmp .eq 1431, 631, 0), (631, .iconst 0, 632, 0), (632, .ireturn, 633, 0), (633, .aload 1, 634, 0), (634, .aload 0, 635, 0), (635, .iload 3, 636, 0)]
def kL_law_q6 : List (Nat × Instr × Nat × Nat) := [(636, .iconst 1, 637, 0), (637, .iadd, 638, 0), (638, .iaload, 639, 0), (639, .invokevirtual 930208, 642, 709), (642, .aload 2, 643, 0), (643, .aload 0, 644, 0), (644, .iload 3, 645, 0), (645, .iconst 1, 646, 0), (646, .iadd, 647, 0), (647, .iaload, 648, 0), (648, .invokevirtual 1720209, 651, 1303), (651, .if_icmp .eq 1431, 654, 0), (654, .iconst 0, 655, 0), (655, .ireturn, 656, 0), (656, .aload 1, 657, 0), (657, .aload 0, 658, 0), (658, .iload 3, 659, 0), (659, .iconst 1, 660, 0), (660, .iadd, 661, 0), (661, .iaload, 662, 0), (662, .aload 0, 663, 0), (663, .iload 3, 664, 0), (664, .iconst 2, 665, 0), (665, .iadd, 666, 0), (666, .iaload, 667, 0), (667, .invokevirtual 940308, 670, 729), (670, .aload 2, 671, 0), (671, .aload 0, 672, 0), (672, .iload 3, 673, 0), (673, .iconst 1, 674, 0), (674, .iadd, 675, 0), (675, .iaload, 676, 0), (676, .aload 0, 677, 0), (677, .iload 3, 678, 0), (678, .iconst 2, 679, 0), (679, .iadd, 680, 0), (680, .iaload, 681, 0), (681, .invokevirtual 1750309, 684, 1323), (684, .if_icmp .eq 1431, 687, 0), (687, .iconst 0, 688, 0), (688, .ireturn, 689, 0), (689, .aload 1, 690, 0), (690, .aload 0, 691, 0), (691, .iload 3, 692, 0), (692, .iconst 1, 693, 0), (693, .iadd, 694, 0), (694, .iaload, 695, 0), (695, .invokevirtual 950208, 698, 758), (698, .aload 2, 699, 0), (699, .aload 0, 700, 0), (700, .iload 3, 701, 0), (701, .iconst 1, 702, 0), (702, .iadd, 703, 0), (703, .iaload, 704, 0), (704, .invokevirtual 1780209, 707, 1343), (707, .if_icmp .eq 1431, 710, 0), (710, .iconst 0, 711, 0), (711, .ireturn, 712, 0), (712, .aload 1, 713, 0), (713, .aload 0, 714, 0)]
def kL_law_q7 : List (Nat × Instr × Nat × Nat) := [(714, .iload 3, 715, 0), (715, .iconst 1, 716, 0), (716, .iadd, 717, 0), (717, .iaload, 718, 0), (718, .aload 0, 719, 0), (719, .iload 3, 720, 0), (720, .iconst 2, 721, 0), (721, .iadd, 722, 0), (722, .iaload, 723, 0), (723, .invokevirtual 960308, 726, 771), (726, .aload 2, 727, 0), (727, .aload 0, 728, 0), (728, .iload 3, 729, 0), (729, .iconst 1, 730, 0), (730, .iadd, 731, 0), (731, .iaload, 732, 0), (732, .aload 0, 733, 0), (733, .iload 3, 734, 0), (734, .iconst 2, 735, 0), (735, .iadd, 736, 0), (736, .iaload, 737, 0), (737, .invokevirtual 1800309, 740, 1355), (740, .if_icmp .eq 1431, 743, 0), (743, .iconst 0, 744, 0), (744, .ireturn, 745, 0), (745, .aload 1, 746, 0), (746, .aload 0, 747, 0), (747, .iload 3, 748, 0), (748, .iconst 1, 749, 0), (749, .iadd, 750, 0), (750, .iaload, 751, 0), (751, .invokevirtual 970208, 754, 776), (754, .aload 2, 755, 0), (755, .aload 0, 756, 0), (756, .iload 3, 757, 0), (757, .iconst 1, 758, 0), (758, .iadd, 759, 0), (759, .iaload, 760, 0), (760, .invokevirtual 1810209, 763, 1363), (763, .if_icmp .eq 1431, 766, 0), (766, .iconst 0, 767, 0), (767, .ireturn, 768, 0), (768, .aload 1, 769, 0), (769, .aload 0, 770, 0), (770, .iload 3, 771, 0), (771, .iconst 1, 772, 0), (772, .iadd, 773, 0), (773, .iaload, 774, 0), (774, .aload 0, 775, 0), (775, .iload 3, 776, 0), (776, .iconst 2, 777, 0), (777, .iadd, 778, 0), (778, .iaload, 779, 0), (779, .aload 0, 780, 0), (780, .iload 3, 781, 0), (781, .iconst 3, 782, 0), (782, .iadd, 783, 0), (783, .iaload, 784, 0), (784, .invokevirtual 980408, 787, 780), (787, .aload 2, 788, 0)]
def kL_law_q8 : List (Nat × Instr × Nat × Nat) := [(788, .aload 0, 789, 0), (789, .iload 3, 790, 0), (790, .iconst 1, 791, 0), (791, .iadd, 792, 0), (792, .iaload, 793, 0), (793, .aload 0, 794, 0), (794, .iload 3, 795, 0), (795, .iconst 2, 796, 0), (796, .iadd, 797, 0), (797, .iaload, 798, 0), (798, .aload 0, 799, 0), (799, .iload 3, 800, 0), (800, .iconst 3, 801, 0), (801, .iadd, 802, 0), (802, .iaload, 803, 0), (803, .invokevirtual 1840409, 806, 1367), (806, .if_icmp .eq 1431, 809, 0), (809, .iconst 0, 810, 0), (810, .ireturn, 811, 0), (811, .aload 1, 812, 0), (812, .aload 0, 813, 0), (813, .iload 3, 814, 0), (814, .iconst 1, 815, 0), (815, .iadd, 816, 0), (816, .iaload, 817, 0), (817, .aload 0, 818, 0), (818, .iload 3, 819, 0), (819, .iconst 2, 820, 0), (820, .iadd, 821, 0), (821, .iaload, 822, 0), (822, .invokevirtual 990308, 825, 800), (825, .aload 2, 826, 0), (826, .aload 0, 827, 0), (827, .iload 3, 828, 0), (828, .iconst 1, 829, 0), (829, .iadd, 830, 0), (830, .iaload, 831, 0), (831, .aload 0, 832, 0), (832, .iload 3, 833, 0), (833, .iconst 2, 834, 0), (834, .iadd, 835, 0), (835, .iaload, 836, 0), (836, .invokevirtual 1880309, 839, 1380), (839, .if_icmp .eq 1431, 842, 0), (842, .iconst 0, 843, 0), (843, .ireturn, 844, 0), (844, .aload 1, 845, 0), (845, .aload 0, 846, 0), (846, .iload 3, 847, 0), (847, .iconst 1, 848, 0), (848, .iadd, 849, 0), (849, .iaload, 850, 0), (850, .invokevirtual 1000208, 853, 833), (853, .aload 2, 854, 0), (854, .aload 0, 855, 0), (855, .iload 3, 856, 0), (856, .iconst 1, 857, 0), (857, .iadd, 858, 0), (858, .iaload, 859, 0), (859, .invokevirtual 1910209, 862, 1397)]
def kL_law_q9 : List (Nat × Instr × Nat × Nat) := [(862, .if_icmp .eq 1431, 865, 0), (865, .iconst 0, 866, 0), (866, .ireturn, 867, 0), (867, .aload 1, 868, 0), (868, .aload 0, 869, 0), (869, .iload 3, 870, 0), (870, .iconst 1, 871, 0), (871, .iadd, 872, 0), (872, .iaload, 873, 0), (873, .aload 0, 874, 0), (874, .iload 3, 875, 0), (875, .iconst 2, 876, 0), (876, .iadd, 877, 0), (877, .iaload, 878, 0), (878, .invokevirtual 1010308, 881, 853), (881, .aload 2, 882, 0), (882, .aload 0, 883, 0), (883, .iload 3, 884, 0), (884, .iconst 1, 885, 0), (885, .iadd, 886, 0), (886, .iaload, 887, 0), (887, .aload 0, 888, 0), (888, .iload 3, 889, 0), (889, .iconst 2, 890, 0), (890, .iadd, 891, 0), (891, .iaload, 892, 0), (892, .invokevirtual 1920309, 895, 1409), (895, .if_icmp .eq 1431, 898, 0), (898, .iconst 0, 899, 0), (899, .ireturn, 900, 0), (900, .aload 1, 901, 0), (901, .aload 0, 902, 0), (902, .iload 3, 903, 0), (903, .iconst 1, 904, 0), (904, .iadd, 905, 0), (905, .iaload, 906, 0), (906, .aload 0, 907, 0), (907, .iload 3, 908, 0), (908, .iconst 2, 909, 0), (909, .iadd, 910, 0), (910, .iaload, 911, 0), (911, .invokevirtual 1020308, 914, 858), (914, .aload 2, 915, 0), (915, .aload 0, 916, 0), (916, .iload 3, 917, 0), (917, .iconst 1, 918, 0), (918, .iadd, 919, 0), (919, .iaload, 920, 0), (920, .aload 0, 921, 0), (921, .iload 3, 922, 0), (922, .iconst 2, 923, 0), (923, .iadd, 924, 0), (924, .iaload, 925, 0), (925, .invokevirtual 1950309, 928, 1413), (928, .if_icmp .eq 1431, 931, 0), (931, .iconst 0, 932, 0), (932, .ireturn, 933, 0), (933, .aload 1, 934, 0), (934, .aload 0, 935, 0), (935, .iload 3, 936, 0)]
def kL_law_q10 : List (Nat × Instr × Nat × Nat) := [(936, .iconst 1, 937, 0), (937, .iadd, 938, 0), (938, .iaload, 939, 0), (939, .aload 0, 940, 0), (940, .iload 3, 941, 0), (941, .iconst 2, 942, 0), (942, .iadd, 943, 0), (943, .iaload, 944, 0), (944, .invokevirtual 1030308, 947, 893), (947, .aload 2, 948, 0), (948, .aload 0, 949, 0), (949, .iload 3, 950, 0), (950, .iconst 1, 951, 0), (951, .iadd, 952, 0), (952, .iaload, 953, 0), (953, .aload 0, 954, 0), (954, .iload 3, 955, 0), (955, .iconst 2, 956, 0), (956, .iadd, 957, 0), (957, .iaload, 958, 0), (958, .invokevirtual 1970309, 961, 1425), (961, .if_icmp .eq 1431, 964, 0), (964, .iconst 0, 965, 0), (965, .ireturn, 966, 0), (966, .aload 1, 967, 0), (967, .aload 0, 968, 0), (968, .iload 3, 969, 0), (969, .iconst 1, 970, 0), (970, .iadd, 971, 0), (971, .iaload, 972, 0), (972, .aload 0, 973, 0), (973, .iload 3, 974, 0), (974, .iconst 2, 975, 0), (975, .iadd, 976, 0), (976, .iaload, 977, 0), (977, .aload 0, 978, 0), (978, .iload 3, 979, 0), (979, .iconst 3, 980, 0), (980, .iadd, 981, 0), (981, .iaload, 982, 0), (982, .invokevirtual 1040408, 985, 901), (985, .aload 2, 986, 0), (986, .aload 0, 987, 0), (987, .iload 3, 988, 0), (988, .iconst 1, 989, 0), (989, .iadd, 990, 0), (990, .iaload, 991, 0), (991, .aload 0, 992, 0), (992, .iload 3, 993, 0), (993, .iconst 2, 994, 0), (994, .iadd, 995, 0), (995, .iaload, 996, 0), (996, .aload 0, 997, 0), (997, .iload 3, 998, 0), (998, .iconst 3, 999, 0), (999, .iadd, 1000, 0), (1000, .iaload, 1001, 0), (1001, .invokevirtual 2010409, 1004, 1433), (1004, .lcmp, 1005, 0), (1005, .ifCond .eq 1431, 1008, 0)]
def kL_law_q11 : List (Nat × Instr × Nat × Nat) := [(1008, .iconst 0, 1009, 0), (1009, .ireturn, 1010, 0), (1010, .aload 1, 1011, 0), (1011, .aload 0, 1012, 0), (1012, .iload 3, 1013, 0), (1013, .iconst 1, 1014, 0), (1014, .iadd, 1015, 0), (1015, .iaload, 1016, 0), (1016, .aload 0, 1017, 0), (1017, .iload 3, 1018, 0), (1018, .iconst 2, 1019, 0), (1019, .iadd, 1020, 0), (1020, .iaload, 1021, 0), (1021, .aload 0, 1022, 0), (1022, .iload 3, 1023, 0), (1023, .iconst 3, 1024, 0), (1024, .iadd, 1025, 0), (1025, .iaload, 1026, 0), (1026, .invokevirtual 1050408, 1029, 920), (1029, .aload 2, 1030, 0), (1030, .aload 0, 1031, 0), (1031, .iload 3, 1032, 0), (1032, .iconst 1, 1033, 0), (1033, .iadd, 1034, 0), (1034, .iaload, 1035, 0), (1035, .aload 0, 1036, 0), (1036, .iload 3, 1037, 0), (1037, .iconst 2, 1038, 0), (1038, .iadd, 1039, 0), (1039, .iaload, 1040, 0), (1040, .aload 0, 1041, 0), (1041, .iload 3, 1042, 0), (1042, .iconst 3, 1043, 0), (1043, .iadd, 1044, 0), (1044, .iaload, 1045, 0), (1045, .invokevirtual 2020409, 1048, 1449), (1048, .lcmp, 1049, 0), (1049, .ifCond .eq 1431, 1052, 0), (1052, .iconst 0, 1053, 0), (1053, .ireturn, 1054, 0), (1054, .aload 1, 1055, 0), (1055, .aload 0, 1056, 0), (1056, .iload 3, 1057, 0), (1057, .iconst 1, 1058, 0), (1058, .iadd, 1059, 0), (1059, .iaload, 1060, 0), (1060, .aload 0, 1061, 0), (1061, .iload 3, 1062, 0), (1062, .iconst 2, 1063, 0), (1063, .iadd, 1064, 0), (1064, .iaload, 1065, 0), (1065, .invokevirtual 1060308, 1068, 927), (1068, .aload 2, 1069, 0), (1069, .aload 0, 1070, 0), (1070, .iload 3, 1071, 0), (1071, .iconst 1, 1072, 0), (1072, .iadd, 1073, 0), (1073, .iaload, 1074, 0), (1074, .aload 0, 1075, 0), (1075, .iload 3, 1076, 0)]
def kL_law_q12 : List (Nat × Instr × Nat × Nat) := [(1076, .iconst 2, 1077, 0), (1077, .iadd, 1078, 0), (1078, .iaload, 1079, 0), (1079, .invokevirtual 2040309, 1082, 1453), (1082, .lcmp, 1083, 0), (1083, .ifCond .eq 1431, 1086, 0), (1086, .iconst 0, 1087, 0), (1087, .ireturn, 1088, 0), (1088, .aload 1, 1089, 0), (1089, .aload 0, 1090, 0), (1090, .iload 3, 1091, 0), (1091, .iconst 1, 1092, 0), (1092, .iadd, 1093, 0), (1093, .iaload, 1094, 0), (1094, .aload 0, 1095, 0), (1095, .iload 3, 1096, 0), (1096, .iconst 2, 1097, 0), (1097, .iadd, 1098, 0), (1098, .iaload, 1099, 0), (1099, .invokevirtual 1070308, 1102, 937), (1102, .aload 2, 1103, 0), (1103, .aload 0, 1104, 0), (1104, .iload 3, 1105, 0), (1105, .iconst 1, 1106, 0), (1106, .iadd, 1107, 0), (1107, .iaload, 1108, 0), (1108, .aload 0, 1109, 0), (1109, .iload 3, 1110, 0), (1110, .iconst 2, 1111, 0), (1111, .iadd, 1112, 0), (1112, .iaload, 1113, 0), (1113, .invokevirtual 2050309, 1116, 1462), (1116, .if_icmp .eq 1431, 1119, 0), (1119, .iconst 0, 1120, 0), (1120, .ireturn, 1121, 0), (1121, .aload 1, 1122, 0), (1122, .aload 0, 1123, 0), (1123, .iload 3, 1124, 0), (1124, .iconst 1, 1125, 0), (1125, .iadd, 1126, 0), (1126, .iaload, 1127, 0), (1127, .invokevirtual 1080208, 1130, 945), (1130, .aload 2, 1131, 0), (1131, .aload 0, 1132, 0), (1132, .iload 3, 1133, 0), (1133, .iconst 1, 1134, 0), (1134, .iadd, 1135, 0), (1135, .iaload, 1136, 0), (1136, .invokevirtual 2060209, 1139, 1467), (1139, .if_icmp .eq 1431, 1142, 0), (1142, .iconst 0, 1143, 0), (1143, .ireturn, 1144, 0), (1144, .aload 1, 1145, 0), (1145, .aload 0, 1146, 0), (1146, .iload 3, 1147, 0), (1147, .iconst 1, 1148, 0), (1148, .iadd, 1149, 0), (1149, .iaload, 1150, 0), (1150, .invokevirtual 1090208, 1153, 949), (1153, .aload 2, 1154, 0)]
def kL_law_q13 : List (Nat × Instr × Nat × Nat) := [(1154, .aload 0, 1155, 0), (1155, .iload 3, 1156, 0), (1156, .iconst 1, 1157, 0), (1157, .iadd, 1158, 0), (1158, .iaload, 1159, 0), (1159, .invokevirtual 2080209, 1162, 1471), (1162, .if_icmp .eq 1431, 1165, 0), (1165, .iconst 0, 1166, 0), (1166, .ireturn, 1167, 0), (1167, .aload 1, 1168, 0), (1168, .aload 0, 1169, 0), (1169, .iload 3, 1170, 0), (1170, .iconst 1, 1171, 0), (1171, .iadd, 1172, 0), (1172, .iaload, 1173, 0), (1173, .aload 0, 1174, 0), (1174, .iload 3, 1175, 0), (1175, .iconst 2, 1176, 0), (1176, .iadd, 1177, 0), (1177, .iaload, 1178, 0), (1178, .aload 0, 1179, 0), (1179, .iload 3, 1180, 0), (1180, .iconst 3, 1181, 0), (1181, .iadd, 1182, 0), (1182, .iaload, 1183, 0), (1183, .invokevirtual 1100408, 1186, 963), (1186, .aload 2, 1187, 0), (1187, .aload 0, 1188, 0), (1188, .iload 3, 1189, 0), (1189, .iconst 1, 1190, 0), (1190, .iadd, 1191, 0), (1191, .iaload, 1192, 0), (1192, .aload 0, 1193, 0), (1193, .iload 3, 1194, 0), (1194, .iconst 2, 1195, 0), (1195, .iadd, 1196, 0), (1196, .iaload, 1197, 0), (1197, .aload 0, 1198, 0), (1198, .iload 3, 1199, 0), (1199, .iconst 3, 1200, 0), (1200, .iadd, 1201, 0), (1201, .iaload, 1202, 0), (1202, .invokevirtual 2100409, 1205, 1479), (1205, .if_icmp .eq 1431, 1208, 0), (1208, .iconst 0, 1209, 0), (1209, .ireturn, 1210, 0), (1210, .aload 1, 1211, 0), (1211, .aload 0, 1212, 0), (1212, .iload 3, 1213, 0), (1213, .iconst 1, 1214, 0), (1214, .iadd, 1215, 0), (1215, .iaload, 1216, 0), (1216, .invokevirtual 1110208, 1219, 974), (1219, .aload 2, 1220, 0), (1220, .aload 0, 1221, 0), (1221, .iload 3, 1222, 0), (1222, .iconst 1, 1223, 0), (1223, .iadd, 1224, 0), (1224, .iaload, 1225, 0), (1225, .invokevirtual 2110209, 1228, 1488)]
def kL_law_q14 : List (Nat × Instr × Nat × Nat) := [(1228, .if_icmp .eq 1431, 1231, 0), (1231, .iconst 0, 1232, 0), (1232, .ireturn, 1233, 0), (1233, .aload 1, 1234, 0), (1234, .aload 0, 1235, 0), (1235, .iload 3, 1236, 0), (1236, .iconst 1, 1237, 0), (1237, .iadd, 1238, 0), (1238, .iaload, 1239, 0), (1239, .invokevirtual 1120208, 1242, 978), (1242, .aload 2, 1243, 0), (1243, .aload 0, 1244, 0), (1244, .iload 3, 1245, 0), (1245, .iconst 1, 1246, 0), (1246, .iadd, 1247, 0), (1247, .iaload, 1248, 0), (1248, .invokevirtual 2120209, 1251, 1492), (1251, .if_icmp .eq 1431, 1254, 0), (1254, .iconst 0, 1255, 0), (1255, .ireturn, 1256, 0), (1256, .aload 1, 1257, 0), (1257, .aload 0, 1258, 0), (1258, .iload 3, 1259, 0), (1259, .iconst 1, 1260, 0), (1260, .iadd, 1261, 0), (1261, .iaload, 1262, 0), (1262, .aload 0, 1263, 0), (1263, .iload 3, 1264, 0), (1264, .iconst 2, 1265, 0), (1265, .iadd, 1266, 0), (1266, .iaload, 1267, 0), (1267, .aload 0, 1268, 0), (1268, .iload 3, 1269, 0), (1269, .iconst 3, 1270, 0), (1270, .iadd, 1271, 0), (1271, .iaload, 1272, 0), (1272, .invokevirtual 1130408, 1275, 982), (1275, .aload 2, 1276, 0), (1276, .aload 0, 1277, 0), (1277, .iload 3, 1278, 0), (1278, .iconst 1, 1279, 0), (1279, .iadd, 1280, 0), (1280, .iaload, 1281, 0), (1281, .aload 0, 1282, 0), (1282, .iload 3, 1283, 0), (1283, .iconst 2, 1284, 0), (1284, .iadd, 1285, 0), (1285, .iaload, 1286, 0), (1286, .aload 0, 1287, 0), (1287, .iload 3, 1288, 0), (1288, .iconst 3, 1289, 0), (1289, .iadd, 1290, 0), (1290, .iaload, 1291, 0), (1291, .invokevirtual 2130409, 1294, 1496), (1294, .if_icmp .eq 1431, 1297, 0), (1297, .iconst 0, 1298, 0), (1298, .ireturn, 1299, 0), (1299, .aload 1, 1300, 0), (1300, .aload 0, 1301, 0), (1301, .iload 3, 1302, 0)]
def kL_law_q15 : List (Nat × Instr × Nat × Nat) := [(1302, .iconst 1, 1303, 0), (1303, .iadd, 1304, 0), (1304, .iaload, 1305, 0), (1305, .aload 0, 1306, 0), (1306, .iload 3, 1307, 0), (1307, .iconst 2, 1308, 0), (1308, .iadd, 1309, 0), (1309, .iaload, 1310, 0), (1310, .aload 0, 1311, 0), (1311, .iload 3, 1312, 0), (1312, .iconst 3, 1313, 0), (1313, .iadd, 1314, 0), (1314, .iaload, 1315, 0), (1315, .invokevirtual 1140408, 1318, 996), (1318, .aload 2, 1319, 0), (1319, .aload 0, 1320, 0), (1320, .iload 3, 1321, 0), (1321, .iconst 1, 1322, 0), (1322, .iadd, 1323, 0), (1323, .iaload, 1324, 0), (1324, .aload 0, 1325, 0), (1325, .iload 3, 1326, 0), (1326, .iconst 2, 1327, 0), (1327, .iadd, 1328, 0), (1328, .iaload, 1329, 0), (1329, .aload 0, 1330, 0), (1330, .iload 3, 1331, 0), (1331, .iconst 3, 1332, 0), (1332, .iadd, 1333, 0), (1333, .iaload, 1334, 0), (1334, .invokevirtual 2140409, 1337, 1500), (1337, .if_icmp .eq 1431, 1340, 0), (1340, .iconst 0, 1341, 0), (1341, .ireturn, 1342, 0), (1342, .aload 1, 1343, 0), (1343, .aload 0, 1344, 0), (1344, .iload 3, 1345, 0), (1345, .iconst 1, 1346, 0), (1346, .iadd, 1347, 0), (1347, .iaload, 1348, 0), (1348, .aload 0, 1349, 0), (1349, .iload 3, 1350, 0), (1350, .iconst 2, 1351, 0), (1351, .iadd, 1352, 0), (1352, .iaload, 1353, 0), (1353, .aload 0, 1354, 0), (1354, .iload 3, 1355, 0), (1355, .iconst 3, 1356, 0), (1356, .iadd, 1357, 0), (1357, .iaload, 1358, 0), (1358, .aload 0, 1359, 0), (1359, .iload 3, 1360, 0), (1360, .iconst 4, 1361, 0), (1361, .iadd, 1362, 0), (1362, .iaload, 1363, 0), (1363, .invokevirtual 1150508, 1366, 1012), (1366, .aload 2, 1367, 0), (1367, .aload 0, 1368, 0), (1368, .iload 3, 1369, 0), (1369, .iconst 1, 1370, 0)]
def kL_law_q16 : List (Nat × Instr × Nat × Nat) := [(1370, .iadd, 1371, 0), (1371, .iaload, 1372, 0), (1372, .aload 0, 1373, 0), (1373, .iload 3, 1374, 0), (1374, .iconst 2, 1375, 0), (1375, .iadd, 1376, 0), (1376, .iaload, 1377, 0), (1377, .aload 0, 1378, 0), (1378, .iload 3, 1379, 0), (1379, .iconst 3, 1380, 0), (1380, .iadd, 1381, 0), (1381, .iaload, 1382, 0), (1382, .aload 0, 1383, 0), (1383, .iload 3, 1384, 0), (1384, .iconst 4, 1385, 0), (1385, .iadd, 1386, 0), (1386, .iaload, 1387, 0), (1387, .invokevirtual 2150509, 1390, 1504), (1390, .if_icmp .eq 1431, 1393, 0), (1393, .iconst 0, 1394, 0), (1394, .ireturn, 1395, 0), (1395, .aload 1, 1396, 0), (1396, .invokevirtual 1160108, 1399, 1022), (1399, .aload 2, 1400, 0), (1400, .invokevirtual 2160109, 1403, 1508), (1403, .if_icmp .eq 1431, 1406, 0), (1406, .iconst 0, 1407, 0), (1407, .ireturn, 1408, 0), (1408, .aload 1, 1409, 0), (1409, .aload 0, 1410, 0), (1410, .iload 3, 1411, 0), (1411, .iconst 1, 1412, 0), (1412, .iadd, 1413, 0), (1413, .iaload, 1414, 0), (1414, .invokevirtual 1170208, 1417, 1026), (1417, .aload 2, 1418, 0), (1418, .aload 0, 1419, 0), (1419, .iload 3, 1420, 0), (1420, .iconst 1, 1421, 0), (1421, .iadd, 1422, 0), (1422, .iaload, 1423, 0), (1423, .invokevirtual 2170209, 1426, 1512), (1426, .if_icmp .eq 1431, 1429, 0), (1429, .iconst 0, 1430, 0), (1430, .ireturn, 1431, 0), (1431, .iinc 3 5, 1434, 0), (1434, .goto 18, 1437, 0), (1437, .iconst 1, 1438, 0), (1438, .ireturn, 1439, 0)]
def kL_law : List (Nat × Instr × Nat × Nat) := (kL_law_q0 ++ (kL_law_q1 ++ (kL_law_q2 ++ (kL_law_q3 ++ (kL_law_q4 ++ (kL_law_q5 ++ (kL_law_q6 ++ (kL_law_q7 ++ (kL_law_q8 ++ (kL_law_q9 ++ (kL_law_q10 ++ (kL_law_q11 ++ (kL_law_q12 ++ (kL_law_q13 ++ (kL_law_q14 ++ (kL_law_q15 ++ kL_law_q16))))))))))))))))
def ab_mt_0 : List (String × MethodName × ByteArray × Nat × Option FieldType × Nat × List (Nat × Instr × Nat × Nat)) := [(RX0, yX0_init, cX0_init, 1, none, 1, kX0_init), (RX0, yX0_find, cX0_find, 5, (some .boolean), 3, kX0_find), (RX0, yX0_foresee, cX0_foresee, 7, none, 3, kX0_foresee), (RX0, yX0_choose, cX0_choose, 6, (some .boolean), 5, kX0_choose), (RX0, yX0_lessen, cX0_lessen, 6, none, 4, kX0_lessen), (RX1, yX1_init, cX1_init, 1, none, 1, kX1_init), (RX1, yX1_find, cX1_find, 4, none, 4, kX1_find), (RX1, yX1_step, cX1_step, 10, none, 7, kX1_step), (RX1, yX1_judge, cX1_judge, 4, none, 4, kX1_judge), (RX2, yX2_init, cX2_init, 2, none, 1, kX2_init), (RX2, yX2_find, cX2_find, 3, none, 3, kX2_find), (RX2, yX2_arrange, cX2_arrange, 7, none, 4, kX2_arrange), (RX2, yX2_judge, cX2_judge, 4, none, 2, kX2_judge), (RX3, yX3_init, cX3_init, 1, none, 1, kX3_init), (RX3, yX3_isThere, cX3_isThere, 1, (some .boolean), 1, kX3_isThere), (RX3, yX3_renew, cX3_renew, 4, none, 3, kX3_renew), (RX3, yX3_faultOfPair, cX3_faultOfPair, 4, (some .int), 3, kX3_faultOfPair), (RX3, yX3_faultOfCells, cX3_faultOfCells, 4, (some .int), 3, kX3_faultOfCells), (RX3, yX3_put, cX3_put, 3, none, 3, kX3_put), (RX4, yX4_init, cX4_init, 1, none, 1, kX4_init), (RX4, yX4_append, cX4_append, 3, (some .boolean), 3, kX4_append), (RX4, yX4_match, cX4_match, 4, none, 2, kX4_match), (RX4, yX4_isPair, cX4_isPair, 4, (some .boolean), 3, kX4_isPair), (RX5, yX5_init, cX5_init, 1, none, 1, kX5_init), (RX5, yX5_append, cX5_append, 2, (some .boolean), 2, kX5_append), (RX5, yX5_tell, cX5_tell, 4, (some .int), 2, kX5_tell), (RX5, yX5_blame, cX5_blame, 3, none, 3, kX5_blame), (RX5, yX5_nextToken, cX5_nextToken, 1, none, 1, kX5_nextToken), (RX5, yX5_isLetter, cX5_isLetter, 1, (some .boolean), 1, kX5_isLetter), (RX5, yX5_isFigure, cX5_isFigure, 1, (some .boolean), 1, kX5_isFigure), (RX5, yX5_skipBlanks, cX5_skipBlanks, 1, none, 1, kX5_skipBlanks), (RX5, yX5_skipLetters, cX5_skipLetters, 1, none, 1, kX5_skipLetters), (RX5, yX5_takeFigures, cX5_takeFigures, 1, none, 1, kX5_takeFigures), (RX5, yX5_isName, cX5_isName, 3, (some .boolean), 2, kX5_isName), (RX5, yX5_kindNamed, cX5_kindNamed, 1, (some .int), 1, kX5_kindNamed), (RX5, yX5_readLine, cX5_readLine, 3, none, 2, kX5_readLine), (RX5, yX5_refuse, cX5_refuse, 3, none, 3, kX5_refuse), (RX5, yX5_readNumber, cX5_readNumber, 3, (some .int), 3, kX5_readNumber), (RX5, yX5_readSemicolon, cX5_readSemicolon, 1, (some .boolean), 1, kX5_readSemicolon), (RX5, yX5_readMan, cX5_readMan, 4, none, 2, kX5_readMan)]
def ab_mt_1 : List (String × MethodName × ByteArray × Nat × Option FieldType × Nat × List (Nat × Instr × Nat × Nat)) := [(RX5, yX5_readStone, cX5_readStone, 5, none, 3, kX5_readStone), (RX5, yX5_readOven, cX5_readOven, 4, none, 2, kX5_readOven), (RX5, yX5_readWind, cX5_readWind, 3, none, 2, kX5_readWind), (RX5, yX5_readPrice, cX5_readPrice, 4, none, 2, kX5_readPrice), (RX5, yX5_readDebt, cX5_readDebt, 5, none, 2, kX5_readDebt), (RX6, yX6_init, cX6_init, 1, none, 1, kX6_init), (RX6, yX6_leastWalks, cX6_leastWalks, 5, (some .int), 4, kX6_leastWalks), (RX6, yX6_orPebble, cX6_orPebble, 1, (some .int), 1, kX6_orPebble), (RX6, yX6_clearRow, cX6_clearRow, 2, none, 1, kX6_clearRow), (RX6, yX6_stay, cX6_stay, 2, none, 1, kX6_stay), (RX6, yX6_walkOnce, cX6_walkOnce, 4, none, 1, kX6_walkOnce), (RX6, yX6_walkedUntil, cX6_walkedUntil, 7, (some .int), 4, kX6_walkedUntil), (RX7, yX7_init, cX7_init, 1, none, 1, kX7_init), (RX7, yX7_clear, cX7_clear, 2, none, 1, kX7_clear), (RX7, yX7_copyFrom, cX7_copyFrom, 2, none, 2, kX7_copyFrom), (RX7, yX7_hasOne, cX7_hasOne, 2, (some .boolean), 2, kX7_hasOne), (RX7, yX7_hasStone, cX7_hasStone, 2, (some .boolean), 2, kX7_hasStone), (RX7, yX7_hasDebt, cX7_hasDebt, 2, (some .boolean), 2, kX7_hasDebt), (RX7, yX7_addOne, cX7_addOne, 3, none, 3, kX7_addOne), (RX7, yX7_addStone, cX7_addStone, 4, none, 4, kX7_addStone), (RX7, yX7_addDebt, cX7_addDebt, 4, none, 4, kX7_addDebt), (RX7, yX7_namesOnlyItsPeople, cX7_namesOnlyItsPeople, 2, (some .boolean), 1, kX7_namesOnlyItsPeople), (RX7, yX7_stonesOf, cX7_stonesOf, 4, (some .int), 2, kX7_stonesOf), (RX7, yX7_warmthOf, cX7_warmthOf, 4, (some .int), 2, kX7_warmthOf), (RX7, yX7_allWarmth, cX7_allWarmth, 3, (some .int), 1, kX7_allWarmth), (RX7, yX7_allDebts, cX7_allDebts, 3, (some .int), 1, kX7_allDebts), (RX7, yX7_countWarm, cX7_countWarm, 3, (some .int), 1, kX7_countWarm), (RX7, yX7_rateOf, cX7_rateOf, 2, (some .int), 2, kX7_rateOf), (RX7, yX7_boughtFor, cX7_boughtFor, 3, (some .int), 3, kX7_boughtFor), (RX7, yX7_ovenDistance, cX7_ovenDistance, 2, (some .int), 2, kX7_ovenDistance), (RX7, yX7_minutesBetween, cX7_minutesBetween, 3, (some .int), 3, kX7_minutesBetween), (RX7, yX7_letPass, cX7_letPass, 3, none, 2, kX7_letPass), (RX7, yX7_bake, cX7_bake, 4, none, 2, kX7_bake), (RX7, yX7_refusalToPay, cX7_refusalToPay, 3, (some .int), 3, kX7_refusalToPay), (RX7, yX7_handOver, cX7_handOver, 5, (some .int), 3, kX7_handOver), (RX7, yX7_firstOwed, cX7_firstOwed, 5, (some .int), 4, kX7_firstOwed), (RX7, yX7_lessened, cX7_lessened, 2, (some .int), 2, kX7_lessened), (RX8, yX8_init, cX8_init, 2, none, 1, kX8_init), (RX8, yX8_feed, cX8_feed, 2, (some .int), 2, kX8_feed), (RX8, yX8_end, cX8_end, 3, (some .int), 2, kX8_end)]
def ab_mt_2 : List (String × MethodName × ByteArray × Nat × Option FieldType × Nat × List (Nat × Instr × Nat × Nat)) := [(RX8, yX8_text, cX8_text, 3, (some .int), 1, kX8_text), (RX8, yX8_fault, cX8_fault, 1, (some .int), 1, kX8_fault), (RX8, yX8_rule, cX8_rule, 2, (some .int), 2, kX8_rule), (RX8, yX8_one, cX8_one, 3, (some .int), 3, kX8_one), (RX8, yX8_stone, cX8_stone, 3, (some .int), 3, kX8_stone), (RX8, yX8_debt, cX8_debt, 3, (some .int), 3, kX8_debt), (RX8, yX8_price, cX8_price, 2, (some .int), 2, kX8_price), (RX8, yX8_dress, cX8_dress, 4, (some .int), 4, kX8_dress), (RX8, yX8_warm, cX8_warm, 4, (some .int), 4, kX8_warm), (RX8, yX8_set, cX8_set, 4, (some .int), 3, kX8_set), (RX8, yX8_ask, cX8_ask, 3, (some .int), 3, kX8_ask), (RX8, yX8_owe, cX8_owe, 3, (some .int), 3, kX8_owe), (RX8, yX8_halve, cX8_halve, 2, (some .int), 2, kX8_halve), (RX8, yX8_go, cX8_go, 2, (some .int), 2, kX8_go), (RX8, yX8_pay, cX8_pay, 4, (some .int), 3, kX8_pay), (RX8, yX8_heat, cX8_heat, 2, (some .int), 2, kX8_heat), (RX8, yX8_after, cX8_after, 3, (some .int), 3, kX8_after), (RX8, yX8_cold, cX8_cold, 5, (some .int), 2, kX8_cold), (RX8, yX8_way, cX8_way, 5, (some .int), 4, kX8_way), (RX8, yX8_fewest, cX8_fewest, 4, (some .int), 3, kX8_fewest), (RX8, yX8_settle, cX8_settle, 2, (some .int), 2, kX8_settle), (RX8, yX8_wool, cX8_wool, 4, (some .int), 3, kX8_wool), (RX8, yX8_walks, cX8_walks, 3, (some .int), 3, kX8_walks), (RX8, yX8_buys, cX8_buys, 8, (some .int), 3, kX8_buys), (RX8, yX8_lasts, cX8_lasts, 4, (some .long), 4, kX8_lasts), (RX8, yX8_mean, cX8_mean, 4, (some .long), 4, kX8_mean), (RX8, yX8_spend, cX8_spend, 9, (some .long), 3, kX8_spend), (RX8, yX8_see, cX8_see, 3, (some .int), 3, kX8_see), (RX8, yX8_forget, cX8_forget, 3, (some .int), 2, kX8_forget), (RX8, yX8_fits, cX8_fits, 2, (some .int), 2, kX8_fits), (RX8, yX8_drift, cX8_drift, 9, (some .int), 4, kX8_drift), (RX8, yX8_keep, cX8_keep, 3, (some .int), 2, kX8_keep), (RX8, yX8_back, cX8_back, 2, (some .int), 2, kX8_back), (RX8, yX8_sheet, cX8_sheet, 4, (some .int), 4, kX8_sheet), (RX8, yX8_lay, cX8_lay, 5, (some .int), 4, kX8_lay), (RX8, yX8_read, cX8_read, 13, (some .int), 5, kX8_read), (RX8, yX8_torn, cX8_torn, 1, (some .int), 1, kX8_torn), (RX8, yX8_count, cX8_count, 2, (some .int), 2, kX8_count), (RX8, yX8_isIn, cX8_isIn, 3, (some .boolean), 3, kX8_isIn), (RX8, yX8_isSheet, cX8_isSheet, 1, (some .boolean), 1, kX8_isSheet)]
def ab_mt_3 : List (String × MethodName × ByteArray × Nat × Option FieldType × Nat × List (Nat × Instr × Nat × Nat)) := [(RX8, yX8_isLane, cX8_isLane, 1, (some .boolean), 1, kX8_isLane), (RX8, yX8_exchange, cX8_exchange, 4, (some .int), 3, kX8_exchange), (RX8, yX8_nextSeed, cX8_nextSeed, 1, (some .int), 1, kX8_nextSeed), (RX8, yX8_seedBits, cX8_seedBits, 1, (some .int), 1, kX8_seedBits), (RX8, yX8_isWarm, cX8_isWarm, 1, (some .boolean), 1, kX8_isWarm), (RX8, yX8_rate, cX8_rate, 2, (some .int), 2, kX8_rate), (RX8, yX8_cooled, cX8_cooled, 2, (some .int), 2, kX8_cooled), (RX8, yX8_cooledFor, cX8_cooledFor, 5, (some .int), 3, kX8_cooledFor), (RX8, yX8_weightOfWarm, cX8_weightOfWarm, 6, (some .long), 4, kX8_weightOfWarm), (RX8, yX8_weightOfWarmth, cX8_weightOfWarmth, 6, (some .long), 4, kX8_weightOfWarmth), (RX8, yX8_weightBought, cX8_weightBought, 6, (some .long), 4, kX8_weightBought), (RX8, yX8_weightBoughtLater, cX8_weightBoughtLater, 6, (some .long), 4, kX8_weightBoughtLater), (RX8, yX8_fractionPart, cX8_fractionPart, 8, (some .long), 3, kX8_fractionPart), (RX8, yX8_commonDivisor, cX8_commonDivisor, 11, (some .long), 2, kX8_commonDivisor), (RX9, yX9_init, cX9_init, 1, none, 1, kX9_init), (RX9, yX9_in, cX9_in, 6, (some .boolean), 3, kX9_in), (RX9, yX9_feed, cX9_feed, 2, (some .int), 2, kX9_feed), (RX9, yX9_end, cX9_end, 3, (some .int), 2, kX9_end), (RX9, yX9_byteAt, cX9_byteAt, 2, (some .int), 2, kX9_byteAt), (RX9, yX9_fails, cX9_fails, 2, none, 2, kX9_fails), (RX9, yX9_nameHere, cX9_nameHere, 4, (some .int), 1, kX9_nameHere), (RX9, yX9_step, cX9_step, 2, none, 1, kX9_step), (RX9, yX9_number, cX9_number, 4, (some .int), 3, kX9_number), (RX9, yX9_oneHere, cX9_oneHere, 2, (some .int), 1, kX9_oneHere), (RX9, yX9_readDebt, cX9_readDebt, 2, none, 1, kX9_readDebt), (RX9, yX9_readMore, cX9_readMore, 3, none, 2, kX9_readMore), (RX9, yX9_readLine, cX9_readLine, 2, none, 1, kX9_readLine), (RX9, yX9_text, cX9_text, 3, (some .int), 1, kX9_text), (RX9, yX9_fault, cX9_fault, 1, (some .int), 1, kX9_fault), (RX9, yX9_isOne, cX9_isOne, 2, (some .boolean), 2, kX9_isOne), (RX9, yX9_isStone, cX9_isStone, 2, (some .boolean), 2, kX9_isStone), (RX9, yX9_isDebt, cX9_isDebt, 2, (some .boolean), 2, kX9_isDebt), (RX9, yX9_rule, cX9_rule, 2, (some .int), 2, kX9_rule), (RX9, yX9_rateOf, cX9_rateOf, 2, (some .int), 2, kX9_rateOf), (RX9, yX9_rateOn, cX9_rateOn, 3, (some .int), 3, kX9_rateOn), (RX9, yX9_cooled, cX9_cooled, 3, (some .int), 2, kX9_cooled), (RX9, yX9_one, cX9_one, 6, (some .int), 3, kX9_one), (RX9, yX9_stone, cX9_stone, 3, (some .int), 3, kX9_stone), (RX9, yX9_debt, cX9_debt, 3, (some .int), 3, kX9_debt), (RX9, yX9_price, cX9_price, 2, (some .int), 2, kX9_price)]
def ab_mt_4 : List (String × MethodName × ByteArray × Nat × Option FieldType × Nat × List (Nat × Instr × Nat × Nat)) := [(RX9, yX9_puts, cX9_puts, 6, (some .int), 5, kX9_puts), (RX9, yX9_dress, cX9_dress, 4, (some .int), 4, kX9_dress), (RX9, yX9_warm, cX9_warm, 4, (some .int), 4, kX9_warm), (RX9, yX9_set, cX9_set, 3, (some .int), 3, kX9_set), (RX9, yX9_ask, cX9_ask, 3, (some .int), 3, kX9_ask), (RX9, yX9_owe, cX9_owe, 3, (some .int), 3, kX9_owe), (RX9, yX9_halve, cX9_halve, 3, (some .int), 2, kX9_halve), (RX9, yX9_minuteOn, cX9_minuteOn, 5, none, 3, kX9_minuteOn), (RX9, yX9_goesOn, cX9_goesOn, 4, none, 3, kX9_goesOn), (RX9, yX9_apart, cX9_apart, 3, (some .int), 3, kX9_apart), (RX9, yX9_wayOn, cX9_wayOn, 4, (some .int), 4, kX9_wayOn), (RX9, yX9_paysOn, cX9_paysOn, 8, (some .int), 4, kX9_paysOn), (RX9, yX9_go, cX9_go, 2, (some .int), 2, kX9_go), (RX9, yX9_warmOnes, cX9_warmOnes, 3, (some .int), 1, kX9_warmOnes), (RX9, yX9_paid, cX9_paid, 3, (some .int), 3, kX9_paid), (RX9, yX9_pay, cX9_pay, 3, (some .int), 3, kX9_pay), (RX9, yX9_heatNow, cX9_heatNow, 1, (some .int), 1, kX9_heatNow), (RX9, yX9_ovenWay, cX9_ovenWay, 2, (some .int), 2, kX9_ovenWay), (RX9, yX9_heat, cX9_heat, 3, (some .int), 2, kX9_heat), (RX9, yX9_afterOf, cX9_afterOf, 6, (some .int), 4, kX9_afterOf), (RX9, yX9_after, cX9_after, 3, (some .int), 3, kX9_after), (RX9, yX9_cold, cX9_cold, 4, (some .int), 2, kX9_cold), (RX9, yX9_laysHands, cX9_laysHands, 11, (some .int), 4, kX9_laysHands), (RX9, yX9_handed, cX9_handed, 7, (some .int), 3, kX9_handed), (RX9, yX9_way, cX9_way, 12, (some .int), 4, kX9_way), (RX9, yX9_copies, cX9_copies, 4, none, 3, kX9_copies), (RX9, yX9_laysRow, cX9_laysRow, 10, (some .boolean), 5, kX9_laysRow), (RX9, yX9_fewestFrom, cX9_fewestFrom, 7, (some .int), 3, kX9_fewestFrom), (RX9, yX9_fewest, cX9_fewest, 4, (some .int), 3, kX9_fewest), (RX9, yX9_laysOrder, cX9_laysOrder, 6, (some .boolean), 2, kX9_laysOrder), (RX9, yX9_settled, cX9_settled, 4, (some .int), 1, kX9_settled), (RX9, yX9_settle, cX9_settle, 7, (some .int), 2, kX9_settle), (RX9, yX9_wool, cX9_wool, 4, (some .int), 3, kX9_wool), (RX9, yX9_reaches, cX9_reaches, 4, none, 4, kX9_reaches), (RX9, yX9_walked, cX9_walked, 8, (some .int), 5, kX9_walked), (RX9, yX9_walks, cX9_walks, 10, (some .int), 3, kX9_walks), (RX9, yX9_bought, cX9_bought, 3, (some .int), 3, kX9_bought), (RX9, yX9_buys, cX9_buys, 7, (some .int), 3, kX9_buys), (RX9, yX9_lowest, cX9_lowest, 11, (some .long), 3, kX9_lowest), (RX9, yX9_windy, cX9_windy, 3, (some .int), 3, kX9_windy)]
def ab_mt_5 : List (String × MethodName × ByteArray × Nat × Option FieldType × Nat × List (Nat × Instr × Nat × Nat)) := [(RX9, yX9_byWind, cX9_byWind, 17, (some .long), 5, kX9_byWind), (RX9, yX9_lasts, cX9_lasts, 4, (some .long), 4, kX9_lasts), (RX9, yX9_mean, cX9_mean, 4, (some .long), 4, kX9_mean), (RX9, yX9_spent, cX9_spent, 12, (some .long), 2, kX9_spent), (RX9, yX9_spend, cX9_spend, 5, (some .long), 3, kX9_spend), (RX9, yX9_see, cX9_see, 3, (some .int), 3, kX9_see), (RX9, yX9_forget, cX9_forget, 3, (some .int), 2, kX9_forget), (RX9, yX9_isAsSeen, cX9_isAsSeen, 5, (some .boolean), 3, kX9_isAsSeen), (RX9, yX9_fits, cX9_fits, 8, (some .int), 2, kX9_fits), (RX9, yX9_draws, cX9_draws, 2, (some .int), 2, kX9_draws), (RX9, yX9_drift, cX9_drift, 8, (some .int), 4, kX9_drift), (RX9, yX9_keep, cX9_keep, 3, (some .int), 2, kX9_keep), (RX9, yX9_back, cX9_back, 2, (some .int), 2, kX9_back), (RX9, yX9_sheet, cX9_sheet, 5, (some .int), 4, kX9_sheet), (RX9, yX9_lay, cX9_lay, 4, (some .int), 4, kX9_lay), (RX9, yX9_read, cX9_read, 9, (some .int), 5, kX9_read), (RX9, yX9_torn, cX9_torn, 1, (some .int), 1, kX9_torn), (RX9, yX9_count, cX9_count, 5, (some .int), 2, kX9_count), (RJ6, yJ6_bitCount_0f7a4, cJ6_bitCount_0f7a4, 1, (some .int), 1, kJ6_bitCount_0f7a4), (RJ9, yJ9_abs_0f7a4, cJ9_abs_0f7a4, 1, (some .int), 1, kJ9_abs_0f7a4), (RJ9, yJ9_max_7cf53, cJ9_max_7cf53, 2, (some .int), 2, kJ9_max_7cf53), (RJ9, yJ9_max_f86c9, cJ9_max_f86c9, 4, (some .long), 2, kJ9_max_f86c9), (RJ9, yJ9_min_7cf53, cJ9_min_7cf53, 2, (some .int), 2, kJ9_min_7cf53), (RJ0, yJ0_length_8abf5, cJ0_length_8abf5, 1, (some .int), 1, kJ0_length_8abf5), (RJ0, yJ0_charAt_5068e, cJ0_charAt_5068e, 2, (some .char), 2, kJ0_charAt_5068e), (RJ0, yJ0_coder_7d493, cJ0_coder_7d493, 1, (some .byte), 1, kJ0_coder_7d493), (RJ0, yJ0_isLatin1_aae02, cJ0_isLatin1_aae02, 1, (some .boolean), 1, kJ0_isLatin1_aae02), (RJ0, yJ0_checkIndex_df160, cJ0_checkIndex_df160, 2, none, 2, kJ0_checkIndex_df160), (RJ1, yJ1_charAt_3b067, cJ1_charAt_3b067, 2, (some .char), 2, kJ1_charAt_3b067), (RJ3, yJ3_checkIndex_8e157, cJ3_checkIndex_8e157, 3, (some .int), 3, kJ3_checkIndex_8e157)]
def ab_mt : List (String × MethodName × ByteArray × Nat × Option FieldType × Nat × List (Nat × Instr × Nat × Nat)) := (ab_mt_0 ++ (ab_mt_1 ++ (ab_mt_2 ++ (ab_mt_3 ++ (ab_mt_4 ++ ab_mt_5)))))
def ab_hn_0 : List (Nat × Nat × Nat × Nat) := [(310, 309, 0, 74), (807, 805, 806, 74), (813, 812, 19, 74), (826, 825, 20, 74), (830, 829, 21, 74), (278, 277, 0, 73), (787, 785, 786, 73), (791, 790, 17, 73), (795, 794, 18, 73), (338, 337, 0, 75), (840, 838, 839, 75), (845, 844, 22, 75), (849, 848, 23, 75), (385, 384, 0, 77), (1007, 1005, 1006, 77), (995, 993, 994, 77), (1020, 1018, 1019, 77), (1003, 1001, 1002, 77), (1011, 1009, 1010, 77), (243, 242, 0, 72), (944, 942, 943, 72), (956, 954, 955, 72), (961, 960, 28, 72), (198, 197, 0, 71), (449, 447, 448, 71), (461, 459, 460, 71), (491, 490, 4, 71), (469, 468, 0, 71), (476, 475, 0, 71), (483, 482, 0, 71), (473, 472, 1, 71), (480, 479, 2, 71), (487, 486, 3, 71), (504, 503, 7, 71), (499, 498, 6, 71), (495, 494, 5, 71), (564, 563, 9, 71), (568, 567, 10, 71), (573, 572, 11, 71), (560, 559, 8, 71)]
def ab_hn_1 : List (Nat × Nat × Nat × Nat) := [(581, 580, 12, 71), (590, 589, 13, 71), (595, 594, 14, 71), (600, 599, 15, 71), (605, 604, 16, 71), (361, 360, 0, 76), (865, 863, 864, 76), (878, 877, 0, 76), (875, 874, 24, 76), (883, 882, 25, 76), (888, 887, 26, 76), (892, 891, 27, 76), (98, 97, 0, 70), (465, 463, 464, 70), (621, 619, 620, 70), (617, 615, 616, 70), (653, 651, 652, 70), (676, 674, 675, 70), (577, 575, 576, 70), (585, 583, 584, 70), (609, 607, 608, 70), (613, 611, 612, 70), (641, 639, 640, 70), (645, 643, 644, 70), (1034, 1032, 1033, 70), (1038, 1036, 1037, 70), (727, 725, 726, 70), (657, 655, 656, 70), (900, 898, 899, 70), (765, 763, 764, 70), (741, 739, 740, 70), (716, 714, 715, 70), (769, 767, 768, 70), (736, 734, 735, 70), (748, 746, 747, 70), (753, 751, 752, 70), (756, 755, 0, 70), (90, 89, 0, 69), (442, 440, 441, 69), (453, 451, 452, 69)]
def ab_hn_2 : List (Nat × Nat × Nat × Nat) := [(457, 455, 456, 69), (628, 626, 627, 69), (632, 630, 631, 69), (636, 634, 635, 69), (649, 647, 648, 69), (672, 670, 671, 69), (680, 678, 679, 69), (684, 682, 683, 69), (691, 689, 690, 69), (695, 693, 694, 69), (699, 697, 698, 69), (703, 701, 702, 69), (707, 705, 706, 69), (712, 710, 711, 69), (732, 730, 731, 69), (761, 759, 760, 69), (774, 772, 773, 69), (779, 777, 778, 69), (783, 781, 782, 69), (803, 801, 802, 69), (836, 834, 835, 69), (856, 854, 855, 69), (861, 859, 860, 69), (896, 894, 895, 69), (904, 902, 903, 69), (923, 921, 922, 69), (930, 928, 929, 69), (940, 938, 939, 69), (948, 946, 947, 69), (952, 950, 951, 69), (966, 964, 965, 69), (977, 975, 976, 69), (981, 979, 980, 69), (985, 983, 984, 69), (999, 997, 998, 69), (1015, 1013, 1014, 69), (1025, 1023, 1024, 69), (1029, 1027, 1028, 69), (445, 444, 0, 69), (988, 987, 0, 69)]
def ab_hn_3 : List (Nat × Nat × Nat × Nat) := [(991, 990, 0, 69), (687, 686, 0, 69), (969, 968, 0, 69), (973, 972, 0, 69), (668, 667, 0, 69), (660, 659, 0, 69), (723, 722, 0, 69), (720, 719, 0, 69), (908, 907, 0, 69), (926, 925, 0, 69), (936, 935, 0, 69), (933, 932, 0, 69), (911, 910, 0, 69), (916, 915, 0, 69), (1043, 1042, 0, 78), (1174, 1173, 0, 78), (1170, 1168, 1169, 78), (1178, 1176, 1177, 78), (1190, 1189, 30, 78), (1198, 1197, 31, 78), (1206, 1205, 33, 78), (1186, 1185, 29, 78), (1217, 1216, 35, 78), (1221, 1220, 36, 78), (1225, 1224, 37, 78), (1213, 1212, 34, 78), (1202, 1201, 32, 78), (1182, 1180, 1181, 78), (1230, 1228, 1229, 78), (1242, 1241, 38, 78), (1250, 1249, 39, 78), (1265, 1264, 41, 78), (1234, 1232, 1233, 78), (1257, 1256, 0, 78), (1254, 1253, 40, 78), (1318, 1317, 0, 78), (1238, 1236, 1237, 78), (1246, 1244, 1245, 78), (1261, 1259, 1260, 78), (1270, 1268, 1269, 78)]
def ab_hn_4 : List (Nat × Nat × Nat × Nat) := [(1278, 1277, 42, 78), (1274, 1272, 1273, 78), (1283, 1281, 1282, 78), (1289, 1287, 1288, 78), (1294, 1292, 1293, 78), (1298, 1296, 1297, 78), (1302, 1300, 1301, 78), (1315, 1314, 44, 78), (1311, 1310, 43, 78), (1338, 1337, 48, 78), (1334, 1333, 47, 78), (1342, 1341, 49, 78), (1306, 1304, 1305, 78), (1322, 1321, 45, 78), (1330, 1329, 46, 78), (1326, 1324, 1325, 78), (1354, 1353, 51, 78), (1350, 1349, 50, 78), (1346, 1344, 1345, 78), (1362, 1361, 52, 78), (1358, 1356, 1357, 78), (1366, 1364, 1365, 78), (1375, 1374, 53, 78), (1379, 1378, 54, 78), (1370, 1368, 1369, 78), (1396, 1395, 57, 78), (1392, 1391, 56, 78), (1388, 1387, 55, 78), (1383, 1381, 1382, 78), (1404, 1403, 58, 78), (1408, 1407, 59, 78), (1400, 1398, 1399, 78), (1412, 1410, 1411, 78), (1420, 1419, 60, 78), (1424, 1423, 61, 78), (1416, 1414, 1415, 78), (1432, 1431, 62, 78), (1428, 1426, 1427, 78), (1447, 1446, 0, 78), (1444, 1443, 64, 78)]
def ab_hn_5 : List (Nat × Nat × Nat × Nat) := [(1440, 1439, 63, 78), (1436, 1434, 1435, 78), (1452, 1450, 1451, 78), (1460, 1459, 65, 78), (1456, 1454, 1455, 78), (1465, 1463, 1464, 78), (1470, 1468, 1469, 78), (1478, 1477, 66, 78), (1474, 1472, 1473, 78), (1486, 1485, 67, 78), (1482, 1480, 1481, 78), (1491, 1489, 1490, 78), (1495, 1493, 1494, 78), (1499, 1497, 1498, 78), (1503, 1501, 1502, 78), (1507, 1505, 1506, 78), (1511, 1509, 1510, 78), (1515, 1513, 1514, 78), (819, 818, 0, 85), (744, 743, 0, 84), (665, 664, 0, 84), (919, 918, 0, 84), (868, 867, 0, 84), (508, 506, 507, 79), (518, 516, 517, 79), (512, 510, 511, 79), (522, 520, 521, 79), (528, 527, 0, 79), (525, 524, 0, 80), (533, 532, 0, 81)]
end
section
/-! A small machine of our own: it runs the claim's code over lists and functions. What it says of a method, the JVM does (part 06). -/
/-- a cell: an array that may be written, an object (its class's number, its fields), an array that is only read -/
abbrev ab_C : Type := (FieldType × vp_A) ⊕ ((Nat × List Value) ⊕ (FieldType × vp_A))
/-- a heap: the next address, the slots used so far, the cells (addresses below 100 are those that were there before) -/
abbrev ab_H : Type := Nat × Nat × (Nat → Option ab_C)
abbrev ab_L : Type := List (Option Value)
/-- pc, locals, stack, heap -/
abbrev ab_S : Type := Nat × ab_L × List Value × ab_H
/-- on to a state; a call (method, arguments, the state behind it without the answer); an answer -/
abbrev ab_O : Type := ab_S ⊕ ((Nat × List Value × ab_S) ⊕ (Option Value × ab_H))
abbrev ab_K : Type := List (Nat × Instr × Nat × Nat)
abbrev ab_M : Type := String × MethodName × ByteArray × Nat × Option FieldType × Nat × ab_K
def ab_ldL (L : ab_L) (i : Nat) : Option Value := match L[i]? with
  | some (some v) => some v
  | _ => none
def ab_cut (L : ab_L) (i : Nat) : ab_L := match i with
  | 0 => L
  | k + 1 => match L[k]? with
    | some (some v) => if v.category = 2 then L.set k none else L
    | _ => L
def ab_put (h : ab_H) (a : Nat) (c : ab_C) : ab_H := (h.1, h.2.1, fun q => if q = a then some c else h.2.2 q)
def ab_add (h : ab_H) (n : Nat) (c : ab_C) : ab_H := (h.1 + 1, h.2.1 + n, fun q => if q = h.1 then some c else h.2.2 q)
def ab_ra (h : ab_H) (a : Nat) : Option (FieldType × vp_A) := match h.2.2 a with
  | some (.inl x) => some x
  | some (.inr (.inr x)) => some x
  | _ => none
def ab_wa (h : ab_H) (a : Nat) : Option (FieldType × vp_A) := match h.2.2 a with
  | some (.inl x) => some x
  | _ => none
def ab_ob (h : ab_H) (a : Nat) : Option (Nat × List Value) := match h.2.2 a with
  | some (.inr (.inl x)) => some x
  | _ => none
def ab_in (i : Int32) (n : Nat) : Bool := decide (¬ (i < 0 ∨ n ≤ i.toNatClampNeg))
def ab_c2 (c : Jvm.ClassFile.Cond) (x y : Int32) : Bool := match c with
  | .eq => decide (x = y)
  | .ne => decide (¬ x = y)
  | .lt => decide (x < y)
  | .ge => decide (y ≤ x)
  | .gt => decide (y < x)
  | .le => decide (x ≤ y)
def ab_ty (ci k : Nat) : FieldType := match ci with
  | 0 => tyX0 k
  | 1 => tyX1 k
  | 2 => tyX2 k
  | 3 => tyX3 k
  | 4 => tyX4 k
  | 5 => tyX5 k
  | 6 => tyX6 k
  | 7 => tyX7 k
  | 8 => tyX8 k
  | _ => tyX9 k
def ab_nf (ci : Nat) : Nat := match vwCl[ci]? with
  | some r => r.2.2
  | none => 0
def ab_cn (ci : Nat) : String := match vwCl[ci]? with
  | some r => r.1
  | none => ""
/-- may a field of this type be given this value as it is -/
def ab_fit (ty : FieldType) (v : Value) : Bool := match ty, v with
  | .int, .int _ => true
  | .long, .long _ => true
  | .boolean, .int x => decide (x = 0 ∨ x = 1)
  | .object _, .ref _ => true
  | .array _, .ref _ => true
  | _, _ => false
def ab_zero (ty : FieldType) (n : Nat) : Option vp_A := match ty with
  | .int => some (n, .inl (fun _ => 0))
  | .byte => some (n, .inl (fun _ => 0))
  | .boolean => some (n, .inl (fun _ => 0))
  | .long => some (n, .inr (.inl (fun _ => 0)))
  | _ => none
def ab_go1 (nx : Nat) (L : ab_L) (st : List Value) (h : ab_H) : Option ab_O := some (.inl (nx, L, st, h))
def ab_ib (f : Int32 → Int32 → Int32) (nx : Nat) (L : ab_L) (st : List Value) (h : ab_H) : Option ab_O := match st with
  | .int y :: .int x :: r => ab_go1 nx L (.int (f x y) :: r) h
  | _ => none
def ab_iu (f : Int32 → Int32) (nx : Nat) (L : ab_L) (st : List Value) (h : ab_H) : Option ab_O := match st with
  | .int x :: r => ab_go1 nx L (.int (f x) :: r) h
  | _ => none
def ab_lb (f : Int64 → Int64 → Int64) (nx : Nat) (L : ab_L) (st : List Value) (h : ab_H) : Option ab_O := match st with
  | .long y :: .long x :: r => ab_go1 nx L (.long (f x y) :: r) h
  | _ => none
def ab_call1 (q nx : Nat) (L : ab_L) (st : List Value) (h : ab_H) : Option ab_O :=
  if q / 100 % 100 ≤ st.length ∧ ((st.drop (q / 100 % 100)).map fun v => v.category).sum ≤ 8 then some (.inr (.inl (q / 10000, (st.take (q / 100 % 100)).reverse, (nx, L, st.drop (q / 100 % 100), h)))) else none
def ab_step (rt : Option FieldType) (ins : Instr) (nx : Nat) (L : ab_L) (st : List Value) (h : ab_H) : Option ab_O := match ins with
  | .iconst v => ab_go1 nx L (.int (Int32.ofInt v) :: st) h
  | .ldc2_w n => ab_go1 nx L (.long (Int64.ofNat n) :: st) h
  | .ldc a => ab_go1 nx L (.ref a :: st) h
  | .iload i => (match ab_ldL L i with
    | some (.int x) => ab_go1 nx L (.int x :: st) h
    | _ => none)
  | .lload i => (match ab_ldL L i with
    | some (.long x) => ab_go1 nx L (.long x :: st) h
    | _ => none)
  | .aload i => (match ab_ldL L i with
    | some (.ref x) => ab_go1 nx L (.ref x :: st) h
    | _ => none)
  | .istore i => (match st with
    | .int x :: r => ab_go1 nx ((ab_cut L i).set i (some (.int x))) r h
    | _ => none)
  | .astore i => (match st with
    | .ref x :: r => ab_go1 nx ((ab_cut L i).set i (some (.ref x))) r h
    | _ => none)
  | .lstore i => (match st with
    | .long x :: r => ab_go1 nx (((ab_cut L i).set i (some (.long x))).set (i + 1) none) r h
    | _ => none)
  | .iinc i n => (match ab_ldL L i with
    | some (.int x) => ab_go1 nx ((ab_cut L i).set i (some (.int (x + Int32.ofInt n)))) st h
    | _ => none)
  | .iadd => ab_ib (fun x y => x + y) nx L st h
  | .isub => ab_ib (fun x y => x - y) nx L st h
  | .imul => ab_ib (fun x y => x * y) nx L st h
  | .iand => ab_ib (fun x y => x &&& y) nx L st h
  | .ior => ab_ib (fun x y => x ||| y) nx L st h
  | .ixor => ab_ib (fun x y => x ^^^ y) nx L st h
  | .ishl => ab_ib (fun x y => x <<< (y &&& 31)) nx L st h
  | .ishr => ab_ib (fun x y => x >>> (y &&& 31)) nx L st h
  | .iushr => ab_ib (fun x y => (x.toUInt32 >>> (y.toUInt32 &&& Int32.toUInt32 31)).toInt32) nx L st h
  | .idiv => (match st with
    | .int y :: .int x :: r => if y = 0 then none else ab_go1 nx L (.int (x / y) :: r) h
    | _ => none)
  | .irem => (match st with
    | .int y :: .int x :: r => if y = 0 then none else ab_go1 nx L (.int (x - x / y * y) :: r) h
    | _ => none)
  | .ineg => ab_iu (fun x => -x) nx L st h
  | .i2b => ab_iu (fun x => x.toInt8.toInt32) nx L st h
  | .i2s => ab_iu (fun x => x.toInt16.toInt32) nx L st h
  | .i2c => ab_iu (fun x => x.toUInt32.toUInt16.toUInt32.toInt32) nx L st h
  | .i2l => (match st with
    | .int x :: r => ab_go1 nx L (.long x.toInt64 :: r) h
    | _ => none)
  | .l2i => (match st with
    | .long x :: r => ab_go1 nx L (.int x.toInt32 :: r) h
    | _ => none)
  | .ladd => ab_lb (fun x y => x + y) nx L st h
  | .lsub => ab_lb (fun x y => x - y) nx L st h
  | .lmul => ab_lb (fun x y => x * y) nx L st h
  | .ldiv => (match st with
    | .long y :: .long x :: r => if y = 0 then none else ab_go1 nx L (.long (x / y) :: r) h
    | _ => none)
  | .lrem => (match st with
    | .long y :: .long x :: r => if y = 0 then none else ab_go1 nx L (.long (x - x / y * y) :: r) h
    | _ => none)
  | .lcmp => (match st with
    | .long y :: .long x :: r => ab_go1 nx L (.int (lg_cmp x y) :: r) h
    | _ => none)
  | .dup => (match st with
    | v :: r => if v.category = 1 then ab_go1 nx L (v :: v :: r) h else none
    | _ => none)
  | .dup2 => (match st with
    | v :: w :: r => if v.category = 1 ∧ w.category = 1 then ab_go1 nx L (v :: w :: v :: w :: r) h else none
    | _ => none)
  | .pop => (match st with
    | v :: r => if v.category = 1 then ab_go1 nx L r h else none
    | _ => none)
  | .ifCond c t => (match st with
    | .int x :: r => ab_go1 (if ab_c2 c x 0 then t.toNat else nx) L r h
    | _ => none)
  | .if_icmp c t => (match st with
    | .int y :: .int x :: r => ab_go1 (if ab_c2 c x y then t.toNat else nx) L r h
    | _ => none)
  | .goto t => ab_go1 t.toNat L st h
  | .tableswitch D lo hi T => (match st with
    | .int x :: r => if x.toInt < lo ∨ hi < x.toInt then ab_go1 D.toNat L r h else (match T[(x.toInt - lo).toNat]? with
      | some t => ab_go1 t.toNat L r h
      | none => none)
    | _ => none)
  | .getstatic a => ab_go1 nx L ((if a = 4 then .int 1 else if a = 3 then .retAddr 0 else .ref a) :: st) h
  | .getfield n => (match st with
    | .ref a :: r => (match ab_ob h a with
      | some (ci, fs) => if ci = n / 100 then (match fs[n % 100]? with
        | some v => ab_go1 nx L (v :: r) h
        | none => none) else none
      | none => none)
    | _ => none)
  | .putfield n => (match st with
    | v :: .ref a :: r => (match ab_ob h a with
      | some (ci, fs) => if ci = n / 100 ∧ n % 100 < fs.length ∧ ab_fit (ab_ty (n / 100) (n % 100)) v = true then ab_go1 nx L r (ab_put h a (.inr (.inl (ci, fs.set (n % 100) v)))) else none
      | none => none)
    | _ => none)
  | .iaload => (match st with
    | .int i :: .ref a :: r => (match ab_ra h a with
      | some (.int, n, .inl f) => if ab_in i n then ab_go1 nx L (.int (f i.toNatClampNeg) :: r) h else none
      | _ => none)
    | _ => none)
  | .baload => (match st with
    | .int i :: .ref a :: r => (match ab_ra h a with
      | some (.byte, n, .inl f) => if ab_in i n then ab_go1 nx L (.int (f i.toNatClampNeg) :: r) h else none
      | some (.boolean, n, .inl f) => if ab_in i n then ab_go1 nx L (.int (f i.toNatClampNeg) :: r) h else none
      | _ => none)
    | _ => none)
  | .laload => (match st with
    | .int i :: .ref a :: r => (match ab_ra h a with
      | some (.long, n, .inr (.inl f)) => if ab_in i n then ab_go1 nx L (.long (f i.toNatClampNeg) :: r) h else none
      | _ => none)
    | _ => none)
  | .aaload => (match st with
    | .int i :: .ref a :: r => (match ab_wa h a with
      | some (.object _, n, .inr (.inr (.inr (.inr f)))) => if ab_in i n then (match f i.toNatClampNeg with
        | some v => ab_go1 nx L (.ref v :: r) h
        | none => none) else none
      | some (.array _, n, .inr (.inr (.inr (.inr f)))) => if ab_in i n then (match f i.toNatClampNeg with
        | some v => ab_go1 nx L (.ref v :: r) h
        | none => none) else none
      | _ => none)
    | _ => none)
  | .iastore => (match st with
    | .int x :: .int i :: .ref a :: r => (match ab_wa h a with
      | some (.int, n, .inl f) => if ab_in i n then ab_go1 nx L r (ab_put h a (.inl (.int, n, .inl (upd f i.toNatClampNeg x)))) else none
      | _ => none)
    | _ => none)
  | .bastore => (match st with
    | .int x :: .int i :: .ref a :: r => (match ab_wa h a with
      | some (.byte, n, .inl f) => if ab_in i n then ab_go1 nx L r (ab_put h a (.inl (.byte, n, .inl (upd f i.toNatClampNeg x.toInt8.toInt32)))) else none
      | some (.boolean, n, .inl f) => if ab_in i n then ab_go1 nx L r (ab_put h a (.inl (.boolean, n, .inl (upd f i.toNatClampNeg (x &&& 1))))) else none
      | _ => none)
    | _ => none)
  | .lastore => (match st with
    | .long x :: .int i :: .ref a :: r => (match ab_wa h a with
      | some (.long, n, .inr (.inl f)) => if ab_in i n then ab_go1 nx L r (ab_put h a (.inl (.long, n, .inr (.inl (vp_updL f i.toNatClampNeg x))))) else none
      | _ => none)
    | _ => none)
  | .aastore => (match st with
    | .ref v :: .int i :: .ref a :: r => (match ab_wa h a, ab_ob h v with
      | some (.object C, n, .inr (.inr (.inr (.inr f)))), some (ci, _) => if ab_in i n = true ∧ ci < 10 ∧ C = ab_cn ci then ab_go1 nx L r (ab_put h a (.inl (.object C, n, .inr (.inr (.inr (.inr (va_up f i.toNatClampNeg (some v)))))))) else none
      | _, _ => none)
    | _ => none)
  | .arraylength => (match st with
    | .ref a :: r => (match ab_ra h a with
      | some (_, n, _) => ab_go1 nx L (.int (Int32.ofNat n) :: r) h
      | none => none)
    | _ => none)
  | .newarray t => (match st with
    | .int n :: r => (match ab_zero (newarray.typeOf t) n.toNatClampNeg with
      | some x => if ¬ n < 0 ∧ n.toNatClampNeg ≤ 10000 then ab_go1 nx L (.ref h.1 :: r) (ab_add h n.toNatClampNeg (.inl (newarray.typeOf t, x))) else none
      | none => none)
    | _ => none)
  | .anewarray ci => (match st with
    | .int n :: r => if ¬ n < 0 ∧ n.toNatClampNeg ≤ 10000 then ab_go1 nx L (.ref h.1 :: r) (ab_add h n.toNatClampNeg (.inl (.object (ab_cn ci), n.toNatClampNeg, .inr (.inr (.inr (.inr (fun _ => none))))))) else none
    | _ => none)
  | .multianewarray _ _ => (match st with
    | .int k :: .int n :: r => if ¬ n < 0 ∧ ¬ k < 0 ∧ n.toNatClampNeg ≤ 1000 ∧ k.toNatClampNeg ≤ 1000 then ab_go1 nx L (.ref h.1 :: r) (h.1 + 1 + n.toNatClampNeg, h.2.1 + n.toNatClampNeg + n.toNatClampNeg * k.toNatClampNeg, fun q => if q = h.1 then some (.inl (.array .int, n.toNatClampNeg, .inr (.inr (.inr (.inr (fun i => if i < n.toNatClampNeg then some (h.1 + 1 + i) else none)))))) else if h.1 < q ∧ q < h.1 + 1 + n.toNatClampNeg then some (.inl (.int, k.toNatClampNeg, .inl (fun _ => 0))) else h.2.2 q) else none
    | _ => none)
  | .new ci => ab_go1 nx L (.ref h.1 :: st) (ab_add h (ab_nf ci) (.inr (.inl (ci, (List.range (ab_nf ci)).map fun k => defaultValue (ab_ty ci k)))))
  | .invokespecial q => if q = 9990000 then (match st with
    | .ref _ :: r => if (r.map fun v => v.category).sum ≤ 8 then ab_go1 nx L r h else none
    | _ => none) else (match st.drop (q / 100 % 100 - 1) with
    | .ref a :: _ => (match ab_ob h a with
      | some _ => ab_call1 q nx L st h
      | none => none)
    | _ => none)
  | .invokestatic q => if q = 9980000 then (match st with
    | .int n :: .int dp :: .ref d :: .int sp :: .ref s :: r => (match ab_wa h s, ab_wa h d with
      | some (.int, n0, .inl f), some (.int, n1, .inl g) => if (¬ sp < 0 ∧ ¬ dp < 0 ∧ ¬ n < 0) ∧ sp.toNatClampNeg + n.toNatClampNeg ≤ n0 ∧ dp.toNatClampNeg + n.toNatClampNeg ≤ n1 ∧ (r.map fun v => v.category).sum ≤ 8 then ab_go1 nx L r (ab_put h d (.inl (.int, n1, .inl (va_cpy f g sp.toNatClampNeg dp.toNatClampNeg n.toNatClampNeg)))) else none
      | _, _ => none)
    | _ => none) else ab_call1 q nx L st h
  | .invokevirtual q => (match st.drop (q / 100 % 100 - 1) with
    | .ref a :: _ => (match ab_ob h a with
      | some (ci, _) => if ci = q % 100 then ab_call1 q nx L st h else none
      | none => none)
    | _ => none)
  | .ireturn => (match st, rt with
    | [.int x], some .int => some (.inr (.inr (some (.int x), h)))
    | [.int x], some ty => if narrow ty (.int x) = .int x then some (.inr (.inr (some (.int x), h))) else none
    | _, _ => none)
  | .lreturn => (match st, rt with
    | [.long x], some .long => some (.inr (.inr (some (.long x), h)))
    | _, _ => none)
  | .return_ => (match st, rt with
    | [], none => some (.inr (.inr (none, h)))
    | _, _ => none)
  | _ => none
def ab_look (cd : ab_K) (pc : Nat) : Option (Instr × Nat) := match cd.find? (fun e => e.1 == pc) with
  | some e => some (e.2.1, e.2.2.1)
  | none => none
def ab_go (call : Nat → List Value → ab_H → Option (Option Value × ab_H)) (rt : Option FieldType) (cd : ab_K) : Nat → Nat → ab_L → List Value → ab_H → Option (Option Value × ab_H)
  | 0, _, _, _, _ => none
  | n + 1, pc, L, st, h => match ab_look cd pc with
    | none => none
    | some (ins, nx) => match ab_step rt ins nx L st h with
      | none => none
      | some (.inl s) => ab_go call rt cd n s.1 s.2.1 s.2.2.1 s.2.2.2
      | some (.inr (.inl c)) => (match call c.1 c.2.1 c.2.2.2.2.2 with
        | none => none
        | some r => ab_go call rt cd n c.2.2.1 c.2.2.2.1 (r.1.toList ++ c.2.2.2.2.1) r.2)
      | some (.inr (.inr r)) => some r
def ab_en : List Value → ab_L
  | [] => []
  | v :: vs => if v.category = 2 then some v :: none :: ab_en vs else some v :: ab_en vs
def ab_ent (n : Nat) (vs : List Value) : ab_L := ab_en vs ++ List.replicate (n - (ab_en vs).length) none
def ab_call : Nat → Nat → Nat → List Value → ab_H → Option (Option Value × ab_H)
  | 0, _, _, _, _ => none
  | d + 1, F, j, as, h => match ab_mt[j]? with
    | none => none
    | some mi => if (ab_en as).length ≤ mi.2.2.2.1 then ab_go (ab_call d F) mi.2.2.2.2.1 mi.2.2.2.2.2.2 F 0 (ab_ent mi.2.2.2.1 as) [] h else none
end
section
/-! what a cell, a heap, a state of our machine are on the JVM -/
/-- the first new address, where the things are that were there before, the numbers of classes and slots, the formatter's value -/
abbrev ab_Env : Type := Nat × (Nat → Nat) × va_G × Value
def ab_rho (E : ab_Env) (a : Nat) : Nat := if a < 100 then E.2.1 a else E.1 + (a - 100)
def ab_rv (E : ab_Env) (v : Value) : Value := match v with
  | .ref a => .ref (ab_rho E a)
  | .retAddr _ => E.2.2.2
  | .int x => .int x
  | .long x => .long x
  | .float x => .float x
  | .double x => .double x
  | .null => .null
def ab_mx (E : ab_Env) (x : vp_A) : vp_A := match x with
  | (n, .inr (.inr (.inr (.inr f)))) => (n, .inr (.inr (.inr (.inr (fun j => (f j).map (ab_rho E))))))
  | (n, .inl f) => (n, .inl f)
  | (n, .inr (.inl f)) => (n, .inr (.inl f))
  | (n, .inr (.inr (.inl f))) => (n, .inr (.inr (.inl f)))
  | (n, .inr (.inr (.inr (.inl f)))) => (n, .inr (.inr (.inr (.inl f))))
def ab_val (x : vp_A) (j : Nat) : Value := match x.2 with
  | .inl f => .int (f j)
  | .inr (.inl f) => .long (f j)
  | _ => .null
abbrev ab_A (E : ab_Env) : Nat → Prop := fun q => E.1 ≤ q
def ab_at (E : ab_Env) (s : State) (H : Heap) (a : Nat) (c : ab_C) : Prop := match c with
  | .inl x => 100 ≤ a ∧ ∃ cA : ClassId, H[E.1 + (a - 100)]? = some (vp_cell cA (ab_mx E x.2)) ∧ ArrOfT s cA x.1 ∧ va_RA s cA x.1
  | .inr (.inl o) => (o.1 < 10 ∧ 100 ≤ a ∧ ∃ r : vw_C, vwCl[o.1]? = some r ∧ t_OB (E.1 + (a - 100)) (E.2.2.1.1 o.1) r.2.2 (E.2.2.1.2 o.1) H (vp_V (o.2.map (ab_rv E)))) ∨
      (o.1 = 90 ∧ a < 80 ∧ o.2 = [.ref (a + 20), .int 0] ∧ va_O "java/lang/String" (E.2.1 a) (ab_A E) s H ∧ va_OF "java/lang/String" "value" "[B" (.ref (E.2.1 (a + 20))) (E.2.1 a) (ab_A E) s H ∧ va_OF "java/lang/String" "coder" "B" (.int 0) (E.2.1 a) (ab_A E) s H)
  | .inr (.inr x) => a < 100 ∧ va_T x.1 (E.2.1 a) x.2.1 (ab_val x.2) (ab_A E) s H
def ab_I (E : ab_Env) (s : State) (H : Heap) (h : ab_H) : Prop := H.size = E.1 + (h.1 - 100) ∧ 100 ≤ h.1 ∧ ∀ (a : Nat) (c : ab_C), h.2.2 a = some c → ab_at E s H a c
theorem ab_at.kept {E : ab_Env} {s : State} {H H1 : Heap} {a : Nat} {c : ab_C} (h : ab_at E s H a c) (h1 : ∀ q : Nat, q < H.size → ¬ ab_A E q → H1[q]? = H[q]?) (h2 : 100 ≤ a → H1[E.1 + (a - 100)]? = H[E.1 + (a - 100)]?) : ab_at E s H1 a c := by
  rcases c with x | o | x
  · obtain ⟨g1, cA, g2, g3⟩ := h
    exact ⟨g1, cA, by rw [h2 g1]; exact g2, g3⟩
  · rcases h with ⟨g0, g1, r, g2, g3⟩ | ⟨g1, g2, g3, g4, g5, g6⟩
    · exact Or.inl ⟨g0, g1, r, g2, g3.kept (h2 g1)⟩
    · exact Or.inr ⟨g1, g2, g3, g4.kept h1, g5.kept h1, g6.kept h1⟩
  · exact ⟨h.1, h.2.kept h1⟩
theorem ab_at.moved {E : ab_Env} {u U : State} {H : Heap} {a : Nat} {c : ab_C} (hvm : u.vm.Alike U.vm) (h : ab_at E u H a c) : ab_at E U H a c := by
  rcases c with x | o | x
  · obtain ⟨g1, cA, g2, g3, g4⟩ := h
    exact ⟨g1, cA, g2, arrOfT_moved hvm g3, g4.moved hvm⟩
  · rcases h with ⟨g0, g1, r, g2, g3⟩ | ⟨g1, g2, g3, g4, g5, g6⟩
    · exact Or.inl ⟨g0, g1, r, g2, g3⟩
    · exact Or.inr ⟨g1, g2, g3, g4.moved hvm, g5.moved hvm, g6.moved hvm⟩
  · exact ⟨h.1, h.2.moved hvm⟩
theorem ab_at.lt {E : ab_Env} {s : State} {H : Heap} {a : Nat} {c : ab_C} (h : ab_at E s H a c) (ha : 100 ≤ a) : E.1 + (a - 100) < H.size := by
  rcases c with x | o | x
  · obtain ⟨g1, cA, g2, g3⟩ := h
    exact (Array.getElem?_eq_some_iff.mp g2).1
  · rcases h with ⟨g0, g1, r, g2, cell, g3, -⟩ | ⟨g1, g2, -⟩
    · exact (Array.getElem?_eq_some_iff.mp g3).1
    · omega
  · have := h.1
    omega
theorem ab_I.moved {E : ab_Env} {u U : State} {H : Heap} {h : ab_H} (hvm : u.vm.Alike U.vm) (hI : ab_I E u H h) : ab_I E U H h := ⟨hI.1, hI.2.1, fun a c hc => (hI.2.2 a c hc).moved hvm⟩
theorem ab_I.put {E : ab_Env} {s : State} {H H1 : Heap} {h : ab_H} {b : Nat} {c : ab_C} (hI : ab_I E s H h) (hb : 100 ≤ b) (hz : H1.size = H.size) (ho : ∀ q : Nat, q ≠ E.1 + (b - 100) → H1[q]? = H[q]?) (hc : ab_at E s H1 b c) : ab_I E s H1 (ab_put h b c) := by
  refine ⟨by rw [hz]; exact hI.1, hI.2.1, fun a d hd => ?_⟩
  simp only [ab_put] at hd
  by_cases hab : a = b
  · subst hab
    rw [if_pos rfl] at hd
    cases hd
    exact hc
  · rw [if_neg hab] at hd
    refine (hI.2.2 a d hd).kept (fun q _ h2 => ho q (fun e => h2 (by rw [e]; exact Nat.le_add_right _ _))) (fun ha => ho _ (fun e => hab ?_))
    omega
theorem ab_I.add {E : ab_Env} {s : State} {H H1 : Heap} {h : ab_H} {n : Nat} {c : ab_C} (hI : ab_I E s H h) (hz : H1.size = H.size + 1) (ho : ∀ q : Nat, q < H.size → H1[q]? = H[q]?) (hc : ab_at E s H1 h.1 c) : ab_I E s H1 (ab_add h n c) := by
  have h1 := hI.1
  have h2 := hI.2.1
  refine ⟨by rw [hz, h1]; simp only [ab_add]; omega, by simp only [ab_add]; omega, fun a d hd => ?_⟩
  simp only [ab_add] at hd
  by_cases hab : a = h.1
  · subst hab
    rw [if_pos rfl] at hd
    cases hd
    exact hc
  · rw [if_neg hab] at hd
    have hat := hI.2.2 a d hd
    exact hat.kept (fun q h3 _ => ho q h3) (fun ha => ho _ (hat.lt ha))
/-- the locals -/
def ab_LR (E : ab_Env) (ml : Nat) (L : ab_L) (ls : Array Slot) : Prop := L.length = ml ∧ ls.size = ml ∧ lv_wf ls ∧ ∀ (i : Nat) (v : Value), L[i]? = some (some v) → ls[i]? = some (.val (ab_rv E v))
theorem ab_rv_cat (E : ab_Env) (v : Value) (hf : E.2.2.2.category = 1) : (ab_rv E v).category = v.category := by
  cases v <;> first | rfl | exact hf
/-- the listed locals -/
def ab_asc (E : ab_Env) (L : ab_L) : List (Nat × Value) := (List.range L.length).filterMap (fun i => (ab_ldL L i).map (fun v => (i, ab_rv E v)))
theorem ab_asc_mem {E : ab_Env} {L : ab_L} {i : Nat} {w : Value} : (i, w) ∈ ab_asc E L ↔ ∃ v, L[i]? = some (some v) ∧ w = ab_rv E v := by
  unfold ab_asc
  rw [List.mem_filterMap]
  constructor
  · rintro ⟨j, -, h⟩
    unfold ab_ldL at h
    split at h
    · rename_i v hv
      simp only [Option.map_some, Option.some.injEq, Prod.mk.injEq] at h
      obtain ⟨rfl, rfl⟩ := h
      exact ⟨v, hv, rfl⟩
    · cases h
  · rintro ⟨v, hv, rfl⟩
    refine ⟨i, List.mem_range.mpr (List.getElem?_eq_some_iff.mp hv).1, ?_⟩
    simp only [ab_ldL, hv, Option.map_some]
theorem ab_LR.has {E : ab_Env} {ml : Nat} {L : ab_L} {ls : Array Slot} (h : ab_LR E ml L ls) : lv_has ls ml (ab_asc E L) := ⟨h.2.1, h.2.2.1, fun q hq => by
  obtain ⟨v, hv, e⟩ := ab_asc_mem.mp (show (q.1, q.2) ∈ ab_asc E L from hq)
  rw [e]
  exact h.2.2.2 _ v hv⟩
theorem ab_LR.at {E : ab_Env} {ml : Nat} {L : ab_L} {ls : Array Slot} (h : ab_LR E ml L ls) {i : Nat} {v : Value} (hv : ab_ldL L i = some v) : ls[i]? = some (.val (ab_rv E v)) := by
  unfold ab_ldL at hv
  split at hv
  · rename_i w hw
    cases hv
    exact h.2.2.2 i _ hw
  · cases hv
theorem ab_cut_len (L : ab_L) (i : Nat) : (ab_cut L i).length = L.length := by
  unfold ab_cut
  split
  · rfl
  · split
    · split <;> simp
    · rfl
/-- what stands in the cut locals stood there, and is no long whose second half goes -/
theorem ab_cut_at {L : ab_L} {i j : Nat} {v : Value} (h : (ab_cut L i)[j]? = some (some v)) : L[j]? = some (some v) ∧ ¬ (j + 1 = i ∧ v.category = 2) := by
  unfold ab_cut at h
  split at h
  · exact ⟨h, fun q => by omega⟩
  · rename_i k
    split at h
    · rename_i w hw
      split at h
      · rename_i hc
        by_cases hj : j = k
        · subst hj
          rw [List.getElem?_set_self (by exact (List.getElem?_eq_some_iff.mp hw).1)] at h
          cases h
        · rw [List.getElem?_set_ne (fun e => hj e.symm)] at h
          exact ⟨h, fun q => hj (by omega)⟩
      · rename_i hc
        refine ⟨h, fun q => ?_⟩
        have hj : j = k := by omega
        subst hj
        rw [hw] at h
        cases h
        exact hc q.2
    · rename_i hn
      refine ⟨h, fun q => ?_⟩
      have hj : j = k := by omega
      subst hj
      exact hn v h
theorem ab_LR.of1 {E : ab_Env} {ml : Nat} {L : ab_L} {ls' : Array Slot} {i : Nat} {v : Value} (hf : E.2.2.2.category = 1) (hl : L.length = ml) (h' : lv_has ls' ml ((i, ab_rv E v) :: (ab_asc E L).filter (fun q => !(q.1 == i) && !(q.1 + 1 == i && q.2.category == 2)))) : ab_LR E ml ((ab_cut L i).set i (some v)) ls' := by
  refine ⟨by rw [List.length_set, ab_cut_len]; exact hl, h'.1, h'.2.1, fun j w hw => ?_⟩
  by_cases hj : j = i
  · subst hj
    have hlt : j < (ab_cut L j).length := by
      have := (List.getElem?_eq_some_iff.mp hw).1
      rwa [List.length_set] at this
    rw [List.getElem?_set_self hlt] at hw
    cases hw
    exact h'.2.2 (j, ab_rv E v) List.mem_cons_self
  · rw [List.getElem?_set_ne (fun e => hj e.symm)] at hw
    obtain ⟨h1, h2⟩ := ab_cut_at hw
    refine h'.2.2 (j, ab_rv E w) (List.mem_cons_of_mem _ (List.mem_filter.mpr ⟨ab_asc_mem.mpr ⟨w, h1, rfl⟩, ?_⟩))
    simp only [ab_rv_cat E w hf, Bool.and_eq_true, Bool.not_eq_true', beq_eq_false_iff_ne, ne_eq, Bool.and_eq_false_iff]
    refine ⟨hj, ?_⟩
    by_cases h3 : j + 1 = i
    · exact Or.inr (fun h4 => h2 ⟨h3, h4⟩)
    · exact Or.inl h3
theorem ab_LR.of2 {E : ab_Env} {ml : Nat} {L : ab_L} {ls' : Array Slot} {i : Nat} {v : Value} (hf : E.2.2.2.category = 1) (hl : L.length = ml) (h' : lv_has ls' ml ((i, ab_rv E v) :: (ab_asc E L).filter (fun q => !(q.1 == i) && (!(q.1 == i + 1) && !(q.1 + 1 == i && q.2.category == 2))))) : ab_LR E ml (((ab_cut L i).set i (some v)).set (i + 1) none) ls' := by
  refine ⟨by rw [List.length_set, List.length_set, ab_cut_len]; exact hl, h'.1, h'.2.1, fun j w hw => ?_⟩
  by_cases hj1 : j = i + 1
  · subst hj1
    have hlt : i + 1 < ((ab_cut L i).set i (some v)).length := by
      have := (List.getElem?_eq_some_iff.mp hw).1
      rwa [List.length_set] at this
    rw [List.getElem?_set_self hlt] at hw
    cases hw
  · rw [List.getElem?_set_ne (fun e => hj1 e.symm)] at hw
    by_cases hj : j = i
    · subst hj
      have hlt : j < (ab_cut L j).length := by
        have := (List.getElem?_eq_some_iff.mp hw).1
        rwa [List.length_set] at this
      rw [List.getElem?_set_self hlt] at hw
      cases hw
      exact h'.2.2 (j, ab_rv E v) List.mem_cons_self
    · rw [List.getElem?_set_ne (fun e => hj e.symm)] at hw
      obtain ⟨h1, h2⟩ := ab_cut_at hw
      refine h'.2.2 (j, ab_rv E w) (List.mem_cons_of_mem _ (List.mem_filter.mpr ⟨ab_asc_mem.mpr ⟨w, h1, rfl⟩, ?_⟩))
      simp only [ab_rv_cat E w hf, Bool.and_eq_true, Bool.not_eq_true', beq_eq_false_iff_ne, ne_eq, Bool.and_eq_false_iff]
      refine ⟨hj, hj1, ?_⟩
      by_cases h3 : j + 1 = i
      · exact Or.inr (fun h4 => h2 ⟨h3, h4⟩)
      · exact Or.inl h3
theorem ab_en_args (E : ab_Env) (hf : E.2.2.2.category = 1) : ∀ (vs : List Value) (k j : Nat) (v : Value), (ab_en vs)[j]? = some (some v) → (k + j, ab_rv E v) ∈ lv_args k (vs.map (ab_rv E))
  | [], k, j, v, h => by simp [ab_en] at h
  | w :: vs, k, j, v, h => by
    simp only [ab_en] at h
    simp only [List.map_cons, lv_args, ab_rv_cat E w hf]
    split at h
    · rename_i hc
      rw [if_pos hc]
      match j, h with
      | 0, h => cases h; exact List.mem_cons_self
      | 1, h => simp at h
      | j + 2, h =>
        have := ab_en_args E hf vs (k + 2) j v (by simpa using h)
        rw [show k + (j + 2) = k + 2 + j by omega]
        exact List.mem_cons_of_mem _ this
    · rename_i hc
      rw [if_neg hc]
      match j, h with
      | 0, h => cases h; exact List.mem_cons_self
      | j + 1, h =>
        have := ab_en_args E hf vs (k + 1) j v (by simpa using h)
        rw [show k + (j + 1) = k + 1 + j by omega]
        exact List.mem_cons_of_mem _ this
theorem ab_en_len (E : ab_Env) (hf : E.2.2.2.category = 1) : ∀ vs : List Value, (lg_sl (vs.map (ab_rv E))).length = (ab_en vs).length
  | [] => rfl
  | w :: vs => by
    have ih := ab_en_len E hf vs
    simp only [lg_sl] at ih
    simp only [List.map_cons, lg_sl, ab_en, List.flatMap_cons, List.length_append, ab_rv_cat E w hf, ih]
    split <;> simp <;> omega
theorem ab_entry {E : ab_Env} (hf : E.2.2.2.category = 1) {vs : List Value} {n : Nat} (h : (ab_en vs).length ≤ n) : ab_LR E n (ab_ent n vs) ((lg_sl (vs.map (ab_rv E)) ++ List.replicate (n - (lg_sl (vs.map (ab_rv E))).length) Slot.unset).toArray) := by
  have hh := lv_entry (vs.map (ab_rv E)) (n := n) (by rw [ab_en_len E hf]; exact h)
  refine ⟨by simp only [ab_ent, List.length_append, List.length_replicate]; omega, hh.1, hh.2.1, fun i v hv => ?_⟩
  have : (ab_en vs)[i]? = some (some v) := by
    unfold ab_ent at hv
    by_cases hi : i < (ab_en vs).length
    · rwa [List.getElem?_append_left hi] at hv
    · rw [List.getElem?_append_right (by omega), List.getElem?_replicate] at hv
      split at hv <;> cases hv
  have h2 := ab_en_args E hf vs 0 i v this
  rw [Nat.zero_add] at h2
  exact hh.2.2 _ h2
end
section
/-! the instructions of our machine are the JVM's -/
def ab_gt : List Cond := lw_tbl.filter goodWord
def ab_sts (a : Nat) : String × String × String := match a with
  | 1 => ("TepidPurse", "BASES", "[I")
  | 2 => ("TepidPurse", "POWERS_OF_TEN", "[J")
  | 3 => ("jdk/internal/util/Preconditions", "SIOOBE_FORMATTER", "Ljava/util/function/BiFunction;")
  | _ => ("java/lang/String", "COMPACT_STRINGS", "Z")
def ab_stv (a : Nat) : Value := if a = 4 then .int 1 else if a = 3 then .retAddr 0 else .ref a
def ab_sc : List (Nat × String) := [(92, "plain"), (98, "flint"), (100, "slate"), (102, "soap"), (107, "man"), (116, "oven"), (121, "wind"), (126, "price"), (131, "debt")]
def ab_isN (w : Cond) : Bool := match w with
  | .methodLinkNest _ _ _ _ => true
  | _ => false
/-- the class of the arrays of int arrays -/
def ab_AR (U : State) : Prop := ∃ (comp c : ClassId) (k : Class), U.vm.findClass "[I" = some comp ∧ U.vm.classes[c]? = some k ∧ k.kind = .array comp (.array .int) ∧ U.vm.findClass "[[I" = some c
theorem ab_AR.moved {u U : State} (hvm : u.vm.Alike U.vm) (h : ab_AR u) : ab_AR U := by
  obtain ⟨comp, c, k, h1, h2, h3, h4⟩ := h
  obtain ⟨k', hk', he⟩ := hvm.2.2 _ _ h2
  exact ⟨comp, c, k', by rw [hvm.findClass]; exact h1, hk', by rw [he]; exact h3, by rw [hvm.findClass]; exact h4⟩
theorem ab_AR.of {A : Array Value} {U : State} (h : (Cond.arrayOver (.array .int)).before A U = true) : ab_AR U := by
  simp only [Cond.before, Cond.holds, Cond.value, beq_iff_eq] at h
  change ((U.vm.findClass "[I").bind _) = some true at h
  obtain ⟨comp, h1, h⟩ := Option.bind_eq_some_iff.mp h
  obtain ⟨c, h2, h⟩ := Option.bind_eq_some_iff.mp h
  obtain ⟨k, h3, h⟩ := Option.map_eq_some_iff.mp h
  obtain ⟨lt, h4, -⟩ := Array.findIdx?_eq_some_iff_getElem.mp h2
  have e : U.vm.classes[c] = k := (Array.getElem?_eq_some_iff.mp h3).2
  rw [e] at h4
  refine ⟨comp, c, k, h1, h3, ?_⟩
  split at h4
  · rename_i co ty hk
    rw [hk] at h
    simp only [Bool.and_eq_true, decide_eq_true_eq] at h
    simp only [beq_iff_eq] at h4
    exact ⟨by rw [hk, h4, h.1], h.2⟩
  · cases h4
/-- what a state must have of what was there before -/
def ab_EF (E : ab_Env) (U : State) (H : Heap) : Prop := va_K E.2.2.1 vwCl [] U ∧ (∀ a, 1 ≤ a → a ≤ 4 → va_Z (ab_sts a).1 (ab_sts a).2.1 (ab_sts a).2.2 (ab_rv E (ab_stv a)) (ab_A E) U H) ∧ (∀ w ∈ lw_tbl, ab_isN w = true → va_Nw w U) ∧ (∀ (i : Nat) (q : Nat × String), ab_sc[i]? = some q → vk_R RX5 q.1 q.2 (E.2.1 (10 + i)) U) ∧ (va_AO RX7 U ∧ va_AO RX3 U ∧ ab_AR U) ∧ E.2.2.2.category = 1
theorem ab_EF.moved {E : ab_Env} {s U : State} {H0 H1 : Heap} (h : ab_EF E s H0) (hW : s.WarmedH U.vm) (hk : ∀ q : Nat, q < H0.size → ¬ ab_A E q → H1[q]? = H0[q]?) : ab_EF E U H1 := by
  obtain ⟨h1, h2, h3, h4, h5, h6⟩ := h
  refine ⟨h1.moved hW.alike, fun a g1 g2 => ((h2 a g1 g2).moved hW.alike).kept hk, fun w hw hn => ?_, fun i q hq => (h4 i q hq).warm hW, ⟨h5.1.moved hW.alike, h5.2.1.moved hW.alike, h5.2.2.moved hW.alike⟩, h6⟩
  have := h3 w hw hn
  cases w <;> first | exact va_Nw.warmM hW this | exact absurd hn (by decide) | cases hn
def ab_wd (pl : Nat) (w : Cond) : Bool := decide (lw_tbl[pl]? = some w) && goodWord w
theorem ab_wd_in {pl : Nat} {w : Cond} (h : ab_wd pl w = true) : w ∈ ab_gt := by
  simp only [ab_wd, Bool.and_eq_true, decide_eq_true_eq] at h
  exact List.mem_filter.mpr ⟨List.mem_of_getElem? h.1, h.2⟩
def ab_fl (ci k : Nat) : String × String × String × Bool := match vwCl[ci]? with
  | some r => r.2.1 k
  | none => ("", "", "", false)
/-- does the printed instruction stand for that of the code -/
def ab_chk1 (own : String) (ml : Nat) (ini : Bool) (pc : Nat) (raw : Instr) (len : Nat) (ins : Instr) (pl : Nat) : Bool := match ins with
  | .iconst v => (match raw with
    | .iconst n => decide (len = 1) && decide (n = v)
    | .bipush n => decide (len = 2) && decide ((Int8.ofInt n).toInt32 = Int32.ofInt v)
    | .sipush n => decide (len = 3) && decide ((Int16.ofInt n).toInt32 = Int32.ofInt v)
    | .ldc idx => decide (len = 2) && ab_wd pl (.constant own idx (Int32.ofInt v))
    | .ldc_w idx => decide (len = 3) && ab_wd pl (.constant own idx (Int32.ofInt v))
    | _ => false)
  | .ldc2_w n => (match raw with
    | .lconst k => decide (len = 1) && decide (Int64.ofNat (k : Nat) = Int64.ofNat n)
    | .ldc2_w idx => decide (len = 3) && ab_wd pl (.constantLong own idx (Int64.ofNat n))
    | _ => false)
  | .ldc a => (match raw with
    | .ldc idx => decide (len = 2) && (decide (own = RX5) && (decide (10 ≤ a) && decide ((ab_sc[a - 10]?).map (fun q => q.1) = some idx)))
    | _ => false)
  | .iload i => (match raw with
    | .iload j => decide (len = 2) && decide (j = i)
    | .iload_n j => decide (len = 1) && decide ((j : Nat) = i)
    | _ => false)
  | .lload i => (match raw with
    | .lload j => decide (len = 2) && decide (j = i)
    | .lload_n j => decide (len = 1) && decide ((j : Nat) = i)
    | _ => false)
  | .aload i => (match raw with
    | .aload j => decide (len = 2) && decide (j = i)
    | .aload_n j => decide (len = 1) && decide ((j : Nat) = i)
    | _ => false)
  | .istore i => decide (i < ml) && (match raw with
    | .istore j => decide (len = 2) && decide (j = i)
    | .istore_n j => decide (len = 1) && decide ((j : Nat) = i)
    | _ => false)
  | .lstore i => decide (i + 1 < ml) && (match raw with
    | .lstore j => decide (len = 2) && decide (j = i)
    | .lstore_n j => decide (len = 1) && decide ((j : Nat) = i)
    | _ => false)
  | .astore i => decide (i < ml) && (match raw with
    | .astore j => decide (len = 2) && decide (j = i)
    | .astore_n j => decide (len = 1) && decide ((j : Nat) = i)
    | _ => false)
  | .iinc i n => decide (i < ml) && (decide (raw = .iinc i n) && decide (len = 3))
  | .ifCond cd t => (match raw with
    | .ifCond cd' off => decide (len = 3) && (decide (cd' = cd) && (decide ((pc : Int) + off = t) && decide (0 ≤ t)))
    | _ => false)
  | .if_icmp cd t => (match raw with
    | .if_icmp cd' off => decide (len = 3) && (decide (cd' = cd) && (decide ((pc : Int) + off = t) && decide (0 ≤ t)))
    | _ => false)
  | .goto t => (match raw with
    | .goto off => decide (len = 3) && (decide ((pc : Int) + off = t) && decide (0 ≤ t))
    | _ => false)
  | .tableswitch D lo hi T => (match raw with
    | .tableswitch D' lo' hi' T' => (decide ((pc : Int) + D' = D) && decide (0 ≤ D)) && (decide (lo' = lo ∧ hi' = hi) && (decide (T'.map (fun o => (pc : Int) + o) = T) && T.all (fun t => decide (0 ≤ t))))
    | _ => false)
  | .getstatic a => (match raw with
    | .getstatic idx => decide (len = 3) && (decide (1 ≤ a ∧ a ≤ 4) && ab_wd pl (.fieldLink own idx (ab_sts a).1 (ab_sts a).2.1 (ab_sts a).2.2))
    | _ => false)
  | .getfield n => (match raw with
    | .getfield idx => decide (len = 3) && (if n / 100 = 90 then (if n = 9000 then ab_wd pl (.fieldLink own idx "java/lang/String" "value" "[B") else decide (n = 9001) && ab_wd pl (.fieldLink own idx "java/lang/String" "coder" "B")) else decide (n / 100 < 10) && (decide (n % 100 < ab_nf (n / 100)) && ab_wd pl (.fieldLink own idx (ab_fl (n / 100) (n % 100)).1 (ab_fl (n / 100) (n % 100)).2.1 (ab_fl (n / 100) (n % 100)).2.2.1)))
    | _ => false)
  | .putfield n => (match raw with
    | .putfield idx => decide (len = 3) && (decide (n / 100 < 10) && (decide (n % 100 < ab_nf (n / 100)) && (ab_wd pl (.fieldLink own idx (ab_fl (n / 100) (n % 100)).1 (ab_fl (n / 100) (n % 100)).2.1 (ab_fl (n / 100) (n % 100)).2.2.1) && (!(ab_fl (n / 100) (n % 100)).2.2.2 || (ini && decide ((ab_fl (n / 100) (n % 100)).1 = own))))))
    | _ => false)
  | .new ci => (match raw with
    | .new idx => decide (len = 3) && (decide (ci < 10) && ab_wd pl (.classLink own idx (ab_cn ci)))
    | _ => false)
  | .anewarray ci => (match raw with
    | .anewarray idx => decide (len = 3) && (decide (ci = 7 ∨ ci = 3) && ab_wd pl (.classLink own idx (ab_cn ci)))
    | _ => false)
  | .multianewarray _ _ => (match raw with
    | .multianewarray idx d => decide (len = 4) && (decide (d = 2) && ab_wd pl (.classLink own idx "[[I"))
    | _ => false)
  | .newarray t => decide (raw = .newarray t) && decide (len = 2)
  | .invokespecial q => (match raw with
    | .invokespecial idx => decide (len = 3) && (if q = 9990000 then ab_wd pl (.methodLink own idx objectInit) else (match ab_mt[q / 10000]? with
      | some mi => decide (1 ≤ mi.2.2.2.2.2.1) && (decide (q / 100 % 100 = mi.2.2.2.2.2.1) && ((decide (mi.2.1.name = "<init>") && (decide (mi.2.2.2.2.1 = none) && decide ((parseMethodDescriptor mi.2.1.desc).map (fun d => d.parameters.length) = some (mi.2.2.2.2.2.1 - 1)))) && ab_wd pl (.methodLink own idx mi.2.1)))
      | none => false))
    | _ => false)
  | .invokestatic q => (match raw with
    | .invokestatic idx => decide (len = 3) && (if q = 9980000 then ab_wd pl (.methodLink own idx arraycopyName) else (match ab_mt[q / 10000]? with
      | some mi => (decide (q / 100 % 100 = mi.2.2.2.2.2.1) && decide ((parseMethodDescriptor mi.2.1.desc).map (fun d => d.parameters.length) = some mi.2.2.2.2.2.1)) && (ab_wd pl (.methodLink own idx mi.2.1) || decide (lw_tbl[pl]? = some (.methodLinkNest own idx mi.2.1 "TepidPurse")))
      | none => false))
    | _ => false)
  | .invokevirtual q => (match raw with
    | .invokevirtual idx => decide (len = 3) && (match ab_mt[q / 10000]? with
      | some mi => decide (1 ≤ mi.2.2.2.2.2.1) && (decide (q / 100 % 100 = mi.2.2.2.2.2.1) && (decide (mi.2.1.cls = (if q % 100 = 90 then "java/lang/String" else ab_cn (q % 100))) && (((decide (q % 100 = 90 ∨ q % 100 < 10) && decide (¬ mi.2.1.name = "<init>")) && decide ((parseMethodDescriptor mi.2.1.desc).map (fun d => d.parameters.length) = some (mi.2.2.2.2.2.1 - 1))) && ab_wd pl (.methodLink own idx mi.2.1))))
      | none => false)
    | _ => false)
  | i => decide (raw = i) && decide (len = 1)
def ab_chk (own : String) (ml : Nat) (ini : Bool) (cc : ByteArray) (e : Nat × Instr × Nat × Nat) : Bool := match decode cc e.1 with
  | .ok (raw, len) => decide (e.2.2.1 = e.1 + len) && ab_chk1 own ml ini e.1 raw len e.2.1 e.2.2.2
  | .error _ => false
/-- any realisation of a state of ours comes to Q -/
def ab_W (p : Program) (l : Launch) (e : Env) (R : Room) (s : State) (m : MethodId) (args : Array Value) (below : List Frame) (meth : Method) (c : Code) (Q : State → Prop) (E : ab_Env) (ml : Nat) (S : ab_S) (cells slots : Nat) : Prop := ∀ (H : Heap) (locs : List Loc) (ls : Array Slot), ab_I E s H S.2.2.2 → va_S (ab_A E) s.heap H locs → ab_LR E ml S.2.1 ls → W p l e R s m args below meth c H locs cells slots Q (F0 m S.1 ls (S.2.2.1.map (ab_rv E)))
def ab_N (p : Program) (l : Launch) (e : Env) (R : Room) (s : State) (m : MethodId) (args : Array Value) (below : List Frame) (meth : Method) (c : Code) (Q : State → Prop) (E : ab_Env) (ml : Nat) (S : ab_S) (h : ab_H) (cells slots : Nat) : Prop := ∀ c1 s1 : Nat, c1 = cells + (S.2.2.2.1 - h.1) → s1 = slots + (S.2.2.2.2.1 - h.2.1) → ab_W p l e R s m args below meth c Q E ml S c1 s1
theorem ab_go1_eq {nx : Nat} {L : ab_L} {st : List Value} {h : ab_H} {S : ab_S} (hs : ab_go1 nx L st h = some (.inl S)) : S = (nx, L, st, h) := by
  simp only [ab_go1, Option.some.injEq, Sum.inl.injEq] at hs
  exact hs.symm
section AB6
variable {p : Program} {l : Launch} {e : Env} {R : Room} {s : State} {m : MethodId} {args : Array Value} {below : List Frame} {meth : Method} {c : Code} {Q : State → Prop} {E : ab_Env} {ml : Nat} {cc : ByteArray} {own : String} {cells slots pc len pl : Nat} {L : ab_L} {st : List Value} {h : ab_H} {S : ab_S} {raw : Instr} {ini : Bool}
theorem ab_w_iconst (hx : p.tables.exec = Jvm.exec) (hb : c.code = cc) {v : Int} (hown : s.vm.findClass own = some m.cls) (hts : ∀ w ∈ ab_gt, w.before args s = true) (hd : decode cc pc = .ok (raw, len)) (hc : ab_chk1 own ml ini pc raw len (.iconst v) pl = true) (hs : ab_go1 (pc + len) L (.int (Int32.ofInt v) :: st) h = some (.inl S)) (k : ab_N p l e R s m args below meth c Q E ml S h cells slots) : ab_W p l e R s m args below meth c Q E ml (pc, L, st, h) cells slots := by
  obtain rfl := ab_go1_eq hs
  intro H locs ls hI hS hL
  have kk := k cells slots (by simp) (by simp) H locs ls hI hS hL
  simp only [ab_chk1] at hc
  split at hc
  · simp only [Bool.and_eq_true, decide_eq_true_eq] at hc
    obtain ⟨rfl, rfl⟩ := hc
    exact lv_iconst hx hb hd rfl kk
  · simp only [Bool.and_eq_true, decide_eq_true_eq] at hc
    obtain ⟨rfl, h2⟩ := hc
    exact lv_bipush hx hb hd h2 kk
  · simp only [Bool.and_eq_true, decide_eq_true_eq] at hc
    obtain ⟨rfl, h2⟩ := hc
    exact lv_sipush hx hb hd h2 kk
  · simp only [Bool.and_eq_true, decide_eq_true_eq] at hc
    obtain ⟨rfl, h2⟩ := hc
    exact lv_ldc hx hb hown (hts _ (ab_wd_in h2)) hd kk
  · simp only [Bool.and_eq_true, decide_eq_true_eq] at hc
    obtain ⟨rfl, h2⟩ := hc
    exact lv_ldcw hx hb hown (hts _ (ab_wd_in h2)) hd kk
  · cases hc
theorem ab_w_ldc2 (hx : p.tables.exec = Jvm.exec) (hb : c.code = cc) {n : Nat} (hown : s.vm.findClass own = some m.cls) (hts : ∀ w ∈ ab_gt, w.before args s = true) (hd : decode cc pc = .ok (raw, len)) (hc : ab_chk1 own ml ini pc raw len (.ldc2_w n) pl = true) (hs : ab_go1 (pc + len) L (.long (Int64.ofNat n) :: st) h = some (.inl S)) (k : ab_N p l e R s m args below meth c Q E ml S h cells slots) : ab_W p l e R s m args below meth c Q E ml (pc, L, st, h) cells slots := by
  obtain rfl := ab_go1_eq hs
  intro H locs ls hI hS hL
  have kk := k cells slots (by simp) (by simp) H locs ls hI hS hL
  simp only [ab_chk1] at hc
  split at hc
  · simp only [Bool.and_eq_true, decide_eq_true_eq] at hc
    obtain ⟨rfl, h2⟩ := hc
    exact lv_lconst hx hb hd h2 kk
  · simp only [Bool.and_eq_true, decide_eq_true_eq] at hc
    obtain ⟨rfl, h2⟩ := hc
    exact lv_ldc2 hx hb hown (hts _ (ab_wd_in h2)) hd kk
  · cases hc
theorem ab_w_ldc (hx : p.tables.exec = Jvm.exec) (hb : c.code = cc) {a : Nat} (hown : s.vm.findClass own = some m.cls) (hE : ab_EF E s s.heap) (hd : decode cc pc = .ok (raw, len)) (hc : ab_chk1 own ml ini pc raw len (.ldc a) pl = true) (hs : ab_go1 (pc + len) L (.ref a :: st) h = some (.inl S)) (k : ab_N p l e R s m args below meth c Q E ml S h cells slots) : ab_W p l e R s m args below meth c Q E ml (pc, L, st, h) cells slots := by
  obtain rfl := ab_go1_eq hs
  intro H locs ls hI hS hL
  have kk := k cells slots (by simp) (by simp) H locs ls hI hS hL
  simp only [ab_chk1] at hc
  split at hc
  · simp only [Bool.and_eq_true, decide_eq_true_eq] at hc
    obtain ⟨rfl, rfl, h3, h4⟩ := hc
    rename_i idx
    cases hq : ab_sc[a - 10]? with
    | none => rw [hq] at h4; cases h4
    | some q =>
      rw [hq] at h4
      simp only [Option.map_some, Option.some.injEq] at h4
      subst h4
      have hlt : a - 10 < 9 := (List.getElem?_eq_some_iff.mp hq).1
      have hR := hE.2.2.2.1 _ q hq
      rw [show 10 + (a - 10) = a by omega] at hR
      have e1 : ab_rho E a = E.2.1 a := if_pos (by omega)
      rw [← e1] at hR
      exact va_ldcS hx hb hown hR hd kk
  · cases hc
theorem ab_w_iload (hx : p.tables.exec = Jvm.exec) (hb : c.code = cc) {i : Nat} (hd : decode cc pc = .ok (raw, len)) (hc : ab_chk1 own ml ini pc raw len (.iload i) pl = true) (hs : (match ab_ldL L i with
    | some (.int x) => ab_go1 (pc + len) L (.int x :: st) h
    | _ => none) = some (.inl S)) (k : ab_N p l e R s m args below meth c Q E ml S h cells slots) : ab_W p l e R s m args below meth c Q E ml (pc, L, st, h) cells slots := by
  split at hs
  · rename_i x hv
    obtain rfl := ab_go1_eq hs
    intro H locs ls hI hS hL
    have kk := k cells slots (by simp) (by simp) H locs ls hI hS hL
    have hl := hL.at hv
    simp only [ab_chk1] at hc
    split at hc
    · simp only [Bool.and_eq_true, decide_eq_true_eq] at hc
      obtain ⟨rfl, rfl⟩ := hc
      exact lv_iload hx hb hd hl kk
    · simp only [Bool.and_eq_true, decide_eq_true_eq] at hc
      obtain ⟨rfl, h2⟩ := hc
      exact lv_iload_n hx hb hd h2 hl kk
    · cases hc
  · cases hs
theorem ab_w_lload (hx : p.tables.exec = Jvm.exec) (hb : c.code = cc) {i : Nat} (hd : decode cc pc = .ok (raw, len)) (hc : ab_chk1 own ml ini pc raw len (.lload i) pl = true) (hs : (match ab_ldL L i with
    | some (.long x) => ab_go1 (pc + len) L (.long x :: st) h
    | _ => none) = some (.inl S)) (k : ab_N p l e R s m args below meth c Q E ml S h cells slots) : ab_W p l e R s m args below meth c Q E ml (pc, L, st, h) cells slots := by
  split at hs
  · rename_i x hv
    obtain rfl := ab_go1_eq hs
    intro H locs ls hI hS hL
    have kk := k cells slots (by simp) (by simp) H locs ls hI hS hL
    have hl := hL.at hv
    simp only [ab_chk1] at hc
    split at hc
    · simp only [Bool.and_eq_true, decide_eq_true_eq] at hc
      obtain ⟨rfl, rfl⟩ := hc
      exact lv_lload hx hb hd hl kk
    · simp only [Bool.and_eq_true, decide_eq_true_eq] at hc
      obtain ⟨rfl, h2⟩ := hc
      exact lv_lload_n hx hb hd h2 hl kk
    · cases hc
  · cases hs
theorem ab_w_aload (hx : p.tables.exec = Jvm.exec) (hb : c.code = cc) {i : Nat} (hd : decode cc pc = .ok (raw, len)) (hc : ab_chk1 own ml ini pc raw len (.aload i) pl = true) (hs : (match ab_ldL L i with
    | some (.ref x) => ab_go1 (pc + len) L (.ref x :: st) h
    | _ => none) = some (.inl S)) (k : ab_N p l e R s m args below meth c Q E ml S h cells slots) : ab_W p l e R s m args below meth c Q E ml (pc, L, st, h) cells slots := by
  split at hs
  · rename_i x hv
    obtain rfl := ab_go1_eq hs
    intro H locs ls hI hS hL
    have kk := k cells slots (by simp) (by simp) H locs ls hI hS hL
    have hl := hL.at hv
    simp only [ab_chk1] at hc
    split at hc
    · simp only [Bool.and_eq_true, decide_eq_true_eq] at hc
      obtain ⟨rfl, rfl⟩ := hc
      exact lv_aload hx hb hd hl kk
    · simp only [Bool.and_eq_true, decide_eq_true_eq] at hc
      obtain ⟨rfl, h2⟩ := hc
      exact lv_aload_n hx hb hd h2 hl kk
    · cases hc
  · cases hs
theorem ab_w_istore (hx : p.tables.exec = Jvm.exec) (hb : c.code = cc) {i : Nat} (hf : E.2.2.2.category = 1) (hd : decode cc pc = .ok (raw, len)) (hc : ab_chk1 own ml ini pc raw len (.istore i) pl = true) (hs : (match st with
    | .int x :: r => ab_go1 (pc + len) ((ab_cut L i).set i (some (.int x))) r h
    | _ => none) = some (.inl S)) (k : ab_N p l e R s m args below meth c Q E ml S h cells slots) : ab_W p l e R s m args below meth c Q E ml (pc, L, st, h) cells slots := by
  split at hs
  · rename_i x r
    obtain rfl := ab_go1_eq hs
    intro H locs ls hI hS hL
    have kk := fun ls' (h' : ab_LR E ml ((ab_cut L i).set i (some (.int x))) ls') => k cells slots (by simp) (by simp) H locs ls' hI hS h'
    simp only [ab_chk1, Bool.and_eq_true, decide_eq_true_eq] at hc
    obtain ⟨hi, hc⟩ := hc
    split at hc
    · simp only [Bool.and_eq_true, decide_eq_true_eq] at hc
      obtain ⟨rfl, rfl⟩ := hc
      exact lv_istore hx hb hd hL.has hi rfl (fun ls' h' => kk ls' (ab_LR.of1 (v := .int x) hf hL.1 h'))
    · simp only [Bool.and_eq_true, decide_eq_true_eq] at hc
      obtain ⟨rfl, h2⟩ := hc
      exact lv_istore_n hx hb hd h2 hL.has hi rfl (fun ls' h' => kk ls' (ab_LR.of1 (v := .int x) hf hL.1 h'))
    · cases hc
  · cases hs
theorem ab_w_astore (hx : p.tables.exec = Jvm.exec) (hb : c.code = cc) {i : Nat} (hf : E.2.2.2.category = 1) (hd : decode cc pc = .ok (raw, len)) (hc : ab_chk1 own ml ini pc raw len (.astore i) pl = true) (hs : (match st with
    | .ref x :: r => ab_go1 (pc + len) ((ab_cut L i).set i (some (.ref x))) r h
    | _ => none) = some (.inl S)) (k : ab_N p l e R s m args below meth c Q E ml S h cells slots) : ab_W p l e R s m args below meth c Q E ml (pc, L, st, h) cells slots := by
  split at hs
  · rename_i x r
    obtain rfl := ab_go1_eq hs
    intro H locs ls hI hS hL
    have kk := fun ls' (h' : ab_LR E ml ((ab_cut L i).set i (some (.ref x))) ls') => k cells slots (by simp) (by simp) H locs ls' hI hS h'
    simp only [ab_chk1, Bool.and_eq_true, decide_eq_true_eq] at hc
    obtain ⟨hi, hc⟩ := hc
    split at hc
    · simp only [Bool.and_eq_true, decide_eq_true_eq] at hc
      obtain ⟨rfl, rfl⟩ := hc
      exact lv_astore hx hb hd hL.has hi rfl (fun ls' h' => kk ls' (ab_LR.of1 (v := .ref x) hf hL.1 h'))
    · simp only [Bool.and_eq_true, decide_eq_true_eq] at hc
      obtain ⟨rfl, h2⟩ := hc
      exact lv_astore_n hx hb hd h2 hL.has hi rfl (fun ls' h' => kk ls' (ab_LR.of1 (v := .ref x) hf hL.1 h'))
    · cases hc
  · cases hs
theorem ab_w_lstore (hx : p.tables.exec = Jvm.exec) (hb : c.code = cc) {i : Nat} (hf : E.2.2.2.category = 1) (hd : decode cc pc = .ok (raw, len)) (hc : ab_chk1 own ml ini pc raw len (.lstore i) pl = true) (hs : (match st with
    | .long x :: r => ab_go1 (pc + len) (((ab_cut L i).set i (some (.long x))).set (i + 1) none) r h
    | _ => none) = some (.inl S)) (k : ab_N p l e R s m args below meth c Q E ml S h cells slots) : ab_W p l e R s m args below meth c Q E ml (pc, L, st, h) cells slots := by
  split at hs
  · rename_i x r
    obtain rfl := ab_go1_eq hs
    intro H locs ls hI hS hL
    have kk := fun ls' (h' : ab_LR E ml (((ab_cut L i).set i (some (.long x))).set (i + 1) none) ls') => k cells slots (by simp) (by simp) H locs ls' hI hS h'
    simp only [ab_chk1, Bool.and_eq_true, decide_eq_true_eq] at hc
    obtain ⟨hi, hc⟩ := hc
    split at hc
    · simp only [Bool.and_eq_true, decide_eq_true_eq] at hc
      obtain ⟨rfl, rfl⟩ := hc
      exact lv_lstore hx hb hd hL.has hi rfl (fun ls' h' => kk ls' (ab_LR.of2 (v := .long x) hf hL.1 h'))
    · simp only [Bool.and_eq_true, decide_eq_true_eq] at hc
      obtain ⟨rfl, h2⟩ := hc
      exact lv_lstore_n hx hb hd h2 hL.has hi rfl (fun ls' h' => kk ls' (ab_LR.of2 (v := .long x) hf hL.1 h'))
    · cases hc
  · cases hs
theorem ab_w_iinc (hx : p.tables.exec = Jvm.exec) (hb : c.code = cc) {i : Nat} {n : Int} (hf : E.2.2.2.category = 1) (hd : decode cc pc = .ok (raw, len)) (hc : ab_chk1 own ml ini pc raw len (.iinc i n) pl = true) (hs : (match ab_ldL L i with
    | some (.int x) => ab_go1 (pc + len) ((ab_cut L i).set i (some (.int (x + Int32.ofInt n)))) st h
    | _ => none) = some (.inl S)) (k : ab_N p l e R s m args below meth c Q E ml S h cells slots) : ab_W p l e R s m args below meth c Q E ml (pc, L, st, h) cells slots := by
  split at hs
  · rename_i x hv
    obtain rfl := ab_go1_eq hs
    intro H locs ls hI hS hL
    simp only [ab_chk1, Bool.and_eq_true, decide_eq_true_eq] at hc
    obtain ⟨hi, rfl, rfl⟩ := hc
    have hm : (i, ab_rv E (.int x)) ∈ ab_asc E L := by
      unfold ab_ldL at hv
      split at hv
      · rename_i w hw
        cases hv
        exact ab_asc_mem.mpr ⟨_, hw, rfl⟩
      · cases hv
    obtain ⟨k9, hk9⟩ := List.getElem?_of_mem hm
    exact lv_iinc hx hb hd hL.has hk9 rfl hi rfl (fun ls' h' => k cells slots (by simp) (by simp) H locs ls' hI hS (ab_LR.of1 (v := .int (x + Int32.ofInt n)) hf hL.1 h'))
  · cases hs
theorem ab_w_iadd (hx : p.tables.exec = Jvm.exec) (hb : c.code = cc)  (hd : decode cc pc = .ok (raw, len)) (hc : ab_chk1 own ml ini pc raw len .iadd pl = true) (hs : ab_ib (fun x y => x + y) (pc + len) L st h = some (.inl S)) (k : ab_N p l e R s m args below meth c Q E ml S h cells slots) : ab_W p l e R s m args below meth c Q E ml (pc, L, st, h) cells slots := by
  simp only [ab_chk1, Bool.and_eq_true, decide_eq_true_eq] at hc
  obtain ⟨rfl, rfl⟩ := hc
  unfold ab_ib at hs
  split at hs
  · rename_i y x r
    obtain rfl := ab_go1_eq hs
    intro H locs ls hI hS hL
    exact lv_iadd hx hb hd (k cells slots (by simp) (by simp) H locs ls hI hS hL)
  · cases hs
theorem ab_w_isub (hx : p.tables.exec = Jvm.exec) (hb : c.code = cc)  (hd : decode cc pc = .ok (raw, len)) (hc : ab_chk1 own ml ini pc raw len .isub pl = true) (hs : ab_ib (fun x y => x - y) (pc + len) L st h = some (.inl S)) (k : ab_N p l e R s m args below meth c Q E ml S h cells slots) : ab_W p l e R s m args below meth c Q E ml (pc, L, st, h) cells slots := by
  simp only [ab_chk1, Bool.and_eq_true, decide_eq_true_eq] at hc
  obtain ⟨rfl, rfl⟩ := hc
  unfold ab_ib at hs
  split at hs
  · rename_i y x r
    obtain rfl := ab_go1_eq hs
    intro H locs ls hI hS hL
    exact lv_isub hx hb hd (k cells slots (by simp) (by simp) H locs ls hI hS hL)
  · cases hs
theorem ab_w_imul (hx : p.tables.exec = Jvm.exec) (hb : c.code = cc)  (hd : decode cc pc = .ok (raw, len)) (hc : ab_chk1 own ml ini pc raw len .imul pl = true) (hs : ab_ib (fun x y => x * y) (pc + len) L st h = some (.inl S)) (k : ab_N p l e R s m args below meth c Q E ml S h cells slots) : ab_W p l e R s m args below meth c Q E ml (pc, L, st, h) cells slots := by
  simp only [ab_chk1, Bool.and_eq_true, decide_eq_true_eq] at hc
  obtain ⟨rfl, rfl⟩ := hc
  unfold ab_ib at hs
  split at hs
  · rename_i y x r
    obtain rfl := ab_go1_eq hs
    intro H locs ls hI hS hL
    exact lv_imul hx hb hd (k cells slots (by simp) (by simp) H locs ls hI hS hL)
  · cases hs
theorem ab_w_iand (hx : p.tables.exec = Jvm.exec) (hb : c.code = cc)  (hd : decode cc pc = .ok (raw, len)) (hc : ab_chk1 own ml ini pc raw len .iand pl = true) (hs : ab_ib (fun x y => x &&& y) (pc + len) L st h = some (.inl S)) (k : ab_N p l e R s m args below meth c Q E ml S h cells slots) : ab_W p l e R s m args below meth c Q E ml (pc, L, st, h) cells slots := by
  simp only [ab_chk1, Bool.and_eq_true, decide_eq_true_eq] at hc
  obtain ⟨rfl, rfl⟩ := hc
  unfold ab_ib at hs
  split at hs
  · rename_i y x r
    obtain rfl := ab_go1_eq hs
    intro H locs ls hI hS hL
    exact lv_iand hx hb hd (k cells slots (by simp) (by simp) H locs ls hI hS hL)
  · cases hs
theorem ab_w_ior (hx : p.tables.exec = Jvm.exec) (hb : c.code = cc)  (hd : decode cc pc = .ok (raw, len)) (hc : ab_chk1 own ml ini pc raw len .ior pl = true) (hs : ab_ib (fun x y => x ||| y) (pc + len) L st h = some (.inl S)) (k : ab_N p l e R s m args below meth c Q E ml S h cells slots) : ab_W p l e R s m args below meth c Q E ml (pc, L, st, h) cells slots := by
  simp only [ab_chk1, Bool.and_eq_true, decide_eq_true_eq] at hc
  obtain ⟨rfl, rfl⟩ := hc
  unfold ab_ib at hs
  split at hs
  · rename_i y x r
    obtain rfl := ab_go1_eq hs
    intro H locs ls hI hS hL
    exact lv_ior hx hb hd (k cells slots (by simp) (by simp) H locs ls hI hS hL)
  · cases hs
theorem ab_w_ixor (hx : p.tables.exec = Jvm.exec) (hb : c.code = cc)  (hd : decode cc pc = .ok (raw, len)) (hc : ab_chk1 own ml ini pc raw len .ixor pl = true) (hs : ab_ib (fun x y => x ^^^ y) (pc + len) L st h = some (.inl S)) (k : ab_N p l e R s m args below meth c Q E ml S h cells slots) : ab_W p l e R s m args below meth c Q E ml (pc, L, st, h) cells slots := by
  simp only [ab_chk1, Bool.and_eq_true, decide_eq_true_eq] at hc
  obtain ⟨rfl, rfl⟩ := hc
  unfold ab_ib at hs
  split at hs
  · rename_i y x r
    obtain rfl := ab_go1_eq hs
    intro H locs ls hI hS hL
    exact lv_ixor hx hb hd (k cells slots (by simp) (by simp) H locs ls hI hS hL)
  · cases hs
theorem ab_w_ishl (hx : p.tables.exec = Jvm.exec) (hb : c.code = cc)  (hd : decode cc pc = .ok (raw, len)) (hc : ab_chk1 own ml ini pc raw len .ishl pl = true) (hs : ab_ib (fun x y => x <<< (y &&& 31)) (pc + len) L st h = some (.inl S)) (k : ab_N p l e R s m args below meth c Q E ml S h cells slots) : ab_W p l e R s m args below meth c Q E ml (pc, L, st, h) cells slots := by
  simp only [ab_chk1, Bool.and_eq_true, decide_eq_true_eq] at hc
  obtain ⟨rfl, rfl⟩ := hc
  unfold ab_ib at hs
  split at hs
  · rename_i y x r
    obtain rfl := ab_go1_eq hs
    intro H locs ls hI hS hL
    exact lv_ishl hx hb hd (k cells slots (by simp) (by simp) H locs ls hI hS hL)
  · cases hs
theorem ab_w_ishr (hx : p.tables.exec = Jvm.exec) (hb : c.code = cc)  (hd : decode cc pc = .ok (raw, len)) (hc : ab_chk1 own ml ini pc raw len .ishr pl = true) (hs : ab_ib (fun x y => x >>> (y &&& 31)) (pc + len) L st h = some (.inl S)) (k : ab_N p l e R s m args below meth c Q E ml S h cells slots) : ab_W p l e R s m args below meth c Q E ml (pc, L, st, h) cells slots := by
  simp only [ab_chk1, Bool.and_eq_true, decide_eq_true_eq] at hc
  obtain ⟨rfl, rfl⟩ := hc
  unfold ab_ib at hs
  split at hs
  · rename_i y x r
    obtain rfl := ab_go1_eq hs
    intro H locs ls hI hS hL
    exact lv_ishr hx hb hd (k cells slots (by simp) (by simp) H locs ls hI hS hL)
  · cases hs
theorem ab_w_iushr (hx : p.tables.exec = Jvm.exec) (hb : c.code = cc)  (hd : decode cc pc = .ok (raw, len)) (hc : ab_chk1 own ml ini pc raw len .iushr pl = true) (hs : ab_ib (fun x y => (x.toUInt32 >>> (y.toUInt32 &&& Int32.toUInt32 31)).toInt32) (pc + len) L st h = some (.inl S)) (k : ab_N p l e R s m args below meth c Q E ml S h cells slots) : ab_W p l e R s m args below meth c Q E ml (pc, L, st, h) cells slots := by
  simp only [ab_chk1, Bool.and_eq_true, decide_eq_true_eq] at hc
  obtain ⟨rfl, rfl⟩ := hc
  unfold ab_ib at hs
  split at hs
  · rename_i y x r
    obtain rfl := ab_go1_eq hs
    intro H locs ls hI hS hL
    exact lv_iushr hx hb hd rfl (k cells slots (by simp) (by simp) H locs ls hI hS hL)
  · cases hs
theorem ab_w_ladd (hx : p.tables.exec = Jvm.exec) (hb : c.code = cc)  (hd : decode cc pc = .ok (raw, len)) (hc : ab_chk1 own ml ini pc raw len .ladd pl = true) (hs : ab_lb (fun x y => x + y) (pc + len) L st h = some (.inl S)) (k : ab_N p l e R s m args below meth c Q E ml S h cells slots) : ab_W p l e R s m args below meth c Q E ml (pc, L, st, h) cells slots := by
  simp only [ab_chk1, Bool.and_eq_true, decide_eq_true_eq] at hc
  obtain ⟨rfl, rfl⟩ := hc
  unfold ab_lb at hs
  split at hs
  · rename_i y x r
    obtain rfl := ab_go1_eq hs
    intro H locs ls hI hS hL
    exact lv_ladd hx hb hd (k cells slots (by simp) (by simp) H locs ls hI hS hL)
  · cases hs
theorem ab_w_lsub (hx : p.tables.exec = Jvm.exec) (hb : c.code = cc)  (hd : decode cc pc = .ok (raw, len)) (hc : ab_chk1 own ml ini pc raw len .lsub pl = true) (hs : ab_lb (fun x y => x - y) (pc + len) L st h = some (.inl S)) (k : ab_N p l e R s m args below meth c Q E ml S h cells slots) : ab_W p l e R s m args below meth c Q E ml (pc, L, st, h) cells slots := by
  simp only [ab_chk1, Bool.and_eq_true, decide_eq_true_eq] at hc
  obtain ⟨rfl, rfl⟩ := hc
  unfold ab_lb at hs
  split at hs
  · rename_i y x r
    obtain rfl := ab_go1_eq hs
    intro H locs ls hI hS hL
    exact lv_lsub hx hb hd (k cells slots (by simp) (by simp) H locs ls hI hS hL)
  · cases hs
theorem ab_w_lmul (hx : p.tables.exec = Jvm.exec) (hb : c.code = cc)  (hd : decode cc pc = .ok (raw, len)) (hc : ab_chk1 own ml ini pc raw len .lmul pl = true) (hs : ab_lb (fun x y => x * y) (pc + len) L st h = some (.inl S)) (k : ab_N p l e R s m args below meth c Q E ml S h cells slots) : ab_W p l e R s m args below meth c Q E ml (pc, L, st, h) cells slots := by
  simp only [ab_chk1, Bool.and_eq_true, decide_eq_true_eq] at hc
  obtain ⟨rfl, rfl⟩ := hc
  unfold ab_lb at hs
  split at hs
  · rename_i y x r
    obtain rfl := ab_go1_eq hs
    intro H locs ls hI hS hL
    exact lv_lmul hx hb hd (k cells slots (by simp) (by simp) H locs ls hI hS hL)
  · cases hs
theorem ab_w_ineg (hx : p.tables.exec = Jvm.exec) (hb : c.code = cc)  (hd : decode cc pc = .ok (raw, len)) (hc : ab_chk1 own ml ini pc raw len .ineg pl = true) (hs : ab_iu (fun x => -x) (pc + len) L st h = some (.inl S)) (k : ab_N p l e R s m args below meth c Q E ml S h cells slots) : ab_W p l e R s m args below meth c Q E ml (pc, L, st, h) cells slots := by
  simp only [ab_chk1, Bool.and_eq_true, decide_eq_true_eq] at hc
  obtain ⟨rfl, rfl⟩ := hc
  unfold ab_iu at hs
  split at hs
  · rename_i x r
    obtain rfl := ab_go1_eq hs
    intro H locs ls hI hS hL
    exact lv_ineg hx hb hd (k cells slots (by simp) (by simp) H locs ls hI hS hL)
  · cases hs
theorem ab_w_i2b (hx : p.tables.exec = Jvm.exec) (hb : c.code = cc)  (hd : decode cc pc = .ok (raw, len)) (hc : ab_chk1 own ml ini pc raw len .i2b pl = true) (hs : ab_iu (fun x => x.toInt8.toInt32) (pc + len) L st h = some (.inl S)) (k : ab_N p l e R s m args below meth c Q E ml S h cells slots) : ab_W p l e R s m args below meth c Q E ml (pc, L, st, h) cells slots := by
  simp only [ab_chk1, Bool.and_eq_true, decide_eq_true_eq] at hc
  obtain ⟨rfl, rfl⟩ := hc
  unfold ab_iu at hs
  split at hs
  · rename_i x r
    obtain rfl := ab_go1_eq hs
    intro H locs ls hI hS hL
    exact lv_i2b hx hb hd rfl (k cells slots (by simp) (by simp) H locs ls hI hS hL)
  · cases hs
theorem ab_w_i2s (hx : p.tables.exec = Jvm.exec) (hb : c.code = cc)  (hd : decode cc pc = .ok (raw, len)) (hc : ab_chk1 own ml ini pc raw len .i2s pl = true) (hs : ab_iu (fun x => x.toInt16.toInt32) (pc + len) L st h = some (.inl S)) (k : ab_N p l e R s m args below meth c Q E ml S h cells slots) : ab_W p l e R s m args below meth c Q E ml (pc, L, st, h) cells slots := by
  simp only [ab_chk1, Bool.and_eq_true, decide_eq_true_eq] at hc
  obtain ⟨rfl, rfl⟩ := hc
  unfold ab_iu at hs
  split at hs
  · rename_i x r
    obtain rfl := ab_go1_eq hs
    intro H locs ls hI hS hL
    exact lv_i2s hx hb hd rfl (k cells slots (by simp) (by simp) H locs ls hI hS hL)
  · cases hs
theorem ab_w_i2c (hx : p.tables.exec = Jvm.exec) (hb : c.code = cc)  (hd : decode cc pc = .ok (raw, len)) (hc : ab_chk1 own ml ini pc raw len .i2c pl = true) (hs : ab_iu (fun x => x.toUInt32.toUInt16.toUInt32.toInt32) (pc + len) L st h = some (.inl S)) (k : ab_N p l e R s m args below meth c Q E ml S h cells slots) : ab_W p l e R s m args below meth c Q E ml (pc, L, st, h) cells slots := by
  simp only [ab_chk1, Bool.and_eq_true, decide_eq_true_eq] at hc
  obtain ⟨rfl, rfl⟩ := hc
  unfold ab_iu at hs
  split at hs
  · rename_i x r
    obtain rfl := ab_go1_eq hs
    intro H locs ls hI hS hL
    exact lv_i2c hx hb hd rfl (k cells slots (by simp) (by simp) H locs ls hI hS hL)
  · cases hs
theorem ab_w_idiv (hx : p.tables.exec = Jvm.exec) (hb : c.code = cc)  (hd : decode cc pc = .ok (raw, len)) (hc : ab_chk1 own ml ini pc raw len .idiv pl = true) (hs : (match st with
    | .int y :: .int x :: r => if y = 0 then none else ab_go1 (pc + len) L (.int (x / y) :: r) h
    | _ => none) = some (.inl S)) (k : ab_N p l e R s m args below meth c Q E ml S h cells slots) : ab_W p l e R s m args below meth c Q E ml (pc, L, st, h) cells slots := by
  simp only [ab_chk1, Bool.and_eq_true, decide_eq_true_eq] at hc
  obtain ⟨rfl, rfl⟩ := hc
  split at hs
  · rename_i y x r
    split at hs
    · cases hs
    · rename_i hne
      obtain rfl := ab_go1_eq hs
      intro H locs ls hI hS hL
      exact lv_idiv hx hb hd hne (k cells slots (by simp) (by simp) H locs ls hI hS hL)
  · cases hs
theorem ab_w_irem (hx : p.tables.exec = Jvm.exec) (hb : c.code = cc)  (hd : decode cc pc = .ok (raw, len)) (hc : ab_chk1 own ml ini pc raw len .irem pl = true) (hs : (match st with
    | .int y :: .int x :: r => if y = 0 then none else ab_go1 (pc + len) L (.int (x - x / y * y) :: r) h
    | _ => none) = some (.inl S)) (k : ab_N p l e R s m args below meth c Q E ml S h cells slots) : ab_W p l e R s m args below meth c Q E ml (pc, L, st, h) cells slots := by
  simp only [ab_chk1, Bool.and_eq_true, decide_eq_true_eq] at hc
  obtain ⟨rfl, rfl⟩ := hc
  split at hs
  · rename_i y x r
    split at hs
    · cases hs
    · rename_i hne
      obtain rfl := ab_go1_eq hs
      intro H locs ls hI hS hL
      exact lv_irem hx hb hd hne (k cells slots (by simp) (by simp) H locs ls hI hS hL)
  · cases hs
theorem ab_w_ldiv (hx : p.tables.exec = Jvm.exec) (hb : c.code = cc)  (hd : decode cc pc = .ok (raw, len)) (hc : ab_chk1 own ml ini pc raw len .ldiv pl = true) (hs : (match st with
    | .long y :: .long x :: r => if y = 0 then none else ab_go1 (pc + len) L (.long (x / y) :: r) h
    | _ => none) = some (.inl S)) (k : ab_N p l e R s m args below meth c Q E ml S h cells slots) : ab_W p l e R s m args below meth c Q E ml (pc, L, st, h) cells slots := by
  simp only [ab_chk1, Bool.and_eq_true, decide_eq_true_eq] at hc
  obtain ⟨rfl, rfl⟩ := hc
  split at hs
  · rename_i y x r
    split at hs
    · cases hs
    · rename_i hne
      obtain rfl := ab_go1_eq hs
      intro H locs ls hI hS hL
      exact lv_ldiv hx hb hd hne (k cells slots (by simp) (by simp) H locs ls hI hS hL)
  · cases hs
theorem ab_w_lrem (hx : p.tables.exec = Jvm.exec) (hb : c.code = cc)  (hd : decode cc pc = .ok (raw, len)) (hc : ab_chk1 own ml ini pc raw len .lrem pl = true) (hs : (match st with
    | .long y :: .long x :: r => if y = 0 then none else ab_go1 (pc + len) L (.long (x - x / y * y) :: r) h
    | _ => none) = some (.inl S)) (k : ab_N p l e R s m args below meth c Q E ml S h cells slots) : ab_W p l e R s m args below meth c Q E ml (pc, L, st, h) cells slots := by
  simp only [ab_chk1, Bool.and_eq_true, decide_eq_true_eq] at hc
  obtain ⟨rfl, rfl⟩ := hc
  split at hs
  · rename_i y x r
    split at hs
    · cases hs
    · rename_i hne
      obtain rfl := ab_go1_eq hs
      intro H locs ls hI hS hL
      exact lv_lrem hx hb hd hne (k cells slots (by simp) (by simp) H locs ls hI hS hL)
  · cases hs
theorem ab_w_i2l (hx : p.tables.exec = Jvm.exec) (hb : c.code = cc)  (hd : decode cc pc = .ok (raw, len)) (hc : ab_chk1 own ml ini pc raw len .i2l pl = true) (hs : (match st with
    | .int x :: r => ab_go1 (pc + len) L (.long x.toInt64 :: r) h
    | _ => none) = some (.inl S)) (k : ab_N p l e R s m args below meth c Q E ml S h cells slots) : ab_W p l e R s m args below meth c Q E ml (pc, L, st, h) cells slots := by
  simp only [ab_chk1, Bool.and_eq_true, decide_eq_true_eq] at hc
  obtain ⟨rfl, rfl⟩ := hc
  split at hs
  · rename_i x r
    obtain rfl := ab_go1_eq hs
    intro H locs ls hI hS hL
    exact lv_i2l hx hb hd rfl (k cells slots (by simp) (by simp) H locs ls hI hS hL)
  · cases hs
theorem ab_w_l2i (hx : p.tables.exec = Jvm.exec) (hb : c.code = cc)  (hd : decode cc pc = .ok (raw, len)) (hc : ab_chk1 own ml ini pc raw len .l2i pl = true) (hs : (match st with
    | .long x :: r => ab_go1 (pc + len) L (.int x.toInt32 :: r) h
    | _ => none) = some (.inl S)) (k : ab_N p l e R s m args below meth c Q E ml S h cells slots) : ab_W p l e R s m args below meth c Q E ml (pc, L, st, h) cells slots := by
  simp only [ab_chk1, Bool.and_eq_true, decide_eq_true_eq] at hc
  obtain ⟨rfl, rfl⟩ := hc
  split at hs
  · rename_i x r
    obtain rfl := ab_go1_eq hs
    intro H locs ls hI hS hL
    exact lv_l2i hx hb hd rfl (k cells slots (by simp) (by simp) H locs ls hI hS hL)
  · cases hs
theorem ab_w_lcmp (hx : p.tables.exec = Jvm.exec) (hb : c.code = cc)  (hd : decode cc pc = .ok (raw, len)) (hc : ab_chk1 own ml ini pc raw len .lcmp pl = true) (hs : (match st with
    | .long y :: .long x :: r => ab_go1 (pc + len) L (.int (lg_cmp x y) :: r) h
    | _ => none) = some (.inl S)) (k : ab_N p l e R s m args below meth c Q E ml S h cells slots) : ab_W p l e R s m args below meth c Q E ml (pc, L, st, h) cells slots := by
  simp only [ab_chk1, Bool.and_eq_true, decide_eq_true_eq] at hc
  obtain ⟨rfl, rfl⟩ := hc
  split at hs
  · rename_i y x r
    obtain rfl := ab_go1_eq hs
    intro H locs ls hI hS hL
    exact W.lcmp hx hb hd (k cells slots (by simp) (by simp) H locs ls hI hS hL)
  · cases hs
theorem ab_w_dup (hx : p.tables.exec = Jvm.exec) (hb : c.code = cc) (hf : E.2.2.2.category = 1) (hd : decode cc pc = .ok (raw, len)) (hc : ab_chk1 own ml ini pc raw len .dup pl = true) (hs : (match st with
    | v :: r => if v.category = 1 then ab_go1 (pc + len) L (v :: v :: r) h else none
    | _ => none) = some (.inl S)) (k : ab_N p l e R s m args below meth c Q E ml S h cells slots) : ab_W p l e R s m args below meth c Q E ml (pc, L, st, h) cells slots := by
  simp only [ab_chk1, Bool.and_eq_true, decide_eq_true_eq] at hc
  obtain ⟨rfl, rfl⟩ := hc
  split at hs
  · rename_i v r
    split at hs
    · rename_i hv
      obtain rfl := ab_go1_eq hs
      intro H locs ls hI hS hL
      exact lv_dup hx hb hd (by rw [ab_rv_cat E v hf]; exact hv) (k cells slots (by simp) (by simp) H locs ls hI hS hL)
    · cases hs
  · cases hs
theorem ab_w_dup2 (hx : p.tables.exec = Jvm.exec) (hb : c.code = cc) (hf : E.2.2.2.category = 1) (hd : decode cc pc = .ok (raw, len)) (hc : ab_chk1 own ml ini pc raw len .dup2 pl = true) (hs : (match st with
    | v :: w :: r => if v.category = 1 ∧ w.category = 1 then ab_go1 (pc + len) L (v :: w :: v :: w :: r) h else none
    | _ => none) = some (.inl S)) (k : ab_N p l e R s m args below meth c Q E ml S h cells slots) : ab_W p l e R s m args below meth c Q E ml (pc, L, st, h) cells slots := by
  simp only [ab_chk1, Bool.and_eq_true, decide_eq_true_eq] at hc
  obtain ⟨rfl, rfl⟩ := hc
  split at hs
  · rename_i v w r
    split at hs
    · rename_i hv
      obtain rfl := ab_go1_eq hs
      intro H locs ls hI hS hL
      exact lv_dup2_11 hx hb hd (by rw [ab_rv_cat E v hf]; exact hv.1) (by rw [ab_rv_cat E w hf]; exact hv.2) (k cells slots (by simp) (by simp) H locs ls hI hS hL)
    · cases hs
  · cases hs
theorem ab_w_pop (hx : p.tables.exec = Jvm.exec) (hb : c.code = cc) (hf : E.2.2.2.category = 1) (hd : decode cc pc = .ok (raw, len)) (hc : ab_chk1 own ml ini pc raw len .pop pl = true) (hs : (match st with
    | v :: r => if v.category = 1 then ab_go1 (pc + len) L r h else none
    | _ => none) = some (.inl S)) (k : ab_N p l e R s m args below meth c Q E ml S h cells slots) : ab_W p l e R s m args below meth c Q E ml (pc, L, st, h) cells slots := by
  simp only [ab_chk1, Bool.and_eq_true, decide_eq_true_eq] at hc
  obtain ⟨rfl, rfl⟩ := hc
  split at hs
  · rename_i v r
    split at hs
    · rename_i hv
      obtain rfl := ab_go1_eq hs
      intro H locs ls hI hS hL
      exact lv_pop hx hb hd (by rw [ab_rv_cat E v hf]; exact hv) (k cells slots (by simp) (by simp) H locs ls hI hS hL)
    · cases hs
  · cases hs
theorem ab_w_ifc (hx : p.tables.exec = Jvm.exec) (hb : c.code = cc) {cd : Jvm.ClassFile.Cond} {t : Int} (hd : decode cc pc = .ok (raw, len)) (hc : ab_chk1 own ml ini pc raw len (.ifCond cd t) pl = true) (hs : (match st with
    | .int x :: r => ab_go1 (if ab_c2 cd x 0 then t.toNat else pc + len) L r h
    | _ => none) = some (.inl S)) (k : ab_N p l e R s m args below meth c Q E ml S h cells slots) : ab_W p l e R s m args below meth c Q E ml (pc, L, st, h) cells slots := by
  split at hs
  · rename_i x r
    obtain rfl := ab_go1_eq hs
    intro H locs ls hI hS hL
    have kk := k cells slots (by simp) (by simp) H locs ls hI hS hL
    simp only [ab_chk1] at hc
    split at hc
    · simp only [Bool.and_eq_true, decide_eq_true_eq] at hc
      obtain ⟨rfl, rfl, h3, h4⟩ := hc
      rename_i cd off
      have ht : (pc : Int) + off = ((t.toNat : Nat) : Int) := by omega
      cases cd
      · exact lv_if_eq hx hb hd ht (fun hq => by simpa only [ab_c2, hq, decide_true, decide_false, not_true_eq_false, not_false_eq_true, if_true, if_false, Bool.false_eq_true] using kk) (fun hq => by simpa only [ab_c2, hq, decide_true, decide_false, not_true_eq_false, not_false_eq_true, if_true, if_false, Bool.false_eq_true] using kk)
      · exact lv_if_ne hx hb hd ht (fun hq => by simpa only [ab_c2, hq, decide_true, decide_false, not_true_eq_false, not_false_eq_true, if_true, if_false, Bool.false_eq_true] using kk) (fun hq => by simpa only [ab_c2, hq, decide_true, decide_false, not_true_eq_false, not_false_eq_true, if_true, if_false, Bool.false_eq_true] using kk)
      · exact lv_if_lt hx hb hd ht (fun hq => by simpa only [ab_c2, hq, decide_true, decide_false, not_true_eq_false, not_false_eq_true, if_true, if_false, Bool.false_eq_true] using kk) (fun hq => by simpa only [ab_c2, hq, decide_true, decide_false, not_true_eq_false, not_false_eq_true, if_true, if_false, Bool.false_eq_true] using kk)
      · exact lv_if_ge hx hb hd ht (fun hq => by simpa only [ab_c2, hq, decide_true, decide_false, not_true_eq_false, not_false_eq_true, if_true, if_false, Bool.false_eq_true] using kk) (fun hq => by simpa only [ab_c2, hq, decide_true, decide_false, not_true_eq_false, not_false_eq_true, if_true, if_false, Bool.false_eq_true] using kk)
      · exact lv_if_gt hx hb hd ht (fun hq => by simpa only [ab_c2, hq, decide_true, decide_false, not_true_eq_false, not_false_eq_true, if_true, if_false, Bool.false_eq_true] using kk) (fun hq => by simpa only [ab_c2, hq, decide_true, decide_false, not_true_eq_false, not_false_eq_true, if_true, if_false, Bool.false_eq_true] using kk)
      · exact lv_if_le hx hb hd ht (fun hq => by simpa only [ab_c2, hq, decide_true, decide_false, not_true_eq_false, not_false_eq_true, if_true, if_false, Bool.false_eq_true] using kk) (fun hq => by simpa only [ab_c2, hq, decide_true, decide_false, not_true_eq_false, not_false_eq_true, if_true, if_false, Bool.false_eq_true] using kk)
    · cases hc
  · cases hs
theorem ab_w_icmp (hx : p.tables.exec = Jvm.exec) (hb : c.code = cc) {cd : Jvm.ClassFile.Cond} {t : Int} (hd : decode cc pc = .ok (raw, len)) (hc : ab_chk1 own ml ini pc raw len (.if_icmp cd t) pl = true) (hs : (match st with
    | .int y :: .int x :: r => ab_go1 (if ab_c2 cd x y then t.toNat else pc + len) L r h
    | _ => none) = some (.inl S)) (k : ab_N p l e R s m args below meth c Q E ml S h cells slots) : ab_W p l e R s m args below meth c Q E ml (pc, L, st, h) cells slots := by
  split at hs
  · rename_i y x r
    obtain rfl := ab_go1_eq hs
    intro H locs ls hI hS hL
    have kk := k cells slots (by simp) (by simp) H locs ls hI hS hL
    simp only [ab_chk1] at hc
    split at hc
    · simp only [Bool.and_eq_true, decide_eq_true_eq] at hc
      obtain ⟨rfl, rfl, h3, h4⟩ := hc
      rename_i cd off
      have ht : (pc : Int) + off = ((t.toNat : Nat) : Int) := by omega
      cases cd
      · exact lv_icmp_eq hx hb hd ht (fun hq => by simpa only [ab_c2, hq, decide_true, decide_false, not_true_eq_false, not_false_eq_true, if_true, if_false, Bool.false_eq_true] using kk) (fun hq => by simpa only [ab_c2, hq, decide_true, decide_false, not_true_eq_false, not_false_eq_true, if_true, if_false, Bool.false_eq_true] using kk)
      · exact lv_icmp_ne hx hb hd ht (fun hq => by simpa only [ab_c2, hq, decide_true, decide_false, not_true_eq_false, not_false_eq_true, if_true, if_false, Bool.false_eq_true] using kk) (fun hq => by simpa only [ab_c2, hq, decide_true, decide_false, not_true_eq_false, not_false_eq_true, if_true, if_false, Bool.false_eq_true] using kk)
      · exact lv_icmp_lt hx hb hd ht (fun hq => by simpa only [ab_c2, hq, decide_true, decide_false, not_true_eq_false, not_false_eq_true, if_true, if_false, Bool.false_eq_true] using kk) (fun hq => by simpa only [ab_c2, hq, decide_true, decide_false, not_true_eq_false, not_false_eq_true, if_true, if_false, Bool.false_eq_true] using kk)
      · exact lv_icmp_ge hx hb hd ht (fun hq => by simpa only [ab_c2, hq, decide_true, decide_false, not_true_eq_false, not_false_eq_true, if_true, if_false, Bool.false_eq_true] using kk) (fun hq => by simpa only [ab_c2, hq, decide_true, decide_false, not_true_eq_false, not_false_eq_true, if_true, if_false, Bool.false_eq_true] using kk)
      · exact lv_icmp_gt hx hb hd ht (fun hq => by simpa only [ab_c2, hq, decide_true, decide_false, not_true_eq_false, not_false_eq_true, if_true, if_false, Bool.false_eq_true] using kk) (fun hq => by simpa only [ab_c2, hq, decide_true, decide_false, not_true_eq_false, not_false_eq_true, if_true, if_false, Bool.false_eq_true] using kk)
      · exact lv_icmp_le hx hb hd ht (fun hq => by simpa only [ab_c2, hq, decide_true, decide_false, not_true_eq_false, not_false_eq_true, if_true, if_false, Bool.false_eq_true] using kk) (fun hq => by simpa only [ab_c2, hq, decide_true, decide_false, not_true_eq_false, not_false_eq_true, if_true, if_false, Bool.false_eq_true] using kk)
    · cases hc
  · cases hs
theorem ab_w_goto (hx : p.tables.exec = Jvm.exec) (hb : c.code = cc) {t : Int} (hd : decode cc pc = .ok (raw, len)) (hc : ab_chk1 own ml ini pc raw len (.goto t) pl = true) (hs : ab_go1 t.toNat L st h = some (.inl S)) (k : ab_N p l e R s m args below meth c Q E ml S h cells slots) : ab_W p l e R s m args below meth c Q E ml (pc, L, st, h) cells slots := by
  obtain rfl := ab_go1_eq hs
  intro H locs ls hI hS hL
  have kk := k cells slots (by simp) (by simp) H locs ls hI hS hL
  simp only [ab_chk1] at hc
  split at hc
  · simp only [Bool.and_eq_true, decide_eq_true_eq] at hc
    obtain ⟨rfl, h3, h4⟩ := hc
    exact lv_goto hx hb hd (by omega) kk
  · cases hc
theorem ab_w_tsw (hx : p.tables.exec = Jvm.exec) (hb : c.code = cc) {D lo hi : Int} {T : Array Int} (hd : decode cc pc = .ok (raw, len)) (hc : ab_chk1 own ml ini pc raw len (.tableswitch D lo hi T) pl = true) (hs : (match st with
    | .int x :: r => if x.toInt < lo ∨ hi < x.toInt then ab_go1 D.toNat L r h else (match T[(x.toInt - lo).toNat]? with
      | some t => ab_go1 t.toNat L r h
      | none => none)
    | _ => none) = some (.inl S)) (k : ab_N p l e R s m args below meth c Q E ml S h cells slots) : ab_W p l e R s m args below meth c Q E ml (pc, L, st, h) cells slots := by
  split at hs
  · rename_i x r
    simp only [ab_chk1] at hc
    split at hc
    · rename_i D' lo' hi' T'
      simp only [Bool.and_eq_true, decide_eq_true_eq] at hc
      obtain ⟨⟨h1, h2⟩, ⟨rfl, rfl⟩, h5, h6⟩ := hc
      split at hs
      · rename_i hq
        obtain rfl := ab_go1_eq hs
        intro H locs ls hI hS hL
        exact lv_tableOut hx hb hd hq (by omega) (k cells slots (by simp) (by simp) H locs ls hI hS hL)
      · rename_i hq
        split at hs
        · rename_i t ht
          obtain rfl := ab_go1_eq hs
          intro H locs ls hI hS hL
          rw [← h5, Array.getElem?_map] at ht
          cases ho : T'[(x.toInt - lo').toNat]? with
          | none => rw [ho] at ht; cases ht
          | some off =>
            rw [ho] at ht
            simp only [Option.map_some, Option.some.injEq] at ht
            have h7 : 0 ≤ t := by
              have := Array.all_eq_true'.mp h6 t (by rw [← h5]; exact Array.mem_map.mpr ⟨off, Array.mem_of_getElem? ho, ht⟩)
              simpa using this
            exact lv_tableIn hx hb hd (fun q => hq (Or.inl q)) (fun q => hq (Or.inr q)) ho (by omega) (k cells slots (by simp) (by simp) H locs ls hI hS hL)
        · cases hs
    · cases hc
  · cases hs
end AB6
def ab_okm (mi : ab_M) (n : Nat × Nat × Nat × Nat) : Bool := ab_wd n.2.2.2 (.initialized mi.2.1.cls) && ((decide (mi.1 = mi.2.1.cls) && (decide (mi.2.1.cls ≠ "java/lang/invoke/MethodHandle" ∧ mi.2.1.cls ≠ "java/lang/invoke/VarHandle") && plainFor mi.2.1)) && (((ab_wd n.2.1 (.static mi.2.1) && decide ((parseMethodDescriptor mi.2.1.desc).map (fun d => d.parameters.length) = some mi.2.2.2.2.2.1)) || ((ab_wd n.2.1 (.instanceMethod mi.2.1) && (decide (mi.2.1.name = "<init>") || ab_wd n.2.2.1 (.selects mi.2.1.cls mi.2.1 mi.2.1))) && decide (1 ≤ mi.2.2.2.2.2.1 ∧ (parseMethodDescriptor mi.2.1.desc).map (fun d => d.parameters.length) = some (mi.2.2.2.2.2.1 - 1)))) && decide (mi.2.2.2.1 ≤ 30)))
end
section
theorem ab_ok : ∀ (j : Nat) (mi : ab_M), ab_mt[j]? = some mi → (∃ n, ab_okm mi n = true) ∧ Cond.code mi.2.1 mi.2.2.1 mi.2.2.2.1 mi.2.2.2.2.1 ∈ ab_gt := sorry
theorem ab_okc : ∀ (j : Nat) (mi : ab_M), ab_mt[j]? = some mi → mi.2.2.2.2.2.2.all (ab_chk mi.1 mi.2.2.2.1 (decide (mi.2.1.name = "<init>")) mi.2.2.1) = true := sorry
theorem ab_kc_L_law : kL_law.all (ab_chk RL 4 false code) = true := sorry
end
section
/-! the instructions that look at cells, or change them -/
theorem ab_rho_hi {E : ab_Env} {a : Nat} (h : 100 ≤ a) : ab_rho E a = E.1 + (a - 100) := if_neg (by omega)
theorem ab_rho_lo {E : ab_Env} {a : Nat} (h : a < 100) : ab_rho E a = E.2.1 a := if_pos h
theorem ab_P1 {D : va_G} {cl : List vw_C} {q : Nat × va_E} {H : Heap} (h : va_at D cl q H) : va_P D cl [q] H := fun k x hx => by
  have h0 : k < 1 := (List.getElem?_eq_some_iff.mp hx).1
  rw [show k = 0 by omega] at hx
  cases hx
  exact h
theorem ab_K1 {D : va_G} {cl : List vw_C} {s : State} {cA : ClassId} {ty : FieldType} (h : va_K D cl [] s) (h1 : ArrOfT s cA ty) (h2 : va_RA s cA ty) : va_K D cl [(cA, ty)] s := ⟨h.1, fun k x hx => by
  have h0 : k < 1 := (List.getElem?_eq_some_iff.mp hx).1
  rw [show k = 0 by omega] at hx
  cases hx
  exact ⟨h1, h2⟩⟩
theorem ab_in_iff {i : Int32} {n : Nat} (h : ab_in i n = true) : vp_in i n := by
  unfold ab_in at h
  have h' : ¬ (i < 0 ∨ n ≤ i.toNatClampNeg) := of_decide_eq_true h
  exact h'
theorem ab_ob_eq {h : ab_H} {a : Nat} {x : Nat × List Value} (hq : ab_ob h a = some x) : h.2.2 a = some (.inr (.inl x)) := by
  unfold ab_ob at hq
  split at hq
  · rename_i y hy
    cases hq
    exact hy
  · cases hq
theorem ab_wa_eq {h : ab_H} {a : Nat} {x : FieldType × vp_A} (hq : ab_wa h a = some x) : h.2.2 a = some (.inl x) := by
  unfold ab_wa at hq
  split at hq
  · rename_i y hy
    cases hq
    exact hy
  · cases hq
theorem ab_ra_eq {h : ab_H} {a : Nat} {x : FieldType × vp_A} (hq : ab_ra h a = some x) : h.2.2 a = some (.inl x) ∨ h.2.2 a = some (.inr (.inr x)) := by
  unfold ab_ra at hq
  split at hq
  · rename_i y hy
    cases hq
    exact Or.inl hy
  · rename_i y hy
    cases hq
    exact Or.inr hy
  · cases hq
theorem ab_mx_1 (E : ab_Env) (x : vp_A) : (ab_mx E x).1 = x.1 := by
  rcases x with ⟨n, f | f | f | f | f⟩ <;> rfl
theorem ab_rv_df (E : ab_Env) (ty : FieldType) : ab_rv E (defaultValue ty) = defaultValue ty := by
  cases ty <;> rfl
theorem ab_fit_ok {E : ab_Env} {ty : FieldType} {v : Value} (h : ab_fit ty v = true) : narrow ty (ab_rv E v) = ab_rv E v ∧ fits ty (ab_rv E v) = true := by
  unfold ab_fit at h
  split at h
  · exact ⟨rfl, rfl⟩
  · exact ⟨rfl, rfl⟩
  · rename_i x
    have h := of_decide_eq_true h
    rcases h with rfl | rfl
    · exact ⟨rfl, rfl⟩
    · exact ⟨rfl, rfl⟩
  · exact ⟨rfl, rfl⟩
  · exact ⟨rfl, rfl⟩
  · cases h
theorem ab_ugt0 : ∀ w ∈ wsX00, w ∈ ab_gt := by decide +kernel
theorem ab_ugt1 : ∀ w ∈ wsX10, w ∈ ab_gt := by decide +kernel
theorem ab_ugt2 : ∀ w ∈ wsX20, w ∈ ab_gt := by decide +kernel
theorem ab_ugt3 : ∀ w ∈ wsX30, w ∈ ab_gt := by decide +kernel
theorem ab_ugt4 : ∀ w ∈ wsX40, w ∈ ab_gt := by decide +kernel
theorem ab_ugt5 : ∀ w ∈ wsX50, w ∈ ab_gt := by decide +kernel
theorem ab_ugt6 : ∀ w ∈ wsX60, w ∈ ab_gt := by decide +kernel
theorem ab_ugt7 : ∀ w ∈ wsX70, w ∈ ab_gt := by decide +kernel
theorem ab_ugt8 : ∀ w ∈ wsX80, w ∈ ab_gt := by decide +kernel
theorem ab_ugt9 : ∀ w ∈ wsX90, w ∈ ab_gt := by decide +kernel
theorem ab_ugt {ci : Nat} {r : vw_C} (h : vwCl[ci]? = some r) : ∀ w ∈ u_ws r.1 r.2.1 r.2.2, w ∈ ab_gt := by
  match ci, h with
  | 0, h => cases h; exact ab_ugt0
  | 1, h => cases h; exact ab_ugt1
  | 2, h => cases h; exact ab_ugt2
  | 3, h => cases h; exact ab_ugt3
  | 4, h => cases h; exact ab_ugt4
  | 5, h => cases h; exact ab_ugt5
  | 6, h => cases h; exact ab_ugt6
  | 7, h => cases h; exact ab_ugt7
  | 8, h => cases h; exact ab_ugt8
  | 9, h => cases h; exact ab_ugt9
  | k + 10, h => simp [vwCl] at h
theorem ab_tyok {ci : Nat} {r : vw_C} (h : vwCl[ci]? = some r) : ∀ k, k < r.2.2 → parseFieldDescriptor (r.2.1 k).2.2.1 = some (ab_ty ci k) := by
  match ci, h with
  | 0, h => cases h; exact tyX0_ok
  | 1, h => cases h; exact tyX1_ok
  | 2, h => cases h; exact tyX2_ok
  | 3, h => cases h; exact tyX3_ok
  | 4, h => cases h; exact tyX4_ok
  | 5, h => cases h; exact tyX5_ok
  | 6, h => cases h; exact tyX6_ok
  | 7, h => cases h; exact tyX7_ok
  | 8, h => cases h; exact tyX8_ok
  | 9, h => cases h; exact tyX9_ok
  | k + 10, h => simp [vwCl] at h
theorem ab_nmok {ci : Nat} {r : vw_C} (h : vwCl[ci]? = some r) : ∀ a, a < r.2.2 → ∀ b, b < r.2.2 → a ≠ b → (r.2.1 a).2.1 ≠ (r.2.1 b).2.1 := by
  match ci, h with
  | 0, h => cases h; exact nmX0
  | 1, h => cases h; exact nmX1
  | 2, h => cases h; exact nmX2
  | 3, h => cases h; exact nmX3
  | 4, h => cases h; exact nmX4
  | 5, h => cases h; exact nmX5
  | 6, h => cases h; exact nmX6
  | 7, h => cases h; exact nmX7
  | 8, h => cases h; exact nmX8
  | 9, h => cases h; exact nmX9
  | k + 10, h => simp [vwCl] at h
theorem ab_inst {ci : Nat} {r : vw_C} (h : vwCl[ci]? = some r) : Cond.instantiable r.1 r.2.2 ∈ ab_gt ∧ Cond.initialized r.1 ∈ ab_gt := by
  match ci, h with
  | 0, h => cases h; exact by decide +kernel
  | 1, h => cases h; exact by decide +kernel
  | 2, h => cases h; exact by decide +kernel
  | 3, h => cases h; exact by decide +kernel
  | 4, h => cases h; exact by decide +kernel
  | 5, h => cases h; exact by decide +kernel
  | 6, h => cases h; exact by decide +kernel
  | 7, h => cases h; exact by decide +kernel
  | 8, h => cases h; exact by decide +kernel
  | 9, h => cases h; exact by decide +kernel
  | k + 10, h => simp [vwCl] at h
theorem ab_arrs : Cond.arrayClass .int ∈ ab_gt ∧ Cond.arrayClass .byte ∈ ab_gt ∧ Cond.arrayClass .boolean ∈ ab_gt ∧ Cond.arrayClass .long ∈ ab_gt := by decide +kernel
theorem ab_sys : Cond.native arraycopyName ∈ ab_gt ∧ Cond.static arraycopyName ∈ ab_gt ∧ Cond.initialized "java/lang/System" ∈ ab_gt := by decide +kernel
theorem ab_obj : Cond.instanceMethod objectInit ∈ ab_gt ∧ Cond.code objectInit ⟨#[0xb1]⟩ 1 none ∈ ab_gt := by decide +kernel
section AB7
variable {p : Program} {l : Launch} {e : Env} {R : Room} {s : State} {m : MethodId} {args : Array Value} {below : List Frame} {meth : Method} {c : Code} {Q : State → Prop} {E : ab_Env} {ml : Nat} {cc : ByteArray} {own : String} {cells slots pc len pl : Nat} {L : ab_L} {st : List Value} {h : ab_H} {S : ab_S} {raw : Instr} {ini : Bool}
theorem ab_w_gets (hx : p.tables.exec = Jvm.exec) (hb : c.code = cc) {a : Nat} (hown : s.vm.findClass own = some m.cls) (hts : ∀ w ∈ ab_gt, w.before args s = true) (hE : ab_EF E s s.heap) (hd : decode cc pc = .ok (raw, len)) (hc : ab_chk1 own ml ini pc raw len (.getstatic a) pl = true) (hs : ab_go1 (pc + len) L ((if a = 4 then .int 1 else if a = 3 then .retAddr 0 else .ref a) :: st) h = some (.inl S)) (k : ab_N p l e R s m args below meth c Q E ml S h cells slots) : ab_W p l e R s m args below meth c Q E ml (pc, L, st, h) cells slots := by
  obtain rfl := ab_go1_eq hs
  intro H locs ls hI hS hL
  have kk := k cells slots (by simp) (by simp) H locs ls hI hS hL
  simp only [ab_chk1] at hc
  split at hc
  · simp only [Bool.and_eq_true, decide_eq_true_eq] at hc
    obtain ⟨rfl, h2, h3⟩ := hc
    exact va_gets hx hb (hE.2.1 a h2.1 h2.2) hS hown (hts _ (ab_wd_in h3)) (fun _ q => q) hd kk
  · cases hc
theorem ab_w_getf (hx : p.tables.exec = Jvm.exec) (hb : c.code = cc) {n : Nat} (hown : s.vm.findClass own = some m.cls) (hts : ∀ w ∈ ab_gt, w.before args s = true) (hE : ab_EF E s s.heap) (hd : decode cc pc = .ok (raw, len)) (hc : ab_chk1 own ml ini pc raw len (.getfield n) pl = true) (hs : (match st with
    | .ref a :: r => (match ab_ob h a with
      | some (ci, fs) => if ci = n / 100 then (match fs[n % 100]? with
        | some v => ab_go1 (pc + len) L (v :: r) h
        | none => none) else none
      | none => none)
    | _ => none) = some (.inl S)) (k : ab_N p l e R s m args below meth c Q E ml S h cells slots) : ab_W p l e R s m args below meth c Q E ml (pc, L, st, h) cells slots := by
  split at hs
  · rename_i a r
    split at hs
    · rename_i ci fs hob
      split at hs
      · rename_i hci
        split at hs
        · rename_i v hv
          obtain rfl := ab_go1_eq hs
          intro H locs ls hI hS hL
          have kk := k cells slots (by simp) (by simp) H locs ls hI hS hL
          show W p l e R s m args below meth c H locs cells slots Q (F0 m pc ls (.ref (ab_rho E a) :: r.map (ab_rv E)))
          simp only [ab_chk1] at hc
          split at hc
          · simp only [Bool.and_eq_true, decide_eq_true_eq] at hc
            obtain ⟨rfl, hc⟩ := hc
            rcases hI.2.2 a _ (ab_ob_eq hob) with ⟨g0, g1, r0, g2, g3⟩ | ⟨g1, g2, g3, g4, g5, g6⟩
            · have hn : ¬ n / 100 = 90 := by have : ci < 10 := g0; omega
              rw [if_neg hn] at hc
              simp only [Bool.and_eq_true, decide_eq_true_eq] at hc
              obtain ⟨h1, h2, h3⟩ := hc
              subst hci
              have g2' : vwCl[n / 100]? = some r0 := g2
              have e2 : ab_nf (n / 100) = r0.2.2 := by simp only [ab_nf, g2']
              have e3 : ab_fl (n / 100) (n % 100) = r0.2.1 (n % 100) := by simp only [ab_fl, g2']
              rw [e3] at h3
              rw [e2] at h2
              rw [ab_rho_hi g1]
              exact va_get (C := r0.1) (T := r0.2.1) (N := r0.2.2) (ci := n / 100) hx hb hts (ab_ugt g2') hown hE.1 (ab_P1 (q := (E.1 + (a - 100), .inr (n / 100, fs.map (ab_rv E)))) ⟨r0, g2, g3⟩) 0 rfl g2' (n % 100) h2 (hts _ (ab_wd_in h3)) (fun _ q => q) (v := ab_rv E v) (by rw [List.getElem?_map, hv]; rfl) hd kk
            · have hn : n / 100 = 90 := by have : ci = 90 := g1; omega
              rw [if_pos hn] at hc
              have g3' : fs = [.ref (a + 20), .int 0] := g3
              rw [ab_rho_lo (by omega)]
              split at hc
              · rename_i hn2
                subst hn2
                rw [g3'] at hv
                have hv' : v = .ref (a + 20) := by simpa using hv.symm
                subst hv'
                obtain ⟨cf, k9, fi, f9, cell, q1, q2, q3, q4, q5, q6⟩ := g5
                refine W.getf hx hb hown (hts _ (ab_wd_in hc)) q1 q2 q3 q4 (v := .ref (E.2.1 (a + 20))) q5 rfl rfl hd ?_
                rw [← ab_rho_lo (E := E) (a := a + 20) (by omega)]
                exact kk
              · simp only [Bool.and_eq_true, decide_eq_true_eq] at hc
                obtain ⟨rfl, hc⟩ := hc
                rw [g3'] at hv
                have hv' : v = .int 0 := by simpa using hv.symm
                subst hv'
                obtain ⟨cf, k9, fi, f9, cell, q1, q2, q3, q4, q5, q6⟩ := g6
                exact W.getf hx hb hown (hts _ (ab_wd_in hc)) q1 q2 q3 q4 (v := .int 0) q5 rfl rfl hd kk
          · cases hc
        · cases hs
      · cases hs
    · cases hs
  · cases hs
theorem ab_w_putf (hx : p.tables.exec = Jvm.exec) (hb : c.code = cc) {n : Nat} (hown : s.vm.findClass own = some m.cls) (hts : ∀ w ∈ ab_gt, w.before args s = true) (hE : ab_EF E s s.heap) (hin : ini = true → meth.name = "<init>") (hd : decode cc pc = .ok (raw, len)) (hc : ab_chk1 own ml ini pc raw len (.putfield n) pl = true) (hs : (match st with
    | v :: .ref a :: r => (match ab_ob h a with
      | some (ci, fs) => if ci = n / 100 ∧ n % 100 < fs.length ∧ ab_fit (ab_ty (n / 100) (n % 100)) v = true then ab_go1 (pc + len) L r (ab_put h a (.inr (.inl (ci, fs.set (n % 100) v)))) else none
      | none => none)
    | _ => none) = some (.inl S)) (k : ab_N p l e R s m args below meth c Q E ml S h cells slots) : ab_W p l e R s m args below meth c Q E ml (pc, L, st, h) cells slots := by
  split at hs
  · rename_i v a r
    split at hs
    · rename_i ci fs hob
      split at hs
      · rename_i hq
        obtain ⟨hci, hlen, hfit⟩ := hq
        obtain rfl := ab_go1_eq hs
        intro H locs ls hI hS hL
        show W p l e R s m args below meth c H locs cells slots Q (F0 m pc ls (ab_rv E v :: .ref (ab_rho E a) :: r.map (ab_rv E)))
        simp only [ab_chk1] at hc
        split at hc
        · simp only [Bool.and_eq_true, decide_eq_true_eq, Bool.or_eq_true, Bool.not_eq_true'] at hc
          obtain ⟨rfl, h1, h2, h3, h4⟩ := hc
          rcases hI.2.2 a _ (ab_ob_eq hob) with ⟨g0, g1, r0, g2, cell, q1, q2, q3, q4⟩ | ⟨g1, -⟩
          · subst hci
            have g2' : vwCl[n / 100]? = some r0 := g2
            have e2 : ab_nf (n / 100) = r0.2.2 := by simp only [ab_nf, g2']
            have e3 : ab_fl (n / 100) (n % 100) = r0.2.1 (n % 100) := by simp only [ab_fl, g2']
            rw [e3] at h3 h4
            rw [e2] at h2
            rw [ab_rho_hi g1]
            have hK := hE.1
            have hap := va_apart (own := own) hts (ab_ugt g2') (ab_ty (n / 100)) (ab_tyok g2') (ab_nmok g2') hK g2'
            obtain ⟨hSl, hfc, kC, hkC, hkind⟩ := hK.1 _ _ g2'
            obtain ⟨cf, kf, fi, f, hi, hsl⟩ := hSl (n % 100) h2
            have hlay := hts _ (ab_ugt g2' _ (u_in_lay h2))
            have hst := (u_facts hfc hkC (u_lays hts (ab_ugt g2') h2) hi).1
            obtain ⟨hn1, hn2⟩ := ab_fit_ok (E := E) hfit
            have fin : ∀ H' : Heap, H'[E.1 + (a - 100)]? = some (cell.setSlot f.slot (ab_rv E v)) → H'.size = H.size → (∀ q, q ≠ E.1 + (a - 100) → H'[q]? = H[q]?) → W p l e R s m args below meth c H' (locs ++ [⟨E.1 + (a - 100), f.slot⟩]) cells slots Q (F0 m (pc + 3) ls (r.map (ab_rv E))) := by
              intro H' e1 z1 o1
              rw [hsl] at e1 ⊢
              refine k cells slots (by simp [ab_put]) (by simp [ab_put]) H' _ ls (hI.put g1 z1 o1 (Or.inl ⟨g0, g1, r0, g2, ?_⟩)) (hS.put z1 o1 (Nat.le_add_right _ _)) hL
              show t_OB _ _ _ _ H' (vp_V ((fs.set (n % 100) v).map (ab_rv E)))
              rw [List.map_set]
              exact t_OB.to (V := updV (vp_V (fs.map (ab_rv E))) (n % 100) (ab_rv E v)) ⟨_, e1, q2, q3, t_set q4 hap h2 _⟩ (fun j _ => vp_updV_set (by rw [List.length_map]; exact hlen) _ j)
            by_cases hfin : (r0.2.1 (n % 100)).2.2.2 = true
            · rw [hfin] at h4
              rcases h4 with h4 | ⟨h5, h6⟩
              · cases h4
              · unfold u_lay at hlay
                rw [if_pos hfin] at hlay
                have hcf : m.cls = cf := by
                  obtain ⟨_, _, c', _, _, _, -, -, hf', -, -, -, hown2, -⟩ := Cond.laysFinal_spec hlay
                  have e1 : c' = cf := by have := hi.symm.trans hf'; simp at this; exact this.1.symm
                  rw [h6] at hown2
                  rw [← e1]; exact Option.some.inj (hown.symm.trans hown2)
                have h7 := u_fits hfc hkC hkind (Or.inr hlay) hi (ab_tyok g2' _ h2) hn1 hn2
                exact W.putFinK hx hb hown (hts _ (ab_wd_in h3)) hi hst hcf (hin h5) (by rw [q2]; exact h7) q1 q3 (by rw [hsl]; exact k2_hasslot (q4 _ h2)) rfl rfl hd fin
            · unfold u_lay at hlay
              rw [if_neg hfin] at hlay
              have h7 := u_store hfc hkC hkind hlay hi (ab_tyok g2' _ h2) hn1 hn2
              exact W.putK hx hb (f := f) ⟨hown, hts _ (ab_wd_in h3), ⟨_, _, _, hi⟩, hst⟩ (by rw [q2]; exact h7) q1 q3 (by rw [hsl]; exact k2_hasslot (q4 _ h2)) rfl rfl hd fin
          · have : ci = 90 := g1
            omega
        · cases hc
      · cases hs
    · cases hs
  · cases hs
theorem ab_w_iald (hx : p.tables.exec = Jvm.exec) (hb : c.code = cc) (hE : ab_EF E s s.heap) (hd : decode cc pc = .ok (raw, len)) (hc : ab_chk1 own ml ini pc raw len .iaload pl = true) (hs : (match st with
    | .int i :: .ref a :: r => (match ab_ra h a with
      | some (.int, n, .inl f) => if ab_in i n then ab_go1 (pc + len) L (.int (f i.toNatClampNeg) :: r) h else none
      | _ => none)
    | _ => none) = some (.inl S)) (k : ab_N p l e R s m args below meth c Q E ml S h cells slots) : ab_W p l e R s m args below meth c Q E ml (pc, L, st, h) cells slots := by
  simp only [ab_chk1, Bool.and_eq_true, decide_eq_true_eq] at hc
  obtain ⟨rfl, rfl⟩ := hc
  split at hs
  · rename_i i a r
    split at hs
    · rename_i n f hra
      split at hs
      · rename_i hi
        obtain rfl := ab_go1_eq hs
        intro H locs ls hI hS hL
        have kk := k cells slots (by simp) (by simp) H locs ls hI hS hL
        show W p l e R s m args below meth c H locs cells slots Q (F0 m pc ls (.int i :: .ref (ab_rho E a) :: r.map (ab_rv E)))
        have hi := ab_in_iff hi
        rcases ab_ra_eq hra with hq | hq
        · obtain ⟨g1, cA, g2, g3, g4⟩ := hI.2.2 a _ hq
          rw [ab_rho_hi g1]
          exact va_iald hx hb (ab_K1 hE.1 g3 g4) (ab_P1 (q := (E.1 + (a - 100), .inl (cA, n, .inl f))) g2) 0 0 rfl rfl hi hd kk
        · obtain ⟨g1, cell, q1, q2, q3, q4, q5, q6, q7⟩ := hI.2.2 a _ hq
          rw [ab_rho_lo g1]
          have hlt : i.toNatClampNeg < n := Nat.not_le.mp fun q => hi (Or.inr q)
          exact W.iald hx hb q1 q2 q3 (fun q => hi (q.elim Or.inl (fun q => Or.inr (Nat.le_trans q4 q)))) (q6 _ hlt) rfl rfl hd kk
      · cases hs
    · cases hs
  · cases hs
theorem ab_w_bald (hx : p.tables.exec = Jvm.exec) (hb : c.code = cc) (hE : ab_EF E s s.heap) (hd : decode cc pc = .ok (raw, len)) (hc : ab_chk1 own ml ini pc raw len .baload pl = true) (hs : (match st with
    | .int i :: .ref a :: r => (match ab_ra h a with
      | some (.byte, n, .inl f) => if ab_in i n then ab_go1 (pc + len) L (.int (f i.toNatClampNeg) :: r) h else none
      | some (.boolean, n, .inl f) => if ab_in i n then ab_go1 (pc + len) L (.int (f i.toNatClampNeg) :: r) h else none
      | _ => none)
    | _ => none) = some (.inl S)) (k : ab_N p l e R s m args below meth c Q E ml S h cells slots) : ab_W p l e R s m args below meth c Q E ml (pc, L, st, h) cells slots := by
  simp only [ab_chk1, Bool.and_eq_true, decide_eq_true_eq] at hc
  obtain ⟨rfl, rfl⟩ := hc
  split at hs
  · rename_i i a r
    split at hs
    · rename_i n f hra
      split at hs
      · rename_i hi
        obtain rfl := ab_go1_eq hs
        intro H locs ls hI hS hL
        have kk := k cells slots (by simp) (by simp) H locs ls hI hS hL
        show W p l e R s m args below meth c H locs cells slots Q (F0 m pc ls (.int i :: .ref (ab_rho E a) :: r.map (ab_rv E)))
        have hi := ab_in_iff hi
        rcases ab_ra_eq hra with hq | hq
        · obtain ⟨g1, cA, g2, g3, g4⟩ := hI.2.2 a _ hq
          rw [ab_rho_hi g1]
          exact va_bald hx hb (ab_K1 hE.1 g3 g4) (ab_P1 (q := (E.1 + (a - 100), .inl (cA, n, .inl f))) g2) 0 0 rfl rfl hi hd kk
        · obtain ⟨g1, cell, q1, q2, q3, q4, q5, q6, q7⟩ := hI.2.2 a _ hq
          rw [ab_rho_lo g1]
          have hlt : i.toNatClampNeg < n := Nat.not_le.mp fun q => hi (Or.inr q)
          exact W.bald hx hb q1 q2 q3 (fun q => hi (q.elim Or.inl (fun q => Or.inr (Nat.le_trans q4 q)))) (q6 _ hlt) rfl rfl hd kk
      · cases hs
    · rename_i n f hra
      split at hs
      · rename_i hi
        obtain rfl := ab_go1_eq hs
        intro H locs ls hI hS hL
        have kk := k cells slots (by simp) (by simp) H locs ls hI hS hL
        show W p l e R s m args below meth c H locs cells slots Q (F0 m pc ls (.int i :: .ref (ab_rho E a) :: r.map (ab_rv E)))
        have hi := ab_in_iff hi
        rcases ab_ra_eq hra with hq | hq
        · obtain ⟨g1, cA, g2, g3, g4⟩ := hI.2.2 a _ hq
          rw [ab_rho_hi g1]
          exact va_zald hx hb (ab_K1 hE.1 g3 g4) (ab_P1 (q := (E.1 + (a - 100), .inl (cA, n, .inl f))) g2) 0 0 rfl rfl hi hd kk
        · obtain ⟨g1, cell, q1, q2, q3, q4, q5, q6, q7⟩ := hI.2.2 a _ hq
          rw [ab_rho_lo g1]
          have hlt : i.toNatClampNeg < n := Nat.not_le.mp fun q => hi (Or.inr q)
          exact W.zald hx hb q1 q2 q3 (fun q => hi (q.elim Or.inl (fun q => Or.inr (Nat.le_trans q4 q)))) (q6 _ hlt) rfl rfl hd kk
      · cases hs
    · cases hs
  · cases hs
theorem ab_w_lald (hx : p.tables.exec = Jvm.exec) (hb : c.code = cc) (hE : ab_EF E s s.heap) (hd : decode cc pc = .ok (raw, len)) (hc : ab_chk1 own ml ini pc raw len .laload pl = true) (hs : (match st with
    | .int i :: .ref a :: r => (match ab_ra h a with
      | some (.long, n, .inr (.inl f)) => if ab_in i n then ab_go1 (pc + len) L (.long (f i.toNatClampNeg) :: r) h else none
      | _ => none)
    | _ => none) = some (.inl S)) (k : ab_N p l e R s m args below meth c Q E ml S h cells slots) : ab_W p l e R s m args below meth c Q E ml (pc, L, st, h) cells slots := by
  simp only [ab_chk1, Bool.and_eq_true, decide_eq_true_eq] at hc
  obtain ⟨rfl, rfl⟩ := hc
  split at hs
  · rename_i i a r
    split at hs
    · rename_i n f hra
      split at hs
      · rename_i hi
        obtain rfl := ab_go1_eq hs
        intro H locs ls hI hS hL
        have kk := k cells slots (by simp) (by simp) H locs ls hI hS hL
        show W p l e R s m args below meth c H locs cells slots Q (F0 m pc ls (.int i :: .ref (ab_rho E a) :: r.map (ab_rv E)))
        have hi := ab_in_iff hi
        rcases ab_ra_eq hra with hq | hq
        · obtain ⟨g1, cA, g2, g3, g4⟩ := hI.2.2 a _ hq
          rw [ab_rho_hi g1]
          exact va_lald hx hb (ab_K1 hE.1 g3 g4) (ab_P1 (q := (E.1 + (a - 100), .inl (cA, n, .inr (.inl f)))) g2) 0 0 rfl rfl hi hd kk
        · obtain ⟨g1, cell, q1, q2, q3, q4, q5, q6, q7⟩ := hI.2.2 a _ hq
          rw [ab_rho_lo g1]
          have hlt : i.toNatClampNeg < n := Nat.not_le.mp fun q => hi (Or.inr q)
          exact W.lald hx hb q1 q2 q3 (fun q => hi (q.elim Or.inl (fun q => Or.inr (Nat.le_trans q4 q)))) (q6 _ hlt) rfl rfl hd kk
      · cases hs
    · cases hs
  · cases hs
theorem ab_w_aald (hx : p.tables.exec = Jvm.exec) (hb : c.code = cc)  (hd : decode cc pc = .ok (raw, len)) (hc : ab_chk1 own ml ini pc raw len .aaload pl = true) (hs : (match st with
    | .int i :: .ref a :: r => (match ab_wa h a with
      | some (.object _, n, .inr (.inr (.inr (.inr f)))) => if ab_in i n then (match f i.toNatClampNeg with
        | some v => ab_go1 (pc + len) L (.ref v :: r) h
        | none => none) else none
      | some (.array _, n, .inr (.inr (.inr (.inr f)))) => if ab_in i n then (match f i.toNatClampNeg with
        | some v => ab_go1 (pc + len) L (.ref v :: r) h
        | none => none) else none
      | _ => none)
    | _ => none) = some (.inl S)) (k : ab_N p l e R s m args below meth c Q E ml S h cells slots) : ab_W p l e R s m args below meth c Q E ml (pc, L, st, h) cells slots := by
  simp only [ab_chk1, Bool.and_eq_true, decide_eq_true_eq] at hc
  obtain ⟨rfl, rfl⟩ := hc
  split at hs
  · rename_i i a r
    split at hs
    · rename_i C n f hra
      split at hs
      · rename_i hi
        split at hs
        · rename_i v hv
          obtain rfl := ab_go1_eq hs
          intro H locs ls hI hS hL
          have kk := k cells slots (by simp) (by simp) H locs ls hI hS hL
          show W p l e R s m args below meth c H locs cells slots Q (F0 m pc ls (.int i :: .ref (ab_rho E a) :: r.map (ab_rv E)))
          have hi := ab_in_iff hi
          obtain ⟨g1, cA, g2, g3, g4⟩ := hI.2.2 a _ (ab_wa_eq hra)
          rw [ab_rho_hi g1]
          have hlt : i.toNatClampNeg < n := Nat.not_le.mp fun q => hi (Or.inr q)
          exact W.aald (v := .ref (ab_rho E v)) (ty := .object C) hx hb g2 (g3 n (fun j => va_rf ((f j).map (ab_rho E)))) rfl (fun q => by cases q) (by show ¬ (i < 0 ∨ (arrV _ _ _).slots.size ≤ _); rw [arrV_size]; exact hi) (by show (arrV cA n (fun j => va_rf ((f j).map (ab_rho E)))).slots[i.toNatClampNeg]? = _; rw [arrV_read _ _ hlt, hv]; rfl) rfl rfl hd kk
        · cases hs
      · cases hs
    · rename_i C n f hra
      split at hs
      · rename_i hi
        split at hs
        · rename_i v hv
          obtain rfl := ab_go1_eq hs
          intro H locs ls hI hS hL
          have kk := k cells slots (by simp) (by simp) H locs ls hI hS hL
          show W p l e R s m args below meth c H locs cells slots Q (F0 m pc ls (.int i :: .ref (ab_rho E a) :: r.map (ab_rv E)))
          have hi := ab_in_iff hi
          obtain ⟨g1, cA, g2, g3, g4⟩ := hI.2.2 a _ (ab_wa_eq hra)
          rw [ab_rho_hi g1]
          have hlt : i.toNatClampNeg < n := Nat.not_le.mp fun q => hi (Or.inr q)
          exact W.aald (v := .ref (ab_rho E v)) (ty := .array C) hx hb g2 (g3 n (fun j => va_rf ((f j).map (ab_rho E)))) rfl (fun q => by cases q) (by show ¬ (i < 0 ∨ (arrV _ _ _).slots.size ≤ _); rw [arrV_size]; exact hi) (by show (arrV cA n (fun j => va_rf ((f j).map (ab_rho E)))).slots[i.toNatClampNeg]? = _; rw [arrV_read _ _ hlt, hv]; rfl) rfl rfl hd kk
        · cases hs
      · cases hs
    · cases hs
  · cases hs
theorem ab_w_iast (hx : p.tables.exec = Jvm.exec) (hb : c.code = cc)  (hd : decode cc pc = .ok (raw, len)) (hc : ab_chk1 own ml ini pc raw len .iastore pl = true) (hs : (match st with
    | .int x :: .int i :: .ref a :: r => (match ab_wa h a with
      | some (.int, n, .inl f) => if ab_in i n then ab_go1 (pc + len) L r (ab_put h a (.inl (.int, n, .inl (upd f i.toNatClampNeg x)))) else none
      | _ => none)
    | _ => none) = some (.inl S)) (k : ab_N p l e R s m args below meth c Q E ml S h cells slots) : ab_W p l e R s m args below meth c Q E ml (pc, L, st, h) cells slots := by
  simp only [ab_chk1, Bool.and_eq_true, decide_eq_true_eq] at hc
  obtain ⟨rfl, rfl⟩ := hc
  split at hs
  · rename_i x i a r
    split at hs
    · rename_i n f hra
      split at hs
      · rename_i hi
        obtain rfl := ab_go1_eq hs
        intro H locs ls hI hS hL
        show W p l e R s m args below meth c H locs cells slots Q (F0 m pc ls (.int x :: .int i :: .ref (ab_rho E a) :: r.map (ab_rv E)))
        have hi := ab_in_iff hi
        obtain ⟨g1, cA, g2, g3, g4⟩ := hI.2.2 a _ (ab_wa_eq hra)
        rw [ab_rho_hi g1]
        refine W.iast hx hb g2 (g3 n (fun j => .int (f j))) (fun q => by cases q) (by show ¬ (i < 0 ∨ (arrV _ _ _).slots.size ≤ _); rw [arrV_size]; exact hi) rfl rfl hd fun H1 e1 z1 o1 => ?_
        refine k cells slots (by simp [ab_put]) (by simp [ab_put]) H1 _ ls (hI.put g1 z1 o1 ⟨g1, cA, ?_, g3, g4⟩) (hS.put z1 o1 (Nat.le_add_right _ _)) hL
        rw [e1]
        show some ((vp_cell cA (n, .inl f)).setSlot _ _) = some (vp_cell cA (n, .inl (upd f i.toNatClampNeg x)))
        rw [vp_cell_i, vp_cell_i, arrV_store]
        congr 2
        funext q
        by_cases hq : q = i.toNatClampNeg
        · subst hq
          simp [updV, upd, narrow]
        · simp [updV, upd, hq]
      · cases hs
    · cases hs
  · cases hs
theorem ab_w_bast (hx : p.tables.exec = Jvm.exec) (hb : c.code = cc)  (hd : decode cc pc = .ok (raw, len)) (hc : ab_chk1 own ml ini pc raw len .bastore pl = true) (hs : (match st with
    | .int x :: .int i :: .ref a :: r => (match ab_wa h a with
      | some (.byte, n, .inl f) => if ab_in i n then ab_go1 (pc + len) L r (ab_put h a (.inl (.byte, n, .inl (upd f i.toNatClampNeg x.toInt8.toInt32)))) else none
      | some (.boolean, n, .inl f) => if ab_in i n then ab_go1 (pc + len) L r (ab_put h a (.inl (.boolean, n, .inl (upd f i.toNatClampNeg (x &&& 1))))) else none
      | _ => none)
    | _ => none) = some (.inl S)) (k : ab_N p l e R s m args below meth c Q E ml S h cells slots) : ab_W p l e R s m args below meth c Q E ml (pc, L, st, h) cells slots := by
  simp only [ab_chk1, Bool.and_eq_true, decide_eq_true_eq] at hc
  obtain ⟨rfl, rfl⟩ := hc
  split at hs
  · rename_i x i a r
    split at hs
    · rename_i n f hra
      split at hs
      · rename_i hi
        obtain rfl := ab_go1_eq hs
        intro H locs ls hI hS hL
        show W p l e R s m args below meth c H locs cells slots Q (F0 m pc ls (.int x :: .int i :: .ref (ab_rho E a) :: r.map (ab_rv E)))
        have hi := ab_in_iff hi
        obtain ⟨g1, cA, g2, g3, g4⟩ := hI.2.2 a _ (ab_wa_eq hra)
        rw [ab_rho_hi g1]
        refine W.bast hx hb g2 (g3 n (fun j => .int (f j))) (fun q => by cases q) (by show ¬ (i < 0 ∨ (arrV _ _ _).slots.size ≤ _); rw [arrV_size]; exact hi) rfl rfl hd fun H1 e1 z1 o1 => ?_
        refine k cells slots (by simp [ab_put]) (by simp [ab_put]) H1 _ ls (hI.put g1 z1 o1 ⟨g1, cA, ?_, g3, g4⟩) (hS.put z1 o1 (Nat.le_add_right _ _)) hL
        rw [e1]
        show some ((vp_cell cA (n, .inl f)).setSlot _ _) = some (vp_cell cA (n, .inl (upd f i.toNatClampNeg x.toInt8.toInt32)))
        rw [vp_cell_i, vp_cell_i, arrV_store]
        congr 2
        funext q
        by_cases hq : q = i.toNatClampNeg
        · subst hq
          simp [updV, upd, narrow]
        · simp [updV, upd, hq]
      · cases hs
    · rename_i n f hra
      split at hs
      · rename_i hi
        obtain rfl := ab_go1_eq hs
        intro H locs ls hI hS hL
        show W p l e R s m args below meth c H locs cells slots Q (F0 m pc ls (.int x :: .int i :: .ref (ab_rho E a) :: r.map (ab_rv E)))
        have hi := ab_in_iff hi
        obtain ⟨g1, cA, g2, g3, g4⟩ := hI.2.2 a _ (ab_wa_eq hra)
        rw [ab_rho_hi g1]
        refine W.zast hx hb g2 (g3 n (fun j => .int (f j))) (fun q => by cases q) (by show ¬ (i < 0 ∨ (arrV _ _ _).slots.size ≤ _); rw [arrV_size]; exact hi) rfl rfl hd fun H1 e1 z1 o1 => ?_
        refine k cells slots (by simp [ab_put]) (by simp [ab_put]) H1 _ ls (hI.put g1 z1 o1 ⟨g1, cA, ?_, g3, g4⟩) (hS.put z1 o1 (Nat.le_add_right _ _)) hL
        rw [e1]
        show some ((vp_cell cA (n, .inl f)).setSlot _ _) = some (vp_cell cA (n, .inl (upd f i.toNatClampNeg (x &&& 1))))
        rw [vp_cell_i, vp_cell_i, arrV_store]
        congr 2
        funext q
        by_cases hq : q = i.toNatClampNeg
        · subst hq
          simp [updV, upd, narrow]
        · simp [updV, upd, hq]
      · cases hs
    · cases hs
  · cases hs
theorem ab_w_last (hx : p.tables.exec = Jvm.exec) (hb : c.code = cc)  (hd : decode cc pc = .ok (raw, len)) (hc : ab_chk1 own ml ini pc raw len .lastore pl = true) (hs : (match st with
    | .long x :: .int i :: .ref a :: r => (match ab_wa h a with
      | some (.long, n, .inr (.inl f)) => if ab_in i n then ab_go1 (pc + len) L r (ab_put h a (.inl (.long, n, .inr (.inl (vp_updL f i.toNatClampNeg x))))) else none
      | _ => none)
    | _ => none) = some (.inl S)) (k : ab_N p l e R s m args below meth c Q E ml S h cells slots) : ab_W p l e R s m args below meth c Q E ml (pc, L, st, h) cells slots := by
  simp only [ab_chk1, Bool.and_eq_true, decide_eq_true_eq] at hc
  obtain ⟨rfl, rfl⟩ := hc
  split at hs
  · rename_i x i a r
    split at hs
    · rename_i n f hra
      split at hs
      · rename_i hi
        obtain rfl := ab_go1_eq hs
        intro H locs ls hI hS hL
        show W p l e R s m args below meth c H locs cells slots Q (F0 m pc ls (.long x :: .int i :: .ref (ab_rho E a) :: r.map (ab_rv E)))
        have hi := ab_in_iff hi
        obtain ⟨g1, cA, g2, g3, g4⟩ := hI.2.2 a _ (ab_wa_eq hra)
        rw [ab_rho_hi g1]
        refine W.last hx hb g2 (g3 n (fun j => .long (f j))) (fun q => by cases q) (by show ¬ (i < 0 ∨ (arrV _ _ _).slots.size ≤ _); rw [arrV_size]; exact hi) rfl rfl hd fun H1 e1 z1 o1 => ?_
        refine k cells slots (by simp [ab_put]) (by simp [ab_put]) H1 _ ls (hI.put g1 z1 o1 ⟨g1, cA, ?_, g3, g4⟩) (hS.put z1 o1 (Nat.le_add_right _ _)) hL
        rw [e1]
        show some ((vp_cell cA (n, .inr (.inl f))).setSlot _ _) = some (vp_cell cA (n, .inr (.inl (vp_updL f i.toNatClampNeg x))))
        rw [vp_cell_l, vp_cell_l, arrV_store]
        congr 2
        funext q
        by_cases hq : q = i.toNatClampNeg
        · subst hq
          simp [updV, vp_updL, narrow]
        · simp [updV, vp_updL, hq]
      · cases hs
    · cases hs
  · cases hs
theorem ab_w_aast (hx : p.tables.exec = Jvm.exec) (hb : c.code = cc) (hE : ab_EF E s s.heap) (hd : decode cc pc = .ok (raw, len)) (hc : ab_chk1 own ml ini pc raw len .aastore pl = true) (hs : (match st with
    | .ref v :: .int i :: .ref a :: r => (match ab_wa h a, ab_ob h v with
      | some (.object C, n, .inr (.inr (.inr (.inr f)))), some (ci, _) => if ab_in i n = true ∧ ci < 10 ∧ C = ab_cn ci then ab_go1 (pc + len) L r (ab_put h a (.inl (.object C, n, .inr (.inr (.inr (.inr (va_up f i.toNatClampNeg (some v)))))))) else none
      | _, _ => none)
    | _ => none) = some (.inl S)) (k : ab_N p l e R s m args below meth c Q E ml S h cells slots) : ab_W p l e R s m args below meth c Q E ml (pc, L, st, h) cells slots := by
  simp only [ab_chk1, Bool.and_eq_true, decide_eq_true_eq] at hc
  obtain ⟨rfl, rfl⟩ := hc
  split at hs
  · rename_i v i a r
    split at hs
    · rename_i C n f ci fs hra hob
      split at hs
      · rename_i hq
        obtain ⟨hi, hc10, rfl⟩ := hq
        obtain rfl := ab_go1_eq hs
        intro H locs ls hI hS hL
        show W p l e R s m args below meth c H locs cells slots Q (F0 m pc ls (.ref (ab_rho E v) :: .int i :: .ref (ab_rho E a) :: r.map (ab_rv E)))
        have hi := ab_in_iff hi
        have hlt : i.toNatClampNeg < n := Nat.not_le.mp fun q => hi (Or.inr q)
        have h0 : ¬ i < 0 := fun q => hi (Or.inl q)
        obtain ⟨g1, cA, g2, g3, g4⟩ := hI.2.2 a _ (ab_wa_eq hra)
        rcases hI.2.2 v _ (ab_ob_eq hob) with ⟨k0, k1, r0, k2, cellV, q1, q2, q3, -⟩ | ⟨k1, -⟩
        · have k2' : vwCl[ci]? = some r0 := k2
          have e2 : ab_cn ci = r0.1 := by simp only [ab_cn, k2']
          rw [ab_rho_hi g1, ab_rho_hi k1]
          have hcls := (hE.1.1 ci r0 k2').2
          have g4' : va_RA s cA (.object (ab_cn ci)) := g4
          obtain ⟨kA, comp, j1, j2, j3, -⟩ := g4
          rw [e2] at j3
          have hcomp : comp = E.2.2.1.1 ci := Option.some.inj (j3.symm.trans hcls.1)
          subst hcomp
          obtain ⟨kC, hkC, -⟩ := hcls.2
          refine W.aast hx hb g2 (fun q h => by cases h) (fun h => by cases h) j1 j2 rfl hkC ⟨h0, by show _ < (arrV _ _ _).slots.size; rw [arrV_size]; exact hlt⟩ q1 (fun q h => by rw [q3] at h; cases h) (by rw [q2]; exact hkC) (by rw [q2]; exact va_assign hcls) rfl rfl hd fun H1 e1 z1 o1 => ?_
          refine k cells slots (by simp [ab_put]) (by simp [ab_put]) H1 _ ls (hI.put g1 z1 o1 ⟨g1, cA, ?_, g3, g4'⟩) (hS.put z1 o1 (Nat.le_add_right _ _)) hL
          rw [e1]
          show some ((arrV cA n (fun j => va_rf ((f j).map (ab_rho E)))).setSlot _ _) = some (arrV cA n (fun j => va_rf ((va_up f i.toNatClampNeg (some v) j).map (ab_rho E))))
          rw [arrV_store]
          congr 2
          funext q
          by_cases hq : q = i.toNatClampNeg
          · subst hq
            simp [updV, va_up, va_rf, ab_rho_hi k1]
          · simp [updV, va_up, hq]
        · have : ci = 90 := k1
          omega
      · cases hs
    · cases hs
  · cases hs
theorem ab_w_alen (hx : p.tables.exec = Jvm.exec) (hb : c.code = cc) (hE : ab_EF E s s.heap) (hd : decode cc pc = .ok (raw, len)) (hc : ab_chk1 own ml ini pc raw len .arraylength pl = true) (hs : (match st with
    | .ref a :: r => (match ab_ra h a with
      | some (_, n, _) => ab_go1 (pc + len) L (.int (Int32.ofNat n) :: r) h
      | none => none)
    | _ => none) = some (.inl S)) (k : ab_N p l e R s m args below meth c Q E ml S h cells slots) : ab_W p l e R s m args below meth c Q E ml (pc, L, st, h) cells slots := by
  simp only [ab_chk1, Bool.and_eq_true, decide_eq_true_eq] at hc
  obtain ⟨rfl, rfl⟩ := hc
  split at hs
  · rename_i a r
    split at hs
    · rename_i ty n x hra
      obtain rfl := ab_go1_eq hs
      intro H locs ls hI hS hL
      have kk := k cells slots (by simp) (by simp) H locs ls hI hS hL
      show W p l e R s m args below meth c H locs cells slots Q (F0 m pc ls (.ref (ab_rho E a) :: r.map (ab_rv E)))
      rcases ab_ra_eq hra with hq | hq
      · obtain ⟨g1, cA, g2, g3, g4⟩ := hI.2.2 a _ hq
        rw [ab_rho_hi g1]
        exact va_alen hx hb (ab_K1 hE.1 g3 g4) (ab_P1 (q := (E.1 + (a - 100), .inl (cA, ab_mx E (n, x)))) g2) 0 0 rfl rfl (by rw [ab_mx_1]) hd kk
      · obtain ⟨g1, cell, q1, q2, q3, q4, q5, q6, q7⟩ := hI.2.2 a _ hq
        rw [ab_rho_lo g1]
        exact W.alen hx hb q1 q2 q5 rfl rfl hd kk
    · cases hs
  · cases hs
theorem ab_w_newa (hx : p.tables.exec = Jvm.exec) (hb : c.code = cc) {t : ArrayType} (hts : ∀ w ∈ ab_gt, w.before args s = true) (hr1 : cells + (S.2.2.2.1 - h.1) ≤ R.cells) (hr2 : slots + (S.2.2.2.2.1 - h.2.1) ≤ R.slots) (hd : decode cc pc = .ok (raw, len)) (hc : ab_chk1 own ml ini pc raw len (.newarray t) pl = true) (hs : (match st with
    | .int n :: r => (match ab_zero (newarray.typeOf t) n.toNatClampNeg with
      | some x => if ¬ n < 0 ∧ n.toNatClampNeg ≤ 10000 then ab_go1 (pc + len) L (.ref h.1 :: r) (ab_add h n.toNatClampNeg (.inl (newarray.typeOf t, x))) else none
      | none => none)
    | _ => none) = some (.inl S)) (k : ab_N p l e R s m args below meth c Q E ml S h cells slots) : ab_W p l e R s m args below meth c Q E ml (pc, L, st, h) cells slots := by
  simp only [ab_chk1, Bool.and_eq_true, decide_eq_true_eq] at hc
  obtain ⟨rfl, rfl⟩ := hc
  split at hs
  · rename_i n r
    split at hs
    · rename_i x hz
      split at hs
      · rename_i hq
        obtain ⟨hn, hN⟩ := hq
        obtain rfl := ab_go1_eq hs
        intro H locs ls hI hS hL
        have hh := hI.1
        have hh2 := hI.2.1
        simp only [ab_add] at hr1 hr2
        have hcell : ∀ cA : ClassId, vp_cell cA (ab_mx E x) = arrV cA n.toNatClampNeg (fun _ => defaultValue (newarray.typeOf t)) := by
          intro cA
          cases t <;> simp [newarray.typeOf, ab_zero] at hz <;> subst hz <;> rfl
        have harr : (Cond.arrayClass (newarray.typeOf t)).before args s = true := by
          cases t <;> simp [newarray.typeOf, ab_zero] at hz <;> first | exact hts _ ab_arrs.1 | exact hts _ ab_arrs.2.1 | exact hts _ ab_arrs.2.2.1 | exact hts _ ab_arrs.2.2.2
        have hby : n.toNatClampNeg * componentBytes (newarray.typeOf t) ≤ 536870912 := by
          have : componentBytes (newarray.typeOf t) ≤ 8 := by cases t <;> decide
          exact Nat.le_trans (Nat.mul_le_mul hN this) (by decide)
        refine va_newaK hx hb harr (g := F0 m pc ls (.int n :: r.map (ab_rv E))) rfl hd rfl hn rfl hby (by omega) (by omega) rfl fun H1 cA e1 z1 o1 hAr hNm => ?_
        have kk := k (cells + 1) (slots + n.toNatClampNeg) (by simp only [ab_add]; omega) (by simp only [ab_add]; omega) H1 locs ls (hI.add z1 o1 ⟨hh2, cA, by rw [← hh, hcell]; exact e1, hAr, ?_⟩) ⟨Nat.le_trans hS.1 (by omega), fun q h1 h2 => (o1 q (Nat.lt_of_lt_of_le h1 hS.1)).trans (hS.2.1 q h1 h2), hS.2.2⟩ hL
        · rw [hh, ← ab_rho_hi hh2]
          exact kk
        · cases t <;> exact hNm
      · cases hs
    · cases hs
  · cases hs
theorem ab_w_anew (hx : p.tables.exec = Jvm.exec) (hb : c.code = cc) {ci : Nat} (hown : s.vm.findClass own = some m.cls) (hts : ∀ w ∈ ab_gt, w.before args s = true) (hE : ab_EF E s s.heap) (hr1 : cells + (S.2.2.2.1 - h.1) ≤ R.cells) (hr2 : slots + (S.2.2.2.2.1 - h.2.1) ≤ R.slots) (hd : decode cc pc = .ok (raw, len)) (hc : ab_chk1 own ml ini pc raw len (.anewarray ci) pl = true) (hs : (match st with
    | .int n :: r => if ¬ n < 0 ∧ n.toNatClampNeg ≤ 10000 then ab_go1 (pc + len) L (.ref h.1 :: r) (ab_add h n.toNatClampNeg (.inl (.object (ab_cn ci), n.toNatClampNeg, .inr (.inr (.inr (.inr (fun _ => none))))))) else none
    | _ => none) = some (.inl S)) (k : ab_N p l e R s m args below meth c Q E ml S h cells slots) : ab_W p l e R s m args below meth c Q E ml (pc, L, st, h) cells slots := by
  split at hs
  · rename_i n r
    split at hs
    · rename_i hq
      obtain ⟨hn, hN⟩ := hq
      obtain rfl := ab_go1_eq hs
      intro H locs ls hI hS hL
      have hh := hI.1
      have hh2 := hI.2.1
      simp only [ab_add] at hr1 hr2
      simp only [ab_chk1] at hc
      split at hc
      · simp only [Bool.and_eq_true, decide_eq_true_eq] at hc
        obtain ⟨rfl, hci, hc⟩ := hc
        have hao : va_AO (ab_cn ci) s := by
          rcases hci with rfl | rfl
          · exact hE.2.2.2.2.1.1
          · exact hE.2.2.2.2.1.2.1
        refine W.anew hx hb hown (hts _ (ab_wd_in hc)) (va_AO.use hao) (g := F0 m pc ls (.int n :: r.map (ab_rv E))) rfl hd rfl hn (Nat.le_trans (Nat.mul_le_mul hN (Nat.le_refl 4)) (by decide)) (by omega) (by omega) fun cA kA comp f1 f2 f3 f4 => ?_
        generalize hH1 : H.push ({ cls := cA, slots := Array.replicate n.toNatClampNeg .null, vm := .none } : Cell) = H1
        have z1 : H1.size = H.size + 1 := by rw [← hH1, Array.size_push]
        have e1 : H1[H.size]? = some (arrV cA n.toNatClampNeg (fun _ => .null)) := by rw [← hH1, Array.getElem?_push_size, ← arrV_new]
        have o1 : ∀ q : Nat, q < H.size → H1[q]? = H[q]? := fun q hq => by rw [← hH1, Array.getElem?_push, if_neg (Nat.ne_of_lt hq)]
        have hAr : ArrOfT s cA (.object (ab_cn ci)) := fun N z => ⟨(fun k h => by cases h), kA, f2, comp, f3⟩
        have kk := k (cells + 1) (slots + n.toNatClampNeg) (by simp only [ab_add]; omega) (by simp only [ab_add]; omega) H1 locs ls (hI.add z1 o1 ⟨hh2, cA, by rw [← hh]; exact e1, hAr, kA, comp, f2, f3, f4, f1⟩) ⟨Nat.le_trans hS.1 (by omega), fun q h1 h2 => (o1 q (Nat.lt_of_lt_of_le h1 hS.1)).trans (hS.2.1 q h1 h2), hS.2.2⟩ hL
        rw [hh, ← ab_rho_hi hh2]
        exact kk
      · cases hc
    · cases hs
  · cases hs
theorem ab_w_new (hx : p.tables.exec = Jvm.exec) (hb : c.code = cc) {ci : Nat} (hown : s.vm.findClass own = some m.cls) (hts : ∀ w ∈ ab_gt, w.before args s = true) (hE : ab_EF E s s.heap) (hr1 : cells + (S.2.2.2.1 - h.1) ≤ R.cells) (hr2 : slots + (S.2.2.2.2.1 - h.2.1) ≤ R.slots) (hd : decode cc pc = .ok (raw, len)) (hc : ab_chk1 own ml ini pc raw len (.new ci) pl = true) (hs : ab_go1 (pc + len) L (.ref h.1 :: st) (ab_add h (ab_nf ci) (.inr (.inl (ci, (List.range (ab_nf ci)).map fun k => defaultValue (ab_ty ci k))))) = some (.inl S)) (k : ab_N p l e R s m args below meth c Q E ml S h cells slots) : ab_W p l e R s m args below meth c Q E ml (pc, L, st, h) cells slots := by
  obtain rfl := ab_go1_eq hs
  intro H locs ls hI hS hL
  have hh := hI.1
  have hh2 := hI.2.1
  simp only [ab_add] at hr1 hr2
  simp only [ab_chk1] at hc
  split at hc
  · simp only [Bool.and_eq_true, decide_eq_true_eq] at hc
    obtain ⟨rfl, hci, hc⟩ := hc
    obtain ⟨r0, hr0⟩ : ∃ r0, vwCl[ci]? = some r0 := ⟨vwCl[ci]'(by exact hci), List.getElem?_eq_getElem (by exact hci)⟩
    have e2 : ab_nf ci = r0.2.2 := by simp only [ab_nf, hr0]
    have e3 : ab_cn ci = r0.1 := by simp only [ab_cn, hr0]
    rw [e3] at hc
    rw [e2] at hr2
    have hKn := hE.1.1 ci r0 hr0
    refine W.newcK hx hb hown (hts _ (ab_wd_in hc)) (hts _ (ab_inst hr0).1) (hts _ (ab_inst hr0).2) (g := F0 m pc ls (st.map (ab_rv E))) rfl hd (by omega) (by omega) hKn.2.1 rfl fun H1 kC hkC e1 z1 o1 => ?_
    have kk := k (cells + 1) (slots + r0.2.2) (by simp only [ab_add]; omega) (by simp only [ab_add, e2]; omega) H1 locs ls (hI.add z1 o1 (Or.inl ⟨hci, hh2, r0, hr0, ?_⟩)) ⟨Nat.le_trans hS.1 (by omega), fun q h1 h2 => (o1 q (Nat.lt_of_lt_of_le h1 hS.1)).trans (hS.2.1 q h1 h2), hS.2.2⟩ hL
    · rw [hh, ← ab_rho_hi hh2]
      exact kk
    · rw [← hh]
      refine (u_born (ab_ty ci) hts (ab_ugt hr0) hKn hkC e1 (ab_tyok hr0)).to (fun j hj => ?_)
      show defaultValue (ab_ty ci j) = (((List.range (ab_nf ci)).map fun k => defaultValue (ab_ty ci k)).map (ab_rv E)).getD j .null
      rw [List.getD_eq_getElem?_getD, List.getElem?_map, List.getElem?_map, List.getElem?_range (by rw [e2]; exact hj)]
      exact (ab_rv_df E _).symm
  · cases hc
theorem ab_w_oinit (hx : p.tables.exec = Jvm.exec) (hb : c.code = cc) (hml : c.maxLocals = ml) (hf : E.2.2.2.category = 1) (hown : s.vm.findClass own = some m.cls) (hts : ∀ w ∈ ab_gt, w.before args s = true) (hR : 1 ≤ R.frames ∧ 60 ≤ R.locals) (hd : decode cc pc = .ok (raw, len)) (hc : ab_chk1 own ml ini pc raw len (.invokespecial 9990000) pl = true) (hs : (match st with
    | .ref _ :: r => if (r.map fun v => v.category).sum ≤ 8 then ab_go1 (pc + len) L r h else none
    | _ => none) = some (.inl S)) (k : ab_N p l e R s m args below meth c Q E ml S h cells slots) : ab_W p l e R s m args below meth c Q E ml (pc, L, st, h) cells slots := by
  split at hs
  · rename_i a r
    split at hs
    · rename_i hsum
      obtain rfl := ab_go1_eq hs
      intro H locs ls hI hS hL
      have kk := k cells slots (by simp) (by simp) H locs ls hI hS hL
      simp only [ab_chk1] at hc
      split at hc
      · simp only [Bool.and_eq_true, decide_eq_true_eq] at hc
        obtain ⟨rfl, hc⟩ := hc
        rw [if_pos trivial] at hc
        have hsum2 : ((r.map (ab_rv E)).map fun v => v.category).sum ≤ 8 := by
          rw [List.map_map, show ((fun v : Value => v.category) ∘ ab_rv E) = (fun v : Value => v.category) from funext fun v => ab_rv_cat E v hf]
          exact hsum
        exact W.objInit hx hb hown (hts _ (ab_wd_in hc)) (hts _ ab_obj.1) (hts _ ab_obj.2) (g := F0 m pc ls (.ref (ab_rho E a) :: r.map (ab_rv E))) rfl (hL.2.1.trans hml.symm) rfl hd hR.1 (by show 2 * 0 + _ + 12 ≤ _; have := hR.2; omega) kk
      · cases hc
    · cases hs
  · cases hs
theorem ab_w_acopy (hx : p.tables.exec = Jvm.exec) (hb : c.code = cc) (hml : c.maxLocals = ml) (hown : s.vm.findClass own = some m.cls) (hts : ∀ w ∈ ab_gt, w.before args s = true) (hE : ab_EF E s s.heap) (hR : 1 ≤ R.frames ∧ 60 ≤ R.locals) (hd : decode cc pc = .ok (raw, len)) (hc : ab_chk1 own ml ini pc raw len (.invokestatic 9980000) pl = true) (hs : (match st with
    | .int n :: .int dp :: .ref d :: .int sp :: .ref s :: r => (match ab_wa h s, ab_wa h d with
      | some (.int, n0, .inl f), some (.int, n1, .inl g) => if (¬ sp < 0 ∧ ¬ dp < 0 ∧ ¬ n < 0) ∧ sp.toNatClampNeg + n.toNatClampNeg ≤ n0 ∧ dp.toNatClampNeg + n.toNatClampNeg ≤ n1 ∧ (r.map fun v => v.category).sum ≤ 8 then ab_go1 (pc + len) L r (ab_put h d (.inl (.int, n1, .inl (va_cpy f g sp.toNatClampNeg dp.toNatClampNeg n.toNatClampNeg)))) else none
      | _, _ => none)
    | _ => none) = some (.inl S)) (k : ab_N p l e R s m args below meth c Q E ml S h cells slots) : ab_W p l e R s m args below meth c Q E ml (pc, L, st, h) cells slots := by
  split at hs
  · rename_i n dp d sp a0 r
    split at hs
    · rename_i n0 f n1 g hra0 hra1
      split at hs
      · rename_i hq
        obtain ⟨⟨h1, h2, h3⟩, h4, h5, hsum⟩ := hq
        obtain rfl := ab_go1_eq hs
        intro H locs ls hI hS hL
        show W p l e R s m args below meth c H locs cells slots Q (F0 m pc ls (.int n :: .int dp :: .ref (ab_rho E d) :: .int sp :: .ref (ab_rho E a0) :: r.map (ab_rv E)))
        simp only [ab_chk1] at hc
        split at hc
        · simp only [Bool.and_eq_true, decide_eq_true_eq] at hc
          obtain ⟨rfl, hc⟩ := hc
          rw [if_pos trivial] at hc
          have hsum2 : ((r.map (ab_rv E)).map fun v => v.category).sum ≤ 8 := by
            rw [List.map_map, show ((fun v : Value => v.category) ∘ ab_rv E) = (fun v : Value => v.category) from funext fun v => ab_rv_cat E v hE.2.2.2.2.2]
            exact hsum
          obtain ⟨g1, c0, hc0, k3, k4⟩ := hI.2.2 a0 _ (ab_wa_eq hra0)
          obtain ⟨g5, c1, hc1, k7, k8⟩ := hI.2.2 d _ (ab_wa_eq hra1)
          rw [ab_rho_hi g1, ab_rho_hi g5]
          have nn : ∀ z : Int32, ¬ z < 0 → z.toInt = (z.toNatClampNeg : Int) := by
            intro z hz
            have hz0 : (0 : Int) ≤ z.toInt := by
              have := Int32.not_lt.mp hz
              simpa using Int32.le_iff_toInt_le.mp this
            show z.toInt = ((z.toInt.toNat : Nat) : Int)
            omega
          intro T hT X
          obtain ⟨-, kk0, hk0, cm0, hkk0⟩ := k3 n0 (fun j => .int (f j))
          obtain ⟨-, kk1, hk1, cm1, hkk1⟩ := k7 n1 (fun j => .int (g j))
          obtain ⟨vm', X', step⟩ := X.arraycopy hx hown (hts _ (ab_wd_in hc)) (hts _ ab_sys.1) (hts _ ab_sys.2.1) (hts _ ab_sys.2.2) (src := E.1 + (a0 - 100)) (dst := E.1 + (d - 100)) (cs := vp_cell c0 (n0, .inl f)) (cd := vp_cell c1 (n1, .inl g)) (srcPos := sp) (destPos := dp) (n := n) (by rw [hT]; exact hc0) (by rw [hT]; exact hc1)
            (fun _ h => by cases h) (fun _ h => by cases h) (fun h => by cases h) (fun h => by cases h) hk0 hk1 hkk0 hkk1 rfl h1 h2 h3
            (by rw [nn sp h1, nn n h3]; show ¬ _ > ((arrV c0 n0 (fun j => .int (f j))).slots.size : Int); rw [arrV_size]; omega)
            (by rw [nn dp h2, nn n h3]; show ¬ _ > ((arrV c1 n1 (fun j => .int (g j))).slots.size : Int); rw [arrV_size]; omega)
            (fun vm₁ _ i hi => by
              have e9 : (vp_cell c0 (n0, .inl f)).slots.getD (sp.toNatClampNeg + i) .null = .int (f (sp.toNatClampNeg + i)) := by
                show (arrV c0 n0 (fun j => .int (f j))).slots.getD _ _ = _
                rw [Array.getD_eq_getD_getElem?, arrV_read _ _ (by omega)]
                rfl
              refine ⟨?_, ?_⟩
              · rw [e9]
                rfl
              · rw [e9]
                exact trivial)
            (g := F0 m pc ls (.int n :: .int dp :: .ref (E.1 + (d - 100)) :: .int sp :: .ref (E.1 + (a0 - 100)) :: r.map (ab_rv E))) rfl (by rw [hml]; exact hL.2.1) (rest := r.map (ab_rv E)) rfl (by rw [hb]; exact hd) hR.1 (by show 2 * 0 + _ + (7 + 11) ≤ _; have := hR.2; omega)
          have e1 : copied (vp_cell c0 (n0, .inl f)) (vp_cell c1 (n1, .inl g)) sp dp n = vp_cell c1 (n1, .inl (va_cpy f g sp.toNatClampNeg dp.toNatClampNeg n.toNatClampNeg)) := va_copied (fun z => .int z) c0 c1 f g h4
          rw [e1] at X' step
          have hlt : E.1 + (d - 100) < H.size := (Array.getElem?_eq_some_iff.mp hc1).1
          generalize hH1 : H.setIfInBounds (E.1 + (d - 100)) (vp_cell c1 (n1, .inl (va_cpy f g sp.toNatClampNeg dp.toNatClampNeg n.toNatClampNeg))) = H1
          have z1 : H1.size = H.size := by rw [← hH1]; simp
          have o1 : ∀ q : Nat, q ≠ E.1 + (d - 100) → H1[q]? = H[q]? := fun q hq => by rw [← hH1]; simp [Array.getElem?_setIfInBounds, Ne.symm hq]
          have e2 : H1[E.1 + (d - 100)]? = some (vp_cell c1 (n1, .inl (va_cpy f g sp.toNatClampNeg dp.toNatClampNeg n.toNatClampNeg))) := by rw [← hH1]; simp [Array.getElem?_setIfInBounds, hlt]
          obtain ⟨t, a1, b1⟩ := k cells slots (by simp [ab_put]) (by simp [ab_put]) H1 _ ls (hI.put g5 z1 o1 ⟨g5, c1, e2, k7, k8⟩) ⟨by rw [z1]; exact hS.1, fun q j1 j2 => (o1 q (fun e => j2 (by rw [e]; exact Nat.le_add_right _ _))).trans (hS.2.1 q j1 j2), fun q hq => by
            rcases List.mem_append.mp hq with h | h
            · exact hS.2.2 q h
            · obtain ⟨z, -, hz⟩ := List.mem_map.mp h
              rw [← hz]
              exact Nat.le_add_right _ _⟩ hL _ (by rw [← hH1, ← hT]; rfl) X'
          exact ⟨t, step t a1, b1⟩
        · cases hc
      · cases hs
    · cases hs
  · cases hs
end AB7
end
section
/-! an array of int arrays, made at once -/
def ab_mO (cA : ClassId) (b n i : Nat) : Cell := arrV cA n (fun j => if j < i then .ref (b + 1 + j) else .null)
def ab_mK (comp : ClassId) (k : Nat) : Cell := arrV comp k (fun _ => .int 0)
/-- behind the i-th inner array -/
def ab_mS (T : State) (cA comp : ClassId) (n k : Nat) : Nat → State
  | 0 => T.pushCell (ab_mO cA T.heap.size n 0)
  | i + 1 => ((ab_mS T cA comp n k i).pushCell (ab_mK comp k)).setCell T.heap.size (ab_mO cA T.heap.size n (i + 1))
theorem ab_mO_s (cA : ClassId) (b n i : Nat) : (ab_mO cA b n i).setSlot i (.ref (b + 1 + i)) = ab_mO cA b n (i + 1) := by
  unfold ab_mO
  rw [arrV_store]
  congr 1
  funext j
  unfold updV
  by_cases e : j = i
  · subst e
    rw [if_pos rfl, if_pos (by omega)]
  · rw [if_neg e]
    dsimp only
    by_cases q : j < i
    · rw [if_pos q, if_pos (by omega)]
    · rw [if_neg q, if_neg (by omega)]
theorem ab_mS_f (T : State) (cA comp : ClassId) (n k : Nat) : ∀ i, (ab_mS T cA comp n k i).heap.size = T.heap.size + 1 + i ∧ (ab_mS T cA comp n k i).heap[T.heap.size]? = some (ab_mO cA T.heap.size n i) ∧ (ab_mS T cA comp n k i).vm = T.vm ∧ (ab_mS T cA comp n k i).slotsUsed = T.slotsUsed + n + i * k ∧ (∀ q : Nat, q < T.heap.size → (ab_mS T cA comp n k i).heap[q]? = T.heap[q]?) ∧ (∀ j, j < i → (ab_mS T cA comp n k i).heap[T.heap.size + 1 + j]? = some (ab_mK comp k))
  | 0 => by
    refine ⟨by simp [ab_mS], State.heap_pushCell_size _ _, rfl, ?_, fun q hq => State.heap_pushCell_of_lt _ _ hq, fun j hj => absurd hj (Nat.not_lt_zero _)⟩
    simp [ab_mS, ab_mO, arrV_size]
  | i + 1 => by
    obtain ⟨f1, f2, f3, f4, f5, f6⟩ := ab_mS_f T cA comp n k i
    have l0 : T.heap.size < (ab_mS T cA comp n k i).heap.size := by rw [f1]; omega
    have e2 : ((ab_mS T cA comp n k i).pushCell (ab_mK comp k)).heap[T.heap.size]? = some (ab_mO cA T.heap.size n i) := by
      rw [State.heap_pushCell_of_lt (h := l0)]; exact f2
    refine ⟨?_, State.heap_setCell_self e2, by simp [ab_mS, f3], ?_, fun q hq => ?_, fun j hj => ?_⟩
    · simp [ab_mS, State.setCell, f1]; omega
    · simp [ab_mS, f4, ab_mK, arrV_size, Nat.succ_mul]; omega
    · show (((ab_mS T cA comp n k i).pushCell (ab_mK comp k)).setCell T.heap.size _).heap[q]? = _
      have l1 : q < (ab_mS T cA comp n k i).heap.size := by rw [f1]; omega
      rw [State.heap_setCell_other (show T.heap.size ≠ q by omega), State.heap_pushCell_of_lt (h := l1)]
      exact f5 q hq
    · show (((ab_mS T cA comp n k i).pushCell (ab_mK comp k)).setCell T.heap.size _).heap[T.heap.size + 1 + j]? = _
      rw [State.heap_setCell_other (show T.heap.size ≠ T.heap.size + 1 + j by omega)]
      by_cases q : j = i
      · subst q
        rw [← f1]
        exact State.heap_pushCell_size _ _
      · have l1 : T.heap.size + 1 + j < (ab_mS T cA comp n k i).heap.size := by rw [f1]; omega
        rw [State.heap_pushCell_of_lt (h := l1)]
        exact f6 j (by omega)
theorem ab_mS_top (T : State) (f : JFrame) (cA comp : ClassId) (n k : Nat) : ∀ i, ab_mS (T.setTop f) cA comp n k i = (ab_mS T cA comp n k i).setTop f
  | 0 => rfl
  | i + 1 => by
    rw [ab_mS, ab_mS_top T f cA comp n k i, ab_mS]
    rfl
section AB7M
variable {p : Program} {l : Launch} {e : Env} {R : Room} {s : State} {m : MethodId} {args : Array Value} {below : List Frame} {meth : Method} {c : Code} {Q : State → Prop} {E : ab_Env} {ml : Nat} {cc : ByteArray} {own : String} {cells slots pc len pl : Nat} {L : ab_L} {st : List Value} {h : ab_H} {S : ab_S} {raw : Instr} {ini : Bool}
theorem ab_mS_X {T : State} {locs : List Loc} (X : Stand p l e R s m args below meth c T locs cells slots) (cA comp : ClassId) (n k : Nat) : ∀ i, Stand p l e R s m args below meth c (ab_mS T cA comp n k i) (locs ++ (List.range i).map fun j => ⟨T.heap.size, j⟩) (cells + (1 + i)) (slots + (n + i * k))
  | 0 => by
    have h := X.pushed (ab_mO cA T.heap.size n 0)
    rw [show (ab_mO cA T.heap.size n 0).slots.size = n from arrV_size _ _ _] at h
    simpa [ab_mS] using h
  | i + 1 => by
    have h := (ab_mS_X X cA comp n k i).pushed (ab_mK comp k)
    obtain ⟨f1, f2, -⟩ := ab_mS_f T cA comp n k i
    have l0 : T.heap.size < (ab_mS T cA comp n k i).heap.size := by rw [f1]; omega
    have e2 : ((ab_mS T cA comp n k i).pushCell (ab_mK comp k)).heap[T.heap.size]? = some (ab_mO cA T.heap.size n i) := by
      rw [State.heap_pushCell_of_lt (h := l0)]; exact f2
    have h2 := h.stored e2 i (.ref (T.heap.size + 1 + i))
    rw [ab_mO_s, show (ab_mK comp k).slots.size = k from arrV_size _ _ _, List.append_assoc, show (List.range i).map (fun j => (⟨T.heap.size, j⟩ : Loc)) ++ [⟨T.heap.size, i⟩] = (List.range (i + 1)).map (fun j => (⟨T.heap.size, j⟩ : Loc)) by rw [List.range_succ, List.map_append]; rfl, show cells + (1 + i) + 1 = cells + (1 + (i + 1)) by omega, show slots + (n + i * k) + k = slots + (n + (i + 1) * k) by rw [Nat.succ_mul]; omega] at h2
    exact h2
theorem ab_wp_na {G : CtlPost} {d : Bool} {acts : List Action} {U : State} {cA comp : ClassId} {kA : Class} {ty : FieldType} {n : Nat} {v : Value} (hk : U.vm.classes[cA]? = some kA) (hkind : kA.kind = .array comp ty) (h1 : n ≤ e.platform.arrayLengthLimit) (h2 : n * componentBytes ty ≤ e.platform.maxHeapBytes) (hf : fits ty v = true) (hv : v.isDefault = true) (h3 : U.heap.size < e.platform.maxCells) (h4 : U.slotsUsed + n ≤ e.platform.maxSlots) {K : Addr → Pre} (hq : ∀ acts', K U.heap.size d acts' (U.pushCell (arrV cA n (fun _ => v)))) : wp (Jvm.newArray cA n v) K G e d acts U := by
  have g1 : ∀ (i : Nat) (x : Value), (Array.replicate n v)[i]? = some x → U.fitsSlot cA .none i x = true := by
    intro i x hx
    rw [Array.getElem?_replicate] at hx
    split at hx
    · cases hx
      simp [State.fitsSlot, State.slotType?, hk, hkind, hf]
    · cases hx
  unfold Jvm.newArray Jvm.arrayFits
  simp only [wp_bind', Jvm.W.ask, Jvm.W.ite, wp_pure', Jvm.W.theClass, hk, hkind, Jvm.W.alloc, Jvm.W.stop, Option.some.injEq, exists_eq_left', Array.size_replicate]
  rw [if_neg (by omega), if_neg (by omega), if_neg (by omega)]
  rw [arrV_new]
  exact ⟨h3, h4, g1, hq _⟩
theorem ab_wp_m1 {G : CtlPost} {d : Bool} {acts : List Action} {U : State} {comp cI : ClassId} {kC : Class} {k : Int32} (hkC : U.vm.classes[comp]? = some kC) (hkindC : kC.kind = .array cI .int) (hk : ¬ k < 0) (h1 : k.toNatClampNeg ≤ e.platform.arrayLengthLimit) (h2 : k.toNatClampNeg * 4 ≤ e.platform.maxHeapBytes) (h3 : U.heap.size < e.platform.maxCells) (h4 : U.slotsUsed + k.toNatClampNeg ≤ e.platform.maxSlots) {K : Addr → Pre} (hq : ∀ acts', K U.heap.size d acts' (U.pushCell (ab_mK comp k.toNatClampNeg))) : wp (Jvm.Op.multianewarray.make comp [k]) K G e d acts U := by
  rw [Jvm.Op.multianewarray.make]
  simp only [wp_bind', Jvm.W.ite, hk, if_false, wp_pure', Jvm.W.theClass, hkC, hkindC, Option.some.injEq, exists_eq_left']
  exact ab_wp_na hkC hkindC h1 h2 rfl rfl h3 h4 hq
theorem ab_wp_m2 {G : CtlPost} {d : Bool} {acts : List Action} {U : State} {cA comp cI : ClassId} {kA kC : Class} {n k : Int32} (hkA : U.vm.classes[cA]? = some kA) (hkindA : kA.kind = .array comp (.array .int)) (hkC : U.vm.classes[comp]? = some kC) (hkindC : kC.kind = .array cI .int) (hn : ¬ n < 0) (hk : ¬ k < 0) (h1 : n.toNatClampNeg ≤ e.platform.arrayLengthLimit) (h2 : n.toNatClampNeg * 4 ≤ e.platform.maxHeapBytes) (h3 : k.toNatClampNeg ≤ e.platform.arrayLengthLimit) (h4 : k.toNatClampNeg * 4 ≤ e.platform.maxHeapBytes) (h5 : U.heap.size + (1 + n.toNatClampNeg) ≤ e.platform.maxCells) (h6 : U.slotsUsed + (n.toNatClampNeg + n.toNatClampNeg * k.toNatClampNeg) ≤ e.platform.maxSlots) {K : Addr → Pre} (hq : ∀ d' acts', K U.heap.size d' acts' (ab_mS U cA comp n.toNatClampNeg k.toNatClampNeg n.toNatClampNeg)) : wp (Jvm.Op.multianewarray.make cA [n, k]) K G e d acts U := by
  have h7 := Nat.zero_le (n.toNatClampNeg * k.toNatClampNeg)
  have hno : ([k].find? (· < 0)) = none := by simp [hk]
  rw [Jvm.Op.multianewarray.make]
  simp only [wp_bind', Jvm.W.ite, hn, if_false, wp_pure', Jvm.W.theClass, hkA, hkindA, Option.some.injEq, exists_eq_left']
  refine ab_wp_na hkA hkindA h1 h2 rfl rfl (by omega) (by omega) (fun acts' => ?_)
  simp only [hno]
  rw [ite_self, wp_bind', Std.Legacy.Range.forIn_eq_forIn_range', show ([:n.toNatClampNeg] : Std.Legacy.Range).size = n.toNatClampNeg by simp [Std.Legacy.Range.size]]
  refine wp_forIn_inv (fun rest V => ∃ i, i ≤ n.toNatClampNeg ∧ rest = List.range' i (n.toNatClampNeg - i) ∧ V = ab_mS U cA comp n.toNatClampNeg k.toNatClampNeg i) _ _ ⟨0, Nat.zero_le _, rfl, rfl⟩ ?_ ?_
  · intro x rest V d' acts' K' hV hnext
    obtain ⟨i, hi, hl, rfl⟩ := hV
    obtain ⟨f1, f2, f3, f4, -, -⟩ := ab_mS_f U cA comp n.toNatClampNeg k.toNatClampNeg i
    have lt : i < n.toNatClampNeg := by
      by_cases q : i < n.toNatClampNeg
      · exact q
      · rw [show n.toNatClampNeg - i = 0 by omega] at hl
        cases hl
    rw [show n.toNatClampNeg - i = (n.toNatClampNeg - (i + 1)) + 1 by omega, List.range'_succ] at hl
    obtain ⟨rfl, hl⟩ := List.cons.inj hl
    have mu := Nat.mul_le_mul_right k.toNatClampNeg (show x + 1 ≤ n.toNatClampNeg from lt)
    rw [Nat.succ_mul] at mu
    have l0 : U.heap.size < (ab_mS U cA comp n.toNatClampNeg k.toNatClampNeg x).heap.size := by rw [f1]; omega
    simp only [wp_bind']
    refine ab_wp_m1 (by rw [f3]; exact hkC) hkindC hk h3 h4 (by rw [f1]; omega) (by rw [f4]; omega) (fun acts2 => ?_)
    simp only [wp_bind', Jvm.W.writeLoc, wp_pure']
    refine ⟨ab_mO cA U.heap.size n.toNatClampNeg x, by rw [State.heap_pushCell_of_lt (h := l0)]; exact f2, by simp [ab_mO, arrV], by rw [show (ab_mO cA U.heap.size n.toNatClampNeg x).slots.size = n.toNatClampNeg from arrV_size _ _ _]; exact lt, ?_, hnext _ _ _ ⟨x + 1, lt, hl, ?_⟩⟩
    · show State.fitsSlot _ cA .none x _ = true
      simp [State.fitsSlot, State.slotType?, f3, hkA, hkindA, fits]
    · rw [f1, ab_mO_s]
      rfl
  · intro V d' acts' hV
    obtain ⟨i, hi, hl, rfl⟩ := hV
    have e : i = n.toNatClampNeg := by
      by_cases q : i < n.toNatClampNeg
      · rw [show n.toNatClampNeg - i = (n.toNatClampNeg - (i + 1)) + 1 by omega, List.range'_succ] at hl
        cases hl
      · omega
    subst e
    simp only [wp_pure']
    exact hq _ _
theorem ab_mna_st {T : State} {locs : List Loc} {idx : Nat} (X : Stand p l e R s m args below meth c T locs cells slots) (hx : p.tables.exec = Jvm.exec) (hown : s.vm.findClass own = some m.cls) (hlink : (Cond.classLink own idx "[[I").before args s = true) (hAR : ab_AR s) (harr : (Cond.arrayClass .int).before args s = true) {g : JFrame} (hg : g.method = m) (hd : decode c.code g.pc = .ok (.multianewarray idx 2, 4)) {n k : Int32} {rest : List Value} (hst : g.stack = .int k :: .int n :: rest) (hn : ¬ n < 0) (hk : ¬ k < 0) (hn2 : n.toNatClampNeg ≤ 1000) (hk2 : k.toNatClampNeg ≤ 1000) (hr1 : cells + (1 + n.toNatClampNeg) ≤ R.cells) (hr2 : slots + (n.toNatClampNeg + n.toNatClampNeg * k.toNatClampNeg) ≤ R.slots) :
    ∃ (vm1 : Vm) (cA comp cI : ClassId) (kA kC : Class), s.vm.findClass "[[I" = some cA ∧ s.vm.findClass "[I" = some comp ∧ s.vm.classes[cA]? = some kA ∧ kA.kind = .array comp (.array .int) ∧ s.vm.classes[comp]? = some kC ∧ kC.kind = .array cI .int ∧
      Stand p l e R s m args below meth c (ab_mS (T.setVm vm1) cA comp n.toNatClampNeg k.toNatClampNeg n.toNatClampNeg) (locs ++ (List.range n.toNatClampNeg).map fun j => ⟨T.heap.size, j⟩) (cells + (1 + n.toNatClampNeg)) (slots + (n.toNatClampNeg + n.toNatClampNeg * k.toNatClampNeg)) ∧
      ∀ target, Steps p.tables e below ((ab_mS (T.setVm vm1) cA comp n.toNatClampNeg k.toNatClampNeg n.toNatClampNeg).setTop { g with pc := g.pc + 4, stack := .ref T.heap.size :: rest }) target → Steps p.tables e below (T.setTop g) target := by
  subst hg
  have hpl : e.platform.magicAccessors = ({} : Platform).magicAccessors := by rw [X.admits.platform]
  obtain ⟨comp, cA, kA, a1, a2, a3, a4⟩ := hAR
  obtain ⟨co2, kC, cI, b1, b2, b3⟩ := Cond.arrayClass_spec harr
  obtain rfl : co2 = comp := Option.some.inj (b1.symm.trans a1)
  obtain ⟨c0, c1, c2⟩ := Cond.classLink_spec hown hlink e.platform hpl
  obtain rfl : cA = c0 := Option.some.inj (a4.symm.trans c1)
  obtain ⟨w1, w2, w3⟩ := State.classEntry (e := e) X.warmed c2
  generalize T.vm.noted g.method.cls idx (.cls cA) = vm1 at w1 w2 w3
  obtain ⟨kA1, d1, d2⟩ := w2.alike.2.2 _ _ a2
  obtain ⟨kC1, d3, d4⟩ := w2.alike.2.2 _ _ b2
  have X1 := X.noted w2
  have XF := ab_mS_X X1 cA co2 n.toNatClampNeg k.toNatClampNeg n.toNatClampNeg
  obtain ⟨r1, r2⟩ := X.roomAbove hr1 hr2
  have lim : e.platform.arrayLengthLimit ≥ 1000 := by rw [Launch.admits_arrayLengthLimit X.admits]; decide
  have lhb : e.platform.maxHeapBytes ≥ 4000 := by rw [Launch.admits_maxHeapBytes X.admits]; decide
  refine ⟨vm1, cA, co2, cI, kA, kC, a4, a1, a2, a3, b2, b3, XF, fun target hgo => ?_⟩
  jvm_step X.here [hx, hd]
  simp only [Jvm.Op.multianewarray.sem, wp_bind', Jvm.W.resolveClassAt_links (State.method?_setTop g X.here.top) w1]
  rw [Jvm.W.popN, if_neg (by decide)]
  refine ⟨g, State.topJava?_setTop' (s := T.setVm vm1) g X.here.top, [.int n, .int k], rest, rfl, hst, ?_⟩
  simp only [List.mapM_cons, List.mapM_nil, wp_bind', wp_pure']
  refine ab_wp_m2 (kA := kA1) (kC := kC1) (comp := co2) (cI := cI) d1 (by rw [d2]; exact a3) d3 (by rw [d4]; exact b3) hn hk (by omega) (by omega) (by omega) (by omega) (by show T.heap.size + _ ≤ _; omega) (by show T.slotsUsed + _ ≤ _; omega) (fun d' acts' => ?_)
  rw [show ((T.setTop g).setVm vm1).setTop { g with stack := rest } = (T.setVm vm1).setTop { g with stack := rest } by
    show ((T.setVm vm1).setTop g).setTop _ = _
    rw [State.setTop_setTop], ab_mS_top]
  simp only [wp_bind', Jvm.W.mark, Jvm.W.pushRef, State.topJava?_setTop' _ XF.here.top, Option.some.injEq, exists_eq_left', State.setTop_setTop, State.heap_setTop]
  intro acts2
  simp [jvm, XF.here.top]
  exact hgo
theorem ab_w_mna (hx : p.tables.exec = Jvm.exec) (hb : c.code = cc) {x1 x2 : Nat} (hown : s.vm.findClass own = some m.cls) (hts : ∀ w ∈ ab_gt, w.before args s = true) (hE : ab_EF E s s.heap) (hr1 : cells + (S.2.2.2.1 - h.1) ≤ R.cells) (hr2 : slots + (S.2.2.2.2.1 - h.2.1) ≤ R.slots) (hd : decode cc pc = .ok (raw, len)) (hc : ab_chk1 own ml ini pc raw len (.multianewarray x1 x2) pl = true) (hs : (match st with
    | .int k :: .int n :: r => if ¬ n < 0 ∧ ¬ k < 0 ∧ n.toNatClampNeg ≤ 1000 ∧ k.toNatClampNeg ≤ 1000 then ab_go1 (pc + len) L (.ref h.1 :: r) (h.1 + 1 + n.toNatClampNeg, h.2.1 + n.toNatClampNeg + n.toNatClampNeg * k.toNatClampNeg, fun q => if q = h.1 then some (.inl (.array .int, n.toNatClampNeg, .inr (.inr (.inr (.inr (fun i => if i < n.toNatClampNeg then some (h.1 + 1 + i) else none)))))) else if h.1 < q ∧ q < h.1 + 1 + n.toNatClampNeg then some (.inl (.int, k.toNatClampNeg, .inl (fun _ => 0))) else h.2.2 q) else none
    | _ => none) = some (.inl S)) (k : ab_N p l e R s m args below meth c Q E ml S h cells slots) : ab_W p l e R s m args below meth c Q E ml (pc, L, st, h) cells slots := by
  simp only [ab_chk1] at hc
  split at hc
  · rename_i idx d
    simp only [Bool.and_eq_true, decide_eq_true_eq] at hc
    obtain ⟨rfl, rfl, hc⟩ := hc
    split at hs
    · rename_i k0 n r
      split at hs
      · rename_i hq
        obtain ⟨hn, hk, hn2, hk2⟩ := hq
        obtain rfl := ab_go1_eq hs
        intro H locs ls hI hS hL T hT X
        subst hT
        have hh := hI.1
        have hh2 := hI.2.1
        dsimp only at hr1 hr2 hh hh2
        obtain ⟨vm1, cA, comp, cI, kA, kC, c1, c2, c3, c4, c5, c6, XF, step⟩ := ab_mna_st X hx hown (hts _ (ab_wd_in hc)) hE.2.2.2.2.1.2.2 (hts _ ab_arrs.1) (g := F0 m pc ls (.int k0 :: .int n :: r.map (ab_rv E))) rfl (by rw [hb]; exact hd) rfl hn hk hn2 hk2 (by omega) (by omega)
        obtain ⟨f1, f2, f3, f4, f5, f6⟩ := ab_mS_f (T.setVm vm1) cA comp n.toNatClampNeg k0.toNatClampNeg n.toNatClampNeg
        generalize ab_mS (T.setVm vm1) cA comp n.toNatClampNeg k0.toNatClampNeg n.toNatClampNeg = V at *
        have z : (T.setVm vm1).heap.size = T.heap.size := rfl
        rw [z] at f1 f2 f6
        have eO : ab_mO cA T.heap.size n.toNatClampNeg n.toNatClampNeg = vp_cell cA (ab_mx E (n.toNatClampNeg, .inr (.inr (.inr (.inr (fun i => if i < n.toNatClampNeg then some (h.1 + 1 + i) else none)))))) := by
          refine Eq.trans ?_ (vp_cell_q cA n.toNatClampNeg (fun j => (if j < n.toNatClampNeg then some (h.1 + 1 + j) else none).map (ab_rho E))).symm
          unfold ab_mO
          congr 1
          funext j
          by_cases q : j < n.toNatClampNeg
          · rw [if_pos q, if_pos q]
            show Value.ref _ = Value.ref (ab_rho E (h.1 + 1 + j))
            rw [ab_rho_hi (by omega), show E.1 + (h.1 + 1 + j - 100) = T.heap.size + 1 + j by omega]
          · rw [if_neg q, if_neg q]
            rfl
        have hI2 : ab_I E s V.heap (h.1 + 1 + n.toNatClampNeg, h.2.1 + n.toNatClampNeg + n.toNatClampNeg * k0.toNatClampNeg, fun q => if q = h.1 then some (.inl (.array .int, n.toNatClampNeg, .inr (.inr (.inr (.inr (fun i => if i < n.toNatClampNeg then some (h.1 + 1 + i) else none)))))) else if h.1 < q ∧ q < h.1 + 1 + n.toNatClampNeg then some (.inl (.int, k0.toNatClampNeg, .inl (fun _ => 0))) else h.2.2 q) := by
          refine ⟨by rw [f1, hh]; dsimp only; omega, by dsimp only; omega, fun a d hd => ?_⟩
          dsimp only at hd
          by_cases q1 : a = h.1
          · rw [if_pos q1] at hd
            cases hd
            subst q1
            exact ⟨hh2, cA, by rw [← hh, f2, eO], fun N z => ⟨(fun k h => by cases h), kA, c3, comp, c4⟩, c1⟩
          · rw [if_neg q1] at hd
            by_cases q2 : h.1 < a ∧ a < h.1 + 1 + n.toNatClampNeg
            · rw [if_pos q2] at hd
              cases hd
              refine ⟨by omega, comp, ?_, fun N z => ⟨(fun k h => by cases h), kC, c5, cI, c6⟩, c2⟩
              rw [show E.1 + (a - 100) = T.heap.size + 1 + (a - h.1 - 1) by omega, f6 _ (by omega)]
              rfl
            · rw [if_neg q2] at hd
              have hat := hI.2.2 a d hd
              exact hat.kept (fun q h3 _ => f5 q h3) (fun ha => f5 _ (hat.lt ha))
        obtain ⟨t, a1, b1⟩ := k (cells + (1 + n.toNatClampNeg)) (slots + (n.toNatClampNeg + n.toNatClampNeg * k0.toNatClampNeg)) (by dsimp only; omega) (by dsimp only; omega) V.heap _ ls hI2 ⟨Nat.le_trans hS.1 (by rw [f1]; omega), fun q h1 h2 => (f5 q (Nat.lt_of_lt_of_le h1 hS.1)).trans (hS.2.1 q h1 h2), fun q hq => by
          rcases List.mem_append.mp hq with h3 | h3
          · exact hS.2.2 q h3
          · obtain ⟨y, -, hy⟩ := List.mem_map.mp h3
            rw [← hy]
            show E.1 ≤ T.heap.size
            omega⟩ hL V rfl XF
        refine ⟨t, step t ?_, b1⟩
        have er : ab_rv E (.ref h.1) = .ref T.heap.size := by
          show Value.ref (ab_rho E h.1) = _
          rw [ab_rho_hi hh2, ← hh]
        rw [← er]
        exact a1
      · cases hs
    · cases hs
  · cases hc
end AB7M
end
section
/-! calls, answers, and the machine as a whole -/
theorem ab_step_mono {rt : Option FieldType} {ins : Instr} {nx : Nat} {L : ab_L} {st : List Value} {h : ab_H} {S : ab_S} (hs : ab_step rt ins nx L st h = some (.inl S)) : h.1 ≤ S.2.2.2.1 ∧ h.2.1 ≤ S.2.2.2.2.1 := by
  unfold ab_step at hs
  split at hs
  all_goals (try unfold ab_ib at hs)
  all_goals (try unfold ab_iu at hs)
  all_goals (try unfold ab_lb at hs)
  all_goals (try unfold ab_call1 at hs)
  all_goals repeat' (split at hs)
  all_goals first
    | (cases hs; done)
    | (obtain rfl := ab_go1_eq hs; exact ⟨Nat.le_refl _, Nat.le_refl _⟩)
    | (obtain rfl := ab_go1_eq hs; simp only [ab_add]; constructor <;> omega)
    | (obtain rfl := ab_go1_eq hs; constructor <;> (show _ ≤ _ + _) <;> omega)
    | (simp at hs; done)
theorem ab_step_ret {rt : Option FieldType} {ins : Instr} {nx : Nat} {L : ab_L} {st : List Value} {h : ab_H} {r : Option Value × ab_H} (hs : ab_step rt ins nx L st h = some (.inr (.inr r))) : (ins = .ireturn ∨ ins = .lreturn ∨ ins = .return_) ∧ r.2 = h ∧ st = r.1.toList ∧ ((∃ x : Int32, ∃ ty, ins = .ireturn ∧ rt = some ty ∧ r.1 = some (.int x) ∧ narrow ty (.int x) = .int x) ∨ (∃ x : Int64, ins = .lreturn ∧ rt = some .long ∧ r.1 = some (.long x)) ∨ (ins = .return_ ∧ rt = none ∧ r.1 = none)) := by
  unfold ab_step at hs
  split at hs
  all_goals (try unfold ab_ib at hs)
  all_goals (try unfold ab_iu at hs)
  all_goals (try unfold ab_lb at hs)
  all_goals (try unfold ab_call1 at hs)
  all_goals repeat' (split at hs)
  all_goals first
    | (cases hs; done)
    | (simp only [ab_go1, Option.some.injEq, reduceCtorEq] at hs; done)
    | (simp only [Option.some.injEq, Sum.inr.injEq, reduceCtorEq] at hs; done)
    | (simp only [Option.some.injEq, Sum.inr.injEq] at hs; subst hs; exact ⟨Or.inl rfl, rfl, rfl, Or.inl ⟨_, _, rfl, rfl, rfl, rfl⟩⟩)
    | (rename_i hn; simp only [Option.some.injEq, Sum.inr.injEq] at hs; subst hs; exact ⟨Or.inl rfl, rfl, rfl, Or.inl ⟨_, _, rfl, rfl, rfl, hn⟩⟩)
    | (simp only [Option.some.injEq, Sum.inr.injEq] at hs; subst hs; exact ⟨Or.inr (Or.inl rfl), rfl, rfl, Or.inr (Or.inl ⟨_, rfl, rfl, rfl⟩)⟩)
    | (simp only [Option.some.injEq, Sum.inr.injEq] at hs; subst hs; exact ⟨Or.inr (Or.inr rfl), rfl, rfl, Or.inr (Or.inr ⟨rfl, rfl, rfl⟩)⟩)
theorem ab_step_call {rt : Option FieldType} {ins : Instr} {nx : Nat} {L : ab_L} {st : List Value} {h : ab_H} {x : Nat × List Value × ab_S} (hs : ab_step rt ins nx L st h = some (.inr (.inl x))) : ∃ q : Nat, ab_call1 q nx L st h = some (.inr (.inl x)) ∧ ((ins = .invokestatic q ∧ ¬ q = 9980000) ∨ (ins = .invokespecial q ∧ ¬ q = 9990000 ∧ ∃ a r y, st.drop (q / 100 % 100 - 1) = .ref a :: r ∧ ab_ob h a = some y) ∨ (ins = .invokevirtual q ∧ ∃ a r fs, st.drop (q / 100 % 100 - 1) = .ref a :: r ∧ ab_ob h a = some (q % 100, fs))) := by
  unfold ab_step at hs
  split at hs
  all_goals (try unfold ab_ib at hs)
  all_goals (try unfold ab_iu at hs)
  all_goals (try unfold ab_lb at hs)
  all_goals repeat' (split at hs)
  all_goals first
    | (cases hs; done)
    | (simp only [ab_go1, Option.some.injEq, reduceCtorEq] at hs; done)
    | (simp only [Option.some.injEq, Sum.inr.injEq, reduceCtorEq] at hs; done)
    | (rename_i hn; exact ⟨_, hs, Or.inl ⟨rfl, hn⟩⟩)
    | (rename_i hn _ _ _ hd _ _ ho; exact ⟨_, hs, Or.inr (Or.inl ⟨rfl, hn, _, _, _, hd, ho⟩)⟩)
    | (rename_i hd _ _ _ ho he; subst he; exact ⟨_, hs, Or.inr (Or.inr ⟨rfl, _, _, _, hd, ho⟩)⟩)
theorem ab_call1_eq {q nx : Nat} {L : ab_L} {st : List Value} {h : ab_H} {x : Nat × List Value × ab_S} (hs : ab_call1 q nx L st h = some (.inr (.inl x))) : (q / 100 % 100 ≤ st.length ∧ ((st.drop (q / 100 % 100)).map fun v => v.category).sum ≤ 8) ∧ x = (q / 10000, (st.take (q / 100 % 100)).reverse, (nx, L, st.drop (q / 100 % 100), h)) := by
  unfold ab_call1 at hs
  split at hs
  · rename_i hq
    simp only [Option.some.injEq, Sum.inr.injEq, Sum.inl.injEq] at hs
    exact ⟨hq, hs.symm⟩
  · cases hs
def ab_ws (mi : ab_M) : List Cond := .code mi.2.1 mi.2.2.1 mi.2.2.2.1 mi.2.2.2.2.1 :: ab_gt
def ab_room (d mc ms : Nat) : Room := { frames := d + 1, cells := mc, slots := ms, locals := 60 * d + 60 }
def ab_Pc (E : ab_Env) (as : List Value) (h : ab_H) : Array Value → State → Prop := fun v U => v = (as.map (ab_rv E)).toArray ∧ ab_EF E U U.heap ∧ ab_I E U U.heap h
def ab_Qc (E : ab_Env) (r : Option Value) (h : ab_H) : Array Value → State → Outcome → State → Prop := fun _ st oc t => oc = .returned (r.map (ab_rv E)) ∧ ab_I E t t.heap h ∧ va_F (ab_A E) st t
theorem ab_EF.same {E : ab_Env} {s U : State} {H : Heap} (h : ab_EF E s H) (hv : U.vm = s.vm) : ab_EF E U H := by
  obtain ⟨h1, h2, h3, h4, h5, h6⟩ := h
  have al : s.vm.Alike U.vm := by rw [hv]; exact Vm.Alike.refl _
  refine ⟨h1.moved al, fun a g1 g2 => (h2 a g1 g2).moved al, fun w hw hn => ?_, fun i q hq => (h4 i q hq).same hv, ⟨h5.1.moved al, h5.2.1.moved al, h5.2.2.moved al⟩, h6⟩
  have := h3 w hw hn
  cases w <;> first | exact va_Nw.same rfl hv.symm this | exact absurd hn (by decide) | cases hn
theorem ab_blind (E : ab_Env) (as : List Value) (h : ab_H) : FrameBlind (ab_Pc E as h) := fun a U g mk q => ⟨q.1, q.2.1.same rfl, q.2.2.moved (Vm.Alike.refl U.vm)⟩
theorem ab_goodIn {mi mj : ab_M} (h : Cond.code mj.2.1 mj.2.2.1 mj.2.2.2.1 mj.2.2.2.2.1 ∈ ab_gt) : GoodIn ab_gt (ab_ws mj) := fun w hw => by
  rcases List.mem_cons.mp hw with rfl | hw
  · exact ⟨h, good_of_word (List.mem_filter.mp h).2⟩
  · exact ⟨hw, good_of_word (List.mem_filter.mp hw).2⟩
section AB8
variable {p : Program} {l : Launch} {e : Env} {R : Room} {s : State} {m : MethodId} {args : Array Value} {below : List Frame} {meth : Method} {c : Code} {Q : State → Prop} {E : ab_Env} {ml : Nat} {cc : ByteArray} {own : String} {cells slots pc len pl : Nat} {L : ab_L} {st : List Value} {h : ab_H} {S : ab_S} {raw : Instr} {ini : Bool}
theorem ab_callq {r : Option Value} {h1 : ab_H} {mc ms : Nat} {H : Heap} {locs : List Loc} {ls : Array Slot} {st0 rest : List Value} {a : Array Value} {free : Addr → Prop} (hr : va_Run p l e R s m args below meth c H locs cells slots mc ms (F0 m pc ls st0) rest (ab_Qc E r h1 a) free) (hS : va_S (ab_A E) s.heap H locs) (hf : ∀ q, free q → ab_A E q)
    (kk : ∀ (H1 : Heap) (locs1 : List Loc), ab_I E s H1 h1 → va_S (ab_A E) s.heap H1 locs1 → W p l e R s m args below meth c H1 locs1 (cells + mc) (slots + ms) Q (F0 m (pc + 3) ls ((r.map (ab_rv E)).toList ++ rest))) : W p l e R s m args below meth c H locs cells slots Q (F0 m pc ls st0) := by
  intro T hT X
  obtain ⟨v, st₀, t, T', L', h0, X', hL, e1, e2, ⟨hv, hI, hz, hk⟩, stp⟩ := hr T hT X
  cases hv
  rw [h0] at hz hk
  obtain ⟨t2, a1, b1⟩ := kk T'.heap (locs ++ L') (by rw [e1]; exact hI.moved (by rw [← e2]; exact X'.warmed.alike.symm))
    ⟨Nat.le_trans hS.1 (by rw [e1]; exact hz), fun q g1 g2 => by rw [e1, hk q (Nat.lt_of_lt_of_le g1 hS.1) g2]; exact hS.2.1 q g1 g2, fun q hq => by
      rcases List.mem_append.mp hq with g | g
      · exact hS.2.2 q g
      · exact hf _ (hL q g)⟩ T' rfl X'
  exact ⟨t2, stp t2 a1, b1⟩
/-- what is known of a method that is called -/
def ab_Met (l : Launch) (E : ab_Env) (d : Nat) (j : Nat) (as : List Value) (h : ab_H) (r : Option Value) (h1 : ab_H) : Prop := ∀ mi : ab_M, ab_mt[j]? = some mi → Met l mi.2.1 (ab_ws mi) (ab_room d (h1.1 - h.1) (h1.2.1 - h.2.1)) (ab_Pc E as h) (ab_Qc E r h1) (h1.1 - h.1) (h1.2.1 - h.2.1) (ab_A E)
theorem ab_sumrv {E : ab_Env} (hf : E.2.2.2.category = 1) (r : List Value) : ((r.map (ab_rv E)).map fun v => v.category).sum = (r.map fun v => v.category).sum := by
  rw [List.map_map, show ((fun v : Value => v.category) ∘ ab_rv E) = (fun v : Value => v.category) from funext fun v => ab_rv_cat E v hf]
theorem ab_splitst (E : ab_Env) (st : List Value) (n : Nat) : st.map (ab_rv E) = ((st.take n).reverse.map (ab_rv E)).reverse ++ (st.drop n).map (ab_rv E) := by
  rw [List.map_reverse, List.reverse_reverse, ← List.map_append, List.take_append_drop]
/-- a call of our machine is a call of the JVM -/
theorem ab_w_call {rt : Option FieldType} {ins : Instr} {x : Nat × List Value × ab_S} {r : Option Value × ab_H} {d : Nat} (hok : ∀ (j : Nat) (mi : ab_M), ab_mt[j]? = some mi → (∃ n, ab_okm mi n = true) ∧ Cond.code mi.2.1 mi.2.2.1 mi.2.2.2.1 mi.2.2.2.2.1 ∈ ab_gt) (hx : p.tables.exec = Jvm.exec) (hb : c.code = cc) (hml : c.maxLocals = ml) (hown : s.vm.findClass own = some m.cls) (hts : ∀ w ∈ ab_gt, w.before args s = true) (hE : ab_EF E s s.heap) (hR : d + 2 ≤ R.frames ∧ 60 * d + 120 ≤ R.locals)
    (hd : decode cc pc = .ok (raw, len)) (hc : ab_chk1 own ml ini pc raw len ins pl = true) (hs : ab_step rt ins (pc + len) L st h = some (.inr (.inl x))) (hM : ab_Met l E d x.1 x.2.1 x.2.2.2.2.2 r.1 r.2) (hr1 : cells + (r.2.1 - h.1) ≤ R.cells) (hr2 : slots + (r.2.2.1 - h.2.1) ≤ R.slots)
    (k : ab_W p l e R s m args below meth c Q E ml (x.2.2.1, x.2.2.2.1, r.1.toList ++ x.2.2.2.2.1, r.2) (cells + (r.2.1 - h.1)) (slots + (r.2.2.1 - h.2.1))) : ab_W p l e R s m args below meth c Q E ml (pc, L, st, h) cells slots := by
  obtain ⟨q, hq, hins⟩ := ab_step_call hs
  obtain ⟨⟨hn, hsum⟩, rfl⟩ := ab_call1_eq hq
  have hlenr : ∀ (n : Nat), n ≤ st.length → ((st.take n).reverse.map (ab_rv E)).length = n := fun n hn => by simp; omega
  have hrest : 2 * (F0 m pc #[] []).monitorRoom + (((st.drop (q / 100 % 100)).map (ab_rv E)).map fun v => v.category).sum ≤ 8 := by
    rw [ab_sumrv hE.2.2.2.2.2]
    show 2 * 0 + _ ≤ 8
    omega
  have hst : ∀ o : Option Value, (o.map (ab_rv E)).toList ++ (st.drop (q / 100 % 100)).map (ab_rv E) = (o.toList ++ st.drop (q / 100 % 100)).map (ab_rv E) := fun o => by
    rw [List.map_append]
    cases o <;> rfl
  intro H locs ls hI hS hL
  have hpc : ∀ U : State, U.heap = H → s.WarmedH U.vm → ab_Pc E ((st.take (q / 100 % 100)).reverse) h (((st.take (q / 100 % 100)).reverse).map (ab_rv E)).toArray U := fun U hU hW => ⟨rfl, by rw [hU]; exact hE.moved hW hS.2.1, by rw [hU]; exact hI.moved hW.alike⟩
  have kk : ∀ (H1 : Heap) (locs1 : List Loc), ab_I E s H1 r.2 → va_S (ab_A E) s.heap H1 locs1 → W p l e R s m args below meth c H1 locs1 (cells + (r.2.1 - h.1)) (slots + (r.2.2.1 - h.2.1)) Q (F0 m (pc + len) ls ((r.1.map (ab_rv E)).toList ++ (st.drop (q / 100 % 100)).map (ab_rv E))) := fun H1 locs1 g1 g2 => by
    rw [hst]
    exact k H1 locs1 ls g1 g2 hL
  show W p l e R s m args below meth c H locs cells slots Q (F0 m pc ls (st.map (ab_rv E)))
  rcases hins with ⟨rfl, hq1⟩ | ⟨rfl, hq1, a, rr, y, hdr, hob⟩ | ⟨rfl, a, rr, fs, hdr, hob⟩
  · simp only [ab_chk1] at hc
    split at hc
    · rename_i idx
      simp only [Bool.and_eq_true, decide_eq_true_eq] at hc
      obtain ⟨rfl, hc⟩ := hc
      rw [if_neg hq1] at hc
      split at hc
      · rename_i mi hmi
        simp only [Bool.and_eq_true, decide_eq_true_eq, Bool.or_eq_true] at hc
        obtain ⟨⟨h1, h2⟩, h3⟩ := hc
        obtain ⟨⟨n, hokm⟩, k1⟩ := hok _ mi hmi
        simp only [ab_okm, Bool.and_eq_true, decide_eq_true_eq, Bool.or_eq_true] at hokm
        obtain ⟨k2, ⟨k3, k4, k5⟩, k6, k7⟩ := hokm
        have hstat : Cond.static mi.2.1 ∈ ab_gt := by
          rcases k6 with k6 | k6
          · exact ab_wd_in k6.1
          · have e9 := h2.symm.trans k6.2.2
            have := k6.2.1
            simp only [Option.some.injEq] at e9
            omega
        have hMm := hM mi hmi
        rcases h3 with h3 | h3
        · have cb := callB_of (R := R) (rm := ab_room d (r.2.1 - h.1) (r.2.2.1 - h.2.1)) mi.2.2.2.2.2.1 hts (ab_goodIn (mi := mi) k1) rfl rfl rfl (hts _ (ab_wd_in k2)) (hts _ (ab_wd_in h3)) ⟨k4.1, k4.2, h2⟩ ⟨hR.1, by show 8 + (_ + 11) + (60 * d + 60) ≤ _; have := hR.2; omega⟩
          exact ab_callq (va_runS (As := ((st.take (q / 100 % 100)).reverse).map (ab_rv E)) (rest := (st.drop (q / 100 % 100)).map (ab_rv E)) ⟨hx, hb, hml, hown, hts⟩ hMm ⟨cb, hts _ hstat⟩ ⟨ab_blind _ _ _, hpc⟩ rfl (by rw [← h1]; exact hlenr _ hn) hL.2.1 (ab_splitst E st _) hrest hd ⟨hr1, hr2⟩) hS (fun _ g => g) kk
        · have hnw : va_Nw (.methodLinkNest own idx mi.2.1 "TepidPurse") s := hE.2.2.1 _ (List.mem_of_getElem? h3) rfl
          have cb := va_cnB (R := R) (rm := ab_room d (r.2.1 - h.1) (r.2.2.1 - h.2.1)) mi.2.2.2.2.2.1 hts (ab_goodIn (mi := mi) k1) rfl rfl rfl hnw (hts _ (ab_wd_in k2)) ⟨k4.1, k4.2, h2⟩ ⟨hR.1, by show 8 + (_ + 11) + (60 * d + 60) ≤ _; have := hR.2; omega⟩
          exact ab_callq (va_runSN (As := ((st.take (q / 100 % 100)).reverse).map (ab_rv E)) (rest := (st.drop (q / 100 % 100)).map (ab_rv E)) ⟨hx, hb, hml, hown, hts⟩ hMm ⟨cb, hts _ hstat, trivial⟩ ⟨ab_blind _ _ _, hpc⟩ rfl (by rw [← h1]; exact hlenr _ hn) hL.2.1 (ab_splitst E st _) hrest hd ⟨hr1, hr2⟩) hS (fun _ g => g) kk
      · cases hc
    · cases hc
  · simp only [ab_chk1] at hc
    split at hc
    · rename_i idx
      simp only [Bool.and_eq_true, decide_eq_true_eq] at hc
      obtain ⟨rfl, hc⟩ := hc
      rw [if_neg hq1] at hc
      split at hc
      · rename_i mi hmi
        simp only [Bool.and_eq_true, decide_eq_true_eq] at hc
        obtain ⟨h0, h1, ⟨h4, h5, h2⟩, h3⟩ := hc
        obtain ⟨⟨n, hokm⟩, k1⟩ := hok _ mi hmi
        simp only [ab_okm, Bool.and_eq_true, decide_eq_true_eq, Bool.or_eq_true] at hokm
        obtain ⟨k2, ⟨k3, k4, k5⟩, k6, k7⟩ := hokm
        have hinst : Cond.instanceMethod mi.2.1 ∈ ab_gt := by
          rcases k6 with k6 | k6
          · have e9 := h2.symm.trans k6.2
            simp only [Option.some.injEq] at e9
            omega
          · exact ab_wd_in k6.1.1
        have hMm := hM mi hmi
        have hws : ab_ws mi = Cond.code mi.2.1 mi.2.2.1 mi.2.2.2.1 none :: ab_gt := by rw [← h5]; rfl
        have cb := callB_of (R := R) (rm := ab_room d (r.2.1 - h.1) (r.2.2.1 - h.2.1)) (mi.2.2.2.2.2.1 - 1) hts (ab_goodIn (mi := mi) k1) hws rfl rfl (hts _ (ab_wd_in k2)) (hts _ (ab_wd_in h3)) ⟨k4.1, k4.2, h2⟩ ⟨hR.1, by show 8 + (_ + 11) + (60 * d + 60) ≤ _; have := hR.2; omega⟩
        have hsp : ∃ As0 : List Value, (st.take (q / 100 % 100)).reverse = .ref a :: As0 ∧ As0.length = q / 100 % 100 - 1 := by
          have h9 : st.take (q / 100 % 100) = st.take (q / 100 % 100 - 1) ++ [.ref a] := by
            have e8 : q / 100 % 100 = (q / 100 % 100 - 1) + 1 := by omega
            rw [e8, List.take_add]
            simp only [Nat.add_sub_cancel]
            rw [hdr]
            rfl
          exact ⟨(st.take (q / 100 % 100 - 1)).reverse, by rw [h9, List.reverse_append]; rfl, by simp; omega⟩
        obtain ⟨As0, e7, e8⟩ := hsp
        have e6 := ab_splitst E st (q / 100 % 100)
        rw [e7] at e6 hpc hMm
        simp only [List.map_cons, List.reverse_cons, List.append_assoc, List.singleton_append] at e6
        exact ab_callq (va_runI (b := ab_rho E a) (As := As0.map (ab_rv E)) (rest := (st.drop (q / 100 % 100)).map (ab_rv E)) ⟨hx, hb, hml, hown, hts⟩ hMm ⟨cb, h4, hts _ hinst⟩ ⟨ab_blind _ _ _, hpc⟩ rfl (by rw [List.length_map, e8, h1]) hL.2.1 e6 hrest hd ⟨hr1, hr2⟩) hS (fun _ g => g) kk
      · cases hc
    · cases hc
  · simp only [ab_chk1] at hc
    split at hc
    · rename_i idx
      simp only [Bool.and_eq_true, decide_eq_true_eq] at hc
      obtain ⟨rfl, hc⟩ := hc
      split at hc
      · rename_i mi hmi
        simp only [Bool.and_eq_true, decide_eq_true_eq] at hc
        obtain ⟨h0, h1, h4, ⟨⟨h5, h6⟩, h2⟩, h3⟩ := hc
        obtain ⟨⟨n, hokm⟩, k1⟩ := hok _ mi hmi
        simp only [ab_okm, Bool.and_eq_true, decide_eq_true_eq, Bool.or_eq_true] at hokm
        obtain ⟨k2, ⟨k3, k4, k5⟩, k6, k7⟩ := hokm
        have hinst : Cond.instanceMethod mi.2.1 ∈ ab_gt ∧ Cond.selects mi.2.1.cls mi.2.1 mi.2.1 ∈ ab_gt := by
          rcases k6 with k6 | k6
          · have e9 := h2.symm.trans k6.2
            simp only [Option.some.injEq] at e9
            omega
          · exact ⟨ab_wd_in k6.1.1, k6.1.2.elim (fun g => absurd g h6) (fun g => ab_wd_in g)⟩
        have hMm := hM mi hmi
        have cb := callB_of (R := R) (rm := ab_room d (r.2.1 - h.1) (r.2.2.1 - h.2.1)) (mi.2.2.2.2.2.1 - 1) hts (ab_goodIn (mi := mi) k1) rfl rfl rfl (hts _ (ab_wd_in k2)) (hts _ (ab_wd_in h3)) ⟨k4.1, k4.2, h2⟩ ⟨hR.1, by show 8 + (_ + 11) + (60 * d + 60) ≤ _; have := hR.2; omega⟩
        have hsp : ∃ As0 : List Value, (st.take (q / 100 % 100)).reverse = .ref a :: As0 ∧ As0.length = q / 100 % 100 - 1 := by
          have h9 : st.take (q / 100 % 100) = st.take (q / 100 % 100 - 1) ++ [.ref a] := by
            have e8 : q / 100 % 100 = (q / 100 % 100 - 1) + 1 := by omega
            rw [e8, List.take_add]
            simp only [Nat.add_sub_cancel]
            rw [hdr]
            rfl
          exact ⟨(st.take (q / 100 % 100 - 1)).reverse, by rw [h9, List.reverse_append]; rfl, by simp; omega⟩
        obtain ⟨As0, e7, e8⟩ := hsp
        have e6 := ab_splitst E st (q / 100 % 100)
        rw [e7] at e6 hpc hMm
        simp only [List.map_cons, List.reverse_cons, List.append_assoc, List.singleton_append] at e6
        have hrecv : ∃ cellB : Cell, H[ab_rho E a]? = some cellB ∧ cellB.vm.isStatics = false ∧ s.vm.findClass mi.2.1.cls = some cellB.cls := by
          rcases hI.2.2 a _ (ab_ob_eq hob) with ⟨g0, g1, r0, g2, cell, q1, q2, q3, -⟩ | ⟨g1, g2, -, ⟨cell, q1, q2, q3, -⟩, -⟩
          · have g0' : q % 100 < 10 := g0
            have g2' : vwCl[q % 100]? = some r0 := g2
            rw [if_neg (by omega), show ab_cn (q % 100) = r0.1 by simp only [ab_cn, g2']] at h4
            rw [ab_rho_hi g1, h4]
            exact ⟨cell, q1, by rw [q3]; rfl, by rw [q2]; exact (hE.1.1 _ r0 g2').2.1⟩
          · have g1' : q % 100 = 90 := g1
            rw [if_pos g1'] at h4
            rw [ab_rho_lo (by omega), h4]
            exact ⟨cell, q1, q2, q3⟩
        exact ab_callq (va_runV (C := mi.2.1.cls) (b := ab_rho E a) (As := As0.map (ab_rv E)) (rest := (st.drop (q / 100 % 100)).map (ab_rv E)) ⟨hx, hb, hml, hown, hts⟩ hMm ⟨cb, hts _ hinst.1, hts _ hinst.2⟩ ⟨ab_blind _ _ _, hrecv, hpc⟩ rfl (by rw [List.length_map, e8, h1]) hL.2.1 e6 hrest hd ⟨hr1, hr2⟩) hS (fun _ g => g) kk
      · cases hc
    · cases hc
/-- a step of our machine that is no call and no answer -/
theorem ab_w_step {rt : Option FieldType} {ins : Instr} (hx : p.tables.exec = Jvm.exec) (hb : c.code = cc) (hml : c.maxLocals = ml) (hown : s.vm.findClass own = some m.cls) (hts : ∀ w ∈ ab_gt, w.before args s = true) (hE : ab_EF E s s.heap) (hin : ini = true → meth.name = "<init>") (hR : 1 ≤ R.frames ∧ 60 ≤ R.locals)
    (hd : decode cc pc = .ok (raw, len)) (hc : ab_chk1 own ml ini pc raw len ins pl = true) (hs : ab_step rt ins (pc + len) L st h = some (.inl S)) (hr1 : cells + (S.2.2.2.1 - h.1) ≤ R.cells) (hr2 : slots + (S.2.2.2.2.1 - h.2.1) ≤ R.slots)
    (k : ab_N p l e R s m args below meth c Q E ml S h cells slots) : ab_W p l e R s m args below meth c Q E ml (pc, L, st, h) cells slots := by
  have hf := hE.2.2.2.2.2
  unfold ab_step at hs
  split at hs
  · exact ab_w_iconst hx hb hown hts hd hc hs k
  · exact ab_w_ldc2 hx hb hown hts hd hc hs k
  · exact ab_w_ldc hx hb hown hE hd hc hs k
  · exact ab_w_iload hx hb hd hc hs k
  · exact ab_w_lload hx hb hd hc hs k
  · exact ab_w_aload hx hb hd hc hs k
  · exact ab_w_istore hx hb hf hd hc hs k
  · exact ab_w_astore hx hb hf hd hc hs k
  · exact ab_w_lstore hx hb hf hd hc hs k
  · exact ab_w_iinc hx hb hf hd hc hs k
  · exact ab_w_iadd hx hb hd hc hs k
  · exact ab_w_isub hx hb hd hc hs k
  · exact ab_w_imul hx hb hd hc hs k
  · exact ab_w_iand hx hb hd hc hs k
  · exact ab_w_ior hx hb hd hc hs k
  · exact ab_w_ixor hx hb hd hc hs k
  · exact ab_w_ishl hx hb hd hc hs k
  · exact ab_w_ishr hx hb hd hc hs k
  · exact ab_w_iushr hx hb hd hc hs k
  · exact ab_w_idiv hx hb hd hc hs k
  · exact ab_w_irem hx hb hd hc hs k
  · exact ab_w_ineg hx hb hd hc hs k
  · exact ab_w_i2b hx hb hd hc hs k
  · exact ab_w_i2s hx hb hd hc hs k
  · exact ab_w_i2c hx hb hd hc hs k
  · exact ab_w_i2l hx hb hd hc hs k
  · exact ab_w_l2i hx hb hd hc hs k
  · exact ab_w_ladd hx hb hd hc hs k
  · exact ab_w_lsub hx hb hd hc hs k
  · exact ab_w_lmul hx hb hd hc hs k
  · exact ab_w_ldiv hx hb hd hc hs k
  · exact ab_w_lrem hx hb hd hc hs k
  · exact ab_w_lcmp hx hb hd hc hs k
  · exact ab_w_dup hx hb hf hd hc hs k
  · exact ab_w_dup2 hx hb hf hd hc hs k
  · exact ab_w_pop hx hb hf hd hc hs k
  · exact ab_w_ifc hx hb hd hc hs k
  · exact ab_w_icmp hx hb hd hc hs k
  · exact ab_w_goto hx hb hd hc hs k
  · exact ab_w_tsw hx hb hd hc hs k
  · exact ab_w_gets hx hb hown hts hE hd hc hs k
  · exact ab_w_getf hx hb hown hts hE hd hc hs k
  · exact ab_w_putf hx hb hown hts hE hin hd hc hs k
  · exact ab_w_iald hx hb hE hd hc hs k
  · exact ab_w_bald hx hb hE hd hc hs k
  · exact ab_w_lald hx hb hE hd hc hs k
  · exact ab_w_aald hx hb hd hc hs k
  · exact ab_w_iast hx hb hd hc hs k
  · exact ab_w_bast hx hb hd hc hs k
  · exact ab_w_last hx hb hd hc hs k
  · exact ab_w_aast hx hb hE hd hc hs k
  · exact ab_w_alen hx hb hE hd hc hs k
  · exact ab_w_newa hx hb hts hr1 hr2 hd hc hs k
  · exact ab_w_anew hx hb hown hts hE hr1 hr2 hd hc hs k
  · exact ab_w_mna hx hb hown hts hE hr1 hr2 hd hc hs k
  · exact ab_w_new hx hb hown hts hE hr1 hr2 hd hc hs k
  · split at hs
    · rename_i q hq
      subst hq
      exact ab_w_oinit hx hb hml hf hown hts hR hd hc hs k
    · unfold ab_call1 at hs
      split at hs
      · split at hs
        · split at hs <;> cases hs
        · cases hs
      · cases hs
  · split at hs
    · rename_i q hq
      subst hq
      exact ab_w_acopy hx hb hml hown hts hE hR hd hc hs k
    · unfold ab_call1 at hs
      split at hs <;> cases hs
  · unfold ab_call1 at hs
    split at hs
    · split at hs
      · split at hs
        · split at hs <;> cases hs
        · cases hs
      · cases hs
    · cases hs
  · repeat' (split at hs)
    all_goals cases hs
  · repeat' (split at hs)
    all_goals cases hs
  · repeat' (split at hs)
    all_goals cases hs
  · cases hs
end AB8
end
section
/-! our machine is sound -/
theorem ab_go_mono {call : Nat → List Value → ab_H → Option (Option Value × ab_H)} (hcall : ∀ j as h r, call j as h = some r → h.1 ≤ r.2.1 ∧ h.2.1 ≤ r.2.2.1) {rt : Option FieldType} {cd : ab_K} : ∀ (n pc : Nat) (L : ab_L) (st : List Value) (h : ab_H) (r : Option Value × ab_H), ab_go call rt cd n pc L st h = some r → h.1 ≤ r.2.1 ∧ h.2.1 ≤ r.2.2.1
  | 0, _, _, _, _, _, hg => by simp [ab_go] at hg
  | n + 1, pc, L, st, h, r, hg => by
    simp only [ab_go] at hg
    split at hg
    · cases hg
    · split at hg
      · cases hg
      · rename_i s hs
        have h1 := ab_step_mono hs
        have h2 := ab_go_mono hcall n _ _ _ _ r hg
        exact ⟨Nat.le_trans h1.1 h2.1, Nat.le_trans h1.2 h2.2⟩
      · rename_i x hs
        obtain ⟨q, hq, -⟩ := ab_step_call hs
        obtain ⟨-, rfl⟩ := ab_call1_eq hq
        split at hg
        · cases hg
        · rename_i r1 hr1
          have h1 := hcall _ _ _ _ hr1
          have h2 := ab_go_mono hcall n _ _ _ _ r hg
          exact ⟨Nat.le_trans h1.1 h2.1, Nat.le_trans h1.2 h2.2⟩
      · rename_i r1 hs
        obtain rfl := Option.some.inj hg
        obtain ⟨-, e1, -⟩ := ab_step_ret hs
        rw [e1]
        exact ⟨Nat.le_refl _, Nat.le_refl _⟩
theorem ab_call_mono : ∀ (d F j : Nat) (as : List Value) (h : ab_H) (r : Option Value × ab_H), ab_call d F j as h = some r → h.1 ≤ r.2.1 ∧ h.2.1 ≤ r.2.2.1
  | 0, _, _, _, _, _, hg => by simp [ab_call] at hg
  | d + 1, F, j, as, h, r, hg => by
    simp only [ab_call] at hg
    split at hg
    · cases hg
    · split at hg
      · exact ab_go_mono (fun j as h r => ab_call_mono d F j as h r) F _ _ _ _ r hg
      · cases hg
theorem ab_look_in {cd : ab_K} {pc : Nat} {x : Instr × Nat} (h : ab_look cd pc = some x) : ∃ pl, (pc, x.1, x.2, pl) ∈ cd := by
  unfold ab_look at h
  split at h
  · rename_i e he
    have h1 := List.mem_of_find?_eq_some he
    have h2 := List.find?_some he
    simp only [beq_iff_eq] at h2
    obtain rfl := Option.some.inj h
    obtain ⟨p9, i9, n9, pl⟩ := e
    simp only at h2
    subst h2
    exact ⟨pl, h1⟩
  · cases h
section AB10
variable {p : Program} {l : Launch} {e : Env} {R : Room} {s : State} {m : MethodId} {args : Array Value} {below : List Frame} {meth : Method} {c : Code} {Q : State → Prop} {E : ab_Env} {ml : Nat} {cc : ByteArray} {own : String} {ini : Bool}
theorem ab_go_sound {d F : Nat} {rt : Option FieldType} {cd : ab_K} {mc ms : Nat} {r : Option Value × ab_H} (hx : p.tables.exec = Jvm.exec) (hb : c.code = cc) (hml : c.maxLocals = ml) (hown : s.vm.findClass own = some m.cls) (hts : ∀ w ∈ ab_gt, w.before args s = true) (hE : ab_EF E s s.heap) (hin : ini = true → meth.name = "<init>") (hR : d + 2 ≤ R.frames ∧ 60 * d + 120 ≤ R.locals) (hRc : mc ≤ R.cells ∧ ms ≤ R.slots)
    (hcd : cd.all (ab_chk own ml ini cc) = true) (hM : ∀ j as h r, ab_call d F j as h = some r → ab_Met l E d j as h r.1 r.2)
    (hret : ∀ (pc : Nat) (ins : Instr) (L : ab_L) (st : List Value) (h : ab_H), decode cc pc = .ok (ins, 1) → ab_step rt ins (pc + 1) L st h = some (.inr (.inr r)) → ab_W p l e R s m args below meth c Q E ml (pc, L, st, h) mc ms) :
    ∀ (n pc : Nat) (L : ab_L) (st : List Value) (h : ab_H) (cells slots : Nat), ab_go (ab_call d F) rt cd n pc L st h = some r → cells + (r.2.1 - h.1) = mc → slots + (r.2.2.1 - h.2.1) = ms → ab_W p l e R s m args below meth c Q E ml (pc, L, st, h) cells slots
  | 0, _, _, _, _, _, _, hg, _, _ => by simp [ab_go] at hg
  | n + 1, pc, L, st, h, cells, slots, hg, hc1, hc2 => by
    have hcm := fun j as h r => ab_call_mono d F j as h r
    simp only [ab_go] at hg
    split at hg
    · cases hg
    · rename_i ins nx hlook
      obtain ⟨pl, hin1⟩ := ab_look_in hlook
      have hchk := List.all_eq_true.mp hcd _ hin1
      unfold ab_chk at hchk
      split at hchk
      · rename_i raw len hd
        simp only [Bool.and_eq_true, decide_eq_true_eq] at hchk
        obtain ⟨hnx, hck⟩ := hchk
        have hd' : decode cc pc = .ok (raw, len) := hd
        have hnx' : nx = pc + len := hnx
        subst hnx'
        split at hg
        · cases hg
        · rename_i S hs
          have g1 := ab_step_mono hs
          have g2 := ab_go_mono hcm n _ _ _ _ r hg
          refine ab_w_step hx hb hml hown hts hE hin ⟨by omega, by omega⟩ hd' hck hs (by have := hRc.1; omega) (by have := hRc.2; omega) ?_
          intro c1 s1 e1 e2
          exact ab_go_sound hx hb hml hown hts hE hin hR hRc hcd hM hret n S.1 S.2.1 S.2.2.1 S.2.2.2 c1 s1 hg (by omega) (by omega)
        · rename_i x hs
          split at hg
          · cases hg
          · rename_i r1 hr1
            have g1 := hcm _ _ _ _ hr1
            have g2 := ab_go_mono hcm n _ _ _ _ r hg
            have ex : x.2.2.2.2.2 = h := by
              obtain ⟨q, hq, -⟩ := ab_step_call hs
              obtain ⟨-, rfl⟩ := ab_call1_eq hq
              rfl
            rw [ex] at g1
            have hMx := hM _ _ _ _ hr1
            refine ab_w_call (r := r1) ab_ok hx hb hml hown hts hE hR hd' hck hs hMx (by have := hRc.1; omega) (by have := hRc.2; omega) ?_
            exact ab_go_sound hx hb hml hown hts hE hin hR hRc hcd hM hret n _ _ _ _ _ _ hg (by omega) (by omega)
        · rename_i r1 hs
          obtain rfl := Option.some.inj hg
          obtain ⟨hk, e1, -⟩ := ab_step_ret hs
          rw [e1] at hc1 hc2
          have hc1' : cells = mc := by omega
          have hc2' : slots = ms := by omega
          subst hc1'
          subst hc2'
          have hraw : raw = ins ∧ len = 1 := by
            rcases hk with rfl | rfl | rfl <;> simpa only [ab_chk1, Bool.and_eq_true, decide_eq_true_eq] using hck
          obtain ⟨rfl, rfl⟩ := hraw
          exact hret pc raw L st h hd' hs
      · cases hchk
end AB10
theorem ab_sound (l : Launch) (E : ab_Env) : ∀ (d F j : Nat) (as : List Value) (h : ab_H) (r : Option Value × ab_H), ab_call d F j as h = some r → ab_Met l E d j as h r.1 r.2
  | 0, _, _, _, _, _, hg => by simp [ab_call] at hg
  | d + 1, F, j, as, h, r, hg => by
    intro mi hmi
    simp only [ab_call, hmi] at hg
    split at hg
    · rename_i hlen
      obtain ⟨⟨n, hokm⟩, k1⟩ := ab_ok j mi hmi
      have hcd := ab_okc j mi hmi
      simp only [ab_okm, Bool.and_eq_true, decide_eq_true_eq, Bool.or_eq_true] at hokm
      obtain ⟨k2, ⟨k3, k4, k5⟩, k6, k7⟩ := hokm
      refine va_MetF (cc := mi.2.2.1) (maxL := mi.2.2.2.1) (ret := mi.2.2.2.2.1) k5 rfl ?_
      intro p e s m args below meth c s₁ B hml hv
      obtain ⟨rfl, hE, hI⟩ := hv
      have hx := B.exec
      have hb := B.bytes
      have hr := B.returns
      have hts0 := atoms_spec (ws := ab_ws mi) B.pre
      have hts : ∀ w ∈ ab_gt, w.before (as.map (ab_rv E)).toArray s = true := fun w hw => hts0 w (List.mem_cons_of_mem _ hw)
      have hown : s.vm.findClass mi.1 = some m.cls := by rw [k3]; exact findClass_of_methodNamed B.named
      have hlocks := B.notSynchronized
      have hf := hE.2.2.2.2.2
      have hgo := ab_go_sound (p := p) (l := l) (e := e) (R := ab_room (d + 1) (r.2.1 - h.1) (r.2.2.1 - h.2.1)) (s := s) (m := m) (args := (as.map (ab_rv E)).toArray) (below := below) (meth := meth) (c := c) (E := E) (ml := mi.2.2.2.1) (cc := mi.2.2.1) (own := mi.1) (ini := decide (mi.2.1.name = "<init>")) (d := d) (F := F) (rt := mi.2.2.2.2.1) (cd := mi.2.2.2.2.2.2) (mc := r.2.1 - h.1) (ms := r.2.2.1 - h.2.1) (r := r)
        (Q := MQ below (ab_Qc E r.1 r.2) (as.map (ab_rv E)).toArray s (r.2.1 - h.1) (r.2.2.1 - h.2.1) (ab_A E)) hx hb hml hown hts hE
        (fun hq => by rw [← of_decide_eq_true hq]; exact (name_of_methodNamed B.named B.method).1) ⟨by show d + 2 ≤ d + 1 + 1; omega, by show 60 * d + 120 ≤ 60 * (d + 1) + 60; omega⟩ ⟨Nat.le_refl _, Nat.le_refl _⟩ hcd (fun j as h r hq => ab_sound l E d F j as h r hq)
        (by
          intro pc ins L st h2 hd hs H locs ls hI2 hS hL
          obtain ⟨-, e1, e2, e3⟩ := ab_step_ret hs
          have e1' : r.2 = h2 := e1
          have hq : ∀ (v : Value), r.1 = some v → ∀ t : State, t.heap = H → s.WarmedH t.vm → ab_Qc E r.1 r.2 (as.map (ab_rv E)).toArray s (.returned (some (ab_rv E v))) t := fun v hv t ht hW => ⟨by rw [hv]; rfl, by rw [ht, e1']; exact hI2.moved hW.alike, hS.F ht⟩
          show W _ _ _ _ _ _ _ _ _ _ _ _ _ _ _ (F0 m pc ls (st.map (ab_rv E)))
          rcases e3 with ⟨x, ty, rfl, g1, g2, g3⟩ | ⟨x, rfl, g1, g2⟩ | ⟨rfl, g1, g2⟩
          · have e4 : st = [.int x] := by rw [e2, g2]; rfl
            rw [e4]
            exact W.zret (v := x) hx hb (hr.trans g1) g3 (hq (.int x) g2) hS.2.2 hd hlocks
          · have e4 : st = [.long x] := by rw [e2, g2]; rfl
            rw [e4]
            exact W.lret (v := x) hx hb (hr.trans g1) (hq (.long x) g2) hS.2.2 hd hlocks
          · have e4 : st = [] := by rw [e2, g2]; rfl
            rw [e4]
            exact W.vret hx hb (hr.trans g1) (fun t ht hW => ⟨by rw [g2]; rfl, by rw [ht, e1']; exact hI2.moved hW.alike, hS.F ht⟩) hS.2.2 hd hlocks)
        F 0 (ab_ent mi.2.2.2.1 as) [] h 0 0 hg (by omega) (by omega)
      have hent := ab_entry hf hlen
      rw [lg_entry_eq]
      exact hgo s.heap [] _ hI va_S.rf hent
    · cases hg
end
