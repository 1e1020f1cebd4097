section
-- ===== PART A: goes FIRST, ahead of the names: the tables' words, and 'selects' of the private methods out of them =====
/-- a private method of a class that the tables say can be made, by its rows of tables_1 -/
def lw_okq (q : MethodName × Nat) : Prop := (q.1.cls ≠ "java/lang/invoke/MethodHandle" ∧ q.1.cls ≠ "java/lang/invoke/VarHandle") ∧ Cond.instantiable q.1.cls q.2 ∈ tables_1 ∧ Cond.privateMethod q.1 ∈ tables_1 ∧ Cond.instanceMethod q.1 ∈ tables_1
theorem lw_p0 : lw_okq (⟨"AdBreaks", "appendWord", "(I)V"⟩, 7) := ⟨⟨by decide +kernel, by decide +kernel⟩, List.mem_of_getElem? (i := 25) (by decide +kernel), List.mem_of_getElem? (i := 287) (by decide +kernel), List.mem_of_getElem? (i := 288) (by decide +kernel)⟩
theorem lw_p1 : lw_okq (⟨"AdBreaks$SpotRow", "copySpot", "(LAdBreaks$SpotRow;II)V"⟩, 5) := ⟨⟨by decide +kernel, by decide +kernel⟩, List.mem_of_getElem? (i := 102) (by decide +kernel), List.mem_of_getElem? (i := 338) (by decide +kernel), List.mem_of_getElem? (i := 339) (by decide +kernel)⟩
theorem lw_p2 : lw_okq (⟨"AdBreaks$Plan", "breakForOwed", "(I)I"⟩, 9) := ⟨⟨by decide +kernel, by decide +kernel⟩, List.mem_of_getElem? (i := 89) (by decide +kernel), List.mem_of_getElem? (i := 356) (by decide +kernel), List.mem_of_getElem? (i := 357) (by decide +kernel)⟩
theorem lw_p3 : lw_okq (⟨"java/lang/Throwable", "fillInStackTrace", "(I)Ljava/lang/Throwable;"⟩, 6) := ⟨⟨by decide +kernel, by decide +kernel⟩, List.mem_of_getElem? (i := 473) (by decide +kernel), List.mem_of_getElem? (i := 471) (by decide +kernel), List.mem_of_getElem? (i := 472) (by decide +kernel)⟩
theorem lw_p4 : lw_okq (⟨"AdBreaks$SetupReader", "takeWord", "(Ljava/lang/String;)Z"⟩, 6) := ⟨⟨by decide +kernel, by decide +kernel⟩, List.mem_of_getElem? (i := 33) (by decide +kernel), List.mem_of_getElem? (i := 528) (by decide +kernel), List.mem_of_getElem? (i := 529) (by decide +kernel)⟩
theorem lw_p5 : lw_okq (⟨"AdBreaks$SetupReader", "fail", "(I)Z"⟩, 6) := ⟨⟨by decide +kernel, by decide +kernel⟩, List.mem_of_getElem? (i := 33) (by decide +kernel), List.mem_of_getElem? (i := 584) (by decide +kernel), List.mem_of_getElem? (i := 585) (by decide +kernel)⟩
theorem lw_p6 : lw_okq (⟨"AdBreaks$SetupReader", "takeSign", "(C)Z"⟩, 6) := ⟨⟨by decide +kernel, by decide +kernel⟩, List.mem_of_getElem? (i := 33) (by decide +kernel), List.mem_of_getElem? (i := 589) (by decide +kernel), List.mem_of_getElem? (i := 590) (by decide +kernel)⟩
theorem lw_p7 : lw_okq (⟨"AdBreaks$SetupReader", "readStatement", "(LAdBreaks$Plan;)Z"⟩, 6) := ⟨⟨by decide +kernel, by decide +kernel⟩, List.mem_of_getElem? (i := 33) (by decide +kernel), List.mem_of_getElem? (i := 597) (by decide +kernel), List.mem_of_getElem? (i := 598) (by decide +kernel)⟩
theorem lw_p8 : lw_okq (⟨"AdBreaks$SetupReader", "readBreak", "(LAdBreaks$Plan;)Z"⟩, 6) := ⟨⟨by decide +kernel, by decide +kernel⟩, List.mem_of_getElem? (i := 33) (by decide +kernel), List.mem_of_getElem? (i := 602) (by decide +kernel), List.mem_of_getElem? (i := 603) (by decide +kernel)⟩
theorem lw_p9 : lw_okq (⟨"AdBreaks$SetupReader", "takeNumber", "(II)Z"⟩, 6) := ⟨⟨by decide +kernel, by decide +kernel⟩, List.mem_of_getElem? (i := 33) (by decide +kernel), List.mem_of_getElem? (i := 606) (by decide +kernel), List.mem_of_getElem? (i := 607) (by decide +kernel)⟩
theorem lw_p10 : lw_okq (⟨"AdBreaks$SetupReader", "readSponsor", "(LAdBreaks$Plan;)Z"⟩, 6) := ⟨⟨by decide +kernel, by decide +kernel⟩, List.mem_of_getElem? (i := 33) (by decide +kernel), List.mem_of_getElem? (i := 627) (by decide +kernel), List.mem_of_getElem? (i := 628) (by decide +kernel)⟩
theorem lw_p11 : lw_okq (⟨"AdBreaks$SetupReader", "readBan", "(LAdBreaks$Plan;)Z"⟩, 6) := ⟨⟨by decide +kernel, by decide +kernel⟩, List.mem_of_getElem? (i := 33) (by decide +kernel), List.mem_of_getElem? (i := 636) (by decide +kernel), List.mem_of_getElem? (i := 637) (by decide +kernel)⟩
theorem lw_p12 : lw_okq (⟨"AdBreaks$SetupReader", "readSum", "(LAdBreaks$Formula;I)Z"⟩, 6) := ⟨⟨by decide +kernel, by decide +kernel⟩, List.mem_of_getElem? (i := 33) (by decide +kernel), List.mem_of_getElem? (i := 646) (by decide +kernel), List.mem_of_getElem? (i := 647) (by decide +kernel)⟩
theorem lw_p13 : lw_okq (⟨"AdBreaks$SetupReader", "readTerm", "(LAdBreaks$Formula;I)Z"⟩, 6) := ⟨⟨by decide +kernel, by decide +kernel⟩, List.mem_of_getElem? (i := 33) (by decide +kernel), List.mem_of_getElem? (i := 650) (by decide +kernel), List.mem_of_getElem? (i := 651) (by decide +kernel)⟩
theorem lw_p14 : lw_okq (⟨"AdBreaks$SetupReader", "readFactor", "(LAdBreaks$Formula;I)Z"⟩, 6) := ⟨⟨by decide +kernel, by decide +kernel⟩, List.mem_of_getElem? (i := 33) (by decide +kernel), List.mem_of_getElem? (i := 654) (by decide +kernel), List.mem_of_getElem? (i := 655) (by decide +kernel)⟩
theorem lw_p15 : lw_okq (⟨"AdBreaks$SetupReader", "codeOfWord", "()I"⟩, 6) := ⟨⟨by decide +kernel, by decide +kernel⟩, List.mem_of_getElem? (i := 33) (by decide +kernel), List.mem_of_getElem? (i := 659) (by decide +kernel), List.mem_of_getElem? (i := 660) (by decide +kernel)⟩
def lw_privs_1 : List (MethodName × Nat) := [(⟨"AdBreaks", "appendWord", "(I)V"⟩, 7), (⟨"AdBreaks$SpotRow", "copySpot", "(LAdBreaks$SpotRow;II)V"⟩, 5), (⟨"AdBreaks$Plan", "breakForOwed", "(I)I"⟩, 9), (⟨"java/lang/Throwable", "fillInStackTrace", "(I)Ljava/lang/Throwable;"⟩, 6), (⟨"AdBreaks$SetupReader", "takeWord", "(Ljava/lang/String;)Z"⟩, 6), (⟨"AdBreaks$SetupReader", "fail", "(I)Z"⟩, 6), (⟨"AdBreaks$SetupReader", "takeSign", "(C)Z"⟩, 6), (⟨"AdBreaks$SetupReader", "readStatement", "(LAdBreaks$Plan;)Z"⟩, 6), (⟨"AdBreaks$SetupReader", "readBreak", "(LAdBreaks$Plan;)Z"⟩, 6), (⟨"AdBreaks$SetupReader", "takeNumber", "(II)Z"⟩, 6), (⟨"AdBreaks$SetupReader", "readSponsor", "(LAdBreaks$Plan;)Z"⟩, 6), (⟨"AdBreaks$SetupReader", "readBan", "(LAdBreaks$Plan;)Z"⟩, 6), (⟨"AdBreaks$SetupReader", "readSum", "(LAdBreaks$Formula;I)Z"⟩, 6), (⟨"AdBreaks$SetupReader", "readTerm", "(LAdBreaks$Formula;I)Z"⟩, 6), (⟨"AdBreaks$SetupReader", "readFactor", "(LAdBreaks$Formula;I)Z"⟩, 6), (⟨"AdBreaks$SetupReader", "codeOfWord", "()I"⟩, 6)]
theorem lw_r1 : ∀ q ∈ lw_privs_1, lw_okq q := List.forall_mem_cons.mpr ⟨lw_p0, List.forall_mem_cons.mpr ⟨lw_p1, List.forall_mem_cons.mpr ⟨lw_p2, List.forall_mem_cons.mpr ⟨lw_p3, List.forall_mem_cons.mpr ⟨lw_p4, List.forall_mem_cons.mpr ⟨lw_p5, List.forall_mem_cons.mpr ⟨lw_p6, List.forall_mem_cons.mpr ⟨lw_p7, List.forall_mem_cons.mpr ⟨lw_p8, List.forall_mem_cons.mpr ⟨lw_p9, List.forall_mem_cons.mpr ⟨lw_p10, List.forall_mem_cons.mpr ⟨lw_p11, List.forall_mem_cons.mpr ⟨lw_p12, List.forall_mem_cons.mpr ⟨lw_p13, List.forall_mem_cons.mpr ⟨lw_p14, List.forall_mem_cons.mpr ⟨lw_p15, fun _ h => absurd h List.not_mem_nil⟩⟩⟩⟩⟩⟩⟩⟩⟩⟩⟩⟩⟩⟩⟩⟩
theorem lw_p16 : lw_okq (⟨"AdBreaks$Arranger", "countBeginnings", "(LAdBreaks$Plan;I)V"⟩, 3) := ⟨⟨by decide +kernel, by decide +kernel⟩, List.mem_of_getElem? (i := 242) (by decide +kernel), List.mem_of_getElem? (i := 852) (by decide +kernel), List.mem_of_getElem? (i := 853) (by decide +kernel)⟩
theorem lw_p17 : lw_okq (⟨"AdBreaks$Arranger", "findFriends", "(LAdBreaks$Plan;)V"⟩, 3) := ⟨⟨by decide +kernel, by decide +kernel⟩, List.mem_of_getElem? (i := 242) (by decide +kernel), List.mem_of_getElem? (i := 856) (by decide +kernel), List.mem_of_getElem? (i := 857) (by decide +kernel)⟩
theorem lw_p18 : lw_okq (⟨"AdBreaks$Arranger", "countBeginningsOf", "(I)V"⟩, 3) := ⟨⟨by decide +kernel, by decide +kernel⟩, List.mem_of_getElem? (i := 242) (by decide +kernel), List.mem_of_getElem? (i := 861) (by decide +kernel), List.mem_of_getElem? (i := 862) (by decide +kernel)⟩
theorem lw_p19 : lw_okq (⟨"AdBreaks$Arranger", "sumOver", "(II)I"⟩, 3) := ⟨⟨by decide +kernel, by decide +kernel⟩, List.mem_of_getElem? (i := 242) (by decide +kernel), List.mem_of_getElem? (i := 865) (by decide +kernel), List.mem_of_getElem? (i := 866) (by decide +kernel)⟩
theorem lw_p20 : lw_okq (⟨"AdBreaks$Arranger", "smallestBeginning", "(II)I"⟩, 3) := ⟨⟨by decide +kernel, by decide +kernel⟩, List.mem_of_getElem? (i := 242) (by decide +kernel), List.mem_of_getElem? (i := 887) (by decide +kernel), List.mem_of_getElem? (i := 888) (by decide +kernel)⟩
theorem lw_p21 : lw_okq (⟨"AdBreaksModel", "fails", "(ZI)Z"⟩, 19) := ⟨⟨by decide +kernel, by decide +kernel⟩, List.mem_of_getElem? (i := 1000) (by decide +kernel), List.mem_of_getElem? (i := 1081) (by decide +kernel), List.mem_of_getElem? (i := 1082) (by decide +kernel)⟩
theorem lw_p22 : lw_okq (⟨"AdBreaksModel", "takeWord", "(Ljava/lang/String;)Z"⟩, 19) := ⟨⟨by decide +kernel, by decide +kernel⟩, List.mem_of_getElem? (i := 1000) (by decide +kernel), List.mem_of_getElem? (i := 1086) (by decide +kernel), List.mem_of_getElem? (i := 1087) (by decide +kernel)⟩
theorem lw_p23 : lw_okq (⟨"AdBreaksModel", "isGood", "()Z"⟩, 19) := ⟨⟨by decide +kernel, by decide +kernel⟩, List.mem_of_getElem? (i := 1000) (by decide +kernel), List.mem_of_getElem? (i := 1090) (by decide +kernel), List.mem_of_getElem? (i := 1091) (by decide +kernel)⟩
theorem lw_p24 : lw_okq (⟨"AdBreaksModel", "next", "()I"⟩, 19) := ⟨⟨by decide +kernel, by decide +kernel⟩, List.mem_of_getElem? (i := 1000) (by decide +kernel), List.mem_of_getElem? (i := 1094) (by decide +kernel), List.mem_of_getElem? (i := 1095) (by decide +kernel)⟩
theorem lw_p25 : lw_okq (⟨"AdBreaksModel", "byteAt", "(I)I"⟩, 19) := ⟨⟨by decide +kernel, by decide +kernel⟩, List.mem_of_getElem? (i := 1000) (by decide +kernel), List.mem_of_getElem? (i := 1098) (by decide +kernel), List.mem_of_getElem? (i := 1099) (by decide +kernel)⟩
theorem lw_p26 : lw_okq (⟨"AdBreaksModel", "report", "(II)V"⟩, 19) := ⟨⟨by decide +kernel, by decide +kernel⟩, List.mem_of_getElem? (i := 1000) (by decide +kernel), List.mem_of_getElem? (i := 1104) (by decide +kernel), List.mem_of_getElem? (i := 1105) (by decide +kernel)⟩
theorem lw_p27 : lw_okq (⟨"AdBreaksModel", "expect", "(I)V"⟩, 19) := ⟨⟨by decide +kernel, by decide +kernel⟩, List.mem_of_getElem? (i := 1000) (by decide +kernel), List.mem_of_getElem? (i := 1108) (by decide +kernel), List.mem_of_getElem? (i := 1109) (by decide +kernel)⟩
theorem lw_p28 : lw_okq (⟨"AdBreaksModel", "statement", "()V"⟩, 19) := ⟨⟨by decide +kernel, by decide +kernel⟩, List.mem_of_getElem? (i := 1000) (by decide +kernel), List.mem_of_getElem? (i := 1112) (by decide +kernel), List.mem_of_getElem? (i := 1113) (by decide +kernel)⟩
theorem lw_p29 : lw_okq (⟨"AdBreaksModel", "readBreak", "(I)V"⟩, 19) := ⟨⟨by decide +kernel, by decide +kernel⟩, List.mem_of_getElem? (i := 1000) (by decide +kernel), List.mem_of_getElem? (i := 1117) (by decide +kernel), List.mem_of_getElem? (i := 1118) (by decide +kernel)⟩
theorem lw_p30 : lw_okq (⟨"AdBreaksModel", "number", "(II)I"⟩, 19) := ⟨⟨by decide +kernel, by decide +kernel⟩, List.mem_of_getElem? (i := 1000) (by decide +kernel), List.mem_of_getElem? (i := 1124) (by decide +kernel), List.mem_of_getElem? (i := 1125) (by decide +kernel)⟩
theorem lw_p31 : lw_okq (⟨"AdBreaksModel", "readSponsor", "(I)V"⟩, 19) := ⟨⟨by decide +kernel, by decide +kernel⟩, List.mem_of_getElem? (i := 1000) (by decide +kernel), List.mem_of_getElem? (i := 1139) (by decide +kernel), List.mem_of_getElem? (i := 1140) (by decide +kernel)⟩
def lw_privs_2 : List (MethodName × Nat) := [(⟨"AdBreaks$Arranger", "countBeginnings", "(LAdBreaks$Plan;I)V"⟩, 3), (⟨"AdBreaks$Arranger", "findFriends", "(LAdBreaks$Plan;)V"⟩, 3), (⟨"AdBreaks$Arranger", "countBeginningsOf", "(I)V"⟩, 3), (⟨"AdBreaks$Arranger", "sumOver", "(II)I"⟩, 3), (⟨"AdBreaks$Arranger", "smallestBeginning", "(II)I"⟩, 3), (⟨"AdBreaksModel", "fails", "(ZI)Z"⟩, 19), (⟨"AdBreaksModel", "takeWord", "(Ljava/lang/String;)Z"⟩, 19), (⟨"AdBreaksModel", "isGood", "()Z"⟩, 19), (⟨"AdBreaksModel", "next", "()I"⟩, 19), (⟨"AdBreaksModel", "byteAt", "(I)I"⟩, 19), (⟨"AdBreaksModel", "report", "(II)V"⟩, 19), (⟨"AdBreaksModel", "expect", "(I)V"⟩, 19), (⟨"AdBreaksModel", "statement", "()V"⟩, 19), (⟨"AdBreaksModel", "readBreak", "(I)V"⟩, 19), (⟨"AdBreaksModel", "number", "(II)I"⟩, 19), (⟨"AdBreaksModel", "readSponsor", "(I)V"⟩, 19)]
theorem lw_r2 : ∀ q ∈ lw_privs_2, lw_okq q := List.forall_mem_cons.mpr ⟨lw_p16, List.forall_mem_cons.mpr ⟨lw_p17, List.forall_mem_cons.mpr ⟨lw_p18, List.forall_mem_cons.mpr ⟨lw_p19, List.forall_mem_cons.mpr ⟨lw_p20, List.forall_mem_cons.mpr ⟨lw_p21, List.forall_mem_cons.mpr ⟨lw_p22, List.forall_mem_cons.mpr ⟨lw_p23, List.forall_mem_cons.mpr ⟨lw_p24, List.forall_mem_cons.mpr ⟨lw_p25, List.forall_mem_cons.mpr ⟨lw_p26, List.forall_mem_cons.mpr ⟨lw_p27, List.forall_mem_cons.mpr ⟨lw_p28, List.forall_mem_cons.mpr ⟨lw_p29, List.forall_mem_cons.mpr ⟨lw_p30, List.forall_mem_cons.mpr ⟨lw_p31, fun _ h => absurd h List.not_mem_nil⟩⟩⟩⟩⟩⟩⟩⟩⟩⟩⟩⟩⟩⟩⟩⟩
theorem lw_p32 : lw_okq (⟨"AdBreaksModel", "readBan", "(I)V"⟩, 19) := ⟨⟨by decide +kernel, by decide +kernel⟩, List.mem_of_getElem? (i := 1000) (by decide +kernel), List.mem_of_getElem? (i := 1144) (by decide +kernel), List.mem_of_getElem? (i := 1145) (by decide +kernel)⟩
theorem lw_p33 : lw_okq (⟨"AdBreaksModel", "once", "(II)V"⟩, 19) := ⟨⟨by decide +kernel, by decide +kernel⟩, List.mem_of_getElem? (i := 1000) (by decide +kernel), List.mem_of_getElem? (i := 1149) (by decide +kernel), List.mem_of_getElem? (i := 1150) (by decide +kernel)⟩
theorem lw_p34 : lw_okq (⟨"AdBreaksModel", "sum", "()V"⟩, 19) := ⟨⟨by decide +kernel, by decide +kernel⟩, List.mem_of_getElem? (i := 1000) (by decide +kernel), List.mem_of_getElem? (i := 1153) (by decide +kernel), List.mem_of_getElem? (i := 1154) (by decide +kernel)⟩
theorem lw_p35 : lw_okq (⟨"AdBreaksModel", "term", "()V"⟩, 19) := ⟨⟨by decide +kernel, by decide +kernel⟩, List.mem_of_getElem? (i := 1000) (by decide +kernel), List.mem_of_getElem? (i := 1157) (by decide +kernel), List.mem_of_getElem? (i := 1158) (by decide +kernel)⟩
theorem lw_p36 : lw_okq (⟨"AdBreaksModel", "factor", "()V"⟩, 19) := ⟨⟨by decide +kernel, by decide +kernel⟩, List.mem_of_getElem? (i := 1000) (by decide +kernel), List.mem_of_getElem? (i := 1161) (by decide +kernel), List.mem_of_getElem? (i := 1162) (by decide +kernel)⟩
theorem lw_p37 : lw_okq (⟨"AdBreaksModel", "emit", "(I)V"⟩, 19) := ⟨⟨by decide +kernel, by decide +kernel⟩, List.mem_of_getElem? (i := 1000) (by decide +kernel), List.mem_of_getElem? (i := 1170) (by decide +kernel), List.mem_of_getElem? (i := 1171) (by decide +kernel)⟩
theorem lw_p38 : lw_okq (⟨"AdBreaksModel", "sortBreaks", "()V"⟩, 19) := ⟨⟨by decide +kernel, by decide +kernel⟩, List.mem_of_getElem? (i := 1000) (by decide +kernel), List.mem_of_getElem? (i := 1174) (by decide +kernel), List.mem_of_getElem? (i := 1175) (by decide +kernel)⟩
theorem lw_p39 : lw_okq (⟨"AdBreaksModel", "remember", "()V"⟩, 19) := ⟨⟨by decide +kernel, by decide +kernel⟩, List.mem_of_getElem? (i := 1000) (by decide +kernel), List.mem_of_getElem? (i := 1178) (by decide +kernel), List.mem_of_getElem? (i := 1179) (by decide +kernel)⟩
theorem lw_p40 : lw_okq (⟨"AdBreaksModel", "noBreak", "(I)Z"⟩, 19) := ⟨⟨by decide +kernel, by decide +kernel⟩, List.mem_of_getElem? (i := 1000) (by decide +kernel), List.mem_of_getElem? (i := 1201) (by decide +kernel), List.mem_of_getElem? (i := 1202) (by decide +kernel)⟩
theorem lw_p41 : lw_okq (⟨"AdBreaksModel", "usedOf", "(I)I"⟩, 19) := ⟨⟨by decide +kernel, by decide +kernel⟩, List.mem_of_getElem? (i := 1000) (by decide +kernel), List.mem_of_getElem? (i := 1205) (by decide +kernel), List.mem_of_getElem? (i := 1206) (by decide +kernel)⟩
theorem lw_p42 : lw_okq (⟨"AdBreaksModel", "countOf", "(I)I"⟩, 19) := ⟨⟨by decide +kernel, by decide +kernel⟩, List.mem_of_getElem? (i := 1000) (by decide +kernel), List.mem_of_getElem? (i := 1209) (by decide +kernel), List.mem_of_getElem? (i := 1210) (by decide +kernel)⟩
theorem lw_p43 : lw_okq (⟨"AdBreaksModel", "noSponsor", "(I)Z"⟩, 19) := ⟨⟨by decide +kernel, by decide +kernel⟩, List.mem_of_getElem? (i := 1000) (by decide +kernel), List.mem_of_getElem? (i := 1224) (by decide +kernel), List.mem_of_getElem? (i := 1225) (by decide +kernel)⟩
theorem lw_p44 : lw_okq (⟨"AdBreaksModel", "spotsOf", "(IIII)I"⟩, 19) := ⟨⟨by decide +kernel, by decide +kernel⟩, List.mem_of_getElem? (i := 1000) (by decide +kernel), List.mem_of_getElem? (i := 1228) (by decide +kernel), List.mem_of_getElem? (i := 1229) (by decide +kernel)⟩
theorem lw_p45 : lw_okq (⟨"AdBreaksModel", "hasSpot", "(II)Z"⟩, 19) := ⟨⟨by decide +kernel, by decide +kernel⟩, List.mem_of_getElem? (i := 1000) (by decide +kernel), List.mem_of_getElem? (i := 1232) (by decide +kernel), List.mem_of_getElem? (i := 1233) (by decide +kernel)⟩
theorem lw_p46 : lw_okq (⟨"AdBreaksModel", "owedOf", "(I)I"⟩, 19) := ⟨⟨by decide +kernel, by decide +kernel⟩, List.mem_of_getElem? (i := 1000) (by decide +kernel), List.mem_of_getElem? (i := 1236) (by decide +kernel), List.mem_of_getElem? (i := 1237) (by decide +kernel)⟩
theorem lw_p47 : lw_okq (⟨"AdBreaksModel", "noRequest", "(III)Z"⟩, 19) := ⟨⟨by decide +kernel, by decide +kernel⟩, List.mem_of_getElem? (i := 1000) (by decide +kernel), List.mem_of_getElem? (i := 1252) (by decide +kernel), List.mem_of_getElem? (i := 1253) (by decide +kernel)⟩
def lw_privs_3 : List (MethodName × Nat) := [(⟨"AdBreaksModel", "readBan", "(I)V"⟩, 19), (⟨"AdBreaksModel", "once", "(II)V"⟩, 19), (⟨"AdBreaksModel", "sum", "()V"⟩, 19), (⟨"AdBreaksModel", "term", "()V"⟩, 19), (⟨"AdBreaksModel", "factor", "()V"⟩, 19), (⟨"AdBreaksModel", "emit", "(I)V"⟩, 19), (⟨"AdBreaksModel", "sortBreaks", "()V"⟩, 19), (⟨"AdBreaksModel", "remember", "()V"⟩, 19), (⟨"AdBreaksModel", "noBreak", "(I)Z"⟩, 19), (⟨"AdBreaksModel", "usedOf", "(I)I"⟩, 19), (⟨"AdBreaksModel", "countOf", "(I)I"⟩, 19), (⟨"AdBreaksModel", "noSponsor", "(I)Z"⟩, 19), (⟨"AdBreaksModel", "spotsOf", "(IIII)I"⟩, 19), (⟨"AdBreaksModel", "hasSpot", "(II)Z"⟩, 19), (⟨"AdBreaksModel", "owedOf", "(I)I"⟩, 19), (⟨"AdBreaksModel", "noRequest", "(III)Z"⟩, 19)]
theorem lw_r3 : ∀ q ∈ lw_privs_3, lw_okq q := List.forall_mem_cons.mpr ⟨lw_p32, List.forall_mem_cons.mpr ⟨lw_p33, List.forall_mem_cons.mpr ⟨lw_p34, List.forall_mem_cons.mpr ⟨lw_p35, List.forall_mem_cons.mpr ⟨lw_p36, List.forall_mem_cons.mpr ⟨lw_p37, List.forall_mem_cons.mpr ⟨lw_p38, List.forall_mem_cons.mpr ⟨lw_p39, List.forall_mem_cons.mpr ⟨lw_p40, List.forall_mem_cons.mpr ⟨lw_p41, List.forall_mem_cons.mpr ⟨lw_p42, List.forall_mem_cons.mpr ⟨lw_p43, List.forall_mem_cons.mpr ⟨lw_p44, List.forall_mem_cons.mpr ⟨lw_p45, List.forall_mem_cons.mpr ⟨lw_p46, List.forall_mem_cons.mpr ⟨lw_p47, fun _ h => absurd h List.not_mem_nil⟩⟩⟩⟩⟩⟩⟩⟩⟩⟩⟩⟩⟩⟩⟩⟩
theorem lw_p48 : lw_okq (⟨"AdBreaksModel", "noSeconds", "(I)Z"⟩, 19) := ⟨⟨by decide +kernel, by decide +kernel⟩, List.mem_of_getElem? (i := 1000) (by decide +kernel), List.mem_of_getElem? (i := 1256) (by decide +kernel), List.mem_of_getElem? (i := 1257) (by decide +kernel)⟩
theorem lw_p49 : lw_okq (⟨"AdBreaksModel", "reasonOf", "(III)I"⟩, 19) := ⟨⟨by decide +kernel, by decide +kernel⟩, List.mem_of_getElem? (i := 1000) (by decide +kernel), List.mem_of_getElem? (i := 1260) (by decide +kernel), List.mem_of_getElem? (i := 1261) (by decide +kernel)⟩
theorem lw_p50 : lw_okq (⟨"AdBreaksModel", "placeFor", "(II)I"⟩, 19) := ⟨⟨by decide +kernel, by decide +kernel⟩, List.mem_of_getElem? (i := 1000) (by decide +kernel), List.mem_of_getElem? (i := 1264) (by decide +kernel), List.mem_of_getElem? (i := 1265) (by decide +kernel)⟩
theorem lw_p51 : lw_okq (⟨"AdBreaksModel", "clash", "(II)Z"⟩, 19) := ⟨⟨by decide +kernel, by decide +kernel⟩, List.mem_of_getElem? (i := 1000) (by decide +kernel), List.mem_of_getElem? (i := 1268) (by decide +kernel), List.mem_of_getElem? (i := 1269) (by decide +kernel)⟩
theorem lw_p52 : lw_okq (⟨"AdBreaksModel", "priceOf", "(III)I"⟩, 19) := ⟨⟨by decide +kernel, by decide +kernel⟩, List.mem_of_getElem? (i := 1000) (by decide +kernel), List.mem_of_getElem? (i := 1276) (by decide +kernel), List.mem_of_getElem? (i := 1277) (by decide +kernel)⟩
theorem lw_p53 : lw_okq (⟨"AdBreaksModel", "findCheapest", "(II)I"⟩, 19) := ⟨⟨by decide +kernel, by decide +kernel⟩, List.mem_of_getElem? (i := 1000) (by decide +kernel), List.mem_of_getElem? (i := 1295) (by decide +kernel), List.mem_of_getElem? (i := 1296) (by decide +kernel)⟩
theorem lw_p54 : lw_okq (⟨"AdBreaksModel", "noSet", "(I)Z"⟩, 19) := ⟨⟨by decide +kernel, by decide +kernel⟩, List.mem_of_getElem? (i := 1000) (by decide +kernel), List.mem_of_getElem? (i := 1319) (by decide +kernel), List.mem_of_getElem? (i := 1320) (by decide +kernel)⟩
theorem lw_p55 : lw_okq (⟨"AdBreaksModel", "layOrders", "()V"⟩, 19) := ⟨⟨by decide +kernel, by decide +kernel⟩, List.mem_of_getElem? (i := 1000) (by decide +kernel), List.mem_of_getElem? (i := 1323) (by decide +kernel), List.mem_of_getElem? (i := 1324) (by decide +kernel)⟩
theorem lw_p56 : lw_okq (⟨"AdBreaksModel", "countOrders", "(I)I"⟩, 19) := ⟨⟨by decide +kernel, by decide +kernel⟩, List.mem_of_getElem? (i := 1000) (by decide +kernel), List.mem_of_getElem? (i := 1327) (by decide +kernel), List.mem_of_getElem? (i := 1328) (by decide +kernel)⟩
theorem lw_p57 : lw_okq (⟨"AdBreaksModel", "layFirst", "(I)V"⟩, 19) := ⟨⟨by decide +kernel, by decide +kernel⟩, List.mem_of_getElem? (i := 1000) (by decide +kernel), List.mem_of_getElem? (i := 1335) (by decide +kernel), List.mem_of_getElem? (i := 1336) (by decide +kernel)⟩
theorem lw_p58 : lw_okq (⟨"AdBreaksModel", "books", "(III)I"⟩, 19) := ⟨⟨by decide +kernel, by decide +kernel⟩, List.mem_of_getElem? (i := 1000) (by decide +kernel), List.mem_of_getElem? (i := 1343) (by decide +kernel), List.mem_of_getElem? (i := 1344) (by decide +kernel)⟩
theorem lw_p59 : lw_okq (⟨"AdBreaksModel", "put", "(IIIII)V"⟩, 19) := ⟨⟨by decide +kernel, by decide +kernel⟩, List.mem_of_getElem? (i := 1000) (by decide +kernel), List.mem_of_getElem? (i := 1347) (by decide +kernel), List.mem_of_getElem? (i := 1348) (by decide +kernel)⟩
theorem lw_p60 : lw_okq (⟨"AdBreaksModel", "setOf", "(I)I"⟩, 19) := ⟨⟨by decide +kernel, by decide +kernel⟩, List.mem_of_getElem? (i := 1000) (by decide +kernel), List.mem_of_getElem? (i := 1355) (by decide +kernel), List.mem_of_getElem? (i := 1356) (by decide +kernel)⟩
theorem lw_p61 : lw_okq (⟨"AdBreaksModel", "reorder", "(II)I"⟩, 19) := ⟨⟨by decide +kernel, by decide +kernel⟩, List.mem_of_getElem? (i := 1000) (by decide +kernel), List.mem_of_getElem? (i := 1359) (by decide +kernel), List.mem_of_getElem? (i := 1360) (by decide +kernel)⟩
theorem lw_p62 : lw_okq (⟨"AdBreaksModel", "goodFor", "(I)I"⟩, 19) := ⟨⟨by decide +kernel, by decide +kernel⟩, List.mem_of_getElem? (i := 1000) (by decide +kernel), List.mem_of_getElem? (i := 1379) (by decide +kernel), List.mem_of_getElem? (i := 1380) (by decide +kernel)⟩
def lw_privs_4 : List (MethodName × Nat) := [(⟨"AdBreaksModel", "noSeconds", "(I)Z"⟩, 19), (⟨"AdBreaksModel", "reasonOf", "(III)I"⟩, 19), (⟨"AdBreaksModel", "placeFor", "(II)I"⟩, 19), (⟨"AdBreaksModel", "clash", "(II)Z"⟩, 19), (⟨"AdBreaksModel", "priceOf", "(III)I"⟩, 19), (⟨"AdBreaksModel", "findCheapest", "(II)I"⟩, 19), (⟨"AdBreaksModel", "noSet", "(I)Z"⟩, 19), (⟨"AdBreaksModel", "layOrders", "()V"⟩, 19), (⟨"AdBreaksModel", "countOrders", "(I)I"⟩, 19), (⟨"AdBreaksModel", "layFirst", "(I)V"⟩, 19), (⟨"AdBreaksModel", "books", "(III)I"⟩, 19), (⟨"AdBreaksModel", "put", "(IIIII)V"⟩, 19), (⟨"AdBreaksModel", "setOf", "(I)I"⟩, 19), (⟨"AdBreaksModel", "reorder", "(II)I"⟩, 19), (⟨"AdBreaksModel", "goodFor", "(I)I"⟩, 19)]
theorem lw_r4 : ∀ q ∈ lw_privs_4, lw_okq q := List.forall_mem_cons.mpr ⟨lw_p48, List.forall_mem_cons.mpr ⟨lw_p49, List.forall_mem_cons.mpr ⟨lw_p50, List.forall_mem_cons.mpr ⟨lw_p51, List.forall_mem_cons.mpr ⟨lw_p52, List.forall_mem_cons.mpr ⟨lw_p53, List.forall_mem_cons.mpr ⟨lw_p54, List.forall_mem_cons.mpr ⟨lw_p55, List.forall_mem_cons.mpr ⟨lw_p56, List.forall_mem_cons.mpr ⟨lw_p57, List.forall_mem_cons.mpr ⟨lw_p58, List.forall_mem_cons.mpr ⟨lw_p59, List.forall_mem_cons.mpr ⟨lw_p60, List.forall_mem_cons.mpr ⟨lw_p61, List.forall_mem_cons.mpr ⟨lw_p62, fun _ h => absurd h List.not_mem_nil⟩⟩⟩⟩⟩⟩⟩⟩⟩⟩⟩⟩⟩⟩⟩
def lw_privs : List (MethodName × Nat) := lw_privs_1 ++ (lw_privs_2 ++ (lw_privs_3 ++ (lw_privs_4)))
def lw_tbl : List Cond := k2_sels lw_privs ++ tables_1
theorem lw_privs_ok : ∀ q ∈ lw_privs, lw_okq q := by
  show ∀ q ∈ lw_privs_1 ++ (lw_privs_2 ++ (lw_privs_3 ++ (lw_privs_4))), lw_okq q
  exact List.forall_mem_append.mpr ⟨lw_r1, List.forall_mem_append.mpr ⟨lw_r2, List.forall_mem_append.mpr ⟨lw_r3, lw_r4⟩⟩⟩
-- ===== end of PART A
end
section
/-- the printed names speak of va_AOA, which no text of the kit holds: an array class over another array class -/
def va_AOA (ty : FieldType) (U : State) : Prop := (Cond.arrayOver (.array ty)).before #[] U = true
theorem va_AOA.use {ty : FieldType} {A : Array Value} {U : State} (h : va_AOA ty U) : (Cond.arrayOver (.array ty)).before A U = true := h
/-! ===== BEGIN words of one list among another's, by their places ===== -/
theorem goodIn_r {big : List Cond} (ws : List Cond) (ps : List Nat) (hp : ws = ps.filterMap (fun i => big[i]?)) (h : ws.all goodWord = true) : GoodIn big ws := by
  intro w hw
  have h1 := List.all_eq_true.mp h w hw
  rw [hp] at hw
  obtain ⟨i, -, hi⟩ := List.mem_filterMap.mp hw
  have hm : w ∈ big := by first | exact List.mem_of_getElem? hi | exact List.getElem?_mem hi
  exact ⟨hm, good_of_word h1⟩
theorem goodIn_app {big a b : List Cond} (ha : GoodIn big a) (hb : GoodIn big b) : GoodIn big (a ++ b) := fun w h => (List.mem_append.mp h).elim (ha w) (hb w)
theorem goodIn_ca {big a b : List Cond} {c : Cond} (ha : GoodIn big (c :: a)) (hb : GoodIn big b) : GoodIn big (c :: (a ++ b)) := fun w h => (List.mem_cons.mp h).elim (fun e => ha w (List.mem_cons.mpr (Or.inl e))) (fun h => (List.mem_append.mp h).elim (fun h => ha w (List.mem_cons.mpr (Or.inr h))) (hb w))
theorem goodIn_sub {big ws : List Cond} (hm : ∀ w ∈ ws, w ∈ big) (h : ws.all goodWord = true) : GoodIn big ws := fun w hw => ⟨hm w hw, good_of_word (List.all_eq_true.mp h w hw)⟩
/-! ===== END ===== -/

/-! ===== BEGIN new T[n][m]: the outer array a place, the inner ones among the pooled ===== -/
/-- f, but v at every address of l -/
def vr_up {α : Type} (f : Nat → α) (l : List Nat) (v : α) : Nat → α := fun a => if a ∈ l then v else f a
theorem vr_up_in {α : Type} {f : Nat → α} {l : List Nat} {v : α} {a : Nat} (h : a ∈ l) : vr_up f l v a = v := if_pos h
theorem vr_up_ne {α : Type} {f : Nat → α} {l : List Nat} {v : α} {a : Nat} (h : a ∉ l) : vr_up f l v a = f a := if_neg h
theorem vr_rows {L l : List Nat} {f : Nat → va_E} {e : va_E} (h : ∀ a, a ∈ l → a ∉ L) : va_pl L f ++ l.map (fun a => (a, e)) = va_pl (L ++ l) (vr_up f l e) := by
  unfold va_pl
  rw [List.map_append]
  congr 1
  · apply List.map_congr_left
    intro a ha
    rw [vr_up_ne (fun q => h a q ha)]
  · apply List.map_congr_left
    intro a ha
    rw [vr_up_in ha]
theorem vr_lay {X rows : va_W} {x : Nat × va_E} {pl : va_W} {D : va_G} {cl : List vw_C} {H : Heap} (hP : va_P D cl (((X ++ pl) ++ [x]) ++ rows) H) : va_P D cl ((X ++ [x]) ++ (pl ++ rows)) H := by
  rw [List.append_assoc (X ++ pl)] at hP
  have h := va_P.swap hP
  rw [← List.append_assoc X] at h
  have h2 := va_P.swap h
  rw [List.append_assoc (X ++ [x])] at h2
  exact h2
theorem vr_layD {X rows : va_W} {x : Nat × va_E} {pl : va_W} {A : Nat → Prop} (hD : va_D A (((X ++ pl) ++ [x]) ++ rows)) : va_D A ((X ++ [x]) ++ (pl ++ rows)) := by
  rw [List.append_assoc (X ++ pl)] at hD
  have h := va_D.swap hD
  rw [← List.append_assoc X] at h
  have h2 := va_D.swap h
  rw [List.append_assoc (X ++ [x])] at h2
  exact h2
theorem vr_outer (c : ClassId) (N h0 : Nat) : ∀ i : Nat, Jvm.Free.Multi.outerC c N h0 i = arrV c N (fun j => va_rf (if j < i then some (h0 + 1 + j) else none))
  | 0 => by
    show ({ cls := c, slots := Array.replicate N .null, vm := .none } : Cell) = _
    rw [arrV_new]
    refine congrArg (arrV c N) (funext fun j => ?_)
    simp [va_rf]
  | i + 1 => by
    show (Jvm.Free.Multi.outerC c N h0 i).setSlot i (.ref (h0 + 1 + i)) = _
    rw [vr_outer c N h0 i, arrV_store]
    refine congrArg (arrV c N) (funext fun j => ?_)
    by_cases e : j = i
    · subst e
      simp [updV, va_rf]
    · by_cases h : j < i
      · simp [updV, e, h, Nat.lt_succ_of_lt h]
      · simp [updV, e, h, show ¬ j < i + 1 by omega]
section VGM
variable {p : Program} {l : Launch} {e : Env} {R : Room} {s : State} {m : MethodId} {args : Array Value} {below : List Frame} {meth : Method} {c : Code} {H : Heap} {locs : List Loc} {cells slots : Nat} {Q : State → Prop}
variable {cc : ByteArray} {pc : Nat} {ls : Array Slot} {rest : List Value} {D : va_G} {cl : List vw_C} {A : Nat → Prop} {a : Nat} {tys : List (ClassId × FieldType)} {ws : va_W} {H0 : Heap}
theorem va_mna {X : va_W} {L : List Nat} {f : Nat → va_E} {cc : ByteArray} (hexec : p.tables.exec = Jvm.exec) (hb : c.code = cc) {own : String} {index : Nat} {ty : FieldType} {cy : ClassId} (hown : s.vm.findClass own = some m.cls) (hclink : (Cond.classLink own index ("[" ++ (FieldType.array ty).toString)).before args s = true) (hover : va_AOA ty s) (harr : (Cond.arrayClass ty).before args s = true) (hcy : s.vm.findClass (FieldType.array ty).toString = some cy)
    (hK : va_K D cl tys s) (hP : va_P D cl (X ++ va_pl L f) H) (hD : va_D A (X ++ va_pl L f)) (hS : va_S A H0 H locs) (hA : ∀ q, H0.size ≤ q → A q) {n k : Int32} {N' K' : Nat} {z : vp_A} (hn : ¬ n < 0) (hk : ¬ k < 0) (hN : n.toNatClampNeg = N') (hM : k.toNatClampNeg = K')
    (hb1 : N' * 4 ≤ 536870912) (hb2 : K' * componentBytes ty ≤ 536870912) (hb3 : K' ≤ 536870912) (hdf : fits ty (defaultValue ty) = true) (hdd : (defaultValue ty).isDefault = true) (hcells : cells + (1 + N') ≤ R.cells) (hslots : slots + (N' + N' * K') ≤ R.slots) (hz : ∀ c : ClassId, Jvm.Free.Multi.innerC c K' (defaultValue ty) = vp_cell c z) (hdg : decode cc pc = .ok (.multianewarray index 2, 4))
    (kk : ∀ (q : Nat) (r : Nat → Nat) (cA : ClassId) (H1 : Heap), (∀ i j : Nat, i < N' → j < N' → r i = r j → i = j) → (∀ i : Nat, i < N' → r i ∉ L) → va_K D cl (tys ++ [(cA, .array ty)]) s →
      va_P D cl ((X ++ [(q, .inl (cA, N', .inr (.inr (.inr (.inr (fun i => if i < N' then some (r i) else none))))))]) ++ va_pl (L ++ (List.range N').map r) (vr_up f ((List.range N').map r) (.inl (cy, z)))) H1 → va_D A ((X ++ [(q, .inl (cA, N', .inr (.inr (.inr (.inr (fun i => if i < N' then some (r i) else none))))))]) ++ va_pl (L ++ (List.range N').map r) (vr_up f ((List.range N').map r) (.inl (cy, z)))) → va_S A H0 H1 locs →
      W p l e R s m args below meth c H1 locs (cells + 1 + N') (slots + N' + N' * K') Q (F0 m (pc + 4) ls (.ref q :: rest))) : W p l e R s m args below meth c H locs cells slots Q (F0 m pc ls (.int k :: .int n :: rest)) := by
  subst hN
  subst hM
  intro T hT Xs
  obtain ⟨vm₁, cA, comp, -, fA, fC, hO, -, X', step⟩ := Xs.multianewarray2F hexec hown hclink (va_AOA.use hover) harr (g := F0 m pc ls (.int k :: .int n :: rest)) rfl (by rw [hb]; exact hdg) rfl hn hk hb1 hb2 hb3 hdf hdd hcells hslots
  have ec : some cy = some comp := hcy.symm.trans fC
  cases ec
  generalize hF : Jvm.Free.Multi.fill (T.setVm vm₁) cA cy n.toNatClampNeg k.toNatClampNeg (defaultValue ty) n.toNatClampNeg = F at X' step
  have hTh : (T.setVm vm₁).heap = H := hT
  obtain ⟨f1, f2, -, -⟩ := Jvm.Free.Multi.fill_facts (T.setVm vm₁) cA cy n.toNatClampNeg k.toNatClampNeg (defaultValue ty) n.toNatClampNeg
  rw [hF, hTh] at f1 f2
  have hold : ∀ x : Nat, x < H.size → F.heap[x]? = H[x]? := fun x hx => by
    have := Jvm.Free.Multi.fill_old (T.setVm vm₁) cA cy n.toNatClampNeg k.toNatClampNeg (defaultValue ty) (a := x) (by rw [hTh]; exact hx) n.toNatClampNeg
    rw [hF, hTh] at this
    exact this
  have hrow : ∀ j : Nat, j < n.toNatClampNeg → F.heap[H.size + 1 + j]? = some (vp_cell cy z) := fun j hj => by
    have := Jvm.Free.Multi.fill_inner (T.setVm vm₁) cA cy n.toNatClampNeg k.toNatClampNeg (defaultValue ty) n.toNatClampNeg j hj
    rw [hF, hTh, hz] at this
    exact this
  have hout : Jvm.Free.Multi.outerC cA n.toNatClampNeg H.size n.toNatClampNeg = vp_cell cA (n.toNatClampNeg, .inr (.inr (.inr (.inr (fun i => if i < n.toNatClampNeg then some (H.size + 1 + i) else none))))) := by
    rw [vp_cell_q]
    exact vr_outer cA n.toNatClampNeg H.size n.toNatClampNeg
  rw [hout] at f2
  have hlt : ∀ a, a ∈ L → a < H.size := fun a ha => by
    obtain ⟨k9, hk9⟩ := va_pl_get (X := X) (f := f) ha
    exact (hP k9 _ hk9).lt
  have hnl : ∀ i : Nat, i < n.toNatClampNeg → H.size + 1 + i ∉ L := fun i _ h => by
    have := hlt _ h
    omega
  have hnm : ∀ a, a ∈ (List.range n.toNatClampNeg).map (fun i => H.size + 1 + i) → a ∉ L := fun a ha h => by
    obtain ⟨i, -, rfl⟩ := List.mem_map.mp ha
    have := hlt _ h
    omega
  have hP0 : va_P D cl (X ++ va_pl L f) F.heap := hP.kept (fun k9 x hx => hold x.1 ((hP k9 x hx).lt))
  have hP1 : va_P D cl ((X ++ va_pl L f) ++ [(H.size, .inl (cA, n.toNatClampNeg, .inr (.inr (.inr (.inr (fun i => if i < n.toNatClampNeg then some (H.size + 1 + i) else none))))))]) F.heap := hP0.app (fun k9 x hx => by
    have h0 : k9 < 1 := (List.getElem?_eq_some_iff.mp hx).1
    rw [show k9 = 0 by omega] at hx
    cases hx
    exact f2)
  have hP2 : va_P D cl (((X ++ va_pl L f) ++ [(H.size, .inl (cA, n.toNatClampNeg, .inr (.inr (.inr (.inr (fun i => if i < n.toNatClampNeg then some (H.size + 1 + i) else none))))))]) ++ ((List.range n.toNatClampNeg).map (fun i => H.size + 1 + i)).map (fun a => (a, .inl (cy, z)))) F.heap := hP1.app (fun k9 x hx => by
    obtain ⟨a, ha, rfl⟩ := List.mem_map.mp (List.mem_of_getElem? hx)
    obtain ⟨i, hi, rfl⟩ := List.mem_map.mp ha
    exact hrow i (List.mem_range.mp hi))
  have hD2 : va_D A (((X ++ va_pl L f) ++ [(H.size, .inl (cA, n.toNatClampNeg, .inr (.inr (.inr (.inr (fun i => if i < n.toNatClampNeg then some (H.size + 1 + i) else none))))))]) ++ ((List.range n.toNatClampNeg).map (fun i => H.size + 1 + i)).map (fun a => (a, .inl (cy, z)))) := by
    have hD1 := hD.push (e := .inl (cA, n.toNatClampNeg, .inr (.inr (.inr (.inr (fun i => if i < n.toNatClampNeg then some (H.size + 1 + i) else none)))))) hP rfl (hA _ hS.1)
    generalize hW1 : (X ++ va_pl L f) ++ [(H.size, .inl (cA, n.toNatClampNeg, .inr (.inr (.inr (.inr (fun i => if i < n.toNatClampNeg then some (H.size + 1 + i) else none))))))] = W1 at hD1 hP1 ⊢
    have hle : ∀ (k9 : Nat) (x : Nat × va_E), W1[k9]? = some x → x.1 ≤ H.size := fun k9 x hx => by
      rw [← hW1] at hx
      by_cases hl : k9 < (X ++ va_pl L f).length
      · rw [List.getElem?_append_left hl] at hx
        exact Nat.le_of_lt ((hP k9 x hx).lt)
      · rw [List.getElem?_append_right (by omega)] at hx
        have h0 : k9 - (X ++ va_pl L f).length < 1 := (List.getElem?_eq_some_iff.mp hx).1
        rw [show k9 - (X ++ va_pl L f).length = 0 by omega] at hx
        cases hx
        exact Nat.le_refl _
    have hr : ∀ (k9 : Nat) (x : Nat × va_E), (((List.range n.toNatClampNeg).map (fun i => H.size + 1 + i)).map (fun a => ((a, .inl (cy, z)) : Nat × va_E)))[k9]? = some x → x.1 = H.size + 1 + k9 := fun k9 x hx => by
      rw [List.getElem?_map, List.getElem?_map] at hx
      by_cases h9 : k9 < n.toNatClampNeg
      · rw [List.getElem?_range h9] at hx
        cases hx
        rfl
      · have hn0 : (List.range n.toNatClampNeg)[k9]? = none := List.getElem?_eq_none (by rw [List.length_range]; omega)
        rw [hn0] at hx
        cases hx
    refine ⟨fun i j x y hi hj hxy => ?_, fun k9 x hx => ?_⟩
    · by_cases h1 : i < W1.length <;> by_cases h2 : j < W1.length
      · rw [List.getElem?_append_left h1] at hi
        rw [List.getElem?_append_left h2] at hj
        exact hD1.1 i j x y hi hj hxy
      · rw [List.getElem?_append_left h1] at hi
        rw [List.getElem?_append_right (by omega)] at hj
        have := hle _ _ hi
        have := hr _ _ hj
        omega
      · rw [List.getElem?_append_right (by omega)] at hi
        rw [List.getElem?_append_left h2] at hj
        have := hle _ _ hj
        have := hr _ _ hi
        omega
      · rw [List.getElem?_append_right (by omega)] at hi hj
        have := hr _ _ hi
        have := hr _ _ hj
        omega
    · by_cases h1 : k9 < W1.length
      · rw [List.getElem?_append_left h1] at hx
        exact hD1.2 k9 x hx
      · rw [List.getElem?_append_right (by omega)] at hx
        have := hr _ _ hx
        exact hA _ (by have := hS.1; omega)
  have hAr : ArrOfT s cA (.array ty) := fun N9 z9 => by
    obtain ⟨-, k9, hk9, cm9, hkk9⟩ := (hO 0 0 0).1
    exact ⟨(fun q hq => by cases hq), k9, hk9, cm9, hkk9⟩
  have hK2 : va_K D cl (tys ++ [(cA, .array ty)]) s := ⟨hK.1, fun k9 x hx => by
    by_cases hl : k9 < tys.length
    · rw [List.getElem?_append_left hl] at hx
      exact hK.2 k9 x hx
    · rw [List.getElem?_append_right (by omega)] at hx
      have h0 : k9 - tys.length < 1 := (List.getElem?_eq_some_iff.mp hx).1
      rw [show k9 - tys.length = 0 by omega] at hx
      cases hx
      exact ⟨hAr, fA⟩⟩
  obtain ⟨t, a1, b1⟩ := kk H.size (fun i => H.size + 1 + i) cA F.heap (fun i j _ _ h => by have h9 : H.size + 1 + i = H.size + 1 + j := h; omega) hnl hK2 (by rw [← vr_rows hnm]; exact vr_lay hP2) (by rw [← vr_rows hnm]; exact vr_layD hD2) ⟨by rw [f1]; have := hS.1; omega, fun x h1 h2 => (hold x (Nat.lt_of_lt_of_le h1 hS.1)).trans (hS.2.1 x h1 h2), hS.2.2⟩ F rfl X'
  refine ⟨t, step t ?_, b1⟩
  have e : T.heap.size = H.size := by rw [hT]
  rw [e]
  exact a1
end VGM
/-! ===== END ===== -/

/-! ===== BEGIN exceptions that leave a method, and their catching by the caller (launches without stack traces) ===== -/
section VXA
/-! The laws vx_back, vx_callV, vx_callS, vx_callSW, vx_throw0, vx_throwS follow proofs of the library, with one case more: JvmDerived/Free/Laws.lean (Back.of_free), Shelf42/LK1.lean (callV, callS), Shelf/KitTraced.lean (throwNew0V, throwNewS). -/
/-- where a method has thrown q: the class by its name, the cell, what was written, the world -/
def vx_T (XC : String → State → State → Prop) (st : State) (q : Addr) (t : State) (mc ms : Nat) (free : Addr → Prop) : Prop :=
  ∃ (E : String) (ce : Cell) (L : List Loc), XC E st t ∧ t.heap[q]? = some ce ∧ ce.vm = .none ∧ st.vm.findClass E = some ce.cls ∧ st.WarmedH t.vm ∧ st.sameButNew ({ t with vm := st.vm } : State) L mc ms ∧ ∀ z ∈ L, free z.base
def vx_Q (Qc : Array Value → State → Outcome → State → Prop) (XC : String → State → State → Prop) (mc ms : Nat) (free : Addr → Prop) : Array Value → State → Outcome → State → Prop := fun a st o t =>
  (Qc a st o t ∧ ∃ L, FrameEnd st o t L mc ms ∧ ∀ q ∈ L, free q.base) ∨ ∃ q, o = .threw q ∧ vx_T XC st q t mc ms free
/-- a callee that returns or throws -/
def vx_Met (l : Launch) (y : MethodName) (ws : List Cond) (rm : Room) (Pc : Array Value → State → Prop) (Qc : Array Value → State → Outcome → State → Prop) (XC : String → State → State → Prop) (mc ms : Nat) (free : Addr → Prop) : Prop :=
  MetFree l y (headSpec ws rm) Pc (fun _ _ _ _ _ => True) (vx_Q Qc XC mc ms free)
def vx_Post (XC : String → State → State → Prop) (mc ms : Nat) (free : Addr → Prop) : Pt → Array Value → Addr → Pt → Prop := fun A a q B =>
  ∃ (g : JFrame) (mk : MethodId) (t : State) (L : List Loc) (E : String) (ce : Cell), B.U.heap = t.heap ∧ B.U.vm = t.vm ∧ XC E (A.U.calling g mk a) t ∧ t.heap[q]? = some ce ∧ ce.vm = .none ∧ A.U.vm.findClass E = some ce.cls ∧ B.locs = A.locs ++ L ∧ (∀ z ∈ L, free z.base) ∧ B.cells = A.cells + mc ∧ B.slots = A.slots + ms
def vx_Back (l : Launch) (R : Room) (p : Program) (e : Env) (below : List Frame) (s : State) (sargs : Array Value) (y : MethodName) (len W9 : Nat)
    (Pre : Pt → Array Value → Prop) (Post : Pt → Array Value → Option Value → Pt → Prop) (PostX : Pt → Array Value → Addr → Pt → Prop) : Prop :=
  ∀ (m : MethodId) (meth : Method) (c : Code) (A : Pt) (g : JFrame) (ig : Instr) (mk : MethodId) (a : Array Value),
    Stand p l e R s m sargs below meth c A.U A.locs A.cells A.slots → g.method = m → g.locals.size = c.maxLocals → decode c.code g.pc = .ok (ig, len) →
    2 * g.monitorRoom + (g.stack.map fun v => v.category).sum ≤ W9 → A.U.methodNamed? y = some mk → Pre A a →
    (∃ (v : Option Value) (B : Pt), Stand p l e R s m sargs below meth c B.U B.locs B.cells B.slots ∧ Post A a v B ∧
      Steps p.tables e below (doInvoke e (A.U.setTop g) [] mk a).1 (B.U.setTop { g with pc := g.pc + len, stack := v.toList ++ g.stack })) ∨
    (∃ (q : Addr) (B : Pt), Stand p l e R s m sargs below meth c B.U B.locs B.cells B.slots ∧ PostX A a q B ∧
      Steps p.tables e below (doInvoke e (A.U.setTop g) [] mk a).1 ((B.U.setTop g).pushFrame (.throwing q)))
section Payer
variable {l : Launch} {R : Room} {p : Program} {e : Env} {below : List Frame} {s : State} {sargs : Array Value} {y : MethodName} {len W9 : Nat}
theorem vx_back {ws : List Cond} {rm : Room} {Pc : Array Value → State → Prop} {Qc : Array Value → State → Outcome → State → Prop} {XC : String → State → State → Prop} {mc ms : Nat} {free : Addr → Prop} {bytes : ByteArray} {maxL : Nat} {ret : Option FieldType}
    (hM : vx_Met l y ws rm Pc Qc XC mc ms free) (hblind : FrameBlind Pc) (hrc : rm.cells = mc) (hrs : rm.slots = ms)
    (hframes : rm.frames + 1 ≤ R.frames) (hlocals : W9 + (maxL + 11) + rm.locals ≤ R.locals)
    (hws : ∀ w ∈ ws, ∀ a' U, s.WarmedH U.vm → w.before a' U = true) (hcode : Cond.code y bytes maxL ret ∈ ws) (hinit : ∀ a' U, s.WarmedH U.vm → (Cond.initialized y.cls).before a' U = true) :
    vx_Back l R p e below s sargs y len W9 (PreOf R mc ms Pc) (PostOf Qc mc ms free) (vx_Post XC mc ms free) := by
  intro m meth c A g ig mk a X hg hsize hdg hW hn hp
  have h1 : (headSpec ws rm).pre.before a A.U = true := atoms_intro fun w hw => hws w hw _ _ X.warmed
  have h2 : (Cond.code y bytes maxL ret).before a A.U = true := hws _ hcode _ _ X.warmed
  have h3 : (Cond.initialized y.cls).before a A.U = true := hinit _ _ X.warmed
  have h4 : A.cells + (headSpec ws rm).room.cells ≤ R.cells := by rw [show (headSpec ws rm).room.cells = mc from hrc]; exact hp.1
  have h5 : A.slots + (headSpec ws rm).room.slots ≤ R.slots := by rw [show (headSpec ws rm).room.slots = ms from hrs]; exact hp.2.1
  have hPc : Pc a (A.U.calling g mk a) := hblind _ _ _ _ hp.2.2
  obtain ⟨U, Ls, c0, s0⟩ := A
  dsimp only [Pt.U, Pt.locs, Pt.cells, Pt.slots] at h1 h2 h3 h4 h5 X hn hPc ⊢
  obtain ⟨methY, cY, hmY, hcY, -, hlY, -, -, -, -⟩ := Cond.code_spec hn h2
  obtain ⟨kY, hkY, -⟩ := className_of_methodNamed hn
  have hinitY : kY.init = .initialized := Cond.initialized_spec (findClass_of_methodNamed hn) hkY h3
  have h : At U g.method c below := by rw [hg]; exact X.here
  have hlocals9 : W9 + (maxL + 11) + (headSpec ws rm).room.locals ≤ R.locals := hlocals
  have happ : (headSpec ws rm).appliesLoose y e.platform (U.calling g mk a) = true :=
    Spec.appliesLoose_calling (g := g) h hdg hn hkY hinitY
      (X.room_calling (g := g) (R' := (headSpec ws rm).room) hsize hmY hcY hframes (by rw [hlY]; omega) h4 h5) h1
  obtain ⟨mid, hmid⟩ := h.above
  have hfr : (U.setTop g).frames = (.java g :: mid) ++ below := by rw [State.frames_setTop' g h.top, hmid]; rfl
  obtain ⟨o, s₂, hsteps, -, hend, hq⟩ := Steps.callFree hM p X.admits X.cas X.clock (acts := []) hfr happ hPc trivial
  have hq' : vx_Q Qc XC mc ms free a (U.calling g mk a) o s₂ := hq
  rw [State.frames_setTop' g h.top] at hend
  obtain ⟨g₀, hg0⟩ := Option.isSome_iff_exists.mp h.top
  obtain ⟨r, hr⟩ := State.topJava?_eq_some.mp hg0
  have hr' : (({ U with heap := s₂.heap, slotsUsed := s₂.slotsUsed } : State).setVm s₂.vm).frames = .java g₀ :: r := hr
  rcases hq' with ⟨hqc, L, hfe, hL⟩ | ⟨q, rfl, E, ce, L, hx, hce, hcv, hcl, hW₂, hsm, hL⟩
  · obtain ⟨⟨v, rfl⟩, hW₂, e2, q2, q3, q4, q5, q6⟩ := id hfe
    have e3 : s₂ = ({ (U.calling g mk a).setFrames s₂.frames with heap := s₂.heap, slotsUsed := s₂.slotsUsed } : State).setVm s₂.vm := by
      have : s₂ = ({ s₂ with vm := (U.calling g mk a).vm } : State).setVm s₂.vm := rfl
      rw [e2] at this
      exact this
    obtain ⟨c₂, i₂, len₂, hc₂, hd₂, hf₂⟩ := hend
    have hW' : U.WarmedH s₂.vm := hW₂
    have hcc : c₂ = c := by
      have h1 : s₂.code? g.method = U.code? g.method := by
        rw [State.code?_eq, State.code?_eq, hW'.alike.method?]
      exact Option.some.inj (hc₂.symm.trans (h1.trans h.code))
    subst hcc
    have hlen : len₂ = len := by rw [hdg] at hd₂; cases hd₂; rfl
    subst hlen
    have hs₂ : s₂ = (({ U with heap := s₂.heap, slotsUsed := s₂.slotsUsed } : State).setVm s₂.vm).setTop { g with pc := g.pc + len₂, stack := v.toList ++ g.stack } := by
      refine e3.trans ?_
      rw [hf₂, State.calling_eq h.top, State.setFrames_setFrames, State.setTop_of_frames _ hr', hr]
      rfl
    have hsame : U.sameButNew ({ U with heap := s₂.heap, slotsUsed := s₂.slotsUsed } : State) L mc ms := by
      refine ⟨?_, q2, q3, q4, q5, q6⟩
      obtain ⟨t, ht, -⟩ := State.frames_cons hr
      show ({ U with heap := s₂.heap, slotsUsed := s₂.slotsUsed } : State) = { U.setFrames U.frames with heap := s₂.heap, slotsUsed := s₂.slotsUsed }
      rw [State.setFrames_self ht]
    subst hg
    refine Or.inl ⟨v, ⟨(({ U with heap := s₂.heap, slotsUsed := s₂.slotsUsed } : State).setVm s₂.vm), Ls ++ L, c0 + mc, s0 + ms⟩,
      ⟨X.admits, X.cas, X.clock, X.frames, X.room, X.hears, X.method, X.code, (X.here.setHeapUsed s₂.heap s₂.slotsUsed).setVm hW'.alike, X.tail, State.WarmedH.trans X.warmed hW', X.limits, X.bytes, X.same.trans (hsame.setVm s.vm)⟩,
      ⟨g, mk, s₂, L, rfl, rfl, hqc, rfl, hL, rfl, rfl⟩, ?_⟩
    show Steps p.tables e below _ ((({ U with heap := s₂.heap, slotsUsed := s₂.slotsUsed } : State).setVm s₂.vm).setTop { g with pc := g.pc + len₂, stack := v.toList ++ g.stack })
    rw [← hs₂]
    exact hsteps
  · obtain ⟨e2, q2, q3, q4, q5, q6⟩ := id hsm
    have e3 : s₂ = ({ (U.calling g mk a).setFrames s₂.frames with heap := s₂.heap, slotsUsed := s₂.slotsUsed } : State).setVm s₂.vm := by
      have : s₂ = ({ s₂ with vm := (U.calling g mk a).vm } : State).setVm s₂.vm := rfl
      rw [e2] at this
      exact this
    have hf₂ : s₂.frames = .throwing q :: .java g :: U.frames.tail := hend
    have hW' : U.WarmedH s₂.vm := hW₂
    have hs₂ : s₂ = ((({ U with heap := s₂.heap, slotsUsed := s₂.slotsUsed } : State).setVm s₂.vm).setTop g).pushFrame (.throwing q) := by
      refine e3.trans ?_
      rw [hf₂, State.calling_eq h.top, State.setFrames_setFrames, State.pushFrame, State.frames_setTop _ hr', State.setTop_of_frames _ hr', State.setFrames_setFrames, hr]
      rfl
    have hsame : U.sameButNew ({ U with heap := s₂.heap, slotsUsed := s₂.slotsUsed } : State) L mc ms := by
      refine ⟨?_, q2, q3, q4, q5, q6⟩
      obtain ⟨t, ht, -⟩ := State.frames_cons hr
      show ({ U with heap := s₂.heap, slotsUsed := s₂.slotsUsed } : State) = { U.setFrames U.frames with heap := s₂.heap, slotsUsed := s₂.slotsUsed }
      rw [State.setFrames_self ht]
    subst hg
    refine Or.inr ⟨q, ⟨(({ U with heap := s₂.heap, slotsUsed := s₂.slotsUsed } : State).setVm s₂.vm), Ls ++ L, c0 + mc, s0 + ms⟩,
      ⟨X.admits, X.cas, X.clock, X.frames, X.room, X.hears, X.method, X.code, (X.here.setHeapUsed s₂.heap s₂.slotsUsed).setVm hW'.alike, X.tail, State.WarmedH.trans X.warmed hW', X.limits, X.bytes, X.same.trans (hsame.setVm s.vm)⟩,
      ⟨g, mk, s₂, L, E, ce, rfl, rfl, hx, hce, hcv, hcl, rfl, hL, rfl, rfl⟩, ?_⟩
    show Steps p.tables e below _ (((({ U with heap := s₂.heap, slotsUsed := s₂.slotsUsed } : State).setVm s₂.vm).setTop g).pushFrame (.throwing q))
    rw [← hs₂]
    exact hsteps
end Payer
section Calls
variable {p : Program} {l : Launch} {e : Env} {R : Room} {s : State} {m : MethodId} {args : Array Value} {below : List Frame} {meth : Method} {c : Code} {T : State} {locs : List Loc} {cells slots : Nat}
theorem vx_callV (X : Stand p l e R s m args below meth c T locs cells slots) (hexec : p.tables.exec = Jvm.exec) {own C : String} {index : Nat} {y : MethodName} {bytes : ByteArray} {maxL : Nat} {ret : Option FieldType}
    (hown : s.vm.findClass own = some m.cls) (hlink : (Cond.methodLink own index y).before args s = true) (hinst : (Cond.instanceMethod y).before args s = true) (hsel : (Cond.selects C y y).before args s = true)
    (hcode : (Cond.code y bytes maxL ret).before args s = true) (hy : y.cls ≠ "java/lang/invoke/MethodHandle" ∧ y.cls ≠ "java/lang/invoke/VarHandle")
    {W9 : Nat} {Pre : Pt → Array Value → Prop} {Post : Pt → Array Value → Option Value → Pt → Prop} {PostX : Pt → Array Value → Addr → Pt → Prop} (hK : vx_Back l R p e below s args y 3 W9 Pre Post PostX)
    {b : Addr} {cellB : Cell} (hcell : T.heap[b]? = some cellB) (hobj : cellB.vm.isStatics = false) (hcls : s.vm.findClass C = some cellB.cls)
    {g : JFrame} (hg : g.method = m) (hsize : g.locals.size = c.maxLocals) {argsL rest : List Value} (hlen : ∀ sig, parseMethodDescriptor y.desc = some sig → argsL.length = sig.parameters.length)
    (hstack : g.stack = argsL.reverse ++ .ref b :: rest) (hW : 2 * g.monitorRoom + (rest.map fun v => v.category).sum ≤ W9) (hdg : decode c.code g.pc = .ok (.invokevirtual index, 3))
    (hpre : ∀ vm₁, s.WarmedH vm₁ → Pre ⟨T.setVm vm₁, locs, cells, slots⟩ (Value.ref b :: argsL).toArray) :
    (∃ (v : Option Value) (vm₁ : Vm) (B : Pt), s.WarmedH vm₁ ∧ Stand p l e R s m args below meth c B.U B.locs B.cells B.slots ∧ Post ⟨T.setVm vm₁, locs, cells, slots⟩ (Value.ref b :: argsL).toArray v B ∧
      ∀ target, Steps p.tables e below (B.U.setTop { g with pc := g.pc + 3, stack := v.toList ++ rest }) target → Steps p.tables e below (T.setTop g) target) ∨
    (∃ (q : Addr) (vm₁ : Vm) (B : Pt), s.WarmedH vm₁ ∧ Stand p l e R s m args below meth c B.U B.locs B.cells B.slots ∧ PostX ⟨T.setVm vm₁, locs, cells, slots⟩ (Value.ref b :: argsL).toArray q B ∧
      Steps p.tables e below (T.setTop g) ((B.U.setTop { g with stack := rest }).pushFrame (.throwing q))) := by
  obtain ⟨mk, methM, hnamed, hmethM, hstM, habM⟩ := Cond.instanceMethod_spec hinst
  obtain ⟨methM', cM, hmethM', -, -, -, -, -, -, hsigM⟩ := Cond.code_spec hnamed hcode
  cases hmethM.symm.trans hmethM'
  obtain ⟨c2, r2, m2, q1, q2, q3, q4, kP, hkP, hkPi⟩ := Cond.selects_spec hsel
  cases hcls.symm.trans q1
  cases (State.methodFound?_of_named hnamed hy).symm.trans q2
  cases hnamed.symm.trans q3
  have hselP : selectMethod e.platform s.vm cellB.cls mk = .method mk := by rw [Launch.admits_selectMethod X.admits]; exact q4
  obtain ⟨vm₁, X₁, hstep₁⟩ := X.invokevirtual hexec hown hlink hnamed hmethM hstM hkP hkPi hy (a := b) (cell := cellB) hcell
    (fun z h => by rw [h] at hobj; cases hobj) hselP hmethM habM hkP hkPi (g := g) hg (argsL := argsL) (rest := rest) (hlen _ hsigM) hstack hdg
  rcases hK m meth c ⟨T.setVm vm₁, locs, cells, slots⟩ { g with stack := rest } (.invokevirtual index) mk (Value.ref b :: argsL).toArray X₁ hg hsize hdg hW (X₁.named hnamed) (hpre vm₁ X₁.warmed) with ⟨v, B, X', hpost, hsteps⟩ | ⟨q, B, X', hpost, hsteps⟩
  · exact Or.inl ⟨v, vm₁, B, X₁.warmed, X', hpost, fun target h => hstep₁ _ fun acts => by rw [doInvoke_state]; exact hsteps.trans h⟩
  · exact Or.inr ⟨q, vm₁, B, X₁.warmed, X', hpost, hstep₁ _ fun acts => by rw [doInvoke_state]; exact hsteps⟩
theorem vx_callS (X : Stand p l e R s m args below meth c T locs cells slots) (hexec : p.tables.exec = Jvm.exec) {own : String} {index : Nat} {y : MethodName} {bytes : ByteArray} {maxL : Nat} {ret : Option FieldType}
    (hown : s.vm.findClass own = some m.cls) (hlink : (Cond.methodLink own index y).before args s = true) (hstat : (Cond.static y).before args s = true) (hinit : (Cond.initialized y.cls).before args s = true)
    (hcode : (Cond.code y bytes maxL ret).before args s = true) (hy : y.cls ≠ "java/lang/invoke/MethodHandle" ∧ y.cls ≠ "java/lang/invoke/VarHandle")
    {W9 : Nat} {Pre : Pt → Array Value → Prop} {Post : Pt → Array Value → Option Value → Pt → Prop} {PostX : Pt → Array Value → Addr → Pt → Prop} (hK : vx_Back l R p e below s args y 3 W9 Pre Post PostX)
    {g : JFrame} (hg : g.method = m) (hsize : g.locals.size = c.maxLocals) {argsL rest : List Value} (hlen : ∀ sig, parseMethodDescriptor y.desc = some sig → argsL.length = sig.parameters.length)
    (hstack : g.stack = argsL.reverse ++ rest) (hW : 2 * g.monitorRoom + (rest.map fun v => v.category).sum ≤ W9) (hdg : decode c.code g.pc = .ok (.invokestatic index, 3))
    (hpre : ∀ vm₁, s.WarmedH vm₁ → Pre ⟨T.setVm vm₁, locs, cells, slots⟩ argsL.toArray) :
    (∃ (v : Option Value) (vm₁ : Vm) (B : Pt), s.WarmedH vm₁ ∧ Stand p l e R s m args below meth c B.U B.locs B.cells B.slots ∧ Post ⟨T.setVm vm₁, locs, cells, slots⟩ argsL.toArray v B ∧
      ∀ target, Steps p.tables e below (B.U.setTop { g with pc := g.pc + 3, stack := v.toList ++ rest }) target → Steps p.tables e below (T.setTop g) target) ∨
    (∃ (q : Addr) (vm₁ : Vm) (B : Pt), s.WarmedH vm₁ ∧ Stand p l e R s m args below meth c B.U B.locs B.cells B.slots ∧ PostX ⟨T.setVm vm₁, locs, cells, slots⟩ argsL.toArray q B ∧
      Steps p.tables e below (T.setTop g) ((B.U.setTop { g with stack := rest }).pushFrame (.throwing q))) := by
  obtain ⟨mk, hnamed⟩ := Cond.code_named hcode
  obtain ⟨methM, cM, hmethM, -, -, -, -, -, -, hsigM⟩ := Cond.code_spec hnamed hcode
  have hstatic : methM.isStatic = true := Cond.static_spec hnamed hmethM hstat
  obtain ⟨kP, hkP, -⟩ := className_of_methodNamed hnamed
  have hinitP : kP.init = .initialized := Cond.initialized_spec (findClass_of_methodNamed hnamed) hkP hinit
  obtain ⟨vm₁, X₁, hstep₁⟩ := X.invokestatic hexec hown hlink hnamed hmethM hstatic hkP hinitP hy (g := g) hg (argsL := argsL) (rest := rest) (hlen _ hsigM) hstack hdg
  rcases hK m meth c ⟨T.setVm vm₁, locs, cells, slots⟩ { g with stack := rest } (.invokestatic index) mk argsL.toArray X₁ hg hsize hdg hW (X₁.named hnamed) (hpre vm₁ X₁.warmed) with ⟨v, B, X', hpost, hsteps⟩ | ⟨q, B, X', hpost, hsteps⟩
  · exact Or.inl ⟨v, vm₁, B, X₁.warmed, X', hpost, fun target h => hstep₁ _ fun acts => by rw [doInvoke_state]; exact hsteps.trans h⟩
  · exact Or.inr ⟨q, vm₁, B, X₁.warmed, X', hpost, hstep₁ _ fun acts => by rw [doInvoke_state]; exact hsteps⟩
end Calls
theorem vx_cls {s : State} {T : State} {vm₁ : Vm} {E : String} {k : ClassId} (hW : s.WarmedH vm₁) (h : (T.setVm vm₁).vm.findClass E = some k) : s.vm.findClass E = some k := by
  have h1 : vm₁.findClass E = some k := h
  rw [hW.alike.findClass] at h1
  exact h1
/-- the method's frame g, with q thrown over it -/
def vx_W (p : Program) (l : Launch) (e : Env) (R : Room) (s : State) (m : MethodId) (args : Array Value) (below : List Frame) (meth : Method) (c : Code) (H : Heap) (locs : List Loc) (cells slots : Nat) (Q : State → Prop) (g : JFrame) (q : Addr) : Prop :=
  ∀ T : State, T.heap = H → Stand p l e R s m args below meth c T locs cells slots → ∃ t, Steps p.tables e below ((T.setTop g).pushFrame (.throwing q)) t ∧ Q t
def vx_Run (p : Program) (l : Launch) (e : Env) (R : Room) (s : State) (m : MethodId) (args : Array Value) (below : List Frame) (meth : Method) (c : Code) (H : Heap) (locs : List Loc) (cells slots mc ms : Nat) (g : JFrame) (rest : List Value) (Qa : State → Outcome → State → Prop) (XC : String → State → State → Prop) (free : Addr → Prop) : Prop :=
  ∀ T : State, T.heap = H → Stand p l e R s m args below meth c T locs cells slots →
    (∃ (v : Option Value) (st₀ t T' : State) (L : List Loc), st₀.heap = H ∧ Stand p l e R s m args below meth c T' (locs ++ L) (cells + mc) (slots + ms) ∧ (∀ q ∈ L, free q.base) ∧ T'.heap = t.heap ∧ T'.vm = t.vm ∧ Qa st₀ (.returned v) t ∧
      Goes p e below T g T' { g with pc := g.pc + 3, stack := v.toList ++ rest }) ∨
    (∃ (q : Addr) (st₀ t T' : State) (L : List Loc) (E : String) (ce : Cell), st₀.heap = H ∧ Stand p l e R s m args below meth c T' (locs ++ L) (cells + mc) (slots + ms) ∧ (∀ z ∈ L, free z.base) ∧ T'.heap = t.heap ∧ T'.vm = t.vm ∧ XC E st₀ t ∧ t.heap[q]? = some ce ∧ ce.vm = .none ∧ s.vm.findClass E = some ce.cls ∧
      Steps p.tables e below (T.setTop g) ((T'.setTop { g with stack := rest }).pushFrame (.throwing q)))
def vx_X {S : Type} (px : S → Prop) (B : String → S → State → Prop) (A : Nat → Prop) : String → State → State → Prop := fun E st t => ∃ u : S, px u ∧ B E u t ∧ va_F A st t
section Runs
variable {p : Program} {l : Launch} {e : Env} {R : Room} {s : State} {m : MethodId} {args : Array Value} {below : List Frame} {meth : Method} {c : Code} {H : Heap} {locs : List Loc} {cells slots : Nat}
variable {y : MethodName} {bytes cc : ByteArray} {maxL nL mc ms n index : Nat} {ret : Option FieldType} {ws : List Cond} {rm : Room} {Pc : Array Value → State → Prop} {Qc : Array Value → State → Outcome → State → Prop} {XC : String → State → State → Prop} {free : Addr → Prop} {Ts : List Cond} {own C : String} {b : Addr} {As rest : List Value} {g : JFrame}
theorem vx_callBack (cb : CallB R s args own index y bytes maxL ret ws rm mc ms n) (hM : vx_Met l y ws rm Pc Qc XC mc ms free) (hbl : FrameBlind Pc) : vx_Back l R p e below s args y 3 8 (PreOf R mc ms Pc) (PostOf Qc mc ms free) (vx_Post XC mc ms free) := by
  obtain ⟨hrc, hrs, hfr, hlo, hws, hcw, -, hini, -⟩ := cb
  exact vx_back (bytes := bytes) (maxL := maxL) (ret := ret) hM hbl hrc hrs hfr hlo hws hcw (fun a' U hW => word_at hW (Or.inl (by first | rfl | simp [Cond.onTables, Cond.keeps, Cond.steady])) hini)
theorem vx_runV (S : CallFix p m c cc nL s args Ts own) (hM : vx_Met l y ws rm Pc Qc XC mc ms free) (cw : CallW R s args own C index y bytes maxL ret ws rm mc ms n) (hp : PreV s H C b Pc As)
    (hg : g.method = m) (hn : As.length = n) (hsize : g.locals.size = nL) (hstack : g.stack = As.reverse ++ .ref b :: rest) (hW : 2 * g.monitorRoom + (rest.map fun v => v.category).sum ≤ 8) (hdg : decode cc g.pc = .ok (.invokevirtual index, 3)) (hf : cells + mc ≤ R.cells ∧ slots + ms ≤ R.slots) :
    vx_Run p l e R s m args below meth c H locs cells slots mc ms g rest (Qc (Value.ref b :: As).toArray) XC free := by
  have hK : vx_Back l R p e below s args y 3 8 (PreOf R mc ms Pc) (PostOf Qc mc ms free) (vx_Post XC mc ms free) := vx_callBack cw.1 hM hp.1
  obtain ⟨⟨-, -, -, -, -, -, hcode, -, hy, hlen, hl⟩, hin, hse⟩ := cw
  obtain ⟨hx, hb, hml, ho, -⟩ := S
  obtain ⟨-, ⟨cellB, hcB, hoB, hclB⟩, hPc⟩ := hp
  intro T hT X
  rcases vx_callV X hx (C := C) (bytes := bytes) (maxL := maxL) (ret := ret) ho hl hin hse hcode hy hK (by rw [hT]; exact hcB) hoB hclB hg (hsize.trans hml.symm) (argsL := As) (rest := rest) (fun sig h => hn.trans (hlen sig h)) hstack hW (by rw [hb]; exact hdg)
    (fun vm₁ hW₁ => ⟨hf.1, hf.2, hPc (T.setVm vm₁) hT hW₁⟩) with ⟨v, vm₁, ⟨U', l2, c2, s2⟩, hW₁, X', ⟨g', mk, t, L, e1, e2, hq, h1, hL, h2, h3⟩, st⟩ | ⟨q, vm₁, ⟨U', l2, c2, s2⟩, hW₁, X', ⟨g', mk, t, L, E, ce, e1, e2, hq, hce, hcv, hcl, h1, hL, h2, h3⟩, st⟩
  · dsimp only [Pt.U, Pt.locs, Pt.cells, Pt.slots] at X' e1 e2 h1 h2 h3 st
    subst h1; subst h2; subst h3
    exact Or.inl ⟨v, (T.setVm vm₁).calling g' mk (Value.ref b :: As).toArray, t, U', L, hT, X', hL, e1, e2, hq, st⟩
  · dsimp only [Pt.U, Pt.locs, Pt.cells, Pt.slots] at X' e1 e2 h1 h2 h3 st hcl
    subst h1; subst h2; subst h3
    exact Or.inr ⟨q, (T.setVm vm₁).calling g' mk (Value.ref b :: As).toArray, t, U', L, E, ce, hT, X', hL, e1, e2, hq, hce, hcv, vx_cls hW₁ hcl, st⟩
theorem vx_runS (S : CallFix p m c cc nL s args Ts own) (hM : vx_Met l y ws rm Pc Qc XC mc ms free) (cw : CallB R s args own index y bytes maxL ret ws rm mc ms n ∧ (Cond.static y).before args s = true) (hp : PreS s H Pc As)
    (hg : g.method = m) (hn : As.length = n) (hsize : g.locals.size = nL) (hstack : g.stack = As.reverse ++ rest) (hW : 2 * g.monitorRoom + (rest.map fun v => v.category).sum ≤ 8) (hdg : decode cc g.pc = .ok (.invokestatic index, 3)) (hf : cells + mc ≤ R.cells ∧ slots + ms ≤ R.slots) :
    vx_Run p l e R s m args below meth c H locs cells slots mc ms g rest (Qc As.toArray) XC free := by
  have hK : vx_Back l R p e below s args y 3 8 (PreOf R mc ms Pc) (PostOf Qc mc ms free) (vx_Post XC mc ms free) := vx_callBack cw.1 hM hp.1
  obtain ⟨⟨-, -, -, -, -, -, hcode, hini, hy, hlen, hl⟩, hstt⟩ := cw
  obtain ⟨hx, hb, hml, ho, -⟩ := S
  intro T hT X
  rcases vx_callS X hx (bytes := bytes) (maxL := maxL) (ret := ret) ho hl hstt hini hcode hy hK hg (hsize.trans hml.symm) (argsL := As) (rest := rest) (fun sig h => hn.trans (hlen sig h)) hstack hW (by rw [hb]; exact hdg)
    (fun vm₁ hW₁ => ⟨hf.1, hf.2, hp.2 (T.setVm vm₁) hT hW₁⟩) with ⟨v, vm₁, ⟨U', l2, c2, s2⟩, hW₁, X', ⟨g', mk, t, L, e1, e2, hq, h1, hL, h2, h3⟩, st⟩ | ⟨q, vm₁, ⟨U', l2, c2, s2⟩, hW₁, X', ⟨g', mk, t, L, E, ce, e1, e2, hq, hce, hcv, hcl, h1, hL, h2, h3⟩, st⟩
  · dsimp only [Pt.U, Pt.locs, Pt.cells, Pt.slots] at X' e1 e2 h1 h2 h3 st
    subst h1; subst h2; subst h3
    exact Or.inl ⟨v, (T.setVm vm₁).calling g' mk As.toArray, t, U', L, hT, X', hL, e1, e2, hq, st⟩
  · dsimp only [Pt.U, Pt.locs, Pt.cells, Pt.slots] at X' e1 e2 h1 h2 h3 st hcl
    subst h1; subst h2; subst h3
    exact Or.inr ⟨q, (T.setVm vm₁).calling g' mk As.toArray, t, U', L, E, ce, hT, X', hL, e1, e2, hq, hce, hcv, vx_cls hW₁ hcl, st⟩
end Runs
section Rows
variable {p : Program} {l : Launch} {e : Env} {R : Room} {s : State} {m : MethodId} {args : Array Value} {below : List Frame} {meth : Method} {c : Code} {H : Heap} {locs : List Loc} {cells slots : Nat} {Q : State → Prop}
variable {mc ms : Nat} {free : Addr → Prop} {A0 A1 : Nat → Prop} {H0 : Heap} {a : Array Value} {pc : Nat} {ls : Array Slot} {st0 rest : List Value}
theorem vx_keep {st₀ t T' : State} {L : List Loc} (h0 : st₀.heap = H) (e1 : T'.heap = t.heap) (hS : va_S A0 H0 H locs) (hA : ∀ q, q < H.size → A1 q → A0 q) (hf : ∀ q, free q → A0 q) (hL : ∀ q ∈ L, free q.base) (hF : va_F A1 st₀ t) :
    H.size ≤ T'.heap.size ∧ (∀ q : Nat, q < H.size → ¬ A1 q → T'.heap[q]? = H[q]?) ∧ va_S A0 H0 T'.heap (locs ++ L) := by
  obtain ⟨hz, hk⟩ := hF
  rw [h0] at hz hk
  exact ⟨by rw [e1]; exact hz, fun q h1 h2 => by rw [e1]; exact hk q h1 h2,
    ⟨Nat.le_trans hS.1 (by rw [e1]; exact hz), fun q h1 h2 => by rw [e1, hk q (Nat.lt_of_lt_of_le h1 hS.1) (fun z => h2 (hA q (Nat.lt_of_lt_of_le h1 hS.1) z))]; exact hS.2.1 q h1 h2, fun q hq => by
      rcases List.mem_append.mp hq with h | h
      · exact hS.2.2 q h
      · exact hf _ (hL q h)⟩⟩
theorem vx_calli {S SX : Type} {post : Int32 → S → Prop} {px : SX → Prop} {B : S → State → Prop} {BX : String → SX → State → Prop} {AX : Nat → Prop} (hr : vx_Run p l e R s m args below meth c H locs cells slots mc ms (F0 m pc ls st0) rest (va_Qi post B A1 a) (vx_X px BX AX) free) (hS : va_S A0 H0 H locs) (hA : ∀ q, q < H.size → A1 q → A0 q) (hf : ∀ q, free q → A0 q) (hAX : ∀ q, q < H.size → AX q → A0 q)
    (kx : ∀ (E : String) (ce : Cell) (q9 : Addr) (u : SX) (t : State) (H1 : Heap) (locs1 : List Loc), t.heap = H1 → s.vm.Alike t.vm → px u → BX E u t → H.size ≤ H1.size → (∀ q : Nat, q < H.size → ¬ AX q → H1[q]? = H[q]?) → va_S A0 H0 H1 locs1 → H1[q9]? = some ce → ce.vm = .none → s.vm.findClass E = some ce.cls → vx_W p l e R s m args below meth c H1 locs1 (cells + mc) (slots + ms) Q (F0 m pc ls rest) q9)
    (kk : ∀ (r : Int32) (u : S) (t : State) (H1 : Heap) (locs1 : List Loc), t.heap = H1 → s.vm.Alike t.vm → post r u → B u t → H.size ≤ H1.size → (∀ q : Nat, q < H.size → ¬ A1 q → H1[q]? = H[q]?) → va_S A0 H0 H1 locs1 → W p l e R s m args below meth c H1 locs1 (cells + mc) (slots + ms) Q (F0 m (pc + 3) ls (.int r :: rest))) : W p l e R s m args below meth c H locs cells slots Q (F0 m pc ls st0) := by
  intro T hT X
  rcases hr T hT X with ⟨v, st₀, t, T', L, h0, X', hL, e1, e2, ⟨⟨r, u, hv, hp, hb⟩, hF⟩, st⟩ | ⟨q, st₀, t, T', L, E, ce, h0, X', hL, e1, e2, ⟨u, hp, hb, hF⟩, hce, hcv, hcl, st⟩
  · cases hv
    obtain ⟨k1, k2, k3⟩ := vx_keep h0 e1 hS hA hf hL hF
    obtain ⟨t2, a1, b1⟩ := kk r u t T'.heap (locs ++ L) e1.symm (by rw [← e2]; exact X'.warmed.alike) hp hb k1 k2 k3 T' rfl X'
    exact ⟨t2, st t2 a1, b1⟩
  · obtain ⟨k1, k2, k3⟩ := vx_keep h0 e1 hS hAX hf hL hF
    obtain ⟨t2, a1, b1⟩ := kx E ce q u t T'.heap (locs ++ L) e1.symm (by rw [← e2]; exact X'.warmed.alike) hp hb k1 k2 k3 (by rw [e1]; exact hce) hcv hcl T' rfl X'
    exact ⟨t2, st.trans a1, b1⟩
theorem vx_calll {S SX : Type} {post : Int64 → S → Prop} {px : SX → Prop} {B : S → State → Prop} {BX : String → SX → State → Prop} {AX : Nat → Prop} (hr : vx_Run p l e R s m args below meth c H locs cells slots mc ms (F0 m pc ls st0) rest (va_Ql post B A1 a) (vx_X px BX AX) free) (hS : va_S A0 H0 H locs) (hA : ∀ q, q < H.size → A1 q → A0 q) (hf : ∀ q, free q → A0 q) (hAX : ∀ q, q < H.size → AX q → A0 q)
    (kx : ∀ (E : String) (ce : Cell) (q9 : Addr) (u : SX) (t : State) (H1 : Heap) (locs1 : List Loc), t.heap = H1 → s.vm.Alike t.vm → px u → BX E u t → H.size ≤ H1.size → (∀ q : Nat, q < H.size → ¬ AX q → H1[q]? = H[q]?) → va_S A0 H0 H1 locs1 → H1[q9]? = some ce → ce.vm = .none → s.vm.findClass E = some ce.cls → vx_W p l e R s m args below meth c H1 locs1 (cells + mc) (slots + ms) Q (F0 m pc ls rest) q9)
    (kk : ∀ (r : Int64) (u : S) (t : State) (H1 : Heap) (locs1 : List Loc), t.heap = H1 → s.vm.Alike t.vm → post r u → B u t → H.size ≤ H1.size → (∀ q : Nat, q < H.size → ¬ A1 q → H1[q]? = H[q]?) → va_S A0 H0 H1 locs1 → W p l e R s m args below meth c H1 locs1 (cells + mc) (slots + ms) Q (F0 m (pc + 3) ls (.long r :: rest))) : W p l e R s m args below meth c H locs cells slots Q (F0 m pc ls st0) := by
  intro T hT X
  rcases hr T hT X with ⟨v, st₀, t, T', L, h0, X', hL, e1, e2, ⟨⟨r, u, hv, hp, hb⟩, hF⟩, st⟩ | ⟨q, st₀, t, T', L, E, ce, h0, X', hL, e1, e2, ⟨u, hp, hb, hF⟩, hce, hcv, hcl, st⟩
  · cases hv
    obtain ⟨k1, k2, k3⟩ := vx_keep h0 e1 hS hA hf hL hF
    obtain ⟨t2, a1, b1⟩ := kk r u t T'.heap (locs ++ L) e1.symm (by rw [← e2]; exact X'.warmed.alike) hp hb k1 k2 k3 T' rfl X'
    exact ⟨t2, st t2 a1, b1⟩
  · obtain ⟨k1, k2, k3⟩ := vx_keep h0 e1 hS hAX hf hL hF
    obtain ⟨t2, a1, b1⟩ := kx E ce q u t T'.heap (locs ++ L) e1.symm (by rw [← e2]; exact X'.warmed.alike) hp hb k1 k2 k3 (by rw [e1]; exact hce) hcv hcl T' rfl X'
    exact ⟨t2, st.trans a1, b1⟩
theorem vx_callf {S SX : Type} {post : UInt32 → S → Prop} {px : SX → Prop} {B : S → State → Prop} {BX : String → SX → State → Prop} {AX : Nat → Prop} (hr : vx_Run p l e R s m args below meth c H locs cells slots mc ms (F0 m pc ls st0) rest (va_Qf post B A1 a) (vx_X px BX AX) free) (hS : va_S A0 H0 H locs) (hA : ∀ q, q < H.size → A1 q → A0 q) (hf : ∀ q, free q → A0 q) (hAX : ∀ q, q < H.size → AX q → A0 q)
    (kx : ∀ (E : String) (ce : Cell) (q9 : Addr) (u : SX) (t : State) (H1 : Heap) (locs1 : List Loc), t.heap = H1 → s.vm.Alike t.vm → px u → BX E u t → H.size ≤ H1.size → (∀ q : Nat, q < H.size → ¬ AX q → H1[q]? = H[q]?) → va_S A0 H0 H1 locs1 → H1[q9]? = some ce → ce.vm = .none → s.vm.findClass E = some ce.cls → vx_W p l e R s m args below meth c H1 locs1 (cells + mc) (slots + ms) Q (F0 m pc ls rest) q9)
    (kk : ∀ (r : UInt32) (u : S) (t : State) (H1 : Heap) (locs1 : List Loc), t.heap = H1 → s.vm.Alike t.vm → post r u → B u t → H.size ≤ H1.size → (∀ q : Nat, q < H.size → ¬ A1 q → H1[q]? = H[q]?) → va_S A0 H0 H1 locs1 → W p l e R s m args below meth c H1 locs1 (cells + mc) (slots + ms) Q (F0 m (pc + 3) ls (.float r :: rest))) : W p l e R s m args below meth c H locs cells slots Q (F0 m pc ls st0) := by
  intro T hT X
  rcases hr T hT X with ⟨v, st₀, t, T', L, h0, X', hL, e1, e2, ⟨⟨r, u, hv, hp, hb⟩, hF⟩, st⟩ | ⟨q, st₀, t, T', L, E, ce, h0, X', hL, e1, e2, ⟨u, hp, hb, hF⟩, hce, hcv, hcl, st⟩
  · cases hv
    obtain ⟨k1, k2, k3⟩ := vx_keep h0 e1 hS hA hf hL hF
    obtain ⟨t2, a1, b1⟩ := kk r u t T'.heap (locs ++ L) e1.symm (by rw [← e2]; exact X'.warmed.alike) hp hb k1 k2 k3 T' rfl X'
    exact ⟨t2, st t2 a1, b1⟩
  · obtain ⟨k1, k2, k3⟩ := vx_keep h0 e1 hS hAX hf hL hF
    obtain ⟨t2, a1, b1⟩ := kx E ce q u t T'.heap (locs ++ L) e1.symm (by rw [← e2]; exact X'.warmed.alike) hp hb k1 k2 k3 (by rw [e1]; exact hce) hcv hcl T' rfl X'
    exact ⟨t2, st.trans a1, b1⟩
theorem vx_calld {S SX : Type} {post : UInt64 → S → Prop} {px : SX → Prop} {B : S → State → Prop} {BX : String → SX → State → Prop} {AX : Nat → Prop} (hr : vx_Run p l e R s m args below meth c H locs cells slots mc ms (F0 m pc ls st0) rest (va_Qd post B A1 a) (vx_X px BX AX) free) (hS : va_S A0 H0 H locs) (hA : ∀ q, q < H.size → A1 q → A0 q) (hf : ∀ q, free q → A0 q) (hAX : ∀ q, q < H.size → AX q → A0 q)
    (kx : ∀ (E : String) (ce : Cell) (q9 : Addr) (u : SX) (t : State) (H1 : Heap) (locs1 : List Loc), t.heap = H1 → s.vm.Alike t.vm → px u → BX E u t → H.size ≤ H1.size → (∀ q : Nat, q < H.size → ¬ AX q → H1[q]? = H[q]?) → va_S A0 H0 H1 locs1 → H1[q9]? = some ce → ce.vm = .none → s.vm.findClass E = some ce.cls → vx_W p l e R s m args below meth c H1 locs1 (cells + mc) (slots + ms) Q (F0 m pc ls rest) q9)
    (kk : ∀ (r : UInt64) (u : S) (t : State) (H1 : Heap) (locs1 : List Loc), t.heap = H1 → s.vm.Alike t.vm → post r u → B u t → H.size ≤ H1.size → (∀ q : Nat, q < H.size → ¬ A1 q → H1[q]? = H[q]?) → va_S A0 H0 H1 locs1 → W p l e R s m args below meth c H1 locs1 (cells + mc) (slots + ms) Q (F0 m (pc + 3) ls (.double r :: rest))) : W p l e R s m args below meth c H locs cells slots Q (F0 m pc ls st0) := by
  intro T hT X
  rcases hr T hT X with ⟨v, st₀, t, T', L, h0, X', hL, e1, e2, ⟨⟨r, u, hv, hp, hb⟩, hF⟩, st⟩ | ⟨q, st₀, t, T', L, E, ce, h0, X', hL, e1, e2, ⟨u, hp, hb, hF⟩, hce, hcv, hcl, st⟩
  · cases hv
    obtain ⟨k1, k2, k3⟩ := vx_keep h0 e1 hS hA hf hL hF
    obtain ⟨t2, a1, b1⟩ := kk r u t T'.heap (locs ++ L) e1.symm (by rw [← e2]; exact X'.warmed.alike) hp hb k1 k2 k3 T' rfl X'
    exact ⟨t2, st t2 a1, b1⟩
  · obtain ⟨k1, k2, k3⟩ := vx_keep h0 e1 hS hAX hf hL hF
    obtain ⟨t2, a1, b1⟩ := kx E ce q u t T'.heap (locs ++ L) e1.symm (by rw [← e2]; exact X'.warmed.alike) hp hb k1 k2 k3 (by rw [e1]; exact hce) hcv hcl T' rfl X'
    exact ⟨t2, st.trans a1, b1⟩
theorem vx_callv {S SX : Type} {post : S → Prop} {px : SX → Prop} {B : S → State → Prop} {BX : String → SX → State → Prop} {AX : Nat → Prop} (hr : vx_Run p l e R s m args below meth c H locs cells slots mc ms (F0 m pc ls st0) rest (va_Qv post B A1 a) (vx_X px BX AX) free) (hS : va_S A0 H0 H locs) (hA : ∀ q, q < H.size → A1 q → A0 q) (hf : ∀ q, free q → A0 q) (hAX : ∀ q, q < H.size → AX q → A0 q)
    (kx : ∀ (E : String) (ce : Cell) (q9 : Addr) (u : SX) (t : State) (H1 : Heap) (locs1 : List Loc), t.heap = H1 → s.vm.Alike t.vm → px u → BX E u t → H.size ≤ H1.size → (∀ q : Nat, q < H.size → ¬ AX q → H1[q]? = H[q]?) → va_S A0 H0 H1 locs1 → H1[q9]? = some ce → ce.vm = .none → s.vm.findClass E = some ce.cls → vx_W p l e R s m args below meth c H1 locs1 (cells + mc) (slots + ms) Q (F0 m pc ls rest) q9)
    (kk : ∀ (u : S) (t : State) (H1 : Heap) (locs1 : List Loc), t.heap = H1 → s.vm.Alike t.vm → post u → B u t → H.size ≤ H1.size → (∀ q : Nat, q < H.size → ¬ A1 q → H1[q]? = H[q]?) → va_S A0 H0 H1 locs1 → W p l e R s m args below meth c H1 locs1 (cells + mc) (slots + ms) Q (F0 m (pc + 3) ls (rest))) : W p l e R s m args below meth c H locs cells slots Q (F0 m pc ls st0) := by
  intro T hT X
  rcases hr T hT X with ⟨v, st₀, t, T', L, h0, X', hL, e1, e2, ⟨⟨u, hv, hp, hb⟩, hF⟩, st⟩ | ⟨q, st₀, t, T', L, E, ce, h0, X', hL, e1, e2, ⟨u, hp, hb, hF⟩, hce, hcv, hcl, st⟩
  · cases hv
    obtain ⟨k1, k2, k3⟩ := vx_keep h0 e1 hS hA hf hL hF
    obtain ⟨t2, a1, b1⟩ := kk u t T'.heap (locs ++ L) e1.symm (by rw [← e2]; exact X'.warmed.alike) hp hb k1 k2 k3 T' rfl X'
    exact ⟨t2, st t2 a1, b1⟩
  · obtain ⟨k1, k2, k3⟩ := vx_keep h0 e1 hS hAX hf hL hF
    obtain ⟨t2, a1, b1⟩ := kx E ce q u t T'.heap (locs ++ L) e1.symm (by rw [← e2]; exact X'.warmed.alike) hp hb k1 k2 k3 (by rw [e1]; exact hce) hcv hcl T' rfl X'
    exact ⟨t2, st.trans a1, b1⟩
/-- caught by the row x of this method's table; the rows ahead don't take it -/
theorem vx_catch {own name : String} {E : String} {ce : Cell} {q : Addr} (hown : s.vm.findClass own = some m.cls) (pre : List ExceptionTableEntry) (x : ExceptionTableEntry) (suf : List ExceptionTableEntry) (hsplit : c.exceptionTable.toList = pre ++ x :: suf)
    (hpass : ∀ z ∈ pre, covers z pc = false ∨ (z.catchType ≠ 0 ∧ ∃ nm : String, (Cond.classLink own z.catchType nm).before args s = true ∧ va_Nc E nm s)) (hx : covers x pc = true) (h0 : x.catchType ≠ 0)
    (hlink : (Cond.classLink own x.catchType name).before args s = true) (hcast : (Cond.castable E name).before args s = true) (hcell : H[q]? = some ce) (hv : ce.vm = .none) (hcl : s.vm.findClass E = some ce.cls)
    (kk : W p l e R s m args below meth c H locs cells slots Q (F0 m x.handlerPc ls [.ref q])) : vx_W p l e R s m args below meth c H locs cells slots Q (F0 m pc ls rest) q := by
  intro T hT X
  have hpl : e.platform.magicAccessors = ({} : Platform).magicAccessors := by rw [X.admits.platform]
  obtain ⟨c3, c4, hc3, hc4, hasg⟩ := Cond.castable_spec hcast
  cases Option.some.inj (hc3.symm.trans hcl)
  obtain ⟨c5, hc5, hcl5⟩ := Cond.classLink_spec hown hlink e.platform hpl
  cases Option.some.inj (hc4.symm.trans hc5)
  obtain ⟨vm', X', st⟩ := X.thenCaughtThrough q (g := F0 m pc ls rest) rfl (Steps.refl _) (by rw [hT]; exact hcell) (by rw [hv]; rfl) (by obtain ⟨k9, h9, -⟩ := Vm.findClass_spec hcl; exact ⟨k9, h9⟩) pre x suf hsplit
    (fun z hz => by
      rcases hpass z hz with h | ⟨hz0, nm, hl1, hn1⟩
      · exact Or.inl h
      · obtain ⟨c6, hc6, hcl6⟩ := Cond.classLink_spec hown hl1 e.platform hpl
        obtain ⟨a8, b8, h1, h2, h3⟩ := hn1
        cases Option.some.inj (h1.symm.trans hcl)
        cases Option.some.inj (h2.symm.trans hc6)
        exact Or.inr ⟨hz0, _, hcl6, h3⟩) hx (Or.inr ⟨h0, c4, hcl5, hasg⟩)
  obtain ⟨t, a1, b1⟩ := kk (T.setVm vm') hT X'
  exact ⟨t, st.trans a1, b1⟩
end Rows
section Ends
variable {p : Program} {l : Launch} {e : Env} {R : Room} {s : State} {m : MethodId} {args : Array Value} {below : List Frame} {meth : Method} {c : Code} {H : Heap} {locs : List Loc} {cells slots : Nat} {Q : State → Prop}
variable {mc ms : Nat} {free : Addr → Prop} {A0 A1 : Nat → Prop} {H0 : Heap} {a : Array Value} {ls : Array Slot} {st0 rest : List Value}
variable {Qc : Array Value → State → Outcome → State → Prop} {XC : String → State → State → Prop}
/-- what a body that may throw owes at its end -/
def vx_MQ (below : List Frame) (Qc : Array Value → State → Outcome → State → Prop) (XC : String → State → State → Prop) (a : Array Value) (s : State) (mc ms : Nat) (free : Addr → Prop) : State → Prop := fun t =>
  ∃ o, t.status = .running ∧ Ended t below o ∧ vx_Q Qc XC mc ms free a s o t
theorem vx_ret {g : JFrame} {mc ms : Nat} (k : W p l e R s m args below meth c H locs cells slots (MQ below Qc args s mc ms free) g) : W p l e R s m args below meth c H locs cells slots (vx_MQ below Qc XC args s mc ms free) g := by
  intro T hT X
  obtain ⟨t, a1, o, b1, b2, b3, b4⟩ := k T hT X
  exact ⟨t, a1, o, b1, b2, Or.inl ⟨b3, b4⟩⟩
/-- not caught here: it goes on to the caller -/
theorem vx_widen {g : JFrame} {q : Addr} {k n : Nat} (h1 : cells ≤ k) (h2 : slots ≤ n) (kk : vx_W p l e R s m args below meth c H locs k n Q g q) : vx_W p l e R s m args below meth c H locs cells slots Q g q := fun T hT X => kk T hT (stand_widen X h1 h2)
theorem vx_out {pc : Nat} {E : String} {ce : Cell} {q : Addr} {mc ms : Nat} (hout : ∀ x ∈ c.exceptionTable.toList, covers x pc = false) (hlocks : meth.locks = false) (hcell : H[q]? = some ce) (hv : ce.vm = .none) (hcl : s.vm.findClass E = some ce.cls)
    (hx : ∀ t : State, t.heap = H → s.vm.Alike t.vm → XC E s t) (hf : ∀ z ∈ locs, free z.base) (hc : cells ≤ mc) (hs : slots ≤ ms) :
    vx_W p l e R s m args below meth c H locs cells slots (vx_MQ below Qc XC args s mc ms free) (F0 m pc ls rest) q := by
  intro T hT X
  obtain ⟨st1, hrun, hend, hW, hsm⟩ := X.leaveThrown q (g := F0 m pc ls rest) rfl rfl rfl hout hlocks
  have hcell9 : (T.setFrames (.throwing q :: below)).heap[q]? = some ce := by
    show T.heap[q]? = some ce
    rw [hT]; exact hcell
  exact ⟨_, st1, .threw q, hrun, hend, Or.inr ⟨q, rfl, E, ce, locs, hx _ hT hW.alike, hcell9, hv, hcl, hW, hsm.mono hc hs, hf⟩⟩
theorem vx_frame {U : State} {k n : Nat} (h : s.sameButNew ({ U with vm := s.vm } : State) locs k n) : s.heap.size ≤ U.heap.size ∧ ∀ q : Nat, q < s.heap.size → (∀ z ∈ locs, z.base ≠ q) → U.heap[q]? = s.heap[q]? := by
  obtain ⟨-, h2, -, -, -, h6⟩ := h
  refine ⟨h2, fun q hq hz => ?_⟩
  obtain ⟨c9, e1, e2, e3, e4⟩ := h6 q _ (Array.getElem?_eq_getElem hq)
  have hs : c9.slots = (s.heap[q]).slots := Array.ext_getElem? fun i => e4 i fun hm => hz _ hm rfl
  have h9 : c9 = s.heap[q] := by
    rw [hs] at e2
    exact e2
  have e5 : U.heap[q]? = some c9 := e1
  rw [e5, h9, Array.getElem?_eq_getElem hq]
/-- the words of a throw but the four that speak of the heap -/
def vx_no (w : Cond) : Bool := decide (w ≠ .isRef (.static Bundle.tN "UNASSIGNED_STACK" Bundle.steD)) && decide (w ≠ .isRef (.static Bundle.tN "SUPPRESSED_SENTINEL" Bundle.listD)) && decide (w ≠ .laysStatic Bundle.tN "UNASSIGNED_STACK" Bundle.steD) && decide (w ≠ .laysStatic Bundle.tN "SUPPRESSED_SENTINEL" Bundle.listD)
def vx_at0 (own : String) (ic : Nat) (X : String) (names : List String) : List Cond := (Bundle.ownAtoms0 own ic X names).filter vx_no
def vx_atS (own : String) (ic : Nat) (X : String) (names : List String) : List Cond := (Bundle.ownAtoms own ic X names).filter vx_no
/-- a word that the tables alone decide, or a good one -/
def vx_ot (w : Cond) : Bool := w.onTables || goodWord w
theorem vx_ot_at {args a' : Array Value} {s U : State} {w : Cond} (hW : s.WarmedH U.vm) (hvm : s.vm = U.vm) (hg : vx_ot w = true) (h : w.before args s = true) : w.before a' U = true := by
  simp only [vx_ot, Bool.or_eq_true] at hg
  rcases hg with hg | hg
  · exact va_tabs hg hvm h
  · exact word_at hW (good_of_word hg) h
/-- a list's words: the good ones out of the method's own list, the others by premises of their own -/
theorem vx_hat {args : Array Value} {s : State} {L B : List Cond} (h1 : ∀ w ∈ L.filter goodWord, w.before args s = true) (h2 : ∀ w ∈ L.filter (fun w => !goodWord w), w ∈ B) (h3 : ∀ w ∈ B, w.before args s = true) : ∀ w ∈ L, w.before args s = true := by
  intro w hw
  by_cases g : goodWord w = true
  · exact h1 w (List.mem_filter.mpr ⟨hw, g⟩)
  · refine h3 w (h2 w (List.mem_filter.mpr ⟨hw, ?_⟩))
    show (!goodWord w) = true
    cases hgw : goodWord w
    · rfl
    · exact absurd hgw g
theorem vx_c {args : Array Value} {s : State} {w : Cond} {B : List Cond} (h : w.before args s = true) (t : ∀ w ∈ B, w.before args s = true) : ∀ w' ∈ w :: B, w'.before args s = true := fun w' h' => (List.mem_cons.mp h').elim (fun e => by rw [e]; exact h) (t w')
theorem vx_n {args : Array Value} {s : State} : ∀ w ∈ ([] : List Cond), w.before args s = true := fun _ h => nomatch h
theorem vx_own {args : Array Value} {s : State} {L : List Cond} (h1 : ∀ w ∈ L.filter vx_no, w.before args s = true)
    (hU : (Cond.isRef (.static Bundle.tN "UNASSIGNED_STACK" Bundle.steD)).before args s = true) (hN : (Cond.isRef (.static Bundle.tN "SUPPRESSED_SENTINEL" Bundle.listD)).before args s = true)
    (lU : (Cond.laysStatic Bundle.tN "UNASSIGNED_STACK" Bundle.steD).before args s = true) (lN : (Cond.laysStatic Bundle.tN "SUPPRESSED_SENTINEL" Bundle.listD).before args s = true) : ∀ w ∈ L, w.before args s = true := by
  intro w hw
  by_cases e1 : w = .isRef (.static Bundle.tN "UNASSIGNED_STACK" Bundle.steD)
  · rw [e1]; exact hU
  · by_cases e2 : w = .isRef (.static Bundle.tN "SUPPRESSED_SENTINEL" Bundle.listD)
    · rw [e2]; exact hN
    · by_cases e3 : w = .laysStatic Bundle.tN "UNASSIGNED_STACK" Bundle.steD
      · rw [e3]; exact lU
      · by_cases e4 : w = .laysStatic Bundle.tN "SUPPRESSED_SENTINEL" Bundle.listD
        · rw [e4]; exact lN
        · exact h1 w (List.mem_filter.mpr ⟨hw, by unfold vx_no; rw [decide_eq_true e1, decide_eq_true e2, decide_eq_true e3, decide_eq_true e4]; rfl⟩)
/-- where a static field lies, its class's statics cell in H -/
def vx_L (C n d : String) (A : Nat → Prop) (U : State) (H : Heap) : Prop := ∃ (c : ClassId) (k : Class) (i : Nat) (f : Field) (a : Nat) (cell : Cell), U.vm.findClass C = some c ∧ U.fieldFound? C n d = some (c, k, i, f) ∧ f.isStatic = true ∧ k.statics = some a ∧ H[a]? = some cell ∧ cell.vm.isStatics = true ∧ cell.cls = c ∧ f.slot < cell.slots.size ∧ k.staticTypes[f.slot]? = some f.type ∧ ¬ A a
theorem vx_L.moved {C n d : String} {A : Nat → Prop} {u U : State} {H : Heap} (hvm : u.vm.Alike U.vm) (h : vx_L C n d A u H) : vx_L C n d A U H := by
  obtain ⟨c, k, i, f, a, cell, h1, h2, h3, h4, h5, h6, h7, h8, h9, h10⟩ := h
  obtain ⟨k', hi', he⟩ := State.fieldFound?_setVm hvm h2
  exact ⟨c, k', i, f, a, cell, by rw [hvm.findClass]; exact h1, hi', h3, by rw [he]; exact h4, h5, h6, h7, h8, by rw [he]; exact h9, h10⟩
theorem vx_L.kept {C n d : String} {A : Nat → Prop} {U : State} {H H1 : Heap} (h : vx_L C n d A U H) (hq : ∀ a : Nat, a < H.size → ¬ A a → H1[a]? = H[a]?) : vx_L C n d A U H1 := by
  obtain ⟨c, k, i, f, a, cell, h1, h2, h3, h4, h5, h6, h7, h8, h9, h10⟩ := h
  exact ⟨c, k, i, f, a, cell, h1, h2, h3, h4, by rw [hq a (Array.getElem?_eq_some_iff.mp h5).1 h10]; exact h5, h6, h7, h8, h9, h10⟩
theorem vx_L.narrow {C n d : String} {A B : Nat → Prop} {U : State} {H : Heap} (h : vx_L C n d A U H) (hAB : ∀ q, B q → A q) : vx_L C n d B U H := by
  obtain ⟨c, k, i, f, a, cell, h1, h2, h3, h4, h5, h6, h7, h8, h9, h10⟩ := h
  exact ⟨c, k, i, f, a, cell, h1, h2, h3, h4, h5, h6, h7, h8, h9, fun z => h10 (hAB _ z)⟩
theorem vx_L.word {C n d : String} {A : Nat → Prop} {s : State} {args : Array Value} (h : vx_L C n d A s s.heap) : (Cond.laysStatic C n d).before args s = true := by
  obtain ⟨c, k, i, f, a, cell, h1, h2, h3, h4, h5, h6, h7, h8, h9, -⟩ := h
  show (Cond.laysStatic C n d).holds args s none s [] = true
  exact Cond.laysStatic_of h1 h2 h3 h4 h5 h6 h7 h8 h9
/-- .. and what it holds: null or some reference -/
def vx_Zq (C n d : String) (A : Nat → Prop) (U : State) (H : Heap) : Prop := va_Zq C n d A U H ∧ vx_L C n d A U H
theorem vx_Zq.moved {C n d : String} {A : Nat → Prop} {u U : State} {H : Heap} (hvm : u.vm.Alike U.vm) (h : vx_Zq C n d A u H) : vx_Zq C n d A U H := ⟨va_Zq.moved hvm h.1, vx_L.moved hvm h.2⟩
theorem vx_Zq.kept {C n d : String} {A : Nat → Prop} {U : State} {H H1 : Heap} (h : vx_Zq C n d A U H) (hq : ∀ a : Nat, a < H.size → ¬ A a → H1[a]? = H[a]?) : vx_Zq C n d A U H1 := ⟨va_Zq.kept h.1 hq, vx_L.kept h.2 hq⟩
theorem vx_Zq.narrow {C n d : String} {A B : Nat → Prop} {U : State} {H : Heap} (h : vx_Zq C n d A U H) (hAB : ∀ q, B q → A q) : vx_Zq C n d B U H := ⟨va_Zq.narrow h.1 hAB, vx_L.narrow h.2 hAB⟩
theorem vx_Zqof {args : Array Value} {s : State} {C n d : String} {A : Nat → Prop} (hl : (Cond.laysStatic C n d).before args s = true) (hini : (Cond.initialized C).before args s = true) (h : (Cond.isRef (.static C n d)).before args s = true) (hA : ∀ a : Nat, a < s.heap.size → ¬ A a) : vx_Zq C n d A s s.heap := by
  refine ⟨va_Zqof hl hini h hA, ?_⟩
  obtain ⟨c, k, i, f, a, cell, h1, h2, h3, h4, h5, h6, h7, h8, h9⟩ := Cond.laysStatic_spec hl
  exact ⟨c, k, i, f, a, cell, h1, h2, h3, h4, h5, h6, h7, h8, h9, hA a (Array.getElem?_eq_some_iff.mp h5).1⟩
theorem vx_isRef {C n d : String} {v : Value} {A : Nat → Prop} {s : State} {args : Array Value} (h : va_Z C n d v A s s.heap) (hv : v.isRef = true) : (Cond.isRef (.static C n d)).before args s = true := by
  obtain ⟨cf, kf, fi, f, a, cell, h1, h2, h3, h4, h5, h6, h7, -⟩ := h
  have he : (Term.static C n d).eval args s none [] s = some v := by
    simp [Term.eval, State.fieldNamed?, h1, h2, h4, h5, h6, h7]
  simp only [Cond.before, Cond.holds, Cond.value, he]
  cases v <;> simp_all [Value.isRef]
theorem vx_isRefq {C n d : String} {A : Nat → Prop} {s : State} {args : Array Value} (h : va_Zq C n d A s s.heap) : (Cond.isRef (.static C n d)).before args s = true := by
  rcases h with h | ⟨t, h⟩
  · exact vx_isRef h rfl
  · exact vx_isRef h rfl
/-- the same frame, seen from here: as if the method were called anew in this heap -/
theorem vx_rebase {T : State} (X : Stand p l e R s m args below meth c T locs cells slots) {R' : Room} (hf : R'.frames ≤ R.frames) (hl : R'.locals ≤ R.locals) (hc : cells + R'.cells ≤ R.cells) (hs : slots + R'.slots ≤ R.slots) :
    Stand p l e R' ((T.setVm s.vm).setFrames (.invoking m args :: below)) m args below meth c T [] 0 0 := by
  have htop : (T.setVm s.vm).topJava?.isSome := X.here.top
  have hF : ((T.setVm s.vm).setFrames (.invoking m args :: below)).frames = .invoking m args :: below := State.frames_setFrames _ (State.cur_lt_of_top htop)
  obtain ⟨g₀, hg0⟩ := Option.isSome_iff_exists.mp htop
  obtain ⟨r, hr⟩ := State.topJava?_eq_some.mp hg0
  have hl9 : e.platform.stackLimits (T.setVm s.vm).me = e.platform.stackLimits s.me := X.limits
  have hb9 : (T.setVm s.vm).me.stackBytes = s.me.stackBytes := X.bytes
  refine ⟨X.admits, X.cas, X.clock, hF, ?_, X.hears, X.method, X.code, X.here, X.tail, X.warmed, ?_, ?_, ?_⟩
  · have h := X.room
    have hU : ((T.setVm s.vm).setFrames (.invoking m args :: below)).localsInUse = s.localsInUse := by
      rw [State.localsInUse_invoking hF (meth := meth) (c := c) X.method X.code, State.localsInUse_invoking X.frames X.method X.code]
    simp only [State.hasRoom, Bool.and_eq_true, decide_eq_true_eq] at h ⊢
    obtain ⟨⟨⟨⟨h1, h2, h3, h4, h5, h6⟩, h7⟩, h8⟩, h9⟩ := h
    rw [X.frames, List.length_cons] at h2 h3
    have q1 := X.heapSize
    have q2 := X.used
    simp only [hF, hU, List.length_cons, State.stackLimits_setFrames, State.stackBytes_setFrames, hl9, hb9]
    refine ⟨⟨⟨⟨by omega, by omega, by omega, by omega, by omega, h6⟩, ?_⟩, ?_⟩, X.book⟩
    · show T.heap.size + R'.cells ≤ e.platform.maxCells
      omega
    · show T.slotsUsed + R'.slots ≤ e.platform.maxSlots
      omega
  · rw [State.stackLimits_setFrames]; rfl
  · rw [State.stackBytes_setFrames]; rfl
  · refine ⟨?_, Nat.le_refl _, Nat.le_refl _, ?_, ?_, fun a c9 h9 => ⟨c9, h9, rfl, rfl, fun _ _ => rfl⟩⟩
    · obtain ⟨t, ht, -⟩ := State.frames_cons hr
      show T.setVm s.vm = { ((T.setVm s.vm).setFrames (.invoking m args :: below)).setFrames (T.setVm s.vm).frames with heap := T.heap, slotsUsed := T.slotsUsed }
      rw [State.setFrames_setFrames, State.setFrames_self ht]
      rfl
    · show T.slotsUsed = T.slotsUsed + ((T.heap.toList.drop T.heap.size).map (·.slots.size)).sum
      rw [List.drop_eq_nil_of_le (Nat.le_of_eq Array.length_toList)]
      rfl
    · show ((T.heap.toList.drop T.heap.size).map (·.slots.size)).sum ≤ 0
      rw [List.drop_eq_nil_of_le (Nat.le_of_eq Array.length_toList)]
      exact Nat.le_refl _
/-- 'throw new E()': new; dup; invokespecial; athrow -/
theorem vx_throw0 {cc : ByteArray} {pc : Nat} (hexec : p.tables.exec = Jvm.exec) (hb : c.code = cc) (hl : l.stackTraces = false) {own cls : String} {names : List String} {ik ic mc ms : Nat} {A : Nat → Prop}
    (hown : s.vm.findClass own = some m.cls) (hcls : Bundle.fit cls = true) (hnames : ∀ n ∈ names, Bundle.fit n = true)
    (hk : (Cond.classLink own ik cls).before args s = true) (hini : (Cond.initialized cls).before args s = true) (hat : ∀ w ∈ vx_at0 own ic cls names, w.before args s = true)
    (hgood : ∀ w ∈ Cond.classLink own ik cls :: Cond.initialized cls :: vx_at0 own ic cls names, vx_ot w = true)
    (hU : vx_Zq Bundle.tN "UNASSIGNED_STACK" Bundle.steD A s s.heap) (hN : vx_Zq Bundle.tN "SUPPRESSED_SENTINEL" Bundle.listD A s s.heap) (hS : va_S A s.heap H locs) (hsize : ls.size = c.maxLocals)
    (d0 : decode cc pc = .ok (.new ik, 3)) (d3 : decode cc (pc + 3) = .ok (.dup, 1)) (d4 : decode cc (pc + 4) = .ok (.invokespecial ic, 3)) (d7 : decode cc (pc + 7) = .ok (.athrow, 1))
    (hout : ∀ x ∈ c.exceptionTable.toList, covers x (pc + 7) = false)
    (hRframes : names.length + 3 < R.frames) (hRlocals : (rest.map fun v => v.category).sum + (13 * (names.length + 1) + 42) ≤ R.locals) (hRcells : cells + 1 ≤ R.cells) (hRslots : slots + 6 ≤ R.slots) (hlocks : meth.locks = false)
    (hx : ∀ t : State, s.vm.Alike t.vm → H.size ≤ t.heap.size → (∀ q : Nat, q < H.size → t.heap[q]? = H[q]?) → XC cls s t)
    (hf : ∀ z ∈ locs, free z.base) (hc : cells + 1 ≤ mc) (hs : slots + 6 ≤ ms) :
    W p l e R s m args below meth c H locs cells slots (vx_MQ below Qc XC args s mc ms free) (F0 m pc ls rest) := by
  intro T hT X
  have htr : e.platform.stackTraces = false := (show e.platform.stackTraces = l.stackTraces by rw [X.admits.platform]).trans hl
  have Y := vx_rebase X (R' := { frames := R.frames, locals := R.locals, cells := 1, slots := 6 }) (Nat.le_refl _) (Nat.le_refl _) hRcells hRslots
  obtain ⟨s', hA⟩ : ∃ z, z = (T.setVm s.vm).setFrames (.invoking m args :: below) := ⟨_, rfl⟩
  rw [← hA] at Y
  have hvm : s'.vm = s.vm := by rw [hA]; rfl
  have hhp : s'.heap = H := by rw [hA]; exact hT
  have hW0 : s.WarmedH s'.vm := by rw [hvm]; exact State.WarmedH.refl s
  have hat' : ∀ w ∈ vx_at0 own ic cls names, w.before args s' = true := fun w hw => vx_ot_at hW0 hvm.symm (hgood w (List.mem_cons_of_mem _ (List.mem_cons_of_mem _ hw))) (hat w hw)
  have hk' : (Cond.classLink own ik cls).before args s' = true := vx_ot_at hW0 hvm.symm (hgood _ List.mem_cons_self) hk
  have hini' : (Cond.initialized cls).before args s' = true := vx_ot_at hW0 hvm.symm (hgood _ (List.mem_cons_of_mem _ List.mem_cons_self)) hini
  have hU' : vx_Zq Bundle.tN "UNASSIGNED_STACK" Bundle.steD A s' s'.heap := by rw [hhp]; exact vx_Zq.moved hW0.alike (hU.kept hS.2.1)
  have hN' : vx_Zq Bundle.tN "SUPPRESSED_SENTINEL" Bundle.listD A s' s'.heap := by rw [hhp]; exact vx_Zq.moved hW0.alike (hN.kept hS.2.1)
  have h : ∀ w ∈ Bundle.ownAtoms0 own ic cls names, w.before args s' = true := vx_own hat' (vx_isRefq hU'.1) (vx_isRefq hN'.1) hU'.2.word hN'.2.word
  have hown' : s'.vm.findClass own = some m.cls := by rw [hvm]; exact hown
  have hins : (Cond.instantiable cls 6).before args s' = true := h _ (by simp [Bundle.ownAtoms0])
  obtain ⟨vm₁, cX, kX, hfX, hkX, -, -, X₁, st1⟩ := Y.newCold hexec (own := own) (C := cls) (index := ik) (n := 6) hown' hk' hins hini'
    (g := F0 m pc ls rest) rfl (by rw [hb]; exact d0) (Nat.le_refl _) (Nat.le_refl _)
  generalize hT1 : (T.setVm vm₁).pushCell { cls := cX, slots := kX.instanceTypes.map defaultValue, vm := .none } = T1 at X₁ st1
  have hcat : (Value.ref T.heap.size).category = 1 := rfl
  have hcellA : T1.heap[T.heap.size]? = some (freshCell cX kX) := by rw [← hT1]; exact State.heap_pushCell_size _ _
  have d3' : decode c.code (pc + 3) = .ok (.dup, 1) := by rw [hb]; exact d3
  obtain ⟨U, hsteps, hrun, hend, hW, hsame, ce, hce, hO⟩ := X₁.ctorThrow0 hexec htr (own := own) (cls := cls) (names := names) (ic := ic) hown' hcls hnames h (fun x hx => nomatch hx) hfX hkX hcellA (by rw [hhp, hT]; exact Nat.le_refl _)
    (g := { method := m, pc := pc + 4, locals := ls, stack := .ref T.heap.size :: .ref T.heap.size :: rest, locked := none }) rfl hsize rfl rfl (rest := rest) rfl
    (by rw [hb]; exact d4) (by rw [hb]; exact d7) hout hRframes (by simp only [List.map_cons, List.sum_cons, hcat]; omega) hlocks
  obtain ⟨f1, f2⟩ := vx_frame hsame
  rw [hhp] at f1 f2
  have hWs : s.WarmedH U.vm := State.WarmedH.trans hW0 hW
  have hcl : s.vm.findClass cls = some ce.cls := by
    have h9 := hO.cls
    rw [hvm] at h9
    exact h9
  have hall : s.sameButNew ({ U with vm := s.vm } : State) locs mc ms := by
    subst hA
    obtain ⟨e1, e2⟩ := hsame
    rw [State.setFrames_setFrames] at e1
    have h2 : (T.setVm s.vm).sameButNew ({ U with vm := s.vm } : State) [] (0 + 1) (0 + 6) := ⟨e1, e2⟩
    have h3 := X.same.trans h2
    rw [List.append_nil] at h3
    exact h3.mono hc hs
  refine ⟨U, ?_, .threw T.heap.size, hrun, hend, Or.inr ⟨T.heap.size, rfl, cls, ce, locs, hx U hWs.alike f1 (fun q hq => f2 q hq (fun z hz => nomatch hz)), hce, hO.vm, hcl, hWs, hall, hf⟩⟩
  refine st1 _ ?_
  show Steps p.tables e below (T1.setTop { method := m, pc := pc + 3, locals := ls, stack := .ref T.heap.size :: rest, locked := none }) _
  jvm_step X₁.here [X₁.here.top, hexec, d3', Value.category]
  exact hsteps
/-- 'throw new E("text")': new; dup; ldc; invokespecial; athrow -/
theorem vx_throwS {cc : ByteArray} {pc : Nat} (hexec : p.tables.exec = Jvm.exec) (hb : c.code = cc) (hl : l.stackTraces = false) {own cls text : String} {names : List String} {ik is ic mc ms sa : Nat} {A : Nat → Prop}
    (hown : s.vm.findClass own = some m.cls) (hcls : Bundle.fit cls = true) (hnames : ∀ n ∈ names, Bundle.fit n = true)
    (hk : (Cond.classLink own ik cls).before args s = true) (hini : (Cond.initialized cls).before args s = true) (hstr : vk_R own is text sa s) (hat : ∀ w ∈ vx_atS own ic cls names, w.before args s = true)
    (hgood : ∀ w ∈ Cond.classLink own ik cls :: Cond.initialized cls :: vx_atS own ic cls names, vx_ot w = true)
    (hU : vx_Zq Bundle.tN "UNASSIGNED_STACK" Bundle.steD A s s.heap) (hN : vx_Zq Bundle.tN "SUPPRESSED_SENTINEL" Bundle.listD A s s.heap) (hS : va_S A s.heap H locs) (hsize : ls.size = c.maxLocals)
    (d0 : decode cc pc = .ok (.new ik, 3)) (d3 : decode cc (pc + 3) = .ok (.dup, 1)) (d4 : decode cc (pc + 4) = .ok (.ldc is, 2)) (d6 : decode cc (pc + 6) = .ok (.invokespecial ic, 3)) (d9 : decode cc (pc + 9) = .ok (.athrow, 1))
    (hout : ∀ x ∈ c.exceptionTable.toList, covers x (pc + 9) = false)
    (hRframes : names.length + 3 < R.frames) (hRlocals : (rest.map fun v => v.category).sum + (13 * (names.length + 1) + 43) ≤ R.locals) (hRcells : cells + 1 ≤ R.cells) (hRslots : slots + 6 ≤ R.slots) (hlocks : meth.locks = false)
    (hx : ∀ t : State, s.vm.Alike t.vm → H.size ≤ t.heap.size → (∀ q : Nat, q < H.size → t.heap[q]? = H[q]?) → XC cls s t)
    (hf : ∀ z ∈ locs, free z.base) (hc : cells + 1 ≤ mc) (hs : slots + 6 ≤ ms) :
    W p l e R s m args below meth c H locs cells slots (vx_MQ below Qc XC args s mc ms free) (F0 m pc ls rest) := by
  intro T hT X
  have htr : e.platform.stackTraces = false := (show e.platform.stackTraces = l.stackTraces by rw [X.admits.platform]).trans hl
  have Y := vx_rebase X (R' := { frames := R.frames, locals := R.locals, cells := 1, slots := 6 }) (Nat.le_refl _) (Nat.le_refl _) hRcells hRslots
  obtain ⟨s', hA⟩ : ∃ z, z = (T.setVm s.vm).setFrames (.invoking m args :: below) := ⟨_, rfl⟩
  rw [← hA] at Y
  have hvm : s'.vm = s.vm := by rw [hA]; rfl
  have hhp : s'.heap = H := by rw [hA]; exact hT
  have hW0 : s.WarmedH s'.vm := by rw [hvm]; exact State.WarmedH.refl s
  have hat' : ∀ w ∈ vx_atS own ic cls names, w.before args s' = true := fun w hw => vx_ot_at hW0 hvm.symm (hgood w (List.mem_cons_of_mem _ (List.mem_cons_of_mem _ hw))) (hat w hw)
  have hk' : (Cond.classLink own ik cls).before args s' = true := vx_ot_at hW0 hvm.symm (hgood _ List.mem_cons_self) hk
  have hini' : (Cond.initialized cls).before args s' = true := vx_ot_at hW0 hvm.symm (hgood _ (List.mem_cons_of_mem _ List.mem_cons_self)) hini
  have hU' : vx_Zq Bundle.tN "UNASSIGNED_STACK" Bundle.steD A s' s'.heap := by rw [hhp]; exact vx_Zq.moved hW0.alike (hU.kept hS.2.1)
  have hN' : vx_Zq Bundle.tN "SUPPRESSED_SENTINEL" Bundle.listD A s' s'.heap := by rw [hhp]; exact vx_Zq.moved hW0.alike (hN.kept hS.2.1)
  have h : ∀ w ∈ Bundle.ownAtoms own ic cls names, w.before args s' = true := vx_own hat' (vx_isRefq hU'.1) (vx_isRefq hN'.1) hU'.2.word hN'.2.word
  have hown' : s'.vm.findClass own = some m.cls := by rw [hvm]; exact hown
  have hins : (Cond.instantiable cls 6).before args s' = true := h _ (by simp [Bundle.ownAtoms])
  obtain ⟨vm₁, cX, kX, hfX, hkX, -, -, X₁, st1⟩ := Y.newCold hexec (own := own) (C := cls) (index := ik) (n := 6) hown' hk' hins hini'
    (g := F0 m pc ls rest) rfl (by rw [hb]; exact d0) (Nat.le_refl _) (Nat.le_refl _)
  generalize hT1 : (T.setVm vm₁).pushCell { cls := cX, slots := kX.instanceTypes.map defaultValue, vm := .none } = T1 at X₁ st1
  have hcat : (Value.ref T.heap.size).category = 1 := rfl
  have hcellA : T1.heap[T.heap.size]? = some (freshCell cX kX) := by rw [← hT1]; exact State.heap_pushCell_size _ _
  have d3' : decode c.code (pc + 3) = .ok (.dup, 1) := by rw [hb]; exact d3
  have d4' : decode c.code (pc + 4) = .ok (.ldc is, 2) := by rw [hb]; exact d4
  have hstr' : vk_R own is text sa s' := vk_R.warm hW0 hstr
  obtain ⟨U, hsteps, hrun, hend, hW, hsame, ce, hce, hO⟩ := X₁.ctorThrowS hexec htr (own := own) (cls := cls) (names := names) (ic := ic) hown' hcls hnames h (fun x hx => nomatch hx) hfX hkX hcellA (by rw [hhp, hT]; exact Nat.le_refl _) (msg := .ref sa) rfl
    (g := { method := m, pc := pc + 6, locals := ls, stack := .ref sa :: .ref T.heap.size :: .ref T.heap.size :: rest, locked := none }) rfl hsize rfl rfl (rest := rest) rfl
    (by rw [hb]; exact d6) (by rw [hb]; exact d9) hout hRframes (by simp only [List.map_cons, List.sum_cons, hcat]; omega) hlocks
  obtain ⟨f1, f2⟩ := vx_frame hsame
  rw [hhp] at f1 f2
  have hWs : s.WarmedH U.vm := State.WarmedH.trans hW0 hW
  have hcl : s.vm.findClass cls = some ce.cls := by
    have h9 := hO.cls
    rw [hvm] at h9
    exact h9
  have hall : s.sameButNew ({ U with vm := s.vm } : State) locs mc ms := by
    subst hA
    obtain ⟨e1, e2⟩ := hsame
    rw [State.setFrames_setFrames] at e1
    have h2 : (T.setVm s.vm).sameButNew ({ U with vm := s.vm } : State) [] (0 + 1) (0 + 6) := ⟨e1, e2⟩
    have h3 := X.same.trans h2
    rw [List.append_nil] at h3
    exact h3.mono hc hs
  refine ⟨U, ?_, .threw T.heap.size, hrun, hend, Or.inr ⟨T.heap.size, rfl, cls, ce, locs, hx U hWs.alike f1 (fun q hq => f2 q hq (fun z hz => nomatch hz)), hce, hO.vm, hcl, hWs, hall, hf⟩⟩
  refine st1 _ ?_
  show Steps p.tables e below (T1.setTop { method := m, pc := pc + 3, locals := ls, stack := .ref T.heap.size :: rest, locked := none }) _
  jvm_step X₁.here [X₁.here.top, hexec, d3', Value.category]
  exact X₁.ldcString hexec (own := own) (text := text) (index := is) (a := sa) hown' hstr'.1 hstr'.2
    (g := { method := m, pc := pc + 4, locals := ls, stack := .ref T.heap.size :: .ref T.heap.size :: rest, locked := none }) rfl d4' _ hsteps
/-- 'throw new E("text")', the text by a wide index -/
theorem vx_throwSW {cc : ByteArray} {pc : Nat} (hexec : p.tables.exec = Jvm.exec) (hb : c.code = cc) (hl : l.stackTraces = false) {own cls text : String} {names : List String} {ik is ic mc ms sa : Nat} {A : Nat → Prop}
    (hown : s.vm.findClass own = some m.cls) (hcls : Bundle.fit cls = true) (hnames : ∀ n ∈ names, Bundle.fit n = true)
    (hk : (Cond.classLink own ik cls).before args s = true) (hini : (Cond.initialized cls).before args s = true) (hstr : vk_R own is text sa s) (hat : ∀ w ∈ vx_atS own ic cls names, w.before args s = true)
    (hgood : ∀ w ∈ Cond.classLink own ik cls :: Cond.initialized cls :: vx_atS own ic cls names, vx_ot w = true)
    (hU : vx_Zq Bundle.tN "UNASSIGNED_STACK" Bundle.steD A s s.heap) (hN : vx_Zq Bundle.tN "SUPPRESSED_SENTINEL" Bundle.listD A s s.heap) (hS : va_S A s.heap H locs) (hsize : ls.size = c.maxLocals)
    (d0 : decode cc pc = .ok (.new ik, 3)) (d3 : decode cc (pc + 3) = .ok (.dup, 1)) (d4 : decode cc (pc + 4) = .ok (.ldc_w is, 3)) (d7 : decode cc (pc + 7) = .ok (.invokespecial ic, 3)) (d10 : decode cc (pc + 10) = .ok (.athrow, 1))
    (hout : ∀ x ∈ c.exceptionTable.toList, covers x (pc + 10) = false)
    (hRframes : names.length + 3 < R.frames) (hRlocals : (rest.map fun v => v.category).sum + (13 * (names.length + 1) + 43) ≤ R.locals) (hRcells : cells + 1 ≤ R.cells) (hRslots : slots + 6 ≤ R.slots) (hlocks : meth.locks = false)
    (hx : ∀ t : State, s.vm.Alike t.vm → H.size ≤ t.heap.size → (∀ q : Nat, q < H.size → t.heap[q]? = H[q]?) → XC cls s t)
    (hf : ∀ z ∈ locs, free z.base) (hc : cells + 1 ≤ mc) (hs : slots + 6 ≤ ms) :
    W p l e R s m args below meth c H locs cells slots (vx_MQ below Qc XC args s mc ms free) (F0 m pc ls rest) := by
  intro T hT X
  have htr : e.platform.stackTraces = false := (show e.platform.stackTraces = l.stackTraces by rw [X.admits.platform]).trans hl
  have Y := vx_rebase X (R' := { frames := R.frames, locals := R.locals, cells := 1, slots := 6 }) (Nat.le_refl _) (Nat.le_refl _) hRcells hRslots
  obtain ⟨s', hA⟩ : ∃ z, z = (T.setVm s.vm).setFrames (.invoking m args :: below) := ⟨_, rfl⟩
  rw [← hA] at Y
  have hvm : s'.vm = s.vm := by rw [hA]; rfl
  have hhp : s'.heap = H := by rw [hA]; exact hT
  have hW0 : s.WarmedH s'.vm := by rw [hvm]; exact State.WarmedH.refl s
  have hat' : ∀ w ∈ vx_atS own ic cls names, w.before args s' = true := fun w hw => vx_ot_at hW0 hvm.symm (hgood w (List.mem_cons_of_mem _ (List.mem_cons_of_mem _ hw))) (hat w hw)
  have hk' : (Cond.classLink own ik cls).before args s' = true := vx_ot_at hW0 hvm.symm (hgood _ List.mem_cons_self) hk
  have hini' : (Cond.initialized cls).before args s' = true := vx_ot_at hW0 hvm.symm (hgood _ (List.mem_cons_of_mem _ List.mem_cons_self)) hini
  have hU' : vx_Zq Bundle.tN "UNASSIGNED_STACK" Bundle.steD A s' s'.heap := by rw [hhp]; exact vx_Zq.moved hW0.alike (hU.kept hS.2.1)
  have hN' : vx_Zq Bundle.tN "SUPPRESSED_SENTINEL" Bundle.listD A s' s'.heap := by rw [hhp]; exact vx_Zq.moved hW0.alike (hN.kept hS.2.1)
  have h : ∀ w ∈ Bundle.ownAtoms own ic cls names, w.before args s' = true := vx_own hat' (vx_isRefq hU'.1) (vx_isRefq hN'.1) hU'.2.word hN'.2.word
  have hown' : s'.vm.findClass own = some m.cls := by rw [hvm]; exact hown
  have hins : (Cond.instantiable cls 6).before args s' = true := h _ (by simp [Bundle.ownAtoms])
  obtain ⟨vm₁, cX, kX, hfX, hkX, -, -, X₁, st1⟩ := Y.newCold hexec (own := own) (C := cls) (index := ik) (n := 6) hown' hk' hins hini'
    (g := F0 m pc ls rest) rfl (by rw [hb]; exact d0) (Nat.le_refl _) (Nat.le_refl _)
  generalize hT1 : (T.setVm vm₁).pushCell { cls := cX, slots := kX.instanceTypes.map defaultValue, vm := .none } = T1 at X₁ st1
  have hcat : (Value.ref T.heap.size).category = 1 := rfl
  have hcellA : T1.heap[T.heap.size]? = some (freshCell cX kX) := by rw [← hT1]; exact State.heap_pushCell_size _ _
  have d3' : decode c.code (pc + 3) = .ok (.dup, 1) := by rw [hb]; exact d3
  have d4' : decode c.code (pc + 4) = .ok (.ldc_w is, 3) := by rw [hb]; exact d4
  have hstr' : vk_R own is text sa s' := vk_R.warm hW0 hstr
  obtain ⟨U, hsteps, hrun, hend, hW, hsame, ce, hce, hO⟩ := X₁.ctorThrowS hexec htr (own := own) (cls := cls) (names := names) (ic := ic) hown' hcls hnames h (fun x hx => nomatch hx) hfX hkX hcellA (by rw [hhp, hT]; exact Nat.le_refl _) (msg := .ref sa) rfl
    (g := { method := m, pc := pc + 7, locals := ls, stack := .ref sa :: .ref T.heap.size :: .ref T.heap.size :: rest, locked := none }) rfl hsize rfl rfl (rest := rest) rfl
    (by rw [hb]; exact d7) (by rw [hb]; exact d10) hout hRframes (by simp only [List.map_cons, List.sum_cons, hcat]; omega) hlocks
  obtain ⟨f1, f2⟩ := vx_frame hsame
  rw [hhp] at f1 f2
  have hWs : s.WarmedH U.vm := State.WarmedH.trans hW0 hW
  have hcl : s.vm.findClass cls = some ce.cls := by
    have h9 := hO.cls
    rw [hvm] at h9
    exact h9
  have hall : s.sameButNew ({ U with vm := s.vm } : State) locs mc ms := by
    subst hA
    obtain ⟨e1, e2⟩ := hsame
    rw [State.setFrames_setFrames] at e1
    have h2 : (T.setVm s.vm).sameButNew ({ U with vm := s.vm } : State) [] (0 + 1) (0 + 6) := ⟨e1, e2⟩
    have h3 := X.same.trans h2
    rw [List.append_nil] at h3
    exact h3.mono hc hs
  refine ⟨U, ?_, .threw T.heap.size, hrun, hend, Or.inr ⟨T.heap.size, rfl, cls, ce, locs, hx U hWs.alike f1 (fun q hq => f2 q hq (fun z hz => nomatch hz)), hce, hO.vm, hcl, hWs, hall, hf⟩⟩
  refine st1 _ ?_
  show Steps p.tables e below (T1.setTop { method := m, pc := pc + 3, locals := ls, stack := .ref T.heap.size :: rest, locked := none }) _
  jvm_step X₁.here [X₁.here.top, hexec, d3', Value.category]
  exact X₁.ldcStringW hexec (own := own) (text := text) (index := is) (a := sa) hown' hstr'.1 hstr'.2
    (g := { method := m, pc := pc + 4, locals := ls, stack := .ref T.heap.size :: .ref T.heap.size :: rest, locked := none }) rfl d4' _ hsteps
end Ends
section Bodies
variable {l : Launch}
theorem vx_ofW {y : MethodName} {ws ws' : List Cond} {rm : Room} {Pc : Array Value → State → Prop} {Qc : Array Value → State → Outcome → State → Prop} {XC : String → State → State → Prop} {mc ms : Nat} {free : Addr → Prop} {cc : ByteArray} {maxL : Nat} {ret : Option FieldType}
    (hy : plainName y.cls = true) (hw : ws = Cond.code y cc maxL ret :: ws')
    (body : ∀ p e s m args below meth c s₁, BodyLoose p l y (headSpec ws rm) cc maxL ret e s m args below meth c s₁ → c.maxLocals = maxL → (∀ x ∈ c.exceptionTable.toList, False) → Pc args s →
      W p l e (headSpec ws rm).room s m args below meth c s.heap [] 0 0 (vx_MQ below Qc XC args s mc ms free) (entryFrame m args maxL)) : vx_Met l y ws rm Pc Qc XC mc ms free := by
  refine MetFree.of_bodyS (code := cc) (maxLocals := maxL) (ret := ret) hy ?_ ?_
  · intro args s m h hn
    obtain ⟨meth, c, h1, h2, h3, h4, h5, h6, -, -⟩ := Cond.code_spec hn (atoms_spec (ws := ws) h _ (by rw [hw]; exact List.mem_cons_self))
    exact ⟨meth, c, h1, h2, h3, h4, h5, h6⟩
  · intro p e s m args below meth c s₁ B hml hP _
    have hh0 : s₁.heap = s.heap := by rw [B.state]; rfl
    have ht : ∀ x ∈ c.exceptionTable.toList, False := by
      obtain ⟨meth9, c9, h1, h2, -, -, -, -, h7, -⟩ := Cond.code_spec B.named (atoms_spec (ws := ws) B.pre _ (by rw [hw]; exact List.mem_cons_self))
      cases Option.some.inj (h1.symm.trans B.method)
      cases Option.some.inj (h2.symm.trans (Stand.of_body B).code)
      intro x hx
      rw [Array.isEmpty_iff.mp h7] at hx
      cases hx
    obtain ⟨t, a1, o, b1, b2, b3⟩ := body p e s m args below meth c s₁ B hml ht hP s₁ hh0 (Stand.of_body B)
    exact ⟨t, o, a1, b1, b2, b3⟩
/-- the table of a body with handlers -/
theorem vx_table {p : Program} {x y : MethodName} {S : Spec} {cc bytes : ByteArray} {maxL maxL' : Nat} {ret ret' : Option FieldType} {e : Env} {s s₁ : State} {m : MethodId} {args : Array Value} {below : List Frame} {meth : Method} {c : Code} {hh : List (Nat × Nat × Nat × Nat)}
    (B : BodyLoose p l y S cc maxL ret e s m args below meth c s₁) (h : (Cond.codeWith y bytes maxL' ret' hh).before args s = true) : c.exceptionTable.toList = tableOf hh := by
  obtain ⟨m9, meth9, c9, hn9, h1, h2, -, -, h6, -⟩ := Cond.codeWith_spec h
  cases Option.some.inj (hn9.symm.trans B.named)
  cases Option.some.inj (h1.symm.trans B.method)
  cases Option.some.inj (h2.symm.trans (Stand.of_body B).code)
  rw [← h6, table_eq]
end Bodies
end VXA
/-! ===== END ===== -/
/-! ===== BEGIN a static call of a method with an exception table ===== -/
section VXS
variable {p : Program} {l : Launch} {e : Env} {R : Room} {s : State} {m : MethodId} {args : Array Value} {below : List Frame} {meth : Method} {c : Code} {T : State} {H : Heap} {locs : List Loc} {cells slots : Nat}
abbrev vx_CSW (R : Room) (s : State) (args : Array Value) (own : String) (index : Nat) (y : MethodName) (bytes : ByteArray) (maxL : Nat) (ret : Option FieldType) (hh : List (Nat × Nat × Nat × Nat)) (ws : List Cond) (rm : Room) (mc ms n : Nat) : Prop :=
  (rm.cells = mc ∧ rm.slots = ms ∧ rm.frames + 1 ≤ R.frames ∧ 8 + (maxL + 11) + rm.locals ≤ R.locals ∧ (∀ w ∈ ws, ∀ (a' : Array Value) (U : State), s.WarmedH U.vm → w.before a' U = true) ∧ Cond.codeWith y bytes maxL ret hh ∈ ws) ∧
  (Cond.codeWith y bytes maxL ret hh).before args s = true ∧ (Cond.initialized y.cls).before args s = true ∧ (y.cls ≠ "java/lang/invoke/MethodHandle" ∧ y.cls ≠ "java/lang/invoke/VarHandle") ∧
  (∀ sig, parseMethodDescriptor y.desc = some sig → n = sig.parameters.length) ∧ (Cond.methodLink own index y).before args s = true ∧ (Cond.static y).before args s = true
theorem vx_cwSW {own : String} {index maxL mc ms : Nat} {y : MethodName} {bytes : ByteArray} {ret : Option FieldType} {hh : List (Nat × Nat × Nat × Nat)} {Ts ws ws' : List Cond} {rm : Room} (n : Nat) (ht : ∀ w ∈ Ts, w.before args s = true) (hT : GoodIn Ts (va_wsS own index y ws)) (hw : ws = Cond.codeWith y bytes maxL ret hh :: ws') (hrc : rm.cells = mc) (hrs : rm.slots = ms)
    (hd : y.cls ≠ "java/lang/invoke/MethodHandle" ∧ y.cls ≠ "java/lang/invoke/VarHandle" ∧ (parseMethodDescriptor y.desc).map (fun d => d.parameters.length) = some n) (hR : rm.frames + 1 ≤ R.frames ∧ 8 + (maxL + 11) + rm.locals ≤ R.locals) :
    vx_CSW R s args own index y bytes maxL ret hh ws rm mc ms n := by
  have ok : ∀ w ∈ va_wsS own index y ws, w.before args s = true := fun w h => ht w (hT w h).1
  have hG : GoodIn Ts ws := fun w h => hT w (by unfold va_wsS; exact List.mem_append_right _ h)
  have hc : Cond.codeWith y bytes maxL ret hh ∈ ws := by rw [hw]; exact List.mem_cons_self
  refine ⟨⟨hrc, hrs, hR.1, hR.2, pay_in ht hG, hc⟩, ht _ (hG _ hc).1, ok _ (by simp [va_wsS]), ⟨hd.1, hd.2.1⟩, fun sig h => ?_, ok _ (by simp [va_wsS]), ok _ (by simp [va_wsS])⟩
  have h2 := hd.2.2
  rw [h] at h2
  exact (Option.some.inj h2).symm
theorem vx_callSW (X : Stand p l e R s m args below meth c T locs cells slots) (hexec : p.tables.exec = Jvm.exec) {own : String} {index : Nat} {y : MethodName} {bytes : ByteArray} {maxL : Nat} {ret : Option FieldType} {hh : List (Nat × Nat × Nat × Nat)}
    (hown : s.vm.findClass own = some m.cls) (hlink : (Cond.methodLink own index y).before args s = true) (hstat : (Cond.static y).before args s = true) (hinit : (Cond.initialized y.cls).before args s = true)
    (hcode : (Cond.codeWith y bytes maxL ret hh).before args s = true) (hy : y.cls ≠ "java/lang/invoke/MethodHandle" ∧ y.cls ≠ "java/lang/invoke/VarHandle")
    {W9 : Nat} {Pre : Pt → Array Value → Prop} {Post : Pt → Array Value → Option Value → Pt → Prop} (hK : Back l R p e below s args y 3 W9 Pre Post)
    {g : JFrame} (hg : g.method = m) (hsize : g.locals.size = c.maxLocals) {argsL rest : List Value} (hlen : ∀ sig, parseMethodDescriptor y.desc = some sig → argsL.length = sig.parameters.length)
    (hstack : g.stack = argsL.reverse ++ rest) (hW : 2 * g.monitorRoom + (rest.map fun v => v.category).sum ≤ W9) (hdg : decode c.code g.pc = .ok (.invokestatic index, 3))
    (hpre : ∀ vm₁, s.WarmedH vm₁ → Pre ⟨T.setVm vm₁, locs, cells, slots⟩ argsL.toArray) :
    ∃ (v : Option Value) (vm₁ : Vm) (B : Pt), s.WarmedH vm₁ ∧ Stand p l e R s m args below meth c B.U B.locs B.cells B.slots ∧ Post ⟨T.setVm vm₁, locs, cells, slots⟩ argsL.toArray v B ∧
      ∀ target, Steps p.tables e below (B.U.setTop { g with pc := g.pc + 3, stack := v.toList ++ rest }) target → Steps p.tables e below (T.setTop g) target := by
  obtain ⟨mk, methM, cM, hnamed, hmethM, -, -, -, -, -, -, hsigM⟩ := Cond.codeWith_spec hcode
  have hstatic : methM.isStatic = true := Cond.static_spec hnamed hmethM hstat
  obtain ⟨kP, hkP, -⟩ := className_of_methodNamed hnamed
  have hinitP : kP.init = .initialized := Cond.initialized_spec (findClass_of_methodNamed hnamed) hkP hinit
  obtain ⟨vm₁, X₁, hstep₁⟩ := X.invokestatic hexec hown hlink hnamed hmethM hstatic hkP hinitP hy (g := g) hg (argsL := argsL) (rest := rest) (hlen _ hsigM) hstack hdg
  obtain ⟨v, B, X', hpost, hsteps⟩ := hK m meth c ⟨T.setVm vm₁, locs, cells, slots⟩ { g with stack := rest } (.invokestatic index) mk argsL.toArray X₁ hg hsize hdg hW (X₁.named hnamed) (hpre vm₁ X₁.warmed)
  exact ⟨v, vm₁, B, X₁.warmed, X', hpost, fun target h => hstep₁ _ fun acts => by rw [doInvoke_state]; exact hsteps.trans h⟩
theorem vx_runSW {y : MethodName} {bytes cc : ByteArray} {maxL nL mc ms n index : Nat} {ret : Option FieldType} {hh : List (Nat × Nat × Nat × Nat)} {ws : List Cond} {rm : Room} {Pc : Array Value → State → Prop} {Qc : Array Value → State → Outcome → State → Prop} {free : Addr → Prop} {Ts : List Cond} {own : String} {As rest : List Value} {g : JFrame}
    (S : CallFix p m c cc nL s args Ts own) (hM : Met l y ws rm Pc Qc mc ms free) (cw : vx_CSW R s args own index y bytes maxL ret hh ws rm mc ms n) (hp : PreS s H Pc As)
    (hg : g.method = m) (hn : As.length = n) (hsize : g.locals.size = nL) (hstack : g.stack = As.reverse ++ rest) (hW : 2 * g.monitorRoom + (rest.map fun v => v.category).sum ≤ 8) (hdg : decode cc g.pc = .ok (.invokestatic index, 3)) (hf : cells + mc ≤ R.cells ∧ slots + ms ≤ R.slots) :
    va_Run p l e R s m args below meth c H locs cells slots mc ms g rest (Qc As.toArray) (free) := by
  obtain ⟨⟨hrc, hrs, hfr, hlo, hws, hcw⟩, hcode, hini, hy, hlen, hl, hstt⟩ := cw
  have hK : Back l R p e below s args y 3 8 (PreOf R mc ms Pc) (PostOf Qc mc ms free) := va_backW (hh := hh) (bytes := bytes) (maxL := maxL) (ret := ret) hM hp.1 hrc hrs hfr hlo hws hcw (fun a' U hW => word_at hW (Or.inl (by first | rfl | simp [Cond.onTables, Cond.keeps, Cond.steady])) hini)
  obtain ⟨hx, hb, hml, ho, -⟩ := S
  intro T hT X
  obtain ⟨v, vm₁, ⟨U', l2, c2, s2⟩, hW₁, X', ⟨g', mk, t, L, e1, e2, hq, h1, hL, h2, h3⟩, st⟩ := vx_callSW X hx (hh := hh) (bytes := bytes) (maxL := maxL) (ret := ret) ho hl hstt hini hcode hy hK hg (hsize.trans hml.symm) (argsL := As) (rest := rest) (fun sig h => hn.trans (hlen sig h)) hstack hW (by rw [hb]; exact hdg)
    (fun vm₁ hW₁ => ⟨hf.1, hf.2, hp.2 (T.setVm vm₁) hT hW₁⟩)
  dsimp only [Pt.U, Pt.locs, Pt.cells, Pt.slots] at X' e1 e2 h1 h2 h3 st
  subst h1; subst h2; subst h3
  exact ⟨v, (T.setVm vm₁).calling g' mk As.toArray, t, U', L, hT, X', hL, e1, e2, hq, st⟩
/-- not caught here, past rows that name other classes: it goes on to the caller -/
theorem vx_outP {p : Program} {l : Launch} {e : Env} {R : Room} {s : State} {m : MethodId} {args : Array Value} {below : List Frame} {meth : Method} {c : Code} {H : Heap} {locs : List Loc} {cells slots : Nat} {free : Addr → Prop} {ls : Array Slot} {rest : List Value} {Qc : Array Value → State → Outcome → State → Prop} {XC : String → State → State → Prop}
    {pc : Nat} {own E : String} {ce : Cell} {q : Addr} {mc ms : Nat} (hown : s.vm.findClass own = some m.cls) (hlocks : meth.locks = false)
    (hpass : ∀ z ∈ c.exceptionTable.toList, covers z pc = false ∨ (z.catchType ≠ 0 ∧ ∃ nm : String, (Cond.classLink own z.catchType nm).before args s = true ∧ va_Nc E nm s)) (hcell : H[q]? = some ce) (hv : ce.vm = .none) (hcl : s.vm.findClass E = some ce.cls)
    (hx : ∀ t : State, t.heap = H → s.vm.Alike t.vm → XC E s t) (hf : ∀ z ∈ locs, free z.base) (hc : cells ≤ mc) (hs : slots ≤ ms) :
    vx_W p l e R s m args below meth c H locs cells slots (vx_MQ below Qc XC args s mc ms free) (F0 m pc ls rest) q := by
  intro T hT X
  have hpl : e.platform.magicAccessors = ({} : Platform).magicAccessors := by rw [X.admits.platform]
  obtain ⟨vm', hW', X', st⟩ := X.outThrough hlocks q (g := F0 m pc ls rest) rfl rfl rfl (cell := ce) (by rw [hT]; exact hcell) (by rw [hv]; rfl)
    (by obtain ⟨k9, h9, -⟩ := Vm.findClass_spec hcl; exact ⟨k9, h9⟩) (fun z hz => by
      rcases hpass z hz with h | ⟨hz0, nm, hl1, hn1⟩
      · exact Or.inl h
      · obtain ⟨c6, hc6, hcl6⟩ := Cond.classLink_spec hown hl1 e.platform hpl
        obtain ⟨a8, b8, h1, h2, h3⟩ := hn1
        cases Option.some.inj (h1.symm.trans hcl)
        cases Option.some.inj (h2.symm.trans hc6)
        exact Or.inr ⟨hz0, _, hcl6, h3⟩)
  obtain ⟨g₀, hfr⟩ := X'.frames_eq
  have hcell9 : ((T.setVm vm').setFrames (.throwing q :: below)).heap[q]? = some ce := by
    show T.heap[q]? = some ce
    rw [hT]; exact hcell
  have hend : Ended ((T.setVm vm').setFrames (.throwing q :: below)) below (.threw q) := State.frames_setFrames _ (State.cur_lt_of_frames hfr)
  refine ⟨(T.setVm vm').setFrames (.throwing q :: below), ?_, .threw q, X'.here.running, hend, Or.inr ⟨q, rfl, E, ce, locs, hx _ hT (X'.ends _).1.alike, hcell9, hv, hcl, (X'.ends _).1, (X'.ends _).2.mono hc hs, hf⟩⟩
  rw [X.pushThrowing_eq]
  exact st
/-- a thing of a world lies in the heap -/
theorem vx_lt {D : va_G} {cl : List vw_C} {ws : va_W} {H1 : Heap} (h : va_P D cl ws H1) {k : Nat} {q : Nat × va_E} (hk : ws[k]? = some q) : q.1 < H1.size := (h k q hk).lt
end VXS
/-! ===== END ===== -/
/-! ===== BEGIN methods with a table of their own: called by a name, returning or throwing ===== -/
section VXH
/-! vx_backW, vx_callVX, vx_callSX, vx_callVW, vx_runVW, vx_runVX, vx_runSX, vx_ofWH follow the same proofs as their sisters above (Free/Laws.lean, Shelf42/LK1.lean); vx_outP calls Shelf42/NT130.lean (outThrough). -/
section
variable {l : Launch} {R : Room} {p : Program} {e : Env} {below : List Frame} {s : State} {sargs : Array Value} {y : MethodName} {len W9 : Nat}
theorem vx_backW {ws : List Cond} {rm : Room} {Pc : Array Value → State → Prop} {Qc : Array Value → State → Outcome → State → Prop} {XC : String → State → State → Prop} {mc ms : Nat} {free : Addr → Prop} {bytes : ByteArray} {maxL : Nat} {ret : Option FieldType} {hh : List (Nat × Nat × Nat × Nat)}
    (hM : vx_Met l y ws rm Pc Qc XC mc ms free) (hblind : FrameBlind Pc) (hrc : rm.cells = mc) (hrs : rm.slots = ms)
    (hframes : rm.frames + 1 ≤ R.frames) (hlocals : W9 + (maxL + 11) + rm.locals ≤ R.locals)
    (hws : ∀ w ∈ ws, ∀ a' U, s.WarmedH U.vm → w.before a' U = true) (hcode : Cond.codeWith y bytes maxL ret hh ∈ ws) (hinit : ∀ a' U, s.WarmedH U.vm → (Cond.initialized y.cls).before a' U = true) :
    vx_Back l R p e below s sargs y len W9 (PreOf R mc ms Pc) (PostOf Qc mc ms free) (vx_Post XC mc ms free) := by
  intro m meth c A g ig mk a X hg hsize hdg hW hn hp
  have h1 : (headSpec ws rm).pre.before a A.U = true := atoms_intro fun w hw => hws w hw _ _ X.warmed
  have h2 : (Cond.codeWith y bytes maxL ret hh).before a A.U = true := hws _ hcode _ _ X.warmed
  have h3 : (Cond.initialized y.cls).before a A.U = true := hinit _ _ X.warmed
  have h4 : A.cells + (headSpec ws rm).room.cells ≤ R.cells := by rw [show (headSpec ws rm).room.cells = mc from hrc]; exact hp.1
  have h5 : A.slots + (headSpec ws rm).room.slots ≤ R.slots := by rw [show (headSpec ws rm).room.slots = ms from hrs]; exact hp.2.1
  have hPc : Pc a (A.U.calling g mk a) := hblind _ _ _ _ hp.2.2
  obtain ⟨U, Ls, c0, s0⟩ := A
  dsimp only [Pt.U, Pt.locs, Pt.cells, Pt.slots] at h1 h2 h3 h4 h5 X hn hPc ⊢
  obtain ⟨m9, methY, cY, hn9, hmY, hcY, -, hlY, -⟩ := Cond.codeWith_spec h2
  cases Option.some.inj (hn9.symm.trans hn)
  obtain ⟨kY, hkY, -⟩ := className_of_methodNamed hn
  have hinitY : kY.init = .initialized := Cond.initialized_spec (findClass_of_methodNamed hn) hkY h3
  have h : At U g.method c below := by rw [hg]; exact X.here
  have hlocals9 : W9 + (maxL + 11) + (headSpec ws rm).room.locals ≤ R.locals := hlocals
  have happ : (headSpec ws rm).appliesLoose y e.platform (U.calling g mk a) = true :=
    Spec.appliesLoose_calling (g := g) h hdg hn hkY hinitY
      (X.room_calling (g := g) (R' := (headSpec ws rm).room) hsize hmY hcY hframes (by rw [hlY]; omega) h4 h5) h1
  obtain ⟨mid, hmid⟩ := h.above
  have hfr : (U.setTop g).frames = (.java g :: mid) ++ below := by rw [State.frames_setTop' g h.top, hmid]; rfl
  obtain ⟨o, s₂, hsteps, -, hend, hq⟩ := Steps.callFree hM p X.admits X.cas X.clock (acts := []) hfr happ hPc trivial
  have hq' : vx_Q Qc XC mc ms free a (U.calling g mk a) o s₂ := hq
  rw [State.frames_setTop' g h.top] at hend
  obtain ⟨g₀, hg0⟩ := Option.isSome_iff_exists.mp h.top
  obtain ⟨r, hr⟩ := State.topJava?_eq_some.mp hg0
  have hr' : (({ U with heap := s₂.heap, slotsUsed := s₂.slotsUsed } : State).setVm s₂.vm).frames = .java g₀ :: r := hr
  rcases hq' with ⟨hqc, L, hfe, hL⟩ | ⟨q, rfl, E, ce, L, hx, hce, hcv, hcl, hW₂, hsm, hL⟩
  · obtain ⟨⟨v, rfl⟩, hW₂, e2, q2, q3, q4, q5, q6⟩ := id hfe
    have e3 : s₂ = ({ (U.calling g mk a).setFrames s₂.frames with heap := s₂.heap, slotsUsed := s₂.slotsUsed } : State).setVm s₂.vm := by
      have : s₂ = ({ s₂ with vm := (U.calling g mk a).vm } : State).setVm s₂.vm := rfl
      rw [e2] at this
      exact this
    obtain ⟨c₂, i₂, len₂, hc₂, hd₂, hf₂⟩ := hend
    have hW' : U.WarmedH s₂.vm := hW₂
    have hcc : c₂ = c := by
      have h1 : s₂.code? g.method = U.code? g.method := by
        rw [State.code?_eq, State.code?_eq, hW'.alike.method?]
      exact Option.some.inj (hc₂.symm.trans (h1.trans h.code))
    subst hcc
    have hlen : len₂ = len := by rw [hdg] at hd₂; cases hd₂; rfl
    subst hlen
    have hs₂ : s₂ = (({ U with heap := s₂.heap, slotsUsed := s₂.slotsUsed } : State).setVm s₂.vm).setTop { g with pc := g.pc + len₂, stack := v.toList ++ g.stack } := by
      refine e3.trans ?_
      rw [hf₂, State.calling_eq h.top, State.setFrames_setFrames, State.setTop_of_frames _ hr', hr]
      rfl
    have hsame : U.sameButNew ({ U with heap := s₂.heap, slotsUsed := s₂.slotsUsed } : State) L mc ms := by
      refine ⟨?_, q2, q3, q4, q5, q6⟩
      obtain ⟨t, ht, -⟩ := State.frames_cons hr
      show ({ U with heap := s₂.heap, slotsUsed := s₂.slotsUsed } : State) = { U.setFrames U.frames with heap := s₂.heap, slotsUsed := s₂.slotsUsed }
      rw [State.setFrames_self ht]
    subst hg
    refine Or.inl ⟨v, ⟨(({ U with heap := s₂.heap, slotsUsed := s₂.slotsUsed } : State).setVm s₂.vm), Ls ++ L, c0 + mc, s0 + ms⟩,
      ⟨X.admits, X.cas, X.clock, X.frames, X.room, X.hears, X.method, X.code, (X.here.setHeapUsed s₂.heap s₂.slotsUsed).setVm hW'.alike, X.tail, State.WarmedH.trans X.warmed hW', X.limits, X.bytes, X.same.trans (hsame.setVm s.vm)⟩,
      ⟨g, mk, s₂, L, rfl, rfl, hqc, rfl, hL, rfl, rfl⟩, ?_⟩
    show Steps p.tables e below _ ((({ U with heap := s₂.heap, slotsUsed := s₂.slotsUsed } : State).setVm s₂.vm).setTop { g with pc := g.pc + len₂, stack := v.toList ++ g.stack })
    rw [← hs₂]
    exact hsteps
  · obtain ⟨e2, q2, q3, q4, q5, q6⟩ := id hsm
    have e3 : s₂ = ({ (U.calling g mk a).setFrames s₂.frames with heap := s₂.heap, slotsUsed := s₂.slotsUsed } : State).setVm s₂.vm := by
      have : s₂ = ({ s₂ with vm := (U.calling g mk a).vm } : State).setVm s₂.vm := rfl
      rw [e2] at this
      exact this
    have hf₂ : s₂.frames = .throwing q :: .java g :: U.frames.tail := hend
    have hW' : U.WarmedH s₂.vm := hW₂
    have hs₂ : s₂ = ((({ U with heap := s₂.heap, slotsUsed := s₂.slotsUsed } : State).setVm s₂.vm).setTop g).pushFrame (.throwing q) := by
      refine e3.trans ?_
      rw [hf₂, State.calling_eq h.top, State.setFrames_setFrames, State.pushFrame, State.frames_setTop _ hr', State.setTop_of_frames _ hr', State.setFrames_setFrames, hr]
      rfl
    have hsame : U.sameButNew ({ U with heap := s₂.heap, slotsUsed := s₂.slotsUsed } : State) L mc ms := by
      refine ⟨?_, q2, q3, q4, q5, q6⟩
      obtain ⟨t, ht, -⟩ := State.frames_cons hr
      show ({ U with heap := s₂.heap, slotsUsed := s₂.slotsUsed } : State) = { U.setFrames U.frames with heap := s₂.heap, slotsUsed := s₂.slotsUsed }
      rw [State.setFrames_self ht]
    subst hg
    refine Or.inr ⟨q, ⟨(({ U with heap := s₂.heap, slotsUsed := s₂.slotsUsed } : State).setVm s₂.vm), Ls ++ L, c0 + mc, s0 + ms⟩,
      ⟨X.admits, X.cas, X.clock, X.frames, X.room, X.hears, X.method, X.code, (X.here.setHeapUsed s₂.heap s₂.slotsUsed).setVm hW'.alike, X.tail, State.WarmedH.trans X.warmed hW', X.limits, X.bytes, X.same.trans (hsame.setVm s.vm)⟩,
      ⟨g, mk, s₂, L, E, ce, rfl, rfl, hx, hce, hcv, hcl, rfl, hL, rfl, rfl⟩, ?_⟩
    show Steps p.tables e below _ (((({ U with heap := s₂.heap, slotsUsed := s₂.slotsUsed } : State).setVm s₂.vm).setTop g).pushFrame (.throwing q))
    rw [← hs₂]
    exact hsteps
end
variable {p : Program} {l : Launch} {e : Env} {R : Room} {s : State} {m : MethodId} {args : Array Value} {below : List Frame} {meth : Method} {c : Code} {T : State} {H : Heap} {locs : List Loc} {cells slots : Nat}
theorem vx_callVX (X : Stand p l e R s m args below meth c T locs cells slots) (hexec : p.tables.exec = Jvm.exec) {own C : String} {index : Nat} {y : MethodName} {bytes : ByteArray} {maxL : Nat} {ret : Option FieldType} {hh : List (Nat × Nat × Nat × Nat)}
    (hown : s.vm.findClass own = some m.cls) (hlink : (Cond.methodLink own index y).before args s = true) (hinst : (Cond.instanceMethod y).before args s = true) (hsel : (Cond.selects C y y).before args s = true)
    (hcode : (Cond.codeWith y bytes maxL ret hh).before args s = true) (hy : y.cls ≠ "java/lang/invoke/MethodHandle" ∧ y.cls ≠ "java/lang/invoke/VarHandle")
    {W9 : Nat} {Pre : Pt → Array Value → Prop} {Post : Pt → Array Value → Option Value → Pt → Prop} {PostX : Pt → Array Value → Addr → Pt → Prop} (hK : vx_Back l R p e below s args y 3 W9 Pre Post PostX)
    {b : Addr} {cellB : Cell} (hcell : T.heap[b]? = some cellB) (hobj : cellB.vm.isStatics = false) (hcls : s.vm.findClass C = some cellB.cls)
    {g : JFrame} (hg : g.method = m) (hsize : g.locals.size = c.maxLocals) {argsL rest : List Value} (hlen : ∀ sig, parseMethodDescriptor y.desc = some sig → argsL.length = sig.parameters.length)
    (hstack : g.stack = argsL.reverse ++ .ref b :: rest) (hW : 2 * g.monitorRoom + (rest.map fun v => v.category).sum ≤ W9) (hdg : decode c.code g.pc = .ok (.invokevirtual index, 3))
    (hpre : ∀ vm₁, s.WarmedH vm₁ → Pre ⟨T.setVm vm₁, locs, cells, slots⟩ (Value.ref b :: argsL).toArray) :
    (∃ (v : Option Value) (vm₁ : Vm) (B : Pt), s.WarmedH vm₁ ∧ Stand p l e R s m args below meth c B.U B.locs B.cells B.slots ∧ Post ⟨T.setVm vm₁, locs, cells, slots⟩ (Value.ref b :: argsL).toArray v B ∧
      ∀ target, Steps p.tables e below (B.U.setTop { g with pc := g.pc + 3, stack := v.toList ++ rest }) target → Steps p.tables e below (T.setTop g) target) ∨
    (∃ (q : Addr) (vm₁ : Vm) (B : Pt), s.WarmedH vm₁ ∧ Stand p l e R s m args below meth c B.U B.locs B.cells B.slots ∧ PostX ⟨T.setVm vm₁, locs, cells, slots⟩ (Value.ref b :: argsL).toArray q B ∧
      Steps p.tables e below (T.setTop g) ((B.U.setTop { g with stack := rest }).pushFrame (.throwing q))) := by
  obtain ⟨mk, methM, hnamed, hmethM, hstM, habM⟩ := Cond.instanceMethod_spec hinst
  obtain ⟨m8, methM', cM, hn8, hmethM', -, -, -, -, -, -, hsigM⟩ := Cond.codeWith_spec hcode
  cases Option.some.inj (hn8.symm.trans hnamed)
  cases hmethM.symm.trans hmethM'
  obtain ⟨c2, r2, m2, q1, q2, q3, q4, kP, hkP, hkPi⟩ := Cond.selects_spec hsel
  cases hcls.symm.trans q1
  cases (State.methodFound?_of_named hnamed hy).symm.trans q2
  cases hnamed.symm.trans q3
  have hselP : selectMethod e.platform s.vm cellB.cls mk = .method mk := by rw [Launch.admits_selectMethod X.admits]; exact q4
  obtain ⟨vm₁, X₁, hstep₁⟩ := X.invokevirtual hexec hown hlink hnamed hmethM hstM hkP hkPi hy (a := b) (cell := cellB) hcell
    (fun z h => by rw [h] at hobj; cases hobj) hselP hmethM habM hkP hkPi (g := g) hg (argsL := argsL) (rest := rest) (hlen _ hsigM) hstack hdg
  rcases hK m meth c ⟨T.setVm vm₁, locs, cells, slots⟩ { g with stack := rest } (.invokevirtual index) mk (Value.ref b :: argsL).toArray X₁ hg hsize hdg hW (X₁.named hnamed) (hpre vm₁ X₁.warmed) with ⟨v, B, X', hpost, hsteps⟩ | ⟨q, B, X', hpost, hsteps⟩
  · exact Or.inl ⟨v, vm₁, B, X₁.warmed, X', hpost, fun target h => hstep₁ _ fun acts => by rw [doInvoke_state]; exact hsteps.trans h⟩
  · exact Or.inr ⟨q, vm₁, B, X₁.warmed, X', hpost, hstep₁ _ fun acts => by rw [doInvoke_state]; exact hsteps⟩
theorem vx_callSX (X : Stand p l e R s m args below meth c T locs cells slots) (hexec : p.tables.exec = Jvm.exec) {own : String} {index : Nat} {y : MethodName} {bytes : ByteArray} {maxL : Nat} {ret : Option FieldType} {hh : List (Nat × Nat × Nat × Nat)}
    (hown : s.vm.findClass own = some m.cls) (hlink : (Cond.methodLink own index y).before args s = true) (hstat : (Cond.static y).before args s = true) (hinit : (Cond.initialized y.cls).before args s = true)
    (hcode : (Cond.codeWith y bytes maxL ret hh).before args s = true) (hy : y.cls ≠ "java/lang/invoke/MethodHandle" ∧ y.cls ≠ "java/lang/invoke/VarHandle")
    {W9 : Nat} {Pre : Pt → Array Value → Prop} {Post : Pt → Array Value → Option Value → Pt → Prop} {PostX : Pt → Array Value → Addr → Pt → Prop} (hK : vx_Back l R p e below s args y 3 W9 Pre Post PostX)
    {g : JFrame} (hg : g.method = m) (hsize : g.locals.size = c.maxLocals) {argsL rest : List Value} (hlen : ∀ sig, parseMethodDescriptor y.desc = some sig → argsL.length = sig.parameters.length)
    (hstack : g.stack = argsL.reverse ++ rest) (hW : 2 * g.monitorRoom + (rest.map fun v => v.category).sum ≤ W9) (hdg : decode c.code g.pc = .ok (.invokestatic index, 3))
    (hpre : ∀ vm₁, s.WarmedH vm₁ → Pre ⟨T.setVm vm₁, locs, cells, slots⟩ argsL.toArray) :
    (∃ (v : Option Value) (vm₁ : Vm) (B : Pt), s.WarmedH vm₁ ∧ Stand p l e R s m args below meth c B.U B.locs B.cells B.slots ∧ Post ⟨T.setVm vm₁, locs, cells, slots⟩ argsL.toArray v B ∧
      ∀ target, Steps p.tables e below (B.U.setTop { g with pc := g.pc + 3, stack := v.toList ++ rest }) target → Steps p.tables e below (T.setTop g) target) ∨
    (∃ (q : Addr) (vm₁ : Vm) (B : Pt), s.WarmedH vm₁ ∧ Stand p l e R s m args below meth c B.U B.locs B.cells B.slots ∧ PostX ⟨T.setVm vm₁, locs, cells, slots⟩ argsL.toArray q B ∧
      Steps p.tables e below (T.setTop g) ((B.U.setTop { g with stack := rest }).pushFrame (.throwing q))) := by
  obtain ⟨mk, methM, cM, hnamed, hmethM, -, -, -, -, -, -, hsigM⟩ := Cond.codeWith_spec hcode
  have hstatic : methM.isStatic = true := Cond.static_spec hnamed hmethM hstat
  obtain ⟨kP, hkP, -⟩ := className_of_methodNamed hnamed
  have hinitP : kP.init = .initialized := Cond.initialized_spec (findClass_of_methodNamed hnamed) hkP hinit
  obtain ⟨vm₁, X₁, hstep₁⟩ := X.invokestatic hexec hown hlink hnamed hmethM hstatic hkP hinitP hy (g := g) hg (argsL := argsL) (rest := rest) (hlen _ hsigM) hstack hdg
  rcases hK m meth c ⟨T.setVm vm₁, locs, cells, slots⟩ { g with stack := rest } (.invokestatic index) mk argsL.toArray X₁ hg hsize hdg hW (X₁.named hnamed) (hpre vm₁ X₁.warmed) with ⟨v, B, X', hpost, hsteps⟩ | ⟨q, B, X', hpost, hsteps⟩
  · exact Or.inl ⟨v, vm₁, B, X₁.warmed, X', hpost, fun target h => hstep₁ _ fun acts => by rw [doInvoke_state]; exact hsteps.trans h⟩
  · exact Or.inr ⟨q, vm₁, B, X₁.warmed, X', hpost, hstep₁ _ fun acts => by rw [doInvoke_state]; exact hsteps⟩
theorem vx_callVW (X : Stand p l e R s m args below meth c T locs cells slots) (hexec : p.tables.exec = Jvm.exec) {own C : String} {index : Nat} {y : MethodName} {bytes : ByteArray} {maxL : Nat} {ret : Option FieldType} {hh : List (Nat × Nat × Nat × Nat)}
    (hown : s.vm.findClass own = some m.cls) (hlink : (Cond.methodLink own index y).before args s = true) (hinst : (Cond.instanceMethod y).before args s = true) (hsel : (Cond.selects C y y).before args s = true)
    (hcode : (Cond.codeWith y bytes maxL ret hh).before args s = true) (hy : y.cls ≠ "java/lang/invoke/MethodHandle" ∧ y.cls ≠ "java/lang/invoke/VarHandle")
    {W9 : Nat} {Pre : Pt → Array Value → Prop} {Post : Pt → Array Value → Option Value → Pt → Prop} (hK : Back l R p e below s args y 3 W9 Pre Post)
    {b : Addr} {cellB : Cell} (hcell : T.heap[b]? = some cellB) (hobj : cellB.vm.isStatics = false) (hcls : s.vm.findClass C = some cellB.cls)
    {g : JFrame} (hg : g.method = m) (hsize : g.locals.size = c.maxLocals) {argsL rest : List Value} (hlen : ∀ sig, parseMethodDescriptor y.desc = some sig → argsL.length = sig.parameters.length)
    (hstack : g.stack = argsL.reverse ++ .ref b :: rest) (hW : 2 * g.monitorRoom + (rest.map fun v => v.category).sum ≤ W9) (hdg : decode c.code g.pc = .ok (.invokevirtual index, 3))
    (hpre : ∀ vm₁, s.WarmedH vm₁ → Pre ⟨T.setVm vm₁, locs, cells, slots⟩ (Value.ref b :: argsL).toArray) :
    ∃ (v : Option Value) (vm₁ : Vm) (B : Pt), s.WarmedH vm₁ ∧ Stand p l e R s m args below meth c B.U B.locs B.cells B.slots ∧ Post ⟨T.setVm vm₁, locs, cells, slots⟩ (Value.ref b :: argsL).toArray v B ∧
      ∀ target, Steps p.tables e below (B.U.setTop { g with pc := g.pc + 3, stack := v.toList ++ rest }) target → Steps p.tables e below (T.setTop g) target := by
  obtain ⟨mk, methM, hnamed, hmethM, hstM, habM⟩ := Cond.instanceMethod_spec hinst
  obtain ⟨m8, methM', cM, hn8, hmethM', -, -, -, -, -, -, hsigM⟩ := Cond.codeWith_spec hcode
  cases Option.some.inj (hn8.symm.trans hnamed)
  cases hmethM.symm.trans hmethM'
  obtain ⟨c2, r2, m2, q1, q2, q3, q4, kP, hkP, hkPi⟩ := Cond.selects_spec hsel
  cases hcls.symm.trans q1
  cases (State.methodFound?_of_named hnamed hy).symm.trans q2
  cases hnamed.symm.trans q3
  have hselP : selectMethod e.platform s.vm cellB.cls mk = .method mk := by rw [Launch.admits_selectMethod X.admits]; exact q4
  obtain ⟨vm₁, X₁, hstep₁⟩ := X.invokevirtual hexec hown hlink hnamed hmethM hstM hkP hkPi hy (a := b) (cell := cellB) hcell
    (fun z h => by rw [h] at hobj; cases hobj) hselP hmethM habM hkP hkPi (g := g) hg (argsL := argsL) (rest := rest) (hlen _ hsigM) hstack hdg
  obtain ⟨v, B, X', hpost, hsteps⟩ := hK m meth c ⟨T.setVm vm₁, locs, cells, slots⟩ { g with stack := rest } (.invokevirtual index) mk (Value.ref b :: argsL).toArray X₁ hg hsize hdg hW (X₁.named hnamed) (hpre vm₁ X₁.warmed)
  exact ⟨v, vm₁, B, X₁.warmed, X', hpost, fun target h => hstep₁ _ fun acts => by rw [doInvoke_state]; exact hsteps.trans h⟩
abbrev vx_CVW (R : Room) (s : State) (args : Array Value) (own C : String) (index : Nat) (y : MethodName) (bytes : ByteArray) (maxL : Nat) (ret : Option FieldType) (hh : List (Nat × Nat × Nat × Nat)) (ws : List Cond) (rm : Room) (mc ms n : Nat) : Prop :=
  (rm.cells = mc ∧ rm.slots = ms ∧ rm.frames + 1 ≤ R.frames ∧ 8 + (maxL + 11) + rm.locals ≤ R.locals ∧ (∀ w ∈ ws, ∀ (a' : Array Value) (U : State), s.WarmedH U.vm → w.before a' U = true) ∧ Cond.codeWith y bytes maxL ret hh ∈ ws) ∧
  (Cond.codeWith y bytes maxL ret hh).before args s = true ∧ (Cond.initialized y.cls).before args s = true ∧ (y.cls ≠ "java/lang/invoke/MethodHandle" ∧ y.cls ≠ "java/lang/invoke/VarHandle") ∧
  (∀ sig, parseMethodDescriptor y.desc = some sig → n = sig.parameters.length) ∧ (Cond.methodLink own index y).before args s = true ∧ (Cond.instanceMethod y).before args s = true ∧ (Cond.selects C y y).before args s = true
theorem vx_cwVW {own C : String} {index maxL mc ms : Nat} {y : MethodName} {bytes : ByteArray} {ret : Option FieldType} {hh : List (Nat × Nat × Nat × Nat)} {Ts ws ws' : List Cond} {rm : Room} (n : Nat) (ht : ∀ w ∈ Ts, w.before args s = true) (hT : GoodIn Ts (wsV own index C y ws)) (hw : ws = Cond.codeWith y bytes maxL ret hh :: ws') (hrc : rm.cells = mc) (hrs : rm.slots = ms)
    (hd : y.cls = C ∧ y.cls ≠ "java/lang/invoke/MethodHandle" ∧ y.cls ≠ "java/lang/invoke/VarHandle" ∧ (parseMethodDescriptor y.desc).map (fun d => d.parameters.length) = some n) (hR : rm.frames + 1 ≤ R.frames ∧ 8 + (maxL + 11) + rm.locals ≤ R.locals) :
    vx_CVW R s args own C index y bytes maxL ret hh ws rm mc ms n := by
  obtain ⟨hC, hd⟩ := hd
  subst hC
  have ok : ∀ w ∈ wsV own index y.cls y ws, w.before args s = true := fun w h => ht w (hT w h).1
  have hG : GoodIn Ts ws := fun w h => hT w (by unfold wsV; exact List.mem_append_right _ h)
  have hc : Cond.codeWith y bytes maxL ret hh ∈ ws := by rw [hw]; exact List.mem_cons_self
  refine ⟨⟨hrc, hrs, hR.1, hR.2, pay_in ht hG, hc⟩, ht _ (hG _ hc).1, ok _ (by simp [wsV]), ⟨hd.1, hd.2.1⟩, fun sig h => ?_, ok _ (by simp [wsV]), ok _ (by simp [wsV]), ok _ (by simp [wsV])⟩
  have h2 := hd.2.2
  rw [h] at h2
  exact (Option.some.inj h2).symm
theorem vx_runVW {y : MethodName} {bytes cc : ByteArray} {maxL nL mc ms n index : Nat} {ret : Option FieldType} {hh : List (Nat × Nat × Nat × Nat)} {ws : List Cond} {rm : Room} {Pc : Array Value → State → Prop} {Qc : Array Value → State → Outcome → State → Prop} {free : Addr → Prop} {Ts : List Cond} {own C : String} {b : Addr} {As rest : List Value} {g : JFrame}
    (S : CallFix p m c cc nL s args Ts own) (hM : Met l y ws rm Pc Qc mc ms free) (cw : vx_CVW R s args own C index y bytes maxL ret hh ws rm mc ms n) (hp : PreV s H C b Pc As)
    (hg : g.method = m) (hn : As.length = n) (hsize : g.locals.size = nL) (hstack : g.stack = As.reverse ++ .ref b :: rest) (hW : 2 * g.monitorRoom + (rest.map fun v => v.category).sum ≤ 8) (hdg : decode cc g.pc = .ok (.invokevirtual index, 3)) (hf : cells + mc ≤ R.cells ∧ slots + ms ≤ R.slots) :
    va_Run p l e R s m args below meth c H locs cells slots mc ms g rest (Qc (Value.ref b :: As).toArray) free := by
  obtain ⟨⟨hrc, hrs, hfr, hlo, hws, hcw⟩, hcode, hini, hy, hlen, hl, hin, hse⟩ := cw
  have hK : Back l R p e below s args y 3 8 (PreOf R mc ms Pc) (PostOf Qc mc ms free) := va_backW (hh := hh) (bytes := bytes) (maxL := maxL) (ret := ret) hM hp.1 hrc hrs hfr hlo hws hcw (fun a' U hW => word_at hW (Or.inl (by first | rfl | simp [Cond.onTables, Cond.keeps, Cond.steady])) hini)
  obtain ⟨hx, hb, hml, ho, -⟩ := S
  obtain ⟨-, ⟨cellB, hcB, hoB, hclB⟩, hPc⟩ := hp
  intro T hT X
  obtain ⟨v, vm₁, ⟨U', l2, c2, s2⟩, hW₁, X', ⟨g', mk, t, L, e1, e2, hq, h1, hL, h2, h3⟩, st⟩ := vx_callVW X hx (C := C) (hh := hh) (bytes := bytes) (maxL := maxL) (ret := ret) ho hl hin hse hcode hy hK (by rw [hT]; exact hcB) hoB hclB hg (hsize.trans hml.symm) (argsL := As) (rest := rest) (fun sig h => hn.trans (hlen sig h)) hstack hW (by rw [hb]; exact hdg)
    (fun vm₁ hW₁ => ⟨hf.1, hf.2, hPc (T.setVm vm₁) hT hW₁⟩)
  dsimp only [Pt.U, Pt.locs, Pt.cells, Pt.slots] at X' e1 e2 h1 h2 h3 st
  subst h1; subst h2; subst h3
  exact ⟨v, (T.setVm vm₁).calling g' mk (Value.ref b :: As).toArray, t, U', L, hT, X', hL, e1, e2, hq, st⟩
section
variable {y : MethodName} {bytes cc : ByteArray} {maxL nL mc ms n index : Nat} {ret : Option FieldType} {ws : List Cond} {rm : Room} {Pc : Array Value → State → Prop} {Qc : Array Value → State → Outcome → State → Prop} {XC : String → State → State → Prop} {free : Addr → Prop} {Ts : List Cond} {own C : String} {b : Addr} {As rest : List Value} {g : JFrame}
theorem vx_runVX {hh : List (Nat × Nat × Nat × Nat)} (S : CallFix p m c cc nL s args Ts own) (hM : vx_Met l y ws rm Pc Qc XC mc ms free) (cw : vx_CVW R s args own C index y bytes maxL ret hh ws rm mc ms n) (hp : PreV s H C b Pc As)
    (hg : g.method = m) (hn : As.length = n) (hsize : g.locals.size = nL) (hstack : g.stack = As.reverse ++ .ref b :: rest) (hW : 2 * g.monitorRoom + (rest.map fun v => v.category).sum ≤ 8) (hdg : decode cc g.pc = .ok (.invokevirtual index, 3)) (hf : cells + mc ≤ R.cells ∧ slots + ms ≤ R.slots) :
    vx_Run p l e R s m args below meth c H locs cells slots mc ms g rest (Qc (Value.ref b :: As).toArray) XC free := by
  obtain ⟨⟨hrc, hrs, hfr, hlo, hws, hcw⟩, hcode, hini, hy, hlen, hl, hin, hse⟩ := cw
  have hK : vx_Back l R p e below s args y 3 8 (PreOf R mc ms Pc) (PostOf Qc mc ms free) (vx_Post XC mc ms free) := vx_backW (hh := hh) (bytes := bytes) (maxL := maxL) (ret := ret) hM hp.1 hrc hrs hfr hlo hws hcw (fun a' U hW => word_at hW (Or.inl (by first | rfl | simp [Cond.onTables, Cond.keeps, Cond.steady])) hini)
  obtain ⟨hx, hb, hml, ho, -⟩ := S
  obtain ⟨-, ⟨cellB, hcB, hoB, hclB⟩, hPc⟩ := hp
  intro T hT X
  rcases vx_callVX X hx (C := C) (hh := hh) (bytes := bytes) (maxL := maxL) (ret := ret) ho hl hin hse hcode hy hK (by rw [hT]; exact hcB) hoB hclB hg (hsize.trans hml.symm) (argsL := As) (rest := rest) (fun sig h => hn.trans (hlen sig h)) hstack hW (by rw [hb]; exact hdg)
    (fun vm₁ hW₁ => ⟨hf.1, hf.2, hPc (T.setVm vm₁) hT hW₁⟩) with ⟨v, vm₁, ⟨U', l2, c2, s2⟩, hW₁, X', ⟨g', mk, t, L, e1, e2, hq, h1, hL, h2, h3⟩, st⟩ | ⟨q, vm₁, ⟨U', l2, c2, s2⟩, hW₁, X', ⟨g', mk, t, L, E, ce, e1, e2, hq, hce, hcv, hcl, h1, hL, h2, h3⟩, st⟩
  · dsimp only [Pt.U, Pt.locs, Pt.cells, Pt.slots] at X' e1 e2 h1 h2 h3 st
    subst h1; subst h2; subst h3
    exact Or.inl ⟨v, (T.setVm vm₁).calling g' mk (Value.ref b :: As).toArray, t, U', L, hT, X', hL, e1, e2, hq, st⟩
  · dsimp only [Pt.U, Pt.locs, Pt.cells, Pt.slots] at X' e1 e2 h1 h2 h3 st hcl
    subst h1; subst h2; subst h3
    exact Or.inr ⟨q, (T.setVm vm₁).calling g' mk (Value.ref b :: As).toArray, t, U', L, E, ce, hT, X', hL, e1, e2, hq, hce, hcv, vx_cls hW₁ hcl, st⟩
theorem vx_runSX {hh : List (Nat × Nat × Nat × Nat)} (S : CallFix p m c cc nL s args Ts own) (hM : vx_Met l y ws rm Pc Qc XC mc ms free) (cw : vx_CSW R s args own index y bytes maxL ret hh ws rm mc ms n) (hp : PreS s H Pc As)
    (hg : g.method = m) (hn : As.length = n) (hsize : g.locals.size = nL) (hstack : g.stack = As.reverse ++ rest) (hW : 2 * g.monitorRoom + (rest.map fun v => v.category).sum ≤ 8) (hdg : decode cc g.pc = .ok (.invokestatic index, 3)) (hf : cells + mc ≤ R.cells ∧ slots + ms ≤ R.slots) :
    vx_Run p l e R s m args below meth c H locs cells slots mc ms g rest (Qc As.toArray) XC free := by
  obtain ⟨⟨hrc, hrs, hfr, hlo, hws, hcw⟩, hcode, hini, hy, hlen, hl, hstt⟩ := cw
  have hK : vx_Back l R p e below s args y 3 8 (PreOf R mc ms Pc) (PostOf Qc mc ms free) (vx_Post XC mc ms free) := vx_backW (hh := hh) (bytes := bytes) (maxL := maxL) (ret := ret) hM hp.1 hrc hrs hfr hlo hws hcw (fun a' U hW => word_at hW (Or.inl (by first | rfl | simp [Cond.onTables, Cond.keeps, Cond.steady])) hini)
  obtain ⟨hx, hb, hml, ho, -⟩ := S
  intro T hT X
  rcases vx_callSX X hx (hh := hh) (bytes := bytes) (maxL := maxL) (ret := ret) ho hl hstt hini hcode hy hK hg (hsize.trans hml.symm) (argsL := As) (rest := rest) (fun sig h => hn.trans (hlen sig h)) hstack hW (by rw [hb]; exact hdg)
    (fun vm₁ hW₁ => ⟨hf.1, hf.2, hp.2 (T.setVm vm₁) hT hW₁⟩) with ⟨v, vm₁, ⟨U', l2, c2, s2⟩, hW₁, X', ⟨g', mk, t, L, e1, e2, hq, h1, hL, h2, h3⟩, st⟩ | ⟨q, vm₁, ⟨U', l2, c2, s2⟩, hW₁, X', ⟨g', mk, t, L, E, ce, e1, e2, hq, hce, hcv, hcl, h1, hL, h2, h3⟩, st⟩
  · dsimp only [Pt.U, Pt.locs, Pt.cells, Pt.slots] at X' e1 e2 h1 h2 h3 st
    subst h1; subst h2; subst h3
    exact Or.inl ⟨v, (T.setVm vm₁).calling g' mk As.toArray, t, U', L, hT, X', hL, e1, e2, hq, st⟩
  · dsimp only [Pt.U, Pt.locs, Pt.cells, Pt.slots] at X' e1 e2 h1 h2 h3 st hcl
    subst h1; subst h2; subst h3
    exact Or.inr ⟨q, (T.setVm vm₁).calling g' mk As.toArray, t, U', L, E, ce, hT, X', hL, e1, e2, hq, hce, hcv, vx_cls hW₁ hcl, st⟩
end
end VXH
theorem vx_ofWH {l : Launch} {y : MethodName} {ws ws' : List Cond} {rm : Room} {Pc : Array Value → State → Prop} {Qc : Array Value → State → Outcome → State → Prop} {XC : String → State → State → Prop} {mc ms : Nat} {free : Addr → Prop} {cc : ByteArray} {maxL : Nat} {ret : Option FieldType} {hh : List (Nat × Nat × Nat × Nat)}
    (hy : plainName y.cls = true) (hw : ws = Cond.codeWith y cc maxL ret hh :: ws')
    (body : ∀ p e s m args below meth c s₁, BodyLoose p l y (headSpec ws rm) cc maxL ret e s m args below meth c s₁ → c.maxLocals = maxL → Pc args s →
      W p l e (headSpec ws rm).room s m args below meth c s.heap [] 0 0 (vx_MQ below Qc XC args s mc ms free) (entryFrame m args maxL)) : vx_Met l y ws rm Pc Qc XC mc ms free := by
  refine MetFree.of_bodyS (code := cc) (maxLocals := maxL) (ret := ret) hy ?_ ?_
  · intro args s m h hn
    obtain ⟨m9, meth, c, hn9, h1, h2, h3, h4, -, h5, h6, -⟩ := Cond.codeWith_spec (atoms_spec (ws := ws) h _ (by rw [hw]; exact List.mem_cons_self))
    cases hn.symm.trans hn9
    exact ⟨meth, c, h1, h2, h3, h4, h5, h6⟩
  · intro p e s m args below meth c s₁ B hml hP _
    have hh0 : s₁.heap = s.heap := by rw [B.state]; rfl
    obtain ⟨t, a1, o, b1, b2, b3⟩ := body p e s m args below meth c s₁ B hml hP s₁ hh0 (Stand.of_body B)
    exact ⟨t, o, a1, b1, b2, b3⟩
/-! ===== END ===== -/
end
section
/-! ===== BEGIN printed: names, fields, word lists, decode rows ===== -/
def RX0 : String := "AdBreaks$AdBreak"
def TX0 : u_T := fun k => match k with
  | 0 => ("AdBreaks$AdBreak", "day", "I", false)
  | 1 => ("AdBreaks$AdBreak", "hour", "I", false)
  | 2 => ("AdBreaks$AdBreak", "length", "I", false)
  | 3 => ("AdBreaks$AdBreak", "audience", "I", false)
  | 4 => ("AdBreaks$AdBreak", "state", "I", false)
  | _ => ("AdBreaks$AdBreak", "row", "LAdBreaks$SpotRow;", true)
def tyX0 : Nat → FieldType := fun k => match k with
  | 0 => .int
  | 1 => .int
  | 2 => .int
  | 3 => .int
  | 4 => .int
  | _ => .object "AdBreaks$SpotRow"
abbrev wsX00 : List Cond := u_ws RX0 TX0 6
theorem nmX0 : ∀ a, a < 6 → ∀ b, b < 6 → a ≠ b → (TX0 a).2.1 ≠ (TX0 b).2.1 := by decide +kernel
theorem tyX0_ok : ∀ k, k < 6 → parseFieldDescriptor (TX0 k).2.2.1 = some (tyX0 k) := by decide +kernel
abbrev cX0_init : ByteArray := prog_2_method_1_code
def yX0_init : MethodName := ⟨RX0, "<init>", "()V"⟩
abbrev cX0_setUp : ByteArray := prog_2_method_2_code
def yX0_setUp : MethodName := ⟨RX0, "setUp", "(IIII)V"⟩
abbrev cX0_copyFrom : ByteArray := prog_2_method_3_code
def yX0_copyFrom : MethodName := ⟨RX0, "copyFrom", "(LAdBreaks$AdBreak;)V"⟩
abbrev cX0_isLaterThan : ByteArray := prog_2_method_4_code
def yX0_isLaterThan : MethodName := ⟨RX0, "isLaterThan", "(II)Z"⟩
def RX1 : String := "AdBreaks$Arranger"
def TX1 : u_T := fun k => match k with
  | 0 => ("AdBreaks$Arranger", "friends", "[I", true)
  | 1 => ("AdBreaks$Arranger", "beginning", "[[I", true)
  | _ => ("AdBreaks$Arranger", "order", "[I", true)
def tyX1 : Nat → FieldType := fun k => match k with
  | 0 => .array .int
  | 1 => .array (.array .int)
  | _ => .array .int
abbrev wsX10 : List Cond := u_ws RX1 TX1 3
theorem nmX1 : ∀ a, a < 3 → ∀ b, b < 3 → a ≠ b → (TX1 a).2.1 ≠ (TX1 b).2.1 := by decide +kernel
theorem tyX1_ok : ∀ k, k < 3 → parseFieldDescriptor (TX1 k).2.2.1 = some (tyX1 k) := by decide +kernel
abbrev cX1_init : ByteArray := prog_3_method_1_code
def yX1_init : MethodName := ⟨RX1, "<init>", "()V"⟩
abbrev cX1_countOrders : ByteArray := prog_3_method_2_code
def yX1_countOrders : MethodName := ⟨RX1, "countOrders", "(LAdBreaks$Plan;I)I"⟩
abbrev cX1_findFirst : ByteArray := prog_3_method_3_code
def yX1_findFirst : MethodName := ⟨RX1, "findFirst", "(LAdBreaks$Plan;I)Z"⟩
abbrev cX1_countBeginnings : ByteArray := prog_3_method_4_code
def yX1_countBeginnings : MethodName := ⟨RX1, "countBeginnings", "(LAdBreaks$Plan;I)V"⟩
abbrev cX1_findFriends : ByteArray := prog_3_method_5_code
def yX1_findFriends : MethodName := ⟨RX1, "findFriends", "(LAdBreaks$Plan;)V"⟩
abbrev cX1_countBeginningsOf : ByteArray := prog_3_method_6_code
def yX1_countBeginningsOf : MethodName := ⟨RX1, "countBeginningsOf", "(I)V"⟩
abbrev cX1_sumOver : ByteArray := prog_3_method_7_code
def yX1_sumOver : MethodName := ⟨RX1, "sumOver", "(II)I"⟩
abbrev cX1_smallestBeginning : ByteArray := prog_3_method_8_code
def yX1_smallestBeginning : MethodName := ⟨RX1, "smallestBeginning", "(II)I"⟩
def RX2 : String := "AdBreaks$Formula"
def TX2 : u_T := fun k => match k with
  | 0 => ("AdBreaks$Formula", "codes", "[I", true)
  | 1 => ("AdBreaks$Formula", "size", "I", false)
  | 2 => ("AdBreaks$Formula", "given", "[I", true)
  | _ => ("AdBreaks$Formula", "stack", "[I", true)
def tyX2 : Nat → FieldType := fun k => match k with
  | 0 => .array .int
  | 1 => .int
  | 2 => .array .int
  | _ => .array .int
abbrev wsX20 : List Cond := u_ws RX2 TX2 4
theorem nmX2 : ∀ a, a < 4 → ∀ b, b < 4 → a ≠ b → (TX2 a).2.1 ≠ (TX2 b).2.1 := by decide +kernel
theorem tyX2_ok : ∀ k, k < 4 → parseFieldDescriptor (TX2 k).2.2.1 = some (tyX2 k) := by decide +kernel
abbrev cX2_init : ByteArray := prog_4_method_1_code
def yX2_init : MethodName := ⟨RX2, "<init>", "()V"⟩
abbrev cX2_clear : ByteArray := prog_4_method_2_code
def yX2_clear : MethodName := ⟨RX2, "clear", "()V"⟩
abbrev cX2_setDefault : ByteArray := prog_4_method_3_code
def yX2_setDefault : MethodName := ⟨RX2, "setDefault", "()V"⟩
abbrev cX2_emit : ByteArray := prog_4_method_4_code
def yX2_emit : MethodName := ⟨RX2, "emit", "(I)V"⟩
abbrev cX2_copyFrom : ByteArray := prog_4_method_5_code
def yX2_copyFrom : MethodName := ⟨RX2, "copyFrom", "(LAdBreaks$Formula;)V"⟩
abbrev cX2_evaluate : ByteArray := prog_4_method_6_code
def yX2_evaluate : MethodName := ⟨RX2, "evaluate", "(IIIII)I"⟩
abbrev cX2_operate : ByteArray := prog_4_method_7_code
def yX2_operate : MethodName := ⟨RX2, "operate", "(IJJ)I"⟩
def RX3 : String := "AdBreaks$History"
def TX3 : u_T := fun k => match k with
  | 0 => ("AdBreaks$History", "plans", "[LAdBreaks$Plan;", true)
  | 1 => ("AdBreaks$History", "current", "I", false)
  | _ => ("AdBreaks$History", "undoable", "I", false)
def tyX3 : Nat → FieldType := fun k => match k with
  | 0 => .array (.object "AdBreaks$Plan")
  | 1 => .int
  | _ => .int
abbrev wsX30 : List Cond := u_ws RX3 TX3 3
theorem nmX3 : ∀ a, a < 3 → ∀ b, b < 3 → a ≠ b → (TX3 a).2.1 ≠ (TX3 b).2.1 := by decide +kernel
theorem tyX3_ok : ∀ k, k < 3 → parseFieldDescriptor (TX3 k).2.2.1 = some (tyX3 k) := by decide +kernel
abbrev cX3_init : ByteArray := prog_5_method_1_code
def yX3_init : MethodName := ⟨RX3, "<init>", "()V"⟩
abbrev cX3_latest : ByteArray := prog_5_method_2_code
def yX3_latest : MethodName := ⟨RX3, "latest", "()LAdBreaks$Plan;"⟩
abbrev cX3_beginChange : ByteArray := prog_5_method_3_code
def yX3_beginChange : MethodName := ⟨RX3, "beginChange", "()LAdBreaks$Plan;"⟩
abbrev cX3_stepBack : ByteArray := prog_5_method_4_code
def yX3_stepBack : MethodName := ⟨RX3, "stepBack", "()I"⟩
def RX4 : String := "AdBreaks$Plan"
def TX4 : u_T := fun k => match k with
  | 0 => ("AdBreaks$Plan", "list", "[LAdBreaks$AdBreak;", true)
  | 1 => ("AdBreaks$Plan", "breakCount", "I", false)
  | 2 => ("AdBreaks$Plan", "category", "[I", true)
  | 3 => ("AdBreaks$Plan", "cap", "[I", true)
  | 4 => ("AdBreaks$Plan", "sponsorCount", "I", false)
  | 5 => ("AdBreaks$Plan", "bannedFrom", "[I", true)
  | 6 => ("AdBreaks$Plan", "formula", "LAdBreaks$Formula;", true)
  | 7 => ("AdBreaks$Plan", "owedRow", "LAdBreaks$SpotRow;", true)
  | _ => ("AdBreaks$Plan", "earned", "I", false)
def tyX4 : Nat → FieldType := fun k => match k with
  | 0 => .array (.object "AdBreaks$AdBreak")
  | 1 => .int
  | 2 => .array .int
  | 3 => .array .int
  | 4 => .int
  | 5 => .array .int
  | 6 => .object "AdBreaks$Formula"
  | 7 => .object "AdBreaks$SpotRow"
  | _ => .int
abbrev wsX40 : List Cond := u_ws RX4 TX4 9
theorem nmX4 : ∀ a, a < 9 → ∀ b, b < 9 → a ≠ b → (TX4 a).2.1 ≠ (TX4 b).2.1 := by decide +kernel
theorem tyX4_ok : ∀ k, k < 9 → parseFieldDescriptor (TX4 k).2.2.1 = some (tyX4 k) := by decide +kernel
abbrev cX4_init : ByteArray := prog_6_method_1_code
def yX4_init : MethodName := ⟨RX4, "<init>", "()V"⟩
abbrev cX4_clear : ByteArray := prog_6_method_2_code
def yX4_clear : MethodName := ⟨RX4, "clear", "()V"⟩
abbrev cX4_copyFrom : ByteArray := prog_6_method_3_code
def yX4_copyFrom : MethodName := ⟨RX4, "copyFrom", "(LAdBreaks$Plan;)V"⟩
abbrev cX4_hasBreakAt : ByteArray := prog_6_method_4_code
def yX4_hasBreakAt : MethodName := ⟨RX4, "hasBreakAt", "(II)Z"⟩
abbrev cX4_addBreak : ByteArray := prog_6_method_5_code
def yX4_addBreak : MethodName := ⟨RX4, "addBreak", "(IIII)V"⟩
abbrev cX4_addSponsor : ByteArray := prog_6_method_6_code
def yX4_addSponsor : MethodName := ⟨RX4, "addSponsor", "(II)V"⟩
abbrev cX4_addBan : ByteArray := prog_6_method_7_code
def yX4_addBan : MethodName := ⟨RX4, "addBan", "(II)V"⟩
abbrev cX4_hasBan : ByteArray := prog_6_method_8_code
def yX4_hasBan : MethodName := ⟨RX4, "hasBan", "(II)Z"⟩
abbrev cX4_clash : ByteArray := prog_6_method_9_code
def yX4_clash : MethodName := ⟨RX4, "clash", "(II)Z"⟩
abbrev cX4_spotsOf : ByteArray := prog_6_method_10_code
def yX4_spotsOf : MethodName := ⟨RX4, "spotsOf", "(I)I"⟩
abbrev cX4_airedSpotsOf : ByteArray := prog_6_method_11_code
def yX4_airedSpotsOf : MethodName := ⟨RX4, "airedSpotsOf", "(I)I"⟩
abbrev cX4_spotsOfDay : ByteArray := prog_6_method_12_code
def yX4_spotsOfDay : MethodName := ⟨RX4, "spotsOfDay", "(II)I"⟩
abbrev cX4_refusal : ByteArray := prog_6_method_13_code
def yX4_refusal : MethodName := ⟨RX4, "refusal", "(III)I"⟩
abbrev cX4_placeFor : ByteArray := prog_6_method_14_code
def yX4_placeFor : MethodName := ⟨RX4, "placeFor", "(ILAdBreaks$SpotRow;)I"⟩
abbrev cX4_priceOf : ByteArray := prog_6_method_15_code
def yX4_priceOf : MethodName := ⟨RX4, "priceOf", "(III)I"⟩
abbrev cX4_cheapestBreak : ByteArray := prog_6_method_16_code
def yX4_cheapestBreak : MethodName := ⟨RX4, "cheapestBreak", "(II)I"⟩
abbrev cX4_widestBreak : ByteArray := prog_6_method_17_code
def yX4_widestBreak : MethodName := ⟨RX4, "widestBreak", "(II)I"⟩
abbrev cX4_earliestOpen : ByteArray := prog_6_method_18_code
def yX4_earliestOpen : MethodName := ⟨RX4, "earliestOpen", "()I"⟩
abbrev cX4_bookSpot : ByteArray := prog_6_method_19_code
def yX4_bookSpot : MethodName := ⟨RX4, "bookSpot", "(III)I"⟩
abbrev cX4_bookInOrder : ByteArray := prog_6_method_20_code
def yX4_bookInOrder : MethodName := ⟨RX4, "bookInOrder", "(III[I)V"⟩
abbrev cX4_bookCheapest : ByteArray := prog_6_method_21_code
def yX4_bookCheapest : MethodName := ⟨RX4, "bookCheapest", "(III)I"⟩
abbrev cX4_canTakeOut : ByteArray := prog_6_method_22_code
def yX4_canTakeOut : MethodName := ⟨RX4, "canTakeOut", "(II)Z"⟩
abbrev cX4_takeOut : ByteArray := prog_6_method_23_code
def yX4_takeOut : MethodName := ⟨RX4, "takeOut", "(II)I"⟩
abbrev cX4_cancelBreak : ByteArray := prog_6_method_24_code
def yX4_cancelBreak : MethodName := ⟨RX4, "cancelBreak", "(I)V"⟩
abbrev cX4_settleOwed : ByteArray := prog_6_method_25_code
def yX4_settleOwed : MethodName := ⟨RX4, "settleOwed", "()I"⟩
abbrev cX4_breakForOwed : ByteArray := prog_6_method_26_code
def yX4_breakForOwed : MethodName := ⟨RX4, "breakForOwed", "(I)I"⟩
def RX5 : String := "AdBreaks$SetupReader"
def TX5 : u_T := fun k => match k with
  | 0 => ("AdBreaks$SetupReader", "tokens", "LAdBreaks$Tokens;", true)
  | 1 => ("AdBreaks$SetupReader", "error", "I", false)
  | 2 => ("AdBreaks$SetupReader", "errorAt", "I", false)
  | 3 => ("AdBreaks$SetupReader", "taken", "I", false)
  | 4 => ("AdBreaks$SetupReader", "banCount", "I", false)
  | _ => ("AdBreaks$SetupReader", "priceRead", "Z", false)
def tyX5 : Nat → FieldType := fun k => match k with
  | 0 => .object "AdBreaks$Tokens"
  | 1 => .int
  | 2 => .int
  | 3 => .int
  | 4 => .int
  | _ => .boolean
abbrev wsX50 : List Cond := u_ws RX5 TX5 6
theorem nmX5 : ∀ a, a < 6 → ∀ b, b < 6 → a ≠ b → (TX5 a).2.1 ≠ (TX5 b).2.1 := by decide +kernel
theorem tyX5_ok : ∀ k, k < 6 → parseFieldDescriptor (TX5 k).2.2.1 = some (tyX5 k) := by decide +kernel
abbrev cX5_init : ByteArray := prog_7_method_1_code
def yX5_init : MethodName := ⟨RX5, "<init>", "()V"⟩
abbrev cX5_readSetup : ByteArray := prog_7_method_2_code
def yX5_readSetup : MethodName := ⟨RX5, "readSetup", "([BILAdBreaks$Plan;)Z"⟩
abbrev cX5_readStatement : ByteArray := prog_7_method_3_code
def yX5_readStatement : MethodName := ⟨RX5, "readStatement", "(LAdBreaks$Plan;)Z"⟩
abbrev cX5_readBreak : ByteArray := prog_7_method_4_code
def yX5_readBreak : MethodName := ⟨RX5, "readBreak", "(LAdBreaks$Plan;)Z"⟩
abbrev cX5_readSponsor : ByteArray := prog_7_method_5_code
def yX5_readSponsor : MethodName := ⟨RX5, "readSponsor", "(LAdBreaks$Plan;)Z"⟩
abbrev cX5_readBan : ByteArray := prog_7_method_6_code
def yX5_readBan : MethodName := ⟨RX5, "readBan", "(LAdBreaks$Plan;)Z"⟩
abbrev cX5_readSum : ByteArray := prog_7_method_7_code
def yX5_readSum : MethodName := ⟨RX5, "readSum", "(LAdBreaks$Formula;I)Z"⟩
abbrev cX5_readTerm : ByteArray := prog_7_method_8_code
def yX5_readTerm : MethodName := ⟨RX5, "readTerm", "(LAdBreaks$Formula;I)Z"⟩
abbrev cX5_readFactor : ByteArray := prog_7_method_9_code
def yX5_readFactor : MethodName := ⟨RX5, "readFactor", "(LAdBreaks$Formula;I)Z"⟩
abbrev cX5_codeOfWord : ByteArray := prog_7_method_10_code
def yX5_codeOfWord : MethodName := ⟨RX5, "codeOfWord", "()I"⟩
abbrev cX5_takeWord : ByteArray := prog_7_method_11_code
def yX5_takeWord : MethodName := ⟨RX5, "takeWord", "(Ljava/lang/String;)Z"⟩
abbrev cX5_takeSign : ByteArray := prog_7_method_12_code
def yX5_takeSign : MethodName := ⟨RX5, "takeSign", "(C)Z"⟩
abbrev cX5_takeNumber : ByteArray := prog_7_method_13_code
def yX5_takeNumber : MethodName := ⟨RX5, "takeNumber", "(II)Z"⟩
abbrev cX5_fail : ByteArray := prog_7_method_14_code
def yX5_fail : MethodName := ⟨RX5, "fail", "(I)Z"⟩
def RX6 : String := "AdBreaks$SpotRow"
def TX6 : u_T := fun k => match k with
  | 0 => ("AdBreaks$SpotRow", "sponsors", "[I", true)
  | 1 => ("AdBreaks$SpotRow", "seconds", "[I", true)
  | 2 => ("AdBreaks$SpotRow", "prices", "[I", true)
  | 3 => ("AdBreaks$SpotRow", "leastAudiences", "[I", true)
  | _ => ("AdBreaks$SpotRow", "count", "I", false)
def tyX6 : Nat → FieldType := fun k => match k with
  | 0 => .array .int
  | 1 => .array .int
  | 2 => .array .int
  | 3 => .array .int
  | _ => .int
abbrev wsX60 : List Cond := u_ws RX6 TX6 5
theorem nmX6 : ∀ a, a < 5 → ∀ b, b < 5 → a ≠ b → (TX6 a).2.1 ≠ (TX6 b).2.1 := by decide +kernel
theorem tyX6_ok : ∀ k, k < 5 → parseFieldDescriptor (TX6 k).2.2.1 = some (tyX6 k) := by decide +kernel
abbrev cX6_init : ByteArray := prog_8_method_1_code
def yX6_init : MethodName := ⟨RX6, "<init>", "(I)V"⟩
abbrev cX6_copyFrom : ByteArray := prog_8_method_2_code
def yX6_copyFrom : MethodName := ⟨RX6, "copyFrom", "(LAdBreaks$SpotRow;)V"⟩
abbrev cX6_copySpot : ByteArray := prog_8_method_3_code
def yX6_copySpot : MethodName := ⟨RX6, "copySpot", "(LAdBreaks$SpotRow;II)V"⟩
abbrev cX6_takeOver : ByteArray := prog_8_method_4_code
def yX6_takeOver : MethodName := ⟨RX6, "takeOver", "(LAdBreaks$SpotRow;III)V"⟩
abbrev cX6_insert : ByteArray := prog_8_method_5_code
def yX6_insert : MethodName := ⟨RX6, "insert", "(IIIII)V"⟩
abbrev cX6_delete : ByteArray := prog_8_method_6_code
def yX6_delete : MethodName := ⟨RX6, "delete", "(I)V"⟩
abbrev cX6_moveForward : ByteArray := prog_8_method_7_code
def yX6_moveForward : MethodName := ⟨RX6, "moveForward", "(II)V"⟩
abbrev cX6_tell : ByteArray := prog_8_method_8_code
def yX6_tell : MethodName := ⟨RX6, "tell", "(II)I"⟩
abbrev cX6_placeOf : ByteArray := prog_8_method_9_code
def yX6_placeOf : MethodName := ⟨RX6, "placeOf", "(I)I"⟩
abbrev cX6_countOf : ByteArray := prog_8_method_10_code
def yX6_countOf : MethodName := ⟨RX6, "countOf", "(I)I"⟩
abbrev cX6_secondsTogether : ByteArray := prog_8_method_11_code
def yX6_secondsTogether : MethodName := ⟨RX6, "secondsTogether", "()I"⟩
abbrev cX6_sponsorSet : ByteArray := prog_8_method_12_code
def yX6_sponsorSet : MethodName := ⟨RX6, "sponsorSet", "()I"⟩
abbrev cX6_addTo : ByteArray := prog_8_method_13_code
def yX6_addTo : MethodName := ⟨RX6, "addTo", "(JI)J"⟩
def RX7 : String := "AdBreaks$Tokens"
def TX7 : u_T := fun k => match k with
  | 0 => ("AdBreaks$Tokens", "text", "[B", false)
  | 1 => ("AdBreaks$Tokens", "length", "I", false)
  | 2 => ("AdBreaks$Tokens", "kind", "I", false)
  | 3 => ("AdBreaks$Tokens", "start", "I", false)
  | 4 => ("AdBreaks$Tokens", "end", "I", false)
  | _ => ("AdBreaks$Tokens", "value", "I", false)
def tyX7 : Nat → FieldType := fun k => match k with
  | 0 => .array .byte
  | 1 => .int
  | 2 => .int
  | 3 => .int
  | 4 => .int
  | _ => .int
abbrev wsX70 : List Cond := u_ws RX7 TX7 6
theorem nmX7 : ∀ a, a < 6 → ∀ b, b < 6 → a ≠ b → (TX7 a).2.1 ≠ (TX7 b).2.1 := by decide +kernel
theorem tyX7_ok : ∀ k, k < 6 → parseFieldDescriptor (TX7 k).2.2.1 = some (tyX7 k) := by decide +kernel
abbrev cX7_init : ByteArray := prog_9_method_1_code
def yX7_init : MethodName := ⟨RX7, "<init>", "()V"⟩
abbrev cX7_begin : ByteArray := prog_9_method_2_code
def yX7_begin : MethodName := ⟨RX7, "begin", "([BI)V"⟩
abbrev cX7_advance : ByteArray := prog_9_method_3_code
def yX7_advance : MethodName := ⟨RX7, "advance", "()V"⟩
abbrev cX7_isWord : ByteArray := prog_9_method_4_code
def yX7_isWord : MethodName := ⟨RX7, "isWord", "(Ljava/lang/String;)Z"⟩
abbrev cX7_isSign : ByteArray := prog_9_method_5_code
def yX7_isSign : MethodName := ⟨RX7, "isSign", "(C)Z"⟩
def RX8 : String := "AdBreaks"
def TX8 : u_T := fun k => match k with
  | 0 => ("AdBreaks", "buffer", "[B", true)
  | 1 => ("AdBreaks", "filled", "I", false)
  | 2 => ("AdBreaks", "offsetOfError", "I", false)
  | 3 => ("AdBreaks", "reader", "LAdBreaks$SetupReader;", true)
  | 4 => ("AdBreaks", "draft", "LAdBreaks$Plan;", true)
  | 5 => ("AdBreaks", "history", "LAdBreaks$History;", true)
  | _ => ("AdBreaks", "arranger", "LAdBreaks$Arranger;", true)
def tyX8 : Nat → FieldType := fun k => match k with
  | 0 => .array .byte
  | 1 => .int
  | 2 => .int
  | 3 => .object "AdBreaks$SetupReader"
  | 4 => .object "AdBreaks$Plan"
  | 5 => .object "AdBreaks$History"
  | _ => .object "AdBreaks$Arranger"
abbrev wsX80 : List Cond := u_ws RX8 TX8 7
theorem nmX8 : ∀ a, a < 7 → ∀ b, b < 7 → a ≠ b → (TX8 a).2.1 ≠ (TX8 b).2.1 := by decide +kernel
theorem tyX8_ok : ∀ k, k < 7 → parseFieldDescriptor (TX8 k).2.2.1 = some (tyX8 k) := by decide +kernel
abbrev cX8_init : ByteArray := prog_1_method_1_code
def yX8_init : MethodName := ⟨RX8, "<init>", "()V"⟩
abbrev cX8_append : ByteArray := prog_1_method_2_code
def yX8_append : MethodName := ⟨RX8, "append", "(IIIII)I"⟩
abbrev cX8_load : ByteArray := prog_1_method_3_code
def yX8_load : MethodName := ⟨RX8, "load", "(I)I"⟩
abbrev cX8_errorOffset : ByteArray := prog_1_method_4_code
def yX8_errorOffset : MethodName := ⟨RX8, "errorOffset", "()I"⟩
abbrev cX8_breaks : ByteArray := prog_1_method_5_code
def yX8_breaks : MethodName := ⟨RX8, "breaks", "()I"⟩
abbrev cX8_sponsors : ByteArray := prog_1_method_6_code
def yX8_sponsors : MethodName := ⟨RX8, "sponsors", "()I"⟩
abbrev cX8_breakOf : ByteArray := prog_1_method_7_code
def yX8_breakOf : MethodName := ⟨RX8, "breakOf", "(II)I"⟩
abbrev cX8_spot : ByteArray := prog_1_method_8_code
def yX8_spot : MethodName := ⟨RX8, "spot", "(III)I"⟩
abbrev cX8_sponsor : ByteArray := prog_1_method_9_code
def yX8_sponsor : MethodName := ⟨RX8, "sponsor", "(II)I"⟩
abbrev cX8_isBanned : ByteArray := prog_1_method_10_code
def yX8_isBanned : MethodName := ⟨RX8, "isBanned", "(II)Z"⟩
abbrev cX8_spotsOn : ByteArray := prog_1_method_11_code
def yX8_spotsOn : MethodName := ⟨RX8, "spotsOn", "(II)I"⟩
abbrev cX8_reason : ByteArray := prog_1_method_12_code
def yX8_reason : MethodName := ⟨RX8, "reason", "(III)I"⟩
abbrev cX8_price : ByteArray := prog_1_method_13_code
def yX8_price : MethodName := ⟨RX8, "price", "(III)I"⟩
abbrev cX8_cheapest : ByteArray := prog_1_method_14_code
def yX8_cheapest : MethodName := ⟨RX8, "cheapest", "(II)I"⟩
abbrev cX8_widest : ByteArray := prog_1_method_15_code
def yX8_widest : MethodName := ⟨RX8, "widest", "(II)I"⟩
abbrev cX8_income : ByteArray := prog_1_method_16_code
def yX8_income : MethodName := ⟨RX8, "income", "()I"⟩
abbrev cX8_owed : ByteArray := prog_1_method_17_code
def yX8_owed : MethodName := ⟨RX8, "owed", "()I"⟩
abbrev cX8_owedSpot : ByteArray := prog_1_method_18_code
def yX8_owedSpot : MethodName := ⟨RX8, "owedSpot", "(II)I"⟩
abbrev cX8_arrangements : ByteArray := prog_1_method_19_code
def yX8_arrangements : MethodName := ⟨RX8, "arrangements", "(I)I"⟩
abbrev cX8_arranged : ByteArray := prog_1_method_20_code
def yX8_arranged : MethodName := ⟨RX8, "arranged", "(II)I"⟩
abbrev cX8_book : ByteArray := prog_1_method_21_code
def yX8_book : MethodName := ⟨RX8, "book", "(III)I"⟩
abbrev cX8_bookAnyhow : ByteArray := prog_1_method_22_code
def yX8_bookAnyhow : MethodName := ⟨RX8, "bookAnyhow", "(III)I"⟩
abbrev cX8_remove : ByteArray := prog_1_method_23_code
def yX8_remove : MethodName := ⟨RX8, "remove", "(II)I"⟩
abbrev cX8_air : ByteArray := prog_1_method_24_code
def yX8_air : MethodName := ⟨RX8, "air", "()I"⟩
abbrev cX8_cancel : ByteArray := prog_1_method_25_code
def yX8_cancel : MethodName := ⟨RX8, "cancel", "(I)I"⟩
abbrev cX8_makeGood : ByteArray := prog_1_method_26_code
def yX8_makeGood : MethodName := ⟨RX8, "makeGood", "()I"⟩
abbrev cX8_campaign : ByteArray := prog_1_method_27_code
def yX8_campaign : MethodName := ⟨RX8, "campaign", "(III)I"⟩
abbrev cX8_setCap : ByteArray := prog_1_method_28_code
def yX8_setCap : MethodName := ⟨RX8, "setCap", "(II)I"⟩
abbrev cX8_undo : ByteArray := prog_1_method_29_code
def yX8_undo : MethodName := ⟨RX8, "undo", "()I"⟩
abbrev cX8_checksum : ByteArray := prog_1_method_30_code
def yX8_checksum : MethodName := ⟨RX8, "checksum", "()J"⟩
abbrev cX8_appendWord : ByteArray := prog_1_method_31_code
def yX8_appendWord : MethodName := ⟨RX8, "appendWord", "(I)V"⟩
abbrev cX8_checkBreak : ByteArray := prog_1_method_32_code
def yX8_checkBreak : MethodName := ⟨RX8, "checkBreak", "(LAdBreaks$Plan;I)V"⟩
abbrev cX8_checkSponsor : ByteArray := prog_1_method_33_code
def yX8_checkSponsor : MethodName := ⟨RX8, "checkSponsor", "(LAdBreaks$Plan;I)V"⟩
abbrev cX8_checkPlace : ByteArray := prog_1_method_34_code
def yX8_checkPlace : MethodName := ⟨RX8, "checkPlace", "(LAdBreaks$SpotRow;I)V"⟩
abbrev cX8_checkRange : ByteArray := prog_1_method_35_code
def yX8_checkRange : MethodName := ⟨RX8, "checkRange", "(III)V"⟩
abbrev cX8_checkSet : ByteArray := prog_1_method_36_code
def yX8_checkSet : MethodName := ⟨RX8, "checkSet", "(LAdBreaks$Plan;I)V"⟩
abbrev cX8_checkSpotIn : ByteArray := prog_1_method_37_code
def yX8_checkSpotIn : MethodName := ⟨RX8, "checkSpotIn", "(LAdBreaks$Plan;III)V"⟩
def RX9 : String := "AdBreaksModel"
def TX9 : u_T := fun k => match k with
  | 0 => ("AdBreaksModel", "thrown", "I", false)
  | 1 => ("AdBreaksModel", "buffer", "[I", true)
  | 2 => ("AdBreaksModel", "bufferLength", "I", false)
  | 3 => ("AdBreaksModel", "textLength", "I", false)
  | 4 => ("AdBreaksModel", "position", "I", false)
  | 5 => ("AdBreaksModel", "error", "I", false)
  | 6 => ("AdBreaksModel", "errorAt", "I", false)
  | 7 => ("AdBreaksModel", "errorOffset", "I", false)
  | 8 => ("AdBreaksModel", "data", "[I", true)
  | 9 => ("AdBreaksModel", "draft", "[I", true)
  | 10 => ("AdBreaksModel", "history", "[[I", true)
  | 11 => ("AdBreaksModel", "undoDepth", "I", false)
  | 12 => ("AdBreaksModel", "numberStart", "I", false)
  | 13 => ("AdBreaksModel", "nesting", "I", false)
  | 14 => ("AdBreaksModel", "seen", "I", false)
  | 15 => ("AdBreaksModel", "stack", "[J", true)
  | 16 => ("AdBreaksModel", "orders", "[[I", true)
  | 17 => ("AdBreaksModel", "row", "[I", true)
  | _ => ("AdBreaksModel", "moved", "[I", true)
def tyX9 : Nat → FieldType := fun k => match k with
  | 0 => .int
  | 1 => .array .int
  | 2 => .int
  | 3 => .int
  | 4 => .int
  | 5 => .int
  | 6 => .int
  | 7 => .int
  | 8 => .array .int
  | 9 => .array .int
  | 10 => .array (.array .int)
  | 11 => .int
  | 12 => .int
  | 13 => .int
  | 14 => .int
  | 15 => .array .long
  | 16 => .array (.array .int)
  | 17 => .array .int
  | _ => .array .int
abbrev wsX90 : List Cond := u_ws RX9 TX9 19
theorem nmX9 : ∀ a, a < 19 → ∀ b, b < 19 → a ≠ b → (TX9 a).2.1 ≠ (TX9 b).2.1 := by decide +kernel
theorem tyX9_ok : ∀ k, k < 19 → parseFieldDescriptor (TX9 k).2.2.1 = some (tyX9 k) := by decide +kernel
abbrev cX9_init : ByteArray := prog_11_method_1_code
def yX9_init : MethodName := ⟨RX9, "<init>", "()V"⟩
abbrev cX9_thrown : ByteArray := prog_11_method_2_code
def yX9_thrown : MethodName := ⟨RX9, "thrown", "()I"⟩
abbrev cX9_fails : ByteArray := prog_11_method_3_code
def yX9_fails : MethodName := ⟨RX9, "fails", "(ZI)Z"⟩
abbrev cX9_in : ByteArray := prog_11_method_4_code
def yX9_in : MethodName := ⟨RX9, "in", "(III)Z"⟩
abbrev cX9_min : ByteArray := prog_11_method_5_code
def yX9_min : MethodName := ⟨RX9, "min", "(II)I"⟩
abbrev cX9_copy : ByteArray := prog_11_method_6_code
def yX9_copy : MethodName := ⟨RX9, "copy", "([I[I)V"⟩
abbrev cX9_at : ByteArray := prog_11_method_7_code
def yX9_at : MethodName := ⟨RX9, "at", "(I)I"⟩
abbrev cX9_when : ByteArray := prog_11_method_8_code
def yX9_when : MethodName := ⟨RX9, "when", "([II)I"⟩
abbrev cX9_append : ByteArray := prog_11_method_9_code
def yX9_append : MethodName := ⟨RX9, "append", "(IIIII)I"⟩
abbrev cX9_byteAt : ByteArray := prog_11_method_10_code
def yX9_byteAt : MethodName := ⟨RX9, "byteAt", "(I)I"⟩
abbrev cX9_next : ByteArray := prog_11_method_11_code
def yX9_next : MethodName := ⟨RX9, "next", "()I"⟩
abbrev cX9_isGood : ByteArray := prog_11_method_12_code
def yX9_isGood : MethodName := ⟨RX9, "isGood", "()Z"⟩
abbrev cX9_report : ByteArray := prog_11_method_13_code
def yX9_report : MethodName := ⟨RX9, "report", "(II)V"⟩
abbrev cX9_isDigit : ByteArray := prog_11_method_14_code
def yX9_isDigit : MethodName := ⟨RX9, "isDigit", "(I)Z"⟩
abbrev cX9_takeWord : ByteArray := prog_11_method_15_code
def yX9_takeWord : MethodName := ⟨RX9, "takeWord", "(Ljava/lang/String;)Z"⟩
abbrev cX9_expect : ByteArray := prog_11_method_16_code
def yX9_expect : MethodName := ⟨RX9, "expect", "(I)V"⟩
abbrev cX9_number : ByteArray := prog_11_method_17_code
def yX9_number : MethodName := ⟨RX9, "number", "(II)I"⟩
abbrev cX9_emit : ByteArray := prog_11_method_18_code
def yX9_emit : MethodName := ⟨RX9, "emit", "(I)V"⟩
abbrev cX9_factor : ByteArray := prog_11_method_19_code
def yX9_factor : MethodName := ⟨RX9, "factor", "()V"⟩
abbrev cX9_term : ByteArray := prog_11_method_20_code
def yX9_term : MethodName := ⟨RX9, "term", "()V"⟩
abbrev cX9_sum : ByteArray := prog_11_method_21_code
def yX9_sum : MethodName := ⟨RX9, "sum", "()V"⟩
abbrev cX9_once : ByteArray := prog_11_method_22_code
def yX9_once : MethodName := ⟨RX9, "once", "(II)V"⟩
abbrev cX9_readBreak : ByteArray := prog_11_method_23_code
def yX9_readBreak : MethodName := ⟨RX9, "readBreak", "(I)V"⟩
abbrev cX9_readSponsor : ByteArray := prog_11_method_24_code
def yX9_readSponsor : MethodName := ⟨RX9, "readSponsor", "(I)V"⟩
abbrev cX9_readBan : ByteArray := prog_11_method_25_code
def yX9_readBan : MethodName := ⟨RX9, "readBan", "(I)V"⟩
abbrev cX9_statement : ByteArray := prog_11_method_26_code
def yX9_statement : MethodName := ⟨RX9, "statement", "()V"⟩
abbrev cX9_sortBreaks : ByteArray := prog_11_method_27_code
def yX9_sortBreaks : MethodName := ⟨RX9, "sortBreaks", "()V"⟩
abbrev cX9_load : ByteArray := prog_11_method_28_code
def yX9_load : MethodName := ⟨RX9, "load", "(I)I"⟩
abbrev cX9_errorOffset : ByteArray := prog_11_method_29_code
def yX9_errorOffset : MethodName := ⟨RX9, "errorOffset", "()I"⟩
abbrev cX9_spotAt : ByteArray := prog_11_method_30_code
def yX9_spotAt : MethodName := ⟨RX9, "spotAt", "(II)I"⟩
abbrev cX9_countOf : ByteArray := prog_11_method_31_code
def yX9_countOf : MethodName := ⟨RX9, "countOf", "(I)I"⟩
abbrev cX9_usedOf : ByteArray := prog_11_method_32_code
def yX9_usedOf : MethodName := ⟨RX9, "usedOf", "(I)I"⟩
abbrev cX9_hasSpot : ByteArray := prog_11_method_33_code
def yX9_hasSpot : MethodName := ⟨RX9, "hasSpot", "(II)Z"⟩
abbrev cX9_spotsOf : ByteArray := prog_11_method_34_code
def yX9_spotsOf : MethodName := ⟨RX9, "spotsOf", "(IIII)I"⟩
abbrev cX9_clash : ByteArray := prog_11_method_35_code
def yX9_clash : MethodName := ⟨RX9, "clash", "(II)Z"⟩
abbrev cX9_placeFor : ByteArray := prog_11_method_36_code
def yX9_placeFor : MethodName := ⟨RX9, "placeFor", "(II)I"⟩
abbrev cX9_reasonOf : ByteArray := prog_11_method_37_code
def yX9_reasonOf : MethodName := ⟨RX9, "reasonOf", "(III)I"⟩
abbrev cX9_put : ByteArray := prog_11_method_38_code
def yX9_put : MethodName := ⟨RX9, "put", "(IIIII)V"⟩
abbrev cX9_limited : ByteArray := prog_11_method_39_code
def yX9_limited : MethodName := ⟨RX9, "limited", "(J)J"⟩
abbrev cX9_operate : ByteArray := prog_11_method_40_code
def yX9_operate : MethodName := ⟨RX9, "operate", "(IJJ)J"⟩
abbrev cX9_priceOf : ByteArray := prog_11_method_41_code
def yX9_priceOf : MethodName := ⟨RX9, "priceOf", "(III)I"⟩
abbrev cX9_findCheapest : ByteArray := prog_11_method_42_code
def yX9_findCheapest : MethodName := ⟨RX9, "findCheapest", "(II)I"⟩
abbrev cX9_layOrders : ByteArray := prog_11_method_43_code
def yX9_layOrders : MethodName := ⟨RX9, "layOrders", "()V"⟩
abbrev cX9_countOrders : ByteArray := prog_11_method_44_code
def yX9_countOrders : MethodName := ⟨RX9, "countOrders", "(I)I"⟩
abbrev cX9_layFirst : ByteArray := prog_11_method_45_code
def yX9_layFirst : MethodName := ⟨RX9, "layFirst", "(I)V"⟩
abbrev cX9_noBreak : ByteArray := prog_11_method_46_code
def yX9_noBreak : MethodName := ⟨RX9, "noBreak", "(I)Z"⟩
abbrev cX9_noSponsor : ByteArray := prog_11_method_47_code
def yX9_noSponsor : MethodName := ⟨RX9, "noSponsor", "(I)Z"⟩
abbrev cX9_noSeconds : ByteArray := prog_11_method_48_code
def yX9_noSeconds : MethodName := ⟨RX9, "noSeconds", "(I)Z"⟩
abbrev cX9_noRequest : ByteArray := prog_11_method_49_code
def yX9_noRequest : MethodName := ⟨RX9, "noRequest", "(III)Z"⟩
abbrev cX9_breaks : ByteArray := prog_11_method_50_code
def yX9_breaks : MethodName := ⟨RX9, "breaks", "()I"⟩
abbrev cX9_sponsors : ByteArray := prog_11_method_51_code
def yX9_sponsors : MethodName := ⟨RX9, "sponsors", "()I"⟩
abbrev cX9_breakOf : ByteArray := prog_11_method_52_code
def yX9_breakOf : MethodName := ⟨RX9, "breakOf", "(II)I"⟩
abbrev cX9_spot : ByteArray := prog_11_method_53_code
def yX9_spot : MethodName := ⟨RX9, "spot", "(III)I"⟩
abbrev cX9_owedOf : ByteArray := prog_11_method_54_code
def yX9_owedOf : MethodName := ⟨RX9, "owedOf", "(I)I"⟩
abbrev cX9_sponsor : ByteArray := prog_11_method_55_code
def yX9_sponsor : MethodName := ⟨RX9, "sponsor", "(II)I"⟩
abbrev cX9_isBanned : ByteArray := prog_11_method_56_code
def yX9_isBanned : MethodName := ⟨RX9, "isBanned", "(II)Z"⟩
abbrev cX9_spotsOn : ByteArray := prog_11_method_57_code
def yX9_spotsOn : MethodName := ⟨RX9, "spotsOn", "(II)I"⟩
abbrev cX9_reason : ByteArray := prog_11_method_58_code
def yX9_reason : MethodName := ⟨RX9, "reason", "(III)I"⟩
abbrev cX9_price : ByteArray := prog_11_method_59_code
def yX9_price : MethodName := ⟨RX9, "price", "(III)I"⟩
abbrev cX9_cheapest : ByteArray := prog_11_method_60_code
def yX9_cheapest : MethodName := ⟨RX9, "cheapest", "(II)I"⟩
abbrev cX9_widest : ByteArray := prog_11_method_61_code
def yX9_widest : MethodName := ⟨RX9, "widest", "(II)I"⟩
abbrev cX9_income : ByteArray := prog_11_method_62_code
def yX9_income : MethodName := ⟨RX9, "income", "()I"⟩
abbrev cX9_owed : ByteArray := prog_11_method_63_code
def yX9_owed : MethodName := ⟨RX9, "owed", "()I"⟩
abbrev cX9_owedSpot : ByteArray := prog_11_method_64_code
def yX9_owedSpot : MethodName := ⟨RX9, "owedSpot", "(II)I"⟩
abbrev cX9_noSet : ByteArray := prog_11_method_65_code
def yX9_noSet : MethodName := ⟨RX9, "noSet", "(I)Z"⟩
abbrev cX9_arrangements : ByteArray := prog_11_method_66_code
def yX9_arrangements : MethodName := ⟨RX9, "arrangements", "(I)I"⟩
abbrev cX9_arranged : ByteArray := prog_11_method_67_code
def yX9_arranged : MethodName := ⟨RX9, "arranged", "(II)I"⟩
abbrev cX9_remember : ByteArray := prog_11_method_68_code
def yX9_remember : MethodName := ⟨RX9, "remember", "()V"⟩
abbrev cX9_books : ByteArray := prog_11_method_69_code
def yX9_books : MethodName := ⟨RX9, "books", "(III)I"⟩
abbrev cX9_book : ByteArray := prog_11_method_70_code
def yX9_book : MethodName := ⟨RX9, "book", "(III)I"⟩
abbrev cX9_setOf : ByteArray := prog_11_method_71_code
def yX9_setOf : MethodName := ⟨RX9, "setOf", "(I)I"⟩
abbrev cX9_reorder : ByteArray := prog_11_method_72_code
def yX9_reorder : MethodName := ⟨RX9, "reorder", "(II)I"⟩
abbrev cX9_bookAnyhow : ByteArray := prog_11_method_73_code
def yX9_bookAnyhow : MethodName := ⟨RX9, "bookAnyhow", "(III)I"⟩
abbrev cX9_remove : ByteArray := prog_11_method_74_code
def yX9_remove : MethodName := ⟨RX9, "remove", "(II)I"⟩
abbrev cX9_air : ByteArray := prog_11_method_75_code
def yX9_air : MethodName := ⟨RX9, "air", "()I"⟩
abbrev cX9_cancel : ByteArray := prog_11_method_76_code
def yX9_cancel : MethodName := ⟨RX9, "cancel", "(I)I"⟩
abbrev cX9_goodFor : ByteArray := prog_11_method_77_code
def yX9_goodFor : MethodName := ⟨RX9, "goodFor", "(I)I"⟩
abbrev cX9_makeGood : ByteArray := prog_11_method_78_code
def yX9_makeGood : MethodName := ⟨RX9, "makeGood", "()I"⟩
abbrev cX9_campaign : ByteArray := prog_11_method_79_code
def yX9_campaign : MethodName := ⟨RX9, "campaign", "(III)I"⟩
abbrev cX9_setCap : ByteArray := prog_11_method_80_code
def yX9_setCap : MethodName := ⟨RX9, "setCap", "(II)I"⟩
abbrev cX9_undo : ByteArray := prog_11_method_81_code
def yX9_undo : MethodName := ⟨RX9, "undo", "()I"⟩
abbrev cX9_checksum : ByteArray := prog_11_method_82_code
def yX9_checksum : MethodName := ⟨RX9, "checksum", "()J"⟩
def RJx145de : String := "java/io/Serializable"
def TJx145de : u_T := fun k => match k with
  | _ => ("", "", "", false)
def tyJx145de : Nat → FieldType := fun k => match k with
  | _ => .int
abbrev wsJx145de0 : List Cond := u_ws RJx145de TJx145de 0
theorem nmJx145de : ∀ a, a < 0 → ∀ b, b < 0 → a ≠ b → (TJx145de a).2.1 ≠ (TJx145de b).2.1 := by decide +kernel
theorem tyJx145de_ok : ∀ k, k < 0 → parseFieldDescriptor (TJx145de k).2.2.1 = some (tyJx145de k) := by decide +kernel
def RJx9f9b0 : String := "java/lang/CharSequence"
def TJx9f9b0 : u_T := fun k => match k with
  | _ => ("", "", "", false)
def tyJx9f9b0 : Nat → FieldType := fun k => match k with
  | _ => .int
abbrev wsJx9f9b00 : List Cond := u_ws RJx9f9b0 TJx9f9b0 0
theorem nmJx9f9b0 : ∀ a, a < 0 → ∀ b, b < 0 → a ≠ b → (TJx9f9b0 a).2.1 ≠ (TJx9f9b0 b).2.1 := by decide +kernel
theorem tyJx9f9b0_ok : ∀ k, k < 0 → parseFieldDescriptor (TJx9f9b0 k).2.2.1 = some (tyJx9f9b0 k) := by decide +kernel
def RJxb160c : String := "java/lang/Comparable"
def TJxb160c : u_T := fun k => match k with
  | _ => ("", "", "", false)
def tyJxb160c : Nat → FieldType := fun k => match k with
  | _ => .int
abbrev wsJxb160c0 : List Cond := u_ws RJxb160c TJxb160c 0
theorem nmJxb160c : ∀ a, a < 0 → ∀ b, b < 0 → a ≠ b → (TJxb160c a).2.1 ≠ (TJxb160c b).2.1 := by decide +kernel
theorem tyJxb160c_ok : ∀ k, k < 0 → parseFieldDescriptor (TJxb160c k).2.2.1 = some (tyJxb160c k) := by decide +kernel
def RJ6 : String := "java/lang/Integer"
def TJ6 : u_T := fun k => match k with
  | _ => ("", "", "", false)
def tyJ6 : Nat → FieldType := fun k => match k with
  | _ => .int
abbrev wsJ60 : List Cond := u_ws RJ6 TJ6 0
theorem nmJ6 : ∀ a, a < 0 → ∀ b, b < 0 → a ≠ b → (TJ6 a).2.1 ≠ (TJ6 b).2.1 := by decide +kernel
theorem tyJ6_ok : ∀ k, k < 0 → parseFieldDescriptor (TJ6 k).2.2.1 = some (tyJ6 k) := by decide +kernel
abbrev cJ6_bitCount_0f7a4 : ByteArray := prog_19_method_49_code
def yJ6_bitCount_0f7a4 : MethodName := ⟨RJ6, "bitCount", "(I)I"⟩
def RJ9 : String := "java/lang/Math"
def TJ9 : u_T := fun k => match k with
  | _ => ("", "", "", false)
def tyJ9 : Nat → FieldType := fun k => match k with
  | _ => .int
abbrev wsJ90 : List Cond := u_ws RJ9 TJ9 0
theorem nmJ9 : ∀ a, a < 0 → ∀ b, b < 0 → a ≠ b → (TJ9 a).2.1 ≠ (TJ9 b).2.1 := by decide +kernel
theorem tyJ9_ok : ∀ k, k < 0 → parseFieldDescriptor (TJ9 k).2.2.1 = some (tyJ9 k) := by decide +kernel
abbrev cJ9_max_7cf53 : ByteArray := prog_20_method_65_code
def yJ9_max_7cf53 : MethodName := ⟨RJ9, "max", "(II)I"⟩
abbrev cJ9_max_f86c9 : ByteArray := prog_20_method_66_code
def yJ9_max_f86c9 : MethodName := ⟨RJ9, "max", "(JJ)J"⟩
abbrev cJ9_min_7cf53 : ByteArray := prog_20_method_69_code
def yJ9_min_7cf53 : MethodName := ⟨RJ9, "min", "(II)I"⟩
abbrev cJ9_min_f86c9 : ByteArray := prog_20_method_70_code
def yJ9_min_f86c9 : MethodName := ⟨RJ9, "min", "(JJ)J"⟩
def RJ0 : String := "java/lang/String"
def TJ0 : u_T := fun k => match k with
  | _ => ("", "", "", false)
def tyJ0 : Nat → FieldType := fun k => match k with
  | _ => .int
abbrev wsJ00 : List Cond := u_ws RJ0 TJ0 0
theorem nmJ0 : ∀ a, a < 0 → ∀ b, b < 0 → a ≠ b → (TJ0 a).2.1 ≠ (TJ0 b).2.1 := by decide +kernel
theorem tyJ0_ok : ∀ k, k < 0 → parseFieldDescriptor (TJ0 k).2.2.1 = some (tyJ0 k) := by decide +kernel
abbrev cJ0_length_8abf5 : ByteArray := prog_22_method_54_code
def yJ0_length_8abf5 : MethodName := ⟨RJ0, "length", "()I"⟩
abbrev cJ0_charAt_5068e : ByteArray := prog_22_method_56_code
def yJ0_charAt_5068e : MethodName := ⟨RJ0, "charAt", "(I)C"⟩
abbrev cJ0_coder_7d493 : ByteArray := prog_22_method_152_code
def yJ0_coder_7d493 : MethodName := ⟨RJ0, "coder", "()B"⟩
abbrev cJ0_isLatin1_aae02 : ByteArray := prog_22_method_154_code
def yJ0_isLatin1_aae02 : MethodName := ⟨RJ0, "isLatin1", "()Z"⟩
abbrev cJ0_checkIndex_df160 : ByteArray := prog_22_method_155_code
def yJ0_checkIndex_df160 : MethodName := ⟨RJ0, "checkIndex", "(II)V"⟩
def RJ1 : String := "java/lang/StringLatin1"
def TJ1 : u_T := fun k => match k with
  | _ => ("", "", "", false)
def tyJ1 : Nat → FieldType := fun k => match k with
  | _ => .int
abbrev wsJ10 : List Cond := u_ws RJ1 TJ1 0
theorem nmJ1 : ∀ a, a < 0 → ∀ b, b < 0 → a ≠ b → (TJ1 a).2.1 ≠ (TJ1 b).2.1 := by decide +kernel
theorem tyJ1_ok : ∀ k, k < 0 → parseFieldDescriptor (TJ1 k).2.2.1 = some (tyJ1 k) := by decide +kernel
abbrev cJ1_charAt_3b067 : ByteArray := prog_23_method_2_code
def yJ1_charAt_3b067 : MethodName := ⟨RJ1, "charAt", "([BI)C"⟩
def RJ2 : String := "java/lang/StringUTF16"
def TJ2 : u_T := fun k => match k with
  | _ => ("", "", "", false)
def tyJ2 : Nat → FieldType := fun k => match k with
  | _ => .int
abbrev wsJ20 : List Cond := u_ws RJ2 TJ2 0
theorem nmJ2 : ∀ a, a < 0 → ∀ b, b < 0 → a ≠ b → (TJ2 a).2.1 ≠ (TJ2 b).2.1 := by decide +kernel
theorem tyJ2_ok : ∀ k, k < 0 → parseFieldDescriptor (TJ2 k).2.2.1 = some (tyJ2 k) := by decide +kernel
abbrev cJ2_getChar_3b067 : ByteArray := prog_24_method_5_code
def yJ2_getChar_3b067 : MethodName := ⟨RJ2, "getChar", "([BI)C"⟩
abbrev cJ2_length_9d52b : ByteArray := prog_24_method_6_code
def yJ2_length_9d52b : MethodName := ⟨RJ2, "length", "([B)I"⟩
abbrev cJ2_charAt_3b067 : ByteArray := prog_24_method_83_code
def yJ2_charAt_3b067 : MethodName := ⟨RJ2, "charAt", "([BI)C"⟩
abbrev cJ2_checkIndex_2214a : ByteArray := prog_24_method_91_code
def yJ2_checkIndex_2214a : MethodName := ⟨RJ2, "checkIndex", "(I[B)V"⟩
def RJxfd54e : String := "java/lang/constant/Constable"
def TJxfd54e : u_T := fun k => match k with
  | _ => ("", "", "", false)
def tyJxfd54e : Nat → FieldType := fun k => match k with
  | _ => .int
abbrev wsJxfd54e0 : List Cond := u_ws RJxfd54e TJxfd54e 0
theorem nmJxfd54e : ∀ a, a < 0 → ∀ b, b < 0 → a ≠ b → (TJxfd54e a).2.1 ≠ (TJxfd54e b).2.1 := by decide +kernel
theorem tyJxfd54e_ok : ∀ k, k < 0 → parseFieldDescriptor (TJxfd54e k).2.2.1 = some (tyJxfd54e k) := by decide +kernel
def RJx3cf43 : String := "java/lang/constant/ConstantDesc"
def TJx3cf43 : u_T := fun k => match k with
  | _ => ("", "", "", false)
def tyJx3cf43 : Nat → FieldType := fun k => match k with
  | _ => .int
abbrev wsJx3cf430 : List Cond := u_ws RJx3cf43 TJx3cf43 0
theorem nmJx3cf43 : ∀ a, a < 0 → ∀ b, b < 0 → a ≠ b → (TJx3cf43 a).2.1 ≠ (TJx3cf43 b).2.1 := by decide +kernel
theorem tyJx3cf43_ok : ∀ k, k < 0 → parseFieldDescriptor (TJx3cf43 k).2.2.1 = some (tyJx3cf43 k) := by decide +kernel
def RJ3 : String := "jdk/internal/util/Preconditions"
def TJ3 : u_T := fun k => match k with
  | _ => ("", "", "", false)
def tyJ3 : Nat → FieldType := fun k => match k with
  | _ => .int
abbrev wsJ30 : List Cond := u_ws RJ3 TJ3 0
theorem nmJ3 : ∀ a, a < 0 → ∀ b, b < 0 → a ≠ b → (TJ3 a).2.1 ≠ (TJ3 b).2.1 := by decide +kernel
theorem tyJ3_ok : ∀ k, k < 0 → parseFieldDescriptor (TJ3 k).2.2.1 = some (tyJ3 k) := by decide +kernel
abbrev cJ3_checkIndex_8e157 : ByteArray := prog_29_method_11_code
def yJ3_checkIndex_8e157 : MethodName := ⟨RJ3, "checkIndex", "(IILjava/util/function/BiFunction;)I"⟩
def RL : String := "AdBreaksLaw"
abbrev cL_load : ByteArray := method_3_code
def yL_load : MethodName := ⟨RL, "load", "(LAdBreaks;I[J)I"⟩
abbrev cL_breakOf : ByteArray := method_4_code
def yL_breakOf : MethodName := ⟨RL, "breakOf", "(LAdBreaks;II[J)I"⟩
abbrev cL_spot : ByteArray := method_5_code
def yL_spot : MethodName := ⟨RL, "spot", "(LAdBreaks;III[J)I"⟩
abbrev cL_sponsor : ByteArray := method_6_code
def yL_sponsor : MethodName := ⟨RL, "sponsor", "(LAdBreaks;II[J)I"⟩
abbrev cL_isBanned : ByteArray := method_7_code
def yL_isBanned : MethodName := ⟨RL, "isBanned", "(LAdBreaks;II[J)I"⟩
abbrev cL_spotsOn : ByteArray := method_8_code
def yL_spotsOn : MethodName := ⟨RL, "spotsOn", "(LAdBreaks;II[J)I"⟩
abbrev cL_reason : ByteArray := method_9_code
def yL_reason : MethodName := ⟨RL, "reason", "(LAdBreaks;III[J)I"⟩
abbrev cL_price : ByteArray := method_10_code
def yL_price : MethodName := ⟨RL, "price", "(LAdBreaks;III[J)I"⟩
abbrev cL_cheapest : ByteArray := method_11_code
def yL_cheapest : MethodName := ⟨RL, "cheapest", "(LAdBreaks;II[J)I"⟩
abbrev cL_widest : ByteArray := method_12_code
def yL_widest : MethodName := ⟨RL, "widest", "(LAdBreaks;II[J)I"⟩
abbrev cL_owedSpot : ByteArray := method_13_code
def yL_owedSpot : MethodName := ⟨RL, "owedSpot", "(LAdBreaks;II[J)I"⟩
abbrev cL_arrangements : ByteArray := method_14_code
def yL_arrangements : MethodName := ⟨RL, "arrangements", "(LAdBreaks;I[J)I"⟩
abbrev cL_arranged : ByteArray := method_15_code
def yL_arranged : MethodName := ⟨RL, "arranged", "(LAdBreaks;II[J)I"⟩
abbrev cL_book : ByteArray := method_16_code
def yL_book : MethodName := ⟨RL, "book", "(LAdBreaks;III[J)I"⟩
abbrev cL_bookAnyhow : ByteArray := method_17_code
def yL_bookAnyhow : MethodName := ⟨RL, "bookAnyhow", "(LAdBreaks;III[J)I"⟩
abbrev cL_remove : ByteArray := method_18_code
def yL_remove : MethodName := ⟨RL, "remove", "(LAdBreaks;II[J)I"⟩
abbrev cL_air : ByteArray := method_19_code
def yL_air : MethodName := ⟨RL, "air", "(LAdBreaks;[J)I"⟩
abbrev cL_cancel : ByteArray := method_20_code
def yL_cancel : MethodName := ⟨RL, "cancel", "(LAdBreaks;I[J)I"⟩
abbrev cL_campaign : ByteArray := method_21_code
def yL_campaign : MethodName := ⟨RL, "campaign", "(LAdBreaks;III[J)I"⟩
abbrev cL_setCap : ByteArray := method_22_code
def yL_setCap : MethodName := ⟨RL, "setCap", "(LAdBreaks;II[J)I"⟩
abbrev cL_law : ByteArray := code
def yL_law : MethodName := ⟨RL, "law", "([I)Z"⟩
theorem inX0 : ∀ w ∈ wsX00, w ∈ lw_tbl := by decide +kernel
theorem inX1 : ∀ w ∈ wsX10, w ∈ lw_tbl := by decide +kernel
theorem inX2 : ∀ w ∈ wsX20, w ∈ lw_tbl := by decide +kernel
theorem inX3 : ∀ w ∈ wsX30, w ∈ lw_tbl := by decide +kernel
theorem inX4 : ∀ w ∈ wsX40, w ∈ lw_tbl := by decide +kernel
theorem inX5 : ∀ w ∈ wsX50, w ∈ lw_tbl := by decide +kernel
theorem inX6 : ∀ w ∈ wsX60, w ∈ lw_tbl := by decide +kernel
theorem inX7 : ∀ w ∈ wsX70, w ∈ lw_tbl := by decide +kernel
theorem inX8 : ∀ w ∈ wsX80, w ∈ lw_tbl := by decide +kernel
theorem inX9 : ∀ w ∈ wsX90, w ∈ lw_tbl := by decide +kernel
theorem inJx145de : ∀ w ∈ wsJx145de0, w ∈ lw_tbl := by decide +kernel
theorem inJx9f9b0 : ∀ w ∈ wsJx9f9b00, w ∈ lw_tbl := by decide +kernel
theorem inJxb160c : ∀ w ∈ wsJxb160c0, w ∈ lw_tbl := by decide +kernel
theorem inJ6 : ∀ w ∈ wsJ60, w ∈ lw_tbl := by decide +kernel
theorem inJ9 : ∀ w ∈ wsJ90, w ∈ lw_tbl := by decide +kernel
theorem inJ0 : ∀ w ∈ wsJ00, w ∈ lw_tbl := by decide +kernel
theorem inJ1 : ∀ w ∈ wsJ10, w ∈ lw_tbl := by decide +kernel
theorem inJ2 : ∀ w ∈ wsJ20, w ∈ lw_tbl := by decide +kernel
theorem inJxfd54e : ∀ w ∈ wsJxfd54e0, w ∈ lw_tbl := by decide +kernel
theorem inJx3cf43 : ∀ w ∈ wsJx3cf430, w ∈ lw_tbl := by decide +kernel
theorem inJ3 : ∀ w ∈ wsJ30, w ∈ lw_tbl := by decide +kernel
theorem dJ6_bitCount_0f7a4_0 : decode cJ6_bitCount_0f7a4 0 = .ok (.iload_n 0, 1) := by decide +kernel
theorem dJ6_bitCount_0f7a4_1 : decode cJ6_bitCount_0f7a4 1 = .ok (.iload_n 0, 1) := by decide +kernel
theorem dJ6_bitCount_0f7a4_2 : decode cJ6_bitCount_0f7a4 2 = .ok (.iconst 1, 1) := by decide +kernel
theorem dJ6_bitCount_0f7a4_3 : decode cJ6_bitCount_0f7a4 3 = .ok (.iushr, 1) := by decide +kernel
theorem dJ6_bitCount_0f7a4_4 : decode cJ6_bitCount_0f7a4 4 = .ok (.ldc_w 265, 3) := by decide +kernel
theorem dJ6_bitCount_0f7a4_7 : decode cJ6_bitCount_0f7a4 7 = .ok (.iand, 1) := by decide +kernel
theorem dJ6_bitCount_0f7a4_8 : decode cJ6_bitCount_0f7a4 8 = .ok (.isub, 1) := by decide +kernel
theorem dJ6_bitCount_0f7a4_9 : decode cJ6_bitCount_0f7a4 9 = .ok (.istore_n 0, 1) := by decide +kernel
theorem dJ6_bitCount_0f7a4_10 : decode cJ6_bitCount_0f7a4 10 = .ok (.iload_n 0, 1) := by decide +kernel
theorem dJ6_bitCount_0f7a4_11 : decode cJ6_bitCount_0f7a4 11 = .ok (.ldc_w 266, 3) := by decide +kernel
theorem dJ6_bitCount_0f7a4_14 : decode cJ6_bitCount_0f7a4 14 = .ok (.iand, 1) := by decide +kernel
theorem dJ6_bitCount_0f7a4_15 : decode cJ6_bitCount_0f7a4 15 = .ok (.iload_n 0, 1) := by decide +kernel
theorem dJ6_bitCount_0f7a4_16 : decode cJ6_bitCount_0f7a4 16 = .ok (.iconst 2, 1) := by decide +kernel
theorem dJ6_bitCount_0f7a4_17 : decode cJ6_bitCount_0f7a4 17 = .ok (.iushr, 1) := by decide +kernel
theorem dJ6_bitCount_0f7a4_18 : decode cJ6_bitCount_0f7a4 18 = .ok (.ldc_w 266, 3) := by decide +kernel
theorem dJ6_bitCount_0f7a4_21 : decode cJ6_bitCount_0f7a4 21 = .ok (.iand, 1) := by decide +kernel
theorem dJ6_bitCount_0f7a4_22 : decode cJ6_bitCount_0f7a4 22 = .ok (.iadd, 1) := by decide +kernel
theorem dJ6_bitCount_0f7a4_23 : decode cJ6_bitCount_0f7a4 23 = .ok (.istore_n 0, 1) := by decide +kernel
theorem dJ6_bitCount_0f7a4_24 : decode cJ6_bitCount_0f7a4 24 = .ok (.iload_n 0, 1) := by decide +kernel
theorem dJ6_bitCount_0f7a4_25 : decode cJ6_bitCount_0f7a4 25 = .ok (.iload_n 0, 1) := by decide +kernel
theorem dJ6_bitCount_0f7a4_26 : decode cJ6_bitCount_0f7a4 26 = .ok (.iconst 4, 1) := by decide +kernel
theorem dJ6_bitCount_0f7a4_27 : decode cJ6_bitCount_0f7a4 27 = .ok (.iushr, 1) := by decide +kernel
theorem dJ6_bitCount_0f7a4_28 : decode cJ6_bitCount_0f7a4 28 = .ok (.iadd, 1) := by decide +kernel
theorem dJ6_bitCount_0f7a4_29 : decode cJ6_bitCount_0f7a4 29 = .ok (.ldc_w 267, 3) := by decide +kernel
theorem dJ6_bitCount_0f7a4_32 : decode cJ6_bitCount_0f7a4 32 = .ok (.iand, 1) := by decide +kernel
theorem dJ6_bitCount_0f7a4_33 : decode cJ6_bitCount_0f7a4 33 = .ok (.istore_n 0, 1) := by decide +kernel
theorem dJ6_bitCount_0f7a4_34 : decode cJ6_bitCount_0f7a4 34 = .ok (.iload_n 0, 1) := by decide +kernel
theorem dJ6_bitCount_0f7a4_35 : decode cJ6_bitCount_0f7a4 35 = .ok (.iload_n 0, 1) := by decide +kernel
theorem dJ6_bitCount_0f7a4_36 : decode cJ6_bitCount_0f7a4 36 = .ok (.bipush 8, 2) := by decide +kernel
theorem dJ6_bitCount_0f7a4_38 : decode cJ6_bitCount_0f7a4 38 = .ok (.iushr, 1) := by decide +kernel
theorem dJ6_bitCount_0f7a4_39 : decode cJ6_bitCount_0f7a4 39 = .ok (.iadd, 1) := by decide +kernel
theorem dJ6_bitCount_0f7a4_40 : decode cJ6_bitCount_0f7a4 40 = .ok (.istore_n 0, 1) := by decide +kernel
theorem dJ6_bitCount_0f7a4_41 : decode cJ6_bitCount_0f7a4 41 = .ok (.iload_n 0, 1) := by decide +kernel
theorem dJ6_bitCount_0f7a4_42 : decode cJ6_bitCount_0f7a4 42 = .ok (.iload_n 0, 1) := by decide +kernel
theorem dJ6_bitCount_0f7a4_43 : decode cJ6_bitCount_0f7a4 43 = .ok (.bipush 16, 2) := by decide +kernel
theorem dJ6_bitCount_0f7a4_45 : decode cJ6_bitCount_0f7a4 45 = .ok (.iushr, 1) := by decide +kernel
theorem dJ6_bitCount_0f7a4_46 : decode cJ6_bitCount_0f7a4 46 = .ok (.iadd, 1) := by decide +kernel
theorem dJ6_bitCount_0f7a4_47 : decode cJ6_bitCount_0f7a4 47 = .ok (.istore_n 0, 1) := by decide +kernel
theorem dJ6_bitCount_0f7a4_48 : decode cJ6_bitCount_0f7a4 48 = .ok (.iload_n 0, 1) := by decide +kernel
theorem dJ6_bitCount_0f7a4_49 : decode cJ6_bitCount_0f7a4 49 = .ok (.bipush 63, 2) := by decide +kernel
theorem dJ6_bitCount_0f7a4_51 : decode cJ6_bitCount_0f7a4 51 = .ok (.iand, 1) := by decide +kernel
theorem dJ6_bitCount_0f7a4_52 : decode cJ6_bitCount_0f7a4 52 = .ok (.ireturn, 1) := by decide +kernel
theorem dJ9_max_7cf53_0 : decode cJ9_max_7cf53 0 = .ok (.iload_n 0, 1) := by decide +kernel
theorem dJ9_max_7cf53_1 : decode cJ9_max_7cf53 1 = .ok (.iload_n 1, 1) := by decide +kernel
theorem dJ9_max_7cf53_2 : decode cJ9_max_7cf53 2 = .ok (.if_icmp .lt 7, 3) := by decide +kernel
theorem dJ9_max_7cf53_5 : decode cJ9_max_7cf53 5 = .ok (.iload_n 0, 1) := by decide +kernel
theorem dJ9_max_7cf53_6 : decode cJ9_max_7cf53 6 = .ok (.goto 4, 3) := by decide +kernel
theorem dJ9_max_7cf53_9 : decode cJ9_max_7cf53 9 = .ok (.iload_n 1, 1) := by decide +kernel
theorem dJ9_max_7cf53_10 : decode cJ9_max_7cf53 10 = .ok (.ireturn, 1) := by decide +kernel
theorem dJ9_max_f86c9_0 : decode cJ9_max_f86c9 0 = .ok (.lload_n 0, 1) := by decide +kernel
theorem dJ9_max_f86c9_1 : decode cJ9_max_f86c9 1 = .ok (.lload_n 2, 1) := by decide +kernel
theorem dJ9_max_f86c9_2 : decode cJ9_max_f86c9 2 = .ok (.lcmp, 1) := by decide +kernel
theorem dJ9_max_f86c9_3 : decode cJ9_max_f86c9 3 = .ok (.ifCond .lt 7, 3) := by decide +kernel
theorem dJ9_max_f86c9_6 : decode cJ9_max_f86c9 6 = .ok (.lload_n 0, 1) := by decide +kernel
theorem dJ9_max_f86c9_7 : decode cJ9_max_f86c9 7 = .ok (.goto 4, 3) := by decide +kernel
theorem dJ9_max_f86c9_10 : decode cJ9_max_f86c9 10 = .ok (.lload_n 2, 1) := by decide +kernel
theorem dJ9_max_f86c9_11 : decode cJ9_max_f86c9 11 = .ok (.lreturn, 1) := by decide +kernel
theorem dJ9_min_7cf53_0 : decode cJ9_min_7cf53 0 = .ok (.iload_n 0, 1) := by decide +kernel
theorem dJ9_min_7cf53_1 : decode cJ9_min_7cf53 1 = .ok (.iload_n 1, 1) := by decide +kernel
theorem dJ9_min_7cf53_2 : decode cJ9_min_7cf53 2 = .ok (.if_icmp .gt 7, 3) := by decide +kernel
theorem dJ9_min_7cf53_5 : decode cJ9_min_7cf53 5 = .ok (.iload_n 0, 1) := by decide +kernel
theorem dJ9_min_7cf53_6 : decode cJ9_min_7cf53 6 = .ok (.goto 4, 3) := by decide +kernel
theorem dJ9_min_7cf53_9 : decode cJ9_min_7cf53 9 = .ok (.iload_n 1, 1) := by decide +kernel
theorem dJ9_min_7cf53_10 : decode cJ9_min_7cf53 10 = .ok (.ireturn, 1) := by decide +kernel
theorem dJ9_min_f86c9_0 : decode cJ9_min_f86c9 0 = .ok (.lload_n 0, 1) := by decide +kernel
theorem dJ9_min_f86c9_1 : decode cJ9_min_f86c9 1 = .ok (.lload_n 2, 1) := by decide +kernel
theorem dJ9_min_f86c9_2 : decode cJ9_min_f86c9 2 = .ok (.lcmp, 1) := by decide +kernel
theorem dJ9_min_f86c9_3 : decode cJ9_min_f86c9 3 = .ok (.ifCond .gt 7, 3) := by decide +kernel
theorem dJ9_min_f86c9_6 : decode cJ9_min_f86c9 6 = .ok (.lload_n 0, 1) := by decide +kernel
theorem dJ9_min_f86c9_7 : decode cJ9_min_f86c9 7 = .ok (.goto 4, 3) := by decide +kernel
theorem dJ9_min_f86c9_10 : decode cJ9_min_f86c9 10 = .ok (.lload_n 2, 1) := by decide +kernel
theorem dJ9_min_f86c9_11 : decode cJ9_min_f86c9 11 = .ok (.lreturn, 1) := by decide +kernel
theorem dJ0_length_8abf5_0 : decode cJ0_length_8abf5 0 = .ok (.aload_n 0, 1) := by decide +kernel
theorem dJ0_length_8abf5_1 : decode cJ0_length_8abf5 1 = .ok (.getfield 9, 3) := by decide +kernel
theorem dJ0_length_8abf5_4 : decode cJ0_length_8abf5 4 = .ok (.arraylength, 1) := by decide +kernel
theorem dJ0_length_8abf5_5 : decode cJ0_length_8abf5 5 = .ok (.aload_n 0, 1) := by decide +kernel
theorem dJ0_length_8abf5_6 : decode cJ0_length_8abf5 6 = .ok (.invokevirtual 335, 3) := by decide +kernel
theorem dJ0_length_8abf5_9 : decode cJ0_length_8abf5 9 = .ok (.ishr, 1) := by decide +kernel
theorem dJ0_length_8abf5_10 : decode cJ0_length_8abf5 10 = .ok (.ireturn, 1) := by decide +kernel
theorem dJ0_charAt_5068e_0 : decode cJ0_charAt_5068e 0 = .ok (.aload_n 0, 1) := by decide +kernel
theorem dJ0_charAt_5068e_1 : decode cJ0_charAt_5068e 1 = .ok (.invokevirtual 492, 3) := by decide +kernel
theorem dJ0_charAt_5068e_4 : decode cJ0_charAt_5068e 4 = .ok (.ifCond .eq 12, 3) := by decide +kernel
theorem dJ0_charAt_5068e_7 : decode cJ0_charAt_5068e 7 = .ok (.aload_n 0, 1) := by decide +kernel
theorem dJ0_charAt_5068e_8 : decode cJ0_charAt_5068e 8 = .ok (.getfield 9, 3) := by decide +kernel
theorem dJ0_charAt_5068e_11 : decode cJ0_charAt_5068e 11 = .ok (.iload_n 1, 1) := by decide +kernel
theorem dJ0_charAt_5068e_12 : decode cJ0_charAt_5068e 12 = .ok (.invokestatic 495, 3) := by decide +kernel
theorem dJ0_charAt_5068e_15 : decode cJ0_charAt_5068e 15 = .ok (.ireturn, 1) := by decide +kernel
theorem dJ0_charAt_5068e_16 : decode cJ0_charAt_5068e 16 = .ok (.aload_n 0, 1) := by decide +kernel
theorem dJ0_charAt_5068e_17 : decode cJ0_charAt_5068e 17 = .ok (.getfield 9, 3) := by decide +kernel
theorem dJ0_charAt_5068e_20 : decode cJ0_charAt_5068e 20 = .ok (.iload_n 1, 1) := by decide +kernel
theorem dJ0_charAt_5068e_21 : decode cJ0_charAt_5068e 21 = .ok (.invokestatic 498, 3) := by decide +kernel
theorem dJ0_charAt_5068e_24 : decode cJ0_charAt_5068e 24 = .ok (.ireturn, 1) := by decide +kernel
theorem dJ0_coder_7d493_0 : decode cJ0_coder_7d493 0 = .ok (.getstatic 38, 3) := by decide +kernel
theorem dJ0_coder_7d493_3 : decode cJ0_coder_7d493 3 = .ok (.ifCond .eq 10, 3) := by decide +kernel
theorem dJ0_coder_7d493_6 : decode cJ0_coder_7d493 6 = .ok (.aload_n 0, 1) := by decide +kernel
theorem dJ0_coder_7d493_7 : decode cJ0_coder_7d493 7 = .ok (.getfield 15, 3) := by decide +kernel
theorem dJ0_coder_7d493_10 : decode cJ0_coder_7d493 10 = .ok (.goto 4, 3) := by decide +kernel
theorem dJ0_coder_7d493_13 : decode cJ0_coder_7d493 13 = .ok (.iconst 1, 1) := by decide +kernel
theorem dJ0_coder_7d493_14 : decode cJ0_coder_7d493 14 = .ok (.ireturn, 1) := by decide +kernel
theorem dJ0_isLatin1_aae02_0 : decode cJ0_isLatin1_aae02 0 = .ok (.getstatic 38, 3) := by decide +kernel
theorem dJ0_isLatin1_aae02_3 : decode cJ0_isLatin1_aae02 3 = .ok (.ifCond .eq 14, 3) := by decide +kernel
theorem dJ0_isLatin1_aae02_6 : decode cJ0_isLatin1_aae02 6 = .ok (.aload_n 0, 1) := by decide +kernel
theorem dJ0_isLatin1_aae02_7 : decode cJ0_isLatin1_aae02 7 = .ok (.getfield 15, 3) := by decide +kernel
theorem dJ0_isLatin1_aae02_10 : decode cJ0_isLatin1_aae02 10 = .ok (.ifCond .ne 7, 3) := by decide +kernel
theorem dJ0_isLatin1_aae02_13 : decode cJ0_isLatin1_aae02 13 = .ok (.iconst 1, 1) := by decide +kernel
theorem dJ0_isLatin1_aae02_14 : decode cJ0_isLatin1_aae02 14 = .ok (.goto 4, 3) := by decide +kernel
theorem dJ0_isLatin1_aae02_17 : decode cJ0_isLatin1_aae02 17 = .ok (.iconst 0, 1) := by decide +kernel
theorem dJ0_isLatin1_aae02_18 : decode cJ0_isLatin1_aae02 18 = .ok (.ireturn, 1) := by decide +kernel
theorem dJ0_checkIndex_df160_0 : decode cJ0_checkIndex_df160 0 = .ok (.iload_n 0, 1) := by decide +kernel
theorem dJ0_checkIndex_df160_1 : decode cJ0_checkIndex_df160 1 = .ok (.iload_n 1, 1) := by decide +kernel
theorem dJ0_checkIndex_df160_2 : decode cJ0_checkIndex_df160 2 = .ok (.getstatic 1053, 3) := by decide +kernel
theorem dJ0_checkIndex_df160_5 : decode cJ0_checkIndex_df160 5 = .ok (.invokestatic 1059, 3) := by decide +kernel
theorem dJ0_checkIndex_df160_8 : decode cJ0_checkIndex_df160 8 = .ok (.pop, 1) := by decide +kernel
theorem dJ0_checkIndex_df160_9 : decode cJ0_checkIndex_df160 9 = .ok (.return_, 1) := by decide +kernel
theorem dJ1_charAt_3b067_0 : decode cJ1_charAt_3b067 0 = .ok (.iload_n 1, 1) := by decide +kernel
theorem dJ1_charAt_3b067_1 : decode cJ1_charAt_3b067 1 = .ok (.aload_n 0, 1) := by decide +kernel
theorem dJ1_charAt_3b067_2 : decode cJ1_charAt_3b067 2 = .ok (.arraylength, 1) := by decide +kernel
theorem dJ1_charAt_3b067_3 : decode cJ1_charAt_3b067 3 = .ok (.invokestatic 9, 3) := by decide +kernel
theorem dJ1_charAt_3b067_6 : decode cJ1_charAt_3b067 6 = .ok (.aload_n 0, 1) := by decide +kernel
theorem dJ1_charAt_3b067_7 : decode cJ1_charAt_3b067 7 = .ok (.iload_n 1, 1) := by decide +kernel
theorem dJ1_charAt_3b067_8 : decode cJ1_charAt_3b067 8 = .ok (.baload, 1) := by decide +kernel
theorem dJ1_charAt_3b067_9 : decode cJ1_charAt_3b067 9 = .ok (.sipush 255, 3) := by decide +kernel
theorem dJ1_charAt_3b067_12 : decode cJ1_charAt_3b067 12 = .ok (.iand, 1) := by decide +kernel
theorem dJ1_charAt_3b067_13 : decode cJ1_charAt_3b067 13 = .ok (.i2c, 1) := by decide +kernel
theorem dJ1_charAt_3b067_14 : decode cJ1_charAt_3b067 14 = .ok (.ireturn, 1) := by decide +kernel
theorem dJ2_getChar_3b067_0 : decode cJ2_getChar_3b067 0 = .ok (.getstatic 44, 3) := by decide +kernel
theorem dJ2_getChar_3b067_3 : decode cJ2_getChar_3b067 3 = .ok (.ifCond .ne 25, 3) := by decide +kernel
theorem dJ2_getChar_3b067_6 : decode cJ2_getChar_3b067 6 = .ok (.iload_n 1, 1) := by decide +kernel
theorem dJ2_getChar_3b067_7 : decode cJ2_getChar_3b067 7 = .ok (.ifCond .lt 11, 3) := by decide +kernel
theorem dJ2_getChar_3b067_10 : decode cJ2_getChar_3b067 10 = .ok (.iload_n 1, 1) := by decide +kernel
theorem dJ2_getChar_3b067_11 : decode cJ2_getChar_3b067 11 = .ok (.aload_n 0, 1) := by decide +kernel
theorem dJ2_getChar_3b067_12 : decode cJ2_getChar_3b067 12 = .ok (.invokestatic 48, 3) := by decide +kernel
theorem dJ2_getChar_3b067_15 : decode cJ2_getChar_3b067 15 = .ok (.if_icmp .lt 13, 3) := by decide +kernel
theorem dJ2_getChar_3b067_18 : decode cJ2_getChar_3b067 18 = .ok (.new 52, 3) := by decide +kernel
theorem dJ2_getChar_3b067_21 : decode cJ2_getChar_3b067 21 = .ok (.dup, 1) := by decide +kernel
theorem dJ2_getChar_3b067_22 : decode cJ2_getChar_3b067 22 = .ok (.ldc 54, 2) := by decide +kernel
theorem dJ2_getChar_3b067_24 : decode cJ2_getChar_3b067 24 = .ok (.invokespecial 56, 3) := by decide +kernel
theorem dJ2_getChar_3b067_27 : decode cJ2_getChar_3b067 27 = .ok (.athrow, 1) := by decide +kernel
theorem dJ2_getChar_3b067_28 : decode cJ2_getChar_3b067 28 = .ok (.iload_n 1, 1) := by decide +kernel
theorem dJ2_getChar_3b067_29 : decode cJ2_getChar_3b067 29 = .ok (.iconst 1, 1) := by decide +kernel
theorem dJ2_getChar_3b067_30 : decode cJ2_getChar_3b067 30 = .ok (.ishl, 1) := by decide +kernel
theorem dJ2_getChar_3b067_31 : decode cJ2_getChar_3b067 31 = .ok (.istore_n 1, 1) := by decide +kernel
theorem dJ2_getChar_3b067_32 : decode cJ2_getChar_3b067 32 = .ok (.aload_n 0, 1) := by decide +kernel
theorem dJ2_getChar_3b067_33 : decode cJ2_getChar_3b067 33 = .ok (.iload_n 1, 1) := by decide +kernel
theorem dJ2_getChar_3b067_34 : decode cJ2_getChar_3b067 34 = .ok (.iinc 1 1, 3) := by decide +kernel
theorem dJ2_getChar_3b067_37 : decode cJ2_getChar_3b067 37 = .ok (.baload, 1) := by decide +kernel
theorem dJ2_getChar_3b067_38 : decode cJ2_getChar_3b067 38 = .ok (.sipush 255, 3) := by decide +kernel
theorem dJ2_getChar_3b067_41 : decode cJ2_getChar_3b067 41 = .ok (.iand, 1) := by decide +kernel
theorem dJ2_getChar_3b067_42 : decode cJ2_getChar_3b067 42 = .ok (.getstatic 59, 3) := by decide +kernel
theorem dJ2_getChar_3b067_45 : decode cJ2_getChar_3b067 45 = .ok (.ishl, 1) := by decide +kernel
theorem dJ2_getChar_3b067_46 : decode cJ2_getChar_3b067 46 = .ok (.aload_n 0, 1) := by decide +kernel
theorem dJ2_getChar_3b067_47 : decode cJ2_getChar_3b067 47 = .ok (.iload_n 1, 1) := by decide +kernel
theorem dJ2_getChar_3b067_48 : decode cJ2_getChar_3b067 48 = .ok (.baload, 1) := by decide +kernel
theorem dJ2_getChar_3b067_49 : decode cJ2_getChar_3b067 49 = .ok (.sipush 255, 3) := by decide +kernel
theorem dJ2_getChar_3b067_52 : decode cJ2_getChar_3b067 52 = .ok (.iand, 1) := by decide +kernel
theorem dJ2_getChar_3b067_53 : decode cJ2_getChar_3b067 53 = .ok (.getstatic 63, 3) := by decide +kernel
theorem dJ2_getChar_3b067_56 : decode cJ2_getChar_3b067 56 = .ok (.ishl, 1) := by decide +kernel
theorem dJ2_getChar_3b067_57 : decode cJ2_getChar_3b067 57 = .ok (.ior, 1) := by decide +kernel
theorem dJ2_getChar_3b067_58 : decode cJ2_getChar_3b067 58 = .ok (.i2c, 1) := by decide +kernel
theorem dJ2_getChar_3b067_59 : decode cJ2_getChar_3b067 59 = .ok (.ireturn, 1) := by decide +kernel
theorem dJ2_length_9d52b_0 : decode cJ2_length_9d52b 0 = .ok (.aload_n 0, 1) := by decide +kernel
theorem dJ2_length_9d52b_1 : decode cJ2_length_9d52b 1 = .ok (.arraylength, 1) := by decide +kernel
theorem dJ2_length_9d52b_2 : decode cJ2_length_9d52b 2 = .ok (.iconst 1, 1) := by decide +kernel
theorem dJ2_length_9d52b_3 : decode cJ2_length_9d52b 3 = .ok (.ishr, 1) := by decide +kernel
theorem dJ2_length_9d52b_4 : decode cJ2_length_9d52b 4 = .ok (.ireturn, 1) := by decide +kernel
theorem dJ2_charAt_3b067_0 : decode cJ2_charAt_3b067 0 = .ok (.iload_n 1, 1) := by decide +kernel
theorem dJ2_charAt_3b067_1 : decode cJ2_charAt_3b067 1 = .ok (.aload_n 0, 1) := by decide +kernel
theorem dJ2_charAt_3b067_2 : decode cJ2_charAt_3b067 2 = .ok (.invokestatic 67, 3) := by decide +kernel
theorem dJ2_charAt_3b067_5 : decode cJ2_charAt_3b067 5 = .ok (.aload_n 0, 1) := by decide +kernel
theorem dJ2_charAt_3b067_6 : decode cJ2_charAt_3b067 6 = .ok (.iload_n 1, 1) := by decide +kernel
theorem dJ2_charAt_3b067_7 : decode cJ2_charAt_3b067 7 = .ok (.invokestatic 71, 3) := by decide +kernel
theorem dJ2_charAt_3b067_10 : decode cJ2_charAt_3b067 10 = .ok (.ireturn, 1) := by decide +kernel
theorem dJ2_checkIndex_2214a_0 : decode cJ2_checkIndex_2214a 0 = .ok (.iload_n 0, 1) := by decide +kernel
theorem dJ2_checkIndex_2214a_1 : decode cJ2_checkIndex_2214a 1 = .ok (.aload_n 1, 1) := by decide +kernel
theorem dJ2_checkIndex_2214a_2 : decode cJ2_checkIndex_2214a 2 = .ok (.invokestatic 48, 3) := by decide +kernel
theorem dJ2_checkIndex_2214a_5 : decode cJ2_checkIndex_2214a 5 = .ok (.invokestatic 414, 3) := by decide +kernel
theorem dJ2_checkIndex_2214a_8 : decode cJ2_checkIndex_2214a 8 = .ok (.return_, 1) := by decide +kernel
theorem dJ3_checkIndex_8e157_0 : decode cJ3_checkIndex_8e157 0 = .ok (.iload_n 0, 1) := by decide +kernel
theorem dJ3_checkIndex_8e157_1 : decode cJ3_checkIndex_8e157 1 = .ok (.ifCond .lt 8, 3) := by decide +kernel
theorem dJ3_checkIndex_8e157_4 : decode cJ3_checkIndex_8e157 4 = .ok (.iload_n 0, 1) := by decide +kernel
theorem dJ3_checkIndex_8e157_5 : decode cJ3_checkIndex_8e157 5 = .ok (.iload_n 1, 1) := by decide +kernel
theorem dJ3_checkIndex_8e157_6 : decode cJ3_checkIndex_8e157 6 = .ok (.if_icmp .lt 10, 3) := by decide +kernel
theorem dJ3_checkIndex_8e157_9 : decode cJ3_checkIndex_8e157 9 = .ok (.aload_n 2, 1) := by decide +kernel
theorem dJ3_checkIndex_8e157_10 : decode cJ3_checkIndex_8e157 10 = .ok (.iload_n 0, 1) := by decide +kernel
theorem dJ3_checkIndex_8e157_11 : decode cJ3_checkIndex_8e157 11 = .ok (.iload_n 1, 1) := by decide +kernel
theorem dJ3_checkIndex_8e157_12 : decode cJ3_checkIndex_8e157 12 = .ok (.invokestatic 95, 3) := by decide +kernel
theorem dJ3_checkIndex_8e157_15 : decode cJ3_checkIndex_8e157 15 = .ok (.athrow, 1) := by decide +kernel
theorem dJ3_checkIndex_8e157_16 : decode cJ3_checkIndex_8e157 16 = .ok (.iload_n 0, 1) := by decide +kernel
theorem dJ3_checkIndex_8e157_17 : decode cJ3_checkIndex_8e157 17 = .ok (.ireturn, 1) := by decide +kernel
abbrev vwCl : List vw_C := [(RX0, TX0, 6), (RX1, TX1, 3), (RX2, TX2, 4), (RX3, TX3, 3), (RX4, TX4, 9), (RX5, TX5, 6), (RX6, TX6, 5), (RX7, TX7, 6), (RX8, TX8, 7), (RX9, TX9, 19)]
end
section
theorem dX0_init_0 : decode cX0_init 0 = .ok (.aload_n 0, 1) := by decide +kernel
theorem dX0_init_1 : decode cX0_init 1 = .ok (.invokespecial 3, 3) := by decide +kernel
theorem dX0_init_4 : decode cX0_init 4 = .ok (.aload_n 0, 1) := by decide +kernel
theorem dX0_init_5 : decode cX0_init 5 = .ok (.new 9, 3) := by decide +kernel
theorem dX0_init_8 : decode cX0_init 8 = .ok (.dup, 1) := by decide +kernel
theorem dX0_init_9 : decode cX0_init 9 = .ok (.bipush 8, 2) := by decide +kernel
theorem dX0_init_11 : decode cX0_init 11 = .ok (.invokespecial 11, 3) := by decide +kernel
theorem dX0_init_14 : decode cX0_init 14 = .ok (.putfield 14, 3) := by decide +kernel
theorem dX0_init_17 : decode cX0_init 17 = .ok (.return_, 1) := by decide +kernel
theorem dX0_setUp_0 : decode cX0_setUp 0 = .ok (.aload_n 0, 1) := by decide +kernel
theorem dX0_setUp_1 : decode cX0_setUp 1 = .ok (.iload_n 1, 1) := by decide +kernel
theorem dX0_setUp_2 : decode cX0_setUp 2 = .ok (.putfield 20, 3) := by decide +kernel
theorem dX0_setUp_5 : decode cX0_setUp 5 = .ok (.aload_n 0, 1) := by decide +kernel
theorem dX0_setUp_6 : decode cX0_setUp 6 = .ok (.iload_n 2, 1) := by decide +kernel
theorem dX0_setUp_7 : decode cX0_setUp 7 = .ok (.putfield 24, 3) := by decide +kernel
theorem dX0_setUp_10 : decode cX0_setUp 10 = .ok (.aload_n 0, 1) := by decide +kernel
theorem dX0_setUp_11 : decode cX0_setUp 11 = .ok (.iload_n 3, 1) := by decide +kernel
theorem dX0_setUp_12 : decode cX0_setUp 12 = .ok (.putfield 27, 3) := by decide +kernel
theorem dX0_setUp_15 : decode cX0_setUp 15 = .ok (.aload_n 0, 1) := by decide +kernel
theorem dX0_setUp_16 : decode cX0_setUp 16 = .ok (.iload 4, 2) := by decide +kernel
theorem dX0_setUp_18 : decode cX0_setUp 18 = .ok (.putfield 30, 3) := by decide +kernel
theorem dX0_setUp_21 : decode cX0_setUp 21 = .ok (.aload_n 0, 1) := by decide +kernel
theorem dX0_setUp_22 : decode cX0_setUp 22 = .ok (.iconst 0, 1) := by decide +kernel
theorem dX0_setUp_23 : decode cX0_setUp 23 = .ok (.putfield 33, 3) := by decide +kernel
theorem dX0_setUp_26 : decode cX0_setUp 26 = .ok (.aload_n 0, 1) := by decide +kernel
theorem dX0_setUp_27 : decode cX0_setUp 27 = .ok (.getfield 14, 3) := by decide +kernel
theorem dX0_setUp_30 : decode cX0_setUp 30 = .ok (.iconst 0, 1) := by decide +kernel
theorem dX0_setUp_31 : decode cX0_setUp 31 = .ok (.putfield 36, 3) := by decide +kernel
theorem dX0_setUp_34 : decode cX0_setUp 34 = .ok (.return_, 1) := by decide +kernel
theorem dX0_copyFrom_0 : decode cX0_copyFrom 0 = .ok (.aload_n 0, 1) := by decide +kernel
theorem dX0_copyFrom_1 : decode cX0_copyFrom 1 = .ok (.aload_n 1, 1) := by decide +kernel
theorem dX0_copyFrom_2 : decode cX0_copyFrom 2 = .ok (.getfield 20, 3) := by decide +kernel
theorem dX0_copyFrom_5 : decode cX0_copyFrom 5 = .ok (.putfield 20, 3) := by decide +kernel
theorem dX0_copyFrom_8 : decode cX0_copyFrom 8 = .ok (.aload_n 0, 1) := by decide +kernel
theorem dX0_copyFrom_9 : decode cX0_copyFrom 9 = .ok (.aload_n 1, 1) := by decide +kernel
theorem dX0_copyFrom_10 : decode cX0_copyFrom 10 = .ok (.getfield 24, 3) := by decide +kernel
theorem dX0_copyFrom_13 : decode cX0_copyFrom 13 = .ok (.putfield 24, 3) := by decide +kernel
theorem dX0_copyFrom_16 : decode cX0_copyFrom 16 = .ok (.aload_n 0, 1) := by decide +kernel
theorem dX0_copyFrom_17 : decode cX0_copyFrom 17 = .ok (.aload_n 1, 1) := by decide +kernel
theorem dX0_copyFrom_18 : decode cX0_copyFrom 18 = .ok (.getfield 27, 3) := by decide +kernel
theorem dX0_copyFrom_21 : decode cX0_copyFrom 21 = .ok (.putfield 27, 3) := by decide +kernel
theorem dX0_copyFrom_24 : decode cX0_copyFrom 24 = .ok (.aload_n 0, 1) := by decide +kernel
theorem dX0_copyFrom_25 : decode cX0_copyFrom 25 = .ok (.aload_n 1, 1) := by decide +kernel
theorem dX0_copyFrom_26 : decode cX0_copyFrom 26 = .ok (.getfield 30, 3) := by decide +kernel
theorem dX0_copyFrom_29 : decode cX0_copyFrom 29 = .ok (.putfield 30, 3) := by decide +kernel
theorem dX0_copyFrom_32 : decode cX0_copyFrom 32 = .ok (.aload_n 0, 1) := by decide +kernel
theorem dX0_copyFrom_33 : decode cX0_copyFrom 33 = .ok (.aload_n 1, 1) := by decide +kernel
theorem dX0_copyFrom_34 : decode cX0_copyFrom 34 = .ok (.getfield 33, 3) := by decide +kernel
theorem dX0_copyFrom_37 : decode cX0_copyFrom 37 = .ok (.putfield 33, 3) := by decide +kernel
theorem dX0_copyFrom_40 : decode cX0_copyFrom 40 = .ok (.aload_n 0, 1) := by decide +kernel
theorem dX0_copyFrom_41 : decode cX0_copyFrom 41 = .ok (.getfield 14, 3) := by decide +kernel
theorem dX0_copyFrom_44 : decode cX0_copyFrom 44 = .ok (.aload_n 1, 1) := by decide +kernel
theorem dX0_copyFrom_45 : decode cX0_copyFrom 45 = .ok (.getfield 14, 3) := by decide +kernel
theorem dX0_copyFrom_48 : decode cX0_copyFrom 48 = .ok (.invokevirtual 39, 3) := by decide +kernel
theorem dX0_copyFrom_51 : decode cX0_copyFrom 51 = .ok (.return_, 1) := by decide +kernel
theorem dX0_isLaterThan_0 : decode cX0_isLaterThan 0 = .ok (.aload_n 0, 1) := by decide +kernel
theorem dX0_isLaterThan_1 : decode cX0_isLaterThan 1 = .ok (.getfield 20, 3) := by decide +kernel
theorem dX0_isLaterThan_4 : decode cX0_isLaterThan 4 = .ok (.iload_n 1, 1) := by decide +kernel
theorem dX0_isLaterThan_5 : decode cX0_isLaterThan 5 = .ok (.if_icmp .gt 19, 3) := by decide +kernel
theorem dX0_isLaterThan_8 : decode cX0_isLaterThan 8 = .ok (.aload_n 0, 1) := by decide +kernel
theorem dX0_isLaterThan_9 : decode cX0_isLaterThan 9 = .ok (.getfield 20, 3) := by decide +kernel
theorem dX0_isLaterThan_12 : decode cX0_isLaterThan 12 = .ok (.iload_n 1, 1) := by decide +kernel
theorem dX0_isLaterThan_13 : decode cX0_isLaterThan 13 = .ok (.if_icmp .ne 15, 3) := by decide +kernel
theorem dX0_isLaterThan_16 : decode cX0_isLaterThan 16 = .ok (.aload_n 0, 1) := by decide +kernel
theorem dX0_isLaterThan_17 : decode cX0_isLaterThan 17 = .ok (.getfield 24, 3) := by decide +kernel
theorem dX0_isLaterThan_20 : decode cX0_isLaterThan 20 = .ok (.iload_n 2, 1) := by decide +kernel
theorem dX0_isLaterThan_21 : decode cX0_isLaterThan 21 = .ok (.if_icmp .le 7, 3) := by decide +kernel
theorem dX0_isLaterThan_24 : decode cX0_isLaterThan 24 = .ok (.iconst 1, 1) := by decide +kernel
theorem dX0_isLaterThan_25 : decode cX0_isLaterThan 25 = .ok (.goto 4, 3) := by decide +kernel
theorem dX0_isLaterThan_28 : decode cX0_isLaterThan 28 = .ok (.iconst 0, 1) := by decide +kernel
theorem dX0_isLaterThan_29 : decode cX0_isLaterThan 29 = .ok (.ireturn, 1) := by decide +kernel
theorem dX1_init_0 : decode cX1_init 0 = .ok (.aload_n 0, 1) := by decide +kernel
theorem dX1_init_1 : decode cX1_init 1 = .ok (.invokespecial 3, 3) := by decide +kernel
theorem dX1_init_4 : decode cX1_init 4 = .ok (.aload_n 0, 1) := by decide +kernel
theorem dX1_init_5 : decode cX1_init 5 = .ok (.bipush 8, 2) := by decide +kernel
theorem dX1_init_7 : decode cX1_init 7 = .ok (.newarray .int, 2) := by decide +kernel
theorem dX1_init_9 : decode cX1_init 9 = .ok (.putfield 9, 3) := by decide +kernel
theorem dX1_init_12 : decode cX1_init 12 = .ok (.aload_n 0, 1) := by decide +kernel
theorem dX1_init_13 : decode cX1_init 13 = .ok (.sipush 256, 3) := by decide +kernel
theorem dX1_init_16 : decode cX1_init 16 = .ok (.bipush 8, 2) := by decide +kernel
theorem dX1_init_18 : decode cX1_init 18 = .ok (.multianewarray 15 2, 4) := by decide +kernel
theorem dX1_init_22 : decode cX1_init 22 = .ok (.putfield 17, 3) := by decide +kernel
theorem dX1_init_25 : decode cX1_init 25 = .ok (.aload_n 0, 1) := by decide +kernel
theorem dX1_init_26 : decode cX1_init 26 = .ok (.bipush 8, 2) := by decide +kernel
theorem dX1_init_28 : decode cX1_init 28 = .ok (.newarray .int, 2) := by decide +kernel
theorem dX1_init_30 : decode cX1_init 30 = .ok (.putfield 20, 3) := by decide +kernel
theorem dX1_init_33 : decode cX1_init 33 = .ok (.return_, 1) := by decide +kernel
theorem dX1_countOrders_0 : decode cX1_countOrders 0 = .ok (.iload_n 2, 1) := by decide +kernel
theorem dX1_countOrders_1 : decode cX1_countOrders 1 = .ok (.ifCond .ne 5, 3) := by decide +kernel
theorem dX1_countOrders_4 : decode cX1_countOrders 4 = .ok (.iconst 1, 1) := by decide +kernel
theorem dX1_countOrders_5 : decode cX1_countOrders 5 = .ok (.ireturn, 1) := by decide +kernel
theorem dX1_countOrders_6 : decode cX1_countOrders 6 = .ok (.aload_n 0, 1) := by decide +kernel
theorem dX1_countOrders_7 : decode cX1_countOrders 7 = .ok (.aload_n 1, 1) := by decide +kernel
theorem dX1_countOrders_8 : decode cX1_countOrders 8 = .ok (.iload_n 2, 1) := by decide +kernel
theorem dX1_countOrders_9 : decode cX1_countOrders 9 = .ok (.invokevirtual 23, 3) := by decide +kernel
theorem dX1_countOrders_12 : decode cX1_countOrders 12 = .ok (.aload_n 0, 1) := by decide +kernel
theorem dX1_countOrders_13 : decode cX1_countOrders 13 = .ok (.iload_n 2, 1) := by decide +kernel
theorem dX1_countOrders_14 : decode cX1_countOrders 14 = .ok (.iload_n 2, 1) := by decide +kernel
theorem dX1_countOrders_15 : decode cX1_countOrders 15 = .ok (.invokevirtual 27, 3) := by decide +kernel
theorem dX1_countOrders_18 : decode cX1_countOrders 18 = .ok (.ireturn, 1) := by decide +kernel
theorem dX1_findFirst_0 : decode cX1_findFirst 0 = .ok (.aload_n 0, 1) := by decide +kernel
theorem dX1_findFirst_1 : decode cX1_findFirst 1 = .ok (.aload_n 1, 1) := by decide +kernel
theorem dX1_findFirst_2 : decode cX1_findFirst 2 = .ok (.iload_n 2, 1) := by decide +kernel
theorem dX1_findFirst_3 : decode cX1_findFirst 3 = .ok (.invokevirtual 23, 3) := by decide +kernel
theorem dX1_findFirst_6 : decode cX1_findFirst 6 = .ok (.iload_n 2, 1) := by decide +kernel
theorem dX1_findFirst_7 : decode cX1_findFirst 7 = .ok (.istore_n 3, 1) := by decide +kernel
theorem dX1_findFirst_8 : decode cX1_findFirst 8 = .ok (.iload_n 2, 1) := by decide +kernel
theorem dX1_findFirst_9 : decode cX1_findFirst 9 = .ok (.istore 4, 2) := by decide +kernel
theorem dX1_findFirst_11 : decode cX1_findFirst 11 = .ok (.iconst 0, 1) := by decide +kernel
theorem dX1_findFirst_12 : decode cX1_findFirst 12 = .ok (.istore 5, 2) := by decide +kernel
theorem dX1_findFirst_14 : decode cX1_findFirst 14 = .ok (.iload 5, 2) := by decide +kernel
theorem dX1_findFirst_16 : decode cX1_findFirst 16 = .ok (.bipush 8, 2) := by decide +kernel
theorem dX1_findFirst_18 : decode cX1_findFirst 18 = .ok (.if_icmp .ge 58, 3) := by decide +kernel
theorem dX1_findFirst_21 : decode cX1_findFirst 21 = .ok (.iload_n 3, 1) := by decide +kernel
theorem dX1_findFirst_22 : decode cX1_findFirst 22 = .ok (.ifCond .eq 54, 3) := by decide +kernel
theorem dX1_findFirst_25 : decode cX1_findFirst 25 = .ok (.aload_n 0, 1) := by decide +kernel
theorem dX1_findFirst_26 : decode cX1_findFirst 26 = .ok (.iload_n 3, 1) := by decide +kernel
theorem dX1_findFirst_27 : decode cX1_findFirst 27 = .ok (.iload 4, 2) := by decide +kernel
theorem dX1_findFirst_29 : decode cX1_findFirst 29 = .ok (.invokevirtual 31, 3) := by decide +kernel
theorem dX1_findFirst_32 : decode cX1_findFirst 32 = .ok (.istore 6, 2) := by decide +kernel
theorem dX1_findFirst_34 : decode cX1_findFirst 34 = .ok (.iload 6, 2) := by decide +kernel
theorem dX1_findFirst_36 : decode cX1_findFirst 36 = .ok (.ifCond .ge 5, 3) := by decide +kernel
theorem dX1_findFirst_39 : decode cX1_findFirst 39 = .ok (.iconst 0, 1) := by decide +kernel
theorem dX1_findFirst_40 : decode cX1_findFirst 40 = .ok (.ireturn, 1) := by decide +kernel
theorem dX1_findFirst_41 : decode cX1_findFirst 41 = .ok (.aload_n 0, 1) := by decide +kernel
theorem dX1_findFirst_42 : decode cX1_findFirst 42 = .ok (.getfield 20, 3) := by decide +kernel
theorem dX1_findFirst_45 : decode cX1_findFirst 45 = .ok (.iload 5, 2) := by decide +kernel
theorem dX1_findFirst_47 : decode cX1_findFirst 47 = .ok (.iload 6, 2) := by decide +kernel
theorem dX1_findFirst_49 : decode cX1_findFirst 49 = .ok (.iastore, 1) := by decide +kernel
theorem dX1_findFirst_50 : decode cX1_findFirst 50 = .ok (.iload_n 3, 1) := by decide +kernel
theorem dX1_findFirst_51 : decode cX1_findFirst 51 = .ok (.iconst 1, 1) := by decide +kernel
theorem dX1_findFirst_52 : decode cX1_findFirst 52 = .ok (.iload 6, 2) := by decide +kernel
theorem dX1_findFirst_54 : decode cX1_findFirst 54 = .ok (.ishl, 1) := by decide +kernel
theorem dX1_findFirst_55 : decode cX1_findFirst 55 = .ok (.iconst (-1), 1) := by decide +kernel
theorem dX1_findFirst_56 : decode cX1_findFirst 56 = .ok (.ixor, 1) := by decide +kernel
theorem dX1_findFirst_57 : decode cX1_findFirst 57 = .ok (.iand, 1) := by decide +kernel
theorem dX1_findFirst_58 : decode cX1_findFirst 58 = .ok (.istore_n 3, 1) := by decide +kernel
theorem dX1_findFirst_59 : decode cX1_findFirst 59 = .ok (.iload_n 3, 1) := by decide +kernel
theorem dX1_findFirst_60 : decode cX1_findFirst 60 = .ok (.aload_n 0, 1) := by decide +kernel
theorem dX1_findFirst_61 : decode cX1_findFirst 61 = .ok (.getfield 9, 3) := by decide +kernel
theorem dX1_findFirst_64 : decode cX1_findFirst 64 = .ok (.iload 6, 2) := by decide +kernel
theorem dX1_findFirst_66 : decode cX1_findFirst 66 = .ok (.iaload, 1) := by decide +kernel
theorem dX1_findFirst_67 : decode cX1_findFirst 67 = .ok (.iand, 1) := by decide +kernel
theorem dX1_findFirst_68 : decode cX1_findFirst 68 = .ok (.istore 4, 2) := by decide +kernel
theorem dX1_findFirst_70 : decode cX1_findFirst 70 = .ok (.iinc 5 1, 3) := by decide +kernel
theorem dX1_findFirst_73 : decode cX1_findFirst 73 = .ok (.goto (-59), 3) := by decide +kernel
theorem dX1_findFirst_76 : decode cX1_findFirst 76 = .ok (.iconst 1, 1) := by decide +kernel
theorem dX1_findFirst_77 : decode cX1_findFirst 77 = .ok (.ireturn, 1) := by decide +kernel
theorem dX1_countBeginnings_0 : decode cX1_countBeginnings 0 = .ok (.aload_n 0, 1) := by decide +kernel
theorem dX1_countBeginnings_1 : decode cX1_countBeginnings 1 = .ok (.aload_n 1, 1) := by decide +kernel
theorem dX1_countBeginnings_2 : decode cX1_countBeginnings 2 = .ok (.invokevirtual 34, 3) := by decide +kernel
theorem dX1_countBeginnings_5 : decode cX1_countBeginnings 5 = .ok (.iconst 1, 1) := by decide +kernel
theorem dX1_countBeginnings_6 : decode cX1_countBeginnings 6 = .ok (.istore_n 3, 1) := by decide +kernel
theorem dX1_countBeginnings_7 : decode cX1_countBeginnings 7 = .ok (.iload_n 3, 1) := by decide +kernel
theorem dX1_countBeginnings_8 : decode cX1_countBeginnings 8 = .ok (.aload_n 0, 1) := by decide +kernel
theorem dX1_countBeginnings_9 : decode cX1_countBeginnings 9 = .ok (.getfield 17, 3) := by decide +kernel
theorem dX1_countBeginnings_12 : decode cX1_countBeginnings 12 = .ok (.arraylength, 1) := by decide +kernel
theorem dX1_countBeginnings_13 : decode cX1_countBeginnings 13 = .ok (.if_icmp .ge 27, 3) := by decide +kernel
theorem dX1_countBeginnings_16 : decode cX1_countBeginnings 16 = .ok (.iload_n 3, 1) := by decide +kernel
theorem dX1_countBeginnings_17 : decode cX1_countBeginnings 17 = .ok (.iload_n 2, 1) := by decide +kernel
theorem dX1_countBeginnings_18 : decode cX1_countBeginnings 18 = .ok (.if_icmp .gt 22, 3) := by decide +kernel
theorem dX1_countBeginnings_21 : decode cX1_countBeginnings 21 = .ok (.iload_n 3, 1) := by decide +kernel
theorem dX1_countBeginnings_22 : decode cX1_countBeginnings 22 = .ok (.iload_n 2, 1) := by decide +kernel
theorem dX1_countBeginnings_23 : decode cX1_countBeginnings 23 = .ok (.iconst (-1), 1) := by decide +kernel
theorem dX1_countBeginnings_24 : decode cX1_countBeginnings 24 = .ok (.ixor, 1) := by decide +kernel
theorem dX1_countBeginnings_25 : decode cX1_countBeginnings 25 = .ok (.iand, 1) := by decide +kernel
theorem dX1_countBeginnings_26 : decode cX1_countBeginnings 26 = .ok (.ifCond .ne 8, 3) := by decide +kernel
theorem dX1_countBeginnings_29 : decode cX1_countBeginnings 29 = .ok (.aload_n 0, 1) := by decide +kernel
theorem dX1_countBeginnings_30 : decode cX1_countBeginnings 30 = .ok (.iload_n 3, 1) := by decide +kernel
theorem dX1_countBeginnings_31 : decode cX1_countBeginnings 31 = .ok (.invokevirtual 38, 3) := by decide +kernel
theorem dX1_countBeginnings_34 : decode cX1_countBeginnings 34 = .ok (.iinc 3 1, 3) := by decide +kernel
theorem dX1_countBeginnings_37 : decode cX1_countBeginnings 37 = .ok (.goto (-30), 3) := by decide +kernel
theorem dX1_countBeginnings_40 : decode cX1_countBeginnings 40 = .ok (.return_, 1) := by decide +kernel
theorem dX1_findFriends_0 : decode cX1_findFriends 0 = .ok (.iconst 0, 1) := by decide +kernel
theorem dX1_findFriends_1 : decode cX1_findFriends 1 = .ok (.istore_n 2, 1) := by decide +kernel
theorem dX1_findFriends_2 : decode cX1_findFriends 2 = .ok (.iload_n 2, 1) := by decide +kernel
theorem dX1_findFriends_3 : decode cX1_findFriends 3 = .ok (.aload_n 1, 1) := by decide +kernel
theorem dX1_findFriends_4 : decode cX1_findFriends 4 = .ok (.getfield 42, 3) := by decide +kernel
theorem dX1_findFriends_7 : decode cX1_findFriends 7 = .ok (.if_icmp .ge 53, 3) := by decide +kernel
theorem dX1_findFriends_10 : decode cX1_findFriends 10 = .ok (.aload_n 0, 1) := by decide +kernel
theorem dX1_findFriends_11 : decode cX1_findFriends 11 = .ok (.getfield 9, 3) := by decide +kernel
theorem dX1_findFriends_14 : decode cX1_findFriends 14 = .ok (.iload_n 2, 1) := by decide +kernel
theorem dX1_findFriends_15 : decode cX1_findFriends 15 = .ok (.iconst 0, 1) := by decide +kernel
theorem dX1_findFriends_16 : decode cX1_findFriends 16 = .ok (.iastore, 1) := by decide +kernel
theorem dX1_findFriends_17 : decode cX1_findFriends 17 = .ok (.iconst 0, 1) := by decide +kernel
theorem dX1_findFriends_18 : decode cX1_findFriends 18 = .ok (.istore_n 3, 1) := by decide +kernel
theorem dX1_findFriends_19 : decode cX1_findFriends 19 = .ok (.iload_n 3, 1) := by decide +kernel
theorem dX1_findFriends_20 : decode cX1_findFriends 20 = .ok (.aload_n 1, 1) := by decide +kernel
theorem dX1_findFriends_21 : decode cX1_findFriends 21 = .ok (.getfield 42, 3) := by decide +kernel
theorem dX1_findFriends_24 : decode cX1_findFriends 24 = .ok (.if_icmp .ge 30, 3) := by decide +kernel
theorem dX1_findFriends_27 : decode cX1_findFriends 27 = .ok (.aload_n 1, 1) := by decide +kernel
theorem dX1_findFriends_28 : decode cX1_findFriends 28 = .ok (.iload_n 2, 1) := by decide +kernel
theorem dX1_findFriends_29 : decode cX1_findFriends 29 = .ok (.iload_n 3, 1) := by decide +kernel
theorem dX1_findFriends_30 : decode cX1_findFriends 30 = .ok (.invokevirtual 48, 3) := by decide +kernel
theorem dX1_findFriends_33 : decode cX1_findFriends 33 = .ok (.ifCond .ne 15, 3) := by decide +kernel
theorem dX1_findFriends_36 : decode cX1_findFriends 36 = .ok (.aload_n 0, 1) := by decide +kernel
theorem dX1_findFriends_37 : decode cX1_findFriends 37 = .ok (.getfield 9, 3) := by decide +kernel
theorem dX1_findFriends_40 : decode cX1_findFriends 40 = .ok (.iload_n 2, 1) := by decide +kernel
theorem dX1_findFriends_41 : decode cX1_findFriends 41 = .ok (.dup2, 1) := by decide +kernel
theorem dX1_findFriends_42 : decode cX1_findFriends 42 = .ok (.iaload, 1) := by decide +kernel
theorem dX1_findFriends_43 : decode cX1_findFriends 43 = .ok (.iconst 1, 1) := by decide +kernel
theorem dX1_findFriends_44 : decode cX1_findFriends 44 = .ok (.iload_n 3, 1) := by decide +kernel
theorem dX1_findFriends_45 : decode cX1_findFriends 45 = .ok (.ishl, 1) := by decide +kernel
theorem dX1_findFriends_46 : decode cX1_findFriends 46 = .ok (.ior, 1) := by decide +kernel
theorem dX1_findFriends_47 : decode cX1_findFriends 47 = .ok (.iastore, 1) := by decide +kernel
theorem dX1_findFriends_48 : decode cX1_findFriends 48 = .ok (.iinc 3 1, 3) := by decide +kernel
theorem dX1_findFriends_51 : decode cX1_findFriends 51 = .ok (.goto (-32), 3) := by decide +kernel
theorem dX1_findFriends_54 : decode cX1_findFriends 54 = .ok (.iinc 2 1, 3) := by decide +kernel
theorem dX1_findFriends_57 : decode cX1_findFriends 57 = .ok (.goto (-55), 3) := by decide +kernel
theorem dX1_findFriends_60 : decode cX1_findFriends 60 = .ok (.return_, 1) := by decide +kernel
theorem dX1_countBeginningsOf_0 : decode cX1_countBeginningsOf 0 = .ok (.iconst 0, 1) := by decide +kernel
theorem dX1_countBeginningsOf_1 : decode cX1_countBeginningsOf 1 = .ok (.istore_n 2, 1) := by decide +kernel
theorem dX1_countBeginningsOf_2 : decode cX1_countBeginningsOf 2 = .ok (.iload_n 2, 1) := by decide +kernel
theorem dX1_countBeginningsOf_3 : decode cX1_countBeginningsOf 3 = .ok (.bipush 8, 2) := by decide +kernel
theorem dX1_countBeginningsOf_5 : decode cX1_countBeginningsOf 5 = .ok (.if_icmp .ge 59, 3) := by decide +kernel
theorem dX1_countBeginningsOf_8 : decode cX1_countBeginningsOf 8 = .ok (.iload_n 1, 1) := by decide +kernel
theorem dX1_countBeginningsOf_9 : decode cX1_countBeginningsOf 9 = .ok (.iconst 1, 1) := by decide +kernel
theorem dX1_countBeginningsOf_10 : decode cX1_countBeginningsOf 10 = .ok (.iload_n 2, 1) := by decide +kernel
theorem dX1_countBeginningsOf_11 : decode cX1_countBeginningsOf 11 = .ok (.ishl, 1) := by decide +kernel
theorem dX1_countBeginningsOf_12 : decode cX1_countBeginningsOf 12 = .ok (.iconst (-1), 1) := by decide +kernel
theorem dX1_countBeginningsOf_13 : decode cX1_countBeginningsOf 13 = .ok (.ixor, 1) := by decide +kernel
theorem dX1_countBeginningsOf_14 : decode cX1_countBeginningsOf 14 = .ok (.iand, 1) := by decide +kernel
theorem dX1_countBeginningsOf_15 : decode cX1_countBeginningsOf 15 = .ok (.istore_n 3, 1) := by decide +kernel
theorem dX1_countBeginningsOf_16 : decode cX1_countBeginningsOf 16 = .ok (.iload_n 3, 1) := by decide +kernel
theorem dX1_countBeginningsOf_17 : decode cX1_countBeginningsOf 17 = .ok (.ifCond .ne 15, 3) := by decide +kernel
theorem dX1_countBeginningsOf_20 : decode cX1_countBeginningsOf 20 = .ok (.aload_n 0, 1) := by decide +kernel
theorem dX1_countBeginningsOf_21 : decode cX1_countBeginningsOf 21 = .ok (.getfield 17, 3) := by decide +kernel
theorem dX1_countBeginningsOf_24 : decode cX1_countBeginningsOf 24 = .ok (.iload_n 1, 1) := by decide +kernel
theorem dX1_countBeginningsOf_25 : decode cX1_countBeginningsOf 25 = .ok (.aaload, 1) := by decide +kernel
theorem dX1_countBeginningsOf_26 : decode cX1_countBeginningsOf 26 = .ok (.iload_n 2, 1) := by decide +kernel
theorem dX1_countBeginningsOf_27 : decode cX1_countBeginningsOf 27 = .ok (.iconst 1, 1) := by decide +kernel
theorem dX1_countBeginningsOf_28 : decode cX1_countBeginningsOf 28 = .ok (.iastore, 1) := by decide +kernel
theorem dX1_countBeginningsOf_29 : decode cX1_countBeginningsOf 29 = .ok (.goto 29, 3) := by decide +kernel
theorem dX1_countBeginningsOf_32 : decode cX1_countBeginningsOf 32 = .ok (.iload_n 3, 1) := by decide +kernel
theorem dX1_countBeginningsOf_33 : decode cX1_countBeginningsOf 33 = .ok (.iload_n 1, 1) := by decide +kernel
theorem dX1_countBeginningsOf_34 : decode cX1_countBeginningsOf 34 = .ok (.if_icmp .eq 24, 3) := by decide +kernel
theorem dX1_countBeginningsOf_37 : decode cX1_countBeginningsOf 37 = .ok (.aload_n 0, 1) := by decide +kernel
theorem dX1_countBeginningsOf_38 : decode cX1_countBeginningsOf 38 = .ok (.getfield 17, 3) := by decide +kernel
theorem dX1_countBeginningsOf_41 : decode cX1_countBeginningsOf 41 = .ok (.iload_n 1, 1) := by decide +kernel
theorem dX1_countBeginningsOf_42 : decode cX1_countBeginningsOf 42 = .ok (.aaload, 1) := by decide +kernel
theorem dX1_countBeginningsOf_43 : decode cX1_countBeginningsOf 43 = .ok (.iload_n 2, 1) := by decide +kernel
theorem dX1_countBeginningsOf_44 : decode cX1_countBeginningsOf 44 = .ok (.aload_n 0, 1) := by decide +kernel
theorem dX1_countBeginningsOf_45 : decode cX1_countBeginningsOf 45 = .ok (.iload_n 3, 1) := by decide +kernel
theorem dX1_countBeginningsOf_46 : decode cX1_countBeginningsOf 46 = .ok (.iload_n 3, 1) := by decide +kernel
theorem dX1_countBeginningsOf_47 : decode cX1_countBeginningsOf 47 = .ok (.aload_n 0, 1) := by decide +kernel
theorem dX1_countBeginningsOf_48 : decode cX1_countBeginningsOf 48 = .ok (.getfield 9, 3) := by decide +kernel
theorem dX1_countBeginningsOf_51 : decode cX1_countBeginningsOf 51 = .ok (.iload_n 2, 1) := by decide +kernel
theorem dX1_countBeginningsOf_52 : decode cX1_countBeginningsOf 52 = .ok (.iaload, 1) := by decide +kernel
theorem dX1_countBeginningsOf_53 : decode cX1_countBeginningsOf 53 = .ok (.iand, 1) := by decide +kernel
theorem dX1_countBeginningsOf_54 : decode cX1_countBeginningsOf 54 = .ok (.invokevirtual 27, 3) := by decide +kernel
theorem dX1_countBeginningsOf_57 : decode cX1_countBeginningsOf 57 = .ok (.iastore, 1) := by decide +kernel
theorem dX1_countBeginningsOf_58 : decode cX1_countBeginningsOf 58 = .ok (.iinc 2 1, 3) := by decide +kernel
theorem dX1_countBeginningsOf_61 : decode cX1_countBeginningsOf 61 = .ok (.goto (-59), 3) := by decide +kernel
theorem dX1_countBeginningsOf_64 : decode cX1_countBeginningsOf 64 = .ok (.return_, 1) := by decide +kernel
theorem dX1_sumOver_0 : decode cX1_sumOver 0 = .ok (.iconst 0, 1) := by decide +kernel
theorem dX1_sumOver_1 : decode cX1_sumOver 1 = .ok (.istore_n 3, 1) := by decide +kernel
theorem dX1_sumOver_2 : decode cX1_sumOver 2 = .ok (.iconst 0, 1) := by decide +kernel
theorem dX1_sumOver_3 : decode cX1_sumOver 3 = .ok (.istore 4, 2) := by decide +kernel
theorem dX1_sumOver_5 : decode cX1_sumOver 5 = .ok (.iload 4, 2) := by decide +kernel
theorem dX1_sumOver_7 : decode cX1_sumOver 7 = .ok (.bipush 8, 2) := by decide +kernel
theorem dX1_sumOver_9 : decode cX1_sumOver 9 = .ok (.if_icmp .ge 30, 3) := by decide +kernel
theorem dX1_sumOver_12 : decode cX1_sumOver 12 = .ok (.iload_n 2, 1) := by decide +kernel
theorem dX1_sumOver_13 : decode cX1_sumOver 13 = .ok (.iload 4, 2) := by decide +kernel
theorem dX1_sumOver_15 : decode cX1_sumOver 15 = .ok (.ishr, 1) := by decide +kernel
theorem dX1_sumOver_16 : decode cX1_sumOver 16 = .ok (.iconst 1, 1) := by decide +kernel
theorem dX1_sumOver_17 : decode cX1_sumOver 17 = .ok (.iand, 1) := by decide +kernel
theorem dX1_sumOver_18 : decode cX1_sumOver 18 = .ok (.ifCond .eq 15, 3) := by decide +kernel
theorem dX1_sumOver_21 : decode cX1_sumOver 21 = .ok (.iload_n 3, 1) := by decide +kernel
theorem dX1_sumOver_22 : decode cX1_sumOver 22 = .ok (.aload_n 0, 1) := by decide +kernel
theorem dX1_sumOver_23 : decode cX1_sumOver 23 = .ok (.getfield 17, 3) := by decide +kernel
theorem dX1_sumOver_26 : decode cX1_sumOver 26 = .ok (.iload_n 1, 1) := by decide +kernel
theorem dX1_sumOver_27 : decode cX1_sumOver 27 = .ok (.aaload, 1) := by decide +kernel
theorem dX1_sumOver_28 : decode cX1_sumOver 28 = .ok (.iload 4, 2) := by decide +kernel
theorem dX1_sumOver_30 : decode cX1_sumOver 30 = .ok (.iaload, 1) := by decide +kernel
theorem dX1_sumOver_31 : decode cX1_sumOver 31 = .ok (.iadd, 1) := by decide +kernel
theorem dX1_sumOver_32 : decode cX1_sumOver 32 = .ok (.istore_n 3, 1) := by decide +kernel
theorem dX1_sumOver_33 : decode cX1_sumOver 33 = .ok (.iinc 4 1, 3) := by decide +kernel
theorem dX1_sumOver_36 : decode cX1_sumOver 36 = .ok (.goto (-31), 3) := by decide +kernel
theorem dX1_sumOver_39 : decode cX1_sumOver 39 = .ok (.iload_n 3, 1) := by decide +kernel
theorem dX1_sumOver_40 : decode cX1_sumOver 40 = .ok (.ireturn, 1) := by decide +kernel
theorem dX1_smallestBeginning_0 : decode cX1_smallestBeginning 0 = .ok (.iconst 0, 1) := by decide +kernel
theorem dX1_smallestBeginning_1 : decode cX1_smallestBeginning 1 = .ok (.istore_n 3, 1) := by decide +kernel
theorem dX1_smallestBeginning_2 : decode cX1_smallestBeginning 2 = .ok (.iload_n 3, 1) := by decide +kernel
theorem dX1_smallestBeginning_3 : decode cX1_smallestBeginning 3 = .ok (.bipush 8, 2) := by decide +kernel
theorem dX1_smallestBeginning_5 : decode cX1_smallestBeginning 5 = .ok (.if_icmp .ge 30, 3) := by decide +kernel
theorem dX1_smallestBeginning_8 : decode cX1_smallestBeginning 8 = .ok (.iload_n 2, 1) := by decide +kernel
theorem dX1_smallestBeginning_9 : decode cX1_smallestBeginning 9 = .ok (.iload_n 3, 1) := by decide +kernel
theorem dX1_smallestBeginning_10 : decode cX1_smallestBeginning 10 = .ok (.ishr, 1) := by decide +kernel
theorem dX1_smallestBeginning_11 : decode cX1_smallestBeginning 11 = .ok (.iconst 1, 1) := by decide +kernel
theorem dX1_smallestBeginning_12 : decode cX1_smallestBeginning 12 = .ok (.iand, 1) := by decide +kernel
theorem dX1_smallestBeginning_13 : decode cX1_smallestBeginning 13 = .ok (.ifCond .eq 16, 3) := by decide +kernel
theorem dX1_smallestBeginning_16 : decode cX1_smallestBeginning 16 = .ok (.aload_n 0, 1) := by decide +kernel
theorem dX1_smallestBeginning_17 : decode cX1_smallestBeginning 17 = .ok (.getfield 17, 3) := by decide +kernel
theorem dX1_smallestBeginning_20 : decode cX1_smallestBeginning 20 = .ok (.iload_n 1, 1) := by decide +kernel
theorem dX1_smallestBeginning_21 : decode cX1_smallestBeginning 21 = .ok (.aaload, 1) := by decide +kernel
theorem dX1_smallestBeginning_22 : decode cX1_smallestBeginning 22 = .ok (.iload_n 3, 1) := by decide +kernel
theorem dX1_smallestBeginning_23 : decode cX1_smallestBeginning 23 = .ok (.iaload, 1) := by decide +kernel
theorem dX1_smallestBeginning_24 : decode cX1_smallestBeginning 24 = .ok (.ifCond .le 5, 3) := by decide +kernel
theorem dX1_smallestBeginning_27 : decode cX1_smallestBeginning 27 = .ok (.iload_n 3, 1) := by decide +kernel
theorem dX1_smallestBeginning_28 : decode cX1_smallestBeginning 28 = .ok (.ireturn, 1) := by decide +kernel
theorem dX1_smallestBeginning_29 : decode cX1_smallestBeginning 29 = .ok (.iinc 3 1, 3) := by decide +kernel
theorem dX1_smallestBeginning_32 : decode cX1_smallestBeginning 32 = .ok (.goto (-30), 3) := by decide +kernel
theorem dX1_smallestBeginning_35 : decode cX1_smallestBeginning 35 = .ok (.iconst (-1), 1) := by decide +kernel
theorem dX1_smallestBeginning_36 : decode cX1_smallestBeginning 36 = .ok (.ireturn, 1) := by decide +kernel
theorem dX2_init_0 : decode cX2_init 0 = .ok (.aload_n 0, 1) := by decide +kernel
theorem dX2_init_1 : decode cX2_init 1 = .ok (.invokespecial 3, 3) := by decide +kernel
theorem dX2_init_4 : decode cX2_init 4 = .ok (.aload_n 0, 1) := by decide +kernel
theorem dX2_init_5 : decode cX2_init 5 = .ok (.sipush 800, 3) := by decide +kernel
theorem dX2_init_8 : decode cX2_init 8 = .ok (.newarray .int, 2) := by decide +kernel
theorem dX2_init_10 : decode cX2_init 10 = .ok (.putfield 9, 3) := by decide +kernel
theorem dX2_init_13 : decode cX2_init 13 = .ok (.aload_n 0, 1) := by decide +kernel
theorem dX2_init_14 : decode cX2_init 14 = .ok (.iconst 5, 1) := by decide +kernel
theorem dX2_init_15 : decode cX2_init 15 = .ok (.newarray .int, 2) := by decide +kernel
theorem dX2_init_17 : decode cX2_init 17 = .ok (.putfield 15, 3) := by decide +kernel
theorem dX2_init_20 : decode cX2_init 20 = .ok (.aload_n 0, 1) := by decide +kernel
theorem dX2_init_21 : decode cX2_init 21 = .ok (.bipush 11, 2) := by decide +kernel
theorem dX2_init_23 : decode cX2_init 23 = .ok (.newarray .int, 2) := by decide +kernel
theorem dX2_init_25 : decode cX2_init 25 = .ok (.putfield 18, 3) := by decide +kernel
theorem dX2_init_28 : decode cX2_init 28 = .ok (.aload_n 0, 1) := by decide +kernel
theorem dX2_init_29 : decode cX2_init 29 = .ok (.iconst 0, 1) := by decide +kernel
theorem dX2_init_30 : decode cX2_init 30 = .ok (.putfield 21, 3) := by decide +kernel
theorem dX2_init_33 : decode cX2_init 33 = .ok (.return_, 1) := by decide +kernel
theorem dX2_clear_0 : decode cX2_clear 0 = .ok (.aload_n 0, 1) := by decide +kernel
theorem dX2_clear_1 : decode cX2_clear 1 = .ok (.iconst 0, 1) := by decide +kernel
theorem dX2_clear_2 : decode cX2_clear 2 = .ok (.putfield 21, 3) := by decide +kernel
theorem dX2_clear_5 : decode cX2_clear 5 = .ok (.return_, 1) := by decide +kernel
theorem dX2_setDefault_0 : decode cX2_setDefault 0 = .ok (.aload_n 0, 1) := by decide +kernel
theorem dX2_setDefault_1 : decode cX2_setDefault 1 = .ok (.invokevirtual 25, 3) := by decide +kernel
theorem dX2_setDefault_4 : decode cX2_setDefault 4 = .ok (.aload_n 0, 1) := by decide +kernel
theorem dX2_setDefault_5 : decode cX2_setDefault 5 = .ok (.iconst (-1), 1) := by decide +kernel
theorem dX2_setDefault_6 : decode cX2_setDefault 6 = .ok (.invokevirtual 28, 3) := by decide +kernel
theorem dX2_setDefault_9 : decode cX2_setDefault 9 = .ok (.aload_n 0, 1) := by decide +kernel
theorem dX2_setDefault_10 : decode cX2_setDefault 10 = .ok (.bipush (-3), 2) := by decide +kernel
theorem dX2_setDefault_12 : decode cX2_setDefault 12 = .ok (.invokevirtual 28, 3) := by decide +kernel
theorem dX2_setDefault_15 : decode cX2_setDefault 15 = .ok (.aload_n 0, 1) := by decide +kernel
theorem dX2_setDefault_16 : decode cX2_setDefault 16 = .ok (.bipush (-8), 2) := by decide +kernel
theorem dX2_setDefault_18 : decode cX2_setDefault 18 = .ok (.invokevirtual 28, 3) := by decide +kernel
theorem dX2_setDefault_21 : decode cX2_setDefault 21 = .ok (.aload_n 0, 1) := by decide +kernel
theorem dX2_setDefault_22 : decode cX2_setDefault 22 = .ok (.bipush 10, 2) := by decide +kernel
theorem dX2_setDefault_24 : decode cX2_setDefault 24 = .ok (.invokevirtual 28, 3) := by decide +kernel
theorem dX2_setDefault_27 : decode cX2_setDefault 27 = .ok (.aload_n 0, 1) := by decide +kernel
theorem dX2_setDefault_28 : decode cX2_setDefault 28 = .ok (.bipush (-9), 2) := by decide +kernel
theorem dX2_setDefault_30 : decode cX2_setDefault 30 = .ok (.invokevirtual 28, 3) := by decide +kernel
theorem dX2_setDefault_33 : decode cX2_setDefault 33 = .ok (.return_, 1) := by decide +kernel
theorem dX2_emit_0 : decode cX2_emit 0 = .ok (.aload_n 0, 1) := by decide +kernel
theorem dX2_emit_1 : decode cX2_emit 1 = .ok (.getfield 21, 3) := by decide +kernel
theorem dX2_emit_4 : decode cX2_emit 4 = .ok (.aload_n 0, 1) := by decide +kernel
theorem dX2_emit_5 : decode cX2_emit 5 = .ok (.getfield 9, 3) := by decide +kernel
theorem dX2_emit_8 : decode cX2_emit 8 = .ok (.arraylength, 1) := by decide +kernel
theorem dX2_emit_9 : decode cX2_emit 9 = .ok (.if_icmp .ge 23, 3) := by decide +kernel
theorem dX2_emit_12 : decode cX2_emit 12 = .ok (.aload_n 0, 1) := by decide +kernel
theorem dX2_emit_13 : decode cX2_emit 13 = .ok (.getfield 9, 3) := by decide +kernel
theorem dX2_emit_16 : decode cX2_emit 16 = .ok (.aload_n 0, 1) := by decide +kernel
theorem dX2_emit_17 : decode cX2_emit 17 = .ok (.getfield 21, 3) := by decide +kernel
theorem dX2_emit_20 : decode cX2_emit 20 = .ok (.iload_n 1, 1) := by decide +kernel
theorem dX2_emit_21 : decode cX2_emit 21 = .ok (.iastore, 1) := by decide +kernel
theorem dX2_emit_22 : decode cX2_emit 22 = .ok (.aload_n 0, 1) := by decide +kernel
theorem dX2_emit_23 : decode cX2_emit 23 = .ok (.dup, 1) := by decide +kernel
theorem dX2_emit_24 : decode cX2_emit 24 = .ok (.getfield 21, 3) := by decide +kernel
theorem dX2_emit_27 : decode cX2_emit 27 = .ok (.iconst 1, 1) := by decide +kernel
theorem dX2_emit_28 : decode cX2_emit 28 = .ok (.iadd, 1) := by decide +kernel
theorem dX2_emit_29 : decode cX2_emit 29 = .ok (.putfield 21, 3) := by decide +kernel
theorem dX2_emit_32 : decode cX2_emit 32 = .ok (.return_, 1) := by decide +kernel
theorem dX2_copyFrom_0 : decode cX2_copyFrom 0 = .ok (.aload_n 0, 1) := by decide +kernel
theorem dX2_copyFrom_1 : decode cX2_copyFrom 1 = .ok (.iconst 0, 1) := by decide +kernel
theorem dX2_copyFrom_2 : decode cX2_copyFrom 2 = .ok (.putfield 21, 3) := by decide +kernel
theorem dX2_copyFrom_5 : decode cX2_copyFrom 5 = .ok (.iconst 0, 1) := by decide +kernel
theorem dX2_copyFrom_6 : decode cX2_copyFrom 6 = .ok (.istore_n 2, 1) := by decide +kernel
theorem dX2_copyFrom_7 : decode cX2_copyFrom 7 = .ok (.iload_n 2, 1) := by decide +kernel
theorem dX2_copyFrom_8 : decode cX2_copyFrom 8 = .ok (.aload_n 1, 1) := by decide +kernel
theorem dX2_copyFrom_9 : decode cX2_copyFrom 9 = .ok (.getfield 21, 3) := by decide +kernel
theorem dX2_copyFrom_12 : decode cX2_copyFrom 12 = .ok (.if_icmp .ge 19, 3) := by decide +kernel
theorem dX2_copyFrom_15 : decode cX2_copyFrom 15 = .ok (.aload_n 0, 1) := by decide +kernel
theorem dX2_copyFrom_16 : decode cX2_copyFrom 16 = .ok (.aload_n 1, 1) := by decide +kernel
theorem dX2_copyFrom_17 : decode cX2_copyFrom 17 = .ok (.getfield 9, 3) := by decide +kernel
theorem dX2_copyFrom_20 : decode cX2_copyFrom 20 = .ok (.iload_n 2, 1) := by decide +kernel
theorem dX2_copyFrom_21 : decode cX2_copyFrom 21 = .ok (.iaload, 1) := by decide +kernel
theorem dX2_copyFrom_22 : decode cX2_copyFrom 22 = .ok (.invokevirtual 28, 3) := by decide +kernel
theorem dX2_copyFrom_25 : decode cX2_copyFrom 25 = .ok (.iinc 2 1, 3) := by decide +kernel
theorem dX2_copyFrom_28 : decode cX2_copyFrom 28 = .ok (.goto (-21), 3) := by decide +kernel
theorem dX2_copyFrom_31 : decode cX2_copyFrom 31 = .ok (.return_, 1) := by decide +kernel
theorem dX2_evaluate_0 : decode cX2_evaluate 0 = .ok (.aload_n 0, 1) := by decide +kernel
theorem dX2_evaluate_1 : decode cX2_evaluate 1 = .ok (.getfield 15, 3) := by decide +kernel
theorem dX2_evaluate_4 : decode cX2_evaluate 4 = .ok (.iconst 0, 1) := by decide +kernel
theorem dX2_evaluate_5 : decode cX2_evaluate 5 = .ok (.iload_n 1, 1) := by decide +kernel
theorem dX2_evaluate_6 : decode cX2_evaluate 6 = .ok (.iastore, 1) := by decide +kernel
theorem dX2_evaluate_7 : decode cX2_evaluate 7 = .ok (.aload_n 0, 1) := by decide +kernel
theorem dX2_evaluate_8 : decode cX2_evaluate 8 = .ok (.getfield 15, 3) := by decide +kernel
theorem dX2_evaluate_11 : decode cX2_evaluate 11 = .ok (.iconst 1, 1) := by decide +kernel
theorem dX2_evaluate_12 : decode cX2_evaluate 12 = .ok (.iload_n 2, 1) := by decide +kernel
theorem dX2_evaluate_13 : decode cX2_evaluate 13 = .ok (.iastore, 1) := by decide +kernel
theorem dX2_evaluate_14 : decode cX2_evaluate 14 = .ok (.aload_n 0, 1) := by decide +kernel
theorem dX2_evaluate_15 : decode cX2_evaluate 15 = .ok (.getfield 15, 3) := by decide +kernel
theorem dX2_evaluate_18 : decode cX2_evaluate 18 = .ok (.iconst 2, 1) := by decide +kernel
theorem dX2_evaluate_19 : decode cX2_evaluate 19 = .ok (.iload_n 3, 1) := by decide +kernel
theorem dX2_evaluate_20 : decode cX2_evaluate 20 = .ok (.iastore, 1) := by decide +kernel
theorem dX2_evaluate_21 : decode cX2_evaluate 21 = .ok (.aload_n 0, 1) := by decide +kernel
theorem dX2_evaluate_22 : decode cX2_evaluate 22 = .ok (.getfield 15, 3) := by decide +kernel
theorem dX2_evaluate_25 : decode cX2_evaluate 25 = .ok (.iconst 3, 1) := by decide +kernel
theorem dX2_evaluate_26 : decode cX2_evaluate 26 = .ok (.iload 4, 2) := by decide +kernel
theorem dX2_evaluate_28 : decode cX2_evaluate 28 = .ok (.iastore, 1) := by decide +kernel
theorem dX2_evaluate_29 : decode cX2_evaluate 29 = .ok (.aload_n 0, 1) := by decide +kernel
theorem dX2_evaluate_30 : decode cX2_evaluate 30 = .ok (.getfield 15, 3) := by decide +kernel
theorem dX2_evaluate_33 : decode cX2_evaluate 33 = .ok (.iconst 4, 1) := by decide +kernel
theorem dX2_evaluate_34 : decode cX2_evaluate 34 = .ok (.iload 5, 2) := by decide +kernel
theorem dX2_evaluate_36 : decode cX2_evaluate 36 = .ok (.iastore, 1) := by decide +kernel
theorem dX2_evaluate_37 : decode cX2_evaluate 37 = .ok (.iconst 0, 1) := by decide +kernel
theorem dX2_evaluate_38 : decode cX2_evaluate 38 = .ok (.istore 6, 2) := by decide +kernel
theorem dX2_evaluate_40 : decode cX2_evaluate 40 = .ok (.iconst 0, 1) := by decide +kernel
theorem dX2_evaluate_41 : decode cX2_evaluate 41 = .ok (.istore 7, 2) := by decide +kernel
theorem dX2_evaluate_43 : decode cX2_evaluate 43 = .ok (.iload 7, 2) := by decide +kernel
theorem dX2_evaluate_45 : decode cX2_evaluate 45 = .ok (.aload_n 0, 1) := by decide +kernel
theorem dX2_evaluate_46 : decode cX2_evaluate 46 = .ok (.getfield 21, 3) := by decide +kernel
theorem dX2_evaluate_49 : decode cX2_evaluate 49 = .ok (.if_icmp .ge 115, 3) := by decide +kernel
theorem dX2_evaluate_52 : decode cX2_evaluate 52 = .ok (.aload_n 0, 1) := by decide +kernel
theorem dX2_evaluate_53 : decode cX2_evaluate 53 = .ok (.getfield 9, 3) := by decide +kernel
theorem dX2_evaluate_56 : decode cX2_evaluate 56 = .ok (.iload 7, 2) := by decide +kernel
theorem dX2_evaluate_58 : decode cX2_evaluate 58 = .ok (.iaload, 1) := by decide +kernel
theorem dX2_evaluate_59 : decode cX2_evaluate 59 = .ok (.istore 8, 2) := by decide +kernel
theorem dX2_evaluate_61 : decode cX2_evaluate 61 = .ok (.iload 8, 2) := by decide +kernel
theorem dX2_evaluate_63 : decode cX2_evaluate 63 = .ok (.bipush (-5), 2) := by decide +kernel
theorem dX2_evaluate_65 : decode cX2_evaluate 65 = .ok (.if_icmp .lt 45, 3) := by decide +kernel
theorem dX2_evaluate_68 : decode cX2_evaluate 68 = .ok (.iload 6, 2) := by decide +kernel
theorem dX2_evaluate_70 : decode cX2_evaluate 70 = .ok (.aload_n 0, 1) := by decide +kernel
theorem dX2_evaluate_71 : decode cX2_evaluate 71 = .ok (.getfield 18, 3) := by decide +kernel
theorem dX2_evaluate_74 : decode cX2_evaluate 74 = .ok (.arraylength, 1) := by decide +kernel
theorem dX2_evaluate_75 : decode cX2_evaluate 75 = .ok (.if_icmp .ge 35, 3) := by decide +kernel
theorem dX2_evaluate_78 : decode cX2_evaluate 78 = .ok (.aload_n 0, 1) := by decide +kernel
theorem dX2_evaluate_79 : decode cX2_evaluate 79 = .ok (.getfield 18, 3) := by decide +kernel
theorem dX2_evaluate_82 : decode cX2_evaluate 82 = .ok (.iload 6, 2) := by decide +kernel
theorem dX2_evaluate_84 : decode cX2_evaluate 84 = .ok (.iload 8, 2) := by decide +kernel
theorem dX2_evaluate_86 : decode cX2_evaluate 86 = .ok (.ifCond .lt 8, 3) := by decide +kernel
theorem dX2_evaluate_89 : decode cX2_evaluate 89 = .ok (.iload 8, 2) := by decide +kernel
theorem dX2_evaluate_91 : decode cX2_evaluate 91 = .ok (.goto 12, 3) := by decide +kernel
theorem dX2_evaluate_94 : decode cX2_evaluate 94 = .ok (.aload_n 0, 1) := by decide +kernel
theorem dX2_evaluate_95 : decode cX2_evaluate 95 = .ok (.getfield 15, 3) := by decide +kernel
theorem dX2_evaluate_98 : decode cX2_evaluate 98 = .ok (.iconst (-1), 1) := by decide +kernel
theorem dX2_evaluate_99 : decode cX2_evaluate 99 = .ok (.iload 8, 2) := by decide +kernel
theorem dX2_evaluate_101 : decode cX2_evaluate 101 = .ok (.isub, 1) := by decide +kernel
theorem dX2_evaluate_102 : decode cX2_evaluate 102 = .ok (.iaload, 1) := by decide +kernel
theorem dX2_evaluate_103 : decode cX2_evaluate 103 = .ok (.iastore, 1) := by decide +kernel
theorem dX2_evaluate_104 : decode cX2_evaluate 104 = .ok (.iinc 6 1, 3) := by decide +kernel
theorem dX2_evaluate_107 : decode cX2_evaluate 107 = .ok (.goto 51, 3) := by decide +kernel
theorem dX2_evaluate_110 : decode cX2_evaluate 110 = .ok (.iload 8, 2) := by decide +kernel
theorem dX2_evaluate_112 : decode cX2_evaluate 112 = .ok (.bipush (-5), 2) := by decide +kernel
theorem dX2_evaluate_114 : decode cX2_evaluate 114 = .ok (.if_icmp .ge 44, 3) := by decide +kernel
theorem dX2_evaluate_117 : decode cX2_evaluate 117 = .ok (.iload 6, 2) := by decide +kernel
theorem dX2_evaluate_119 : decode cX2_evaluate 119 = .ok (.iconst 2, 1) := by decide +kernel
theorem dX2_evaluate_120 : decode cX2_evaluate 120 = .ok (.if_icmp .lt 38, 3) := by decide +kernel
theorem dX2_evaluate_123 : decode cX2_evaluate 123 = .ok (.iinc 6 (-1), 3) := by decide +kernel
theorem dX2_evaluate_126 : decode cX2_evaluate 126 = .ok (.aload_n 0, 1) := by decide +kernel
theorem dX2_evaluate_127 : decode cX2_evaluate 127 = .ok (.getfield 18, 3) := by decide +kernel
theorem dX2_evaluate_130 : decode cX2_evaluate 130 = .ok (.iload 6, 2) := by decide +kernel
theorem dX2_evaluate_132 : decode cX2_evaluate 132 = .ok (.iconst 1, 1) := by decide +kernel
theorem dX2_evaluate_133 : decode cX2_evaluate 133 = .ok (.isub, 1) := by decide +kernel
theorem dX2_evaluate_134 : decode cX2_evaluate 134 = .ok (.iload 8, 2) := by decide +kernel
theorem dX2_evaluate_136 : decode cX2_evaluate 136 = .ok (.aload_n 0, 1) := by decide +kernel
theorem dX2_evaluate_137 : decode cX2_evaluate 137 = .ok (.getfield 18, 3) := by decide +kernel
theorem dX2_evaluate_140 : decode cX2_evaluate 140 = .ok (.iload 6, 2) := by decide +kernel
theorem dX2_evaluate_142 : decode cX2_evaluate 142 = .ok (.iconst 1, 1) := by decide +kernel
theorem dX2_evaluate_143 : decode cX2_evaluate 143 = .ok (.isub, 1) := by decide +kernel
theorem dX2_evaluate_144 : decode cX2_evaluate 144 = .ok (.iaload, 1) := by decide +kernel
theorem dX2_evaluate_145 : decode cX2_evaluate 145 = .ok (.i2l, 1) := by decide +kernel
theorem dX2_evaluate_146 : decode cX2_evaluate 146 = .ok (.aload_n 0, 1) := by decide +kernel
theorem dX2_evaluate_147 : decode cX2_evaluate 147 = .ok (.getfield 18, 3) := by decide +kernel
theorem dX2_evaluate_150 : decode cX2_evaluate 150 = .ok (.iload 6, 2) := by decide +kernel
theorem dX2_evaluate_152 : decode cX2_evaluate 152 = .ok (.iaload, 1) := by decide +kernel
theorem dX2_evaluate_153 : decode cX2_evaluate 153 = .ok (.i2l, 1) := by decide +kernel
theorem dX2_evaluate_154 : decode cX2_evaluate 154 = .ok (.invokestatic 32, 3) := by decide +kernel
theorem dX2_evaluate_157 : decode cX2_evaluate 157 = .ok (.iastore, 1) := by decide +kernel
theorem dX2_evaluate_158 : decode cX2_evaluate 158 = .ok (.iinc 7 1, 3) := by decide +kernel
theorem dX2_evaluate_161 : decode cX2_evaluate 161 = .ok (.goto (-118), 3) := by decide +kernel
theorem dX2_evaluate_164 : decode cX2_evaluate 164 = .ok (.aload_n 0, 1) := by decide +kernel
theorem dX2_evaluate_165 : decode cX2_evaluate 165 = .ok (.getfield 18, 3) := by decide +kernel
theorem dX2_evaluate_168 : decode cX2_evaluate 168 = .ok (.iconst 0, 1) := by decide +kernel
theorem dX2_evaluate_169 : decode cX2_evaluate 169 = .ok (.iaload, 1) := by decide +kernel
theorem dX2_evaluate_170 : decode cX2_evaluate 170 = .ok (.ireturn, 1) := by decide +kernel
theorem dX2_operate_0 : decode cX2_operate 0 = .ok (.iload_n 0, 1) := by decide +kernel
theorem dX2_operate_1 : decode cX2_operate 1 = .ok (.tableswitch 51 (-8) (-6) #[43, 35, 27], 27) := by decide +kernel
theorem dX2_operate_28 : decode cX2_operate 28 = .ok (.lload_n 1, 1) := by decide +kernel
theorem dX2_operate_29 : decode cX2_operate 29 = .ok (.lload_n 3, 1) := by decide +kernel
theorem dX2_operate_30 : decode cX2_operate 30 = .ok (.ladd, 1) := by decide +kernel
theorem dX2_operate_31 : decode cX2_operate 31 = .ok (.lstore 5, 2) := by decide +kernel
theorem dX2_operate_33 : decode cX2_operate 33 = .ok (.goto 34, 3) := by decide +kernel
theorem dX2_operate_36 : decode cX2_operate 36 = .ok (.lload_n 1, 1) := by decide +kernel
theorem dX2_operate_37 : decode cX2_operate 37 = .ok (.lload_n 3, 1) := by decide +kernel
theorem dX2_operate_38 : decode cX2_operate 38 = .ok (.lsub, 1) := by decide +kernel
theorem dX2_operate_39 : decode cX2_operate 39 = .ok (.lstore 5, 2) := by decide +kernel
theorem dX2_operate_41 : decode cX2_operate 41 = .ok (.goto 26, 3) := by decide +kernel
theorem dX2_operate_44 : decode cX2_operate 44 = .ok (.lload_n 1, 1) := by decide +kernel
theorem dX2_operate_45 : decode cX2_operate 45 = .ok (.lload_n 3, 1) := by decide +kernel
theorem dX2_operate_46 : decode cX2_operate 46 = .ok (.lmul, 1) := by decide +kernel
theorem dX2_operate_47 : decode cX2_operate 47 = .ok (.lstore 5, 2) := by decide +kernel
theorem dX2_operate_49 : decode cX2_operate 49 = .ok (.goto 18, 3) := by decide +kernel
theorem dX2_operate_52 : decode cX2_operate 52 = .ok (.lload_n 3, 1) := by decide +kernel
theorem dX2_operate_53 : decode cX2_operate 53 = .ok (.lconst 0, 1) := by decide +kernel
theorem dX2_operate_54 : decode cX2_operate 54 = .ok (.lcmp, 1) := by decide +kernel
theorem dX2_operate_55 : decode cX2_operate 55 = .ok (.ifCond .ne 7, 3) := by decide +kernel
theorem dX2_operate_58 : decode cX2_operate 58 = .ok (.lconst 0, 1) := by decide +kernel
theorem dX2_operate_59 : decode cX2_operate 59 = .ok (.goto 6, 3) := by decide +kernel
theorem dX2_operate_62 : decode cX2_operate 62 = .ok (.lload_n 1, 1) := by decide +kernel
theorem dX2_operate_63 : decode cX2_operate 63 = .ok (.lload_n 3, 1) := by decide +kernel
theorem dX2_operate_64 : decode cX2_operate 64 = .ok (.ldiv, 1) := by decide +kernel
theorem dX2_operate_65 : decode cX2_operate 65 = .ok (.lstore 5, 2) := by decide +kernel
theorem dX2_operate_67 : decode cX2_operate 67 = .ok (.ldc2_w 36, 3) := by decide +kernel
theorem dX2_operate_70 : decode cX2_operate 70 = .ok (.ldc2_w 38, 3) := by decide +kernel
theorem dX2_operate_73 : decode cX2_operate 73 = .ok (.lload 5, 2) := by decide +kernel
theorem dX2_operate_75 : decode cX2_operate 75 = .ok (.invokestatic 40, 3) := by decide +kernel
theorem dX2_operate_78 : decode cX2_operate 78 = .ok (.invokestatic 46, 3) := by decide +kernel
theorem dX2_operate_81 : decode cX2_operate 81 = .ok (.l2i, 1) := by decide +kernel
theorem dX2_operate_82 : decode cX2_operate 82 = .ok (.ireturn, 1) := by decide +kernel
theorem dX3_init_0 : decode cX3_init 0 = .ok (.aload_n 0, 1) := by decide +kernel
theorem dX3_init_1 : decode cX3_init 1 = .ok (.invokespecial 3, 3) := by decide +kernel
theorem dX3_init_4 : decode cX3_init 4 = .ok (.aload_n 0, 1) := by decide +kernel
theorem dX3_init_5 : decode cX3_init 5 = .ok (.bipush 9, 2) := by decide +kernel
theorem dX3_init_7 : decode cX3_init 7 = .ok (.anewarray 9, 3) := by decide +kernel
theorem dX3_init_10 : decode cX3_init 10 = .ok (.putfield 11, 3) := by decide +kernel
theorem dX3_init_13 : decode cX3_init 13 = .ok (.iconst 0, 1) := by decide +kernel
theorem dX3_init_14 : decode cX3_init 14 = .ok (.istore_n 1, 1) := by decide +kernel
theorem dX3_init_15 : decode cX3_init 15 = .ok (.iload_n 1, 1) := by decide +kernel
theorem dX3_init_16 : decode cX3_init 16 = .ok (.aload_n 0, 1) := by decide +kernel
theorem dX3_init_17 : decode cX3_init 17 = .ok (.getfield 11, 3) := by decide +kernel
theorem dX3_init_20 : decode cX3_init 20 = .ok (.arraylength, 1) := by decide +kernel
theorem dX3_init_21 : decode cX3_init 21 = .ok (.if_icmp .ge 22, 3) := by decide +kernel
theorem dX3_init_24 : decode cX3_init 24 = .ok (.aload_n 0, 1) := by decide +kernel
theorem dX3_init_25 : decode cX3_init 25 = .ok (.getfield 11, 3) := by decide +kernel
theorem dX3_init_28 : decode cX3_init 28 = .ok (.iload_n 1, 1) := by decide +kernel
theorem dX3_init_29 : decode cX3_init 29 = .ok (.new 9, 3) := by decide +kernel
theorem dX3_init_32 : decode cX3_init 32 = .ok (.dup, 1) := by decide +kernel
theorem dX3_init_33 : decode cX3_init 33 = .ok (.invokespecial 17, 3) := by decide +kernel
theorem dX3_init_36 : decode cX3_init 36 = .ok (.aastore, 1) := by decide +kernel
theorem dX3_init_37 : decode cX3_init 37 = .ok (.iinc 1 1, 3) := by decide +kernel
theorem dX3_init_40 : decode cX3_init 40 = .ok (.goto (-25), 3) := by decide +kernel
theorem dX3_init_43 : decode cX3_init 43 = .ok (.aload_n 0, 1) := by decide +kernel
theorem dX3_init_44 : decode cX3_init 44 = .ok (.iconst 0, 1) := by decide +kernel
theorem dX3_init_45 : decode cX3_init 45 = .ok (.putfield 18, 3) := by decide +kernel
theorem dX3_init_48 : decode cX3_init 48 = .ok (.aload_n 0, 1) := by decide +kernel
theorem dX3_init_49 : decode cX3_init 49 = .ok (.iconst 0, 1) := by decide +kernel
theorem dX3_init_50 : decode cX3_init 50 = .ok (.putfield 22, 3) := by decide +kernel
theorem dX3_init_53 : decode cX3_init 53 = .ok (.return_, 1) := by decide +kernel
theorem dX3_latest_0 : decode cX3_latest 0 = .ok (.aload_n 0, 1) := by decide +kernel
theorem dX3_latest_1 : decode cX3_latest 1 = .ok (.getfield 11, 3) := by decide +kernel
theorem dX3_latest_4 : decode cX3_latest 4 = .ok (.aload_n 0, 1) := by decide +kernel
theorem dX3_latest_5 : decode cX3_latest 5 = .ok (.getfield 18, 3) := by decide +kernel
theorem dX3_latest_8 : decode cX3_latest 8 = .ok (.aaload, 1) := by decide +kernel
theorem dX3_latest_9 : decode cX3_latest 9 = .ok (.areturn, 1) := by decide +kernel
theorem dX3_beginChange_0 : decode cX3_beginChange 0 = .ok (.aload_n 0, 1) := by decide +kernel
theorem dX3_beginChange_1 : decode cX3_beginChange 1 = .ok (.getfield 18, 3) := by decide +kernel
theorem dX3_beginChange_4 : decode cX3_beginChange 4 = .ok (.iconst 1, 1) := by decide +kernel
theorem dX3_beginChange_5 : decode cX3_beginChange 5 = .ok (.iadd, 1) := by decide +kernel
theorem dX3_beginChange_6 : decode cX3_beginChange 6 = .ok (.aload_n 0, 1) := by decide +kernel
theorem dX3_beginChange_7 : decode cX3_beginChange 7 = .ok (.getfield 11, 3) := by decide +kernel
theorem dX3_beginChange_10 : decode cX3_beginChange 10 = .ok (.arraylength, 1) := by decide +kernel
theorem dX3_beginChange_11 : decode cX3_beginChange 11 = .ok (.if_icmp .ge 12, 3) := by decide +kernel
theorem dX3_beginChange_14 : decode cX3_beginChange 14 = .ok (.aload_n 0, 1) := by decide +kernel
theorem dX3_beginChange_15 : decode cX3_beginChange 15 = .ok (.getfield 18, 3) := by decide +kernel
theorem dX3_beginChange_18 : decode cX3_beginChange 18 = .ok (.iconst 1, 1) := by decide +kernel
theorem dX3_beginChange_19 : decode cX3_beginChange 19 = .ok (.iadd, 1) := by decide +kernel
theorem dX3_beginChange_20 : decode cX3_beginChange 20 = .ok (.goto 4, 3) := by decide +kernel
theorem dX3_beginChange_23 : decode cX3_beginChange 23 = .ok (.iconst 0, 1) := by decide +kernel
theorem dX3_beginChange_24 : decode cX3_beginChange 24 = .ok (.istore_n 1, 1) := by decide +kernel
theorem dX3_beginChange_25 : decode cX3_beginChange 25 = .ok (.aload_n 0, 1) := by decide +kernel
theorem dX3_beginChange_26 : decode cX3_beginChange 26 = .ok (.getfield 11, 3) := by decide +kernel
theorem dX3_beginChange_29 : decode cX3_beginChange 29 = .ok (.iload_n 1, 1) := by decide +kernel
theorem dX3_beginChange_30 : decode cX3_beginChange 30 = .ok (.aaload, 1) := by decide +kernel
theorem dX3_beginChange_31 : decode cX3_beginChange 31 = .ok (.aload_n 0, 1) := by decide +kernel
theorem dX3_beginChange_32 : decode cX3_beginChange 32 = .ok (.getfield 11, 3) := by decide +kernel
theorem dX3_beginChange_35 : decode cX3_beginChange 35 = .ok (.aload_n 0, 1) := by decide +kernel
theorem dX3_beginChange_36 : decode cX3_beginChange 36 = .ok (.getfield 18, 3) := by decide +kernel
theorem dX3_beginChange_39 : decode cX3_beginChange 39 = .ok (.aaload, 1) := by decide +kernel
theorem dX3_beginChange_40 : decode cX3_beginChange 40 = .ok (.invokevirtual 25, 3) := by decide +kernel
theorem dX3_beginChange_43 : decode cX3_beginChange 43 = .ok (.aload_n 0, 1) := by decide +kernel
theorem dX3_beginChange_44 : decode cX3_beginChange 44 = .ok (.iload_n 1, 1) := by decide +kernel
theorem dX3_beginChange_45 : decode cX3_beginChange 45 = .ok (.putfield 18, 3) := by decide +kernel
theorem dX3_beginChange_48 : decode cX3_beginChange 48 = .ok (.aload_n 0, 1) := by decide +kernel
theorem dX3_beginChange_49 : decode cX3_beginChange 49 = .ok (.aload_n 0, 1) := by decide +kernel
theorem dX3_beginChange_50 : decode cX3_beginChange 50 = .ok (.getfield 22, 3) := by decide +kernel
theorem dX3_beginChange_53 : decode cX3_beginChange 53 = .ok (.iconst 1, 1) := by decide +kernel
theorem dX3_beginChange_54 : decode cX3_beginChange 54 = .ok (.iadd, 1) := by decide +kernel
theorem dX3_beginChange_55 : decode cX3_beginChange 55 = .ok (.bipush 8, 2) := by decide +kernel
theorem dX3_beginChange_57 : decode cX3_beginChange 57 = .ok (.invokestatic 29, 3) := by decide +kernel
theorem dX3_beginChange_60 : decode cX3_beginChange 60 = .ok (.putfield 22, 3) := by decide +kernel
theorem dX3_beginChange_63 : decode cX3_beginChange 63 = .ok (.aload_n 0, 1) := by decide +kernel
theorem dX3_beginChange_64 : decode cX3_beginChange 64 = .ok (.getfield 11, 3) := by decide +kernel
theorem dX3_beginChange_67 : decode cX3_beginChange 67 = .ok (.aload_n 0, 1) := by decide +kernel
theorem dX3_beginChange_68 : decode cX3_beginChange 68 = .ok (.getfield 18, 3) := by decide +kernel
theorem dX3_beginChange_71 : decode cX3_beginChange 71 = .ok (.aaload, 1) := by decide +kernel
theorem dX3_beginChange_72 : decode cX3_beginChange 72 = .ok (.areturn, 1) := by decide +kernel
theorem dX3_stepBack_0 : decode cX3_stepBack 0 = .ok (.aload_n 0, 1) := by decide +kernel
theorem dX3_stepBack_1 : decode cX3_stepBack 1 = .ok (.getfield 22, 3) := by decide +kernel
theorem dX3_stepBack_4 : decode cX3_stepBack 4 = .ok (.ifCond .ne 5, 3) := by decide +kernel
theorem dX3_stepBack_7 : decode cX3_stepBack 7 = .ok (.iconst (-1), 1) := by decide +kernel
theorem dX3_stepBack_8 : decode cX3_stepBack 8 = .ok (.ireturn, 1) := by decide +kernel
theorem dX3_stepBack_9 : decode cX3_stepBack 9 = .ok (.aload_n 0, 1) := by decide +kernel
theorem dX3_stepBack_10 : decode cX3_stepBack 10 = .ok (.aload_n 0, 1) := by decide +kernel
theorem dX3_stepBack_11 : decode cX3_stepBack 11 = .ok (.getfield 18, 3) := by decide +kernel
theorem dX3_stepBack_14 : decode cX3_stepBack 14 = .ok (.ifCond .le 12, 3) := by decide +kernel
theorem dX3_stepBack_17 : decode cX3_stepBack 17 = .ok (.aload_n 0, 1) := by decide +kernel
theorem dX3_stepBack_18 : decode cX3_stepBack 18 = .ok (.getfield 18, 3) := by decide +kernel
theorem dX3_stepBack_21 : decode cX3_stepBack 21 = .ok (.iconst 1, 1) := by decide +kernel
theorem dX3_stepBack_22 : decode cX3_stepBack 22 = .ok (.isub, 1) := by decide +kernel
theorem dX3_stepBack_23 : decode cX3_stepBack 23 = .ok (.goto 10, 3) := by decide +kernel
theorem dX3_stepBack_26 : decode cX3_stepBack 26 = .ok (.aload_n 0, 1) := by decide +kernel
theorem dX3_stepBack_27 : decode cX3_stepBack 27 = .ok (.getfield 11, 3) := by decide +kernel
theorem dX3_stepBack_30 : decode cX3_stepBack 30 = .ok (.arraylength, 1) := by decide +kernel
theorem dX3_stepBack_31 : decode cX3_stepBack 31 = .ok (.iconst 1, 1) := by decide +kernel
theorem dX3_stepBack_32 : decode cX3_stepBack 32 = .ok (.isub, 1) := by decide +kernel
theorem dX3_stepBack_33 : decode cX3_stepBack 33 = .ok (.putfield 18, 3) := by decide +kernel
theorem dX3_stepBack_36 : decode cX3_stepBack 36 = .ok (.aload_n 0, 1) := by decide +kernel
theorem dX3_stepBack_37 : decode cX3_stepBack 37 = .ok (.dup, 1) := by decide +kernel
theorem dX3_stepBack_38 : decode cX3_stepBack 38 = .ok (.getfield 22, 3) := by decide +kernel
theorem dX3_stepBack_41 : decode cX3_stepBack 41 = .ok (.iconst 1, 1) := by decide +kernel
theorem dX3_stepBack_42 : decode cX3_stepBack 42 = .ok (.isub, 1) := by decide +kernel
theorem dX3_stepBack_43 : decode cX3_stepBack 43 = .ok (.putfield 22, 3) := by decide +kernel
theorem dX3_stepBack_46 : decode cX3_stepBack 46 = .ok (.aload_n 0, 1) := by decide +kernel
theorem dX3_stepBack_47 : decode cX3_stepBack 47 = .ok (.getfield 22, 3) := by decide +kernel
theorem dX3_stepBack_50 : decode cX3_stepBack 50 = .ok (.ireturn, 1) := by decide +kernel
theorem dX4_init_0 : decode cX4_init 0 = .ok (.aload_n 0, 1) := by decide +kernel
theorem dX4_init_1 : decode cX4_init 1 = .ok (.invokespecial 3, 3) := by decide +kernel
theorem dX4_init_4 : decode cX4_init 4 = .ok (.aload_n 0, 1) := by decide +kernel
theorem dX4_init_5 : decode cX4_init 5 = .ok (.bipush 20, 2) := by decide +kernel
theorem dX4_init_7 : decode cX4_init 7 = .ok (.anewarray 9, 3) := by decide +kernel
theorem dX4_init_10 : decode cX4_init 10 = .ok (.putfield 11, 3) := by decide +kernel
theorem dX4_init_13 : decode cX4_init 13 = .ok (.iconst 0, 1) := by decide +kernel
theorem dX4_init_14 : decode cX4_init 14 = .ok (.istore_n 1, 1) := by decide +kernel
theorem dX4_init_15 : decode cX4_init 15 = .ok (.iload_n 1, 1) := by decide +kernel
theorem dX4_init_16 : decode cX4_init 16 = .ok (.bipush 20, 2) := by decide +kernel
theorem dX4_init_18 : decode cX4_init 18 = .ok (.if_icmp .ge 22, 3) := by decide +kernel
theorem dX4_init_21 : decode cX4_init 21 = .ok (.aload_n 0, 1) := by decide +kernel
theorem dX4_init_22 : decode cX4_init 22 = .ok (.getfield 11, 3) := by decide +kernel
theorem dX4_init_25 : decode cX4_init 25 = .ok (.iload_n 1, 1) := by decide +kernel
theorem dX4_init_26 : decode cX4_init 26 = .ok (.new 9, 3) := by decide +kernel
theorem dX4_init_29 : decode cX4_init 29 = .ok (.dup, 1) := by decide +kernel
theorem dX4_init_30 : decode cX4_init 30 = .ok (.invokespecial 17, 3) := by decide +kernel
theorem dX4_init_33 : decode cX4_init 33 = .ok (.aastore, 1) := by decide +kernel
theorem dX4_init_34 : decode cX4_init 34 = .ok (.iinc 1 1, 3) := by decide +kernel
theorem dX4_init_37 : decode cX4_init 37 = .ok (.goto (-22), 3) := by decide +kernel
theorem dX4_init_40 : decode cX4_init 40 = .ok (.aload_n 0, 1) := by decide +kernel
theorem dX4_init_41 : decode cX4_init 41 = .ok (.bipush 8, 2) := by decide +kernel
theorem dX4_init_43 : decode cX4_init 43 = .ok (.newarray .int, 2) := by decide +kernel
theorem dX4_init_45 : decode cX4_init 45 = .ok (.putfield 18, 3) := by decide +kernel
theorem dX4_init_48 : decode cX4_init 48 = .ok (.aload_n 0, 1) := by decide +kernel
theorem dX4_init_49 : decode cX4_init 49 = .ok (.bipush 8, 2) := by decide +kernel
theorem dX4_init_51 : decode cX4_init 51 = .ok (.newarray .int, 2) := by decide +kernel
theorem dX4_init_53 : decode cX4_init 53 = .ok (.putfield 22, 3) := by decide +kernel
theorem dX4_init_56 : decode cX4_init 56 = .ok (.aload_n 0, 1) := by decide +kernel
theorem dX4_init_57 : decode cX4_init 57 = .ok (.bipush 10, 2) := by decide +kernel
theorem dX4_init_59 : decode cX4_init 59 = .ok (.newarray .int, 2) := by decide +kernel
theorem dX4_init_61 : decode cX4_init 61 = .ok (.putfield 25, 3) := by decide +kernel
theorem dX4_init_64 : decode cX4_init 64 = .ok (.aload_n 0, 1) := by decide +kernel
theorem dX4_init_65 : decode cX4_init 65 = .ok (.new 28, 3) := by decide +kernel
theorem dX4_init_68 : decode cX4_init 68 = .ok (.dup, 1) := by decide +kernel
theorem dX4_init_69 : decode cX4_init 69 = .ok (.invokespecial 30, 3) := by decide +kernel
theorem dX4_init_72 : decode cX4_init 72 = .ok (.putfield 31, 3) := by decide +kernel
theorem dX4_init_75 : decode cX4_init 75 = .ok (.aload_n 0, 1) := by decide +kernel
theorem dX4_init_76 : decode cX4_init 76 = .ok (.new 35, 3) := by decide +kernel
theorem dX4_init_79 : decode cX4_init 79 = .ok (.dup, 1) := by decide +kernel
theorem dX4_init_80 : decode cX4_init 80 = .ok (.sipush 160, 3) := by decide +kernel
theorem dX4_init_83 : decode cX4_init 83 = .ok (.invokespecial 37, 3) := by decide +kernel
theorem dX4_init_86 : decode cX4_init 86 = .ok (.putfield 40, 3) := by decide +kernel
theorem dX4_init_89 : decode cX4_init 89 = .ok (.return_, 1) := by decide +kernel
theorem dX4_clear_0 : decode cX4_clear 0 = .ok (.aload_n 0, 1) := by decide +kernel
theorem dX4_clear_1 : decode cX4_clear 1 = .ok (.iconst 0, 1) := by decide +kernel
theorem dX4_clear_2 : decode cX4_clear 2 = .ok (.putfield 44, 3) := by decide +kernel
theorem dX4_clear_5 : decode cX4_clear 5 = .ok (.aload_n 0, 1) := by decide +kernel
theorem dX4_clear_6 : decode cX4_clear 6 = .ok (.iconst 0, 1) := by decide +kernel
theorem dX4_clear_7 : decode cX4_clear 7 = .ok (.putfield 48, 3) := by decide +kernel
theorem dX4_clear_10 : decode cX4_clear 10 = .ok (.iconst 0, 1) := by decide +kernel
theorem dX4_clear_11 : decode cX4_clear 11 = .ok (.istore_n 1, 1) := by decide +kernel
theorem dX4_clear_12 : decode cX4_clear 12 = .ok (.iload_n 1, 1) := by decide +kernel
theorem dX4_clear_13 : decode cX4_clear 13 = .ok (.aload_n 0, 1) := by decide +kernel
theorem dX4_clear_14 : decode cX4_clear 14 = .ok (.getfield 25, 3) := by decide +kernel
theorem dX4_clear_17 : decode cX4_clear 17 = .ok (.arraylength, 1) := by decide +kernel
theorem dX4_clear_18 : decode cX4_clear 18 = .ok (.if_icmp .ge 16, 3) := by decide +kernel
theorem dX4_clear_21 : decode cX4_clear 21 = .ok (.aload_n 0, 1) := by decide +kernel
theorem dX4_clear_22 : decode cX4_clear 22 = .ok (.getfield 25, 3) := by decide +kernel
theorem dX4_clear_25 : decode cX4_clear 25 = .ok (.iload_n 1, 1) := by decide +kernel
theorem dX4_clear_26 : decode cX4_clear 26 = .ok (.iconst 0, 1) := by decide +kernel
theorem dX4_clear_27 : decode cX4_clear 27 = .ok (.iastore, 1) := by decide +kernel
theorem dX4_clear_28 : decode cX4_clear 28 = .ok (.iinc 1 1, 3) := by decide +kernel
theorem dX4_clear_31 : decode cX4_clear 31 = .ok (.goto (-19), 3) := by decide +kernel
theorem dX4_clear_34 : decode cX4_clear 34 = .ok (.aload_n 0, 1) := by decide +kernel
theorem dX4_clear_35 : decode cX4_clear 35 = .ok (.getfield 31, 3) := by decide +kernel
theorem dX4_clear_38 : decode cX4_clear 38 = .ok (.invokevirtual 51, 3) := by decide +kernel
theorem dX4_clear_41 : decode cX4_clear 41 = .ok (.aload_n 0, 1) := by decide +kernel
theorem dX4_clear_42 : decode cX4_clear 42 = .ok (.getfield 40, 3) := by decide +kernel
theorem dX4_clear_45 : decode cX4_clear 45 = .ok (.iconst 0, 1) := by decide +kernel
theorem dX4_clear_46 : decode cX4_clear 46 = .ok (.putfield 54, 3) := by decide +kernel
theorem dX4_clear_49 : decode cX4_clear 49 = .ok (.aload_n 0, 1) := by decide +kernel
theorem dX4_clear_50 : decode cX4_clear 50 = .ok (.iconst 0, 1) := by decide +kernel
theorem dX4_clear_51 : decode cX4_clear 51 = .ok (.putfield 57, 3) := by decide +kernel
theorem dX4_clear_54 : decode cX4_clear 54 = .ok (.return_, 1) := by decide +kernel
theorem dX4_copyFrom_0 : decode cX4_copyFrom 0 = .ok (.aload_n 0, 1) := by decide +kernel
theorem dX4_copyFrom_1 : decode cX4_copyFrom 1 = .ok (.aload_n 1, 1) := by decide +kernel
theorem dX4_copyFrom_2 : decode cX4_copyFrom 2 = .ok (.getfield 44, 3) := by decide +kernel
theorem dX4_copyFrom_5 : decode cX4_copyFrom 5 = .ok (.putfield 44, 3) := by decide +kernel
theorem dX4_copyFrom_8 : decode cX4_copyFrom 8 = .ok (.iconst 0, 1) := by decide +kernel
theorem dX4_copyFrom_9 : decode cX4_copyFrom 9 = .ok (.istore_n 2, 1) := by decide +kernel
theorem dX4_copyFrom_10 : decode cX4_copyFrom 10 = .ok (.iload_n 2, 1) := by decide +kernel
theorem dX4_copyFrom_11 : decode cX4_copyFrom 11 = .ok (.aload_n 0, 1) := by decide +kernel
theorem dX4_copyFrom_12 : decode cX4_copyFrom 12 = .ok (.getfield 44, 3) := by decide +kernel
theorem dX4_copyFrom_15 : decode cX4_copyFrom 15 = .ok (.if_icmp .ge 24, 3) := by decide +kernel
theorem dX4_copyFrom_18 : decode cX4_copyFrom 18 = .ok (.aload_n 0, 1) := by decide +kernel
theorem dX4_copyFrom_19 : decode cX4_copyFrom 19 = .ok (.getfield 11, 3) := by decide +kernel
theorem dX4_copyFrom_22 : decode cX4_copyFrom 22 = .ok (.iload_n 2, 1) := by decide +kernel
theorem dX4_copyFrom_23 : decode cX4_copyFrom 23 = .ok (.aaload, 1) := by decide +kernel
theorem dX4_copyFrom_24 : decode cX4_copyFrom 24 = .ok (.aload_n 1, 1) := by decide +kernel
theorem dX4_copyFrom_25 : decode cX4_copyFrom 25 = .ok (.getfield 11, 3) := by decide +kernel
theorem dX4_copyFrom_28 : decode cX4_copyFrom 28 = .ok (.iload_n 2, 1) := by decide +kernel
theorem dX4_copyFrom_29 : decode cX4_copyFrom 29 = .ok (.aaload, 1) := by decide +kernel
theorem dX4_copyFrom_30 : decode cX4_copyFrom 30 = .ok (.invokevirtual 60, 3) := by decide +kernel
theorem dX4_copyFrom_33 : decode cX4_copyFrom 33 = .ok (.iinc 2 1, 3) := by decide +kernel
theorem dX4_copyFrom_36 : decode cX4_copyFrom 36 = .ok (.goto (-26), 3) := by decide +kernel
theorem dX4_copyFrom_39 : decode cX4_copyFrom 39 = .ok (.aload_n 0, 1) := by decide +kernel
theorem dX4_copyFrom_40 : decode cX4_copyFrom 40 = .ok (.aload_n 1, 1) := by decide +kernel
theorem dX4_copyFrom_41 : decode cX4_copyFrom 41 = .ok (.getfield 48, 3) := by decide +kernel
theorem dX4_copyFrom_44 : decode cX4_copyFrom 44 = .ok (.putfield 48, 3) := by decide +kernel
theorem dX4_copyFrom_47 : decode cX4_copyFrom 47 = .ok (.iconst 0, 1) := by decide +kernel
theorem dX4_copyFrom_48 : decode cX4_copyFrom 48 = .ok (.istore_n 2, 1) := by decide +kernel
theorem dX4_copyFrom_49 : decode cX4_copyFrom 49 = .ok (.iload_n 2, 1) := by decide +kernel
theorem dX4_copyFrom_50 : decode cX4_copyFrom 50 = .ok (.aload_n 0, 1) := by decide +kernel
theorem dX4_copyFrom_51 : decode cX4_copyFrom 51 = .ok (.getfield 48, 3) := by decide +kernel
theorem dX4_copyFrom_54 : decode cX4_copyFrom 54 = .ok (.if_icmp .ge 33, 3) := by decide +kernel
theorem dX4_copyFrom_57 : decode cX4_copyFrom 57 = .ok (.aload_n 0, 1) := by decide +kernel
theorem dX4_copyFrom_58 : decode cX4_copyFrom 58 = .ok (.getfield 18, 3) := by decide +kernel
theorem dX4_copyFrom_61 : decode cX4_copyFrom 61 = .ok (.iload_n 2, 1) := by decide +kernel
theorem dX4_copyFrom_62 : decode cX4_copyFrom 62 = .ok (.aload_n 1, 1) := by decide +kernel
theorem dX4_copyFrom_63 : decode cX4_copyFrom 63 = .ok (.getfield 18, 3) := by decide +kernel
theorem dX4_copyFrom_66 : decode cX4_copyFrom 66 = .ok (.iload_n 2, 1) := by decide +kernel
theorem dX4_copyFrom_67 : decode cX4_copyFrom 67 = .ok (.iaload, 1) := by decide +kernel
theorem dX4_copyFrom_68 : decode cX4_copyFrom 68 = .ok (.iastore, 1) := by decide +kernel
theorem dX4_copyFrom_69 : decode cX4_copyFrom 69 = .ok (.aload_n 0, 1) := by decide +kernel
theorem dX4_copyFrom_70 : decode cX4_copyFrom 70 = .ok (.getfield 22, 3) := by decide +kernel
theorem dX4_copyFrom_73 : decode cX4_copyFrom 73 = .ok (.iload_n 2, 1) := by decide +kernel
theorem dX4_copyFrom_74 : decode cX4_copyFrom 74 = .ok (.aload_n 1, 1) := by decide +kernel
theorem dX4_copyFrom_75 : decode cX4_copyFrom 75 = .ok (.getfield 22, 3) := by decide +kernel
theorem dX4_copyFrom_78 : decode cX4_copyFrom 78 = .ok (.iload_n 2, 1) := by decide +kernel
theorem dX4_copyFrom_79 : decode cX4_copyFrom 79 = .ok (.iaload, 1) := by decide +kernel
theorem dX4_copyFrom_80 : decode cX4_copyFrom 80 = .ok (.iastore, 1) := by decide +kernel
theorem dX4_copyFrom_81 : decode cX4_copyFrom 81 = .ok (.iinc 2 1, 3) := by decide +kernel
theorem dX4_copyFrom_84 : decode cX4_copyFrom 84 = .ok (.goto (-35), 3) := by decide +kernel
theorem dX4_copyFrom_87 : decode cX4_copyFrom 87 = .ok (.iconst 0, 1) := by decide +kernel
theorem dX4_copyFrom_88 : decode cX4_copyFrom 88 = .ok (.istore_n 2, 1) := by decide +kernel
theorem dX4_copyFrom_89 : decode cX4_copyFrom 89 = .ok (.iload_n 2, 1) := by decide +kernel
theorem dX4_copyFrom_90 : decode cX4_copyFrom 90 = .ok (.aload_n 0, 1) := by decide +kernel
theorem dX4_copyFrom_91 : decode cX4_copyFrom 91 = .ok (.getfield 25, 3) := by decide +kernel
theorem dX4_copyFrom_94 : decode cX4_copyFrom 94 = .ok (.arraylength, 1) := by decide +kernel
theorem dX4_copyFrom_95 : decode cX4_copyFrom 95 = .ok (.if_icmp .ge 21, 3) := by decide +kernel
theorem dX4_copyFrom_98 : decode cX4_copyFrom 98 = .ok (.aload_n 0, 1) := by decide +kernel
theorem dX4_copyFrom_99 : decode cX4_copyFrom 99 = .ok (.getfield 25, 3) := by decide +kernel
theorem dX4_copyFrom_102 : decode cX4_copyFrom 102 = .ok (.iload_n 2, 1) := by decide +kernel
theorem dX4_copyFrom_103 : decode cX4_copyFrom 103 = .ok (.aload_n 1, 1) := by decide +kernel
theorem dX4_copyFrom_104 : decode cX4_copyFrom 104 = .ok (.getfield 25, 3) := by decide +kernel
theorem dX4_copyFrom_107 : decode cX4_copyFrom 107 = .ok (.iload_n 2, 1) := by decide +kernel
theorem dX4_copyFrom_108 : decode cX4_copyFrom 108 = .ok (.iaload, 1) := by decide +kernel
theorem dX4_copyFrom_109 : decode cX4_copyFrom 109 = .ok (.iastore, 1) := by decide +kernel
theorem dX4_copyFrom_110 : decode cX4_copyFrom 110 = .ok (.iinc 2 1, 3) := by decide +kernel
theorem dX4_copyFrom_113 : decode cX4_copyFrom 113 = .ok (.goto (-24), 3) := by decide +kernel
theorem dX4_copyFrom_116 : decode cX4_copyFrom 116 = .ok (.aload_n 0, 1) := by decide +kernel
theorem dX4_copyFrom_117 : decode cX4_copyFrom 117 = .ok (.getfield 31, 3) := by decide +kernel
theorem dX4_copyFrom_120 : decode cX4_copyFrom 120 = .ok (.aload_n 1, 1) := by decide +kernel
theorem dX4_copyFrom_121 : decode cX4_copyFrom 121 = .ok (.getfield 31, 3) := by decide +kernel
theorem dX4_copyFrom_124 : decode cX4_copyFrom 124 = .ok (.invokevirtual 64, 3) := by decide +kernel
theorem dX4_copyFrom_127 : decode cX4_copyFrom 127 = .ok (.aload_n 0, 1) := by decide +kernel
theorem dX4_copyFrom_128 : decode cX4_copyFrom 128 = .ok (.getfield 40, 3) := by decide +kernel
theorem dX4_copyFrom_131 : decode cX4_copyFrom 131 = .ok (.aload_n 1, 1) := by decide +kernel
theorem dX4_copyFrom_132 : decode cX4_copyFrom 132 = .ok (.getfield 40, 3) := by decide +kernel
theorem dX4_copyFrom_135 : decode cX4_copyFrom 135 = .ok (.invokevirtual 67, 3) := by decide +kernel
theorem dX4_copyFrom_138 : decode cX4_copyFrom 138 = .ok (.aload_n 0, 1) := by decide +kernel
theorem dX4_copyFrom_139 : decode cX4_copyFrom 139 = .ok (.aload_n 1, 1) := by decide +kernel
theorem dX4_copyFrom_140 : decode cX4_copyFrom 140 = .ok (.getfield 57, 3) := by decide +kernel
theorem dX4_copyFrom_143 : decode cX4_copyFrom 143 = .ok (.putfield 57, 3) := by decide +kernel
theorem dX4_copyFrom_146 : decode cX4_copyFrom 146 = .ok (.return_, 1) := by decide +kernel
theorem dX4_hasBreakAt_0 : decode cX4_hasBreakAt 0 = .ok (.iconst 0, 1) := by decide +kernel
theorem dX4_hasBreakAt_1 : decode cX4_hasBreakAt 1 = .ok (.istore_n 3, 1) := by decide +kernel
theorem dX4_hasBreakAt_2 : decode cX4_hasBreakAt 2 = .ok (.iload_n 3, 1) := by decide +kernel
theorem dX4_hasBreakAt_3 : decode cX4_hasBreakAt 3 = .ok (.aload_n 0, 1) := by decide +kernel
theorem dX4_hasBreakAt_4 : decode cX4_hasBreakAt 4 = .ok (.getfield 44, 3) := by decide +kernel
theorem dX4_hasBreakAt_7 : decode cX4_hasBreakAt 7 = .ok (.if_icmp .ge 37, 3) := by decide +kernel
theorem dX4_hasBreakAt_10 : decode cX4_hasBreakAt 10 = .ok (.aload_n 0, 1) := by decide +kernel
theorem dX4_hasBreakAt_11 : decode cX4_hasBreakAt 11 = .ok (.getfield 11, 3) := by decide +kernel
theorem dX4_hasBreakAt_14 : decode cX4_hasBreakAt 14 = .ok (.iload_n 3, 1) := by decide +kernel
theorem dX4_hasBreakAt_15 : decode cX4_hasBreakAt 15 = .ok (.aaload, 1) := by decide +kernel
theorem dX4_hasBreakAt_16 : decode cX4_hasBreakAt 16 = .ok (.getfield 70, 3) := by decide +kernel
theorem dX4_hasBreakAt_19 : decode cX4_hasBreakAt 19 = .ok (.iload_n 1, 1) := by decide +kernel
theorem dX4_hasBreakAt_20 : decode cX4_hasBreakAt 20 = .ok (.if_icmp .ne 18, 3) := by decide +kernel
theorem dX4_hasBreakAt_23 : decode cX4_hasBreakAt 23 = .ok (.aload_n 0, 1) := by decide +kernel
theorem dX4_hasBreakAt_24 : decode cX4_hasBreakAt 24 = .ok (.getfield 11, 3) := by decide +kernel
theorem dX4_hasBreakAt_27 : decode cX4_hasBreakAt 27 = .ok (.iload_n 3, 1) := by decide +kernel
theorem dX4_hasBreakAt_28 : decode cX4_hasBreakAt 28 = .ok (.aaload, 1) := by decide +kernel
theorem dX4_hasBreakAt_29 : decode cX4_hasBreakAt 29 = .ok (.getfield 73, 3) := by decide +kernel
theorem dX4_hasBreakAt_32 : decode cX4_hasBreakAt 32 = .ok (.iload_n 2, 1) := by decide +kernel
theorem dX4_hasBreakAt_33 : decode cX4_hasBreakAt 33 = .ok (.if_icmp .ne 5, 3) := by decide +kernel
theorem dX4_hasBreakAt_36 : decode cX4_hasBreakAt 36 = .ok (.iconst 1, 1) := by decide +kernel
theorem dX4_hasBreakAt_37 : decode cX4_hasBreakAt 37 = .ok (.ireturn, 1) := by decide +kernel
theorem dX4_hasBreakAt_38 : decode cX4_hasBreakAt 38 = .ok (.iinc 3 1, 3) := by decide +kernel
theorem dX4_hasBreakAt_41 : decode cX4_hasBreakAt 41 = .ok (.goto (-39), 3) := by decide +kernel
theorem dX4_hasBreakAt_44 : decode cX4_hasBreakAt 44 = .ok (.iconst 0, 1) := by decide +kernel
theorem dX4_hasBreakAt_45 : decode cX4_hasBreakAt 45 = .ok (.ireturn, 1) := by decide +kernel
theorem dX4_addBreak_0 : decode cX4_addBreak 0 = .ok (.aload_n 0, 1) := by decide +kernel
theorem dX4_addBreak_1 : decode cX4_addBreak 1 = .ok (.getfield 44, 3) := by decide +kernel
theorem dX4_addBreak_4 : decode cX4_addBreak 4 = .ok (.bipush 20, 2) := by decide +kernel
theorem dX4_addBreak_6 : decode cX4_addBreak 6 = .ok (.if_icmp .lt 4, 3) := by decide +kernel
theorem dX4_addBreak_9 : decode cX4_addBreak 9 = .ok (.return_, 1) := by decide +kernel
theorem dX4_addBreak_10 : decode cX4_addBreak 10 = .ok (.aload_n 0, 1) := by decide +kernel
theorem dX4_addBreak_11 : decode cX4_addBreak 11 = .ok (.getfield 11, 3) := by decide +kernel
theorem dX4_addBreak_14 : decode cX4_addBreak 14 = .ok (.aload_n 0, 1) := by decide +kernel
theorem dX4_addBreak_15 : decode cX4_addBreak 15 = .ok (.getfield 44, 3) := by decide +kernel
theorem dX4_addBreak_18 : decode cX4_addBreak 18 = .ok (.aaload, 1) := by decide +kernel
theorem dX4_addBreak_19 : decode cX4_addBreak 19 = .ok (.astore 5, 2) := by decide +kernel
theorem dX4_addBreak_21 : decode cX4_addBreak 21 = .ok (.aload 5, 2) := by decide +kernel
theorem dX4_addBreak_23 : decode cX4_addBreak 23 = .ok (.iload_n 1, 1) := by decide +kernel
theorem dX4_addBreak_24 : decode cX4_addBreak 24 = .ok (.iload_n 2, 1) := by decide +kernel
theorem dX4_addBreak_25 : decode cX4_addBreak 25 = .ok (.iload_n 3, 1) := by decide +kernel
theorem dX4_addBreak_26 : decode cX4_addBreak 26 = .ok (.iload 4, 2) := by decide +kernel
theorem dX4_addBreak_28 : decode cX4_addBreak 28 = .ok (.invokevirtual 76, 3) := by decide +kernel
theorem dX4_addBreak_31 : decode cX4_addBreak 31 = .ok (.aload_n 0, 1) := by decide +kernel
theorem dX4_addBreak_32 : decode cX4_addBreak 32 = .ok (.getfield 44, 3) := by decide +kernel
theorem dX4_addBreak_35 : decode cX4_addBreak 35 = .ok (.istore 6, 2) := by decide +kernel
theorem dX4_addBreak_37 : decode cX4_addBreak 37 = .ok (.iload 6, 2) := by decide +kernel
theorem dX4_addBreak_39 : decode cX4_addBreak 39 = .ok (.ifCond .le 42, 3) := by decide +kernel
theorem dX4_addBreak_42 : decode cX4_addBreak 42 = .ok (.aload_n 0, 1) := by decide +kernel
theorem dX4_addBreak_43 : decode cX4_addBreak 43 = .ok (.getfield 11, 3) := by decide +kernel
theorem dX4_addBreak_46 : decode cX4_addBreak 46 = .ok (.iload 6, 2) := by decide +kernel
theorem dX4_addBreak_48 : decode cX4_addBreak 48 = .ok (.iconst 1, 1) := by decide +kernel
theorem dX4_addBreak_49 : decode cX4_addBreak 49 = .ok (.isub, 1) := by decide +kernel
theorem dX4_addBreak_50 : decode cX4_addBreak 50 = .ok (.aaload, 1) := by decide +kernel
theorem dX4_addBreak_51 : decode cX4_addBreak 51 = .ok (.iload_n 1, 1) := by decide +kernel
theorem dX4_addBreak_52 : decode cX4_addBreak 52 = .ok (.iload_n 2, 1) := by decide +kernel
theorem dX4_addBreak_53 : decode cX4_addBreak 53 = .ok (.invokevirtual 80, 3) := by decide +kernel
theorem dX4_addBreak_56 : decode cX4_addBreak 56 = .ok (.ifCond .eq 25, 3) := by decide +kernel
theorem dX4_addBreak_59 : decode cX4_addBreak 59 = .ok (.aload_n 0, 1) := by decide +kernel
theorem dX4_addBreak_60 : decode cX4_addBreak 60 = .ok (.getfield 11, 3) := by decide +kernel
theorem dX4_addBreak_63 : decode cX4_addBreak 63 = .ok (.iload 6, 2) := by decide +kernel
theorem dX4_addBreak_65 : decode cX4_addBreak 65 = .ok (.aload_n 0, 1) := by decide +kernel
theorem dX4_addBreak_66 : decode cX4_addBreak 66 = .ok (.getfield 11, 3) := by decide +kernel
theorem dX4_addBreak_69 : decode cX4_addBreak 69 = .ok (.iload 6, 2) := by decide +kernel
theorem dX4_addBreak_71 : decode cX4_addBreak 71 = .ok (.iconst 1, 1) := by decide +kernel
theorem dX4_addBreak_72 : decode cX4_addBreak 72 = .ok (.isub, 1) := by decide +kernel
theorem dX4_addBreak_73 : decode cX4_addBreak 73 = .ok (.aaload, 1) := by decide +kernel
theorem dX4_addBreak_74 : decode cX4_addBreak 74 = .ok (.aastore, 1) := by decide +kernel
theorem dX4_addBreak_75 : decode cX4_addBreak 75 = .ok (.iinc 6 (-1), 3) := by decide +kernel
theorem dX4_addBreak_78 : decode cX4_addBreak 78 = .ok (.goto (-41), 3) := by decide +kernel
theorem dX4_addBreak_81 : decode cX4_addBreak 81 = .ok (.aload_n 0, 1) := by decide +kernel
theorem dX4_addBreak_82 : decode cX4_addBreak 82 = .ok (.getfield 11, 3) := by decide +kernel
theorem dX4_addBreak_85 : decode cX4_addBreak 85 = .ok (.iload 6, 2) := by decide +kernel
theorem dX4_addBreak_87 : decode cX4_addBreak 87 = .ok (.aload 5, 2) := by decide +kernel
theorem dX4_addBreak_89 : decode cX4_addBreak 89 = .ok (.aastore, 1) := by decide +kernel
theorem dX4_addBreak_90 : decode cX4_addBreak 90 = .ok (.aload_n 0, 1) := by decide +kernel
theorem dX4_addBreak_91 : decode cX4_addBreak 91 = .ok (.dup, 1) := by decide +kernel
theorem dX4_addBreak_92 : decode cX4_addBreak 92 = .ok (.getfield 44, 3) := by decide +kernel
theorem dX4_addBreak_95 : decode cX4_addBreak 95 = .ok (.iconst 1, 1) := by decide +kernel
theorem dX4_addBreak_96 : decode cX4_addBreak 96 = .ok (.iadd, 1) := by decide +kernel
theorem dX4_addBreak_97 : decode cX4_addBreak 97 = .ok (.putfield 44, 3) := by decide +kernel
theorem dX4_addBreak_100 : decode cX4_addBreak 100 = .ok (.return_, 1) := by decide +kernel
theorem dX4_addSponsor_0 : decode cX4_addSponsor 0 = .ok (.aload_n 0, 1) := by decide +kernel
theorem dX4_addSponsor_1 : decode cX4_addSponsor 1 = .ok (.getfield 48, 3) := by decide +kernel
theorem dX4_addSponsor_4 : decode cX4_addSponsor 4 = .ok (.bipush 8, 2) := by decide +kernel
theorem dX4_addSponsor_6 : decode cX4_addSponsor 6 = .ok (.if_icmp .lt 4, 3) := by decide +kernel
theorem dX4_addSponsor_9 : decode cX4_addSponsor 9 = .ok (.return_, 1) := by decide +kernel
theorem dX4_addSponsor_10 : decode cX4_addSponsor 10 = .ok (.aload_n 0, 1) := by decide +kernel
theorem dX4_addSponsor_11 : decode cX4_addSponsor 11 = .ok (.getfield 18, 3) := by decide +kernel
theorem dX4_addSponsor_14 : decode cX4_addSponsor 14 = .ok (.aload_n 0, 1) := by decide +kernel
theorem dX4_addSponsor_15 : decode cX4_addSponsor 15 = .ok (.getfield 48, 3) := by decide +kernel
theorem dX4_addSponsor_18 : decode cX4_addSponsor 18 = .ok (.iload_n 1, 1) := by decide +kernel
theorem dX4_addSponsor_19 : decode cX4_addSponsor 19 = .ok (.iastore, 1) := by decide +kernel
theorem dX4_addSponsor_20 : decode cX4_addSponsor 20 = .ok (.aload_n 0, 1) := by decide +kernel
theorem dX4_addSponsor_21 : decode cX4_addSponsor 21 = .ok (.getfield 22, 3) := by decide +kernel
theorem dX4_addSponsor_24 : decode cX4_addSponsor 24 = .ok (.aload_n 0, 1) := by decide +kernel
theorem dX4_addSponsor_25 : decode cX4_addSponsor 25 = .ok (.getfield 48, 3) := by decide +kernel
theorem dX4_addSponsor_28 : decode cX4_addSponsor 28 = .ok (.iload_n 2, 1) := by decide +kernel
theorem dX4_addSponsor_29 : decode cX4_addSponsor 29 = .ok (.iastore, 1) := by decide +kernel
theorem dX4_addSponsor_30 : decode cX4_addSponsor 30 = .ok (.aload_n 0, 1) := by decide +kernel
theorem dX4_addSponsor_31 : decode cX4_addSponsor 31 = .ok (.dup, 1) := by decide +kernel
theorem dX4_addSponsor_32 : decode cX4_addSponsor 32 = .ok (.getfield 48, 3) := by decide +kernel
theorem dX4_addSponsor_35 : decode cX4_addSponsor 35 = .ok (.iconst 1, 1) := by decide +kernel
theorem dX4_addSponsor_36 : decode cX4_addSponsor 36 = .ok (.iadd, 1) := by decide +kernel
theorem dX4_addSponsor_37 : decode cX4_addSponsor 37 = .ok (.putfield 48, 3) := by decide +kernel
theorem dX4_addSponsor_40 : decode cX4_addSponsor 40 = .ok (.return_, 1) := by decide +kernel
theorem dX4_addBan_0 : decode cX4_addBan 0 = .ok (.aload_n 0, 1) := by decide +kernel
theorem dX4_addBan_1 : decode cX4_addBan 1 = .ok (.getfield 25, 3) := by decide +kernel
theorem dX4_addBan_4 : decode cX4_addBan 4 = .ok (.iload_n 1, 1) := by decide +kernel
theorem dX4_addBan_5 : decode cX4_addBan 5 = .ok (.dup2, 1) := by decide +kernel
theorem dX4_addBan_6 : decode cX4_addBan 6 = .ok (.iaload, 1) := by decide +kernel
theorem dX4_addBan_7 : decode cX4_addBan 7 = .ok (.iconst 1, 1) := by decide +kernel
theorem dX4_addBan_8 : decode cX4_addBan 8 = .ok (.iload_n 2, 1) := by decide +kernel
theorem dX4_addBan_9 : decode cX4_addBan 9 = .ok (.ishl, 1) := by decide +kernel
theorem dX4_addBan_10 : decode cX4_addBan 10 = .ok (.ior, 1) := by decide +kernel
theorem dX4_addBan_11 : decode cX4_addBan 11 = .ok (.iastore, 1) := by decide +kernel
theorem dX4_addBan_12 : decode cX4_addBan 12 = .ok (.aload_n 0, 1) := by decide +kernel
theorem dX4_addBan_13 : decode cX4_addBan 13 = .ok (.getfield 25, 3) := by decide +kernel
theorem dX4_addBan_16 : decode cX4_addBan 16 = .ok (.iload_n 2, 1) := by decide +kernel
theorem dX4_addBan_17 : decode cX4_addBan 17 = .ok (.dup2, 1) := by decide +kernel
theorem dX4_addBan_18 : decode cX4_addBan 18 = .ok (.iaload, 1) := by decide +kernel
theorem dX4_addBan_19 : decode cX4_addBan 19 = .ok (.iconst 1, 1) := by decide +kernel
theorem dX4_addBan_20 : decode cX4_addBan 20 = .ok (.iload_n 1, 1) := by decide +kernel
theorem dX4_addBan_21 : decode cX4_addBan 21 = .ok (.ishl, 1) := by decide +kernel
theorem dX4_addBan_22 : decode cX4_addBan 22 = .ok (.ior, 1) := by decide +kernel
theorem dX4_addBan_23 : decode cX4_addBan 23 = .ok (.iastore, 1) := by decide +kernel
theorem dX4_addBan_24 : decode cX4_addBan 24 = .ok (.return_, 1) := by decide +kernel
theorem dX4_hasBan_0 : decode cX4_hasBan 0 = .ok (.aload_n 0, 1) := by decide +kernel
theorem dX4_hasBan_1 : decode cX4_hasBan 1 = .ok (.getfield 25, 3) := by decide +kernel
theorem dX4_hasBan_4 : decode cX4_hasBan 4 = .ok (.iload_n 1, 1) := by decide +kernel
theorem dX4_hasBan_5 : decode cX4_hasBan 5 = .ok (.iaload, 1) := by decide +kernel
theorem dX4_hasBan_6 : decode cX4_hasBan 6 = .ok (.iload_n 2, 1) := by decide +kernel
theorem dX4_hasBan_7 : decode cX4_hasBan 7 = .ok (.ishr, 1) := by decide +kernel
theorem dX4_hasBan_8 : decode cX4_hasBan 8 = .ok (.iconst 1, 1) := by decide +kernel
theorem dX4_hasBan_9 : decode cX4_hasBan 9 = .ok (.iand, 1) := by decide +kernel
theorem dX4_hasBan_10 : decode cX4_hasBan 10 = .ok (.ifCond .eq 7, 3) := by decide +kernel
theorem dX4_hasBan_13 : decode cX4_hasBan 13 = .ok (.iconst 1, 1) := by decide +kernel
theorem dX4_hasBan_14 : decode cX4_hasBan 14 = .ok (.goto 4, 3) := by decide +kernel
theorem dX4_hasBan_17 : decode cX4_hasBan 17 = .ok (.iconst 0, 1) := by decide +kernel
theorem dX4_hasBan_18 : decode cX4_hasBan 18 = .ok (.ireturn, 1) := by decide +kernel
theorem dX4_clash_0 : decode cX4_clash 0 = .ok (.aload_n 0, 1) := by decide +kernel
theorem dX4_clash_1 : decode cX4_clash 1 = .ok (.aload_n 0, 1) := by decide +kernel
theorem dX4_clash_2 : decode cX4_clash 2 = .ok (.getfield 18, 3) := by decide +kernel
theorem dX4_clash_5 : decode cX4_clash 5 = .ok (.iload_n 1, 1) := by decide +kernel
theorem dX4_clash_6 : decode cX4_clash 6 = .ok (.iaload, 1) := by decide +kernel
theorem dX4_clash_7 : decode cX4_clash 7 = .ok (.aload_n 0, 1) := by decide +kernel
theorem dX4_clash_8 : decode cX4_clash 8 = .ok (.getfield 18, 3) := by decide +kernel
theorem dX4_clash_11 : decode cX4_clash 11 = .ok (.iload_n 2, 1) := by decide +kernel
theorem dX4_clash_12 : decode cX4_clash 12 = .ok (.iaload, 1) := by decide +kernel
theorem dX4_clash_13 : decode cX4_clash 13 = .ok (.invokevirtual 84, 3) := by decide +kernel
theorem dX4_clash_16 : decode cX4_clash 16 = .ok (.ireturn, 1) := by decide +kernel
theorem dX4_spotsOf_0 : decode cX4_spotsOf 0 = .ok (.iconst 0, 1) := by decide +kernel
theorem dX4_spotsOf_1 : decode cX4_spotsOf 1 = .ok (.istore_n 2, 1) := by decide +kernel
theorem dX4_spotsOf_2 : decode cX4_spotsOf 2 = .ok (.iconst 0, 1) := by decide +kernel
theorem dX4_spotsOf_3 : decode cX4_spotsOf 3 = .ok (.istore_n 3, 1) := by decide +kernel
theorem dX4_spotsOf_4 : decode cX4_spotsOf 4 = .ok (.iload_n 3, 1) := by decide +kernel
theorem dX4_spotsOf_5 : decode cX4_spotsOf 5 = .ok (.aload_n 0, 1) := by decide +kernel
theorem dX4_spotsOf_6 : decode cX4_spotsOf 6 = .ok (.getfield 44, 3) := by decide +kernel
theorem dX4_spotsOf_9 : decode cX4_spotsOf 9 = .ok (.if_icmp .ge 25, 3) := by decide +kernel
theorem dX4_spotsOf_12 : decode cX4_spotsOf 12 = .ok (.iload_n 2, 1) := by decide +kernel
theorem dX4_spotsOf_13 : decode cX4_spotsOf 13 = .ok (.aload_n 0, 1) := by decide +kernel
theorem dX4_spotsOf_14 : decode cX4_spotsOf 14 = .ok (.getfield 11, 3) := by decide +kernel
theorem dX4_spotsOf_17 : decode cX4_spotsOf 17 = .ok (.iload_n 3, 1) := by decide +kernel
theorem dX4_spotsOf_18 : decode cX4_spotsOf 18 = .ok (.aaload, 1) := by decide +kernel
theorem dX4_spotsOf_19 : decode cX4_spotsOf 19 = .ok (.getfield 87, 3) := by decide +kernel
theorem dX4_spotsOf_22 : decode cX4_spotsOf 22 = .ok (.iload_n 1, 1) := by decide +kernel
theorem dX4_spotsOf_23 : decode cX4_spotsOf 23 = .ok (.invokevirtual 90, 3) := by decide +kernel
theorem dX4_spotsOf_26 : decode cX4_spotsOf 26 = .ok (.iadd, 1) := by decide +kernel
theorem dX4_spotsOf_27 : decode cX4_spotsOf 27 = .ok (.istore_n 2, 1) := by decide +kernel
theorem dX4_spotsOf_28 : decode cX4_spotsOf 28 = .ok (.iinc 3 1, 3) := by decide +kernel
theorem dX4_spotsOf_31 : decode cX4_spotsOf 31 = .ok (.goto (-27), 3) := by decide +kernel
theorem dX4_spotsOf_34 : decode cX4_spotsOf 34 = .ok (.iload_n 2, 1) := by decide +kernel
theorem dX4_spotsOf_35 : decode cX4_spotsOf 35 = .ok (.ireturn, 1) := by decide +kernel
theorem dX4_airedSpotsOf_0 : decode cX4_airedSpotsOf 0 = .ok (.iconst 0, 1) := by decide +kernel
theorem dX4_airedSpotsOf_1 : decode cX4_airedSpotsOf 1 = .ok (.istore_n 2, 1) := by decide +kernel
theorem dX4_airedSpotsOf_2 : decode cX4_airedSpotsOf 2 = .ok (.iconst 0, 1) := by decide +kernel
theorem dX4_airedSpotsOf_3 : decode cX4_airedSpotsOf 3 = .ok (.istore_n 3, 1) := by decide +kernel
theorem dX4_airedSpotsOf_4 : decode cX4_airedSpotsOf 4 = .ok (.iload_n 3, 1) := by decide +kernel
theorem dX4_airedSpotsOf_5 : decode cX4_airedSpotsOf 5 = .ok (.aload_n 0, 1) := by decide +kernel
theorem dX4_airedSpotsOf_6 : decode cX4_airedSpotsOf 6 = .ok (.getfield 44, 3) := by decide +kernel
theorem dX4_airedSpotsOf_9 : decode cX4_airedSpotsOf 9 = .ok (.if_icmp .ge 38, 3) := by decide +kernel
theorem dX4_airedSpotsOf_12 : decode cX4_airedSpotsOf 12 = .ok (.aload_n 0, 1) := by decide +kernel
theorem dX4_airedSpotsOf_13 : decode cX4_airedSpotsOf 13 = .ok (.getfield 11, 3) := by decide +kernel
theorem dX4_airedSpotsOf_16 : decode cX4_airedSpotsOf 16 = .ok (.iload_n 3, 1) := by decide +kernel
theorem dX4_airedSpotsOf_17 : decode cX4_airedSpotsOf 17 = .ok (.aaload, 1) := by decide +kernel
theorem dX4_airedSpotsOf_18 : decode cX4_airedSpotsOf 18 = .ok (.getfield 94, 3) := by decide +kernel
theorem dX4_airedSpotsOf_21 : decode cX4_airedSpotsOf 21 = .ok (.iconst 1, 1) := by decide +kernel
theorem dX4_airedSpotsOf_22 : decode cX4_airedSpotsOf 22 = .ok (.if_icmp .ne 19, 3) := by decide +kernel
theorem dX4_airedSpotsOf_25 : decode cX4_airedSpotsOf 25 = .ok (.iload_n 2, 1) := by decide +kernel
theorem dX4_airedSpotsOf_26 : decode cX4_airedSpotsOf 26 = .ok (.aload_n 0, 1) := by decide +kernel
theorem dX4_airedSpotsOf_27 : decode cX4_airedSpotsOf 27 = .ok (.getfield 11, 3) := by decide +kernel
theorem dX4_airedSpotsOf_30 : decode cX4_airedSpotsOf 30 = .ok (.iload_n 3, 1) := by decide +kernel
theorem dX4_airedSpotsOf_31 : decode cX4_airedSpotsOf 31 = .ok (.aaload, 1) := by decide +kernel
theorem dX4_airedSpotsOf_32 : decode cX4_airedSpotsOf 32 = .ok (.getfield 87, 3) := by decide +kernel
theorem dX4_airedSpotsOf_35 : decode cX4_airedSpotsOf 35 = .ok (.iload_n 1, 1) := by decide +kernel
theorem dX4_airedSpotsOf_36 : decode cX4_airedSpotsOf 36 = .ok (.invokevirtual 90, 3) := by decide +kernel
theorem dX4_airedSpotsOf_39 : decode cX4_airedSpotsOf 39 = .ok (.iadd, 1) := by decide +kernel
theorem dX4_airedSpotsOf_40 : decode cX4_airedSpotsOf 40 = .ok (.istore_n 2, 1) := by decide +kernel
theorem dX4_airedSpotsOf_41 : decode cX4_airedSpotsOf 41 = .ok (.iinc 3 1, 3) := by decide +kernel
theorem dX4_airedSpotsOf_44 : decode cX4_airedSpotsOf 44 = .ok (.goto (-40), 3) := by decide +kernel
theorem dX4_airedSpotsOf_47 : decode cX4_airedSpotsOf 47 = .ok (.iload_n 2, 1) := by decide +kernel
theorem dX4_airedSpotsOf_48 : decode cX4_airedSpotsOf 48 = .ok (.ireturn, 1) := by decide +kernel
theorem dX4_spotsOfDay_0 : decode cX4_spotsOfDay 0 = .ok (.iconst 0, 1) := by decide +kernel
theorem dX4_spotsOfDay_1 : decode cX4_spotsOfDay 1 = .ok (.istore_n 3, 1) := by decide +kernel
theorem dX4_spotsOfDay_2 : decode cX4_spotsOfDay 2 = .ok (.iconst 0, 1) := by decide +kernel
theorem dX4_spotsOfDay_3 : decode cX4_spotsOfDay 3 = .ok (.istore 4, 2) := by decide +kernel
theorem dX4_spotsOfDay_5 : decode cX4_spotsOfDay 5 = .ok (.iload 4, 2) := by decide +kernel
theorem dX4_spotsOfDay_7 : decode cX4_spotsOfDay 7 = .ok (.aload_n 0, 1) := by decide +kernel
theorem dX4_spotsOfDay_8 : decode cX4_spotsOfDay 8 = .ok (.getfield 44, 3) := by decide +kernel
theorem dX4_spotsOfDay_11 : decode cX4_spotsOfDay 11 = .ok (.if_icmp .ge 40, 3) := by decide +kernel
theorem dX4_spotsOfDay_14 : decode cX4_spotsOfDay 14 = .ok (.aload_n 0, 1) := by decide +kernel
theorem dX4_spotsOfDay_15 : decode cX4_spotsOfDay 15 = .ok (.getfield 11, 3) := by decide +kernel
theorem dX4_spotsOfDay_18 : decode cX4_spotsOfDay 18 = .ok (.iload 4, 2) := by decide +kernel
theorem dX4_spotsOfDay_20 : decode cX4_spotsOfDay 20 = .ok (.aaload, 1) := by decide +kernel
theorem dX4_spotsOfDay_21 : decode cX4_spotsOfDay 21 = .ok (.getfield 70, 3) := by decide +kernel
theorem dX4_spotsOfDay_24 : decode cX4_spotsOfDay 24 = .ok (.iload_n 2, 1) := by decide +kernel
theorem dX4_spotsOfDay_25 : decode cX4_spotsOfDay 25 = .ok (.if_icmp .ne 20, 3) := by decide +kernel
theorem dX4_spotsOfDay_28 : decode cX4_spotsOfDay 28 = .ok (.iload_n 3, 1) := by decide +kernel
theorem dX4_spotsOfDay_29 : decode cX4_spotsOfDay 29 = .ok (.aload_n 0, 1) := by decide +kernel
theorem dX4_spotsOfDay_30 : decode cX4_spotsOfDay 30 = .ok (.getfield 11, 3) := by decide +kernel
theorem dX4_spotsOfDay_33 : decode cX4_spotsOfDay 33 = .ok (.iload 4, 2) := by decide +kernel
theorem dX4_spotsOfDay_35 : decode cX4_spotsOfDay 35 = .ok (.aaload, 1) := by decide +kernel
theorem dX4_spotsOfDay_36 : decode cX4_spotsOfDay 36 = .ok (.getfield 87, 3) := by decide +kernel
theorem dX4_spotsOfDay_39 : decode cX4_spotsOfDay 39 = .ok (.iload_n 1, 1) := by decide +kernel
theorem dX4_spotsOfDay_40 : decode cX4_spotsOfDay 40 = .ok (.invokevirtual 90, 3) := by decide +kernel
theorem dX4_spotsOfDay_43 : decode cX4_spotsOfDay 43 = .ok (.iadd, 1) := by decide +kernel
theorem dX4_spotsOfDay_44 : decode cX4_spotsOfDay 44 = .ok (.istore_n 3, 1) := by decide +kernel
theorem dX4_spotsOfDay_45 : decode cX4_spotsOfDay 45 = .ok (.iinc 4 1, 3) := by decide +kernel
theorem dX4_spotsOfDay_48 : decode cX4_spotsOfDay 48 = .ok (.goto (-43), 3) := by decide +kernel
theorem dX4_spotsOfDay_51 : decode cX4_spotsOfDay 51 = .ok (.iload_n 3, 1) := by decide +kernel
theorem dX4_spotsOfDay_52 : decode cX4_spotsOfDay 52 = .ok (.ireturn, 1) := by decide +kernel
theorem dX4_refusal_0 : decode cX4_refusal 0 = .ok (.aload_n 0, 1) := by decide +kernel
theorem dX4_refusal_1 : decode cX4_refusal 1 = .ok (.getfield 11, 3) := by decide +kernel
theorem dX4_refusal_4 : decode cX4_refusal 4 = .ok (.iload_n 3, 1) := by decide +kernel
theorem dX4_refusal_5 : decode cX4_refusal 5 = .ok (.aaload, 1) := by decide +kernel
theorem dX4_refusal_6 : decode cX4_refusal 6 = .ok (.astore 4, 2) := by decide +kernel
theorem dX4_refusal_8 : decode cX4_refusal 8 = .ok (.aload 4, 2) := by decide +kernel
theorem dX4_refusal_10 : decode cX4_refusal 10 = .ok (.getfield 94, 3) := by decide +kernel
theorem dX4_refusal_13 : decode cX4_refusal 13 = .ok (.ifCond .eq 5, 3) := by decide +kernel
theorem dX4_refusal_16 : decode cX4_refusal 16 = .ok (.iconst 1, 1) := by decide +kernel
theorem dX4_refusal_17 : decode cX4_refusal 17 = .ok (.ireturn, 1) := by decide +kernel
theorem dX4_refusal_18 : decode cX4_refusal 18 = .ok (.aload 4, 2) := by decide +kernel
theorem dX4_refusal_20 : decode cX4_refusal 20 = .ok (.getfield 87, 3) := by decide +kernel
theorem dX4_refusal_23 : decode cX4_refusal 23 = .ok (.iload_n 1, 1) := by decide +kernel
theorem dX4_refusal_24 : decode cX4_refusal 24 = .ok (.invokevirtual 97, 3) := by decide +kernel
theorem dX4_refusal_27 : decode cX4_refusal 27 = .ok (.ifCond .lt 5, 3) := by decide +kernel
theorem dX4_refusal_30 : decode cX4_refusal 30 = .ok (.iconst 2, 1) := by decide +kernel
theorem dX4_refusal_31 : decode cX4_refusal 31 = .ok (.ireturn, 1) := by decide +kernel
theorem dX4_refusal_32 : decode cX4_refusal 32 = .ok (.aload_n 0, 1) := by decide +kernel
theorem dX4_refusal_33 : decode cX4_refusal 33 = .ok (.iload_n 1, 1) := by decide +kernel
theorem dX4_refusal_34 : decode cX4_refusal 34 = .ok (.aload 4, 2) := by decide +kernel
theorem dX4_refusal_36 : decode cX4_refusal 36 = .ok (.getfield 70, 3) := by decide +kernel
theorem dX4_refusal_39 : decode cX4_refusal 39 = .ok (.invokevirtual 100, 3) := by decide +kernel
theorem dX4_refusal_42 : decode cX4_refusal 42 = .ok (.aload_n 0, 1) := by decide +kernel
theorem dX4_refusal_43 : decode cX4_refusal 43 = .ok (.getfield 22, 3) := by decide +kernel
theorem dX4_refusal_46 : decode cX4_refusal 46 = .ok (.iload_n 1, 1) := by decide +kernel
theorem dX4_refusal_47 : decode cX4_refusal 47 = .ok (.iaload, 1) := by decide +kernel
theorem dX4_refusal_48 : decode cX4_refusal 48 = .ok (.if_icmp .lt 5, 3) := by decide +kernel
theorem dX4_refusal_51 : decode cX4_refusal 51 = .ok (.iconst 3, 1) := by decide +kernel
theorem dX4_refusal_52 : decode cX4_refusal 52 = .ok (.ireturn, 1) := by decide +kernel
theorem dX4_refusal_53 : decode cX4_refusal 53 = .ok (.aload 4, 2) := by decide +kernel
theorem dX4_refusal_55 : decode cX4_refusal 55 = .ok (.getfield 87, 3) := by decide +kernel
theorem dX4_refusal_58 : decode cX4_refusal 58 = .ok (.invokevirtual 104, 3) := by decide +kernel
theorem dX4_refusal_61 : decode cX4_refusal 61 = .ok (.iload_n 2, 1) := by decide +kernel
theorem dX4_refusal_62 : decode cX4_refusal 62 = .ok (.iadd, 1) := by decide +kernel
theorem dX4_refusal_63 : decode cX4_refusal 63 = .ok (.aload 4, 2) := by decide +kernel
theorem dX4_refusal_65 : decode cX4_refusal 65 = .ok (.getfield 108, 3) := by decide +kernel
theorem dX4_refusal_68 : decode cX4_refusal 68 = .ok (.if_icmp .le 5, 3) := by decide +kernel
theorem dX4_refusal_71 : decode cX4_refusal 71 = .ok (.iconst 4, 1) := by decide +kernel
theorem dX4_refusal_72 : decode cX4_refusal 72 = .ok (.ireturn, 1) := by decide +kernel
theorem dX4_refusal_73 : decode cX4_refusal 73 = .ok (.aload_n 0, 1) := by decide +kernel
theorem dX4_refusal_74 : decode cX4_refusal 74 = .ok (.iload_n 1, 1) := by decide +kernel
theorem dX4_refusal_75 : decode cX4_refusal 75 = .ok (.aload 4, 2) := by decide +kernel
theorem dX4_refusal_77 : decode cX4_refusal 77 = .ok (.getfield 87, 3) := by decide +kernel
theorem dX4_refusal_80 : decode cX4_refusal 80 = .ok (.invokevirtual 111, 3) := by decide +kernel
theorem dX4_refusal_83 : decode cX4_refusal 83 = .ok (.ifCond .ge 7, 3) := by decide +kernel
theorem dX4_refusal_86 : decode cX4_refusal 86 = .ok (.iconst 5, 1) := by decide +kernel
theorem dX4_refusal_87 : decode cX4_refusal 87 = .ok (.goto 4, 3) := by decide +kernel
theorem dX4_refusal_90 : decode cX4_refusal 90 = .ok (.iconst 0, 1) := by decide +kernel
theorem dX4_refusal_91 : decode cX4_refusal 91 = .ok (.ireturn, 1) := by decide +kernel
theorem dX4_placeFor_0 : decode cX4_placeFor 0 = .ok (.iconst 0, 1) := by decide +kernel
theorem dX4_placeFor_1 : decode cX4_placeFor 1 = .ok (.istore_n 3, 1) := by decide +kernel
theorem dX4_placeFor_2 : decode cX4_placeFor 2 = .ok (.iload_n 3, 1) := by decide +kernel
theorem dX4_placeFor_3 : decode cX4_placeFor 3 = .ok (.aload_n 2, 1) := by decide +kernel
theorem dX4_placeFor_4 : decode cX4_placeFor 4 = .ok (.getfield 54, 3) := by decide +kernel
theorem dX4_placeFor_7 : decode cX4_placeFor 7 = .ok (.if_icmp .gt 77, 3) := by decide +kernel
theorem dX4_placeFor_10 : decode cX4_placeFor 10 = .ok (.iload_n 3, 1) := by decide +kernel
theorem dX4_placeFor_11 : decode cX4_placeFor 11 = .ok (.ifCond .eq 19, 3) := by decide +kernel
theorem dX4_placeFor_14 : decode cX4_placeFor 14 = .ok (.aload_n 0, 1) := by decide +kernel
theorem dX4_placeFor_15 : decode cX4_placeFor 15 = .ok (.iload_n 1, 1) := by decide +kernel
theorem dX4_placeFor_16 : decode cX4_placeFor 16 = .ok (.aload_n 2, 1) := by decide +kernel
theorem dX4_placeFor_17 : decode cX4_placeFor 17 = .ok (.getfield 115, 3) := by decide +kernel
theorem dX4_placeFor_20 : decode cX4_placeFor 20 = .ok (.iload_n 3, 1) := by decide +kernel
theorem dX4_placeFor_21 : decode cX4_placeFor 21 = .ok (.iconst 1, 1) := by decide +kernel
theorem dX4_placeFor_22 : decode cX4_placeFor 22 = .ok (.isub, 1) := by decide +kernel
theorem dX4_placeFor_23 : decode cX4_placeFor 23 = .ok (.iaload, 1) := by decide +kernel
theorem dX4_placeFor_24 : decode cX4_placeFor 24 = .ok (.invokevirtual 118, 3) := by decide +kernel
theorem dX4_placeFor_27 : decode cX4_placeFor 27 = .ok (.ifCond .ne 7, 3) := by decide +kernel
theorem dX4_placeFor_30 : decode cX4_placeFor 30 = .ok (.iconst 1, 1) := by decide +kernel
theorem dX4_placeFor_31 : decode cX4_placeFor 31 = .ok (.goto 4, 3) := by decide +kernel
theorem dX4_placeFor_34 : decode cX4_placeFor 34 = .ok (.iconst 0, 1) := by decide +kernel
theorem dX4_placeFor_35 : decode cX4_placeFor 35 = .ok (.istore 4, 2) := by decide +kernel
theorem dX4_placeFor_37 : decode cX4_placeFor 37 = .ok (.iload_n 3, 1) := by decide +kernel
theorem dX4_placeFor_38 : decode cX4_placeFor 38 = .ok (.aload_n 2, 1) := by decide +kernel
theorem dX4_placeFor_39 : decode cX4_placeFor 39 = .ok (.getfield 54, 3) := by decide +kernel
theorem dX4_placeFor_42 : decode cX4_placeFor 42 = .ok (.if_icmp .eq 17, 3) := by decide +kernel
theorem dX4_placeFor_45 : decode cX4_placeFor 45 = .ok (.aload_n 0, 1) := by decide +kernel
theorem dX4_placeFor_46 : decode cX4_placeFor 46 = .ok (.iload_n 1, 1) := by decide +kernel
theorem dX4_placeFor_47 : decode cX4_placeFor 47 = .ok (.aload_n 2, 1) := by decide +kernel
theorem dX4_placeFor_48 : decode cX4_placeFor 48 = .ok (.getfield 115, 3) := by decide +kernel
theorem dX4_placeFor_51 : decode cX4_placeFor 51 = .ok (.iload_n 3, 1) := by decide +kernel
theorem dX4_placeFor_52 : decode cX4_placeFor 52 = .ok (.iaload, 1) := by decide +kernel
theorem dX4_placeFor_53 : decode cX4_placeFor 53 = .ok (.invokevirtual 118, 3) := by decide +kernel
theorem dX4_placeFor_56 : decode cX4_placeFor 56 = .ok (.ifCond .ne 7, 3) := by decide +kernel
theorem dX4_placeFor_59 : decode cX4_placeFor 59 = .ok (.iconst 1, 1) := by decide +kernel
theorem dX4_placeFor_60 : decode cX4_placeFor 60 = .ok (.goto 4, 3) := by decide +kernel
theorem dX4_placeFor_63 : decode cX4_placeFor 63 = .ok (.iconst 0, 1) := by decide +kernel
theorem dX4_placeFor_64 : decode cX4_placeFor 64 = .ok (.istore 5, 2) := by decide +kernel
theorem dX4_placeFor_66 : decode cX4_placeFor 66 = .ok (.iload 4, 2) := by decide +kernel
theorem dX4_placeFor_68 : decode cX4_placeFor 68 = .ok (.ifCond .eq 10, 3) := by decide +kernel
theorem dX4_placeFor_71 : decode cX4_placeFor 71 = .ok (.iload 5, 2) := by decide +kernel
theorem dX4_placeFor_73 : decode cX4_placeFor 73 = .ok (.ifCond .eq 5, 3) := by decide +kernel
theorem dX4_placeFor_76 : decode cX4_placeFor 76 = .ok (.iload_n 3, 1) := by decide +kernel
theorem dX4_placeFor_77 : decode cX4_placeFor 77 = .ok (.ireturn, 1) := by decide +kernel
theorem dX4_placeFor_78 : decode cX4_placeFor 78 = .ok (.iinc 3 1, 3) := by decide +kernel
theorem dX4_placeFor_81 : decode cX4_placeFor 81 = .ok (.goto (-79), 3) := by decide +kernel
theorem dX4_placeFor_84 : decode cX4_placeFor 84 = .ok (.iconst (-1), 1) := by decide +kernel
theorem dX4_placeFor_85 : decode cX4_placeFor 85 = .ok (.ireturn, 1) := by decide +kernel
theorem dX4_priceOf_0 : decode cX4_priceOf 0 = .ok (.aload_n 0, 1) := by decide +kernel
theorem dX4_priceOf_1 : decode cX4_priceOf 1 = .ok (.getfield 11, 3) := by decide +kernel
theorem dX4_priceOf_4 : decode cX4_priceOf 4 = .ok (.iload_n 3, 1) := by decide +kernel
theorem dX4_priceOf_5 : decode cX4_priceOf 5 = .ok (.aaload, 1) := by decide +kernel
theorem dX4_priceOf_6 : decode cX4_priceOf 6 = .ok (.astore 4, 2) := by decide +kernel
theorem dX4_priceOf_8 : decode cX4_priceOf 8 = .ok (.aload 4, 2) := by decide +kernel
theorem dX4_priceOf_10 : decode cX4_priceOf 10 = .ok (.getfield 87, 3) := by decide +kernel
theorem dX4_priceOf_13 : decode cX4_priceOf 13 = .ok (.invokevirtual 104, 3) := by decide +kernel
theorem dX4_priceOf_16 : decode cX4_priceOf 16 = .ok (.istore 5, 2) := by decide +kernel
theorem dX4_priceOf_18 : decode cX4_priceOf 18 = .ok (.aload_n 0, 1) := by decide +kernel
theorem dX4_priceOf_19 : decode cX4_priceOf 19 = .ok (.getfield 31, 3) := by decide +kernel
theorem dX4_priceOf_22 : decode cX4_priceOf 22 = .ok (.aload 4, 2) := by decide +kernel
theorem dX4_priceOf_24 : decode cX4_priceOf 24 = .ok (.getfield 121, 3) := by decide +kernel
theorem dX4_priceOf_27 : decode cX4_priceOf 27 = .ok (.aload 4, 2) := by decide +kernel
theorem dX4_priceOf_29 : decode cX4_priceOf 29 = .ok (.getfield 73, 3) := by decide +kernel
theorem dX4_priceOf_32 : decode cX4_priceOf 32 = .ok (.iload_n 2, 1) := by decide +kernel
theorem dX4_priceOf_33 : decode cX4_priceOf 33 = .ok (.iload 5, 2) := by decide +kernel
theorem dX4_priceOf_35 : decode cX4_priceOf 35 = .ok (.aload_n 0, 1) := by decide +kernel
theorem dX4_priceOf_36 : decode cX4_priceOf 36 = .ok (.iload_n 1, 1) := by decide +kernel
theorem dX4_priceOf_37 : decode cX4_priceOf 37 = .ok (.invokevirtual 124, 3) := by decide +kernel
theorem dX4_priceOf_40 : decode cX4_priceOf 40 = .ok (.invokevirtual 127, 3) := by decide +kernel
theorem dX4_priceOf_43 : decode cX4_priceOf 43 = .ok (.istore 6, 2) := by decide +kernel
theorem dX4_priceOf_45 : decode cX4_priceOf 45 = .ok (.iconst 0, 1) := by decide +kernel
theorem dX4_priceOf_46 : decode cX4_priceOf 46 = .ok (.ldc 131, 2) := by decide +kernel
theorem dX4_priceOf_48 : decode cX4_priceOf 48 = .ok (.iload 6, 2) := by decide +kernel
theorem dX4_priceOf_50 : decode cX4_priceOf 50 = .ok (.invokestatic 132, 3) := by decide +kernel
theorem dX4_priceOf_53 : decode cX4_priceOf 53 = .ok (.invokestatic 137, 3) := by decide +kernel
theorem dX4_priceOf_56 : decode cX4_priceOf 56 = .ok (.ireturn, 1) := by decide +kernel
theorem dX4_cheapestBreak_0 : decode cX4_cheapestBreak 0 = .ok (.iconst (-1), 1) := by decide +kernel
theorem dX4_cheapestBreak_1 : decode cX4_cheapestBreak 1 = .ok (.istore_n 3, 1) := by decide +kernel
theorem dX4_cheapestBreak_2 : decode cX4_cheapestBreak 2 = .ok (.iconst 0, 1) := by decide +kernel
theorem dX4_cheapestBreak_3 : decode cX4_cheapestBreak 3 = .ok (.istore 4, 2) := by decide +kernel
theorem dX4_cheapestBreak_5 : decode cX4_cheapestBreak 5 = .ok (.iconst 0, 1) := by decide +kernel
theorem dX4_cheapestBreak_6 : decode cX4_cheapestBreak 6 = .ok (.istore 5, 2) := by decide +kernel
theorem dX4_cheapestBreak_8 : decode cX4_cheapestBreak 8 = .ok (.iload 5, 2) := by decide +kernel
theorem dX4_cheapestBreak_10 : decode cX4_cheapestBreak 10 = .ok (.aload_n 0, 1) := by decide +kernel
theorem dX4_cheapestBreak_11 : decode cX4_cheapestBreak 11 = .ok (.getfield 44, 3) := by decide +kernel
theorem dX4_cheapestBreak_14 : decode cX4_cheapestBreak 14 = .ok (.if_icmp .ge 48, 3) := by decide +kernel
theorem dX4_cheapestBreak_17 : decode cX4_cheapestBreak 17 = .ok (.aload_n 0, 1) := by decide +kernel
theorem dX4_cheapestBreak_18 : decode cX4_cheapestBreak 18 = .ok (.iload_n 1, 1) := by decide +kernel
theorem dX4_cheapestBreak_19 : decode cX4_cheapestBreak 19 = .ok (.iload_n 2, 1) := by decide +kernel
theorem dX4_cheapestBreak_20 : decode cX4_cheapestBreak 20 = .ok (.iload 5, 2) := by decide +kernel
theorem dX4_cheapestBreak_22 : decode cX4_cheapestBreak 22 = .ok (.invokevirtual 140, 3) := by decide +kernel
theorem dX4_cheapestBreak_25 : decode cX4_cheapestBreak 25 = .ok (.ifCond .ne 31, 3) := by decide +kernel
theorem dX4_cheapestBreak_28 : decode cX4_cheapestBreak 28 = .ok (.aload_n 0, 1) := by decide +kernel
theorem dX4_cheapestBreak_29 : decode cX4_cheapestBreak 29 = .ok (.iload_n 1, 1) := by decide +kernel
theorem dX4_cheapestBreak_30 : decode cX4_cheapestBreak 30 = .ok (.iload_n 2, 1) := by decide +kernel
theorem dX4_cheapestBreak_31 : decode cX4_cheapestBreak 31 = .ok (.iload 5, 2) := by decide +kernel
theorem dX4_cheapestBreak_33 : decode cX4_cheapestBreak 33 = .ok (.invokevirtual 144, 3) := by decide +kernel
theorem dX4_cheapestBreak_36 : decode cX4_cheapestBreak 36 = .ok (.istore 6, 2) := by decide +kernel
theorem dX4_cheapestBreak_38 : decode cX4_cheapestBreak 38 = .ok (.iload_n 3, 1) := by decide +kernel
theorem dX4_cheapestBreak_39 : decode cX4_cheapestBreak 39 = .ok (.ifCond .lt 10, 3) := by decide +kernel
theorem dX4_cheapestBreak_42 : decode cX4_cheapestBreak 42 = .ok (.iload 6, 2) := by decide +kernel
theorem dX4_cheapestBreak_44 : decode cX4_cheapestBreak 44 = .ok (.iload 4, 2) := by decide +kernel
theorem dX4_cheapestBreak_46 : decode cX4_cheapestBreak 46 = .ok (.if_icmp .ge 10, 3) := by decide +kernel
theorem dX4_cheapestBreak_49 : decode cX4_cheapestBreak 49 = .ok (.iload 5, 2) := by decide +kernel
theorem dX4_cheapestBreak_51 : decode cX4_cheapestBreak 51 = .ok (.istore_n 3, 1) := by decide +kernel
theorem dX4_cheapestBreak_52 : decode cX4_cheapestBreak 52 = .ok (.iload 6, 2) := by decide +kernel
theorem dX4_cheapestBreak_54 : decode cX4_cheapestBreak 54 = .ok (.istore 4, 2) := by decide +kernel
theorem dX4_cheapestBreak_56 : decode cX4_cheapestBreak 56 = .ok (.iinc 5 1, 3) := by decide +kernel
theorem dX4_cheapestBreak_59 : decode cX4_cheapestBreak 59 = .ok (.goto (-51), 3) := by decide +kernel
theorem dX4_cheapestBreak_62 : decode cX4_cheapestBreak 62 = .ok (.iload_n 3, 1) := by decide +kernel
theorem dX4_cheapestBreak_63 : decode cX4_cheapestBreak 63 = .ok (.ireturn, 1) := by decide +kernel
theorem dX4_widestBreak_0 : decode cX4_widestBreak 0 = .ok (.iconst (-1), 1) := by decide +kernel
theorem dX4_widestBreak_1 : decode cX4_widestBreak 1 = .ok (.istore_n 3, 1) := by decide +kernel
theorem dX4_widestBreak_2 : decode cX4_widestBreak 2 = .ok (.iconst 0, 1) := by decide +kernel
theorem dX4_widestBreak_3 : decode cX4_widestBreak 3 = .ok (.istore 4, 2) := by decide +kernel
theorem dX4_widestBreak_5 : decode cX4_widestBreak 5 = .ok (.iload 4, 2) := by decide +kernel
theorem dX4_widestBreak_7 : decode cX4_widestBreak 7 = .ok (.aload_n 0, 1) := by decide +kernel
theorem dX4_widestBreak_8 : decode cX4_widestBreak 8 = .ok (.getfield 44, 3) := by decide +kernel
theorem dX4_widestBreak_11 : decode cX4_widestBreak 11 = .ok (.if_icmp .ge 61, 3) := by decide +kernel
theorem dX4_widestBreak_14 : decode cX4_widestBreak 14 = .ok (.iload_n 3, 1) := by decide +kernel
theorem dX4_widestBreak_15 : decode cX4_widestBreak 15 = .ok (.ifCond .lt 25, 3) := by decide +kernel
theorem dX4_widestBreak_18 : decode cX4_widestBreak 18 = .ok (.aload_n 0, 1) := by decide +kernel
theorem dX4_widestBreak_19 : decode cX4_widestBreak 19 = .ok (.getfield 11, 3) := by decide +kernel
theorem dX4_widestBreak_22 : decode cX4_widestBreak 22 = .ok (.iload 4, 2) := by decide +kernel
theorem dX4_widestBreak_24 : decode cX4_widestBreak 24 = .ok (.aaload, 1) := by decide +kernel
theorem dX4_widestBreak_25 : decode cX4_widestBreak 25 = .ok (.getfield 121, 3) := by decide +kernel
theorem dX4_widestBreak_28 : decode cX4_widestBreak 28 = .ok (.aload_n 0, 1) := by decide +kernel
theorem dX4_widestBreak_29 : decode cX4_widestBreak 29 = .ok (.getfield 11, 3) := by decide +kernel
theorem dX4_widestBreak_32 : decode cX4_widestBreak 32 = .ok (.iload_n 3, 1) := by decide +kernel
theorem dX4_widestBreak_33 : decode cX4_widestBreak 33 = .ok (.aaload, 1) := by decide +kernel
theorem dX4_widestBreak_34 : decode cX4_widestBreak 34 = .ok (.getfield 121, 3) := by decide +kernel
theorem dX4_widestBreak_37 : decode cX4_widestBreak 37 = .ok (.if_icmp .le 7, 3) := by decide +kernel
theorem dX4_widestBreak_40 : decode cX4_widestBreak 40 = .ok (.iconst 1, 1) := by decide +kernel
theorem dX4_widestBreak_41 : decode cX4_widestBreak 41 = .ok (.goto 4, 3) := by decide +kernel
theorem dX4_widestBreak_44 : decode cX4_widestBreak 44 = .ok (.iconst 0, 1) := by decide +kernel
theorem dX4_widestBreak_45 : decode cX4_widestBreak 45 = .ok (.istore 5, 2) := by decide +kernel
theorem dX4_widestBreak_47 : decode cX4_widestBreak 47 = .ok (.iload 5, 2) := by decide +kernel
theorem dX4_widestBreak_49 : decode cX4_widestBreak 49 = .ok (.ifCond .eq 17, 3) := by decide +kernel
theorem dX4_widestBreak_52 : decode cX4_widestBreak 52 = .ok (.aload_n 0, 1) := by decide +kernel
theorem dX4_widestBreak_53 : decode cX4_widestBreak 53 = .ok (.iload_n 1, 1) := by decide +kernel
theorem dX4_widestBreak_54 : decode cX4_widestBreak 54 = .ok (.iload_n 2, 1) := by decide +kernel
theorem dX4_widestBreak_55 : decode cX4_widestBreak 55 = .ok (.iload 4, 2) := by decide +kernel
theorem dX4_widestBreak_57 : decode cX4_widestBreak 57 = .ok (.invokevirtual 140, 3) := by decide +kernel
theorem dX4_widestBreak_60 : decode cX4_widestBreak 60 = .ok (.ifCond .ne 6, 3) := by decide +kernel
theorem dX4_widestBreak_63 : decode cX4_widestBreak 63 = .ok (.iload 4, 2) := by decide +kernel
theorem dX4_widestBreak_65 : decode cX4_widestBreak 65 = .ok (.istore_n 3, 1) := by decide +kernel
theorem dX4_widestBreak_66 : decode cX4_widestBreak 66 = .ok (.iinc 4 1, 3) := by decide +kernel
theorem dX4_widestBreak_69 : decode cX4_widestBreak 69 = .ok (.goto (-64), 3) := by decide +kernel
theorem dX4_widestBreak_72 : decode cX4_widestBreak 72 = .ok (.iload_n 3, 1) := by decide +kernel
theorem dX4_widestBreak_73 : decode cX4_widestBreak 73 = .ok (.ireturn, 1) := by decide +kernel
theorem dX4_earliestOpen_0 : decode cX4_earliestOpen 0 = .ok (.iconst 0, 1) := by decide +kernel
theorem dX4_earliestOpen_1 : decode cX4_earliestOpen 1 = .ok (.istore_n 1, 1) := by decide +kernel
theorem dX4_earliestOpen_2 : decode cX4_earliestOpen 2 = .ok (.iload_n 1, 1) := by decide +kernel
theorem dX4_earliestOpen_3 : decode cX4_earliestOpen 3 = .ok (.aload_n 0, 1) := by decide +kernel
theorem dX4_earliestOpen_4 : decode cX4_earliestOpen 4 = .ok (.getfield 44, 3) := by decide +kernel
theorem dX4_earliestOpen_7 : decode cX4_earliestOpen 7 = .ok (.if_icmp .ge 23, 3) := by decide +kernel
theorem dX4_earliestOpen_10 : decode cX4_earliestOpen 10 = .ok (.aload_n 0, 1) := by decide +kernel
theorem dX4_earliestOpen_11 : decode cX4_earliestOpen 11 = .ok (.getfield 11, 3) := by decide +kernel
theorem dX4_earliestOpen_14 : decode cX4_earliestOpen 14 = .ok (.iload_n 1, 1) := by decide +kernel
theorem dX4_earliestOpen_15 : decode cX4_earliestOpen 15 = .ok (.aaload, 1) := by decide +kernel
theorem dX4_earliestOpen_16 : decode cX4_earliestOpen 16 = .ok (.getfield 94, 3) := by decide +kernel
theorem dX4_earliestOpen_19 : decode cX4_earliestOpen 19 = .ok (.ifCond .ne 5, 3) := by decide +kernel
theorem dX4_earliestOpen_22 : decode cX4_earliestOpen 22 = .ok (.iload_n 1, 1) := by decide +kernel
theorem dX4_earliestOpen_23 : decode cX4_earliestOpen 23 = .ok (.ireturn, 1) := by decide +kernel
theorem dX4_earliestOpen_24 : decode cX4_earliestOpen 24 = .ok (.iinc 1 1, 3) := by decide +kernel
theorem dX4_earliestOpen_27 : decode cX4_earliestOpen 27 = .ok (.goto (-25), 3) := by decide +kernel
theorem dX4_earliestOpen_30 : decode cX4_earliestOpen 30 = .ok (.iconst (-1), 1) := by decide +kernel
theorem dX4_earliestOpen_31 : decode cX4_earliestOpen 31 = .ok (.ireturn, 1) := by decide +kernel
theorem dX4_bookSpot_0 : decode cX4_bookSpot 0 = .ok (.aload_n 0, 1) := by decide +kernel
theorem dX4_bookSpot_1 : decode cX4_bookSpot 1 = .ok (.iload_n 1, 1) := by decide +kernel
theorem dX4_bookSpot_2 : decode cX4_bookSpot 2 = .ok (.iload_n 2, 1) := by decide +kernel
theorem dX4_bookSpot_3 : decode cX4_bookSpot 3 = .ok (.iload_n 3, 1) := by decide +kernel
theorem dX4_bookSpot_4 : decode cX4_bookSpot 4 = .ok (.invokevirtual 140, 3) := by decide +kernel
theorem dX4_bookSpot_7 : decode cX4_bookSpot 7 = .ok (.istore 4, 2) := by decide +kernel
theorem dX4_bookSpot_9 : decode cX4_bookSpot 9 = .ok (.iload 4, 2) := by decide +kernel
theorem dX4_bookSpot_11 : decode cX4_bookSpot 11 = .ok (.ifCond .eq 7, 3) := by decide +kernel
theorem dX4_bookSpot_14 : decode cX4_bookSpot 14 = .ok (.iload 4, 2) := by decide +kernel
theorem dX4_bookSpot_16 : decode cX4_bookSpot 16 = .ok (.ineg, 1) := by decide +kernel
theorem dX4_bookSpot_17 : decode cX4_bookSpot 17 = .ok (.ireturn, 1) := by decide +kernel
theorem dX4_bookSpot_18 : decode cX4_bookSpot 18 = .ok (.aload_n 0, 1) := by decide +kernel
theorem dX4_bookSpot_19 : decode cX4_bookSpot 19 = .ok (.iload_n 1, 1) := by decide +kernel
theorem dX4_bookSpot_20 : decode cX4_bookSpot 20 = .ok (.iload_n 2, 1) := by decide +kernel
theorem dX4_bookSpot_21 : decode cX4_bookSpot 21 = .ok (.iload_n 3, 1) := by decide +kernel
theorem dX4_bookSpot_22 : decode cX4_bookSpot 22 = .ok (.invokevirtual 144, 3) := by decide +kernel
theorem dX4_bookSpot_25 : decode cX4_bookSpot 25 = .ok (.istore 5, 2) := by decide +kernel
theorem dX4_bookSpot_27 : decode cX4_bookSpot 27 = .ok (.aload_n 0, 1) := by decide +kernel
theorem dX4_bookSpot_28 : decode cX4_bookSpot 28 = .ok (.getfield 11, 3) := by decide +kernel
theorem dX4_bookSpot_31 : decode cX4_bookSpot 31 = .ok (.iload_n 3, 1) := by decide +kernel
theorem dX4_bookSpot_32 : decode cX4_bookSpot 32 = .ok (.aaload, 1) := by decide +kernel
theorem dX4_bookSpot_33 : decode cX4_bookSpot 33 = .ok (.getfield 87, 3) := by decide +kernel
theorem dX4_bookSpot_36 : decode cX4_bookSpot 36 = .ok (.astore 6, 2) := by decide +kernel
theorem dX4_bookSpot_38 : decode cX4_bookSpot 38 = .ok (.aload_n 0, 1) := by decide +kernel
theorem dX4_bookSpot_39 : decode cX4_bookSpot 39 = .ok (.iload_n 1, 1) := by decide +kernel
theorem dX4_bookSpot_40 : decode cX4_bookSpot 40 = .ok (.aload 6, 2) := by decide +kernel
theorem dX4_bookSpot_42 : decode cX4_bookSpot 42 = .ok (.invokevirtual 111, 3) := by decide +kernel
theorem dX4_bookSpot_45 : decode cX4_bookSpot 45 = .ok (.istore 7, 2) := by decide +kernel
theorem dX4_bookSpot_47 : decode cX4_bookSpot 47 = .ok (.aload 6, 2) := by decide +kernel
theorem dX4_bookSpot_49 : decode cX4_bookSpot 49 = .ok (.iload 7, 2) := by decide +kernel
theorem dX4_bookSpot_51 : decode cX4_bookSpot 51 = .ok (.iload_n 1, 1) := by decide +kernel
theorem dX4_bookSpot_52 : decode cX4_bookSpot 52 = .ok (.iload_n 2, 1) := by decide +kernel
theorem dX4_bookSpot_53 : decode cX4_bookSpot 53 = .ok (.iload 5, 2) := by decide +kernel
theorem dX4_bookSpot_55 : decode cX4_bookSpot 55 = .ok (.iconst 0, 1) := by decide +kernel
theorem dX4_bookSpot_56 : decode cX4_bookSpot 56 = .ok (.invokevirtual 147, 3) := by decide +kernel
theorem dX4_bookSpot_59 : decode cX4_bookSpot 59 = .ok (.aload_n 0, 1) := by decide +kernel
theorem dX4_bookSpot_60 : decode cX4_bookSpot 60 = .ok (.dup, 1) := by decide +kernel
theorem dX4_bookSpot_61 : decode cX4_bookSpot 61 = .ok (.getfield 57, 3) := by decide +kernel
theorem dX4_bookSpot_64 : decode cX4_bookSpot 64 = .ok (.iload 5, 2) := by decide +kernel
theorem dX4_bookSpot_66 : decode cX4_bookSpot 66 = .ok (.iadd, 1) := by decide +kernel
theorem dX4_bookSpot_67 : decode cX4_bookSpot 67 = .ok (.putfield 57, 3) := by decide +kernel
theorem dX4_bookSpot_70 : decode cX4_bookSpot 70 = .ok (.iload 7, 2) := by decide +kernel
theorem dX4_bookSpot_72 : decode cX4_bookSpot 72 = .ok (.ireturn, 1) := by decide +kernel
theorem dX4_bookInOrder_0 : decode cX4_bookInOrder 0 = .ok (.aload_n 0, 1) := by decide +kernel
theorem dX4_bookInOrder_1 : decode cX4_bookInOrder 1 = .ok (.iload_n 1, 1) := by decide +kernel
theorem dX4_bookInOrder_2 : decode cX4_bookInOrder 2 = .ok (.iload_n 2, 1) := by decide +kernel
theorem dX4_bookInOrder_3 : decode cX4_bookInOrder 3 = .ok (.iload_n 3, 1) := by decide +kernel
theorem dX4_bookInOrder_4 : decode cX4_bookInOrder 4 = .ok (.invokevirtual 144, 3) := by decide +kernel
theorem dX4_bookInOrder_7 : decode cX4_bookInOrder 7 = .ok (.istore 5, 2) := by decide +kernel
theorem dX4_bookInOrder_9 : decode cX4_bookInOrder 9 = .ok (.aload_n 0, 1) := by decide +kernel
theorem dX4_bookInOrder_10 : decode cX4_bookInOrder 10 = .ok (.getfield 11, 3) := by decide +kernel
theorem dX4_bookInOrder_13 : decode cX4_bookInOrder 13 = .ok (.iload_n 3, 1) := by decide +kernel
theorem dX4_bookInOrder_14 : decode cX4_bookInOrder 14 = .ok (.aaload, 1) := by decide +kernel
theorem dX4_bookInOrder_15 : decode cX4_bookInOrder 15 = .ok (.getfield 87, 3) := by decide +kernel
theorem dX4_bookInOrder_18 : decode cX4_bookInOrder 18 = .ok (.astore 6, 2) := by decide +kernel
theorem dX4_bookInOrder_20 : decode cX4_bookInOrder 20 = .ok (.aload 6, 2) := by decide +kernel
theorem dX4_bookInOrder_22 : decode cX4_bookInOrder 22 = .ok (.aload 6, 2) := by decide +kernel
theorem dX4_bookInOrder_24 : decode cX4_bookInOrder 24 = .ok (.getfield 54, 3) := by decide +kernel
theorem dX4_bookInOrder_27 : decode cX4_bookInOrder 27 = .ok (.iload_n 1, 1) := by decide +kernel
theorem dX4_bookInOrder_28 : decode cX4_bookInOrder 28 = .ok (.iload_n 2, 1) := by decide +kernel
theorem dX4_bookInOrder_29 : decode cX4_bookInOrder 29 = .ok (.iload 5, 2) := by decide +kernel
theorem dX4_bookInOrder_31 : decode cX4_bookInOrder 31 = .ok (.iconst 0, 1) := by decide +kernel
theorem dX4_bookInOrder_32 : decode cX4_bookInOrder 32 = .ok (.invokevirtual 147, 3) := by decide +kernel
theorem dX4_bookInOrder_35 : decode cX4_bookInOrder 35 = .ok (.aload_n 0, 1) := by decide +kernel
theorem dX4_bookInOrder_36 : decode cX4_bookInOrder 36 = .ok (.dup, 1) := by decide +kernel
theorem dX4_bookInOrder_37 : decode cX4_bookInOrder 37 = .ok (.getfield 57, 3) := by decide +kernel
theorem dX4_bookInOrder_40 : decode cX4_bookInOrder 40 = .ok (.iload 5, 2) := by decide +kernel
theorem dX4_bookInOrder_42 : decode cX4_bookInOrder 42 = .ok (.iadd, 1) := by decide +kernel
theorem dX4_bookInOrder_43 : decode cX4_bookInOrder 43 = .ok (.putfield 57, 3) := by decide +kernel
theorem dX4_bookInOrder_46 : decode cX4_bookInOrder 46 = .ok (.iconst 0, 1) := by decide +kernel
theorem dX4_bookInOrder_47 : decode cX4_bookInOrder 47 = .ok (.istore 7, 2) := by decide +kernel
theorem dX4_bookInOrder_49 : decode cX4_bookInOrder 49 = .ok (.iload 7, 2) := by decide +kernel
theorem dX4_bookInOrder_51 : decode cX4_bookInOrder 51 = .ok (.aload 6, 2) := by decide +kernel
theorem dX4_bookInOrder_53 : decode cX4_bookInOrder 53 = .ok (.getfield 54, 3) := by decide +kernel
theorem dX4_bookInOrder_56 : decode cX4_bookInOrder 56 = .ok (.if_icmp .ge 34, 3) := by decide +kernel
theorem dX4_bookInOrder_59 : decode cX4_bookInOrder 59 = .ok (.iload 7, 2) := by decide +kernel
theorem dX4_bookInOrder_61 : decode cX4_bookInOrder 61 = .ok (.aload 4, 2) := by decide +kernel
theorem dX4_bookInOrder_63 : decode cX4_bookInOrder 63 = .ok (.arraylength, 1) := by decide +kernel
theorem dX4_bookInOrder_64 : decode cX4_bookInOrder 64 = .ok (.if_icmp .ge 26, 3) := by decide +kernel
theorem dX4_bookInOrder_67 : decode cX4_bookInOrder 67 = .ok (.aload 6, 2) := by decide +kernel
theorem dX4_bookInOrder_69 : decode cX4_bookInOrder 69 = .ok (.aload 6, 2) := by decide +kernel
theorem dX4_bookInOrder_71 : decode cX4_bookInOrder 71 = .ok (.aload 4, 2) := by decide +kernel
theorem dX4_bookInOrder_73 : decode cX4_bookInOrder 73 = .ok (.iload 7, 2) := by decide +kernel
theorem dX4_bookInOrder_75 : decode cX4_bookInOrder 75 = .ok (.iaload, 1) := by decide +kernel
theorem dX4_bookInOrder_76 : decode cX4_bookInOrder 76 = .ok (.invokevirtual 97, 3) := by decide +kernel
theorem dX4_bookInOrder_79 : decode cX4_bookInOrder 79 = .ok (.iload 7, 2) := by decide +kernel
theorem dX4_bookInOrder_81 : decode cX4_bookInOrder 81 = .ok (.invokevirtual 151, 3) := by decide +kernel
theorem dX4_bookInOrder_84 : decode cX4_bookInOrder 84 = .ok (.iinc 7 1, 3) := by decide +kernel
theorem dX4_bookInOrder_87 : decode cX4_bookInOrder 87 = .ok (.goto (-38), 3) := by decide +kernel
theorem dX4_bookInOrder_90 : decode cX4_bookInOrder 90 = .ok (.return_, 1) := by decide +kernel
theorem dX4_bookCheapest_0 : decode cX4_bookCheapest 0 = .ok (.iconst 0, 1) := by decide +kernel
theorem dX4_bookCheapest_1 : decode cX4_bookCheapest 1 = .ok (.istore 4, 2) := by decide +kernel
theorem dX4_bookCheapest_3 : decode cX4_bookCheapest 3 = .ok (.iload 4, 2) := by decide +kernel
theorem dX4_bookCheapest_5 : decode cX4_bookCheapest 5 = .ok (.iload_n 3, 1) := by decide +kernel
theorem dX4_bookCheapest_6 : decode cX4_bookCheapest 6 = .ok (.if_icmp .ge 34, 3) := by decide +kernel
theorem dX4_bookCheapest_9 : decode cX4_bookCheapest 9 = .ok (.aload_n 0, 1) := by decide +kernel
theorem dX4_bookCheapest_10 : decode cX4_bookCheapest 10 = .ok (.iload_n 1, 1) := by decide +kernel
theorem dX4_bookCheapest_11 : decode cX4_bookCheapest 11 = .ok (.iload_n 2, 1) := by decide +kernel
theorem dX4_bookCheapest_12 : decode cX4_bookCheapest 12 = .ok (.invokevirtual 155, 3) := by decide +kernel
theorem dX4_bookCheapest_15 : decode cX4_bookCheapest 15 = .ok (.istore 5, 2) := by decide +kernel
theorem dX4_bookCheapest_17 : decode cX4_bookCheapest 17 = .ok (.iload 5, 2) := by decide +kernel
theorem dX4_bookCheapest_19 : decode cX4_bookCheapest 19 = .ok (.ifCond .ge 6, 3) := by decide +kernel
theorem dX4_bookCheapest_22 : decode cX4_bookCheapest 22 = .ok (.iload 4, 2) := by decide +kernel
theorem dX4_bookCheapest_24 : decode cX4_bookCheapest 24 = .ok (.ireturn, 1) := by decide +kernel
theorem dX4_bookCheapest_25 : decode cX4_bookCheapest 25 = .ok (.aload_n 0, 1) := by decide +kernel
theorem dX4_bookCheapest_26 : decode cX4_bookCheapest 26 = .ok (.iload_n 1, 1) := by decide +kernel
theorem dX4_bookCheapest_27 : decode cX4_bookCheapest 27 = .ok (.iload_n 2, 1) := by decide +kernel
theorem dX4_bookCheapest_28 : decode cX4_bookCheapest 28 = .ok (.iload 5, 2) := by decide +kernel
theorem dX4_bookCheapest_30 : decode cX4_bookCheapest 30 = .ok (.invokevirtual 158, 3) := by decide +kernel
theorem dX4_bookCheapest_33 : decode cX4_bookCheapest 33 = .ok (.pop, 1) := by decide +kernel
theorem dX4_bookCheapest_34 : decode cX4_bookCheapest 34 = .ok (.iinc 4 1, 3) := by decide +kernel
theorem dX4_bookCheapest_37 : decode cX4_bookCheapest 37 = .ok (.goto (-34), 3) := by decide +kernel
theorem dX4_bookCheapest_40 : decode cX4_bookCheapest 40 = .ok (.iload_n 3, 1) := by decide +kernel
theorem dX4_bookCheapest_41 : decode cX4_bookCheapest 41 = .ok (.ireturn, 1) := by decide +kernel
theorem dX4_canTakeOut_0 : decode cX4_canTakeOut 0 = .ok (.aload_n 0, 1) := by decide +kernel
theorem dX4_canTakeOut_1 : decode cX4_canTakeOut 1 = .ok (.getfield 11, 3) := by decide +kernel
theorem dX4_canTakeOut_4 : decode cX4_canTakeOut 4 = .ok (.iload_n 1, 1) := by decide +kernel
theorem dX4_canTakeOut_5 : decode cX4_canTakeOut 5 = .ok (.aaload, 1) := by decide +kernel
theorem dX4_canTakeOut_6 : decode cX4_canTakeOut 6 = .ok (.getfield 87, 3) := by decide +kernel
theorem dX4_canTakeOut_9 : decode cX4_canTakeOut 9 = .ok (.astore_n 3, 1) := by decide +kernel
theorem dX4_canTakeOut_10 : decode cX4_canTakeOut 10 = .ok (.aload_n 0, 1) := by decide +kernel
theorem dX4_canTakeOut_11 : decode cX4_canTakeOut 11 = .ok (.getfield 11, 3) := by decide +kernel
theorem dX4_canTakeOut_14 : decode cX4_canTakeOut 14 = .ok (.iload_n 1, 1) := by decide +kernel
theorem dX4_canTakeOut_15 : decode cX4_canTakeOut 15 = .ok (.aaload, 1) := by decide +kernel
theorem dX4_canTakeOut_16 : decode cX4_canTakeOut 16 = .ok (.getfield 94, 3) := by decide +kernel
theorem dX4_canTakeOut_19 : decode cX4_canTakeOut 19 = .ok (.ifCond .eq 5, 3) := by decide +kernel
theorem dX4_canTakeOut_22 : decode cX4_canTakeOut 22 = .ok (.iconst 0, 1) := by decide +kernel
theorem dX4_canTakeOut_23 : decode cX4_canTakeOut 23 = .ok (.ireturn, 1) := by decide +kernel
theorem dX4_canTakeOut_24 : decode cX4_canTakeOut 24 = .ok (.iload_n 2, 1) := by decide +kernel
theorem dX4_canTakeOut_25 : decode cX4_canTakeOut 25 = .ok (.ifCond .le 17, 3) := by decide +kernel
theorem dX4_canTakeOut_28 : decode cX4_canTakeOut 28 = .ok (.iload_n 2, 1) := by decide +kernel
theorem dX4_canTakeOut_29 : decode cX4_canTakeOut 29 = .ok (.aload_n 3, 1) := by decide +kernel
theorem dX4_canTakeOut_30 : decode cX4_canTakeOut 30 = .ok (.getfield 54, 3) := by decide +kernel
theorem dX4_canTakeOut_33 : decode cX4_canTakeOut 33 = .ok (.iconst 1, 1) := by decide +kernel
theorem dX4_canTakeOut_34 : decode cX4_canTakeOut 34 = .ok (.isub, 1) := by decide +kernel
theorem dX4_canTakeOut_35 : decode cX4_canTakeOut 35 = .ok (.if_icmp .ge 7, 3) := by decide +kernel
theorem dX4_canTakeOut_38 : decode cX4_canTakeOut 38 = .ok (.iconst 1, 1) := by decide +kernel
theorem dX4_canTakeOut_39 : decode cX4_canTakeOut 39 = .ok (.goto 4, 3) := by decide +kernel
theorem dX4_canTakeOut_42 : decode cX4_canTakeOut 42 = .ok (.iconst 0, 1) := by decide +kernel
theorem dX4_canTakeOut_43 : decode cX4_canTakeOut 43 = .ok (.istore 4, 2) := by decide +kernel
theorem dX4_canTakeOut_45 : decode cX4_canTakeOut 45 = .ok (.iload 4, 2) := by decide +kernel
theorem dX4_canTakeOut_47 : decode cX4_canTakeOut 47 = .ok (.ifCond .eq 26, 3) := by decide +kernel
theorem dX4_canTakeOut_50 : decode cX4_canTakeOut 50 = .ok (.aload_n 0, 1) := by decide +kernel
theorem dX4_canTakeOut_51 : decode cX4_canTakeOut 51 = .ok (.aload_n 3, 1) := by decide +kernel
theorem dX4_canTakeOut_52 : decode cX4_canTakeOut 52 = .ok (.getfield 115, 3) := by decide +kernel
theorem dX4_canTakeOut_55 : decode cX4_canTakeOut 55 = .ok (.iload_n 2, 1) := by decide +kernel
theorem dX4_canTakeOut_56 : decode cX4_canTakeOut 56 = .ok (.iconst 1, 1) := by decide +kernel
theorem dX4_canTakeOut_57 : decode cX4_canTakeOut 57 = .ok (.isub, 1) := by decide +kernel
theorem dX4_canTakeOut_58 : decode cX4_canTakeOut 58 = .ok (.iaload, 1) := by decide +kernel
theorem dX4_canTakeOut_59 : decode cX4_canTakeOut 59 = .ok (.aload_n 3, 1) := by decide +kernel
theorem dX4_canTakeOut_60 : decode cX4_canTakeOut 60 = .ok (.getfield 115, 3) := by decide +kernel
theorem dX4_canTakeOut_63 : decode cX4_canTakeOut 63 = .ok (.iload_n 2, 1) := by decide +kernel
theorem dX4_canTakeOut_64 : decode cX4_canTakeOut 64 = .ok (.iconst 1, 1) := by decide +kernel
theorem dX4_canTakeOut_65 : decode cX4_canTakeOut 65 = .ok (.iadd, 1) := by decide +kernel
theorem dX4_canTakeOut_66 : decode cX4_canTakeOut 66 = .ok (.iaload, 1) := by decide +kernel
theorem dX4_canTakeOut_67 : decode cX4_canTakeOut 67 = .ok (.invokevirtual 118, 3) := by decide +kernel
theorem dX4_canTakeOut_70 : decode cX4_canTakeOut 70 = .ok (.ifCond .ne 7, 3) := by decide +kernel
theorem dX4_canTakeOut_73 : decode cX4_canTakeOut 73 = .ok (.iconst 1, 1) := by decide +kernel
theorem dX4_canTakeOut_74 : decode cX4_canTakeOut 74 = .ok (.goto 4, 3) := by decide +kernel
theorem dX4_canTakeOut_77 : decode cX4_canTakeOut 77 = .ok (.iconst 0, 1) := by decide +kernel
theorem dX4_canTakeOut_78 : decode cX4_canTakeOut 78 = .ok (.ireturn, 1) := by decide +kernel
theorem dX4_takeOut_0 : decode cX4_takeOut 0 = .ok (.aload_n 0, 1) := by decide +kernel
theorem dX4_takeOut_1 : decode cX4_takeOut 1 = .ok (.getfield 11, 3) := by decide +kernel
theorem dX4_takeOut_4 : decode cX4_takeOut 4 = .ok (.iload_n 1, 1) := by decide +kernel
theorem dX4_takeOut_5 : decode cX4_takeOut 5 = .ok (.aaload, 1) := by decide +kernel
theorem dX4_takeOut_6 : decode cX4_takeOut 6 = .ok (.getfield 87, 3) := by decide +kernel
theorem dX4_takeOut_9 : decode cX4_takeOut 9 = .ok (.astore_n 3, 1) := by decide +kernel
theorem dX4_takeOut_10 : decode cX4_takeOut 10 = .ok (.aload_n 3, 1) := by decide +kernel
theorem dX4_takeOut_11 : decode cX4_takeOut 11 = .ok (.getfield 161, 3) := by decide +kernel
theorem dX4_takeOut_14 : decode cX4_takeOut 14 = .ok (.iload_n 2, 1) := by decide +kernel
theorem dX4_takeOut_15 : decode cX4_takeOut 15 = .ok (.iaload, 1) := by decide +kernel
theorem dX4_takeOut_16 : decode cX4_takeOut 16 = .ok (.iconst 2, 1) := by decide +kernel
theorem dX4_takeOut_17 : decode cX4_takeOut 17 = .ok (.idiv, 1) := by decide +kernel
theorem dX4_takeOut_18 : decode cX4_takeOut 18 = .ok (.istore 4, 2) := by decide +kernel
theorem dX4_takeOut_20 : decode cX4_takeOut 20 = .ok (.aload_n 3, 1) := by decide +kernel
theorem dX4_takeOut_21 : decode cX4_takeOut 21 = .ok (.iload_n 2, 1) := by decide +kernel
theorem dX4_takeOut_22 : decode cX4_takeOut 22 = .ok (.invokevirtual 164, 3) := by decide +kernel
theorem dX4_takeOut_25 : decode cX4_takeOut 25 = .ok (.aload_n 0, 1) := by decide +kernel
theorem dX4_takeOut_26 : decode cX4_takeOut 26 = .ok (.dup, 1) := by decide +kernel
end
section
theorem dX4_takeOut_27 : decode cX4_takeOut 27 = .ok (.getfield 57, 3) := by decide +kernel
theorem dX4_takeOut_30 : decode cX4_takeOut 30 = .ok (.iload 4, 2) := by decide +kernel
theorem dX4_takeOut_32 : decode cX4_takeOut 32 = .ok (.isub, 1) := by decide +kernel
theorem dX4_takeOut_33 : decode cX4_takeOut 33 = .ok (.putfield 57, 3) := by decide +kernel
theorem dX4_takeOut_36 : decode cX4_takeOut 36 = .ok (.iload 4, 2) := by decide +kernel
theorem dX4_takeOut_38 : decode cX4_takeOut 38 = .ok (.ireturn, 1) := by decide +kernel
theorem dX4_cancelBreak_0 : decode cX4_cancelBreak 0 = .ok (.aload_n 0, 1) := by decide +kernel
theorem dX4_cancelBreak_1 : decode cX4_cancelBreak 1 = .ok (.getfield 11, 3) := by decide +kernel
theorem dX4_cancelBreak_4 : decode cX4_cancelBreak 4 = .ok (.iload_n 1, 1) := by decide +kernel
theorem dX4_cancelBreak_5 : decode cX4_cancelBreak 5 = .ok (.aaload, 1) := by decide +kernel
theorem dX4_cancelBreak_6 : decode cX4_cancelBreak 6 = .ok (.astore_n 2, 1) := by decide +kernel
theorem dX4_cancelBreak_7 : decode cX4_cancelBreak 7 = .ok (.iconst 0, 1) := by decide +kernel
theorem dX4_cancelBreak_8 : decode cX4_cancelBreak 8 = .ok (.istore_n 3, 1) := by decide +kernel
theorem dX4_cancelBreak_9 : decode cX4_cancelBreak 9 = .ok (.iload_n 3, 1) := by decide +kernel
theorem dX4_cancelBreak_10 : decode cX4_cancelBreak 10 = .ok (.aload_n 2, 1) := by decide +kernel
theorem dX4_cancelBreak_11 : decode cX4_cancelBreak 11 = .ok (.getfield 87, 3) := by decide +kernel
theorem dX4_cancelBreak_14 : decode cX4_cancelBreak 14 = .ok (.getfield 54, 3) := by decide +kernel
theorem dX4_cancelBreak_17 : decode cX4_cancelBreak 17 = .ok (.if_icmp .ge 32, 3) := by decide +kernel
theorem dX4_cancelBreak_20 : decode cX4_cancelBreak 20 = .ok (.aload_n 0, 1) := by decide +kernel
theorem dX4_cancelBreak_21 : decode cX4_cancelBreak 21 = .ok (.getfield 40, 3) := by decide +kernel
theorem dX4_cancelBreak_24 : decode cX4_cancelBreak 24 = .ok (.aload_n 2, 1) := by decide +kernel
theorem dX4_cancelBreak_25 : decode cX4_cancelBreak 25 = .ok (.getfield 87, 3) := by decide +kernel
theorem dX4_cancelBreak_28 : decode cX4_cancelBreak 28 = .ok (.iload_n 3, 1) := by decide +kernel
theorem dX4_cancelBreak_29 : decode cX4_cancelBreak 29 = .ok (.aload_n 0, 1) := by decide +kernel
theorem dX4_cancelBreak_30 : decode cX4_cancelBreak 30 = .ok (.getfield 40, 3) := by decide +kernel
theorem dX4_cancelBreak_33 : decode cX4_cancelBreak 33 = .ok (.getfield 54, 3) := by decide +kernel
theorem dX4_cancelBreak_36 : decode cX4_cancelBreak 36 = .ok (.aload_n 2, 1) := by decide +kernel
theorem dX4_cancelBreak_37 : decode cX4_cancelBreak 37 = .ok (.getfield 121, 3) := by decide +kernel
theorem dX4_cancelBreak_40 : decode cX4_cancelBreak 40 = .ok (.invokevirtual 167, 3) := by decide +kernel
theorem dX4_cancelBreak_43 : decode cX4_cancelBreak 43 = .ok (.iinc 3 1, 3) := by decide +kernel
theorem dX4_cancelBreak_46 : decode cX4_cancelBreak 46 = .ok (.goto (-37), 3) := by decide +kernel
theorem dX4_cancelBreak_49 : decode cX4_cancelBreak 49 = .ok (.aload_n 2, 1) := by decide +kernel
theorem dX4_cancelBreak_50 : decode cX4_cancelBreak 50 = .ok (.getfield 87, 3) := by decide +kernel
theorem dX4_cancelBreak_53 : decode cX4_cancelBreak 53 = .ok (.iconst 0, 1) := by decide +kernel
theorem dX4_cancelBreak_54 : decode cX4_cancelBreak 54 = .ok (.putfield 54, 3) := by decide +kernel
theorem dX4_cancelBreak_57 : decode cX4_cancelBreak 57 = .ok (.aload_n 2, 1) := by decide +kernel
theorem dX4_cancelBreak_58 : decode cX4_cancelBreak 58 = .ok (.iconst 2, 1) := by decide +kernel
theorem dX4_cancelBreak_59 : decode cX4_cancelBreak 59 = .ok (.putfield 94, 3) := by decide +kernel
theorem dX4_cancelBreak_62 : decode cX4_cancelBreak 62 = .ok (.return_, 1) := by decide +kernel
theorem dX4_settleOwed_0 : decode cX4_settleOwed 0 = .ok (.aload_n 0, 1) := by decide +kernel
theorem dX4_settleOwed_1 : decode cX4_settleOwed 1 = .ok (.getfield 40, 3) := by decide +kernel
theorem dX4_settleOwed_4 : decode cX4_settleOwed 4 = .ok (.getfield 54, 3) := by decide +kernel
theorem dX4_settleOwed_7 : decode cX4_settleOwed 7 = .ok (.istore_n 1, 1) := by decide +kernel
theorem dX4_settleOwed_8 : decode cX4_settleOwed 8 = .ok (.iconst 0, 1) := by decide +kernel
theorem dX4_settleOwed_9 : decode cX4_settleOwed 9 = .ok (.istore_n 2, 1) := by decide +kernel
theorem dX4_settleOwed_10 : decode cX4_settleOwed 10 = .ok (.iconst 0, 1) := by decide +kernel
theorem dX4_settleOwed_11 : decode cX4_settleOwed 11 = .ok (.istore_n 3, 1) := by decide +kernel
theorem dX4_settleOwed_12 : decode cX4_settleOwed 12 = .ok (.iload_n 3, 1) := by decide +kernel
theorem dX4_settleOwed_13 : decode cX4_settleOwed 13 = .ok (.iload_n 1, 1) := by decide +kernel
theorem dX4_settleOwed_14 : decode cX4_settleOwed 14 = .ok (.if_icmp .ge 84, 3) := by decide +kernel
theorem dX4_settleOwed_17 : decode cX4_settleOwed 17 = .ok (.iload_n 2, 1) := by decide +kernel
theorem dX4_settleOwed_18 : decode cX4_settleOwed 18 = .ok (.aload_n 0, 1) := by decide +kernel
theorem dX4_settleOwed_19 : decode cX4_settleOwed 19 = .ok (.getfield 40, 3) := by decide +kernel
theorem dX4_settleOwed_22 : decode cX4_settleOwed 22 = .ok (.getfield 54, 3) := by decide +kernel
theorem dX4_settleOwed_25 : decode cX4_settleOwed 25 = .ok (.if_icmp .ge 73, 3) := by decide +kernel
theorem dX4_settleOwed_28 : decode cX4_settleOwed 28 = .ok (.aload_n 0, 1) := by decide +kernel
theorem dX4_settleOwed_29 : decode cX4_settleOwed 29 = .ok (.iload_n 2, 1) := by decide +kernel
theorem dX4_settleOwed_30 : decode cX4_settleOwed 30 = .ok (.invokevirtual 171, 3) := by decide +kernel
theorem dX4_settleOwed_33 : decode cX4_settleOwed 33 = .ok (.istore 4, 2) := by decide +kernel
theorem dX4_settleOwed_35 : decode cX4_settleOwed 35 = .ok (.iload 4, 2) := by decide +kernel
theorem dX4_settleOwed_37 : decode cX4_settleOwed 37 = .ok (.ifCond .ge 9, 3) := by decide +kernel
theorem dX4_settleOwed_40 : decode cX4_settleOwed 40 = .ok (.iinc 2 1, 3) := by decide +kernel
theorem dX4_settleOwed_43 : decode cX4_settleOwed 43 = .ok (.goto 49, 3) := by decide +kernel
theorem dX4_settleOwed_46 : decode cX4_settleOwed 46 = .ok (.aload_n 0, 1) := by decide +kernel
theorem dX4_settleOwed_47 : decode cX4_settleOwed 47 = .ok (.getfield 11, 3) := by decide +kernel
theorem dX4_settleOwed_50 : decode cX4_settleOwed 50 = .ok (.iload 4, 2) := by decide +kernel
theorem dX4_settleOwed_52 : decode cX4_settleOwed 52 = .ok (.aaload, 1) := by decide +kernel
theorem dX4_settleOwed_53 : decode cX4_settleOwed 53 = .ok (.getfield 87, 3) := by decide +kernel
theorem dX4_settleOwed_56 : decode cX4_settleOwed 56 = .ok (.astore 5, 2) := by decide +kernel
theorem dX4_settleOwed_58 : decode cX4_settleOwed 58 = .ok (.aload 5, 2) := by decide +kernel
theorem dX4_settleOwed_60 : decode cX4_settleOwed 60 = .ok (.aload_n 0, 1) := by decide +kernel
theorem dX4_settleOwed_61 : decode cX4_settleOwed 61 = .ok (.getfield 40, 3) := by decide +kernel
theorem dX4_settleOwed_64 : decode cX4_settleOwed 64 = .ok (.iload_n 2, 1) := by decide +kernel
theorem dX4_settleOwed_65 : decode cX4_settleOwed 65 = .ok (.aload_n 0, 1) := by decide +kernel
theorem dX4_settleOwed_66 : decode cX4_settleOwed 66 = .ok (.aload_n 0, 1) := by decide +kernel
theorem dX4_settleOwed_67 : decode cX4_settleOwed 67 = .ok (.getfield 40, 3) := by decide +kernel
theorem dX4_settleOwed_70 : decode cX4_settleOwed 70 = .ok (.getfield 115, 3) := by decide +kernel
theorem dX4_settleOwed_73 : decode cX4_settleOwed 73 = .ok (.iload_n 2, 1) := by decide +kernel
theorem dX4_settleOwed_74 : decode cX4_settleOwed 74 = .ok (.iaload, 1) := by decide +kernel
theorem dX4_settleOwed_75 : decode cX4_settleOwed 75 = .ok (.aload 5, 2) := by decide +kernel
theorem dX4_settleOwed_77 : decode cX4_settleOwed 77 = .ok (.invokevirtual 111, 3) := by decide +kernel
theorem dX4_settleOwed_80 : decode cX4_settleOwed 80 = .ok (.iconst 0, 1) := by decide +kernel
theorem dX4_settleOwed_81 : decode cX4_settleOwed 81 = .ok (.invokevirtual 167, 3) := by decide +kernel
theorem dX4_settleOwed_84 : decode cX4_settleOwed 84 = .ok (.aload_n 0, 1) := by decide +kernel
theorem dX4_settleOwed_85 : decode cX4_settleOwed 85 = .ok (.getfield 40, 3) := by decide +kernel
theorem dX4_settleOwed_88 : decode cX4_settleOwed 88 = .ok (.iload_n 2, 1) := by decide +kernel
theorem dX4_settleOwed_89 : decode cX4_settleOwed 89 = .ok (.invokevirtual 164, 3) := by decide +kernel
theorem dX4_settleOwed_92 : decode cX4_settleOwed 92 = .ok (.iinc 3 1, 3) := by decide +kernel
theorem dX4_settleOwed_95 : decode cX4_settleOwed 95 = .ok (.goto (-83), 3) := by decide +kernel
theorem dX4_settleOwed_98 : decode cX4_settleOwed 98 = .ok (.iload_n 1, 1) := by decide +kernel
theorem dX4_settleOwed_99 : decode cX4_settleOwed 99 = .ok (.aload_n 0, 1) := by decide +kernel
theorem dX4_settleOwed_100 : decode cX4_settleOwed 100 = .ok (.getfield 40, 3) := by decide +kernel
theorem dX4_settleOwed_103 : decode cX4_settleOwed 103 = .ok (.getfield 54, 3) := by decide +kernel
theorem dX4_settleOwed_106 : decode cX4_settleOwed 106 = .ok (.isub, 1) := by decide +kernel
theorem dX4_settleOwed_107 : decode cX4_settleOwed 107 = .ok (.ireturn, 1) := by decide +kernel
theorem dX4_breakForOwed_0 : decode cX4_breakForOwed 0 = .ok (.iconst 0, 1) := by decide +kernel
theorem dX4_breakForOwed_1 : decode cX4_breakForOwed 1 = .ok (.istore_n 2, 1) := by decide +kernel
theorem dX4_breakForOwed_2 : decode cX4_breakForOwed 2 = .ok (.iload_n 2, 1) := by decide +kernel
theorem dX4_breakForOwed_3 : decode cX4_breakForOwed 3 = .ok (.aload_n 0, 1) := by decide +kernel
theorem dX4_breakForOwed_4 : decode cX4_breakForOwed 4 = .ok (.getfield 44, 3) := by decide +kernel
theorem dX4_breakForOwed_7 : decode cX4_breakForOwed 7 = .ok (.if_icmp .ge 68, 3) := by decide +kernel
theorem dX4_breakForOwed_10 : decode cX4_breakForOwed 10 = .ok (.aload_n 0, 1) := by decide +kernel
theorem dX4_breakForOwed_11 : decode cX4_breakForOwed 11 = .ok (.getfield 11, 3) := by decide +kernel
theorem dX4_breakForOwed_14 : decode cX4_breakForOwed 14 = .ok (.iload_n 2, 1) := by decide +kernel
theorem dX4_breakForOwed_15 : decode cX4_breakForOwed 15 = .ok (.aaload, 1) := by decide +kernel
theorem dX4_breakForOwed_16 : decode cX4_breakForOwed 16 = .ok (.getfield 121, 3) := by decide +kernel
theorem dX4_breakForOwed_19 : decode cX4_breakForOwed 19 = .ok (.aload_n 0, 1) := by decide +kernel
theorem dX4_breakForOwed_20 : decode cX4_breakForOwed 20 = .ok (.getfield 40, 3) := by decide +kernel
theorem dX4_breakForOwed_23 : decode cX4_breakForOwed 23 = .ok (.getfield 174, 3) := by decide +kernel
theorem dX4_breakForOwed_26 : decode cX4_breakForOwed 26 = .ok (.iload_n 1, 1) := by decide +kernel
theorem dX4_breakForOwed_27 : decode cX4_breakForOwed 27 = .ok (.iaload, 1) := by decide +kernel
theorem dX4_breakForOwed_28 : decode cX4_breakForOwed 28 = .ok (.if_icmp .lt 7, 3) := by decide +kernel
theorem dX4_breakForOwed_31 : decode cX4_breakForOwed 31 = .ok (.iconst 1, 1) := by decide +kernel
theorem dX4_breakForOwed_32 : decode cX4_breakForOwed 32 = .ok (.goto 4, 3) := by decide +kernel
theorem dX4_breakForOwed_35 : decode cX4_breakForOwed 35 = .ok (.iconst 0, 1) := by decide +kernel
theorem dX4_breakForOwed_36 : decode cX4_breakForOwed 36 = .ok (.istore_n 3, 1) := by decide +kernel
theorem dX4_breakForOwed_37 : decode cX4_breakForOwed 37 = .ok (.iload_n 3, 1) := by decide +kernel
theorem dX4_breakForOwed_38 : decode cX4_breakForOwed 38 = .ok (.ifCond .eq 31, 3) := by decide +kernel
theorem dX4_breakForOwed_41 : decode cX4_breakForOwed 41 = .ok (.aload_n 0, 1) := by decide +kernel
theorem dX4_breakForOwed_42 : decode cX4_breakForOwed 42 = .ok (.aload_n 0, 1) := by decide +kernel
theorem dX4_breakForOwed_43 : decode cX4_breakForOwed 43 = .ok (.getfield 40, 3) := by decide +kernel
theorem dX4_breakForOwed_46 : decode cX4_breakForOwed 46 = .ok (.getfield 115, 3) := by decide +kernel
theorem dX4_breakForOwed_49 : decode cX4_breakForOwed 49 = .ok (.iload_n 1, 1) := by decide +kernel
theorem dX4_breakForOwed_50 : decode cX4_breakForOwed 50 = .ok (.iaload, 1) := by decide +kernel
theorem dX4_breakForOwed_51 : decode cX4_breakForOwed 51 = .ok (.aload_n 0, 1) := by decide +kernel
theorem dX4_breakForOwed_52 : decode cX4_breakForOwed 52 = .ok (.getfield 40, 3) := by decide +kernel
theorem dX4_breakForOwed_55 : decode cX4_breakForOwed 55 = .ok (.getfield 177, 3) := by decide +kernel
theorem dX4_breakForOwed_58 : decode cX4_breakForOwed 58 = .ok (.iload_n 1, 1) := by decide +kernel
theorem dX4_breakForOwed_59 : decode cX4_breakForOwed 59 = .ok (.iaload, 1) := by decide +kernel
theorem dX4_breakForOwed_60 : decode cX4_breakForOwed 60 = .ok (.iload_n 2, 1) := by decide +kernel
theorem dX4_breakForOwed_61 : decode cX4_breakForOwed 61 = .ok (.invokevirtual 140, 3) := by decide +kernel
theorem dX4_breakForOwed_64 : decode cX4_breakForOwed 64 = .ok (.ifCond .ne 5, 3) := by decide +kernel
theorem dX4_breakForOwed_67 : decode cX4_breakForOwed 67 = .ok (.iload_n 2, 1) := by decide +kernel
theorem dX4_breakForOwed_68 : decode cX4_breakForOwed 68 = .ok (.ireturn, 1) := by decide +kernel
theorem dX4_breakForOwed_69 : decode cX4_breakForOwed 69 = .ok (.iinc 2 1, 3) := by decide +kernel
theorem dX4_breakForOwed_72 : decode cX4_breakForOwed 72 = .ok (.goto (-70), 3) := by decide +kernel
theorem dX4_breakForOwed_75 : decode cX4_breakForOwed 75 = .ok (.iconst (-1), 1) := by decide +kernel
theorem dX4_breakForOwed_76 : decode cX4_breakForOwed 76 = .ok (.ireturn, 1) := by decide +kernel
theorem dX5_init_0 : decode cX5_init 0 = .ok (.aload_n 0, 1) := by decide +kernel
theorem dX5_init_1 : decode cX5_init 1 = .ok (.invokespecial 3, 3) := by decide +kernel
theorem dX5_init_4 : decode cX5_init 4 = .ok (.aload_n 0, 1) := by decide +kernel
theorem dX5_init_5 : decode cX5_init 5 = .ok (.new 9, 3) := by decide +kernel
theorem dX5_init_8 : decode cX5_init 8 = .ok (.dup, 1) := by decide +kernel
theorem dX5_init_9 : decode cX5_init 9 = .ok (.invokespecial 11, 3) := by decide +kernel
theorem dX5_init_12 : decode cX5_init 12 = .ok (.putfield 12, 3) := by decide +kernel
theorem dX5_init_15 : decode cX5_init 15 = .ok (.return_, 1) := by decide +kernel
theorem dX5_readSetup_0 : decode cX5_readSetup 0 = .ok (.aload_n 3, 1) := by decide +kernel
theorem dX5_readSetup_1 : decode cX5_readSetup 1 = .ok (.invokevirtual 18, 3) := by decide +kernel
theorem dX5_readSetup_4 : decode cX5_readSetup 4 = .ok (.aload_n 0, 1) := by decide +kernel
theorem dX5_readSetup_5 : decode cX5_readSetup 5 = .ok (.iconst 0, 1) := by decide +kernel
theorem dX5_readSetup_6 : decode cX5_readSetup 6 = .ok (.putfield 23, 3) := by decide +kernel
theorem dX5_readSetup_9 : decode cX5_readSetup 9 = .ok (.aload_n 0, 1) := by decide +kernel
theorem dX5_readSetup_10 : decode cX5_readSetup 10 = .ok (.iconst (-1), 1) := by decide +kernel
theorem dX5_readSetup_11 : decode cX5_readSetup 11 = .ok (.putfield 27, 3) := by decide +kernel
theorem dX5_readSetup_14 : decode cX5_readSetup 14 = .ok (.aload_n 0, 1) := by decide +kernel
theorem dX5_readSetup_15 : decode cX5_readSetup 15 = .ok (.iconst 0, 1) := by decide +kernel
theorem dX5_readSetup_16 : decode cX5_readSetup 16 = .ok (.putfield 30, 3) := by decide +kernel
theorem dX5_readSetup_19 : decode cX5_readSetup 19 = .ok (.aload_n 0, 1) := by decide +kernel
theorem dX5_readSetup_20 : decode cX5_readSetup 20 = .ok (.iconst 0, 1) := by decide +kernel
theorem dX5_readSetup_21 : decode cX5_readSetup 21 = .ok (.putfield 33, 3) := by decide +kernel
theorem dX5_readSetup_24 : decode cX5_readSetup 24 = .ok (.aload_n 0, 1) := by decide +kernel
theorem dX5_readSetup_25 : decode cX5_readSetup 25 = .ok (.getfield 12, 3) := by decide +kernel
theorem dX5_readSetup_28 : decode cX5_readSetup 28 = .ok (.aload_n 1, 1) := by decide +kernel
theorem dX5_readSetup_29 : decode cX5_readSetup 29 = .ok (.iload_n 2, 1) := by decide +kernel
theorem dX5_readSetup_30 : decode cX5_readSetup 30 = .ok (.invokevirtual 37, 3) := by decide +kernel
theorem dX5_readSetup_33 : decode cX5_readSetup 33 = .ok (.aload_n 0, 1) := by decide +kernel
theorem dX5_readSetup_34 : decode cX5_readSetup 34 = .ok (.ldc 41, 2) := by decide +kernel
theorem dX5_readSetup_36 : decode cX5_readSetup 36 = .ok (.invokevirtual 43, 3) := by decide +kernel
theorem dX5_readSetup_39 : decode cX5_readSetup 39 = .ok (.ifCond .eq 12, 3) := by decide +kernel
theorem dX5_readSetup_42 : decode cX5_readSetup 42 = .ok (.aload_n 0, 1) := by decide +kernel
theorem dX5_readSetup_43 : decode cX5_readSetup 43 = .ok (.bipush 59, 2) := by decide +kernel
theorem dX5_readSetup_45 : decode cX5_readSetup 45 = .ok (.invokevirtual 47, 3) := by decide +kernel
theorem dX5_readSetup_48 : decode cX5_readSetup 48 = .ok (.ifCond .ne 5, 3) := by decide +kernel
theorem dX5_readSetup_51 : decode cX5_readSetup 51 = .ok (.iconst 0, 1) := by decide +kernel
theorem dX5_readSetup_52 : decode cX5_readSetup 52 = .ok (.ireturn, 1) := by decide +kernel
theorem dX5_readSetup_53 : decode cX5_readSetup 53 = .ok (.iconst 0, 1) := by decide +kernel
theorem dX5_readSetup_54 : decode cX5_readSetup 54 = .ok (.istore 4, 2) := by decide +kernel
theorem dX5_readSetup_56 : decode cX5_readSetup 56 = .ok (.iload 4, 2) := by decide +kernel
theorem dX5_readSetup_58 : decode cX5_readSetup 58 = .ok (.sipush 800, 3) := by decide +kernel
theorem dX5_readSetup_61 : decode cX5_readSetup 61 = .ok (.if_icmp .ge 38, 3) := by decide +kernel
theorem dX5_readSetup_64 : decode cX5_readSetup 64 = .ok (.aload_n 0, 1) := by decide +kernel
theorem dX5_readSetup_65 : decode cX5_readSetup 65 = .ok (.getfield 12, 3) := by decide +kernel
theorem dX5_readSetup_68 : decode cX5_readSetup 68 = .ok (.getfield 51, 3) := by decide +kernel
theorem dX5_readSetup_71 : decode cX5_readSetup 71 = .ok (.ifCond .eq 28, 3) := by decide +kernel
theorem dX5_readSetup_74 : decode cX5_readSetup 74 = .ok (.aload_n 0, 1) := by decide +kernel
theorem dX5_readSetup_75 : decode cX5_readSetup 75 = .ok (.aload_n 3, 1) := by decide +kernel
theorem dX5_readSetup_76 : decode cX5_readSetup 76 = .ok (.invokevirtual 54, 3) := by decide +kernel
theorem dX5_readSetup_79 : decode cX5_readSetup 79 = .ok (.ifCond .eq 12, 3) := by decide +kernel
theorem dX5_readSetup_82 : decode cX5_readSetup 82 = .ok (.aload_n 0, 1) := by decide +kernel
theorem dX5_readSetup_83 : decode cX5_readSetup 83 = .ok (.bipush 59, 2) := by decide +kernel
theorem dX5_readSetup_85 : decode cX5_readSetup 85 = .ok (.invokevirtual 47, 3) := by decide +kernel
theorem dX5_readSetup_88 : decode cX5_readSetup 88 = .ok (.ifCond .ne 5, 3) := by decide +kernel
theorem dX5_readSetup_91 : decode cX5_readSetup 91 = .ok (.iconst 0, 1) := by decide +kernel
theorem dX5_readSetup_92 : decode cX5_readSetup 92 = .ok (.ireturn, 1) := by decide +kernel
theorem dX5_readSetup_93 : decode cX5_readSetup 93 = .ok (.iinc 4 1, 3) := by decide +kernel
theorem dX5_readSetup_96 : decode cX5_readSetup 96 = .ok (.goto (-40), 3) := by decide +kernel
theorem dX5_readSetup_99 : decode cX5_readSetup 99 = .ok (.iconst 1, 1) := by decide +kernel
theorem dX5_readSetup_100 : decode cX5_readSetup 100 = .ok (.ireturn, 1) := by decide +kernel
theorem dX5_readStatement_0 : decode cX5_readStatement 0 = .ok (.aload_n 0, 1) := by decide +kernel
theorem dX5_readStatement_1 : decode cX5_readStatement 1 = .ok (.getfield 12, 3) := by decide +kernel
theorem dX5_readStatement_4 : decode cX5_readStatement 4 = .ok (.ldc 58, 2) := by decide +kernel
theorem dX5_readStatement_6 : decode cX5_readStatement 6 = .ok (.invokevirtual 60, 3) := by decide +kernel
theorem dX5_readStatement_9 : decode cX5_readStatement 9 = .ok (.ifCond .eq 9, 3) := by decide +kernel
theorem dX5_readStatement_12 : decode cX5_readStatement 12 = .ok (.aload_n 0, 1) := by decide +kernel
theorem dX5_readStatement_13 : decode cX5_readStatement 13 = .ok (.aload_n 1, 1) := by decide +kernel
theorem dX5_readStatement_14 : decode cX5_readStatement 14 = .ok (.invokevirtual 63, 3) := by decide +kernel
theorem dX5_readStatement_17 : decode cX5_readStatement 17 = .ok (.ireturn, 1) := by decide +kernel
theorem dX5_readStatement_18 : decode cX5_readStatement 18 = .ok (.aload_n 0, 1) := by decide +kernel
theorem dX5_readStatement_19 : decode cX5_readStatement 19 = .ok (.getfield 12, 3) := by decide +kernel
theorem dX5_readStatement_22 : decode cX5_readStatement 22 = .ok (.ldc 66, 2) := by decide +kernel
theorem dX5_readStatement_24 : decode cX5_readStatement 24 = .ok (.invokevirtual 60, 3) := by decide +kernel
theorem dX5_readStatement_27 : decode cX5_readStatement 27 = .ok (.ifCond .eq 9, 3) := by decide +kernel
theorem dX5_readStatement_30 : decode cX5_readStatement 30 = .ok (.aload_n 0, 1) := by decide +kernel
theorem dX5_readStatement_31 : decode cX5_readStatement 31 = .ok (.aload_n 1, 1) := by decide +kernel
theorem dX5_readStatement_32 : decode cX5_readStatement 32 = .ok (.invokevirtual 68, 3) := by decide +kernel
theorem dX5_readStatement_35 : decode cX5_readStatement 35 = .ok (.ireturn, 1) := by decide +kernel
theorem dX5_readStatement_36 : decode cX5_readStatement 36 = .ok (.aload_n 0, 1) := by decide +kernel
theorem dX5_readStatement_37 : decode cX5_readStatement 37 = .ok (.getfield 12, 3) := by decide +kernel
theorem dX5_readStatement_40 : decode cX5_readStatement 40 = .ok (.ldc 71, 2) := by decide +kernel
theorem dX5_readStatement_42 : decode cX5_readStatement 42 = .ok (.invokevirtual 60, 3) := by decide +kernel
theorem dX5_readStatement_45 : decode cX5_readStatement 45 = .ok (.ifCond .eq 9, 3) := by decide +kernel
theorem dX5_readStatement_48 : decode cX5_readStatement 48 = .ok (.aload_n 0, 1) := by decide +kernel
theorem dX5_readStatement_49 : decode cX5_readStatement 49 = .ok (.aload_n 1, 1) := by decide +kernel
theorem dX5_readStatement_50 : decode cX5_readStatement 50 = .ok (.invokevirtual 73, 3) := by decide +kernel
theorem dX5_readStatement_53 : decode cX5_readStatement 53 = .ok (.ireturn, 1) := by decide +kernel
theorem dX5_readStatement_54 : decode cX5_readStatement 54 = .ok (.aload_n 0, 1) := by decide +kernel
theorem dX5_readStatement_55 : decode cX5_readStatement 55 = .ok (.getfield 12, 3) := by decide +kernel
theorem dX5_readStatement_58 : decode cX5_readStatement 58 = .ok (.ldc 76, 2) := by decide +kernel
theorem dX5_readStatement_60 : decode cX5_readStatement 60 = .ok (.invokevirtual 60, 3) := by decide +kernel
theorem dX5_readStatement_63 : decode cX5_readStatement 63 = .ok (.ifCond .eq 10, 3) := by decide +kernel
theorem dX5_readStatement_66 : decode cX5_readStatement 66 = .ok (.aload_n 0, 1) := by decide +kernel
theorem dX5_readStatement_67 : decode cX5_readStatement 67 = .ok (.getfield 33, 3) := by decide +kernel
theorem dX5_readStatement_70 : decode cX5_readStatement 70 = .ok (.ifCond .eq 10, 3) := by decide +kernel
theorem dX5_readStatement_73 : decode cX5_readStatement 73 = .ok (.aload_n 0, 1) := by decide +kernel
theorem dX5_readStatement_74 : decode cX5_readStatement 74 = .ok (.bipush (-2), 2) := by decide +kernel
theorem dX5_readStatement_76 : decode cX5_readStatement 76 = .ok (.invokevirtual 78, 3) := by decide +kernel
theorem dX5_readStatement_79 : decode cX5_readStatement 79 = .ok (.ireturn, 1) := by decide +kernel
theorem dX5_readStatement_80 : decode cX5_readStatement 80 = .ok (.aload_n 0, 1) := by decide +kernel
theorem dX5_readStatement_81 : decode cX5_readStatement 81 = .ok (.getfield 12, 3) := by decide +kernel
theorem dX5_readStatement_84 : decode cX5_readStatement 84 = .ok (.invokevirtual 82, 3) := by decide +kernel
theorem dX5_readStatement_87 : decode cX5_readStatement 87 = .ok (.aload_n 0, 1) := by decide +kernel
theorem dX5_readStatement_88 : decode cX5_readStatement 88 = .ok (.iconst 1, 1) := by decide +kernel
theorem dX5_readStatement_89 : decode cX5_readStatement 89 = .ok (.putfield 33, 3) := by decide +kernel
theorem dX5_readStatement_92 : decode cX5_readStatement 92 = .ok (.aload_n 1, 1) := by decide +kernel
theorem dX5_readStatement_93 : decode cX5_readStatement 93 = .ok (.getfield 85, 3) := by decide +kernel
theorem dX5_readStatement_96 : decode cX5_readStatement 96 = .ok (.invokevirtual 89, 3) := by decide +kernel
theorem dX5_readStatement_99 : decode cX5_readStatement 99 = .ok (.aload_n 0, 1) := by decide +kernel
theorem dX5_readStatement_100 : decode cX5_readStatement 100 = .ok (.aload_n 1, 1) := by decide +kernel
theorem dX5_readStatement_101 : decode cX5_readStatement 101 = .ok (.getfield 85, 3) := by decide +kernel
theorem dX5_readStatement_104 : decode cX5_readStatement 104 = .ok (.iconst 0, 1) := by decide +kernel
theorem dX5_readStatement_105 : decode cX5_readStatement 105 = .ok (.invokevirtual 92, 3) := by decide +kernel
theorem dX5_readStatement_108 : decode cX5_readStatement 108 = .ok (.ireturn, 1) := by decide +kernel
theorem dX5_readBreak_0 : decode cX5_readBreak 0 = .ok (.aload_n 1, 1) := by decide +kernel
theorem dX5_readBreak_1 : decode cX5_readBreak 1 = .ok (.getfield 96, 3) := by decide +kernel
theorem dX5_readBreak_4 : decode cX5_readBreak 4 = .ok (.bipush 20, 2) := by decide +kernel
theorem dX5_readBreak_6 : decode cX5_readBreak 6 = .ok (.if_icmp .lt 10, 3) := by decide +kernel
theorem dX5_readBreak_9 : decode cX5_readBreak 9 = .ok (.aload_n 0, 1) := by decide +kernel
theorem dX5_readBreak_10 : decode cX5_readBreak 10 = .ok (.bipush (-4), 2) := by decide +kernel
theorem dX5_readBreak_12 : decode cX5_readBreak 12 = .ok (.invokevirtual 78, 3) := by decide +kernel
theorem dX5_readBreak_15 : decode cX5_readBreak 15 = .ok (.ireturn, 1) := by decide +kernel
theorem dX5_readBreak_16 : decode cX5_readBreak 16 = .ok (.aload_n 0, 1) := by decide +kernel
theorem dX5_readBreak_17 : decode cX5_readBreak 17 = .ok (.getfield 12, 3) := by decide +kernel
theorem dX5_readBreak_20 : decode cX5_readBreak 20 = .ok (.invokevirtual 82, 3) := by decide +kernel
theorem dX5_readBreak_23 : decode cX5_readBreak 23 = .ok (.aload_n 0, 1) := by decide +kernel
theorem dX5_readBreak_24 : decode cX5_readBreak 24 = .ok (.iconst 0, 1) := by decide +kernel
theorem dX5_readBreak_25 : decode cX5_readBreak 25 = .ok (.bipush 6, 2) := by decide +kernel
theorem dX5_readBreak_27 : decode cX5_readBreak 27 = .ok (.invokevirtual 99, 3) := by decide +kernel
theorem dX5_readBreak_30 : decode cX5_readBreak 30 = .ok (.ifCond .ne 5, 3) := by decide +kernel
theorem dX5_readBreak_33 : decode cX5_readBreak 33 = .ok (.iconst 0, 1) := by decide +kernel
theorem dX5_readBreak_34 : decode cX5_readBreak 34 = .ok (.ireturn, 1) := by decide +kernel
theorem dX5_readBreak_35 : decode cX5_readBreak 35 = .ok (.aload_n 0, 1) := by decide +kernel
theorem dX5_readBreak_36 : decode cX5_readBreak 36 = .ok (.getfield 103, 3) := by decide +kernel
theorem dX5_readBreak_39 : decode cX5_readBreak 39 = .ok (.istore_n 2, 1) := by decide +kernel
theorem dX5_readBreak_40 : decode cX5_readBreak 40 = .ok (.aload_n 0, 1) := by decide +kernel
theorem dX5_readBreak_41 : decode cX5_readBreak 41 = .ok (.getfield 12, 3) := by decide +kernel
theorem dX5_readBreak_44 : decode cX5_readBreak 44 = .ok (.getfield 51, 3) := by decide +kernel
theorem dX5_readBreak_47 : decode cX5_readBreak 47 = .ok (.iconst 2, 1) := by decide +kernel
theorem dX5_readBreak_48 : decode cX5_readBreak 48 = .ok (.if_icmp .ne 25, 3) := by decide +kernel
theorem dX5_readBreak_51 : decode cX5_readBreak 51 = .ok (.aload_n 1, 1) := by decide +kernel
theorem dX5_readBreak_52 : decode cX5_readBreak 52 = .ok (.iload_n 2, 1) := by decide +kernel
theorem dX5_readBreak_53 : decode cX5_readBreak 53 = .ok (.aload_n 0, 1) := by decide +kernel
theorem dX5_readBreak_54 : decode cX5_readBreak 54 = .ok (.getfield 12, 3) := by decide +kernel
theorem dX5_readBreak_57 : decode cX5_readBreak 57 = .ok (.getfield 106, 3) := by decide +kernel
theorem dX5_readBreak_60 : decode cX5_readBreak 60 = .ok (.invokevirtual 109, 3) := by decide +kernel
theorem dX5_readBreak_63 : decode cX5_readBreak 63 = .ok (.ifCond .eq 10, 3) := by decide +kernel
theorem dX5_readBreak_66 : decode cX5_readBreak 66 = .ok (.aload_n 0, 1) := by decide +kernel
theorem dX5_readBreak_67 : decode cX5_readBreak 67 = .ok (.bipush (-3), 2) := by decide +kernel
theorem dX5_readBreak_69 : decode cX5_readBreak 69 = .ok (.invokevirtual 78, 3) := by decide +kernel
theorem dX5_readBreak_72 : decode cX5_readBreak 72 = .ok (.ireturn, 1) := by decide +kernel
theorem dX5_readBreak_73 : decode cX5_readBreak 73 = .ok (.aload_n 0, 1) := by decide +kernel
theorem dX5_readBreak_74 : decode cX5_readBreak 74 = .ok (.iconst 0, 1) := by decide +kernel
theorem dX5_readBreak_75 : decode cX5_readBreak 75 = .ok (.bipush 23, 2) := by decide +kernel
theorem dX5_readBreak_77 : decode cX5_readBreak 77 = .ok (.invokevirtual 99, 3) := by decide +kernel
theorem dX5_readBreak_80 : decode cX5_readBreak 80 = .ok (.ifCond .ne 5, 3) := by decide +kernel
theorem dX5_readBreak_83 : decode cX5_readBreak 83 = .ok (.iconst 0, 1) := by decide +kernel
theorem dX5_readBreak_84 : decode cX5_readBreak 84 = .ok (.ireturn, 1) := by decide +kernel
theorem dX5_readBreak_85 : decode cX5_readBreak 85 = .ok (.aload_n 0, 1) := by decide +kernel
theorem dX5_readBreak_86 : decode cX5_readBreak 86 = .ok (.getfield 103, 3) := by decide +kernel
theorem dX5_readBreak_89 : decode cX5_readBreak 89 = .ok (.istore_n 3, 1) := by decide +kernel
theorem dX5_readBreak_90 : decode cX5_readBreak 90 = .ok (.aload_n 0, 1) := by decide +kernel
theorem dX5_readBreak_91 : decode cX5_readBreak 91 = .ok (.bipush 10, 2) := by decide +kernel
theorem dX5_readBreak_93 : decode cX5_readBreak 93 = .ok (.sipush 300, 3) := by decide +kernel
theorem dX5_readBreak_96 : decode cX5_readBreak 96 = .ok (.invokevirtual 99, 3) := by decide +kernel
theorem dX5_readBreak_99 : decode cX5_readBreak 99 = .ok (.ifCond .ne 5, 3) := by decide +kernel
theorem dX5_readBreak_102 : decode cX5_readBreak 102 = .ok (.iconst 0, 1) := by decide +kernel
theorem dX5_readBreak_103 : decode cX5_readBreak 103 = .ok (.ireturn, 1) := by decide +kernel
theorem dX5_readBreak_104 : decode cX5_readBreak 104 = .ok (.aload_n 0, 1) := by decide +kernel
theorem dX5_readBreak_105 : decode cX5_readBreak 105 = .ok (.getfield 103, 3) := by decide +kernel
theorem dX5_readBreak_108 : decode cX5_readBreak 108 = .ok (.istore 4, 2) := by decide +kernel
theorem dX5_readBreak_110 : decode cX5_readBreak 110 = .ok (.aload_n 0, 1) := by decide +kernel
theorem dX5_readBreak_111 : decode cX5_readBreak 111 = .ok (.iconst 0, 1) := by decide +kernel
theorem dX5_readBreak_112 : decode cX5_readBreak 112 = .ok (.sipush 999, 3) := by decide +kernel
theorem dX5_readBreak_115 : decode cX5_readBreak 115 = .ok (.invokevirtual 99, 3) := by decide +kernel
theorem dX5_readBreak_118 : decode cX5_readBreak 118 = .ok (.ifCond .ne 5, 3) := by decide +kernel
theorem dX5_readBreak_121 : decode cX5_readBreak 121 = .ok (.iconst 0, 1) := by decide +kernel
theorem dX5_readBreak_122 : decode cX5_readBreak 122 = .ok (.ireturn, 1) := by decide +kernel
theorem dX5_readBreak_123 : decode cX5_readBreak 123 = .ok (.aload_n 1, 1) := by decide +kernel
theorem dX5_readBreak_124 : decode cX5_readBreak 124 = .ok (.iload_n 2, 1) := by decide +kernel
theorem dX5_readBreak_125 : decode cX5_readBreak 125 = .ok (.iload_n 3, 1) := by decide +kernel
theorem dX5_readBreak_126 : decode cX5_readBreak 126 = .ok (.iload 4, 2) := by decide +kernel
theorem dX5_readBreak_128 : decode cX5_readBreak 128 = .ok (.aload_n 0, 1) := by decide +kernel
theorem dX5_readBreak_129 : decode cX5_readBreak 129 = .ok (.getfield 103, 3) := by decide +kernel
theorem dX5_readBreak_132 : decode cX5_readBreak 132 = .ok (.invokevirtual 112, 3) := by decide +kernel
theorem dX5_readBreak_135 : decode cX5_readBreak 135 = .ok (.iconst 1, 1) := by decide +kernel
theorem dX5_readBreak_136 : decode cX5_readBreak 136 = .ok (.ireturn, 1) := by decide +kernel
theorem dX5_readSponsor_0 : decode cX5_readSponsor 0 = .ok (.aload_n 1, 1) := by decide +kernel
theorem dX5_readSponsor_1 : decode cX5_readSponsor 1 = .ok (.getfield 116, 3) := by decide +kernel
theorem dX5_readSponsor_4 : decode cX5_readSponsor 4 = .ok (.bipush 8, 2) := by decide +kernel
theorem dX5_readSponsor_6 : decode cX5_readSponsor 6 = .ok (.if_icmp .lt 10, 3) := by decide +kernel
theorem dX5_readSponsor_9 : decode cX5_readSponsor 9 = .ok (.aload_n 0, 1) := by decide +kernel
theorem dX5_readSponsor_10 : decode cX5_readSponsor 10 = .ok (.bipush (-4), 2) := by decide +kernel
theorem dX5_readSponsor_12 : decode cX5_readSponsor 12 = .ok (.invokevirtual 78, 3) := by decide +kernel
theorem dX5_readSponsor_15 : decode cX5_readSponsor 15 = .ok (.ireturn, 1) := by decide +kernel
theorem dX5_readSponsor_16 : decode cX5_readSponsor 16 = .ok (.aload_n 0, 1) := by decide +kernel
theorem dX5_readSponsor_17 : decode cX5_readSponsor 17 = .ok (.getfield 12, 3) := by decide +kernel
theorem dX5_readSponsor_20 : decode cX5_readSponsor 20 = .ok (.invokevirtual 82, 3) := by decide +kernel
theorem dX5_readSponsor_23 : decode cX5_readSponsor 23 = .ok (.aload_n 0, 1) := by decide +kernel
theorem dX5_readSponsor_24 : decode cX5_readSponsor 24 = .ok (.iconst 0, 1) := by decide +kernel
theorem dX5_readSponsor_25 : decode cX5_readSponsor 25 = .ok (.bipush 9, 2) := by decide +kernel
theorem dX5_readSponsor_27 : decode cX5_readSponsor 27 = .ok (.invokevirtual 99, 3) := by decide +kernel
theorem dX5_readSponsor_30 : decode cX5_readSponsor 30 = .ok (.ifCond .ne 5, 3) := by decide +kernel
theorem dX5_readSponsor_33 : decode cX5_readSponsor 33 = .ok (.iconst 0, 1) := by decide +kernel
theorem dX5_readSponsor_34 : decode cX5_readSponsor 34 = .ok (.ireturn, 1) := by decide +kernel
theorem dX5_readSponsor_35 : decode cX5_readSponsor 35 = .ok (.aload_n 0, 1) := by decide +kernel
theorem dX5_readSponsor_36 : decode cX5_readSponsor 36 = .ok (.getfield 103, 3) := by decide +kernel
theorem dX5_readSponsor_39 : decode cX5_readSponsor 39 = .ok (.istore_n 2, 1) := by decide +kernel
theorem dX5_readSponsor_40 : decode cX5_readSponsor 40 = .ok (.aload_n 0, 1) := by decide +kernel
theorem dX5_readSponsor_41 : decode cX5_readSponsor 41 = .ok (.iconst 1, 1) := by decide +kernel
theorem dX5_readSponsor_42 : decode cX5_readSponsor 42 = .ok (.bipush 9, 2) := by decide +kernel
theorem dX5_readSponsor_44 : decode cX5_readSponsor 44 = .ok (.invokevirtual 99, 3) := by decide +kernel
theorem dX5_readSponsor_47 : decode cX5_readSponsor 47 = .ok (.ifCond .ne 5, 3) := by decide +kernel
theorem dX5_readSponsor_50 : decode cX5_readSponsor 50 = .ok (.iconst 0, 1) := by decide +kernel
theorem dX5_readSponsor_51 : decode cX5_readSponsor 51 = .ok (.ireturn, 1) := by decide +kernel
theorem dX5_readSponsor_52 : decode cX5_readSponsor 52 = .ok (.aload_n 1, 1) := by decide +kernel
theorem dX5_readSponsor_53 : decode cX5_readSponsor 53 = .ok (.iload_n 2, 1) := by decide +kernel
theorem dX5_readSponsor_54 : decode cX5_readSponsor 54 = .ok (.aload_n 0, 1) := by decide +kernel
theorem dX5_readSponsor_55 : decode cX5_readSponsor 55 = .ok (.getfield 103, 3) := by decide +kernel
theorem dX5_readSponsor_58 : decode cX5_readSponsor 58 = .ok (.invokevirtual 119, 3) := by decide +kernel
theorem dX5_readSponsor_61 : decode cX5_readSponsor 61 = .ok (.iconst 1, 1) := by decide +kernel
theorem dX5_readSponsor_62 : decode cX5_readSponsor 62 = .ok (.ireturn, 1) := by decide +kernel
theorem dX5_readBan_0 : decode cX5_readBan 0 = .ok (.aload_n 0, 1) := by decide +kernel
theorem dX5_readBan_1 : decode cX5_readBan 1 = .ok (.getfield 30, 3) := by decide +kernel
theorem dX5_readBan_4 : decode cX5_readBan 4 = .ok (.bipush 10, 2) := by decide +kernel
theorem dX5_readBan_6 : decode cX5_readBan 6 = .ok (.if_icmp .lt 10, 3) := by decide +kernel
theorem dX5_readBan_9 : decode cX5_readBan 9 = .ok (.aload_n 0, 1) := by decide +kernel
theorem dX5_readBan_10 : decode cX5_readBan 10 = .ok (.bipush (-4), 2) := by decide +kernel
theorem dX5_readBan_12 : decode cX5_readBan 12 = .ok (.invokevirtual 78, 3) := by decide +kernel
theorem dX5_readBan_15 : decode cX5_readBan 15 = .ok (.ireturn, 1) := by decide +kernel
theorem dX5_readBan_16 : decode cX5_readBan 16 = .ok (.aload_n 0, 1) := by decide +kernel
theorem dX5_readBan_17 : decode cX5_readBan 17 = .ok (.getfield 12, 3) := by decide +kernel
theorem dX5_readBan_20 : decode cX5_readBan 20 = .ok (.invokevirtual 82, 3) := by decide +kernel
theorem dX5_readBan_23 : decode cX5_readBan 23 = .ok (.aload_n 0, 1) := by decide +kernel
theorem dX5_readBan_24 : decode cX5_readBan 24 = .ok (.iconst 0, 1) := by decide +kernel
theorem dX5_readBan_25 : decode cX5_readBan 25 = .ok (.bipush 9, 2) := by decide +kernel
theorem dX5_readBan_27 : decode cX5_readBan 27 = .ok (.invokevirtual 99, 3) := by decide +kernel
theorem dX5_readBan_30 : decode cX5_readBan 30 = .ok (.ifCond .ne 5, 3) := by decide +kernel
theorem dX5_readBan_33 : decode cX5_readBan 33 = .ok (.iconst 0, 1) := by decide +kernel
theorem dX5_readBan_34 : decode cX5_readBan 34 = .ok (.ireturn, 1) := by decide +kernel
theorem dX5_readBan_35 : decode cX5_readBan 35 = .ok (.aload_n 0, 1) := by decide +kernel
theorem dX5_readBan_36 : decode cX5_readBan 36 = .ok (.getfield 103, 3) := by decide +kernel
theorem dX5_readBan_39 : decode cX5_readBan 39 = .ok (.istore_n 2, 1) := by decide +kernel
theorem dX5_readBan_40 : decode cX5_readBan 40 = .ok (.aload_n 0, 1) := by decide +kernel
theorem dX5_readBan_41 : decode cX5_readBan 41 = .ok (.iconst 0, 1) := by decide +kernel
theorem dX5_readBan_42 : decode cX5_readBan 42 = .ok (.bipush 9, 2) := by decide +kernel
theorem dX5_readBan_44 : decode cX5_readBan 44 = .ok (.invokevirtual 99, 3) := by decide +kernel
theorem dX5_readBan_47 : decode cX5_readBan 47 = .ok (.ifCond .ne 5, 3) := by decide +kernel
theorem dX5_readBan_50 : decode cX5_readBan 50 = .ok (.iconst 0, 1) := by decide +kernel
theorem dX5_readBan_51 : decode cX5_readBan 51 = .ok (.ireturn, 1) := by decide +kernel
theorem dX5_readBan_52 : decode cX5_readBan 52 = .ok (.aload_n 1, 1) := by decide +kernel
theorem dX5_readBan_53 : decode cX5_readBan 53 = .ok (.iload_n 2, 1) := by decide +kernel
theorem dX5_readBan_54 : decode cX5_readBan 54 = .ok (.aload_n 0, 1) := by decide +kernel
theorem dX5_readBan_55 : decode cX5_readBan 55 = .ok (.getfield 103, 3) := by decide +kernel
theorem dX5_readBan_58 : decode cX5_readBan 58 = .ok (.invokevirtual 123, 3) := by decide +kernel
theorem dX5_readBan_61 : decode cX5_readBan 61 = .ok (.aload_n 0, 1) := by decide +kernel
theorem dX5_readBan_62 : decode cX5_readBan 62 = .ok (.dup, 1) := by decide +kernel
theorem dX5_readBan_63 : decode cX5_readBan 63 = .ok (.getfield 30, 3) := by decide +kernel
theorem dX5_readBan_66 : decode cX5_readBan 66 = .ok (.iconst 1, 1) := by decide +kernel
theorem dX5_readBan_67 : decode cX5_readBan 67 = .ok (.iadd, 1) := by decide +kernel
theorem dX5_readBan_68 : decode cX5_readBan 68 = .ok (.putfield 30, 3) := by decide +kernel
theorem dX5_readBan_71 : decode cX5_readBan 71 = .ok (.iconst 1, 1) := by decide +kernel
theorem dX5_readBan_72 : decode cX5_readBan 72 = .ok (.ireturn, 1) := by decide +kernel
theorem dX5_readSum_0 : decode cX5_readSum 0 = .ok (.aload_n 0, 1) := by decide +kernel
theorem dX5_readSum_1 : decode cX5_readSum 1 = .ok (.aload_n 1, 1) := by decide +kernel
theorem dX5_readSum_2 : decode cX5_readSum 2 = .ok (.iload_n 2, 1) := by decide +kernel
theorem dX5_readSum_3 : decode cX5_readSum 3 = .ok (.invokevirtual 126, 3) := by decide +kernel
theorem dX5_readSum_6 : decode cX5_readSum 6 = .ok (.ifCond .ne 5, 3) := by decide +kernel
theorem dX5_readSum_9 : decode cX5_readSum 9 = .ok (.iconst 0, 1) := by decide +kernel
theorem dX5_readSum_10 : decode cX5_readSum 10 = .ok (.ireturn, 1) := by decide +kernel
theorem dX5_readSum_11 : decode cX5_readSum 11 = .ok (.iconst 0, 1) := by decide +kernel
theorem dX5_readSum_12 : decode cX5_readSum 12 = .ok (.istore_n 3, 1) := by decide +kernel
theorem dX5_readSum_13 : decode cX5_readSum 13 = .ok (.iload_n 3, 1) := by decide +kernel
theorem dX5_readSum_14 : decode cX5_readSum 14 = .ok (.sipush 800, 3) := by decide +kernel
theorem dX5_readSum_17 : decode cX5_readSum 17 = .ok (.if_icmp .ge 75, 3) := by decide +kernel
theorem dX5_readSum_20 : decode cX5_readSum 20 = .ok (.aload_n 0, 1) := by decide +kernel
theorem dX5_readSum_21 : decode cX5_readSum 21 = .ok (.getfield 12, 3) := by decide +kernel
theorem dX5_readSum_24 : decode cX5_readSum 24 = .ok (.bipush 43, 2) := by decide +kernel
theorem dX5_readSum_26 : decode cX5_readSum 26 = .ok (.invokevirtual 129, 3) := by decide +kernel
theorem dX5_readSum_29 : decode cX5_readSum 29 = .ok (.ifCond .eq 8, 3) := by decide +kernel
theorem dX5_readSum_32 : decode cX5_readSum 32 = .ok (.bipush (-6), 2) := by decide +kernel
theorem dX5_readSum_34 : decode cX5_readSum 34 = .ok (.goto 5, 3) := by decide +kernel
theorem dX5_readSum_37 : decode cX5_readSum 37 = .ok (.bipush (-7), 2) := by decide +kernel
theorem dX5_readSum_39 : decode cX5_readSum 39 = .ok (.istore 4, 2) := by decide +kernel
theorem dX5_readSum_41 : decode cX5_readSum 41 = .ok (.iload 4, 2) := by decide +kernel
theorem dX5_readSum_43 : decode cX5_readSum 43 = .ok (.bipush (-7), 2) := by decide +kernel
theorem dX5_readSum_45 : decode cX5_readSum 45 = .ok (.if_icmp .ne 17, 3) := by decide +kernel
theorem dX5_readSum_48 : decode cX5_readSum 48 = .ok (.aload_n 0, 1) := by decide +kernel
theorem dX5_readSum_49 : decode cX5_readSum 49 = .ok (.getfield 12, 3) := by decide +kernel
theorem dX5_readSum_52 : decode cX5_readSum 52 = .ok (.bipush 45, 2) := by decide +kernel
theorem dX5_readSum_54 : decode cX5_readSum 54 = .ok (.invokevirtual 129, 3) := by decide +kernel
theorem dX5_readSum_57 : decode cX5_readSum 57 = .ok (.ifCond .ne 5, 3) := by decide +kernel
theorem dX5_readSum_60 : decode cX5_readSum 60 = .ok (.iconst 1, 1) := by decide +kernel
theorem dX5_readSum_61 : decode cX5_readSum 61 = .ok (.ireturn, 1) := by decide +kernel
theorem dX5_readSum_62 : decode cX5_readSum 62 = .ok (.aload_n 0, 1) := by decide +kernel
theorem dX5_readSum_63 : decode cX5_readSum 63 = .ok (.getfield 12, 3) := by decide +kernel
theorem dX5_readSum_66 : decode cX5_readSum 66 = .ok (.invokevirtual 82, 3) := by decide +kernel
theorem dX5_readSum_69 : decode cX5_readSum 69 = .ok (.aload_n 0, 1) := by decide +kernel
theorem dX5_readSum_70 : decode cX5_readSum 70 = .ok (.aload_n 1, 1) := by decide +kernel
theorem dX5_readSum_71 : decode cX5_readSum 71 = .ok (.iload_n 2, 1) := by decide +kernel
theorem dX5_readSum_72 : decode cX5_readSum 72 = .ok (.invokevirtual 126, 3) := by decide +kernel
theorem dX5_readSum_75 : decode cX5_readSum 75 = .ok (.ifCond .ne 5, 3) := by decide +kernel
theorem dX5_readSum_78 : decode cX5_readSum 78 = .ok (.iconst 0, 1) := by decide +kernel
theorem dX5_readSum_79 : decode cX5_readSum 79 = .ok (.ireturn, 1) := by decide +kernel
theorem dX5_readSum_80 : decode cX5_readSum 80 = .ok (.aload_n 1, 1) := by decide +kernel
theorem dX5_readSum_81 : decode cX5_readSum 81 = .ok (.iload 4, 2) := by decide +kernel
theorem dX5_readSum_83 : decode cX5_readSum 83 = .ok (.invokevirtual 132, 3) := by decide +kernel
theorem dX5_readSum_86 : decode cX5_readSum 86 = .ok (.iinc 3 1, 3) := by decide +kernel
theorem dX5_readSum_89 : decode cX5_readSum 89 = .ok (.goto (-76), 3) := by decide +kernel
theorem dX5_readSum_92 : decode cX5_readSum 92 = .ok (.iconst 1, 1) := by decide +kernel
theorem dX5_readSum_93 : decode cX5_readSum 93 = .ok (.ireturn, 1) := by decide +kernel
theorem dX5_readTerm_0 : decode cX5_readTerm 0 = .ok (.aload_n 0, 1) := by decide +kernel
theorem dX5_readTerm_1 : decode cX5_readTerm 1 = .ok (.aload_n 1, 1) := by decide +kernel
theorem dX5_readTerm_2 : decode cX5_readTerm 2 = .ok (.iload_n 2, 1) := by decide +kernel
theorem dX5_readTerm_3 : decode cX5_readTerm 3 = .ok (.invokevirtual 136, 3) := by decide +kernel
theorem dX5_readTerm_6 : decode cX5_readTerm 6 = .ok (.ifCond .ne 5, 3) := by decide +kernel
theorem dX5_readTerm_9 : decode cX5_readTerm 9 = .ok (.iconst 0, 1) := by decide +kernel
theorem dX5_readTerm_10 : decode cX5_readTerm 10 = .ok (.ireturn, 1) := by decide +kernel
theorem dX5_readTerm_11 : decode cX5_readTerm 11 = .ok (.iconst 0, 1) := by decide +kernel
theorem dX5_readTerm_12 : decode cX5_readTerm 12 = .ok (.istore_n 3, 1) := by decide +kernel
theorem dX5_readTerm_13 : decode cX5_readTerm 13 = .ok (.iload_n 3, 1) := by decide +kernel
theorem dX5_readTerm_14 : decode cX5_readTerm 14 = .ok (.sipush 800, 3) := by decide +kernel
theorem dX5_readTerm_17 : decode cX5_readTerm 17 = .ok (.if_icmp .ge 75, 3) := by decide +kernel
theorem dX5_readTerm_20 : decode cX5_readTerm 20 = .ok (.aload_n 0, 1) := by decide +kernel
theorem dX5_readTerm_21 : decode cX5_readTerm 21 = .ok (.getfield 12, 3) := by decide +kernel
theorem dX5_readTerm_24 : decode cX5_readTerm 24 = .ok (.bipush 42, 2) := by decide +kernel
theorem dX5_readTerm_26 : decode cX5_readTerm 26 = .ok (.invokevirtual 129, 3) := by decide +kernel
theorem dX5_readTerm_29 : decode cX5_readTerm 29 = .ok (.ifCond .eq 8, 3) := by decide +kernel
theorem dX5_readTerm_32 : decode cX5_readTerm 32 = .ok (.bipush (-8), 2) := by decide +kernel
theorem dX5_readTerm_34 : decode cX5_readTerm 34 = .ok (.goto 5, 3) := by decide +kernel
theorem dX5_readTerm_37 : decode cX5_readTerm 37 = .ok (.bipush (-9), 2) := by decide +kernel
theorem dX5_readTerm_39 : decode cX5_readTerm 39 = .ok (.istore 4, 2) := by decide +kernel
theorem dX5_readTerm_41 : decode cX5_readTerm 41 = .ok (.iload 4, 2) := by decide +kernel
theorem dX5_readTerm_43 : decode cX5_readTerm 43 = .ok (.bipush (-9), 2) := by decide +kernel
theorem dX5_readTerm_45 : decode cX5_readTerm 45 = .ok (.if_icmp .ne 17, 3) := by decide +kernel
theorem dX5_readTerm_48 : decode cX5_readTerm 48 = .ok (.aload_n 0, 1) := by decide +kernel
theorem dX5_readTerm_49 : decode cX5_readTerm 49 = .ok (.getfield 12, 3) := by decide +kernel
theorem dX5_readTerm_52 : decode cX5_readTerm 52 = .ok (.bipush 47, 2) := by decide +kernel
theorem dX5_readTerm_54 : decode cX5_readTerm 54 = .ok (.invokevirtual 129, 3) := by decide +kernel
theorem dX5_readTerm_57 : decode cX5_readTerm 57 = .ok (.ifCond .ne 5, 3) := by decide +kernel
theorem dX5_readTerm_60 : decode cX5_readTerm 60 = .ok (.iconst 1, 1) := by decide +kernel
theorem dX5_readTerm_61 : decode cX5_readTerm 61 = .ok (.ireturn, 1) := by decide +kernel
theorem dX5_readTerm_62 : decode cX5_readTerm 62 = .ok (.aload_n 0, 1) := by decide +kernel
theorem dX5_readTerm_63 : decode cX5_readTerm 63 = .ok (.getfield 12, 3) := by decide +kernel
theorem dX5_readTerm_66 : decode cX5_readTerm 66 = .ok (.invokevirtual 82, 3) := by decide +kernel
theorem dX5_readTerm_69 : decode cX5_readTerm 69 = .ok (.aload_n 0, 1) := by decide +kernel
theorem dX5_readTerm_70 : decode cX5_readTerm 70 = .ok (.aload_n 1, 1) := by decide +kernel
theorem dX5_readTerm_71 : decode cX5_readTerm 71 = .ok (.iload_n 2, 1) := by decide +kernel
theorem dX5_readTerm_72 : decode cX5_readTerm 72 = .ok (.invokevirtual 136, 3) := by decide +kernel
theorem dX5_readTerm_75 : decode cX5_readTerm 75 = .ok (.ifCond .ne 5, 3) := by decide +kernel
theorem dX5_readTerm_78 : decode cX5_readTerm 78 = .ok (.iconst 0, 1) := by decide +kernel
theorem dX5_readTerm_79 : decode cX5_readTerm 79 = .ok (.ireturn, 1) := by decide +kernel
theorem dX5_readTerm_80 : decode cX5_readTerm 80 = .ok (.aload_n 1, 1) := by decide +kernel
theorem dX5_readTerm_81 : decode cX5_readTerm 81 = .ok (.iload 4, 2) := by decide +kernel
theorem dX5_readTerm_83 : decode cX5_readTerm 83 = .ok (.invokevirtual 132, 3) := by decide +kernel
theorem dX5_readTerm_86 : decode cX5_readTerm 86 = .ok (.iinc 3 1, 3) := by decide +kernel
theorem dX5_readTerm_89 : decode cX5_readTerm 89 = .ok (.goto (-76), 3) := by decide +kernel
theorem dX5_readTerm_92 : decode cX5_readTerm 92 = .ok (.iconst 1, 1) := by decide +kernel
theorem dX5_readTerm_93 : decode cX5_readTerm 93 = .ok (.ireturn, 1) := by decide +kernel
theorem dX5_readFactor_0 : decode cX5_readFactor 0 = .ok (.aload_n 0, 1) := by decide +kernel
theorem dX5_readFactor_1 : decode cX5_readFactor 1 = .ok (.getfield 12, 3) := by decide +kernel
theorem dX5_readFactor_4 : decode cX5_readFactor 4 = .ok (.bipush 40, 2) := by decide +kernel
theorem dX5_readFactor_6 : decode cX5_readFactor 6 = .ok (.invokevirtual 129, 3) := by decide +kernel
theorem dX5_readFactor_9 : decode cX5_readFactor 9 = .ok (.ifCond .eq 48, 3) := by decide +kernel
theorem dX5_readFactor_12 : decode cX5_readFactor 12 = .ok (.iload_n 2, 1) := by decide +kernel
theorem dX5_readFactor_13 : decode cX5_readFactor 13 = .ok (.iconst 4, 1) := by decide +kernel
theorem dX5_readFactor_14 : decode cX5_readFactor 14 = .ok (.if_icmp .lt 10, 3) := by decide +kernel
theorem dX5_readFactor_17 : decode cX5_readFactor 17 = .ok (.aload_n 0, 1) := by decide +kernel
theorem dX5_readFactor_18 : decode cX5_readFactor 18 = .ok (.bipush (-5), 2) := by decide +kernel
theorem dX5_readFactor_20 : decode cX5_readFactor 20 = .ok (.invokevirtual 78, 3) := by decide +kernel
theorem dX5_readFactor_23 : decode cX5_readFactor 23 = .ok (.ireturn, 1) := by decide +kernel
theorem dX5_readFactor_24 : decode cX5_readFactor 24 = .ok (.aload_n 0, 1) := by decide +kernel
theorem dX5_readFactor_25 : decode cX5_readFactor 25 = .ok (.getfield 12, 3) := by decide +kernel
theorem dX5_readFactor_28 : decode cX5_readFactor 28 = .ok (.invokevirtual 82, 3) := by decide +kernel
theorem dX5_readFactor_31 : decode cX5_readFactor 31 = .ok (.aload_n 0, 1) := by decide +kernel
theorem dX5_readFactor_32 : decode cX5_readFactor 32 = .ok (.aload_n 1, 1) := by decide +kernel
theorem dX5_readFactor_33 : decode cX5_readFactor 33 = .ok (.iload_n 2, 1) := by decide +kernel
theorem dX5_readFactor_34 : decode cX5_readFactor 34 = .ok (.iconst 1, 1) := by decide +kernel
theorem dX5_readFactor_35 : decode cX5_readFactor 35 = .ok (.iadd, 1) := by decide +kernel
theorem dX5_readFactor_36 : decode cX5_readFactor 36 = .ok (.invokevirtual 92, 3) := by decide +kernel
theorem dX5_readFactor_39 : decode cX5_readFactor 39 = .ok (.ifCond .eq 16, 3) := by decide +kernel
theorem dX5_readFactor_42 : decode cX5_readFactor 42 = .ok (.aload_n 0, 1) := by decide +kernel
theorem dX5_readFactor_43 : decode cX5_readFactor 43 = .ok (.bipush 41, 2) := by decide +kernel
theorem dX5_readFactor_45 : decode cX5_readFactor 45 = .ok (.invokevirtual 47, 3) := by decide +kernel
theorem dX5_readFactor_48 : decode cX5_readFactor 48 = .ok (.ifCond .eq 7, 3) := by decide +kernel
theorem dX5_readFactor_51 : decode cX5_readFactor 51 = .ok (.iconst 1, 1) := by decide +kernel
theorem dX5_readFactor_52 : decode cX5_readFactor 52 = .ok (.goto 4, 3) := by decide +kernel
theorem dX5_readFactor_55 : decode cX5_readFactor 55 = .ok (.iconst 0, 1) := by decide +kernel
theorem dX5_readFactor_56 : decode cX5_readFactor 56 = .ok (.ireturn, 1) := by decide +kernel
theorem dX5_readFactor_57 : decode cX5_readFactor 57 = .ok (.aload_n 0, 1) := by decide +kernel
theorem dX5_readFactor_58 : decode cX5_readFactor 58 = .ok (.getfield 12, 3) := by decide +kernel
theorem dX5_readFactor_61 : decode cX5_readFactor 61 = .ok (.getfield 51, 3) := by decide +kernel
theorem dX5_readFactor_64 : decode cX5_readFactor 64 = .ok (.iconst 2, 1) := by decide +kernel
theorem dX5_readFactor_65 : decode cX5_readFactor 65 = .ok (.if_icmp .ne 26, 3) := by decide +kernel
theorem dX5_readFactor_68 : decode cX5_readFactor 68 = .ok (.aload_n 0, 1) := by decide +kernel
theorem dX5_readFactor_69 : decode cX5_readFactor 69 = .ok (.iconst 0, 1) := by decide +kernel
theorem dX5_readFactor_70 : decode cX5_readFactor 70 = .ok (.sipush 9999, 3) := by decide +kernel
theorem dX5_readFactor_73 : decode cX5_readFactor 73 = .ok (.invokevirtual 99, 3) := by decide +kernel
theorem dX5_readFactor_76 : decode cX5_readFactor 76 = .ok (.ifCond .ne 5, 3) := by decide +kernel
theorem dX5_readFactor_79 : decode cX5_readFactor 79 = .ok (.iconst 0, 1) := by decide +kernel
theorem dX5_readFactor_80 : decode cX5_readFactor 80 = .ok (.ireturn, 1) := by decide +kernel
theorem dX5_readFactor_81 : decode cX5_readFactor 81 = .ok (.aload_n 1, 1) := by decide +kernel
theorem dX5_readFactor_82 : decode cX5_readFactor 82 = .ok (.aload_n 0, 1) := by decide +kernel
theorem dX5_readFactor_83 : decode cX5_readFactor 83 = .ok (.getfield 103, 3) := by decide +kernel
theorem dX5_readFactor_86 : decode cX5_readFactor 86 = .ok (.invokevirtual 132, 3) := by decide +kernel
theorem dX5_readFactor_89 : decode cX5_readFactor 89 = .ok (.iconst 1, 1) := by decide +kernel
theorem dX5_readFactor_90 : decode cX5_readFactor 90 = .ok (.ireturn, 1) := by decide +kernel
theorem dX5_readFactor_91 : decode cX5_readFactor 91 = .ok (.aload_n 0, 1) := by decide +kernel
theorem dX5_readFactor_92 : decode cX5_readFactor 92 = .ok (.invokevirtual 139, 3) := by decide +kernel
theorem dX5_readFactor_95 : decode cX5_readFactor 95 = .ok (.istore_n 3, 1) := by decide +kernel
theorem dX5_readFactor_96 : decode cX5_readFactor 96 = .ok (.iload_n 3, 1) := by decide +kernel
theorem dX5_readFactor_97 : decode cX5_readFactor 97 = .ok (.ifCond .ne 10, 3) := by decide +kernel
theorem dX5_readFactor_100 : decode cX5_readFactor 100 = .ok (.aload_n 0, 1) := by decide +kernel
theorem dX5_readFactor_101 : decode cX5_readFactor 101 = .ok (.bipush (-2), 2) := by decide +kernel
theorem dX5_readFactor_103 : decode cX5_readFactor 103 = .ok (.invokevirtual 78, 3) := by decide +kernel
theorem dX5_readFactor_106 : decode cX5_readFactor 106 = .ok (.ireturn, 1) := by decide +kernel
theorem dX5_readFactor_107 : decode cX5_readFactor 107 = .ok (.aload_n 0, 1) := by decide +kernel
theorem dX5_readFactor_108 : decode cX5_readFactor 108 = .ok (.getfield 12, 3) := by decide +kernel
theorem dX5_readFactor_111 : decode cX5_readFactor 111 = .ok (.invokevirtual 82, 3) := by decide +kernel
theorem dX5_readFactor_114 : decode cX5_readFactor 114 = .ok (.aload_n 1, 1) := by decide +kernel
theorem dX5_readFactor_115 : decode cX5_readFactor 115 = .ok (.iload_n 3, 1) := by decide +kernel
theorem dX5_readFactor_116 : decode cX5_readFactor 116 = .ok (.invokevirtual 132, 3) := by decide +kernel
theorem dX5_readFactor_119 : decode cX5_readFactor 119 = .ok (.iconst 1, 1) := by decide +kernel
theorem dX5_readFactor_120 : decode cX5_readFactor 120 = .ok (.ireturn, 1) := by decide +kernel
theorem dX5_codeOfWord_0 : decode cX5_codeOfWord 0 = .ok (.aload_n 0, 1) := by decide +kernel
theorem dX5_codeOfWord_1 : decode cX5_codeOfWord 1 = .ok (.getfield 12, 3) := by decide +kernel
theorem dX5_codeOfWord_4 : decode cX5_codeOfWord 4 = .ok (.ldc 143, 2) := by decide +kernel
theorem dX5_codeOfWord_6 : decode cX5_codeOfWord 6 = .ok (.invokevirtual 60, 3) := by decide +kernel
theorem dX5_codeOfWord_9 : decode cX5_codeOfWord 9 = .ok (.ifCond .eq 5, 3) := by decide +kernel
theorem dX5_codeOfWord_12 : decode cX5_codeOfWord 12 = .ok (.iconst (-1), 1) := by decide +kernel
theorem dX5_codeOfWord_13 : decode cX5_codeOfWord 13 = .ok (.ireturn, 1) := by decide +kernel
theorem dX5_codeOfWord_14 : decode cX5_codeOfWord 14 = .ok (.aload_n 0, 1) := by decide +kernel
theorem dX5_codeOfWord_15 : decode cX5_codeOfWord 15 = .ok (.getfield 12, 3) := by decide +kernel
theorem dX5_codeOfWord_18 : decode cX5_codeOfWord 18 = .ok (.ldc 145, 2) := by decide +kernel
theorem dX5_codeOfWord_20 : decode cX5_codeOfWord 20 = .ok (.invokevirtual 60, 3) := by decide +kernel
theorem dX5_codeOfWord_23 : decode cX5_codeOfWord 23 = .ok (.ifCond .eq 6, 3) := by decide +kernel
theorem dX5_codeOfWord_26 : decode cX5_codeOfWord 26 = .ok (.bipush (-2), 2) := by decide +kernel
theorem dX5_codeOfWord_28 : decode cX5_codeOfWord 28 = .ok (.ireturn, 1) := by decide +kernel
theorem dX5_codeOfWord_29 : decode cX5_codeOfWord 29 = .ok (.aload_n 0, 1) := by decide +kernel
theorem dX5_codeOfWord_30 : decode cX5_codeOfWord 30 = .ok (.getfield 12, 3) := by decide +kernel
theorem dX5_codeOfWord_33 : decode cX5_codeOfWord 33 = .ok (.ldc 147, 2) := by decide +kernel
theorem dX5_codeOfWord_35 : decode cX5_codeOfWord 35 = .ok (.invokevirtual 60, 3) := by decide +kernel
theorem dX5_codeOfWord_38 : decode cX5_codeOfWord 38 = .ok (.ifCond .eq 6, 3) := by decide +kernel
theorem dX5_codeOfWord_41 : decode cX5_codeOfWord 41 = .ok (.bipush (-3), 2) := by decide +kernel
theorem dX5_codeOfWord_43 : decode cX5_codeOfWord 43 = .ok (.ireturn, 1) := by decide +kernel
theorem dX5_codeOfWord_44 : decode cX5_codeOfWord 44 = .ok (.aload_n 0, 1) := by decide +kernel
theorem dX5_codeOfWord_45 : decode cX5_codeOfWord 45 = .ok (.getfield 12, 3) := by decide +kernel
theorem dX5_codeOfWord_48 : decode cX5_codeOfWord 48 = .ok (.ldc 149, 2) := by decide +kernel
theorem dX5_codeOfWord_50 : decode cX5_codeOfWord 50 = .ok (.invokevirtual 60, 3) := by decide +kernel
theorem dX5_codeOfWord_53 : decode cX5_codeOfWord 53 = .ok (.ifCond .eq 6, 3) := by decide +kernel
theorem dX5_codeOfWord_56 : decode cX5_codeOfWord 56 = .ok (.bipush (-4), 2) := by decide +kernel
theorem dX5_codeOfWord_58 : decode cX5_codeOfWord 58 = .ok (.ireturn, 1) := by decide +kernel
theorem dX5_codeOfWord_59 : decode cX5_codeOfWord 59 = .ok (.aload_n 0, 1) := by decide +kernel
theorem dX5_codeOfWord_60 : decode cX5_codeOfWord 60 = .ok (.getfield 12, 3) := by decide +kernel
theorem dX5_codeOfWord_63 : decode cX5_codeOfWord 63 = .ok (.ldc 151, 2) := by decide +kernel
theorem dX5_codeOfWord_65 : decode cX5_codeOfWord 65 = .ok (.invokevirtual 60, 3) := by decide +kernel
theorem dX5_codeOfWord_68 : decode cX5_codeOfWord 68 = .ok (.ifCond .eq 8, 3) := by decide +kernel
theorem dX5_codeOfWord_71 : decode cX5_codeOfWord 71 = .ok (.bipush (-5), 2) := by decide +kernel
theorem dX5_codeOfWord_73 : decode cX5_codeOfWord 73 = .ok (.goto 4, 3) := by decide +kernel
theorem dX5_codeOfWord_76 : decode cX5_codeOfWord 76 = .ok (.iconst 0, 1) := by decide +kernel
theorem dX5_codeOfWord_77 : decode cX5_codeOfWord 77 = .ok (.ireturn, 1) := by decide +kernel
theorem dX5_takeWord_0 : decode cX5_takeWord 0 = .ok (.aload_n 0, 1) := by decide +kernel
theorem dX5_takeWord_1 : decode cX5_takeWord 1 = .ok (.getfield 12, 3) := by decide +kernel
theorem dX5_takeWord_4 : decode cX5_takeWord 4 = .ok (.aload_n 1, 1) := by decide +kernel
theorem dX5_takeWord_5 : decode cX5_takeWord 5 = .ok (.invokevirtual 60, 3) := by decide +kernel
theorem dX5_takeWord_8 : decode cX5_takeWord 8 = .ok (.ifCond .ne 10, 3) := by decide +kernel
theorem dX5_takeWord_11 : decode cX5_takeWord 11 = .ok (.aload_n 0, 1) := by decide +kernel
theorem dX5_takeWord_12 : decode cX5_takeWord 12 = .ok (.bipush (-2), 2) := by decide +kernel
theorem dX5_takeWord_14 : decode cX5_takeWord 14 = .ok (.invokevirtual 78, 3) := by decide +kernel
theorem dX5_takeWord_17 : decode cX5_takeWord 17 = .ok (.ireturn, 1) := by decide +kernel
theorem dX5_takeWord_18 : decode cX5_takeWord 18 = .ok (.aload_n 0, 1) := by decide +kernel
theorem dX5_takeWord_19 : decode cX5_takeWord 19 = .ok (.getfield 12, 3) := by decide +kernel
theorem dX5_takeWord_22 : decode cX5_takeWord 22 = .ok (.invokevirtual 82, 3) := by decide +kernel
theorem dX5_takeWord_25 : decode cX5_takeWord 25 = .ok (.iconst 1, 1) := by decide +kernel
theorem dX5_takeWord_26 : decode cX5_takeWord 26 = .ok (.ireturn, 1) := by decide +kernel
theorem dX5_takeSign_0 : decode cX5_takeSign 0 = .ok (.aload_n 0, 1) := by decide +kernel
theorem dX5_takeSign_1 : decode cX5_takeSign 1 = .ok (.getfield 12, 3) := by decide +kernel
theorem dX5_takeSign_4 : decode cX5_takeSign 4 = .ok (.iload_n 1, 1) := by decide +kernel
theorem dX5_takeSign_5 : decode cX5_takeSign 5 = .ok (.invokevirtual 129, 3) := by decide +kernel
theorem dX5_takeSign_8 : decode cX5_takeSign 8 = .ok (.ifCond .ne 10, 3) := by decide +kernel
theorem dX5_takeSign_11 : decode cX5_takeSign 11 = .ok (.aload_n 0, 1) := by decide +kernel
theorem dX5_takeSign_12 : decode cX5_takeSign 12 = .ok (.bipush (-2), 2) := by decide +kernel
theorem dX5_takeSign_14 : decode cX5_takeSign 14 = .ok (.invokevirtual 78, 3) := by decide +kernel
theorem dX5_takeSign_17 : decode cX5_takeSign 17 = .ok (.ireturn, 1) := by decide +kernel
theorem dX5_takeSign_18 : decode cX5_takeSign 18 = .ok (.aload_n 0, 1) := by decide +kernel
theorem dX5_takeSign_19 : decode cX5_takeSign 19 = .ok (.getfield 12, 3) := by decide +kernel
theorem dX5_takeSign_22 : decode cX5_takeSign 22 = .ok (.invokevirtual 82, 3) := by decide +kernel
theorem dX5_takeSign_25 : decode cX5_takeSign 25 = .ok (.iconst 1, 1) := by decide +kernel
theorem dX5_takeSign_26 : decode cX5_takeSign 26 = .ok (.ireturn, 1) := by decide +kernel
theorem dX5_takeNumber_0 : decode cX5_takeNumber 0 = .ok (.aload_n 0, 1) := by decide +kernel
theorem dX5_takeNumber_1 : decode cX5_takeNumber 1 = .ok (.getfield 12, 3) := by decide +kernel
theorem dX5_takeNumber_4 : decode cX5_takeNumber 4 = .ok (.getfield 51, 3) := by decide +kernel
theorem dX5_takeNumber_7 : decode cX5_takeNumber 7 = .ok (.iconst 2, 1) := by decide +kernel
theorem dX5_takeNumber_8 : decode cX5_takeNumber 8 = .ok (.if_icmp .eq 10, 3) := by decide +kernel
theorem dX5_takeNumber_11 : decode cX5_takeNumber 11 = .ok (.aload_n 0, 1) := by decide +kernel
theorem dX5_takeNumber_12 : decode cX5_takeNumber 12 = .ok (.bipush (-2), 2) := by decide +kernel
theorem dX5_takeNumber_14 : decode cX5_takeNumber 14 = .ok (.invokevirtual 78, 3) := by decide +kernel
theorem dX5_takeNumber_17 : decode cX5_takeNumber 17 = .ok (.ireturn, 1) := by decide +kernel
theorem dX5_takeNumber_18 : decode cX5_takeNumber 18 = .ok (.aload_n 0, 1) := by decide +kernel
theorem dX5_takeNumber_19 : decode cX5_takeNumber 19 = .ok (.getfield 12, 3) := by decide +kernel
theorem dX5_takeNumber_22 : decode cX5_takeNumber 22 = .ok (.getfield 106, 3) := by decide +kernel
theorem dX5_takeNumber_25 : decode cX5_takeNumber 25 = .ok (.iload_n 1, 1) := by decide +kernel
theorem dX5_takeNumber_26 : decode cX5_takeNumber 26 = .ok (.if_icmp .lt 14, 3) := by decide +kernel
theorem dX5_takeNumber_29 : decode cX5_takeNumber 29 = .ok (.aload_n 0, 1) := by decide +kernel
theorem dX5_takeNumber_30 : decode cX5_takeNumber 30 = .ok (.getfield 12, 3) := by decide +kernel
theorem dX5_takeNumber_33 : decode cX5_takeNumber 33 = .ok (.getfield 106, 3) := by decide +kernel
theorem dX5_takeNumber_36 : decode cX5_takeNumber 36 = .ok (.iload_n 2, 1) := by decide +kernel
theorem dX5_takeNumber_37 : decode cX5_takeNumber 37 = .ok (.if_icmp .le 10, 3) := by decide +kernel
theorem dX5_takeNumber_40 : decode cX5_takeNumber 40 = .ok (.aload_n 0, 1) := by decide +kernel
theorem dX5_takeNumber_41 : decode cX5_takeNumber 41 = .ok (.bipush (-3), 2) := by decide +kernel
theorem dX5_takeNumber_43 : decode cX5_takeNumber 43 = .ok (.invokevirtual 78, 3) := by decide +kernel
theorem dX5_takeNumber_46 : decode cX5_takeNumber 46 = .ok (.ireturn, 1) := by decide +kernel
theorem dX5_takeNumber_47 : decode cX5_takeNumber 47 = .ok (.aload_n 0, 1) := by decide +kernel
theorem dX5_takeNumber_48 : decode cX5_takeNumber 48 = .ok (.aload_n 0, 1) := by decide +kernel
theorem dX5_takeNumber_49 : decode cX5_takeNumber 49 = .ok (.getfield 12, 3) := by decide +kernel
theorem dX5_takeNumber_52 : decode cX5_takeNumber 52 = .ok (.getfield 106, 3) := by decide +kernel
theorem dX5_takeNumber_55 : decode cX5_takeNumber 55 = .ok (.putfield 103, 3) := by decide +kernel
theorem dX5_takeNumber_58 : decode cX5_takeNumber 58 = .ok (.aload_n 0, 1) := by decide +kernel
theorem dX5_takeNumber_59 : decode cX5_takeNumber 59 = .ok (.getfield 12, 3) := by decide +kernel
theorem dX5_takeNumber_62 : decode cX5_takeNumber 62 = .ok (.invokevirtual 82, 3) := by decide +kernel
theorem dX5_takeNumber_65 : decode cX5_takeNumber 65 = .ok (.iconst 1, 1) := by decide +kernel
theorem dX5_takeNumber_66 : decode cX5_takeNumber 66 = .ok (.ireturn, 1) := by decide +kernel
theorem dX5_fail_0 : decode cX5_fail 0 = .ok (.aload_n 0, 1) := by decide +kernel
theorem dX5_fail_1 : decode cX5_fail 1 = .ok (.iload_n 1, 1) := by decide +kernel
theorem dX5_fail_2 : decode cX5_fail 2 = .ok (.putfield 23, 3) := by decide +kernel
theorem dX5_fail_5 : decode cX5_fail 5 = .ok (.aload_n 0, 1) := by decide +kernel
theorem dX5_fail_6 : decode cX5_fail 6 = .ok (.aload_n 0, 1) := by decide +kernel
theorem dX5_fail_7 : decode cX5_fail 7 = .ok (.getfield 12, 3) := by decide +kernel
theorem dX5_fail_10 : decode cX5_fail 10 = .ok (.getfield 153, 3) := by decide +kernel
theorem dX5_fail_13 : decode cX5_fail 13 = .ok (.putfield 27, 3) := by decide +kernel
theorem dX5_fail_16 : decode cX5_fail 16 = .ok (.iconst 0, 1) := by decide +kernel
theorem dX5_fail_17 : decode cX5_fail 17 = .ok (.ireturn, 1) := by decide +kernel
theorem dX6_init_0 : decode cX6_init 0 = .ok (.aload_n 0, 1) := by decide +kernel
theorem dX6_init_1 : decode cX6_init 1 = .ok (.invokespecial 1, 3) := by decide +kernel
theorem dX6_init_4 : decode cX6_init 4 = .ok (.aload_n 0, 1) := by decide +kernel
theorem dX6_init_5 : decode cX6_init 5 = .ok (.iload_n 1, 1) := by decide +kernel
theorem dX6_init_6 : decode cX6_init 6 = .ok (.newarray .int, 2) := by decide +kernel
theorem dX6_init_8 : decode cX6_init 8 = .ok (.putfield 7, 3) := by decide +kernel
theorem dX6_init_11 : decode cX6_init 11 = .ok (.aload_n 0, 1) := by decide +kernel
theorem dX6_init_12 : decode cX6_init 12 = .ok (.iload_n 1, 1) := by decide +kernel
theorem dX6_init_13 : decode cX6_init 13 = .ok (.newarray .int, 2) := by decide +kernel
theorem dX6_init_15 : decode cX6_init 15 = .ok (.putfield 13, 3) := by decide +kernel
theorem dX6_init_18 : decode cX6_init 18 = .ok (.aload_n 0, 1) := by decide +kernel
theorem dX6_init_19 : decode cX6_init 19 = .ok (.iload_n 1, 1) := by decide +kernel
theorem dX6_init_20 : decode cX6_init 20 = .ok (.newarray .int, 2) := by decide +kernel
theorem dX6_init_22 : decode cX6_init 22 = .ok (.putfield 16, 3) := by decide +kernel
theorem dX6_init_25 : decode cX6_init 25 = .ok (.aload_n 0, 1) := by decide +kernel
theorem dX6_init_26 : decode cX6_init 26 = .ok (.iload_n 1, 1) := by decide +kernel
theorem dX6_init_27 : decode cX6_init 27 = .ok (.newarray .int, 2) := by decide +kernel
theorem dX6_init_29 : decode cX6_init 29 = .ok (.putfield 19, 3) := by decide +kernel
theorem dX6_init_32 : decode cX6_init 32 = .ok (.aload_n 0, 1) := by decide +kernel
theorem dX6_init_33 : decode cX6_init 33 = .ok (.iconst 0, 1) := by decide +kernel
theorem dX6_init_34 : decode cX6_init 34 = .ok (.putfield 22, 3) := by decide +kernel
theorem dX6_init_37 : decode cX6_init 37 = .ok (.return_, 1) := by decide +kernel
theorem dX6_copyFrom_0 : decode cX6_copyFrom 0 = .ok (.aload_n 0, 1) := by decide +kernel
theorem dX6_copyFrom_1 : decode cX6_copyFrom 1 = .ok (.aload_n 1, 1) := by decide +kernel
theorem dX6_copyFrom_2 : decode cX6_copyFrom 2 = .ok (.getfield 22, 3) := by decide +kernel
theorem dX6_copyFrom_5 : decode cX6_copyFrom 5 = .ok (.aload_n 0, 1) := by decide +kernel
theorem dX6_copyFrom_6 : decode cX6_copyFrom 6 = .ok (.getfield 7, 3) := by decide +kernel
theorem dX6_copyFrom_9 : decode cX6_copyFrom 9 = .ok (.arraylength, 1) := by decide +kernel
theorem dX6_copyFrom_10 : decode cX6_copyFrom 10 = .ok (.invokestatic 26, 3) := by decide +kernel
theorem dX6_copyFrom_13 : decode cX6_copyFrom 13 = .ok (.putfield 22, 3) := by decide +kernel
theorem dX6_copyFrom_16 : decode cX6_copyFrom 16 = .ok (.iconst 0, 1) := by decide +kernel
theorem dX6_copyFrom_17 : decode cX6_copyFrom 17 = .ok (.istore_n 2, 1) := by decide +kernel
theorem dX6_copyFrom_18 : decode cX6_copyFrom 18 = .ok (.iload_n 2, 1) := by decide +kernel
theorem dX6_copyFrom_19 : decode cX6_copyFrom 19 = .ok (.aload_n 0, 1) := by decide +kernel
theorem dX6_copyFrom_20 : decode cX6_copyFrom 20 = .ok (.getfield 22, 3) := by decide +kernel
theorem dX6_copyFrom_23 : decode cX6_copyFrom 23 = .ok (.if_icmp .ge 16, 3) := by decide +kernel
theorem dX6_copyFrom_26 : decode cX6_copyFrom 26 = .ok (.aload_n 0, 1) := by decide +kernel
theorem dX6_copyFrom_27 : decode cX6_copyFrom 27 = .ok (.aload_n 1, 1) := by decide +kernel
theorem dX6_copyFrom_28 : decode cX6_copyFrom 28 = .ok (.iload_n 2, 1) := by decide +kernel
theorem dX6_copyFrom_29 : decode cX6_copyFrom 29 = .ok (.iload_n 2, 1) := by decide +kernel
theorem dX6_copyFrom_30 : decode cX6_copyFrom 30 = .ok (.invokevirtual 32, 3) := by decide +kernel
theorem dX6_copyFrom_33 : decode cX6_copyFrom 33 = .ok (.iinc 2 1, 3) := by decide +kernel
theorem dX6_copyFrom_36 : decode cX6_copyFrom 36 = .ok (.goto (-18), 3) := by decide +kernel
theorem dX6_copyFrom_39 : decode cX6_copyFrom 39 = .ok (.return_, 1) := by decide +kernel
theorem dX6_copySpot_0 : decode cX6_copySpot 0 = .ok (.aload_n 0, 1) := by decide +kernel
theorem dX6_copySpot_1 : decode cX6_copySpot 1 = .ok (.getfield 7, 3) := by decide +kernel
theorem dX6_copySpot_4 : decode cX6_copySpot 4 = .ok (.iload_n 3, 1) := by decide +kernel
theorem dX6_copySpot_5 : decode cX6_copySpot 5 = .ok (.aload_n 1, 1) := by decide +kernel
theorem dX6_copySpot_6 : decode cX6_copySpot 6 = .ok (.getfield 7, 3) := by decide +kernel
theorem dX6_copySpot_9 : decode cX6_copySpot 9 = .ok (.iload_n 2, 1) := by decide +kernel
theorem dX6_copySpot_10 : decode cX6_copySpot 10 = .ok (.iaload, 1) := by decide +kernel
theorem dX6_copySpot_11 : decode cX6_copySpot 11 = .ok (.iastore, 1) := by decide +kernel
theorem dX6_copySpot_12 : decode cX6_copySpot 12 = .ok (.aload_n 0, 1) := by decide +kernel
theorem dX6_copySpot_13 : decode cX6_copySpot 13 = .ok (.getfield 13, 3) := by decide +kernel
theorem dX6_copySpot_16 : decode cX6_copySpot 16 = .ok (.iload_n 3, 1) := by decide +kernel
theorem dX6_copySpot_17 : decode cX6_copySpot 17 = .ok (.aload_n 1, 1) := by decide +kernel
theorem dX6_copySpot_18 : decode cX6_copySpot 18 = .ok (.getfield 13, 3) := by decide +kernel
theorem dX6_copySpot_21 : decode cX6_copySpot 21 = .ok (.iload_n 2, 1) := by decide +kernel
theorem dX6_copySpot_22 : decode cX6_copySpot 22 = .ok (.iaload, 1) := by decide +kernel
theorem dX6_copySpot_23 : decode cX6_copySpot 23 = .ok (.iastore, 1) := by decide +kernel
theorem dX6_copySpot_24 : decode cX6_copySpot 24 = .ok (.aload_n 0, 1) := by decide +kernel
theorem dX6_copySpot_25 : decode cX6_copySpot 25 = .ok (.getfield 16, 3) := by decide +kernel
theorem dX6_copySpot_28 : decode cX6_copySpot 28 = .ok (.iload_n 3, 1) := by decide +kernel
theorem dX6_copySpot_29 : decode cX6_copySpot 29 = .ok (.aload_n 1, 1) := by decide +kernel
theorem dX6_copySpot_30 : decode cX6_copySpot 30 = .ok (.getfield 16, 3) := by decide +kernel
theorem dX6_copySpot_33 : decode cX6_copySpot 33 = .ok (.iload_n 2, 1) := by decide +kernel
theorem dX6_copySpot_34 : decode cX6_copySpot 34 = .ok (.iaload, 1) := by decide +kernel
theorem dX6_copySpot_35 : decode cX6_copySpot 35 = .ok (.iastore, 1) := by decide +kernel
theorem dX6_copySpot_36 : decode cX6_copySpot 36 = .ok (.aload_n 0, 1) := by decide +kernel
theorem dX6_copySpot_37 : decode cX6_copySpot 37 = .ok (.getfield 19, 3) := by decide +kernel
theorem dX6_copySpot_40 : decode cX6_copySpot 40 = .ok (.iload_n 3, 1) := by decide +kernel
theorem dX6_copySpot_41 : decode cX6_copySpot 41 = .ok (.aload_n 1, 1) := by decide +kernel
theorem dX6_copySpot_42 : decode cX6_copySpot 42 = .ok (.getfield 19, 3) := by decide +kernel
theorem dX6_copySpot_45 : decode cX6_copySpot 45 = .ok (.iload_n 2, 1) := by decide +kernel
theorem dX6_copySpot_46 : decode cX6_copySpot 46 = .ok (.iaload, 1) := by decide +kernel
theorem dX6_copySpot_47 : decode cX6_copySpot 47 = .ok (.iastore, 1) := by decide +kernel
theorem dX6_copySpot_48 : decode cX6_copySpot 48 = .ok (.return_, 1) := by decide +kernel
theorem dX6_takeOver_0 : decode cX6_takeOver 0 = .ok (.iload_n 2, 1) := by decide +kernel
theorem dX6_takeOver_1 : decode cX6_takeOver 1 = .ok (.ifCond .lt 11, 3) := by decide +kernel
theorem dX6_takeOver_4 : decode cX6_takeOver 4 = .ok (.iload_n 2, 1) := by decide +kernel
theorem dX6_takeOver_5 : decode cX6_takeOver 5 = .ok (.aload_n 1, 1) := by decide +kernel
theorem dX6_takeOver_6 : decode cX6_takeOver 6 = .ok (.getfield 22, 3) := by decide +kernel
theorem dX6_takeOver_9 : decode cX6_takeOver 9 = .ok (.if_icmp .lt 4, 3) := by decide +kernel
theorem dX6_takeOver_12 : decode cX6_takeOver 12 = .ok (.return_, 1) := by decide +kernel
theorem dX6_takeOver_13 : decode cX6_takeOver 13 = .ok (.aload_n 0, 1) := by decide +kernel
theorem dX6_takeOver_14 : decode cX6_takeOver 14 = .ok (.iload_n 3, 1) := by decide +kernel
theorem dX6_takeOver_15 : decode cX6_takeOver 15 = .ok (.aload_n 1, 1) := by decide +kernel
theorem dX6_takeOver_16 : decode cX6_takeOver 16 = .ok (.getfield 7, 3) := by decide +kernel
theorem dX6_takeOver_19 : decode cX6_takeOver 19 = .ok (.iload_n 2, 1) := by decide +kernel
theorem dX6_takeOver_20 : decode cX6_takeOver 20 = .ok (.iaload, 1) := by decide +kernel
theorem dX6_takeOver_21 : decode cX6_takeOver 21 = .ok (.aload_n 1, 1) := by decide +kernel
theorem dX6_takeOver_22 : decode cX6_takeOver 22 = .ok (.getfield 13, 3) := by decide +kernel
theorem dX6_takeOver_25 : decode cX6_takeOver 25 = .ok (.iload_n 2, 1) := by decide +kernel
theorem dX6_takeOver_26 : decode cX6_takeOver 26 = .ok (.iaload, 1) := by decide +kernel
theorem dX6_takeOver_27 : decode cX6_takeOver 27 = .ok (.aload_n 1, 1) := by decide +kernel
theorem dX6_takeOver_28 : decode cX6_takeOver 28 = .ok (.getfield 16, 3) := by decide +kernel
theorem dX6_takeOver_31 : decode cX6_takeOver 31 = .ok (.iload_n 2, 1) := by decide +kernel
theorem dX6_takeOver_32 : decode cX6_takeOver 32 = .ok (.iaload, 1) := by decide +kernel
theorem dX6_takeOver_33 : decode cX6_takeOver 33 = .ok (.iload 4, 2) := by decide +kernel
theorem dX6_takeOver_35 : decode cX6_takeOver 35 = .ok (.invokevirtual 36, 3) := by decide +kernel
theorem dX6_takeOver_38 : decode cX6_takeOver 38 = .ok (.return_, 1) := by decide +kernel
theorem dX6_insert_0 : decode cX6_insert 0 = .ok (.iload_n 1, 1) := by decide +kernel
theorem dX6_insert_1 : decode cX6_insert 1 = .ok (.ifCond .lt 23, 3) := by decide +kernel
theorem dX6_insert_4 : decode cX6_insert 4 = .ok (.iload_n 1, 1) := by decide +kernel
theorem dX6_insert_5 : decode cX6_insert 5 = .ok (.aload_n 0, 1) := by decide +kernel
theorem dX6_insert_6 : decode cX6_insert 6 = .ok (.getfield 22, 3) := by decide +kernel
theorem dX6_insert_9 : decode cX6_insert 9 = .ok (.if_icmp .gt 15, 3) := by decide +kernel
theorem dX6_insert_12 : decode cX6_insert 12 = .ok (.aload_n 0, 1) := by decide +kernel
theorem dX6_insert_13 : decode cX6_insert 13 = .ok (.getfield 22, 3) := by decide +kernel
theorem dX6_insert_16 : decode cX6_insert 16 = .ok (.aload_n 0, 1) := by decide +kernel
theorem dX6_insert_17 : decode cX6_insert 17 = .ok (.getfield 7, 3) := by decide +kernel
theorem dX6_insert_20 : decode cX6_insert 20 = .ok (.arraylength, 1) := by decide +kernel
theorem dX6_insert_21 : decode cX6_insert 21 = .ok (.if_icmp .lt 4, 3) := by decide +kernel
theorem dX6_insert_24 : decode cX6_insert 24 = .ok (.return_, 1) := by decide +kernel
theorem dX6_insert_25 : decode cX6_insert 25 = .ok (.aload_n 0, 1) := by decide +kernel
theorem dX6_insert_26 : decode cX6_insert 26 = .ok (.dup, 1) := by decide +kernel
theorem dX6_insert_27 : decode cX6_insert 27 = .ok (.getfield 22, 3) := by decide +kernel
theorem dX6_insert_30 : decode cX6_insert 30 = .ok (.iconst 1, 1) := by decide +kernel
theorem dX6_insert_31 : decode cX6_insert 31 = .ok (.iadd, 1) := by decide +kernel
theorem dX6_insert_32 : decode cX6_insert 32 = .ok (.putfield 22, 3) := by decide +kernel
theorem dX6_insert_35 : decode cX6_insert 35 = .ok (.aload_n 0, 1) := by decide +kernel
theorem dX6_insert_36 : decode cX6_insert 36 = .ok (.getfield 22, 3) := by decide +kernel
theorem dX6_insert_39 : decode cX6_insert 39 = .ok (.iconst 1, 1) := by decide +kernel
theorem dX6_insert_40 : decode cX6_insert 40 = .ok (.isub, 1) := by decide +kernel
theorem dX6_insert_41 : decode cX6_insert 41 = .ok (.istore 6, 2) := by decide +kernel
theorem dX6_insert_43 : decode cX6_insert 43 = .ok (.iload 6, 2) := by decide +kernel
theorem dX6_insert_45 : decode cX6_insert 45 = .ok (.iload_n 1, 1) := by decide +kernel
theorem dX6_insert_46 : decode cX6_insert 46 = .ok (.if_icmp .le 20, 3) := by decide +kernel
theorem dX6_insert_49 : decode cX6_insert 49 = .ok (.aload_n 0, 1) := by decide +kernel
theorem dX6_insert_50 : decode cX6_insert 50 = .ok (.aload_n 0, 1) := by decide +kernel
theorem dX6_insert_51 : decode cX6_insert 51 = .ok (.iload 6, 2) := by decide +kernel
theorem dX6_insert_53 : decode cX6_insert 53 = .ok (.iconst 1, 1) := by decide +kernel
theorem dX6_insert_54 : decode cX6_insert 54 = .ok (.isub, 1) := by decide +kernel
theorem dX6_insert_55 : decode cX6_insert 55 = .ok (.iload 6, 2) := by decide +kernel
theorem dX6_insert_57 : decode cX6_insert 57 = .ok (.invokevirtual 32, 3) := by decide +kernel
theorem dX6_insert_60 : decode cX6_insert 60 = .ok (.iinc 6 (-1), 3) := by decide +kernel
theorem dX6_insert_63 : decode cX6_insert 63 = .ok (.goto (-20), 3) := by decide +kernel
theorem dX6_insert_66 : decode cX6_insert 66 = .ok (.aload_n 0, 1) := by decide +kernel
theorem dX6_insert_67 : decode cX6_insert 67 = .ok (.getfield 7, 3) := by decide +kernel
theorem dX6_insert_70 : decode cX6_insert 70 = .ok (.iload_n 1, 1) := by decide +kernel
theorem dX6_insert_71 : decode cX6_insert 71 = .ok (.iload_n 2, 1) := by decide +kernel
theorem dX6_insert_72 : decode cX6_insert 72 = .ok (.iastore, 1) := by decide +kernel
theorem dX6_insert_73 : decode cX6_insert 73 = .ok (.aload_n 0, 1) := by decide +kernel
theorem dX6_insert_74 : decode cX6_insert 74 = .ok (.getfield 13, 3) := by decide +kernel
theorem dX6_insert_77 : decode cX6_insert 77 = .ok (.iload_n 1, 1) := by decide +kernel
theorem dX6_insert_78 : decode cX6_insert 78 = .ok (.iload_n 3, 1) := by decide +kernel
theorem dX6_insert_79 : decode cX6_insert 79 = .ok (.iastore, 1) := by decide +kernel
theorem dX6_insert_80 : decode cX6_insert 80 = .ok (.aload_n 0, 1) := by decide +kernel
theorem dX6_insert_81 : decode cX6_insert 81 = .ok (.getfield 16, 3) := by decide +kernel
theorem dX6_insert_84 : decode cX6_insert 84 = .ok (.iload_n 1, 1) := by decide +kernel
theorem dX6_insert_85 : decode cX6_insert 85 = .ok (.iload 4, 2) := by decide +kernel
theorem dX6_insert_87 : decode cX6_insert 87 = .ok (.iastore, 1) := by decide +kernel
theorem dX6_insert_88 : decode cX6_insert 88 = .ok (.aload_n 0, 1) := by decide +kernel
theorem dX6_insert_89 : decode cX6_insert 89 = .ok (.getfield 19, 3) := by decide +kernel
theorem dX6_insert_92 : decode cX6_insert 92 = .ok (.iload_n 1, 1) := by decide +kernel
theorem dX6_insert_93 : decode cX6_insert 93 = .ok (.iload 5, 2) := by decide +kernel
theorem dX6_insert_95 : decode cX6_insert 95 = .ok (.iastore, 1) := by decide +kernel
theorem dX6_insert_96 : decode cX6_insert 96 = .ok (.return_, 1) := by decide +kernel
theorem dX6_delete_0 : decode cX6_delete 0 = .ok (.iload_n 1, 1) := by decide +kernel
theorem dX6_delete_1 : decode cX6_delete 1 = .ok (.ifCond .lt 11, 3) := by decide +kernel
theorem dX6_delete_4 : decode cX6_delete 4 = .ok (.iload_n 1, 1) := by decide +kernel
theorem dX6_delete_5 : decode cX6_delete 5 = .ok (.aload_n 0, 1) := by decide +kernel
theorem dX6_delete_6 : decode cX6_delete 6 = .ok (.getfield 22, 3) := by decide +kernel
theorem dX6_delete_9 : decode cX6_delete 9 = .ok (.if_icmp .lt 4, 3) := by decide +kernel
theorem dX6_delete_12 : decode cX6_delete 12 = .ok (.return_, 1) := by decide +kernel
theorem dX6_delete_13 : decode cX6_delete 13 = .ok (.iload_n 1, 1) := by decide +kernel
theorem dX6_delete_14 : decode cX6_delete 14 = .ok (.istore_n 2, 1) := by decide +kernel
theorem dX6_delete_15 : decode cX6_delete 15 = .ok (.iload_n 2, 1) := by decide +kernel
theorem dX6_delete_16 : decode cX6_delete 16 = .ok (.aload_n 0, 1) := by decide +kernel
theorem dX6_delete_17 : decode cX6_delete 17 = .ok (.getfield 22, 3) := by decide +kernel
theorem dX6_delete_20 : decode cX6_delete 20 = .ok (.iconst 1, 1) := by decide +kernel
theorem dX6_delete_21 : decode cX6_delete 21 = .ok (.isub, 1) := by decide +kernel
theorem dX6_delete_22 : decode cX6_delete 22 = .ok (.if_icmp .ge 18, 3) := by decide +kernel
theorem dX6_delete_25 : decode cX6_delete 25 = .ok (.aload_n 0, 1) := by decide +kernel
theorem dX6_delete_26 : decode cX6_delete 26 = .ok (.aload_n 0, 1) := by decide +kernel
theorem dX6_delete_27 : decode cX6_delete 27 = .ok (.iload_n 2, 1) := by decide +kernel
theorem dX6_delete_28 : decode cX6_delete 28 = .ok (.iconst 1, 1) := by decide +kernel
theorem dX6_delete_29 : decode cX6_delete 29 = .ok (.iadd, 1) := by decide +kernel
theorem dX6_delete_30 : decode cX6_delete 30 = .ok (.iload_n 2, 1) := by decide +kernel
theorem dX6_delete_31 : decode cX6_delete 31 = .ok (.invokevirtual 32, 3) := by decide +kernel
theorem dX6_delete_34 : decode cX6_delete 34 = .ok (.iinc 2 1, 3) := by decide +kernel
theorem dX6_delete_37 : decode cX6_delete 37 = .ok (.goto (-22), 3) := by decide +kernel
theorem dX6_delete_40 : decode cX6_delete 40 = .ok (.aload_n 0, 1) := by decide +kernel
theorem dX6_delete_41 : decode cX6_delete 41 = .ok (.dup, 1) := by decide +kernel
theorem dX6_delete_42 : decode cX6_delete 42 = .ok (.getfield 22, 3) := by decide +kernel
theorem dX6_delete_45 : decode cX6_delete 45 = .ok (.iconst 1, 1) := by decide +kernel
theorem dX6_delete_46 : decode cX6_delete 46 = .ok (.isub, 1) := by decide +kernel
theorem dX6_delete_47 : decode cX6_delete 47 = .ok (.putfield 22, 3) := by decide +kernel
theorem dX6_delete_50 : decode cX6_delete 50 = .ok (.return_, 1) := by decide +kernel
theorem dX6_moveForward_0 : decode cX6_moveForward 0 = .ok (.iload_n 2, 1) := by decide +kernel
theorem dX6_moveForward_1 : decode cX6_moveForward 1 = .ok (.ifCond .lt 16, 3) := by decide +kernel
theorem dX6_moveForward_4 : decode cX6_moveForward 4 = .ok (.iload_n 2, 1) := by decide +kernel
theorem dX6_moveForward_5 : decode cX6_moveForward 5 = .ok (.iload_n 1, 1) := by decide +kernel
theorem dX6_moveForward_6 : decode cX6_moveForward 6 = .ok (.if_icmp .gt 11, 3) := by decide +kernel
theorem dX6_moveForward_9 : decode cX6_moveForward 9 = .ok (.iload_n 1, 1) := by decide +kernel
theorem dX6_moveForward_10 : decode cX6_moveForward 10 = .ok (.aload_n 0, 1) := by decide +kernel
theorem dX6_moveForward_11 : decode cX6_moveForward 11 = .ok (.getfield 22, 3) := by decide +kernel
theorem dX6_moveForward_14 : decode cX6_moveForward 14 = .ok (.if_icmp .lt 4, 3) := by decide +kernel
theorem dX6_moveForward_17 : decode cX6_moveForward 17 = .ok (.return_, 1) := by decide +kernel
theorem dX6_moveForward_18 : decode cX6_moveForward 18 = .ok (.aload_n 0, 1) := by decide +kernel
theorem dX6_moveForward_19 : decode cX6_moveForward 19 = .ok (.getfield 7, 3) := by decide +kernel
theorem dX6_moveForward_22 : decode cX6_moveForward 22 = .ok (.iload_n 1, 1) := by decide +kernel
theorem dX6_moveForward_23 : decode cX6_moveForward 23 = .ok (.iaload, 1) := by decide +kernel
theorem dX6_moveForward_24 : decode cX6_moveForward 24 = .ok (.istore_n 3, 1) := by decide +kernel
theorem dX6_moveForward_25 : decode cX6_moveForward 25 = .ok (.aload_n 0, 1) := by decide +kernel
theorem dX6_moveForward_26 : decode cX6_moveForward 26 = .ok (.getfield 13, 3) := by decide +kernel
theorem dX6_moveForward_29 : decode cX6_moveForward 29 = .ok (.iload_n 1, 1) := by decide +kernel
theorem dX6_moveForward_30 : decode cX6_moveForward 30 = .ok (.iaload, 1) := by decide +kernel
theorem dX6_moveForward_31 : decode cX6_moveForward 31 = .ok (.istore 4, 2) := by decide +kernel
theorem dX6_moveForward_33 : decode cX6_moveForward 33 = .ok (.aload_n 0, 1) := by decide +kernel
theorem dX6_moveForward_34 : decode cX6_moveForward 34 = .ok (.getfield 16, 3) := by decide +kernel
theorem dX6_moveForward_37 : decode cX6_moveForward 37 = .ok (.iload_n 1, 1) := by decide +kernel
theorem dX6_moveForward_38 : decode cX6_moveForward 38 = .ok (.iaload, 1) := by decide +kernel
theorem dX6_moveForward_39 : decode cX6_moveForward 39 = .ok (.istore 5, 2) := by decide +kernel
theorem dX6_moveForward_41 : decode cX6_moveForward 41 = .ok (.aload_n 0, 1) := by decide +kernel
theorem dX6_moveForward_42 : decode cX6_moveForward 42 = .ok (.getfield 19, 3) := by decide +kernel
theorem dX6_moveForward_45 : decode cX6_moveForward 45 = .ok (.iload_n 1, 1) := by decide +kernel
theorem dX6_moveForward_46 : decode cX6_moveForward 46 = .ok (.iaload, 1) := by decide +kernel
theorem dX6_moveForward_47 : decode cX6_moveForward 47 = .ok (.istore 6, 2) := by decide +kernel
theorem dX6_moveForward_49 : decode cX6_moveForward 49 = .ok (.aload_n 0, 1) := by decide +kernel
theorem dX6_moveForward_50 : decode cX6_moveForward 50 = .ok (.iload_n 1, 1) := by decide +kernel
theorem dX6_moveForward_51 : decode cX6_moveForward 51 = .ok (.invokevirtual 40, 3) := by decide +kernel
theorem dX6_moveForward_54 : decode cX6_moveForward 54 = .ok (.aload_n 0, 1) := by decide +kernel
theorem dX6_moveForward_55 : decode cX6_moveForward 55 = .ok (.iload_n 2, 1) := by decide +kernel
theorem dX6_moveForward_56 : decode cX6_moveForward 56 = .ok (.iload_n 3, 1) := by decide +kernel
theorem dX6_moveForward_57 : decode cX6_moveForward 57 = .ok (.iload 4, 2) := by decide +kernel
theorem dX6_moveForward_59 : decode cX6_moveForward 59 = .ok (.iload 5, 2) := by decide +kernel
theorem dX6_moveForward_61 : decode cX6_moveForward 61 = .ok (.iload 6, 2) := by decide +kernel
theorem dX6_moveForward_63 : decode cX6_moveForward 63 = .ok (.invokevirtual 36, 3) := by decide +kernel
theorem dX6_moveForward_66 : decode cX6_moveForward 66 = .ok (.return_, 1) := by decide +kernel
theorem dX6_tell_0 : decode cX6_tell 0 = .ok (.iload_n 1, 1) := by decide +kernel
theorem dX6_tell_1 : decode cX6_tell 1 = .ok (.ifCond .lt 11, 3) := by decide +kernel
theorem dX6_tell_4 : decode cX6_tell 4 = .ok (.iload_n 1, 1) := by decide +kernel
theorem dX6_tell_5 : decode cX6_tell 5 = .ok (.aload_n 0, 1) := by decide +kernel
theorem dX6_tell_6 : decode cX6_tell 6 = .ok (.getfield 22, 3) := by decide +kernel
theorem dX6_tell_9 : decode cX6_tell 9 = .ok (.if_icmp .lt 5, 3) := by decide +kernel
theorem dX6_tell_12 : decode cX6_tell 12 = .ok (.iconst 0, 1) := by decide +kernel
theorem dX6_tell_13 : decode cX6_tell 13 = .ok (.ireturn, 1) := by decide +kernel
theorem dX6_tell_14 : decode cX6_tell 14 = .ok (.iload_n 2, 1) := by decide +kernel
theorem dX6_tell_15 : decode cX6_tell 15 = .ok (.tableswitch 46 0 2 #[25, 32, 39], 25) := by decide +kernel
theorem dX6_tell_40 : decode cX6_tell 40 = .ok (.aload_n 0, 1) := by decide +kernel
theorem dX6_tell_41 : decode cX6_tell 41 = .ok (.getfield 7, 3) := by decide +kernel
theorem dX6_tell_44 : decode cX6_tell 44 = .ok (.iload_n 1, 1) := by decide +kernel
theorem dX6_tell_45 : decode cX6_tell 45 = .ok (.iaload, 1) := by decide +kernel
theorem dX6_tell_46 : decode cX6_tell 46 = .ok (.ireturn, 1) := by decide +kernel
theorem dX6_tell_47 : decode cX6_tell 47 = .ok (.aload_n 0, 1) := by decide +kernel
theorem dX6_tell_48 : decode cX6_tell 48 = .ok (.getfield 13, 3) := by decide +kernel
theorem dX6_tell_51 : decode cX6_tell 51 = .ok (.iload_n 1, 1) := by decide +kernel
theorem dX6_tell_52 : decode cX6_tell 52 = .ok (.iaload, 1) := by decide +kernel
theorem dX6_tell_53 : decode cX6_tell 53 = .ok (.ireturn, 1) := by decide +kernel
theorem dX6_tell_54 : decode cX6_tell 54 = .ok (.aload_n 0, 1) := by decide +kernel
theorem dX6_tell_55 : decode cX6_tell 55 = .ok (.getfield 16, 3) := by decide +kernel
theorem dX6_tell_58 : decode cX6_tell 58 = .ok (.iload_n 1, 1) := by decide +kernel
theorem dX6_tell_59 : decode cX6_tell 59 = .ok (.iaload, 1) := by decide +kernel
theorem dX6_tell_60 : decode cX6_tell 60 = .ok (.ireturn, 1) := by decide +kernel
theorem dX6_tell_61 : decode cX6_tell 61 = .ok (.aload_n 0, 1) := by decide +kernel
theorem dX6_tell_62 : decode cX6_tell 62 = .ok (.getfield 19, 3) := by decide +kernel
theorem dX6_tell_65 : decode cX6_tell 65 = .ok (.iload_n 1, 1) := by decide +kernel
theorem dX6_tell_66 : decode cX6_tell 66 = .ok (.iaload, 1) := by decide +kernel
theorem dX6_tell_67 : decode cX6_tell 67 = .ok (.ireturn, 1) := by decide +kernel
theorem dX6_placeOf_0 : decode cX6_placeOf 0 = .ok (.iconst 0, 1) := by decide +kernel
theorem dX6_placeOf_1 : decode cX6_placeOf 1 = .ok (.istore_n 2, 1) := by decide +kernel
theorem dX6_placeOf_2 : decode cX6_placeOf 2 = .ok (.iload_n 2, 1) := by decide +kernel
theorem dX6_placeOf_3 : decode cX6_placeOf 3 = .ok (.aload_n 0, 1) := by decide +kernel
theorem dX6_placeOf_4 : decode cX6_placeOf 4 = .ok (.getfield 22, 3) := by decide +kernel
theorem dX6_placeOf_7 : decode cX6_placeOf 7 = .ok (.if_icmp .ge 21, 3) := by decide +kernel
theorem dX6_placeOf_10 : decode cX6_placeOf 10 = .ok (.aload_n 0, 1) := by decide +kernel
theorem dX6_placeOf_11 : decode cX6_placeOf 11 = .ok (.getfield 7, 3) := by decide +kernel
theorem dX6_placeOf_14 : decode cX6_placeOf 14 = .ok (.iload_n 2, 1) := by decide +kernel
theorem dX6_placeOf_15 : decode cX6_placeOf 15 = .ok (.iaload, 1) := by decide +kernel
theorem dX6_placeOf_16 : decode cX6_placeOf 16 = .ok (.iload_n 1, 1) := by decide +kernel
theorem dX6_placeOf_17 : decode cX6_placeOf 17 = .ok (.if_icmp .ne 5, 3) := by decide +kernel
theorem dX6_placeOf_20 : decode cX6_placeOf 20 = .ok (.iload_n 2, 1) := by decide +kernel
theorem dX6_placeOf_21 : decode cX6_placeOf 21 = .ok (.ireturn, 1) := by decide +kernel
theorem dX6_placeOf_22 : decode cX6_placeOf 22 = .ok (.iinc 2 1, 3) := by decide +kernel
theorem dX6_placeOf_25 : decode cX6_placeOf 25 = .ok (.goto (-23), 3) := by decide +kernel
theorem dX6_placeOf_28 : decode cX6_placeOf 28 = .ok (.iconst (-1), 1) := by decide +kernel
theorem dX6_placeOf_29 : decode cX6_placeOf 29 = .ok (.ireturn, 1) := by decide +kernel
theorem dX6_countOf_0 : decode cX6_countOf 0 = .ok (.iconst 0, 1) := by decide +kernel
theorem dX6_countOf_1 : decode cX6_countOf 1 = .ok (.istore_n 2, 1) := by decide +kernel
theorem dX6_countOf_2 : decode cX6_countOf 2 = .ok (.iconst 0, 1) := by decide +kernel
theorem dX6_countOf_3 : decode cX6_countOf 3 = .ok (.istore_n 3, 1) := by decide +kernel
theorem dX6_countOf_4 : decode cX6_countOf 4 = .ok (.iload_n 3, 1) := by decide +kernel
theorem dX6_countOf_5 : decode cX6_countOf 5 = .ok (.aload_n 0, 1) := by decide +kernel
theorem dX6_countOf_6 : decode cX6_countOf 6 = .ok (.getfield 22, 3) := by decide +kernel
theorem dX6_countOf_9 : decode cX6_countOf 9 = .ok (.if_icmp .ge 22, 3) := by decide +kernel
theorem dX6_countOf_12 : decode cX6_countOf 12 = .ok (.aload_n 0, 1) := by decide +kernel
theorem dX6_countOf_13 : decode cX6_countOf 13 = .ok (.getfield 7, 3) := by decide +kernel
theorem dX6_countOf_16 : decode cX6_countOf 16 = .ok (.iload_n 3, 1) := by decide +kernel
theorem dX6_countOf_17 : decode cX6_countOf 17 = .ok (.iaload, 1) := by decide +kernel
theorem dX6_countOf_18 : decode cX6_countOf 18 = .ok (.iload_n 1, 1) := by decide +kernel
theorem dX6_countOf_19 : decode cX6_countOf 19 = .ok (.if_icmp .ne 6, 3) := by decide +kernel
theorem dX6_countOf_22 : decode cX6_countOf 22 = .ok (.iinc 2 1, 3) := by decide +kernel
theorem dX6_countOf_25 : decode cX6_countOf 25 = .ok (.iinc 3 1, 3) := by decide +kernel
theorem dX6_countOf_28 : decode cX6_countOf 28 = .ok (.goto (-24), 3) := by decide +kernel
theorem dX6_countOf_31 : decode cX6_countOf 31 = .ok (.iload_n 2, 1) := by decide +kernel
theorem dX6_countOf_32 : decode cX6_countOf 32 = .ok (.ireturn, 1) := by decide +kernel
theorem dX6_secondsTogether_0 : decode cX6_secondsTogether 0 = .ok (.iconst 0, 1) := by decide +kernel
theorem dX6_secondsTogether_1 : decode cX6_secondsTogether 1 = .ok (.istore_n 1, 1) := by decide +kernel
theorem dX6_secondsTogether_2 : decode cX6_secondsTogether 2 = .ok (.iconst 0, 1) := by decide +kernel
theorem dX6_secondsTogether_3 : decode cX6_secondsTogether 3 = .ok (.istore_n 2, 1) := by decide +kernel
theorem dX6_secondsTogether_4 : decode cX6_secondsTogether 4 = .ok (.iload_n 2, 1) := by decide +kernel
theorem dX6_secondsTogether_5 : decode cX6_secondsTogether 5 = .ok (.aload_n 0, 1) := by decide +kernel
theorem dX6_secondsTogether_6 : decode cX6_secondsTogether 6 = .ok (.getfield 22, 3) := by decide +kernel
theorem dX6_secondsTogether_9 : decode cX6_secondsTogether 9 = .ok (.if_icmp .ge 18, 3) := by decide +kernel
theorem dX6_secondsTogether_12 : decode cX6_secondsTogether 12 = .ok (.iload_n 1, 1) := by decide +kernel
theorem dX6_secondsTogether_13 : decode cX6_secondsTogether 13 = .ok (.aload_n 0, 1) := by decide +kernel
theorem dX6_secondsTogether_14 : decode cX6_secondsTogether 14 = .ok (.getfield 13, 3) := by decide +kernel
theorem dX6_secondsTogether_17 : decode cX6_secondsTogether 17 = .ok (.iload_n 2, 1) := by decide +kernel
theorem dX6_secondsTogether_18 : decode cX6_secondsTogether 18 = .ok (.iaload, 1) := by decide +kernel
theorem dX6_secondsTogether_19 : decode cX6_secondsTogether 19 = .ok (.iadd, 1) := by decide +kernel
theorem dX6_secondsTogether_20 : decode cX6_secondsTogether 20 = .ok (.istore_n 1, 1) := by decide +kernel
theorem dX6_secondsTogether_21 : decode cX6_secondsTogether 21 = .ok (.iinc 2 1, 3) := by decide +kernel
theorem dX6_secondsTogether_24 : decode cX6_secondsTogether 24 = .ok (.goto (-20), 3) := by decide +kernel
theorem dX6_secondsTogether_27 : decode cX6_secondsTogether 27 = .ok (.iload_n 1, 1) := by decide +kernel
theorem dX6_secondsTogether_28 : decode cX6_secondsTogether 28 = .ok (.ireturn, 1) := by decide +kernel
theorem dX6_sponsorSet_0 : decode cX6_sponsorSet 0 = .ok (.iconst 0, 1) := by decide +kernel
theorem dX6_sponsorSet_1 : decode cX6_sponsorSet 1 = .ok (.istore_n 1, 1) := by decide +kernel
theorem dX6_sponsorSet_2 : decode cX6_sponsorSet 2 = .ok (.iconst 0, 1) := by decide +kernel
theorem dX6_sponsorSet_3 : decode cX6_sponsorSet 3 = .ok (.istore_n 2, 1) := by decide +kernel
theorem dX6_sponsorSet_4 : decode cX6_sponsorSet 4 = .ok (.iload_n 2, 1) := by decide +kernel
theorem dX6_sponsorSet_5 : decode cX6_sponsorSet 5 = .ok (.aload_n 0, 1) := by decide +kernel
theorem dX6_sponsorSet_6 : decode cX6_sponsorSet 6 = .ok (.getfield 22, 3) := by decide +kernel
theorem dX6_sponsorSet_9 : decode cX6_sponsorSet 9 = .ok (.if_icmp .ge 20, 3) := by decide +kernel
theorem dX6_sponsorSet_12 : decode cX6_sponsorSet 12 = .ok (.iload_n 1, 1) := by decide +kernel
theorem dX6_sponsorSet_13 : decode cX6_sponsorSet 13 = .ok (.iconst 1, 1) := by decide +kernel
theorem dX6_sponsorSet_14 : decode cX6_sponsorSet 14 = .ok (.aload_n 0, 1) := by decide +kernel
theorem dX6_sponsorSet_15 : decode cX6_sponsorSet 15 = .ok (.getfield 7, 3) := by decide +kernel
theorem dX6_sponsorSet_18 : decode cX6_sponsorSet 18 = .ok (.iload_n 2, 1) := by decide +kernel
theorem dX6_sponsorSet_19 : decode cX6_sponsorSet 19 = .ok (.iaload, 1) := by decide +kernel
theorem dX6_sponsorSet_20 : decode cX6_sponsorSet 20 = .ok (.ishl, 1) := by decide +kernel
theorem dX6_sponsorSet_21 : decode cX6_sponsorSet 21 = .ok (.ior, 1) := by decide +kernel
theorem dX6_sponsorSet_22 : decode cX6_sponsorSet 22 = .ok (.istore_n 1, 1) := by decide +kernel
theorem dX6_sponsorSet_23 : decode cX6_sponsorSet 23 = .ok (.iinc 2 1, 3) := by decide +kernel
theorem dX6_sponsorSet_26 : decode cX6_sponsorSet 26 = .ok (.goto (-22), 3) := by decide +kernel
theorem dX6_sponsorSet_29 : decode cX6_sponsorSet 29 = .ok (.iload_n 1, 1) := by decide +kernel
theorem dX6_sponsorSet_30 : decode cX6_sponsorSet 30 = .ok (.ireturn, 1) := by decide +kernel
theorem dX6_addTo_0 : decode cX6_addTo 0 = .ok (.lload_n 1, 1) := by decide +kernel
theorem dX6_addTo_1 : decode cX6_addTo 1 = .ok (.lstore 4, 2) := by decide +kernel
theorem dX6_addTo_3 : decode cX6_addTo 3 = .ok (.iconst 0, 1) := by decide +kernel
theorem dX6_addTo_4 : decode cX6_addTo 4 = .ok (.istore 6, 2) := by decide +kernel
theorem dX6_addTo_6 : decode cX6_addTo 6 = .ok (.iload 6, 2) := by decide +kernel
theorem dX6_addTo_8 : decode cX6_addTo 8 = .ok (.aload_n 0, 1) := by decide +kernel
theorem dX6_addTo_9 : decode cX6_addTo 9 = .ok (.getfield 22, 3) := by decide +kernel
theorem dX6_addTo_12 : decode cX6_addTo 12 = .ok (.if_icmp .ge 42, 3) := by decide +kernel
theorem dX6_addTo_15 : decode cX6_addTo 15 = .ok (.iconst 0, 1) := by decide +kernel
theorem dX6_addTo_16 : decode cX6_addTo 16 = .ok (.istore 7, 2) := by decide +kernel
theorem dX6_addTo_18 : decode cX6_addTo 18 = .ok (.iload 7, 2) := by decide +kernel
theorem dX6_addTo_20 : decode cX6_addTo 20 = .ok (.iload_n 3, 1) := by decide +kernel
theorem dX6_addTo_21 : decode cX6_addTo 21 = .ok (.if_icmp .ge 27, 3) := by decide +kernel
theorem dX6_addTo_24 : decode cX6_addTo 24 = .ok (.ldc2_w 44, 3) := by decide +kernel
theorem dX6_addTo_27 : decode cX6_addTo 27 = .ok (.lload 4, 2) := by decide +kernel
theorem dX6_addTo_29 : decode cX6_addTo 29 = .ok (.lmul, 1) := by decide +kernel
theorem dX6_addTo_30 : decode cX6_addTo 30 = .ok (.aload_n 0, 1) := by decide +kernel
theorem dX6_addTo_31 : decode cX6_addTo 31 = .ok (.iload 6, 2) := by decide +kernel
theorem dX6_addTo_33 : decode cX6_addTo 33 = .ok (.iload 7, 2) := by decide +kernel
theorem dX6_addTo_35 : decode cX6_addTo 35 = .ok (.invokevirtual 46, 3) := by decide +kernel
theorem dX6_addTo_38 : decode cX6_addTo 38 = .ok (.i2l, 1) := by decide +kernel
theorem dX6_addTo_39 : decode cX6_addTo 39 = .ok (.ladd, 1) := by decide +kernel
theorem dX6_addTo_40 : decode cX6_addTo 40 = .ok (.lstore 4, 2) := by decide +kernel
theorem dX6_addTo_42 : decode cX6_addTo 42 = .ok (.iinc 7 1, 3) := by decide +kernel
theorem dX6_addTo_45 : decode cX6_addTo 45 = .ok (.goto (-27), 3) := by decide +kernel
theorem dX6_addTo_48 : decode cX6_addTo 48 = .ok (.iinc 6 1, 3) := by decide +kernel
theorem dX6_addTo_51 : decode cX6_addTo 51 = .ok (.goto (-45), 3) := by decide +kernel
theorem dX6_addTo_54 : decode cX6_addTo 54 = .ok (.lload 4, 2) := by decide +kernel
theorem dX6_addTo_56 : decode cX6_addTo 56 = .ok (.lreturn, 1) := by decide +kernel
theorem dX7_init_0 : decode cX7_init 0 = .ok (.aload_n 0, 1) := by decide +kernel
theorem dX7_init_1 : decode cX7_init 1 = .ok (.invokespecial 3, 3) := by decide +kernel
theorem dX7_init_4 : decode cX7_init 4 = .ok (.aload_n 0, 1) := by decide +kernel
theorem dX7_init_5 : decode cX7_init 5 = .ok (.iconst 0, 1) := by decide +kernel
theorem dX7_init_6 : decode cX7_init 6 = .ok (.newarray .byte, 2) := by decide +kernel
theorem dX7_init_8 : decode cX7_init 8 = .ok (.putfield 9, 3) := by decide +kernel
theorem dX7_init_11 : decode cX7_init 11 = .ok (.return_, 1) := by decide +kernel
theorem dX7_begin_0 : decode cX7_begin 0 = .ok (.aload_n 0, 1) := by decide +kernel
theorem dX7_begin_1 : decode cX7_begin 1 = .ok (.aload_n 1, 1) := by decide +kernel
theorem dX7_begin_2 : decode cX7_begin 2 = .ok (.putfield 9, 3) := by decide +kernel
theorem dX7_begin_5 : decode cX7_begin 5 = .ok (.aload_n 0, 1) := by decide +kernel
theorem dX7_begin_6 : decode cX7_begin 6 = .ok (.iload_n 2, 1) := by decide +kernel
theorem dX7_begin_7 : decode cX7_begin 7 = .ok (.aload_n 1, 1) := by decide +kernel
theorem dX7_begin_8 : decode cX7_begin 8 = .ok (.arraylength, 1) := by decide +kernel
theorem dX7_begin_9 : decode cX7_begin 9 = .ok (.invokestatic 15, 3) := by decide +kernel
theorem dX7_begin_12 : decode cX7_begin 12 = .ok (.putfield 21, 3) := by decide +kernel
theorem dX7_begin_15 : decode cX7_begin 15 = .ok (.aload_n 0, 1) := by decide +kernel
theorem dX7_begin_16 : decode cX7_begin 16 = .ok (.iconst 0, 1) := by decide +kernel
theorem dX7_begin_17 : decode cX7_begin 17 = .ok (.putfield 25, 3) := by decide +kernel
theorem dX7_begin_20 : decode cX7_begin 20 = .ok (.aload_n 0, 1) := by decide +kernel
theorem dX7_begin_21 : decode cX7_begin 21 = .ok (.invokevirtual 28, 3) := by decide +kernel
theorem dX7_begin_24 : decode cX7_begin 24 = .ok (.return_, 1) := by decide +kernel
theorem dX7_advance_0 : decode cX7_advance 0 = .ok (.aload_n 0, 1) := by decide +kernel
theorem dX7_advance_1 : decode cX7_advance 1 = .ok (.aload_n 0, 1) := by decide +kernel
theorem dX7_advance_2 : decode cX7_advance 2 = .ok (.getfield 25, 3) := by decide +kernel
theorem dX7_advance_5 : decode cX7_advance 5 = .ok (.putfield 31, 3) := by decide +kernel
theorem dX7_advance_8 : decode cX7_advance 8 = .ok (.aload_n 0, 1) := by decide +kernel
theorem dX7_advance_9 : decode cX7_advance 9 = .ok (.getfield 31, 3) := by decide +kernel
theorem dX7_advance_12 : decode cX7_advance 12 = .ok (.aload_n 0, 1) := by decide +kernel
theorem dX7_advance_13 : decode cX7_advance 13 = .ok (.getfield 21, 3) := by decide +kernel
theorem dX7_advance_16 : decode cX7_advance 16 = .ok (.if_icmp .ge 30, 3) := by decide +kernel
theorem dX7_advance_19 : decode cX7_advance 19 = .ok (.aload_n 0, 1) := by decide +kernel
theorem dX7_advance_20 : decode cX7_advance 20 = .ok (.getfield 9, 3) := by decide +kernel
theorem dX7_advance_23 : decode cX7_advance 23 = .ok (.aload_n 0, 1) := by decide +kernel
theorem dX7_advance_24 : decode cX7_advance 24 = .ok (.getfield 31, 3) := by decide +kernel
theorem dX7_advance_27 : decode cX7_advance 27 = .ok (.baload, 1) := by decide +kernel
theorem dX7_advance_28 : decode cX7_advance 28 = .ok (.bipush 32, 2) := by decide +kernel
theorem dX7_advance_30 : decode cX7_advance 30 = .ok (.if_icmp .ne 16, 3) := by decide +kernel
theorem dX7_advance_33 : decode cX7_advance 33 = .ok (.aload_n 0, 1) := by decide +kernel
theorem dX7_advance_34 : decode cX7_advance 34 = .ok (.dup, 1) := by decide +kernel
theorem dX7_advance_35 : decode cX7_advance 35 = .ok (.getfield 31, 3) := by decide +kernel
theorem dX7_advance_38 : decode cX7_advance 38 = .ok (.iconst 1, 1) := by decide +kernel
theorem dX7_advance_39 : decode cX7_advance 39 = .ok (.iadd, 1) := by decide +kernel
theorem dX7_advance_40 : decode cX7_advance 40 = .ok (.putfield 31, 3) := by decide +kernel
theorem dX7_advance_43 : decode cX7_advance 43 = .ok (.goto (-35), 3) := by decide +kernel
theorem dX7_advance_46 : decode cX7_advance 46 = .ok (.aload_n 0, 1) := by decide +kernel
theorem dX7_advance_47 : decode cX7_advance 47 = .ok (.aload_n 0, 1) := by decide +kernel
theorem dX7_advance_48 : decode cX7_advance 48 = .ok (.getfield 31, 3) := by decide +kernel
theorem dX7_advance_51 : decode cX7_advance 51 = .ok (.putfield 25, 3) := by decide +kernel
theorem dX7_advance_54 : decode cX7_advance 54 = .ok (.aload_n 0, 1) := by decide +kernel
theorem dX7_advance_55 : decode cX7_advance 55 = .ok (.iconst 0, 1) := by decide +kernel
theorem dX7_advance_56 : decode cX7_advance 56 = .ok (.putfield 34, 3) := by decide +kernel
theorem dX7_advance_59 : decode cX7_advance 59 = .ok (.aload_n 0, 1) := by decide +kernel
theorem dX7_advance_60 : decode cX7_advance 60 = .ok (.getfield 25, 3) := by decide +kernel
theorem dX7_advance_63 : decode cX7_advance 63 = .ok (.aload_n 0, 1) := by decide +kernel
theorem dX7_advance_64 : decode cX7_advance 64 = .ok (.getfield 21, 3) := by decide +kernel
theorem dX7_advance_67 : decode cX7_advance 67 = .ok (.if_icmp .ge 44, 3) := by decide +kernel
theorem dX7_advance_70 : decode cX7_advance 70 = .ok (.aload_n 0, 1) := by decide +kernel
theorem dX7_advance_71 : decode cX7_advance 71 = .ok (.getfield 9, 3) := by decide +kernel
theorem dX7_advance_74 : decode cX7_advance 74 = .ok (.aload_n 0, 1) := by decide +kernel
theorem dX7_advance_75 : decode cX7_advance 75 = .ok (.getfield 25, 3) := by decide +kernel
theorem dX7_advance_78 : decode cX7_advance 78 = .ok (.baload, 1) := by decide +kernel
theorem dX7_advance_79 : decode cX7_advance 79 = .ok (.bipush 97, 2) := by decide +kernel
theorem dX7_advance_81 : decode cX7_advance 81 = .ok (.if_icmp .lt 30, 3) := by decide +kernel
theorem dX7_advance_84 : decode cX7_advance 84 = .ok (.aload_n 0, 1) := by decide +kernel
theorem dX7_advance_85 : decode cX7_advance 85 = .ok (.getfield 9, 3) := by decide +kernel
theorem dX7_advance_88 : decode cX7_advance 88 = .ok (.aload_n 0, 1) := by decide +kernel
theorem dX7_advance_89 : decode cX7_advance 89 = .ok (.getfield 25, 3) := by decide +kernel
theorem dX7_advance_92 : decode cX7_advance 92 = .ok (.baload, 1) := by decide +kernel
theorem dX7_advance_93 : decode cX7_advance 93 = .ok (.bipush 122, 2) := by decide +kernel
theorem dX7_advance_95 : decode cX7_advance 95 = .ok (.if_icmp .gt 16, 3) := by decide +kernel
theorem dX7_advance_98 : decode cX7_advance 98 = .ok (.aload_n 0, 1) := by decide +kernel
theorem dX7_advance_99 : decode cX7_advance 99 = .ok (.dup, 1) := by decide +kernel
theorem dX7_advance_100 : decode cX7_advance 100 = .ok (.getfield 25, 3) := by decide +kernel
theorem dX7_advance_103 : decode cX7_advance 103 = .ok (.iconst 1, 1) := by decide +kernel
theorem dX7_advance_104 : decode cX7_advance 104 = .ok (.iadd, 1) := by decide +kernel
theorem dX7_advance_105 : decode cX7_advance 105 = .ok (.putfield 25, 3) := by decide +kernel
theorem dX7_advance_108 : decode cX7_advance 108 = .ok (.goto (-49), 3) := by decide +kernel
theorem dX7_advance_111 : decode cX7_advance 111 = .ok (.aload_n 0, 1) := by decide +kernel
theorem dX7_advance_112 : decode cX7_advance 112 = .ok (.getfield 25, 3) := by decide +kernel
theorem dX7_advance_115 : decode cX7_advance 115 = .ok (.aload_n 0, 1) := by decide +kernel
theorem dX7_advance_116 : decode cX7_advance 116 = .ok (.getfield 31, 3) := by decide +kernel
theorem dX7_advance_119 : decode cX7_advance 119 = .ok (.if_icmp .le 9, 3) := by decide +kernel
theorem dX7_advance_122 : decode cX7_advance 122 = .ok (.aload_n 0, 1) := by decide +kernel
theorem dX7_advance_123 : decode cX7_advance 123 = .ok (.iconst 1, 1) := by decide +kernel
theorem dX7_advance_124 : decode cX7_advance 124 = .ok (.putfield 37, 3) := by decide +kernel
theorem dX7_advance_127 : decode cX7_advance 127 = .ok (.return_, 1) := by decide +kernel
theorem dX7_advance_128 : decode cX7_advance 128 = .ok (.aload_n 0, 1) := by decide +kernel
theorem dX7_advance_129 : decode cX7_advance 129 = .ok (.getfield 25, 3) := by decide +kernel
theorem dX7_advance_132 : decode cX7_advance 132 = .ok (.aload_n 0, 1) := by decide +kernel
theorem dX7_advance_133 : decode cX7_advance 133 = .ok (.getfield 21, 3) := by decide +kernel
theorem dX7_advance_136 : decode cX7_advance 136 = .ok (.if_icmp .ge 85, 3) := by decide +kernel
theorem dX7_advance_139 : decode cX7_advance 139 = .ok (.aload_n 0, 1) := by decide +kernel
theorem dX7_advance_140 : decode cX7_advance 140 = .ok (.getfield 9, 3) := by decide +kernel
theorem dX7_advance_143 : decode cX7_advance 143 = .ok (.aload_n 0, 1) := by decide +kernel
theorem dX7_advance_144 : decode cX7_advance 144 = .ok (.getfield 25, 3) := by decide +kernel
theorem dX7_advance_147 : decode cX7_advance 147 = .ok (.baload, 1) := by decide +kernel
theorem dX7_advance_148 : decode cX7_advance 148 = .ok (.bipush 48, 2) := by decide +kernel
theorem dX7_advance_150 : decode cX7_advance 150 = .ok (.if_icmp .lt 71, 3) := by decide +kernel
theorem dX7_advance_153 : decode cX7_advance 153 = .ok (.aload_n 0, 1) := by decide +kernel
theorem dX7_advance_154 : decode cX7_advance 154 = .ok (.getfield 9, 3) := by decide +kernel
theorem dX7_advance_157 : decode cX7_advance 157 = .ok (.aload_n 0, 1) := by decide +kernel
theorem dX7_advance_158 : decode cX7_advance 158 = .ok (.getfield 25, 3) := by decide +kernel
theorem dX7_advance_161 : decode cX7_advance 161 = .ok (.baload, 1) := by decide +kernel
theorem dX7_advance_162 : decode cX7_advance 162 = .ok (.bipush 57, 2) := by decide +kernel
theorem dX7_advance_164 : decode cX7_advance 164 = .ok (.if_icmp .gt 57, 3) := by decide +kernel
theorem dX7_advance_167 : decode cX7_advance 167 = .ok (.aload_n 0, 1) := by decide +kernel
theorem dX7_advance_168 : decode cX7_advance 168 = .ok (.aload_n 0, 1) := by decide +kernel
theorem dX7_advance_169 : decode cX7_advance 169 = .ok (.getfield 34, 3) := by decide +kernel
theorem dX7_advance_172 : decode cX7_advance 172 = .ok (.sipush 9999, 3) := by decide +kernel
theorem dX7_advance_175 : decode cX7_advance 175 = .ok (.if_icmp .le 10, 3) := by decide +kernel
theorem dX7_advance_178 : decode cX7_advance 178 = .ok (.aload_n 0, 1) := by decide +kernel
theorem dX7_advance_179 : decode cX7_advance 179 = .ok (.getfield 34, 3) := by decide +kernel
theorem dX7_advance_182 : decode cX7_advance 182 = .ok (.goto 23, 3) := by decide +kernel
theorem dX7_advance_185 : decode cX7_advance 185 = .ok (.bipush 10, 2) := by decide +kernel
theorem dX7_advance_187 : decode cX7_advance 187 = .ok (.aload_n 0, 1) := by decide +kernel
theorem dX7_advance_188 : decode cX7_advance 188 = .ok (.getfield 34, 3) := by decide +kernel
theorem dX7_advance_191 : decode cX7_advance 191 = .ok (.imul, 1) := by decide +kernel
theorem dX7_advance_192 : decode cX7_advance 192 = .ok (.aload_n 0, 1) := by decide +kernel
theorem dX7_advance_193 : decode cX7_advance 193 = .ok (.getfield 9, 3) := by decide +kernel
theorem dX7_advance_196 : decode cX7_advance 196 = .ok (.aload_n 0, 1) := by decide +kernel
theorem dX7_advance_197 : decode cX7_advance 197 = .ok (.getfield 25, 3) := by decide +kernel
theorem dX7_advance_200 : decode cX7_advance 200 = .ok (.baload, 1) := by decide +kernel
theorem dX7_advance_201 : decode cX7_advance 201 = .ok (.iadd, 1) := by decide +kernel
theorem dX7_advance_202 : decode cX7_advance 202 = .ok (.bipush 48, 2) := by decide +kernel
theorem dX7_advance_204 : decode cX7_advance 204 = .ok (.isub, 1) := by decide +kernel
theorem dX7_advance_205 : decode cX7_advance 205 = .ok (.putfield 34, 3) := by decide +kernel
theorem dX7_advance_208 : decode cX7_advance 208 = .ok (.aload_n 0, 1) := by decide +kernel
theorem dX7_advance_209 : decode cX7_advance 209 = .ok (.dup, 1) := by decide +kernel
theorem dX7_advance_210 : decode cX7_advance 210 = .ok (.getfield 25, 3) := by decide +kernel
theorem dX7_advance_213 : decode cX7_advance 213 = .ok (.iconst 1, 1) := by decide +kernel
theorem dX7_advance_214 : decode cX7_advance 214 = .ok (.iadd, 1) := by decide +kernel
theorem dX7_advance_215 : decode cX7_advance 215 = .ok (.putfield 25, 3) := by decide +kernel
theorem dX7_advance_218 : decode cX7_advance 218 = .ok (.goto (-90), 3) := by decide +kernel
theorem dX7_advance_221 : decode cX7_advance 221 = .ok (.aload_n 0, 1) := by decide +kernel
theorem dX7_advance_222 : decode cX7_advance 222 = .ok (.getfield 25, 3) := by decide +kernel
theorem dX7_advance_225 : decode cX7_advance 225 = .ok (.aload_n 0, 1) := by decide +kernel
theorem dX7_advance_226 : decode cX7_advance 226 = .ok (.getfield 31, 3) := by decide +kernel
theorem dX7_advance_229 : decode cX7_advance 229 = .ok (.if_icmp .le 9, 3) := by decide +kernel
theorem dX7_advance_232 : decode cX7_advance 232 = .ok (.aload_n 0, 1) := by decide +kernel
theorem dX7_advance_233 : decode cX7_advance 233 = .ok (.iconst 2, 1) := by decide +kernel
theorem dX7_advance_234 : decode cX7_advance 234 = .ok (.putfield 37, 3) := by decide +kernel
theorem dX7_advance_237 : decode cX7_advance 237 = .ok (.return_, 1) := by decide +kernel
theorem dX7_advance_238 : decode cX7_advance 238 = .ok (.aload_n 0, 1) := by decide +kernel
theorem dX7_advance_239 : decode cX7_advance 239 = .ok (.aload_n 0, 1) := by decide +kernel
theorem dX7_advance_240 : decode cX7_advance 240 = .ok (.getfield 31, 3) := by decide +kernel
theorem dX7_advance_243 : decode cX7_advance 243 = .ok (.aload_n 0, 1) := by decide +kernel
theorem dX7_advance_244 : decode cX7_advance 244 = .ok (.getfield 21, 3) := by decide +kernel
theorem dX7_advance_247 : decode cX7_advance 247 = .ok (.if_icmp .ge 7, 3) := by decide +kernel
theorem dX7_advance_250 : decode cX7_advance 250 = .ok (.iconst 3, 1) := by decide +kernel
theorem dX7_advance_251 : decode cX7_advance 251 = .ok (.goto 4, 3) := by decide +kernel
theorem dX7_advance_254 : decode cX7_advance 254 = .ok (.iconst 0, 1) := by decide +kernel
theorem dX7_advance_255 : decode cX7_advance 255 = .ok (.putfield 37, 3) := by decide +kernel
theorem dX7_advance_258 : decode cX7_advance 258 = .ok (.aload_n 0, 1) := by decide +kernel
theorem dX7_advance_259 : decode cX7_advance 259 = .ok (.aload_n 0, 1) := by decide +kernel
theorem dX7_advance_260 : decode cX7_advance 260 = .ok (.getfield 31, 3) := by decide +kernel
theorem dX7_advance_263 : decode cX7_advance 263 = .ok (.iconst 1, 1) := by decide +kernel
theorem dX7_advance_264 : decode cX7_advance 264 = .ok (.iadd, 1) := by decide +kernel
theorem dX7_advance_265 : decode cX7_advance 265 = .ok (.aload_n 0, 1) := by decide +kernel
theorem dX7_advance_266 : decode cX7_advance 266 = .ok (.getfield 21, 3) := by decide +kernel
theorem dX7_advance_269 : decode cX7_advance 269 = .ok (.invokestatic 15, 3) := by decide +kernel
theorem dX7_advance_272 : decode cX7_advance 272 = .ok (.putfield 25, 3) := by decide +kernel
theorem dX7_advance_275 : decode cX7_advance 275 = .ok (.return_, 1) := by decide +kernel
theorem dX7_isWord_0 : decode cX7_isWord 0 = .ok (.aload_n 0, 1) := by decide +kernel
theorem dX7_isWord_1 : decode cX7_isWord 1 = .ok (.getfield 37, 3) := by decide +kernel
theorem dX7_isWord_4 : decode cX7_isWord 4 = .ok (.iconst 1, 1) := by decide +kernel
theorem dX7_isWord_5 : decode cX7_isWord 5 = .ok (.if_icmp .ne 19, 3) := by decide +kernel
theorem dX7_isWord_8 : decode cX7_isWord 8 = .ok (.aload_n 0, 1) := by decide +kernel
theorem dX7_isWord_9 : decode cX7_isWord 9 = .ok (.getfield 25, 3) := by decide +kernel
theorem dX7_isWord_12 : decode cX7_isWord 12 = .ok (.aload_n 0, 1) := by decide +kernel
theorem dX7_isWord_13 : decode cX7_isWord 13 = .ok (.getfield 31, 3) := by decide +kernel
theorem dX7_isWord_16 : decode cX7_isWord 16 = .ok (.isub, 1) := by decide +kernel
theorem dX7_isWord_17 : decode cX7_isWord 17 = .ok (.aload_n 1, 1) := by decide +kernel
theorem dX7_isWord_18 : decode cX7_isWord 18 = .ok (.invokevirtual 40, 3) := by decide +kernel
theorem dX7_isWord_21 : decode cX7_isWord 21 = .ok (.if_icmp .eq 5, 3) := by decide +kernel
theorem dX7_isWord_24 : decode cX7_isWord 24 = .ok (.iconst 0, 1) := by decide +kernel
theorem dX7_isWord_25 : decode cX7_isWord 25 = .ok (.ireturn, 1) := by decide +kernel
theorem dX7_isWord_26 : decode cX7_isWord 26 = .ok (.iconst 0, 1) := by decide +kernel
theorem dX7_isWord_27 : decode cX7_isWord 27 = .ok (.istore_n 2, 1) := by decide +kernel
theorem dX7_isWord_28 : decode cX7_isWord 28 = .ok (.iload_n 2, 1) := by decide +kernel
theorem dX7_isWord_29 : decode cX7_isWord 29 = .ok (.aload_n 1, 1) := by decide +kernel
theorem dX7_isWord_30 : decode cX7_isWord 30 = .ok (.invokevirtual 40, 3) := by decide +kernel
theorem dX7_isWord_33 : decode cX7_isWord 33 = .ok (.if_icmp .ge 30, 3) := by decide +kernel
theorem dX7_isWord_36 : decode cX7_isWord 36 = .ok (.aload_n 0, 1) := by decide +kernel
theorem dX7_isWord_37 : decode cX7_isWord 37 = .ok (.getfield 9, 3) := by decide +kernel
theorem dX7_isWord_40 : decode cX7_isWord 40 = .ok (.aload_n 0, 1) := by decide +kernel
theorem dX7_isWord_41 : decode cX7_isWord 41 = .ok (.getfield 31, 3) := by decide +kernel
theorem dX7_isWord_44 : decode cX7_isWord 44 = .ok (.iload_n 2, 1) := by decide +kernel
theorem dX7_isWord_45 : decode cX7_isWord 45 = .ok (.iadd, 1) := by decide +kernel
theorem dX7_isWord_46 : decode cX7_isWord 46 = .ok (.baload, 1) := by decide +kernel
theorem dX7_isWord_47 : decode cX7_isWord 47 = .ok (.aload_n 1, 1) := by decide +kernel
theorem dX7_isWord_48 : decode cX7_isWord 48 = .ok (.iload_n 2, 1) := by decide +kernel
theorem dX7_isWord_49 : decode cX7_isWord 49 = .ok (.invokevirtual 45, 3) := by decide +kernel
theorem dX7_isWord_52 : decode cX7_isWord 52 = .ok (.if_icmp .eq 5, 3) := by decide +kernel
theorem dX7_isWord_55 : decode cX7_isWord 55 = .ok (.iconst 0, 1) := by decide +kernel
theorem dX7_isWord_56 : decode cX7_isWord 56 = .ok (.ireturn, 1) := by decide +kernel
theorem dX7_isWord_57 : decode cX7_isWord 57 = .ok (.iinc 2 1, 3) := by decide +kernel
theorem dX7_isWord_60 : decode cX7_isWord 60 = .ok (.goto (-32), 3) := by decide +kernel
theorem dX7_isWord_63 : decode cX7_isWord 63 = .ok (.iconst 1, 1) := by decide +kernel
theorem dX7_isWord_64 : decode cX7_isWord 64 = .ok (.ireturn, 1) := by decide +kernel
theorem dX7_isSign_0 : decode cX7_isSign 0 = .ok (.aload_n 0, 1) := by decide +kernel
theorem dX7_isSign_1 : decode cX7_isSign 1 = .ok (.getfield 37, 3) := by decide +kernel
theorem dX7_isSign_4 : decode cX7_isSign 4 = .ok (.iconst 3, 1) := by decide +kernel
theorem dX7_isSign_5 : decode cX7_isSign 5 = .ok (.if_icmp .ne 31, 3) := by decide +kernel
theorem dX7_isSign_8 : decode cX7_isSign 8 = .ok (.aload_n 0, 1) := by decide +kernel
theorem dX7_isSign_9 : decode cX7_isSign 9 = .ok (.getfield 31, 3) := by decide +kernel
theorem dX7_isSign_12 : decode cX7_isSign 12 = .ok (.aload_n 0, 1) := by decide +kernel
theorem dX7_isSign_13 : decode cX7_isSign 13 = .ok (.getfield 21, 3) := by decide +kernel
theorem dX7_isSign_16 : decode cX7_isSign 16 = .ok (.if_icmp .ge 20, 3) := by decide +kernel
theorem dX7_isSign_19 : decode cX7_isSign 19 = .ok (.aload_n 0, 1) := by decide +kernel
theorem dX7_isSign_20 : decode cX7_isSign 20 = .ok (.getfield 9, 3) := by decide +kernel
theorem dX7_isSign_23 : decode cX7_isSign 23 = .ok (.aload_n 0, 1) := by decide +kernel
theorem dX7_isSign_24 : decode cX7_isSign 24 = .ok (.getfield 31, 3) := by decide +kernel
theorem dX7_isSign_27 : decode cX7_isSign 27 = .ok (.baload, 1) := by decide +kernel
theorem dX7_isSign_28 : decode cX7_isSign 28 = .ok (.iload_n 1, 1) := by decide +kernel
theorem dX7_isSign_29 : decode cX7_isSign 29 = .ok (.if_icmp .ne 7, 3) := by decide +kernel
theorem dX7_isSign_32 : decode cX7_isSign 32 = .ok (.iconst 1, 1) := by decide +kernel
theorem dX7_isSign_33 : decode cX7_isSign 33 = .ok (.goto 4, 3) := by decide +kernel
theorem dX7_isSign_36 : decode cX7_isSign 36 = .ok (.iconst 0, 1) := by decide +kernel
theorem dX7_isSign_37 : decode cX7_isSign 37 = .ok (.ireturn, 1) := by decide +kernel
theorem dX8_init_0 : decode cX8_init 0 = .ok (.aload_n 0, 1) := by decide +kernel
theorem dX8_init_1 : decode cX8_init 1 = .ok (.invokespecial 1, 3) := by decide +kernel
theorem dX8_init_4 : decode cX8_init 4 = .ok (.aload_n 0, 1) := by decide +kernel
theorem dX8_init_5 : decode cX8_init 5 = .ok (.sipush 800, 3) := by decide +kernel
theorem dX8_init_8 : decode cX8_init 8 = .ok (.newarray .byte, 2) := by decide +kernel
theorem dX8_init_10 : decode cX8_init 10 = .ok (.putfield 9, 3) := by decide +kernel
theorem dX8_init_13 : decode cX8_init 13 = .ok (.aload_n 0, 1) := by decide +kernel
theorem dX8_init_14 : decode cX8_init 14 = .ok (.iconst 0, 1) := by decide +kernel
theorem dX8_init_15 : decode cX8_init 15 = .ok (.putfield 13, 3) := by decide +kernel
theorem dX8_init_18 : decode cX8_init 18 = .ok (.aload_n 0, 1) := by decide +kernel
theorem dX8_init_19 : decode cX8_init 19 = .ok (.iconst (-1), 1) := by decide +kernel
theorem dX8_init_20 : decode cX8_init 20 = .ok (.putfield 17, 3) := by decide +kernel
theorem dX8_init_23 : decode cX8_init 23 = .ok (.aload_n 0, 1) := by decide +kernel
theorem dX8_init_24 : decode cX8_init 24 = .ok (.new 20, 3) := by decide +kernel
theorem dX8_init_27 : decode cX8_init 27 = .ok (.dup, 1) := by decide +kernel
theorem dX8_init_28 : decode cX8_init 28 = .ok (.invokespecial 22, 3) := by decide +kernel
theorem dX8_init_31 : decode cX8_init 31 = .ok (.putfield 23, 3) := by decide +kernel
theorem dX8_init_34 : decode cX8_init 34 = .ok (.aload_n 0, 1) := by decide +kernel
theorem dX8_init_35 : decode cX8_init 35 = .ok (.new 27, 3) := by decide +kernel
theorem dX8_init_38 : decode cX8_init 38 = .ok (.dup, 1) := by decide +kernel
theorem dX8_init_39 : decode cX8_init 39 = .ok (.invokespecial 29, 3) := by decide +kernel
theorem dX8_init_42 : decode cX8_init 42 = .ok (.putfield 30, 3) := by decide +kernel
theorem dX8_init_45 : decode cX8_init 45 = .ok (.aload_n 0, 1) := by decide +kernel
theorem dX8_init_46 : decode cX8_init 46 = .ok (.new 34, 3) := by decide +kernel
theorem dX8_init_49 : decode cX8_init 49 = .ok (.dup, 1) := by decide +kernel
theorem dX8_init_50 : decode cX8_init 50 = .ok (.invokespecial 36, 3) := by decide +kernel
theorem dX8_init_53 : decode cX8_init 53 = .ok (.putfield 37, 3) := by decide +kernel
theorem dX8_init_56 : decode cX8_init 56 = .ok (.aload_n 0, 1) := by decide +kernel
theorem dX8_init_57 : decode cX8_init 57 = .ok (.new 41, 3) := by decide +kernel
theorem dX8_init_60 : decode cX8_init 60 = .ok (.dup, 1) := by decide +kernel
theorem dX8_init_61 : decode cX8_init 61 = .ok (.invokespecial 43, 3) := by decide +kernel
theorem dX8_init_64 : decode cX8_init 64 = .ok (.putfield 44, 3) := by decide +kernel
theorem dX8_init_67 : decode cX8_init 67 = .ok (.return_, 1) := by decide +kernel
theorem dX8_append_0 : decode cX8_append 0 = .ok (.aload_n 0, 1) := by decide +kernel
theorem dX8_append_1 : decode cX8_append 1 = .ok (.getfield 13, 3) := by decide +kernel
theorem dX8_append_4 : decode cX8_append 4 = .ok (.sipush 780, 3) := by decide +kernel
theorem dX8_append_7 : decode cX8_append 7 = .ok (.if_icmp .le 5, 3) := by decide +kernel
theorem dX8_append_10 : decode cX8_append 10 = .ok (.iconst (-1), 1) := by decide +kernel
theorem dX8_append_11 : decode cX8_append 11 = .ok (.ireturn, 1) := by decide +kernel
theorem dX8_append_12 : decode cX8_append 12 = .ok (.aload_n 0, 1) := by decide +kernel
theorem dX8_append_13 : decode cX8_append 13 = .ok (.iload_n 1, 1) := by decide +kernel
theorem dX8_append_14 : decode cX8_append 14 = .ok (.invokevirtual 48, 3) := by decide +kernel
theorem dX8_append_17 : decode cX8_append 17 = .ok (.aload_n 0, 1) := by decide +kernel
theorem dX8_append_18 : decode cX8_append 18 = .ok (.iload_n 2, 1) := by decide +kernel
theorem dX8_append_19 : decode cX8_append 19 = .ok (.invokevirtual 48, 3) := by decide +kernel
theorem dX8_append_22 : decode cX8_append 22 = .ok (.aload_n 0, 1) := by decide +kernel
theorem dX8_append_23 : decode cX8_append 23 = .ok (.iload_n 3, 1) := by decide +kernel
theorem dX8_append_24 : decode cX8_append 24 = .ok (.invokevirtual 48, 3) := by decide +kernel
theorem dX8_append_27 : decode cX8_append 27 = .ok (.aload_n 0, 1) := by decide +kernel
theorem dX8_append_28 : decode cX8_append 28 = .ok (.iload 4, 2) := by decide +kernel
theorem dX8_append_30 : decode cX8_append 30 = .ok (.invokevirtual 48, 3) := by decide +kernel
theorem dX8_append_33 : decode cX8_append 33 = .ok (.aload_n 0, 1) := by decide +kernel
theorem dX8_append_34 : decode cX8_append 34 = .ok (.iload 5, 2) := by decide +kernel
theorem dX8_append_36 : decode cX8_append 36 = .ok (.invokevirtual 48, 3) := by decide +kernel
theorem dX8_append_39 : decode cX8_append 39 = .ok (.aload_n 0, 1) := by decide +kernel
theorem dX8_append_40 : decode cX8_append 40 = .ok (.getfield 13, 3) := by decide +kernel
theorem dX8_append_43 : decode cX8_append 43 = .ok (.ireturn, 1) := by decide +kernel
theorem dX8_load_0 : decode cX8_load 0 = .ok (.iload_n 1, 1) := by decide +kernel
theorem dX8_load_1 : decode cX8_load 1 = .ok (.ifCond .lt 11, 3) := by decide +kernel
theorem dX8_load_4 : decode cX8_load 4 = .ok (.iload_n 1, 1) := by decide +kernel
theorem dX8_load_5 : decode cX8_load 5 = .ok (.aload_n 0, 1) := by decide +kernel
theorem dX8_load_6 : decode cX8_load 6 = .ok (.getfield 13, 3) := by decide +kernel
theorem dX8_load_9 : decode cX8_load 9 = .ok (.if_icmp .le 13, 3) := by decide +kernel
theorem dX8_load_12 : decode cX8_load 12 = .ok (.new 52, 3) := by decide +kernel
theorem dX8_load_15 : decode cX8_load 15 = .ok (.dup, 1) := by decide +kernel
theorem dX8_load_16 : decode cX8_load 16 = .ok (.ldc 54, 2) := by decide +kernel
theorem dX8_load_18 : decode cX8_load 18 = .ok (.invokespecial 56, 3) := by decide +kernel
theorem dX8_load_21 : decode cX8_load 21 = .ok (.athrow, 1) := by decide +kernel
theorem dX8_load_22 : decode cX8_load 22 = .ok (.aload_n 0, 1) := by decide +kernel
theorem dX8_load_23 : decode cX8_load 23 = .ok (.getfield 23, 3) := by decide +kernel
theorem dX8_load_26 : decode cX8_load 26 = .ok (.aload_n 0, 1) := by decide +kernel
theorem dX8_load_27 : decode cX8_load 27 = .ok (.getfield 9, 3) := by decide +kernel
theorem dX8_load_30 : decode cX8_load 30 = .ok (.iload_n 1, 1) := by decide +kernel
theorem dX8_load_31 : decode cX8_load 31 = .ok (.aload_n 0, 1) := by decide +kernel
theorem dX8_load_32 : decode cX8_load 32 = .ok (.getfield 30, 3) := by decide +kernel
theorem dX8_load_35 : decode cX8_load 35 = .ok (.invokevirtual 59, 3) := by decide +kernel
theorem dX8_load_38 : decode cX8_load 38 = .ok (.istore_n 2, 1) := by decide +kernel
theorem dX8_load_39 : decode cX8_load 39 = .ok (.aload_n 0, 1) := by decide +kernel
theorem dX8_load_40 : decode cX8_load 40 = .ok (.iconst 0, 1) := by decide +kernel
theorem dX8_load_41 : decode cX8_load 41 = .ok (.putfield 13, 3) := by decide +kernel
theorem dX8_load_44 : decode cX8_load 44 = .ok (.aload_n 0, 1) := by decide +kernel
theorem dX8_load_45 : decode cX8_load 45 = .ok (.aload_n 0, 1) := by decide +kernel
theorem dX8_load_46 : decode cX8_load 46 = .ok (.getfield 23, 3) := by decide +kernel
theorem dX8_load_49 : decode cX8_load 49 = .ok (.getfield 63, 3) := by decide +kernel
theorem dX8_load_52 : decode cX8_load 52 = .ok (.putfield 17, 3) := by decide +kernel
theorem dX8_load_55 : decode cX8_load 55 = .ok (.iload_n 2, 1) := by decide +kernel
theorem dX8_load_56 : decode cX8_load 56 = .ok (.ifCond .ne 11, 3) := by decide +kernel
theorem dX8_load_59 : decode cX8_load 59 = .ok (.aload_n 0, 1) := by decide +kernel
theorem dX8_load_60 : decode cX8_load 60 = .ok (.getfield 23, 3) := by decide +kernel
theorem dX8_load_63 : decode cX8_load 63 = .ok (.getfield 66, 3) := by decide +kernel
theorem dX8_load_66 : decode cX8_load 66 = .ok (.ireturn, 1) := by decide +kernel
theorem dX8_load_67 : decode cX8_load 67 = .ok (.aload_n 0, 1) := by decide +kernel
theorem dX8_load_68 : decode cX8_load 68 = .ok (.getfield 37, 3) := by decide +kernel
theorem dX8_load_71 : decode cX8_load 71 = .ok (.invokevirtual 69, 3) := by decide +kernel
theorem dX8_load_74 : decode cX8_load 74 = .ok (.astore_n 3, 1) := by decide +kernel
theorem dX8_load_75 : decode cX8_load 75 = .ok (.aload_n 3, 1) := by decide +kernel
theorem dX8_load_76 : decode cX8_load 76 = .ok (.aload_n 0, 1) := by decide +kernel
theorem dX8_load_77 : decode cX8_load 77 = .ok (.getfield 30, 3) := by decide +kernel
theorem dX8_load_80 : decode cX8_load 80 = .ok (.invokevirtual 73, 3) := by decide +kernel
theorem dX8_load_83 : decode cX8_load 83 = .ok (.aload_n 3, 1) := by decide +kernel
theorem dX8_load_84 : decode cX8_load 84 = .ok (.getfield 77, 3) := by decide +kernel
theorem dX8_load_87 : decode cX8_load 87 = .ok (.ireturn, 1) := by decide +kernel
theorem dX8_errorOffset_0 : decode cX8_errorOffset 0 = .ok (.aload_n 0, 1) := by decide +kernel
theorem dX8_errorOffset_1 : decode cX8_errorOffset 1 = .ok (.getfield 17, 3) := by decide +kernel
theorem dX8_errorOffset_4 : decode cX8_errorOffset 4 = .ok (.ireturn, 1) := by decide +kernel
theorem dX8_breaks_0 : decode cX8_breaks 0 = .ok (.aload_n 0, 1) := by decide +kernel
theorem dX8_breaks_1 : decode cX8_breaks 1 = .ok (.getfield 37, 3) := by decide +kernel
theorem dX8_breaks_4 : decode cX8_breaks 4 = .ok (.invokevirtual 80, 3) := by decide +kernel
theorem dX8_breaks_7 : decode cX8_breaks 7 = .ok (.getfield 77, 3) := by decide +kernel
theorem dX8_breaks_10 : decode cX8_breaks 10 = .ok (.ireturn, 1) := by decide +kernel
theorem dX8_sponsors_0 : decode cX8_sponsors 0 = .ok (.aload_n 0, 1) := by decide +kernel
theorem dX8_sponsors_1 : decode cX8_sponsors 1 = .ok (.getfield 37, 3) := by decide +kernel
theorem dX8_sponsors_4 : decode cX8_sponsors 4 = .ok (.invokevirtual 80, 3) := by decide +kernel
theorem dX8_sponsors_7 : decode cX8_sponsors 7 = .ok (.getfield 83, 3) := by decide +kernel
theorem dX8_sponsors_10 : decode cX8_sponsors 10 = .ok (.ireturn, 1) := by decide +kernel
theorem dX8_breakOf_0 : decode cX8_breakOf 0 = .ok (.aload_n 0, 1) := by decide +kernel
theorem dX8_breakOf_1 : decode cX8_breakOf 1 = .ok (.getfield 37, 3) := by decide +kernel
theorem dX8_breakOf_4 : decode cX8_breakOf 4 = .ok (.invokevirtual 80, 3) := by decide +kernel
theorem dX8_breakOf_7 : decode cX8_breakOf 7 = .ok (.astore_n 3, 1) := by decide +kernel
theorem dX8_breakOf_8 : decode cX8_breakOf 8 = .ok (.aload_n 3, 1) := by decide +kernel
theorem dX8_breakOf_9 : decode cX8_breakOf 9 = .ok (.iload_n 1, 1) := by decide +kernel
theorem dX8_breakOf_10 : decode cX8_breakOf 10 = .ok (.invokestatic 86, 3) := by decide +kernel
theorem dX8_breakOf_13 : decode cX8_breakOf 13 = .ok (.iload_n 2, 1) := by decide +kernel
theorem dX8_breakOf_14 : decode cX8_breakOf 14 = .ok (.iconst 0, 1) := by decide +kernel
theorem dX8_breakOf_15 : decode cX8_breakOf 15 = .ok (.bipush 6, 2) := by decide +kernel
theorem dX8_breakOf_17 : decode cX8_breakOf 17 = .ok (.invokestatic 90, 3) := by decide +kernel
theorem dX8_breakOf_20 : decode cX8_breakOf 20 = .ok (.aload_n 3, 1) := by decide +kernel
theorem dX8_breakOf_21 : decode cX8_breakOf 21 = .ok (.getfield 94, 3) := by decide +kernel
theorem dX8_breakOf_24 : decode cX8_breakOf 24 = .ok (.iload_n 1, 1) := by decide +kernel
theorem dX8_breakOf_25 : decode cX8_breakOf 25 = .ok (.aaload, 1) := by decide +kernel
theorem dX8_breakOf_26 : decode cX8_breakOf 26 = .ok (.astore 4, 2) := by decide +kernel
theorem dX8_breakOf_28 : decode cX8_breakOf 28 = .ok (.iload_n 2, 1) := by decide +kernel
theorem dX8_breakOf_29 : decode cX8_breakOf 29 = .ok (.tableswitch 78 0 5 #[39, 45, 51, 57, 63, 69], 39) := by decide +kernel
theorem dX8_breakOf_68 : decode cX8_breakOf 68 = .ok (.aload 4, 2) := by decide +kernel
theorem dX8_breakOf_70 : decode cX8_breakOf 70 = .ok (.getfield 98, 3) := by decide +kernel
theorem dX8_breakOf_73 : decode cX8_breakOf 73 = .ok (.ireturn, 1) := by decide +kernel
theorem dX8_breakOf_74 : decode cX8_breakOf 74 = .ok (.aload 4, 2) := by decide +kernel
theorem dX8_breakOf_76 : decode cX8_breakOf 76 = .ok (.getfield 103, 3) := by decide +kernel
theorem dX8_breakOf_79 : decode cX8_breakOf 79 = .ok (.ireturn, 1) := by decide +kernel
theorem dX8_breakOf_80 : decode cX8_breakOf 80 = .ok (.aload 4, 2) := by decide +kernel
theorem dX8_breakOf_82 : decode cX8_breakOf 82 = .ok (.getfield 106, 3) := by decide +kernel
theorem dX8_breakOf_85 : decode cX8_breakOf 85 = .ok (.ireturn, 1) := by decide +kernel
theorem dX8_breakOf_86 : decode cX8_breakOf 86 = .ok (.aload 4, 2) := by decide +kernel
theorem dX8_breakOf_88 : decode cX8_breakOf 88 = .ok (.getfield 108, 3) := by decide +kernel
end
section
theorem dX8_breakOf_91 : decode cX8_breakOf 91 = .ok (.ireturn, 1) := by decide +kernel
theorem dX8_breakOf_92 : decode cX8_breakOf 92 = .ok (.aload 4, 2) := by decide +kernel
theorem dX8_breakOf_94 : decode cX8_breakOf 94 = .ok (.getfield 111, 3) := by decide +kernel
theorem dX8_breakOf_97 : decode cX8_breakOf 97 = .ok (.ireturn, 1) := by decide +kernel
theorem dX8_breakOf_98 : decode cX8_breakOf 98 = .ok (.aload 4, 2) := by decide +kernel
theorem dX8_breakOf_100 : decode cX8_breakOf 100 = .ok (.getfield 114, 3) := by decide +kernel
theorem dX8_breakOf_103 : decode cX8_breakOf 103 = .ok (.getfield 118, 3) := by decide +kernel
theorem dX8_breakOf_106 : decode cX8_breakOf 106 = .ok (.ireturn, 1) := by decide +kernel
theorem dX8_breakOf_107 : decode cX8_breakOf 107 = .ok (.aload 4, 2) := by decide +kernel
theorem dX8_breakOf_109 : decode cX8_breakOf 109 = .ok (.getfield 114, 3) := by decide +kernel
theorem dX8_breakOf_112 : decode cX8_breakOf 112 = .ok (.invokevirtual 123, 3) := by decide +kernel
theorem dX8_breakOf_115 : decode cX8_breakOf 115 = .ok (.ireturn, 1) := by decide +kernel
theorem dX8_spot_0 : decode cX8_spot 0 = .ok (.aload_n 0, 1) := by decide +kernel
theorem dX8_spot_1 : decode cX8_spot 1 = .ok (.getfield 37, 3) := by decide +kernel
theorem dX8_spot_4 : decode cX8_spot 4 = .ok (.invokevirtual 80, 3) := by decide +kernel
theorem dX8_spot_7 : decode cX8_spot 7 = .ok (.astore 4, 2) := by decide +kernel
theorem dX8_spot_9 : decode cX8_spot 9 = .ok (.aload 4, 2) := by decide +kernel
theorem dX8_spot_11 : decode cX8_spot 11 = .ok (.iload_n 1, 1) := by decide +kernel
theorem dX8_spot_12 : decode cX8_spot 12 = .ok (.invokestatic 86, 3) := by decide +kernel
theorem dX8_spot_15 : decode cX8_spot 15 = .ok (.aload 4, 2) := by decide +kernel
theorem dX8_spot_17 : decode cX8_spot 17 = .ok (.getfield 94, 3) := by decide +kernel
theorem dX8_spot_20 : decode cX8_spot 20 = .ok (.iload_n 1, 1) := by decide +kernel
theorem dX8_spot_21 : decode cX8_spot 21 = .ok (.aaload, 1) := by decide +kernel
theorem dX8_spot_22 : decode cX8_spot 22 = .ok (.getfield 114, 3) := by decide +kernel
theorem dX8_spot_25 : decode cX8_spot 25 = .ok (.astore 5, 2) := by decide +kernel
theorem dX8_spot_27 : decode cX8_spot 27 = .ok (.aload 5, 2) := by decide +kernel
theorem dX8_spot_29 : decode cX8_spot 29 = .ok (.iload_n 2, 1) := by decide +kernel
theorem dX8_spot_30 : decode cX8_spot 30 = .ok (.invokestatic 127, 3) := by decide +kernel
theorem dX8_spot_33 : decode cX8_spot 33 = .ok (.iload_n 3, 1) := by decide +kernel
theorem dX8_spot_34 : decode cX8_spot 34 = .ok (.iconst 0, 1) := by decide +kernel
theorem dX8_spot_35 : decode cX8_spot 35 = .ok (.iconst 2, 1) := by decide +kernel
theorem dX8_spot_36 : decode cX8_spot 36 = .ok (.invokestatic 90, 3) := by decide +kernel
theorem dX8_spot_39 : decode cX8_spot 39 = .ok (.aload 5, 2) := by decide +kernel
theorem dX8_spot_41 : decode cX8_spot 41 = .ok (.iload_n 2, 1) := by decide +kernel
theorem dX8_spot_42 : decode cX8_spot 42 = .ok (.iload_n 3, 1) := by decide +kernel
theorem dX8_spot_43 : decode cX8_spot 43 = .ok (.invokevirtual 131, 3) := by decide +kernel
theorem dX8_spot_46 : decode cX8_spot 46 = .ok (.ireturn, 1) := by decide +kernel
theorem dX8_sponsor_0 : decode cX8_sponsor 0 = .ok (.aload_n 0, 1) := by decide +kernel
theorem dX8_sponsor_1 : decode cX8_sponsor 1 = .ok (.getfield 37, 3) := by decide +kernel
theorem dX8_sponsor_4 : decode cX8_sponsor 4 = .ok (.invokevirtual 80, 3) := by decide +kernel
theorem dX8_sponsor_7 : decode cX8_sponsor 7 = .ok (.astore_n 3, 1) := by decide +kernel
theorem dX8_sponsor_8 : decode cX8_sponsor 8 = .ok (.aload_n 3, 1) := by decide +kernel
theorem dX8_sponsor_9 : decode cX8_sponsor 9 = .ok (.iload_n 1, 1) := by decide +kernel
theorem dX8_sponsor_10 : decode cX8_sponsor 10 = .ok (.invokestatic 135, 3) := by decide +kernel
theorem dX8_sponsor_13 : decode cX8_sponsor 13 = .ok (.iload_n 2, 1) := by decide +kernel
theorem dX8_sponsor_14 : decode cX8_sponsor 14 = .ok (.iconst 0, 1) := by decide +kernel
theorem dX8_sponsor_15 : decode cX8_sponsor 15 = .ok (.iconst 4, 1) := by decide +kernel
theorem dX8_sponsor_16 : decode cX8_sponsor 16 = .ok (.invokestatic 90, 3) := by decide +kernel
theorem dX8_sponsor_19 : decode cX8_sponsor 19 = .ok (.iload_n 2, 1) := by decide +kernel
theorem dX8_sponsor_20 : decode cX8_sponsor 20 = .ok (.tableswitch 58 0 3 #[32, 39, 46, 52], 32) := by decide +kernel
theorem dX8_sponsor_52 : decode cX8_sponsor 52 = .ok (.aload_n 3, 1) := by decide +kernel
theorem dX8_sponsor_53 : decode cX8_sponsor 53 = .ok (.getfield 138, 3) := by decide +kernel
theorem dX8_sponsor_56 : decode cX8_sponsor 56 = .ok (.iload_n 1, 1) := by decide +kernel
theorem dX8_sponsor_57 : decode cX8_sponsor 57 = .ok (.iaload, 1) := by decide +kernel
theorem dX8_sponsor_58 : decode cX8_sponsor 58 = .ok (.ireturn, 1) := by decide +kernel
theorem dX8_sponsor_59 : decode cX8_sponsor 59 = .ok (.aload_n 3, 1) := by decide +kernel
theorem dX8_sponsor_60 : decode cX8_sponsor 60 = .ok (.getfield 142, 3) := by decide +kernel
theorem dX8_sponsor_63 : decode cX8_sponsor 63 = .ok (.iload_n 1, 1) := by decide +kernel
theorem dX8_sponsor_64 : decode cX8_sponsor 64 = .ok (.iaload, 1) := by decide +kernel
theorem dX8_sponsor_65 : decode cX8_sponsor 65 = .ok (.ireturn, 1) := by decide +kernel
theorem dX8_sponsor_66 : decode cX8_sponsor 66 = .ok (.aload_n 3, 1) := by decide +kernel
theorem dX8_sponsor_67 : decode cX8_sponsor 67 = .ok (.iload_n 1, 1) := by decide +kernel
theorem dX8_sponsor_68 : decode cX8_sponsor 68 = .ok (.invokevirtual 145, 3) := by decide +kernel
theorem dX8_sponsor_71 : decode cX8_sponsor 71 = .ok (.ireturn, 1) := by decide +kernel
theorem dX8_sponsor_72 : decode cX8_sponsor 72 = .ok (.aload_n 3, 1) := by decide +kernel
theorem dX8_sponsor_73 : decode cX8_sponsor 73 = .ok (.iload_n 1, 1) := by decide +kernel
theorem dX8_sponsor_74 : decode cX8_sponsor 74 = .ok (.invokevirtual 149, 3) := by decide +kernel
theorem dX8_sponsor_77 : decode cX8_sponsor 77 = .ok (.ireturn, 1) := by decide +kernel
theorem dX8_sponsor_78 : decode cX8_sponsor 78 = .ok (.aload_n 3, 1) := by decide +kernel
theorem dX8_sponsor_79 : decode cX8_sponsor 79 = .ok (.getfield 152, 3) := by decide +kernel
theorem dX8_sponsor_82 : decode cX8_sponsor 82 = .ok (.iload_n 1, 1) := by decide +kernel
theorem dX8_sponsor_83 : decode cX8_sponsor 83 = .ok (.invokevirtual 155, 3) := by decide +kernel
theorem dX8_sponsor_86 : decode cX8_sponsor 86 = .ok (.ireturn, 1) := by decide +kernel
theorem dX8_isBanned_0 : decode cX8_isBanned 0 = .ok (.iload_n 1, 1) := by decide +kernel
theorem dX8_isBanned_1 : decode cX8_isBanned 1 = .ok (.iconst 0, 1) := by decide +kernel
theorem dX8_isBanned_2 : decode cX8_isBanned 2 = .ok (.bipush 9, 2) := by decide +kernel
theorem dX8_isBanned_4 : decode cX8_isBanned 4 = .ok (.invokestatic 90, 3) := by decide +kernel
theorem dX8_isBanned_7 : decode cX8_isBanned 7 = .ok (.iload_n 2, 1) := by decide +kernel
theorem dX8_isBanned_8 : decode cX8_isBanned 8 = .ok (.iconst 0, 1) := by decide +kernel
theorem dX8_isBanned_9 : decode cX8_isBanned 9 = .ok (.bipush 9, 2) := by decide +kernel
theorem dX8_isBanned_11 : decode cX8_isBanned 11 = .ok (.invokestatic 90, 3) := by decide +kernel
theorem dX8_isBanned_14 : decode cX8_isBanned 14 = .ok (.aload_n 0, 1) := by decide +kernel
theorem dX8_isBanned_15 : decode cX8_isBanned 15 = .ok (.getfield 37, 3) := by decide +kernel
theorem dX8_isBanned_18 : decode cX8_isBanned 18 = .ok (.invokevirtual 80, 3) := by decide +kernel
theorem dX8_isBanned_21 : decode cX8_isBanned 21 = .ok (.iload_n 1, 1) := by decide +kernel
theorem dX8_isBanned_22 : decode cX8_isBanned 22 = .ok (.iload_n 2, 1) := by decide +kernel
theorem dX8_isBanned_23 : decode cX8_isBanned 23 = .ok (.invokevirtual 158, 3) := by decide +kernel
theorem dX8_isBanned_26 : decode cX8_isBanned 26 = .ok (.ireturn, 1) := by decide +kernel
theorem dX8_spotsOn_0 : decode cX8_spotsOn 0 = .ok (.aload_n 0, 1) := by decide +kernel
theorem dX8_spotsOn_1 : decode cX8_spotsOn 1 = .ok (.getfield 37, 3) := by decide +kernel
theorem dX8_spotsOn_4 : decode cX8_spotsOn 4 = .ok (.invokevirtual 80, 3) := by decide +kernel
theorem dX8_spotsOn_7 : decode cX8_spotsOn 7 = .ok (.astore_n 3, 1) := by decide +kernel
theorem dX8_spotsOn_8 : decode cX8_spotsOn 8 = .ok (.aload_n 3, 1) := by decide +kernel
theorem dX8_spotsOn_9 : decode cX8_spotsOn 9 = .ok (.iload_n 1, 1) := by decide +kernel
theorem dX8_spotsOn_10 : decode cX8_spotsOn 10 = .ok (.invokestatic 135, 3) := by decide +kernel
theorem dX8_spotsOn_13 : decode cX8_spotsOn 13 = .ok (.iload_n 2, 1) := by decide +kernel
theorem dX8_spotsOn_14 : decode cX8_spotsOn 14 = .ok (.iconst 0, 1) := by decide +kernel
theorem dX8_spotsOn_15 : decode cX8_spotsOn 15 = .ok (.bipush 6, 2) := by decide +kernel
theorem dX8_spotsOn_17 : decode cX8_spotsOn 17 = .ok (.invokestatic 90, 3) := by decide +kernel
theorem dX8_spotsOn_20 : decode cX8_spotsOn 20 = .ok (.aload_n 3, 1) := by decide +kernel
theorem dX8_spotsOn_21 : decode cX8_spotsOn 21 = .ok (.iload_n 1, 1) := by decide +kernel
theorem dX8_spotsOn_22 : decode cX8_spotsOn 22 = .ok (.iload_n 2, 1) := by decide +kernel
theorem dX8_spotsOn_23 : decode cX8_spotsOn 23 = .ok (.invokevirtual 162, 3) := by decide +kernel
theorem dX8_spotsOn_26 : decode cX8_spotsOn 26 = .ok (.ireturn, 1) := by decide +kernel
theorem dX8_reason_0 : decode cX8_reason 0 = .ok (.aload_n 0, 1) := by decide +kernel
theorem dX8_reason_1 : decode cX8_reason 1 = .ok (.getfield 37, 3) := by decide +kernel
theorem dX8_reason_4 : decode cX8_reason 4 = .ok (.invokevirtual 80, 3) := by decide +kernel
theorem dX8_reason_7 : decode cX8_reason 7 = .ok (.astore 4, 2) := by decide +kernel
theorem dX8_reason_9 : decode cX8_reason 9 = .ok (.aload 4, 2) := by decide +kernel
theorem dX8_reason_11 : decode cX8_reason 11 = .ok (.iload_n 1, 1) := by decide +kernel
theorem dX8_reason_12 : decode cX8_reason 12 = .ok (.iload_n 2, 1) := by decide +kernel
theorem dX8_reason_13 : decode cX8_reason 13 = .ok (.iload_n 3, 1) := by decide +kernel
theorem dX8_reason_14 : decode cX8_reason 14 = .ok (.invokestatic 165, 3) := by decide +kernel
theorem dX8_reason_17 : decode cX8_reason 17 = .ok (.aload 4, 2) := by decide +kernel
theorem dX8_reason_19 : decode cX8_reason 19 = .ok (.iload_n 1, 1) := by decide +kernel
theorem dX8_reason_20 : decode cX8_reason 20 = .ok (.iload_n 2, 1) := by decide +kernel
theorem dX8_reason_21 : decode cX8_reason 21 = .ok (.iload_n 3, 1) := by decide +kernel
theorem dX8_reason_22 : decode cX8_reason 22 = .ok (.invokevirtual 169, 3) := by decide +kernel
theorem dX8_reason_25 : decode cX8_reason 25 = .ok (.ireturn, 1) := by decide +kernel
theorem dX8_price_0 : decode cX8_price 0 = .ok (.aload_n 0, 1) := by decide +kernel
theorem dX8_price_1 : decode cX8_price 1 = .ok (.getfield 37, 3) := by decide +kernel
theorem dX8_price_4 : decode cX8_price 4 = .ok (.invokevirtual 80, 3) := by decide +kernel
theorem dX8_price_7 : decode cX8_price 7 = .ok (.astore 4, 2) := by decide +kernel
theorem dX8_price_9 : decode cX8_price 9 = .ok (.aload 4, 2) := by decide +kernel
theorem dX8_price_11 : decode cX8_price 11 = .ok (.iload_n 1, 1) := by decide +kernel
theorem dX8_price_12 : decode cX8_price 12 = .ok (.iload_n 2, 1) := by decide +kernel
theorem dX8_price_13 : decode cX8_price 13 = .ok (.iload_n 3, 1) := by decide +kernel
theorem dX8_price_14 : decode cX8_price 14 = .ok (.invokestatic 165, 3) := by decide +kernel
theorem dX8_price_17 : decode cX8_price 17 = .ok (.aload 4, 2) := by decide +kernel
theorem dX8_price_19 : decode cX8_price 19 = .ok (.iload_n 1, 1) := by decide +kernel
theorem dX8_price_20 : decode cX8_price 20 = .ok (.iload_n 2, 1) := by decide +kernel
theorem dX8_price_21 : decode cX8_price 21 = .ok (.iload_n 3, 1) := by decide +kernel
theorem dX8_price_22 : decode cX8_price 22 = .ok (.invokevirtual 173, 3) := by decide +kernel
theorem dX8_price_25 : decode cX8_price 25 = .ok (.ireturn, 1) := by decide +kernel
theorem dX8_cheapest_0 : decode cX8_cheapest 0 = .ok (.aload_n 0, 1) := by decide +kernel
theorem dX8_cheapest_1 : decode cX8_cheapest 1 = .ok (.getfield 37, 3) := by decide +kernel
theorem dX8_cheapest_4 : decode cX8_cheapest 4 = .ok (.invokevirtual 80, 3) := by decide +kernel
theorem dX8_cheapest_7 : decode cX8_cheapest 7 = .ok (.astore_n 3, 1) := by decide +kernel
theorem dX8_cheapest_8 : decode cX8_cheapest 8 = .ok (.aload_n 3, 1) := by decide +kernel
theorem dX8_cheapest_9 : decode cX8_cheapest 9 = .ok (.iload_n 1, 1) := by decide +kernel
theorem dX8_cheapest_10 : decode cX8_cheapest 10 = .ok (.invokestatic 135, 3) := by decide +kernel
theorem dX8_cheapest_13 : decode cX8_cheapest 13 = .ok (.iload_n 2, 1) := by decide +kernel
theorem dX8_cheapest_14 : decode cX8_cheapest 14 = .ok (.iconst 5, 1) := by decide +kernel
theorem dX8_cheapest_15 : decode cX8_cheapest 15 = .ok (.bipush 60, 2) := by decide +kernel
theorem dX8_cheapest_17 : decode cX8_cheapest 17 = .ok (.invokestatic 90, 3) := by decide +kernel
theorem dX8_cheapest_20 : decode cX8_cheapest 20 = .ok (.aload_n 3, 1) := by decide +kernel
theorem dX8_cheapest_21 : decode cX8_cheapest 21 = .ok (.iload_n 1, 1) := by decide +kernel
theorem dX8_cheapest_22 : decode cX8_cheapest 22 = .ok (.iload_n 2, 1) := by decide +kernel
theorem dX8_cheapest_23 : decode cX8_cheapest 23 = .ok (.invokevirtual 176, 3) := by decide +kernel
theorem dX8_cheapest_26 : decode cX8_cheapest 26 = .ok (.ireturn, 1) := by decide +kernel
theorem dX8_widest_0 : decode cX8_widest 0 = .ok (.aload_n 0, 1) := by decide +kernel
theorem dX8_widest_1 : decode cX8_widest 1 = .ok (.getfield 37, 3) := by decide +kernel
theorem dX8_widest_4 : decode cX8_widest 4 = .ok (.invokevirtual 80, 3) := by decide +kernel
theorem dX8_widest_7 : decode cX8_widest 7 = .ok (.astore_n 3, 1) := by decide +kernel
theorem dX8_widest_8 : decode cX8_widest 8 = .ok (.aload_n 3, 1) := by decide +kernel
theorem dX8_widest_9 : decode cX8_widest 9 = .ok (.iload_n 1, 1) := by decide +kernel
theorem dX8_widest_10 : decode cX8_widest 10 = .ok (.invokestatic 135, 3) := by decide +kernel
theorem dX8_widest_13 : decode cX8_widest 13 = .ok (.iload_n 2, 1) := by decide +kernel
theorem dX8_widest_14 : decode cX8_widest 14 = .ok (.iconst 5, 1) := by decide +kernel
theorem dX8_widest_15 : decode cX8_widest 15 = .ok (.bipush 60, 2) := by decide +kernel
theorem dX8_widest_17 : decode cX8_widest 17 = .ok (.invokestatic 90, 3) := by decide +kernel
theorem dX8_widest_20 : decode cX8_widest 20 = .ok (.aload_n 3, 1) := by decide +kernel
theorem dX8_widest_21 : decode cX8_widest 21 = .ok (.iload_n 1, 1) := by decide +kernel
theorem dX8_widest_22 : decode cX8_widest 22 = .ok (.iload_n 2, 1) := by decide +kernel
theorem dX8_widest_23 : decode cX8_widest 23 = .ok (.invokevirtual 179, 3) := by decide +kernel
theorem dX8_widest_26 : decode cX8_widest 26 = .ok (.ireturn, 1) := by decide +kernel
theorem dX8_income_0 : decode cX8_income 0 = .ok (.aload_n 0, 1) := by decide +kernel
theorem dX8_income_1 : decode cX8_income 1 = .ok (.getfield 37, 3) := by decide +kernel
theorem dX8_income_4 : decode cX8_income 4 = .ok (.invokevirtual 80, 3) := by decide +kernel
theorem dX8_income_7 : decode cX8_income 7 = .ok (.getfield 182, 3) := by decide +kernel
theorem dX8_income_10 : decode cX8_income 10 = .ok (.ireturn, 1) := by decide +kernel
theorem dX8_owed_0 : decode cX8_owed 0 = .ok (.aload_n 0, 1) := by decide +kernel
theorem dX8_owed_1 : decode cX8_owed 1 = .ok (.getfield 37, 3) := by decide +kernel
theorem dX8_owed_4 : decode cX8_owed 4 = .ok (.invokevirtual 80, 3) := by decide +kernel
theorem dX8_owed_7 : decode cX8_owed 7 = .ok (.getfield 152, 3) := by decide +kernel
theorem dX8_owed_10 : decode cX8_owed 10 = .ok (.getfield 118, 3) := by decide +kernel
theorem dX8_owed_13 : decode cX8_owed 13 = .ok (.ireturn, 1) := by decide +kernel
theorem dX8_owedSpot_0 : decode cX8_owedSpot 0 = .ok (.aload_n 0, 1) := by decide +kernel
theorem dX8_owedSpot_1 : decode cX8_owedSpot 1 = .ok (.getfield 37, 3) := by decide +kernel
theorem dX8_owedSpot_4 : decode cX8_owedSpot 4 = .ok (.invokevirtual 80, 3) := by decide +kernel
theorem dX8_owedSpot_7 : decode cX8_owedSpot 7 = .ok (.getfield 152, 3) := by decide +kernel
theorem dX8_owedSpot_10 : decode cX8_owedSpot 10 = .ok (.astore_n 3, 1) := by decide +kernel
theorem dX8_owedSpot_11 : decode cX8_owedSpot 11 = .ok (.aload_n 3, 1) := by decide +kernel
theorem dX8_owedSpot_12 : decode cX8_owedSpot 12 = .ok (.iload_n 1, 1) := by decide +kernel
theorem dX8_owedSpot_13 : decode cX8_owedSpot 13 = .ok (.invokestatic 127, 3) := by decide +kernel
theorem dX8_owedSpot_16 : decode cX8_owedSpot 16 = .ok (.iload_n 2, 1) := by decide +kernel
theorem dX8_owedSpot_17 : decode cX8_owedSpot 17 = .ok (.iconst 0, 1) := by decide +kernel
theorem dX8_owedSpot_18 : decode cX8_owedSpot 18 = .ok (.iconst 3, 1) := by decide +kernel
theorem dX8_owedSpot_19 : decode cX8_owedSpot 19 = .ok (.invokestatic 90, 3) := by decide +kernel
theorem dX8_owedSpot_22 : decode cX8_owedSpot 22 = .ok (.aload_n 3, 1) := by decide +kernel
theorem dX8_owedSpot_23 : decode cX8_owedSpot 23 = .ok (.iload_n 1, 1) := by decide +kernel
theorem dX8_owedSpot_24 : decode cX8_owedSpot 24 = .ok (.iload_n 2, 1) := by decide +kernel
theorem dX8_owedSpot_25 : decode cX8_owedSpot 25 = .ok (.invokevirtual 131, 3) := by decide +kernel
theorem dX8_owedSpot_28 : decode cX8_owedSpot 28 = .ok (.ireturn, 1) := by decide +kernel
theorem dX8_arrangements_0 : decode cX8_arrangements 0 = .ok (.aload_n 0, 1) := by decide +kernel
theorem dX8_arrangements_1 : decode cX8_arrangements 1 = .ok (.getfield 37, 3) := by decide +kernel
theorem dX8_arrangements_4 : decode cX8_arrangements 4 = .ok (.invokevirtual 80, 3) := by decide +kernel
theorem dX8_arrangements_7 : decode cX8_arrangements 7 = .ok (.astore_n 2, 1) := by decide +kernel
theorem dX8_arrangements_8 : decode cX8_arrangements 8 = .ok (.aload_n 2, 1) := by decide +kernel
theorem dX8_arrangements_9 : decode cX8_arrangements 9 = .ok (.iload_n 1, 1) := by decide +kernel
theorem dX8_arrangements_10 : decode cX8_arrangements 10 = .ok (.invokestatic 185, 3) := by decide +kernel
theorem dX8_arrangements_13 : decode cX8_arrangements 13 = .ok (.aload_n 0, 1) := by decide +kernel
theorem dX8_arrangements_14 : decode cX8_arrangements 14 = .ok (.getfield 44, 3) := by decide +kernel
theorem dX8_arrangements_17 : decode cX8_arrangements 17 = .ok (.aload_n 2, 1) := by decide +kernel
theorem dX8_arrangements_18 : decode cX8_arrangements 18 = .ok (.iload_n 1, 1) := by decide +kernel
theorem dX8_arrangements_19 : decode cX8_arrangements 19 = .ok (.invokevirtual 188, 3) := by decide +kernel
theorem dX8_arrangements_22 : decode cX8_arrangements 22 = .ok (.ireturn, 1) := by decide +kernel
theorem dX8_arranged_0 : decode cX8_arranged 0 = .ok (.aload_n 0, 1) := by decide +kernel
theorem dX8_arranged_1 : decode cX8_arranged 1 = .ok (.getfield 37, 3) := by decide +kernel
theorem dX8_arranged_4 : decode cX8_arranged 4 = .ok (.invokevirtual 80, 3) := by decide +kernel
theorem dX8_arranged_7 : decode cX8_arranged 7 = .ok (.astore_n 3, 1) := by decide +kernel
theorem dX8_arranged_8 : decode cX8_arranged 8 = .ok (.aload_n 3, 1) := by decide +kernel
theorem dX8_arranged_9 : decode cX8_arranged 9 = .ok (.iload_n 1, 1) := by decide +kernel
theorem dX8_arranged_10 : decode cX8_arranged 10 = .ok (.invokestatic 185, 3) := by decide +kernel
theorem dX8_arranged_13 : decode cX8_arranged 13 = .ok (.iload_n 2, 1) := by decide +kernel
theorem dX8_arranged_14 : decode cX8_arranged 14 = .ok (.ifCond .lt 11, 3) := by decide +kernel
theorem dX8_arranged_17 : decode cX8_arranged 17 = .ok (.iload_n 2, 1) := by decide +kernel
theorem dX8_arranged_18 : decode cX8_arranged 18 = .ok (.iload_n 1, 1) := by decide +kernel
theorem dX8_arranged_19 : decode cX8_arranged 19 = .ok (.invokestatic 192, 3) := by decide +kernel
theorem dX8_arranged_22 : decode cX8_arranged 22 = .ok (.if_icmp .lt 13, 3) := by decide +kernel
theorem dX8_arranged_25 : decode cX8_arranged 25 = .ok (.new 197, 3) := by decide +kernel
theorem dX8_arranged_28 : decode cX8_arranged 28 = .ok (.dup, 1) := by decide +kernel
theorem dX8_arranged_29 : decode cX8_arranged 29 = .ok (.ldc 199, 2) := by decide +kernel
theorem dX8_arranged_31 : decode cX8_arranged 31 = .ok (.invokespecial 201, 3) := by decide +kernel
theorem dX8_arranged_34 : decode cX8_arranged 34 = .ok (.athrow, 1) := by decide +kernel
theorem dX8_arranged_35 : decode cX8_arranged 35 = .ok (.aload_n 0, 1) := by decide +kernel
theorem dX8_arranged_36 : decode cX8_arranged 36 = .ok (.getfield 44, 3) := by decide +kernel
theorem dX8_arranged_39 : decode cX8_arranged 39 = .ok (.aload_n 3, 1) := by decide +kernel
theorem dX8_arranged_40 : decode cX8_arranged 40 = .ok (.iload_n 1, 1) := by decide +kernel
theorem dX8_arranged_41 : decode cX8_arranged 41 = .ok (.invokevirtual 202, 3) := by decide +kernel
theorem dX8_arranged_44 : decode cX8_arranged 44 = .ok (.ifCond .eq 15, 3) := by decide +kernel
theorem dX8_arranged_47 : decode cX8_arranged 47 = .ok (.aload_n 0, 1) := by decide +kernel
theorem dX8_arranged_48 : decode cX8_arranged 48 = .ok (.getfield 44, 3) := by decide +kernel
theorem dX8_arranged_51 : decode cX8_arranged 51 = .ok (.getfield 206, 3) := by decide +kernel
theorem dX8_arranged_54 : decode cX8_arranged 54 = .ok (.iload_n 2, 1) := by decide +kernel
theorem dX8_arranged_55 : decode cX8_arranged 55 = .ok (.iaload, 1) := by decide +kernel
theorem dX8_arranged_56 : decode cX8_arranged 56 = .ok (.goto 4, 3) := by decide +kernel
theorem dX8_arranged_59 : decode cX8_arranged 59 = .ok (.iconst (-1), 1) := by decide +kernel
theorem dX8_arranged_60 : decode cX8_arranged 60 = .ok (.ireturn, 1) := by decide +kernel
theorem dX8_book_0 : decode cX8_book 0 = .ok (.aload_n 0, 1) := by decide +kernel
theorem dX8_book_1 : decode cX8_book 1 = .ok (.getfield 37, 3) := by decide +kernel
theorem dX8_book_4 : decode cX8_book 4 = .ok (.invokevirtual 80, 3) := by decide +kernel
theorem dX8_book_7 : decode cX8_book 7 = .ok (.iload_n 1, 1) := by decide +kernel
theorem dX8_book_8 : decode cX8_book 8 = .ok (.iload_n 2, 1) := by decide +kernel
theorem dX8_book_9 : decode cX8_book 9 = .ok (.iload_n 3, 1) := by decide +kernel
theorem dX8_book_10 : decode cX8_book 10 = .ok (.invokestatic 165, 3) := by decide +kernel
theorem dX8_book_13 : decode cX8_book 13 = .ok (.aload_n 0, 1) := by decide +kernel
theorem dX8_book_14 : decode cX8_book 14 = .ok (.getfield 37, 3) := by decide +kernel
theorem dX8_book_17 : decode cX8_book 17 = .ok (.invokevirtual 69, 3) := by decide +kernel
theorem dX8_book_20 : decode cX8_book 20 = .ok (.iload_n 1, 1) := by decide +kernel
theorem dX8_book_21 : decode cX8_book 21 = .ok (.iload_n 2, 1) := by decide +kernel
theorem dX8_book_22 : decode cX8_book 22 = .ok (.iload_n 3, 1) := by decide +kernel
theorem dX8_book_23 : decode cX8_book 23 = .ok (.invokevirtual 209, 3) := by decide +kernel
theorem dX8_book_26 : decode cX8_book 26 = .ok (.ireturn, 1) := by decide +kernel
theorem dX8_bookAnyhow_0 : decode cX8_bookAnyhow 0 = .ok (.aload_n 0, 1) := by decide +kernel
theorem dX8_bookAnyhow_1 : decode cX8_bookAnyhow 1 = .ok (.getfield 37, 3) := by decide +kernel
theorem dX8_bookAnyhow_4 : decode cX8_bookAnyhow 4 = .ok (.invokevirtual 80, 3) := by decide +kernel
theorem dX8_bookAnyhow_7 : decode cX8_bookAnyhow 7 = .ok (.iload_n 1, 1) := by decide +kernel
theorem dX8_bookAnyhow_8 : decode cX8_bookAnyhow 8 = .ok (.iload_n 2, 1) := by decide +kernel
theorem dX8_bookAnyhow_9 : decode cX8_bookAnyhow 9 = .ok (.iload_n 3, 1) := by decide +kernel
theorem dX8_bookAnyhow_10 : decode cX8_bookAnyhow 10 = .ok (.invokestatic 165, 3) := by decide +kernel
theorem dX8_bookAnyhow_13 : decode cX8_bookAnyhow 13 = .ok (.aload_n 0, 1) := by decide +kernel
theorem dX8_bookAnyhow_14 : decode cX8_bookAnyhow 14 = .ok (.getfield 37, 3) := by decide +kernel
theorem dX8_bookAnyhow_17 : decode cX8_bookAnyhow 17 = .ok (.invokevirtual 69, 3) := by decide +kernel
theorem dX8_bookAnyhow_20 : decode cX8_bookAnyhow 20 = .ok (.astore 4, 2) := by decide +kernel
theorem dX8_bookAnyhow_22 : decode cX8_bookAnyhow 22 = .ok (.aload 4, 2) := by decide +kernel
theorem dX8_bookAnyhow_24 : decode cX8_bookAnyhow 24 = .ok (.iload_n 1, 1) := by decide +kernel
theorem dX8_bookAnyhow_25 : decode cX8_bookAnyhow 25 = .ok (.iload_n 2, 1) := by decide +kernel
theorem dX8_bookAnyhow_26 : decode cX8_bookAnyhow 26 = .ok (.iload_n 3, 1) := by decide +kernel
theorem dX8_bookAnyhow_27 : decode cX8_bookAnyhow 27 = .ok (.invokevirtual 169, 3) := by decide +kernel
theorem dX8_bookAnyhow_30 : decode cX8_bookAnyhow 30 = .ok (.iconst 5, 1) := by decide +kernel
theorem dX8_bookAnyhow_31 : decode cX8_bookAnyhow 31 = .ok (.if_icmp .eq 12, 3) := by decide +kernel
theorem dX8_bookAnyhow_34 : decode cX8_bookAnyhow 34 = .ok (.aload 4, 2) := by decide +kernel
theorem dX8_bookAnyhow_36 : decode cX8_bookAnyhow 36 = .ok (.iload_n 1, 1) := by decide +kernel
theorem dX8_bookAnyhow_37 : decode cX8_bookAnyhow 37 = .ok (.iload_n 2, 1) := by decide +kernel
theorem dX8_bookAnyhow_38 : decode cX8_bookAnyhow 38 = .ok (.iload_n 3, 1) := by decide +kernel
theorem dX8_bookAnyhow_39 : decode cX8_bookAnyhow 39 = .ok (.invokevirtual 209, 3) := by decide +kernel
theorem dX8_bookAnyhow_42 : decode cX8_bookAnyhow 42 = .ok (.ireturn, 1) := by decide +kernel
theorem dX8_bookAnyhow_43 : decode cX8_bookAnyhow 43 = .ok (.aload 4, 2) := by decide +kernel
theorem dX8_bookAnyhow_45 : decode cX8_bookAnyhow 45 = .ok (.getfield 94, 3) := by decide +kernel
theorem dX8_bookAnyhow_48 : decode cX8_bookAnyhow 48 = .ok (.iload_n 3, 1) := by decide +kernel
theorem dX8_bookAnyhow_49 : decode cX8_bookAnyhow 49 = .ok (.aaload, 1) := by decide +kernel
theorem dX8_bookAnyhow_50 : decode cX8_bookAnyhow 50 = .ok (.getfield 114, 3) := by decide +kernel
theorem dX8_bookAnyhow_53 : decode cX8_bookAnyhow 53 = .ok (.invokevirtual 212, 3) := by decide +kernel
theorem dX8_bookAnyhow_56 : decode cX8_bookAnyhow 56 = .ok (.iconst 1, 1) := by decide +kernel
theorem dX8_bookAnyhow_57 : decode cX8_bookAnyhow 57 = .ok (.iload_n 1, 1) := by decide +kernel
theorem dX8_bookAnyhow_58 : decode cX8_bookAnyhow 58 = .ok (.ishl, 1) := by decide +kernel
theorem dX8_bookAnyhow_59 : decode cX8_bookAnyhow 59 = .ok (.ior, 1) := by decide +kernel
theorem dX8_bookAnyhow_60 : decode cX8_bookAnyhow 60 = .ok (.istore 5, 2) := by decide +kernel
theorem dX8_bookAnyhow_62 : decode cX8_bookAnyhow 62 = .ok (.aload_n 0, 1) := by decide +kernel
theorem dX8_bookAnyhow_63 : decode cX8_bookAnyhow 63 = .ok (.getfield 44, 3) := by decide +kernel
theorem dX8_bookAnyhow_66 : decode cX8_bookAnyhow 66 = .ok (.aload 4, 2) := by decide +kernel
theorem dX8_bookAnyhow_68 : decode cX8_bookAnyhow 68 = .ok (.iload 5, 2) := by decide +kernel
theorem dX8_bookAnyhow_70 : decode cX8_bookAnyhow 70 = .ok (.invokevirtual 202, 3) := by decide +kernel
theorem dX8_bookAnyhow_73 : decode cX8_bookAnyhow 73 = .ok (.ifCond .ne 6, 3) := by decide +kernel
theorem dX8_bookAnyhow_76 : decode cX8_bookAnyhow 76 = .ok (.bipush (-5), 2) := by decide +kernel
theorem dX8_bookAnyhow_78 : decode cX8_bookAnyhow 78 = .ok (.ireturn, 1) := by decide +kernel
theorem dX8_bookAnyhow_79 : decode cX8_bookAnyhow 79 = .ok (.aload 4, 2) := by decide +kernel
theorem dX8_bookAnyhow_81 : decode cX8_bookAnyhow 81 = .ok (.iload_n 1, 1) := by decide +kernel
theorem dX8_bookAnyhow_82 : decode cX8_bookAnyhow 82 = .ok (.iload_n 2, 1) := by decide +kernel
theorem dX8_bookAnyhow_83 : decode cX8_bookAnyhow 83 = .ok (.iload_n 3, 1) := by decide +kernel
theorem dX8_bookAnyhow_84 : decode cX8_bookAnyhow 84 = .ok (.aload_n 0, 1) := by decide +kernel
theorem dX8_bookAnyhow_85 : decode cX8_bookAnyhow 85 = .ok (.getfield 44, 3) := by decide +kernel
theorem dX8_bookAnyhow_88 : decode cX8_bookAnyhow 88 = .ok (.getfield 206, 3) := by decide +kernel
theorem dX8_bookAnyhow_91 : decode cX8_bookAnyhow 91 = .ok (.invokevirtual 215, 3) := by decide +kernel
theorem dX8_bookAnyhow_94 : decode cX8_bookAnyhow 94 = .ok (.aload 4, 2) := by decide +kernel
theorem dX8_bookAnyhow_96 : decode cX8_bookAnyhow 96 = .ok (.getfield 94, 3) := by decide +kernel
theorem dX8_bookAnyhow_99 : decode cX8_bookAnyhow 99 = .ok (.iload_n 3, 1) := by decide +kernel
theorem dX8_bookAnyhow_100 : decode cX8_bookAnyhow 100 = .ok (.aaload, 1) := by decide +kernel
theorem dX8_bookAnyhow_101 : decode cX8_bookAnyhow 101 = .ok (.getfield 114, 3) := by decide +kernel
theorem dX8_bookAnyhow_104 : decode cX8_bookAnyhow 104 = .ok (.iload_n 1, 1) := by decide +kernel
theorem dX8_bookAnyhow_105 : decode cX8_bookAnyhow 105 = .ok (.invokevirtual 219, 3) := by decide +kernel
theorem dX8_bookAnyhow_108 : decode cX8_bookAnyhow 108 = .ok (.ireturn, 1) := by decide +kernel
theorem dX8_remove_0 : decode cX8_remove 0 = .ok (.aload_n 0, 1) := by decide +kernel
theorem dX8_remove_1 : decode cX8_remove 1 = .ok (.getfield 37, 3) := by decide +kernel
theorem dX8_remove_4 : decode cX8_remove 4 = .ok (.invokevirtual 80, 3) := by decide +kernel
theorem dX8_remove_7 : decode cX8_remove 7 = .ok (.astore_n 3, 1) := by decide +kernel
theorem dX8_remove_8 : decode cX8_remove 8 = .ok (.aload_n 3, 1) := by decide +kernel
theorem dX8_remove_9 : decode cX8_remove 9 = .ok (.iload_n 1, 1) := by decide +kernel
theorem dX8_remove_10 : decode cX8_remove 10 = .ok (.invokestatic 86, 3) := by decide +kernel
theorem dX8_remove_13 : decode cX8_remove 13 = .ok (.aload_n 3, 1) := by decide +kernel
theorem dX8_remove_14 : decode cX8_remove 14 = .ok (.getfield 94, 3) := by decide +kernel
theorem dX8_remove_17 : decode cX8_remove 17 = .ok (.iload_n 1, 1) := by decide +kernel
theorem dX8_remove_18 : decode cX8_remove 18 = .ok (.aaload, 1) := by decide +kernel
theorem dX8_remove_19 : decode cX8_remove 19 = .ok (.getfield 114, 3) := by decide +kernel
theorem dX8_remove_22 : decode cX8_remove 22 = .ok (.iload_n 2, 1) := by decide +kernel
theorem dX8_remove_23 : decode cX8_remove 23 = .ok (.invokestatic 127, 3) := by decide +kernel
theorem dX8_remove_26 : decode cX8_remove 26 = .ok (.aload_n 3, 1) := by decide +kernel
theorem dX8_remove_27 : decode cX8_remove 27 = .ok (.iload_n 1, 1) := by decide +kernel
theorem dX8_remove_28 : decode cX8_remove 28 = .ok (.iload_n 2, 1) := by decide +kernel
theorem dX8_remove_29 : decode cX8_remove 29 = .ok (.invokevirtual 222, 3) := by decide +kernel
theorem dX8_remove_32 : decode cX8_remove 32 = .ok (.ifCond .ne 13, 3) := by decide +kernel
theorem dX8_remove_35 : decode cX8_remove 35 = .ok (.new 225, 3) := by decide +kernel
theorem dX8_remove_38 : decode cX8_remove 38 = .ok (.dup, 1) := by decide +kernel
theorem dX8_remove_39 : decode cX8_remove 39 = .ok (.ldc 227, 2) := by decide +kernel
theorem dX8_remove_41 : decode cX8_remove 41 = .ok (.invokespecial 229, 3) := by decide +kernel
theorem dX8_remove_44 : decode cX8_remove 44 = .ok (.athrow, 1) := by decide +kernel
theorem dX8_remove_45 : decode cX8_remove 45 = .ok (.aload_n 0, 1) := by decide +kernel
theorem dX8_remove_46 : decode cX8_remove 46 = .ok (.getfield 37, 3) := by decide +kernel
theorem dX8_remove_49 : decode cX8_remove 49 = .ok (.invokevirtual 69, 3) := by decide +kernel
theorem dX8_remove_52 : decode cX8_remove 52 = .ok (.iload_n 1, 1) := by decide +kernel
theorem dX8_remove_53 : decode cX8_remove 53 = .ok (.iload_n 2, 1) := by decide +kernel
theorem dX8_remove_54 : decode cX8_remove 54 = .ok (.invokevirtual 230, 3) := by decide +kernel
theorem dX8_remove_57 : decode cX8_remove 57 = .ok (.ireturn, 1) := by decide +kernel
theorem dX8_air_0 : decode cX8_air 0 = .ok (.aload_n 0, 1) := by decide +kernel
theorem dX8_air_1 : decode cX8_air 1 = .ok (.getfield 37, 3) := by decide +kernel
theorem dX8_air_4 : decode cX8_air 4 = .ok (.invokevirtual 80, 3) := by decide +kernel
theorem dX8_air_7 : decode cX8_air 7 = .ok (.invokevirtual 233, 3) := by decide +kernel
theorem dX8_air_10 : decode cX8_air 10 = .ok (.istore_n 1, 1) := by decide +kernel
theorem dX8_air_11 : decode cX8_air 11 = .ok (.iload_n 1, 1) := by decide +kernel
theorem dX8_air_12 : decode cX8_air 12 = .ok (.ifCond .ge 13, 3) := by decide +kernel
theorem dX8_air_15 : decode cX8_air 15 = .ok (.new 225, 3) := by decide +kernel
theorem dX8_air_18 : decode cX8_air 18 = .ok (.dup, 1) := by decide +kernel
theorem dX8_air_19 : decode cX8_air 19 = .ok (.ldc 236, 2) := by decide +kernel
theorem dX8_air_21 : decode cX8_air 21 = .ok (.invokespecial 229, 3) := by decide +kernel
theorem dX8_air_24 : decode cX8_air 24 = .ok (.athrow, 1) := by decide +kernel
theorem dX8_air_25 : decode cX8_air 25 = .ok (.aload_n 0, 1) := by decide +kernel
theorem dX8_air_26 : decode cX8_air 26 = .ok (.getfield 37, 3) := by decide +kernel
theorem dX8_air_29 : decode cX8_air 29 = .ok (.invokevirtual 69, 3) := by decide +kernel
theorem dX8_air_32 : decode cX8_air 32 = .ok (.getfield 94, 3) := by decide +kernel
theorem dX8_air_35 : decode cX8_air 35 = .ok (.iload_n 1, 1) := by decide +kernel
theorem dX8_air_36 : decode cX8_air 36 = .ok (.aaload, 1) := by decide +kernel
theorem dX8_air_37 : decode cX8_air 37 = .ok (.astore_n 2, 1) := by decide +kernel
theorem dX8_air_38 : decode cX8_air 38 = .ok (.aload_n 2, 1) := by decide +kernel
theorem dX8_air_39 : decode cX8_air 39 = .ok (.iconst 1, 1) := by decide +kernel
theorem dX8_air_40 : decode cX8_air 40 = .ok (.putfield 111, 3) := by decide +kernel
theorem dX8_air_43 : decode cX8_air 43 = .ok (.aload_n 2, 1) := by decide +kernel
theorem dX8_air_44 : decode cX8_air 44 = .ok (.getfield 114, 3) := by decide +kernel
theorem dX8_air_47 : decode cX8_air 47 = .ok (.getfield 118, 3) := by decide +kernel
theorem dX8_air_50 : decode cX8_air 50 = .ok (.ireturn, 1) := by decide +kernel
theorem dX8_cancel_0 : decode cX8_cancel 0 = .ok (.aload_n 0, 1) := by decide +kernel
theorem dX8_cancel_1 : decode cX8_cancel 1 = .ok (.getfield 37, 3) := by decide +kernel
theorem dX8_cancel_4 : decode cX8_cancel 4 = .ok (.invokevirtual 80, 3) := by decide +kernel
theorem dX8_cancel_7 : decode cX8_cancel 7 = .ok (.astore_n 2, 1) := by decide +kernel
theorem dX8_cancel_8 : decode cX8_cancel 8 = .ok (.aload_n 2, 1) := by decide +kernel
theorem dX8_cancel_9 : decode cX8_cancel 9 = .ok (.iload_n 1, 1) := by decide +kernel
theorem dX8_cancel_10 : decode cX8_cancel 10 = .ok (.invokestatic 86, 3) := by decide +kernel
theorem dX8_cancel_13 : decode cX8_cancel 13 = .ok (.aload_n 2, 1) := by decide +kernel
theorem dX8_cancel_14 : decode cX8_cancel 14 = .ok (.getfield 94, 3) := by decide +kernel
theorem dX8_cancel_17 : decode cX8_cancel 17 = .ok (.iload_n 1, 1) := by decide +kernel
theorem dX8_cancel_18 : decode cX8_cancel 18 = .ok (.aaload, 1) := by decide +kernel
theorem dX8_cancel_19 : decode cX8_cancel 19 = .ok (.getfield 111, 3) := by decide +kernel
theorem dX8_cancel_22 : decode cX8_cancel 22 = .ok (.ifCond .eq 13, 3) := by decide +kernel
theorem dX8_cancel_25 : decode cX8_cancel 25 = .ok (.new 225, 3) := by decide +kernel
theorem dX8_cancel_28 : decode cX8_cancel 28 = .ok (.dup, 1) := by decide +kernel
theorem dX8_cancel_29 : decode cX8_cancel 29 = .ok (.ldc 238, 2) := by decide +kernel
theorem dX8_cancel_31 : decode cX8_cancel 31 = .ok (.invokespecial 229, 3) := by decide +kernel
theorem dX8_cancel_34 : decode cX8_cancel 34 = .ok (.athrow, 1) := by decide +kernel
theorem dX8_cancel_35 : decode cX8_cancel 35 = .ok (.aload_n 0, 1) := by decide +kernel
theorem dX8_cancel_36 : decode cX8_cancel 36 = .ok (.getfield 37, 3) := by decide +kernel
theorem dX8_cancel_39 : decode cX8_cancel 39 = .ok (.invokevirtual 69, 3) := by decide +kernel
theorem dX8_cancel_42 : decode cX8_cancel 42 = .ok (.astore_n 2, 1) := by decide +kernel
theorem dX8_cancel_43 : decode cX8_cancel 43 = .ok (.aload_n 2, 1) := by decide +kernel
theorem dX8_cancel_44 : decode cX8_cancel 44 = .ok (.iload_n 1, 1) := by decide +kernel
theorem dX8_cancel_45 : decode cX8_cancel 45 = .ok (.invokevirtual 240, 3) := by decide +kernel
theorem dX8_cancel_48 : decode cX8_cancel 48 = .ok (.aload_n 2, 1) := by decide +kernel
theorem dX8_cancel_49 : decode cX8_cancel 49 = .ok (.getfield 152, 3) := by decide +kernel
theorem dX8_cancel_52 : decode cX8_cancel 52 = .ok (.getfield 118, 3) := by decide +kernel
theorem dX8_cancel_55 : decode cX8_cancel 55 = .ok (.ireturn, 1) := by decide +kernel
theorem dX8_makeGood_0 : decode cX8_makeGood 0 = .ok (.aload_n 0, 1) := by decide +kernel
theorem dX8_makeGood_1 : decode cX8_makeGood 1 = .ok (.getfield 37, 3) := by decide +kernel
theorem dX8_makeGood_4 : decode cX8_makeGood 4 = .ok (.invokevirtual 69, 3) := by decide +kernel
theorem dX8_makeGood_7 : decode cX8_makeGood 7 = .ok (.invokevirtual 243, 3) := by decide +kernel
theorem dX8_makeGood_10 : decode cX8_makeGood 10 = .ok (.ireturn, 1) := by decide +kernel
theorem dX8_campaign_0 : decode cX8_campaign 0 = .ok (.aload_n 0, 1) := by decide +kernel
theorem dX8_campaign_1 : decode cX8_campaign 1 = .ok (.getfield 37, 3) := by decide +kernel
theorem dX8_campaign_4 : decode cX8_campaign 4 = .ok (.invokevirtual 80, 3) := by decide +kernel
theorem dX8_campaign_7 : decode cX8_campaign 7 = .ok (.iload_n 1, 1) := by decide +kernel
theorem dX8_campaign_8 : decode cX8_campaign 8 = .ok (.invokestatic 135, 3) := by decide +kernel
theorem dX8_campaign_11 : decode cX8_campaign 11 = .ok (.iload_n 2, 1) := by decide +kernel
theorem dX8_campaign_12 : decode cX8_campaign 12 = .ok (.iconst 5, 1) := by decide +kernel
theorem dX8_campaign_13 : decode cX8_campaign 13 = .ok (.bipush 60, 2) := by decide +kernel
theorem dX8_campaign_15 : decode cX8_campaign 15 = .ok (.invokestatic 90, 3) := by decide +kernel
theorem dX8_campaign_18 : decode cX8_campaign 18 = .ok (.iload_n 3, 1) := by decide +kernel
theorem dX8_campaign_19 : decode cX8_campaign 19 = .ok (.iconst 1, 1) := by decide +kernel
theorem dX8_campaign_20 : decode cX8_campaign 20 = .ok (.bipush 20, 2) := by decide +kernel
theorem dX8_campaign_22 : decode cX8_campaign 22 = .ok (.invokestatic 90, 3) := by decide +kernel
theorem dX8_campaign_25 : decode cX8_campaign 25 = .ok (.aload_n 0, 1) := by decide +kernel
theorem dX8_campaign_26 : decode cX8_campaign 26 = .ok (.getfield 37, 3) := by decide +kernel
theorem dX8_campaign_29 : decode cX8_campaign 29 = .ok (.invokevirtual 69, 3) := by decide +kernel
theorem dX8_campaign_32 : decode cX8_campaign 32 = .ok (.iload_n 1, 1) := by decide +kernel
theorem dX8_campaign_33 : decode cX8_campaign 33 = .ok (.iload_n 2, 1) := by decide +kernel
theorem dX8_campaign_34 : decode cX8_campaign 34 = .ok (.iload_n 3, 1) := by decide +kernel
theorem dX8_campaign_35 : decode cX8_campaign 35 = .ok (.invokevirtual 246, 3) := by decide +kernel
theorem dX8_campaign_38 : decode cX8_campaign 38 = .ok (.ireturn, 1) := by decide +kernel
theorem dX8_setCap_0 : decode cX8_setCap 0 = .ok (.aload_n 0, 1) := by decide +kernel
theorem dX8_setCap_1 : decode cX8_setCap 1 = .ok (.getfield 37, 3) := by decide +kernel
theorem dX8_setCap_4 : decode cX8_setCap 4 = .ok (.invokevirtual 80, 3) := by decide +kernel
theorem dX8_setCap_7 : decode cX8_setCap 7 = .ok (.iload_n 1, 1) := by decide +kernel
theorem dX8_setCap_8 : decode cX8_setCap 8 = .ok (.invokestatic 135, 3) := by decide +kernel
theorem dX8_setCap_11 : decode cX8_setCap 11 = .ok (.iload_n 2, 1) := by decide +kernel
theorem dX8_setCap_12 : decode cX8_setCap 12 = .ok (.iconst 1, 1) := by decide +kernel
theorem dX8_setCap_13 : decode cX8_setCap 13 = .ok (.bipush 9, 2) := by decide +kernel
theorem dX8_setCap_15 : decode cX8_setCap 15 = .ok (.invokestatic 90, 3) := by decide +kernel
theorem dX8_setCap_18 : decode cX8_setCap 18 = .ok (.aload_n 0, 1) := by decide +kernel
theorem dX8_setCap_19 : decode cX8_setCap 19 = .ok (.getfield 37, 3) := by decide +kernel
theorem dX8_setCap_22 : decode cX8_setCap 22 = .ok (.invokevirtual 69, 3) := by decide +kernel
theorem dX8_setCap_25 : decode cX8_setCap 25 = .ok (.astore_n 3, 1) := by decide +kernel
theorem dX8_setCap_26 : decode cX8_setCap 26 = .ok (.aload_n 3, 1) := by decide +kernel
theorem dX8_setCap_27 : decode cX8_setCap 27 = .ok (.getfield 142, 3) := by decide +kernel
theorem dX8_setCap_30 : decode cX8_setCap 30 = .ok (.iload_n 1, 1) := by decide +kernel
theorem dX8_setCap_31 : decode cX8_setCap 31 = .ok (.iaload, 1) := by decide +kernel
theorem dX8_setCap_32 : decode cX8_setCap 32 = .ok (.istore 4, 2) := by decide +kernel
theorem dX8_setCap_34 : decode cX8_setCap 34 = .ok (.aload_n 3, 1) := by decide +kernel
theorem dX8_setCap_35 : decode cX8_setCap 35 = .ok (.getfield 142, 3) := by decide +kernel
theorem dX8_setCap_38 : decode cX8_setCap 38 = .ok (.iload_n 1, 1) := by decide +kernel
theorem dX8_setCap_39 : decode cX8_setCap 39 = .ok (.iload_n 2, 1) := by decide +kernel
theorem dX8_setCap_40 : decode cX8_setCap 40 = .ok (.iastore, 1) := by decide +kernel
theorem dX8_setCap_41 : decode cX8_setCap 41 = .ok (.iload 4, 2) := by decide +kernel
theorem dX8_setCap_43 : decode cX8_setCap 43 = .ok (.ireturn, 1) := by decide +kernel
theorem dX8_undo_0 : decode cX8_undo 0 = .ok (.aload_n 0, 1) := by decide +kernel
theorem dX8_undo_1 : decode cX8_undo 1 = .ok (.getfield 37, 3) := by decide +kernel
theorem dX8_undo_4 : decode cX8_undo 4 = .ok (.invokevirtual 249, 3) := by decide +kernel
theorem dX8_undo_7 : decode cX8_undo 7 = .ok (.ireturn, 1) := by decide +kernel
theorem dX8_checksum_0 : decode cX8_checksum 0 = .ok (.aload_n 0, 1) := by decide +kernel
theorem dX8_checksum_1 : decode cX8_checksum 1 = .ok (.getfield 37, 3) := by decide +kernel
theorem dX8_checksum_4 : decode cX8_checksum 4 = .ok (.invokevirtual 80, 3) := by decide +kernel
theorem dX8_checksum_7 : decode cX8_checksum 7 = .ok (.astore_n 1, 1) := by decide +kernel
theorem dX8_checksum_8 : decode cX8_checksum 8 = .ok (.lconst 0, 1) := by decide +kernel
theorem dX8_checksum_9 : decode cX8_checksum 9 = .ok (.lstore_n 2, 1) := by decide +kernel
theorem dX8_checksum_10 : decode cX8_checksum 10 = .ok (.iconst 0, 1) := by decide +kernel
theorem dX8_checksum_11 : decode cX8_checksum 11 = .ok (.istore 4, 2) := by decide +kernel
theorem dX8_checksum_13 : decode cX8_checksum 13 = .ok (.iload 4, 2) := by decide +kernel
theorem dX8_checksum_15 : decode cX8_checksum 15 = .ok (.aload_n 1, 1) := by decide +kernel
theorem dX8_checksum_16 : decode cX8_checksum 16 = .ok (.getfield 77, 3) := by decide +kernel
theorem dX8_checksum_19 : decode cX8_checksum 19 = .ok (.if_icmp .ge 43, 3) := by decide +kernel
theorem dX8_checksum_22 : decode cX8_checksum 22 = .ok (.ldc2_w 252, 3) := by decide +kernel
theorem dX8_checksum_25 : decode cX8_checksum 25 = .ok (.lload_n 2, 1) := by decide +kernel
theorem dX8_checksum_26 : decode cX8_checksum 26 = .ok (.lmul, 1) := by decide +kernel
theorem dX8_checksum_27 : decode cX8_checksum 27 = .ok (.aload_n 1, 1) := by decide +kernel
theorem dX8_checksum_28 : decode cX8_checksum 28 = .ok (.getfield 94, 3) := by decide +kernel
theorem dX8_checksum_31 : decode cX8_checksum 31 = .ok (.iload 4, 2) := by decide +kernel
theorem dX8_checksum_33 : decode cX8_checksum 33 = .ok (.aaload, 1) := by decide +kernel
theorem dX8_checksum_34 : decode cX8_checksum 34 = .ok (.getfield 111, 3) := by decide +kernel
theorem dX8_checksum_37 : decode cX8_checksum 37 = .ok (.i2l, 1) := by decide +kernel
theorem dX8_checksum_38 : decode cX8_checksum 38 = .ok (.ladd, 1) := by decide +kernel
theorem dX8_checksum_39 : decode cX8_checksum 39 = .ok (.lstore_n 2, 1) := by decide +kernel
theorem dX8_checksum_40 : decode cX8_checksum 40 = .ok (.aload_n 1, 1) := by decide +kernel
theorem dX8_checksum_41 : decode cX8_checksum 41 = .ok (.getfield 94, 3) := by decide +kernel
theorem dX8_checksum_44 : decode cX8_checksum 44 = .ok (.iload 4, 2) := by decide +kernel
theorem dX8_checksum_46 : decode cX8_checksum 46 = .ok (.aaload, 1) := by decide +kernel
theorem dX8_checksum_47 : decode cX8_checksum 47 = .ok (.getfield 114, 3) := by decide +kernel
theorem dX8_checksum_50 : decode cX8_checksum 50 = .ok (.lload_n 2, 1) := by decide +kernel
theorem dX8_checksum_51 : decode cX8_checksum 51 = .ok (.iconst 3, 1) := by decide +kernel
theorem dX8_checksum_52 : decode cX8_checksum 52 = .ok (.invokevirtual 254, 3) := by decide +kernel
theorem dX8_checksum_55 : decode cX8_checksum 55 = .ok (.lstore_n 2, 1) := by decide +kernel
theorem dX8_checksum_56 : decode cX8_checksum 56 = .ok (.iinc 4 1, 3) := by decide +kernel
theorem dX8_checksum_59 : decode cX8_checksum 59 = .ok (.goto (-46), 3) := by decide +kernel
theorem dX8_checksum_62 : decode cX8_checksum 62 = .ok (.aload_n 1, 1) := by decide +kernel
theorem dX8_checksum_63 : decode cX8_checksum 63 = .ok (.getfield 152, 3) := by decide +kernel
theorem dX8_checksum_66 : decode cX8_checksum 66 = .ok (.lload_n 2, 1) := by decide +kernel
theorem dX8_checksum_67 : decode cX8_checksum 67 = .ok (.iconst 4, 1) := by decide +kernel
theorem dX8_checksum_68 : decode cX8_checksum 68 = .ok (.invokevirtual 254, 3) := by decide +kernel
theorem dX8_checksum_71 : decode cX8_checksum 71 = .ok (.lstore_n 2, 1) := by decide +kernel
theorem dX8_checksum_72 : decode cX8_checksum 72 = .ok (.iconst 0, 1) := by decide +kernel
theorem dX8_checksum_73 : decode cX8_checksum 73 = .ok (.istore 4, 2) := by decide +kernel
theorem dX8_checksum_75 : decode cX8_checksum 75 = .ok (.iload 4, 2) := by decide +kernel
theorem dX8_checksum_77 : decode cX8_checksum 77 = .ok (.aload_n 1, 1) := by decide +kernel
theorem dX8_checksum_78 : decode cX8_checksum 78 = .ok (.getfield 83, 3) := by decide +kernel
theorem dX8_checksum_81 : decode cX8_checksum 81 = .ok (.if_icmp .ge 24, 3) := by decide +kernel
theorem dX8_checksum_84 : decode cX8_checksum 84 = .ok (.ldc2_w 252, 3) := by decide +kernel
theorem dX8_checksum_87 : decode cX8_checksum 87 = .ok (.lload_n 2, 1) := by decide +kernel
theorem dX8_checksum_88 : decode cX8_checksum 88 = .ok (.lmul, 1) := by decide +kernel
theorem dX8_checksum_89 : decode cX8_checksum 89 = .ok (.aload_n 1, 1) := by decide +kernel
theorem dX8_checksum_90 : decode cX8_checksum 90 = .ok (.getfield 142, 3) := by decide +kernel
theorem dX8_checksum_93 : decode cX8_checksum 93 = .ok (.iload 4, 2) := by decide +kernel
theorem dX8_checksum_95 : decode cX8_checksum 95 = .ok (.iaload, 1) := by decide +kernel
theorem dX8_checksum_96 : decode cX8_checksum 96 = .ok (.i2l, 1) := by decide +kernel
theorem dX8_checksum_97 : decode cX8_checksum 97 = .ok (.ladd, 1) := by decide +kernel
theorem dX8_checksum_98 : decode cX8_checksum 98 = .ok (.lstore_n 2, 1) := by decide +kernel
theorem dX8_checksum_99 : decode cX8_checksum 99 = .ok (.iinc 4 1, 3) := by decide +kernel
theorem dX8_checksum_102 : decode cX8_checksum 102 = .ok (.goto (-27), 3) := by decide +kernel
theorem dX8_checksum_105 : decode cX8_checksum 105 = .ok (.ldc2_w 252, 3) := by decide +kernel
theorem dX8_checksum_108 : decode cX8_checksum 108 = .ok (.lload_n 2, 1) := by decide +kernel
theorem dX8_checksum_109 : decode cX8_checksum 109 = .ok (.lmul, 1) := by decide +kernel
theorem dX8_checksum_110 : decode cX8_checksum 110 = .ok (.aload_n 1, 1) := by decide +kernel
theorem dX8_checksum_111 : decode cX8_checksum 111 = .ok (.getfield 182, 3) := by decide +kernel
theorem dX8_checksum_114 : decode cX8_checksum 114 = .ok (.i2l, 1) := by decide +kernel
theorem dX8_checksum_115 : decode cX8_checksum 115 = .ok (.ladd, 1) := by decide +kernel
theorem dX8_checksum_116 : decode cX8_checksum 116 = .ok (.lreturn, 1) := by decide +kernel
theorem dX8_appendWord_0 : decode cX8_appendWord 0 = .ok (.aload_n 0, 1) := by decide +kernel
theorem dX8_appendWord_1 : decode cX8_appendWord 1 = .ok (.getfield 13, 3) := by decide +kernel
theorem dX8_appendWord_4 : decode cX8_appendWord 4 = .ok (.sipush 796, 3) := by decide +kernel
theorem dX8_appendWord_7 : decode cX8_appendWord 7 = .ok (.if_icmp .le 4, 3) := by decide +kernel
theorem dX8_appendWord_10 : decode cX8_appendWord 10 = .ok (.return_, 1) := by decide +kernel
theorem dX8_appendWord_11 : decode cX8_appendWord 11 = .ok (.bipush 24, 2) := by decide +kernel
theorem dX8_appendWord_13 : decode cX8_appendWord 13 = .ok (.istore_n 2, 1) := by decide +kernel
theorem dX8_appendWord_14 : decode cX8_appendWord 14 = .ok (.iload_n 2, 1) := by decide +kernel
theorem dX8_appendWord_15 : decode cX8_appendWord 15 = .ok (.ifCond .lt 32, 3) := by decide +kernel
theorem dX8_appendWord_18 : decode cX8_appendWord 18 = .ok (.aload_n 0, 1) := by decide +kernel
theorem dX8_appendWord_19 : decode cX8_appendWord 19 = .ok (.getfield 9, 3) := by decide +kernel
theorem dX8_appendWord_22 : decode cX8_appendWord 22 = .ok (.aload_n 0, 1) := by decide +kernel
theorem dX8_appendWord_23 : decode cX8_appendWord 23 = .ok (.getfield 13, 3) := by decide +kernel
theorem dX8_appendWord_26 : decode cX8_appendWord 26 = .ok (.iload_n 1, 1) := by decide +kernel
theorem dX8_appendWord_27 : decode cX8_appendWord 27 = .ok (.iload_n 2, 1) := by decide +kernel
theorem dX8_appendWord_28 : decode cX8_appendWord 28 = .ok (.ishr, 1) := by decide +kernel
theorem dX8_appendWord_29 : decode cX8_appendWord 29 = .ok (.i2b, 1) := by decide +kernel
theorem dX8_appendWord_30 : decode cX8_appendWord 30 = .ok (.bastore, 1) := by decide +kernel
theorem dX8_appendWord_31 : decode cX8_appendWord 31 = .ok (.aload_n 0, 1) := by decide +kernel
theorem dX8_appendWord_32 : decode cX8_appendWord 32 = .ok (.dup, 1) := by decide +kernel
theorem dX8_appendWord_33 : decode cX8_appendWord 33 = .ok (.getfield 13, 3) := by decide +kernel
theorem dX8_appendWord_36 : decode cX8_appendWord 36 = .ok (.iconst 1, 1) := by decide +kernel
theorem dX8_appendWord_37 : decode cX8_appendWord 37 = .ok (.iadd, 1) := by decide +kernel
theorem dX8_appendWord_38 : decode cX8_appendWord 38 = .ok (.putfield 13, 3) := by decide +kernel
theorem dX8_appendWord_41 : decode cX8_appendWord 41 = .ok (.iinc 2 (-8), 3) := by decide +kernel
theorem dX8_appendWord_44 : decode cX8_appendWord 44 = .ok (.goto (-30), 3) := by decide +kernel
theorem dX8_appendWord_47 : decode cX8_appendWord 47 = .ok (.return_, 1) := by decide +kernel
theorem dX8_checkBreak_0 : decode cX8_checkBreak 0 = .ok (.iload_n 1, 1) := by decide +kernel
theorem dX8_checkBreak_1 : decode cX8_checkBreak 1 = .ok (.ifCond .lt 11, 3) := by decide +kernel
theorem dX8_checkBreak_4 : decode cX8_checkBreak 4 = .ok (.iload_n 1, 1) := by decide +kernel
theorem dX8_checkBreak_5 : decode cX8_checkBreak 5 = .ok (.aload_n 0, 1) := by decide +kernel
theorem dX8_checkBreak_6 : decode cX8_checkBreak 6 = .ok (.getfield 77, 3) := by decide +kernel
theorem dX8_checkBreak_9 : decode cX8_checkBreak 9 = .ok (.if_icmp .lt 14, 3) := by decide +kernel
theorem dX8_checkBreak_12 : decode cX8_checkBreak 12 = .ok (.new 197, 3) := by decide +kernel
theorem dX8_checkBreak_15 : decode cX8_checkBreak 15 = .ok (.dup, 1) := by decide +kernel
theorem dX8_checkBreak_16 : decode cX8_checkBreak 16 = .ok (.ldc_w 258, 3) := by decide +kernel
theorem dX8_checkBreak_19 : decode cX8_checkBreak 19 = .ok (.invokespecial 201, 3) := by decide +kernel
theorem dX8_checkBreak_22 : decode cX8_checkBreak 22 = .ok (.athrow, 1) := by decide +kernel
theorem dX8_checkBreak_23 : decode cX8_checkBreak 23 = .ok (.return_, 1) := by decide +kernel
theorem dX8_checkSponsor_0 : decode cX8_checkSponsor 0 = .ok (.iload_n 1, 1) := by decide +kernel
theorem dX8_checkSponsor_1 : decode cX8_checkSponsor 1 = .ok (.ifCond .lt 11, 3) := by decide +kernel
theorem dX8_checkSponsor_4 : decode cX8_checkSponsor 4 = .ok (.iload_n 1, 1) := by decide +kernel
theorem dX8_checkSponsor_5 : decode cX8_checkSponsor 5 = .ok (.aload_n 0, 1) := by decide +kernel
theorem dX8_checkSponsor_6 : decode cX8_checkSponsor 6 = .ok (.getfield 83, 3) := by decide +kernel
theorem dX8_checkSponsor_9 : decode cX8_checkSponsor 9 = .ok (.if_icmp .lt 14, 3) := by decide +kernel
theorem dX8_checkSponsor_12 : decode cX8_checkSponsor 12 = .ok (.new 197, 3) := by decide +kernel
theorem dX8_checkSponsor_15 : decode cX8_checkSponsor 15 = .ok (.dup, 1) := by decide +kernel
theorem dX8_checkSponsor_16 : decode cX8_checkSponsor 16 = .ok (.ldc_w 260, 3) := by decide +kernel
theorem dX8_checkSponsor_19 : decode cX8_checkSponsor 19 = .ok (.invokespecial 201, 3) := by decide +kernel
theorem dX8_checkSponsor_22 : decode cX8_checkSponsor 22 = .ok (.athrow, 1) := by decide +kernel
theorem dX8_checkSponsor_23 : decode cX8_checkSponsor 23 = .ok (.return_, 1) := by decide +kernel
theorem dX8_checkPlace_0 : decode cX8_checkPlace 0 = .ok (.iload_n 1, 1) := by decide +kernel
theorem dX8_checkPlace_1 : decode cX8_checkPlace 1 = .ok (.ifCond .lt 11, 3) := by decide +kernel
theorem dX8_checkPlace_4 : decode cX8_checkPlace 4 = .ok (.iload_n 1, 1) := by decide +kernel
theorem dX8_checkPlace_5 : decode cX8_checkPlace 5 = .ok (.aload_n 0, 1) := by decide +kernel
theorem dX8_checkPlace_6 : decode cX8_checkPlace 6 = .ok (.getfield 118, 3) := by decide +kernel
theorem dX8_checkPlace_9 : decode cX8_checkPlace 9 = .ok (.if_icmp .lt 14, 3) := by decide +kernel
theorem dX8_checkPlace_12 : decode cX8_checkPlace 12 = .ok (.new 262, 3) := by decide +kernel
theorem dX8_checkPlace_15 : decode cX8_checkPlace 15 = .ok (.dup, 1) := by decide +kernel
theorem dX8_checkPlace_16 : decode cX8_checkPlace 16 = .ok (.ldc_w 264, 3) := by decide +kernel
theorem dX8_checkPlace_19 : decode cX8_checkPlace 19 = .ok (.invokespecial 266, 3) := by decide +kernel
theorem dX8_checkPlace_22 : decode cX8_checkPlace 22 = .ok (.athrow, 1) := by decide +kernel
theorem dX8_checkPlace_23 : decode cX8_checkPlace 23 = .ok (.return_, 1) := by decide +kernel
theorem dX8_checkRange_0 : decode cX8_checkRange 0 = .ok (.iload_n 0, 1) := by decide +kernel
theorem dX8_checkRange_1 : decode cX8_checkRange 1 = .ok (.iload_n 1, 1) := by decide +kernel
theorem dX8_checkRange_2 : decode cX8_checkRange 2 = .ok (.if_icmp .lt 8, 3) := by decide +kernel
theorem dX8_checkRange_5 : decode cX8_checkRange 5 = .ok (.iload_n 0, 1) := by decide +kernel
theorem dX8_checkRange_6 : decode cX8_checkRange 6 = .ok (.iload_n 2, 1) := by decide +kernel
theorem dX8_checkRange_7 : decode cX8_checkRange 7 = .ok (.if_icmp .le 14, 3) := by decide +kernel
theorem dX8_checkRange_10 : decode cX8_checkRange 10 = .ok (.new 52, 3) := by decide +kernel
theorem dX8_checkRange_13 : decode cX8_checkRange 13 = .ok (.dup, 1) := by decide +kernel
theorem dX8_checkRange_14 : decode cX8_checkRange 14 = .ok (.ldc_w 267, 3) := by decide +kernel
theorem dX8_checkRange_17 : decode cX8_checkRange 17 = .ok (.invokespecial 56, 3) := by decide +kernel
theorem dX8_checkRange_20 : decode cX8_checkRange 20 = .ok (.athrow, 1) := by decide +kernel
theorem dX8_checkRange_21 : decode cX8_checkRange 21 = .ok (.return_, 1) := by decide +kernel
theorem dX8_checkSet_0 : decode cX8_checkSet 0 = .ok (.iload_n 1, 1) := by decide +kernel
theorem dX8_checkSet_1 : decode cX8_checkSet 1 = .ok (.iconst 0, 1) := by decide +kernel
theorem dX8_checkSet_2 : decode cX8_checkSet 2 = .ok (.iconst 1, 1) := by decide +kernel
theorem dX8_checkSet_3 : decode cX8_checkSet 3 = .ok (.aload_n 0, 1) := by decide +kernel
theorem dX8_checkSet_4 : decode cX8_checkSet 4 = .ok (.getfield 83, 3) := by decide +kernel
theorem dX8_checkSet_7 : decode cX8_checkSet 7 = .ok (.ishl, 1) := by decide +kernel
theorem dX8_checkSet_8 : decode cX8_checkSet 8 = .ok (.iconst 1, 1) := by decide +kernel
theorem dX8_checkSet_9 : decode cX8_checkSet 9 = .ok (.isub, 1) := by decide +kernel
theorem dX8_checkSet_10 : decode cX8_checkSet 10 = .ok (.invokestatic 90, 3) := by decide +kernel
theorem dX8_checkSet_13 : decode cX8_checkSet 13 = .ok (.return_, 1) := by decide +kernel
theorem dX8_checkSpotIn_0 : decode cX8_checkSpotIn 0 = .ok (.aload_n 0, 1) := by decide +kernel
theorem dX8_checkSpotIn_1 : decode cX8_checkSpotIn 1 = .ok (.iload_n 1, 1) := by decide +kernel
theorem dX8_checkSpotIn_2 : decode cX8_checkSpotIn 2 = .ok (.invokestatic 135, 3) := by decide +kernel
theorem dX8_checkSpotIn_5 : decode cX8_checkSpotIn 5 = .ok (.aload_n 0, 1) := by decide +kernel
theorem dX8_checkSpotIn_6 : decode cX8_checkSpotIn 6 = .ok (.iload_n 3, 1) := by decide +kernel
theorem dX8_checkSpotIn_7 : decode cX8_checkSpotIn 7 = .ok (.invokestatic 86, 3) := by decide +kernel
theorem dX8_checkSpotIn_10 : decode cX8_checkSpotIn 10 = .ok (.iload_n 2, 1) := by decide +kernel
theorem dX8_checkSpotIn_11 : decode cX8_checkSpotIn 11 = .ok (.iconst 5, 1) := by decide +kernel
theorem dX8_checkSpotIn_12 : decode cX8_checkSpotIn 12 = .ok (.bipush 60, 2) := by decide +kernel
theorem dX8_checkSpotIn_14 : decode cX8_checkSpotIn 14 = .ok (.invokestatic 90, 3) := by decide +kernel
theorem dX8_checkSpotIn_17 : decode cX8_checkSpotIn 17 = .ok (.return_, 1) := by decide +kernel
theorem dX9_init_0 : decode cX9_init 0 = .ok (.aload_n 0, 1) := by decide +kernel
theorem dX9_init_1 : decode cX9_init 1 = .ok (.invokespecial 3, 3) := by decide +kernel
theorem dX9_init_4 : decode cX9_init 4 = .ok (.aload_n 0, 1) := by decide +kernel
theorem dX9_init_5 : decode cX9_init 5 = .ok (.sipush 800, 3) := by decide +kernel
theorem dX9_init_8 : decode cX9_init 8 = .ok (.newarray .int, 2) := by decide +kernel
theorem dX9_init_10 : decode cX9_init 10 = .ok (.putfield 9, 3) := by decide +kernel
theorem dX9_init_13 : decode cX9_init 13 = .ok (.aload_n 0, 1) := by decide +kernel
theorem dX9_init_14 : decode cX9_init 14 = .ok (.iconst (-1), 1) := by decide +kernel
theorem dX9_init_15 : decode cX9_init 15 = .ok (.putfield 13, 3) := by decide +kernel
theorem dX9_init_18 : decode cX9_init 18 = .ok (.aload_n 0, 1) := by decide +kernel
theorem dX9_init_19 : decode cX9_init 19 = .ok (.sipush 2663, 3) := by decide +kernel
theorem dX9_init_22 : decode cX9_init 22 = .ok (.newarray .int, 2) := by decide +kernel
theorem dX9_init_24 : decode cX9_init 24 = .ok (.putfield 17, 3) := by decide +kernel
theorem dX9_init_27 : decode cX9_init 27 = .ok (.aload_n 0, 1) := by decide +kernel
theorem dX9_init_28 : decode cX9_init 28 = .ok (.sipush 2663, 3) := by decide +kernel
theorem dX9_init_31 : decode cX9_init 31 = .ok (.newarray .int, 2) := by decide +kernel
theorem dX9_init_33 : decode cX9_init 33 = .ok (.putfield 20, 3) := by decide +kernel
theorem dX9_init_36 : decode cX9_init 36 = .ok (.aload_n 0, 1) := by decide +kernel
theorem dX9_init_37 : decode cX9_init 37 = .ok (.bipush 8, 2) := by decide +kernel
theorem dX9_init_39 : decode cX9_init 39 = .ok (.sipush 2663, 3) := by decide +kernel
theorem dX9_init_42 : decode cX9_init 42 = .ok (.multianewarray 23 2, 4) := by decide +kernel
theorem dX9_init_46 : decode cX9_init 46 = .ok (.putfield 25, 3) := by decide +kernel
theorem dX9_init_49 : decode cX9_init 49 = .ok (.aload_n 0, 1) := by decide +kernel
theorem dX9_init_50 : decode cX9_init 50 = .ok (.sipush 1300, 3) := by decide +kernel
theorem dX9_init_53 : decode cX9_init 53 = .ok (.newarray .long, 2) := by decide +kernel
theorem dX9_init_55 : decode cX9_init 55 = .ok (.putfield 28, 3) := by decide +kernel
theorem dX9_init_58 : decode cX9_init 58 = .ok (.aload_n 0, 1) := by decide +kernel
theorem dX9_init_59 : decode cX9_init 59 = .ok (.sipush 256, 3) := by decide +kernel
theorem dX9_init_62 : decode cX9_init 62 = .ok (.bipush 8, 2) := by decide +kernel
theorem dX9_init_64 : decode cX9_init 64 = .ok (.multianewarray 23 2, 4) := by decide +kernel
theorem dX9_init_68 : decode cX9_init 68 = .ok (.putfield 32, 3) := by decide +kernel
theorem dX9_init_71 : decode cX9_init 71 = .ok (.aload_n 0, 1) := by decide +kernel
theorem dX9_init_72 : decode cX9_init 72 = .ok (.bipush 8, 2) := by decide +kernel
theorem dX9_init_74 : decode cX9_init 74 = .ok (.newarray .int, 2) := by decide +kernel
theorem dX9_init_76 : decode cX9_init 76 = .ok (.putfield 35, 3) := by decide +kernel
theorem dX9_init_79 : decode cX9_init 79 = .ok (.aload_n 0, 1) := by decide +kernel
theorem dX9_init_80 : decode cX9_init 80 = .ok (.bipush 24, 2) := by decide +kernel
theorem dX9_init_82 : decode cX9_init 82 = .ok (.newarray .int, 2) := by decide +kernel
theorem dX9_init_84 : decode cX9_init 84 = .ok (.putfield 38, 3) := by decide +kernel
theorem dX9_init_87 : decode cX9_init 87 = .ok (.return_, 1) := by decide +kernel
theorem dX9_thrown_0 : decode cX9_thrown 0 = .ok (.aload_n 0, 1) := by decide +kernel
theorem dX9_thrown_1 : decode cX9_thrown 1 = .ok (.getfield 41, 3) := by decide +kernel
theorem dX9_thrown_4 : decode cX9_thrown 4 = .ok (.ireturn, 1) := by decide +kernel
theorem dX9_fails_0 : decode cX9_fails 0 = .ok (.iload_n 1, 1) := by decide +kernel
theorem dX9_fails_1 : decode cX9_fails 1 = .ok (.ifCond .eq 15, 3) := by decide +kernel
theorem dX9_fails_4 : decode cX9_fails 4 = .ok (.aload_n 0, 1) := by decide +kernel
theorem dX9_fails_5 : decode cX9_fails 5 = .ok (.getfield 41, 3) := by decide +kernel
theorem dX9_fails_8 : decode cX9_fails 8 = .ok (.ifCond .ne 8, 3) := by decide +kernel
theorem dX9_fails_11 : decode cX9_fails 11 = .ok (.aload_n 0, 1) := by decide +kernel
theorem dX9_fails_12 : decode cX9_fails 12 = .ok (.iload_n 2, 1) := by decide +kernel
theorem dX9_fails_13 : decode cX9_fails 13 = .ok (.putfield 41, 3) := by decide +kernel
theorem dX9_fails_16 : decode cX9_fails 16 = .ok (.aload_n 0, 1) := by decide +kernel
theorem dX9_fails_17 : decode cX9_fails 17 = .ok (.getfield 41, 3) := by decide +kernel
theorem dX9_fails_20 : decode cX9_fails 20 = .ok (.ifCond .eq 7, 3) := by decide +kernel
theorem dX9_fails_23 : decode cX9_fails 23 = .ok (.iconst 1, 1) := by decide +kernel
theorem dX9_fails_24 : decode cX9_fails 24 = .ok (.goto 4, 3) := by decide +kernel
theorem dX9_fails_27 : decode cX9_fails 27 = .ok (.iconst 0, 1) := by decide +kernel
theorem dX9_fails_28 : decode cX9_fails 28 = .ok (.ireturn, 1) := by decide +kernel
theorem dX9_in_0 : decode cX9_in 0 = .ok (.iload_n 0, 1) := by decide +kernel
theorem dX9_in_1 : decode cX9_in 1 = .ok (.iload_n 1, 1) := by decide +kernel
theorem dX9_in_2 : decode cX9_in 2 = .ok (.if_icmp .lt 12, 3) := by decide +kernel
theorem dX9_in_5 : decode cX9_in 5 = .ok (.iload_n 0, 1) := by decide +kernel
theorem dX9_in_6 : decode cX9_in 6 = .ok (.iload_n 2, 1) := by decide +kernel
theorem dX9_in_7 : decode cX9_in 7 = .ok (.if_icmp .gt 7, 3) := by decide +kernel
theorem dX9_in_10 : decode cX9_in 10 = .ok (.iconst 1, 1) := by decide +kernel
theorem dX9_in_11 : decode cX9_in 11 = .ok (.goto 4, 3) := by decide +kernel
theorem dX9_in_14 : decode cX9_in 14 = .ok (.iconst 0, 1) := by decide +kernel
theorem dX9_in_15 : decode cX9_in 15 = .ok (.ireturn, 1) := by decide +kernel
theorem dX9_min_0 : decode cX9_min 0 = .ok (.iload_n 0, 1) := by decide +kernel
theorem dX9_min_1 : decode cX9_min 1 = .ok (.iload_n 1, 1) := by decide +kernel
theorem dX9_min_2 : decode cX9_min 2 = .ok (.if_icmp .ge 7, 3) := by decide +kernel
theorem dX9_min_5 : decode cX9_min 5 = .ok (.iload_n 0, 1) := by decide +kernel
theorem dX9_min_6 : decode cX9_min 6 = .ok (.goto 4, 3) := by decide +kernel
theorem dX9_min_9 : decode cX9_min 9 = .ok (.iload_n 1, 1) := by decide +kernel
theorem dX9_min_10 : decode cX9_min 10 = .ok (.ireturn, 1) := by decide +kernel
theorem dX9_copy_0 : decode cX9_copy 0 = .ok (.iconst 0, 1) := by decide +kernel
theorem dX9_copy_1 : decode cX9_copy 1 = .ok (.istore_n 2, 1) := by decide +kernel
theorem dX9_copy_2 : decode cX9_copy 2 = .ok (.iload_n 2, 1) := by decide +kernel
theorem dX9_copy_3 : decode cX9_copy 3 = .ok (.sipush 2663, 3) := by decide +kernel
theorem dX9_copy_6 : decode cX9_copy 6 = .ok (.if_icmp .ge 15, 3) := by decide +kernel
theorem dX9_copy_9 : decode cX9_copy 9 = .ok (.aload_n 1, 1) := by decide +kernel
theorem dX9_copy_10 : decode cX9_copy 10 = .ok (.iload_n 2, 1) := by decide +kernel
theorem dX9_copy_11 : decode cX9_copy 11 = .ok (.aload_n 0, 1) := by decide +kernel
theorem dX9_copy_12 : decode cX9_copy 12 = .ok (.iload_n 2, 1) := by decide +kernel
theorem dX9_copy_13 : decode cX9_copy 13 = .ok (.iaload, 1) := by decide +kernel
theorem dX9_copy_14 : decode cX9_copy 14 = .ok (.iastore, 1) := by decide +kernel
theorem dX9_copy_15 : decode cX9_copy 15 = .ok (.iinc 2 1, 3) := by decide +kernel
theorem dX9_copy_18 : decode cX9_copy 18 = .ok (.goto (-16), 3) := by decide +kernel
theorem dX9_copy_21 : decode cX9_copy 21 = .ok (.return_, 1) := by decide +kernel
theorem dX9_at_0 : decode cX9_at 0 = .ok (.bipush 7, 2) := by decide +kernel
theorem dX9_at_2 : decode cX9_at 2 = .ok (.bipush 30, 2) := by decide +kernel
theorem dX9_at_4 : decode cX9_at 4 = .ok (.iload_n 0, 1) := by decide +kernel
theorem dX9_at_5 : decode cX9_at 5 = .ok (.imul, 1) := by decide +kernel
theorem dX9_at_6 : decode cX9_at 6 = .ok (.iadd, 1) := by decide +kernel
theorem dX9_at_7 : decode cX9_at 7 = .ok (.ireturn, 1) := by decide +kernel
theorem dX9_when_0 : decode cX9_when 0 = .ok (.bipush 24, 2) := by decide +kernel
theorem dX9_when_2 : decode cX9_when 2 = .ok (.aload_n 0, 1) := by decide +kernel
theorem dX9_when_3 : decode cX9_when 3 = .ok (.iload_n 1, 1) := by decide +kernel
theorem dX9_when_4 : decode cX9_when 4 = .ok (.invokestatic 44, 3) := by decide +kernel
theorem dX9_when_7 : decode cX9_when 7 = .ok (.iaload, 1) := by decide +kernel
theorem dX9_when_8 : decode cX9_when 8 = .ok (.imul, 1) := by decide +kernel
theorem dX9_when_9 : decode cX9_when 9 = .ok (.aload_n 0, 1) := by decide +kernel
theorem dX9_when_10 : decode cX9_when 10 = .ok (.iload_n 1, 1) := by decide +kernel
theorem dX9_when_11 : decode cX9_when 11 = .ok (.invokestatic 44, 3) := by decide +kernel
theorem dX9_when_14 : decode cX9_when 14 = .ok (.iconst 1, 1) := by decide +kernel
theorem dX9_when_15 : decode cX9_when 15 = .ok (.iadd, 1) := by decide +kernel
theorem dX9_when_16 : decode cX9_when 16 = .ok (.iaload, 1) := by decide +kernel
theorem dX9_when_17 : decode cX9_when 17 = .ok (.iadd, 1) := by decide +kernel
theorem dX9_when_18 : decode cX9_when 18 = .ok (.ireturn, 1) := by decide +kernel
theorem dX9_append_0 : decode cX9_append 0 = .ok (.aload_n 0, 1) := by decide +kernel
theorem dX9_append_1 : decode cX9_append 1 = .ok (.iconst 0, 1) := by decide +kernel
theorem dX9_append_2 : decode cX9_append 2 = .ok (.putfield 41, 3) := by decide +kernel
theorem dX9_append_5 : decode cX9_append 5 = .ok (.aload_n 0, 1) := by decide +kernel
theorem dX9_append_6 : decode cX9_append 6 = .ok (.getfield 48, 3) := by decide +kernel
theorem dX9_append_9 : decode cX9_append 9 = .ok (.bipush 20, 2) := by decide +kernel
theorem dX9_append_11 : decode cX9_append 11 = .ok (.iadd, 1) := by decide +kernel
theorem dX9_append_12 : decode cX9_append 12 = .ok (.sipush 800, 3) := by decide +kernel
theorem dX9_append_15 : decode cX9_append 15 = .ok (.if_icmp .le 5, 3) := by decide +kernel
theorem dX9_append_18 : decode cX9_append 18 = .ok (.iconst (-1), 1) := by decide +kernel
theorem dX9_append_19 : decode cX9_append 19 = .ok (.ireturn, 1) := by decide +kernel
theorem dX9_append_20 : decode cX9_append 20 = .ok (.iconst 0, 1) := by decide +kernel
theorem dX9_append_21 : decode cX9_append 21 = .ok (.istore 6, 2) := by decide +kernel
theorem dX9_append_23 : decode cX9_append 23 = .ok (.iload 6, 2) := by decide +kernel
theorem dX9_append_25 : decode cX9_append 25 = .ok (.bipush 20, 2) := by decide +kernel
theorem dX9_append_27 : decode cX9_append 27 = .ok (.if_icmp .ge 93, 3) := by decide +kernel
theorem dX9_append_30 : decode cX9_append 30 = .ok (.iload 6, 2) := by decide +kernel
theorem dX9_append_32 : decode cX9_append 32 = .ok (.iconst 4, 1) := by decide +kernel
theorem dX9_append_33 : decode cX9_append 33 = .ok (.if_icmp .ge 7, 3) := by decide +kernel
theorem dX9_append_36 : decode cX9_append 36 = .ok (.iload_n 1, 1) := by decide +kernel
theorem dX9_append_37 : decode cX9_append 37 = .ok (.goto 39, 3) := by decide +kernel
theorem dX9_append_40 : decode cX9_append 40 = .ok (.iload 6, 2) := by decide +kernel
theorem dX9_append_42 : decode cX9_append 42 = .ok (.bipush 8, 2) := by decide +kernel
theorem dX9_append_44 : decode cX9_append 44 = .ok (.if_icmp .ge 7, 3) := by decide +kernel
theorem dX9_append_47 : decode cX9_append 47 = .ok (.iload_n 2, 1) := by decide +kernel
theorem dX9_append_48 : decode cX9_append 48 = .ok (.goto 28, 3) := by decide +kernel
theorem dX9_append_51 : decode cX9_append 51 = .ok (.iload 6, 2) := by decide +kernel
theorem dX9_append_53 : decode cX9_append 53 = .ok (.bipush 12, 2) := by decide +kernel
theorem dX9_append_55 : decode cX9_append 55 = .ok (.if_icmp .ge 7, 3) := by decide +kernel
theorem dX9_append_58 : decode cX9_append 58 = .ok (.iload_n 3, 1) := by decide +kernel
theorem dX9_append_59 : decode cX9_append 59 = .ok (.goto 17, 3) := by decide +kernel
theorem dX9_append_62 : decode cX9_append 62 = .ok (.iload 6, 2) := by decide +kernel
theorem dX9_append_64 : decode cX9_append 64 = .ok (.bipush 16, 2) := by decide +kernel
theorem dX9_append_66 : decode cX9_append 66 = .ok (.if_icmp .ge 8, 3) := by decide +kernel
theorem dX9_append_69 : decode cX9_append 69 = .ok (.iload 4, 2) := by decide +kernel
theorem dX9_append_71 : decode cX9_append 71 = .ok (.goto 5, 3) := by decide +kernel
theorem dX9_append_74 : decode cX9_append 74 = .ok (.iload 5, 2) := by decide +kernel
theorem dX9_append_76 : decode cX9_append 76 = .ok (.istore 7, 2) := by decide +kernel
theorem dX9_append_78 : decode cX9_append 78 = .ok (.aload_n 0, 1) := by decide +kernel
theorem dX9_append_79 : decode cX9_append 79 = .ok (.getfield 9, 3) := by decide +kernel
theorem dX9_append_82 : decode cX9_append 82 = .ok (.aload_n 0, 1) := by decide +kernel
theorem dX9_append_83 : decode cX9_append 83 = .ok (.getfield 48, 3) := by decide +kernel
theorem dX9_append_86 : decode cX9_append 86 = .ok (.iload 7, 2) := by decide +kernel
theorem dX9_append_88 : decode cX9_append 88 = .ok (.bipush 24, 2) := by decide +kernel
theorem dX9_append_90 : decode cX9_append 90 = .ok (.bipush 8, 2) := by decide +kernel
theorem dX9_append_92 : decode cX9_append 92 = .ok (.iload 6, 2) := by decide +kernel
theorem dX9_append_94 : decode cX9_append 94 = .ok (.iconst 4, 1) := by decide +kernel
theorem dX9_append_95 : decode cX9_append 95 = .ok (.irem, 1) := by decide +kernel
theorem dX9_append_96 : decode cX9_append 96 = .ok (.imul, 1) := by decide +kernel
theorem dX9_append_97 : decode cX9_append 97 = .ok (.isub, 1) := by decide +kernel
theorem dX9_append_98 : decode cX9_append 98 = .ok (.ishr, 1) := by decide +kernel
theorem dX9_append_99 : decode cX9_append 99 = .ok (.sipush 255, 3) := by decide +kernel
theorem dX9_append_102 : decode cX9_append 102 = .ok (.iand, 1) := by decide +kernel
theorem dX9_append_103 : decode cX9_append 103 = .ok (.iastore, 1) := by decide +kernel
theorem dX9_append_104 : decode cX9_append 104 = .ok (.aload_n 0, 1) := by decide +kernel
theorem dX9_append_105 : decode cX9_append 105 = .ok (.dup, 1) := by decide +kernel
theorem dX9_append_106 : decode cX9_append 106 = .ok (.getfield 48, 3) := by decide +kernel
theorem dX9_append_109 : decode cX9_append 109 = .ok (.iconst 1, 1) := by decide +kernel
theorem dX9_append_110 : decode cX9_append 110 = .ok (.iadd, 1) := by decide +kernel
theorem dX9_append_111 : decode cX9_append 111 = .ok (.putfield 48, 3) := by decide +kernel
theorem dX9_append_114 : decode cX9_append 114 = .ok (.iinc 6 1, 3) := by decide +kernel
theorem dX9_append_117 : decode cX9_append 117 = .ok (.goto (-94), 3) := by decide +kernel
theorem dX9_append_120 : decode cX9_append 120 = .ok (.aload_n 0, 1) := by decide +kernel
theorem dX9_append_121 : decode cX9_append 121 = .ok (.getfield 48, 3) := by decide +kernel
theorem dX9_append_124 : decode cX9_append 124 = .ok (.ireturn, 1) := by decide +kernel
theorem dX9_byteAt_0 : decode cX9_byteAt 0 = .ok (.iload_n 1, 1) := by decide +kernel
theorem dX9_byteAt_1 : decode cX9_byteAt 1 = .ok (.aload_n 0, 1) := by decide +kernel
theorem dX9_byteAt_2 : decode cX9_byteAt 2 = .ok (.getfield 51, 3) := by decide +kernel
theorem dX9_byteAt_5 : decode cX9_byteAt 5 = .ok (.if_icmp .ge 12, 3) := by decide +kernel
theorem dX9_byteAt_8 : decode cX9_byteAt 8 = .ok (.aload_n 0, 1) := by decide +kernel
theorem dX9_byteAt_9 : decode cX9_byteAt 9 = .ok (.getfield 9, 3) := by decide +kernel
theorem dX9_byteAt_12 : decode cX9_byteAt 12 = .ok (.iload_n 1, 1) := by decide +kernel
theorem dX9_byteAt_13 : decode cX9_byteAt 13 = .ok (.iaload, 1) := by decide +kernel
theorem dX9_byteAt_14 : decode cX9_byteAt 14 = .ok (.goto 4, 3) := by decide +kernel
theorem dX9_byteAt_17 : decode cX9_byteAt 17 = .ok (.iconst (-1), 1) := by decide +kernel
theorem dX9_byteAt_18 : decode cX9_byteAt 18 = .ok (.ireturn, 1) := by decide +kernel
theorem dX9_next_0 : decode cX9_next 0 = .ok (.aload_n 0, 1) := by decide +kernel
theorem dX9_next_1 : decode cX9_next 1 = .ok (.aload_n 0, 1) := by decide +kernel
theorem dX9_next_2 : decode cX9_next 2 = .ok (.getfield 54, 3) := by decide +kernel
theorem dX9_next_5 : decode cX9_next 5 = .ok (.invokevirtual 57, 3) := by decide +kernel
theorem dX9_next_8 : decode cX9_next 8 = .ok (.bipush 32, 2) := by decide +kernel
theorem dX9_next_10 : decode cX9_next 10 = .ok (.if_icmp .ne 16, 3) := by decide +kernel
theorem dX9_next_13 : decode cX9_next 13 = .ok (.aload_n 0, 1) := by decide +kernel
theorem dX9_next_14 : decode cX9_next 14 = .ok (.dup, 1) := by decide +kernel
theorem dX9_next_15 : decode cX9_next 15 = .ok (.getfield 54, 3) := by decide +kernel
theorem dX9_next_18 : decode cX9_next 18 = .ok (.iconst 1, 1) := by decide +kernel
theorem dX9_next_19 : decode cX9_next 19 = .ok (.iadd, 1) := by decide +kernel
theorem dX9_next_20 : decode cX9_next 20 = .ok (.putfield 54, 3) := by decide +kernel
theorem dX9_next_23 : decode cX9_next 23 = .ok (.goto (-23), 3) := by decide +kernel
theorem dX9_next_26 : decode cX9_next 26 = .ok (.aload_n 0, 1) := by decide +kernel
theorem dX9_next_27 : decode cX9_next 27 = .ok (.aload_n 0, 1) := by decide +kernel
theorem dX9_next_28 : decode cX9_next 28 = .ok (.getfield 54, 3) := by decide +kernel
theorem dX9_next_31 : decode cX9_next 31 = .ok (.invokevirtual 57, 3) := by decide +kernel
theorem dX9_next_34 : decode cX9_next 34 = .ok (.ireturn, 1) := by decide +kernel
theorem dX9_isGood_0 : decode cX9_isGood 0 = .ok (.aload_n 0, 1) := by decide +kernel
theorem dX9_isGood_1 : decode cX9_isGood 1 = .ok (.getfield 60, 3) := by decide +kernel
theorem dX9_isGood_4 : decode cX9_isGood 4 = .ok (.ifCond .ne 7, 3) := by decide +kernel
theorem dX9_isGood_7 : decode cX9_isGood 7 = .ok (.iconst 1, 1) := by decide +kernel
theorem dX9_isGood_8 : decode cX9_isGood 8 = .ok (.goto 4, 3) := by decide +kernel
theorem dX9_isGood_11 : decode cX9_isGood 11 = .ok (.iconst 0, 1) := by decide +kernel
theorem dX9_isGood_12 : decode cX9_isGood 12 = .ok (.ireturn, 1) := by decide +kernel
theorem dX9_report_0 : decode cX9_report 0 = .ok (.aload_n 0, 1) := by decide +kernel
theorem dX9_report_1 : decode cX9_report 1 = .ok (.getfield 60, 3) := by decide +kernel
theorem dX9_report_4 : decode cX9_report 4 = .ok (.ifCond .eq 4, 3) := by decide +kernel
theorem dX9_report_7 : decode cX9_report 7 = .ok (.return_, 1) := by decide +kernel
theorem dX9_report_8 : decode cX9_report 8 = .ok (.aload_n 0, 1) := by decide +kernel
theorem dX9_report_9 : decode cX9_report 9 = .ok (.iload_n 1, 1) := by decide +kernel
theorem dX9_report_10 : decode cX9_report 10 = .ok (.putfield 60, 3) := by decide +kernel
theorem dX9_report_13 : decode cX9_report 13 = .ok (.aload_n 0, 1) := by decide +kernel
theorem dX9_report_14 : decode cX9_report 14 = .ok (.iload_n 2, 1) := by decide +kernel
theorem dX9_report_15 : decode cX9_report 15 = .ok (.putfield 63, 3) := by decide +kernel
theorem dX9_report_18 : decode cX9_report 18 = .ok (.return_, 1) := by decide +kernel
theorem dX9_isDigit_0 : decode cX9_isDigit 0 = .ok (.iload_n 0, 1) := by decide +kernel
theorem dX9_isDigit_1 : decode cX9_isDigit 1 = .ok (.bipush 48, 2) := by decide +kernel
theorem dX9_isDigit_3 : decode cX9_isDigit 3 = .ok (.bipush 57, 2) := by decide +kernel
theorem dX9_isDigit_5 : decode cX9_isDigit 5 = .ok (.invokestatic 66, 3) := by decide +kernel
theorem dX9_isDigit_8 : decode cX9_isDigit 8 = .ok (.ireturn, 1) := by decide +kernel
theorem dX9_takeWord_0 : decode cX9_takeWord 0 = .ok (.aload_n 0, 1) := by decide +kernel
theorem dX9_takeWord_1 : decode cX9_takeWord 1 = .ok (.invokevirtual 70, 3) := by decide +kernel
theorem dX9_takeWord_4 : decode cX9_takeWord 4 = .ok (.ifCond .ne 5, 3) := by decide +kernel
theorem dX9_takeWord_7 : decode cX9_takeWord 7 = .ok (.iconst 0, 1) := by decide +kernel
theorem dX9_takeWord_8 : decode cX9_takeWord 8 = .ok (.ireturn, 1) := by decide +kernel
theorem dX9_takeWord_9 : decode cX9_takeWord 9 = .ok (.aload_n 0, 1) := by decide +kernel
theorem dX9_takeWord_10 : decode cX9_takeWord 10 = .ok (.invokevirtual 74, 3) := by decide +kernel
theorem dX9_takeWord_13 : decode cX9_takeWord 13 = .ok (.pop, 1) := by decide +kernel
theorem dX9_takeWord_14 : decode cX9_takeWord 14 = .ok (.iconst 0, 1) := by decide +kernel
theorem dX9_takeWord_15 : decode cX9_takeWord 15 = .ok (.istore_n 2, 1) := by decide +kernel
theorem dX9_takeWord_16 : decode cX9_takeWord 16 = .ok (.iload_n 2, 1) := by decide +kernel
theorem dX9_takeWord_17 : decode cX9_takeWord 17 = .ok (.aload_n 1, 1) := by decide +kernel
theorem dX9_takeWord_18 : decode cX9_takeWord 18 = .ok (.invokevirtual 78, 3) := by decide +kernel
theorem dX9_takeWord_21 : decode cX9_takeWord 21 = .ok (.if_icmp .ge 27, 3) := by decide +kernel
theorem dX9_takeWord_24 : decode cX9_takeWord 24 = .ok (.aload_n 0, 1) := by decide +kernel
theorem dX9_takeWord_25 : decode cX9_takeWord 25 = .ok (.aload_n 0, 1) := by decide +kernel
theorem dX9_takeWord_26 : decode cX9_takeWord 26 = .ok (.getfield 54, 3) := by decide +kernel
theorem dX9_takeWord_29 : decode cX9_takeWord 29 = .ok (.iload_n 2, 1) := by decide +kernel
theorem dX9_takeWord_30 : decode cX9_takeWord 30 = .ok (.iadd, 1) := by decide +kernel
theorem dX9_takeWord_31 : decode cX9_takeWord 31 = .ok (.invokevirtual 57, 3) := by decide +kernel
theorem dX9_takeWord_34 : decode cX9_takeWord 34 = .ok (.aload_n 1, 1) := by decide +kernel
theorem dX9_takeWord_35 : decode cX9_takeWord 35 = .ok (.iload_n 2, 1) := by decide +kernel
theorem dX9_takeWord_36 : decode cX9_takeWord 36 = .ok (.invokevirtual 83, 3) := by decide +kernel
theorem dX9_takeWord_39 : decode cX9_takeWord 39 = .ok (.if_icmp .ne 9, 3) := by decide +kernel
theorem dX9_takeWord_42 : decode cX9_takeWord 42 = .ok (.iinc 2 1, 3) := by decide +kernel
theorem dX9_takeWord_45 : decode cX9_takeWord 45 = .ok (.goto (-29), 3) := by decide +kernel
theorem dX9_takeWord_48 : decode cX9_takeWord 48 = .ok (.iload_n 2, 1) := by decide +kernel
theorem dX9_takeWord_49 : decode cX9_takeWord 49 = .ok (.aload_n 1, 1) := by decide +kernel
theorem dX9_takeWord_50 : decode cX9_takeWord 50 = .ok (.invokevirtual 78, 3) := by decide +kernel
theorem dX9_takeWord_53 : decode cX9_takeWord 53 = .ok (.if_icmp .lt 23, 3) := by decide +kernel
theorem dX9_takeWord_56 : decode cX9_takeWord 56 = .ok (.aload_n 0, 1) := by decide +kernel
theorem dX9_takeWord_57 : decode cX9_takeWord 57 = .ok (.aload_n 0, 1) := by decide +kernel
theorem dX9_takeWord_58 : decode cX9_takeWord 58 = .ok (.getfield 54, 3) := by decide +kernel
theorem dX9_takeWord_61 : decode cX9_takeWord 61 = .ok (.iload_n 2, 1) := by decide +kernel
theorem dX9_takeWord_62 : decode cX9_takeWord 62 = .ok (.iadd, 1) := by decide +kernel
theorem dX9_takeWord_63 : decode cX9_takeWord 63 = .ok (.invokevirtual 57, 3) := by decide +kernel
theorem dX9_takeWord_66 : decode cX9_takeWord 66 = .ok (.bipush 97, 2) := by decide +kernel
theorem dX9_takeWord_68 : decode cX9_takeWord 68 = .ok (.bipush 122, 2) := by decide +kernel
theorem dX9_takeWord_70 : decode cX9_takeWord 70 = .ok (.invokestatic 66, 3) := by decide +kernel
theorem dX9_takeWord_73 : decode cX9_takeWord 73 = .ok (.ifCond .eq 5, 3) := by decide +kernel
theorem dX9_takeWord_76 : decode cX9_takeWord 76 = .ok (.iconst 0, 1) := by decide +kernel
theorem dX9_takeWord_77 : decode cX9_takeWord 77 = .ok (.ireturn, 1) := by decide +kernel
theorem dX9_takeWord_78 : decode cX9_takeWord 78 = .ok (.aload_n 0, 1) := by decide +kernel
theorem dX9_takeWord_79 : decode cX9_takeWord 79 = .ok (.dup, 1) := by decide +kernel
theorem dX9_takeWord_80 : decode cX9_takeWord 80 = .ok (.getfield 54, 3) := by decide +kernel
theorem dX9_takeWord_83 : decode cX9_takeWord 83 = .ok (.iload_n 2, 1) := by decide +kernel
theorem dX9_takeWord_84 : decode cX9_takeWord 84 = .ok (.iadd, 1) := by decide +kernel
theorem dX9_takeWord_85 : decode cX9_takeWord 85 = .ok (.putfield 54, 3) := by decide +kernel
theorem dX9_takeWord_88 : decode cX9_takeWord 88 = .ok (.iconst 1, 1) := by decide +kernel
theorem dX9_takeWord_89 : decode cX9_takeWord 89 = .ok (.ireturn, 1) := by decide +kernel
theorem dX9_expect_0 : decode cX9_expect 0 = .ok (.aload_n 0, 1) := by decide +kernel
theorem dX9_expect_1 : decode cX9_expect 1 = .ok (.invokevirtual 70, 3) := by decide +kernel
theorem dX9_expect_4 : decode cX9_expect 4 = .ok (.ifCond .ne 4, 3) := by decide +kernel
theorem dX9_expect_7 : decode cX9_expect 7 = .ok (.return_, 1) := by decide +kernel
theorem dX9_expect_8 : decode cX9_expect 8 = .ok (.aload_n 0, 1) := by decide +kernel
theorem dX9_expect_9 : decode cX9_expect 9 = .ok (.invokevirtual 74, 3) := by decide +kernel
theorem dX9_expect_12 : decode cX9_expect 12 = .ok (.iload_n 1, 1) := by decide +kernel
theorem dX9_expect_13 : decode cX9_expect 13 = .ok (.if_icmp .ne 16, 3) := by decide +kernel
theorem dX9_expect_16 : decode cX9_expect 16 = .ok (.aload_n 0, 1) := by decide +kernel
theorem dX9_expect_17 : decode cX9_expect 17 = .ok (.dup, 1) := by decide +kernel
theorem dX9_expect_18 : decode cX9_expect 18 = .ok (.getfield 54, 3) := by decide +kernel
theorem dX9_expect_21 : decode cX9_expect 21 = .ok (.iconst 1, 1) := by decide +kernel
theorem dX9_expect_22 : decode cX9_expect 22 = .ok (.iadd, 1) := by decide +kernel
theorem dX9_expect_23 : decode cX9_expect 23 = .ok (.putfield 54, 3) := by decide +kernel
theorem dX9_expect_26 : decode cX9_expect 26 = .ok (.goto 13, 3) := by decide +kernel
theorem dX9_expect_29 : decode cX9_expect 29 = .ok (.aload_n 0, 1) := by decide +kernel
theorem dX9_expect_30 : decode cX9_expect 30 = .ok (.bipush (-2), 2) := by decide +kernel
theorem dX9_expect_32 : decode cX9_expect 32 = .ok (.aload_n 0, 1) := by decide +kernel
theorem dX9_expect_33 : decode cX9_expect 33 = .ok (.getfield 54, 3) := by decide +kernel
theorem dX9_expect_36 : decode cX9_expect 36 = .ok (.invokevirtual 87, 3) := by decide +kernel
theorem dX9_expect_39 : decode cX9_expect 39 = .ok (.return_, 1) := by decide +kernel
theorem dX9_number_0 : decode cX9_number 0 = .ok (.aload_n 0, 1) := by decide +kernel
theorem dX9_number_1 : decode cX9_number 1 = .ok (.invokevirtual 70, 3) := by decide +kernel
theorem dX9_number_4 : decode cX9_number 4 = .ok (.ifCond .ne 5, 3) := by decide +kernel
theorem dX9_number_7 : decode cX9_number 7 = .ok (.iconst 0, 1) := by decide +kernel
theorem dX9_number_8 : decode cX9_number 8 = .ok (.ireturn, 1) := by decide +kernel
theorem dX9_number_9 : decode cX9_number 9 = .ok (.aload_n 0, 1) := by decide +kernel
theorem dX9_number_10 : decode cX9_number 10 = .ok (.invokevirtual 74, 3) := by decide +kernel
theorem dX9_number_13 : decode cX9_number 13 = .ok (.invokestatic 91, 3) := by decide +kernel
theorem dX9_number_16 : decode cX9_number 16 = .ok (.ifCond .ne 15, 3) := by decide +kernel
theorem dX9_number_19 : decode cX9_number 19 = .ok (.aload_n 0, 1) := by decide +kernel
theorem dX9_number_20 : decode cX9_number 20 = .ok (.bipush (-2), 2) := by decide +kernel
theorem dX9_number_22 : decode cX9_number 22 = .ok (.aload_n 0, 1) := by decide +kernel
theorem dX9_number_23 : decode cX9_number 23 = .ok (.getfield 54, 3) := by decide +kernel
theorem dX9_number_26 : decode cX9_number 26 = .ok (.invokevirtual 87, 3) := by decide +kernel
theorem dX9_number_29 : decode cX9_number 29 = .ok (.iconst 0, 1) := by decide +kernel
theorem dX9_number_30 : decode cX9_number 30 = .ok (.ireturn, 1) := by decide +kernel
theorem dX9_number_31 : decode cX9_number 31 = .ok (.aload_n 0, 1) := by decide +kernel
theorem dX9_number_32 : decode cX9_number 32 = .ok (.aload_n 0, 1) := by decide +kernel
theorem dX9_number_33 : decode cX9_number 33 = .ok (.getfield 54, 3) := by decide +kernel
theorem dX9_number_36 : decode cX9_number 36 = .ok (.putfield 95, 3) := by decide +kernel
theorem dX9_number_39 : decode cX9_number 39 = .ok (.iconst 0, 1) := by decide +kernel
theorem dX9_number_40 : decode cX9_number 40 = .ok (.istore_n 3, 1) := by decide +kernel
theorem dX9_number_41 : decode cX9_number 41 = .ok (.aload_n 0, 1) := by decide +kernel
theorem dX9_number_42 : decode cX9_number 42 = .ok (.aload_n 0, 1) := by decide +kernel
theorem dX9_number_43 : decode cX9_number 43 = .ok (.getfield 54, 3) := by decide +kernel
theorem dX9_number_46 : decode cX9_number 46 = .ok (.invokevirtual 57, 3) := by decide +kernel
theorem dX9_number_49 : decode cX9_number 49 = .ok (.invokestatic 91, 3) := by decide +kernel
theorem dX9_number_52 : decode cX9_number 52 = .ok (.ifCond .eq 38, 3) := by decide +kernel
theorem dX9_number_55 : decode cX9_number 55 = .ok (.ldc 98, 2) := by decide +kernel
theorem dX9_number_57 : decode cX9_number 57 = .ok (.bipush 10, 2) := by decide +kernel
theorem dX9_number_59 : decode cX9_number 59 = .ok (.iload_n 3, 1) := by decide +kernel
theorem dX9_number_60 : decode cX9_number 60 = .ok (.imul, 1) := by decide +kernel
theorem dX9_number_61 : decode cX9_number 61 = .ok (.aload_n 0, 1) := by decide +kernel
theorem dX9_number_62 : decode cX9_number 62 = .ok (.aload_n 0, 1) := by decide +kernel
theorem dX9_number_63 : decode cX9_number 63 = .ok (.getfield 54, 3) := by decide +kernel
theorem dX9_number_66 : decode cX9_number 66 = .ok (.invokevirtual 57, 3) := by decide +kernel
theorem dX9_number_69 : decode cX9_number 69 = .ok (.iadd, 1) := by decide +kernel
theorem dX9_number_70 : decode cX9_number 70 = .ok (.bipush 48, 2) := by decide +kernel
theorem dX9_number_72 : decode cX9_number 72 = .ok (.isub, 1) := by decide +kernel
theorem dX9_number_73 : decode cX9_number 73 = .ok (.invokestatic 99, 3) := by decide +kernel
theorem dX9_number_76 : decode cX9_number 76 = .ok (.istore_n 3, 1) := by decide +kernel
theorem dX9_number_77 : decode cX9_number 77 = .ok (.aload_n 0, 1) := by decide +kernel
theorem dX9_number_78 : decode cX9_number 78 = .ok (.dup, 1) := by decide +kernel
theorem dX9_number_79 : decode cX9_number 79 = .ok (.getfield 54, 3) := by decide +kernel
theorem dX9_number_82 : decode cX9_number 82 = .ok (.iconst 1, 1) := by decide +kernel
theorem dX9_number_83 : decode cX9_number 83 = .ok (.iadd, 1) := by decide +kernel
theorem dX9_number_84 : decode cX9_number 84 = .ok (.putfield 54, 3) := by decide +kernel
theorem dX9_number_87 : decode cX9_number 87 = .ok (.goto (-46), 3) := by decide +kernel
theorem dX9_number_90 : decode cX9_number 90 = .ok (.iload_n 3, 1) := by decide +kernel
theorem dX9_number_91 : decode cX9_number 91 = .ok (.iload_n 1, 1) := by decide +kernel
theorem dX9_number_92 : decode cX9_number 92 = .ok (.iload_n 2, 1) := by decide +kernel
theorem dX9_number_93 : decode cX9_number 93 = .ok (.invokestatic 66, 3) := by decide +kernel
theorem dX9_number_96 : decode cX9_number 96 = .ok (.ifCond .ne 13, 3) := by decide +kernel
theorem dX9_number_99 : decode cX9_number 99 = .ok (.aload_n 0, 1) := by decide +kernel
theorem dX9_number_100 : decode cX9_number 100 = .ok (.bipush (-3), 2) := by decide +kernel
theorem dX9_number_102 : decode cX9_number 102 = .ok (.aload_n 0, 1) := by decide +kernel
theorem dX9_number_103 : decode cX9_number 103 = .ok (.getfield 95, 3) := by decide +kernel
theorem dX9_number_106 : decode cX9_number 106 = .ok (.invokevirtual 87, 3) := by decide +kernel
theorem dX9_number_109 : decode cX9_number 109 = .ok (.iload_n 3, 1) := by decide +kernel
theorem dX9_number_110 : decode cX9_number 110 = .ok (.ireturn, 1) := by decide +kernel
theorem dX9_emit_0 : decode cX9_emit 0 = .ok (.aload_n 0, 1) := by decide +kernel
theorem dX9_emit_1 : decode cX9_emit 1 = .ok (.invokevirtual 70, 3) := by decide +kernel
theorem dX9_emit_4 : decode cX9_emit 4 = .ok (.ifCond .ne 4, 3) := by decide +kernel
theorem dX9_emit_7 : decode cX9_emit 7 = .ok (.return_, 1) := by decide +kernel
theorem dX9_emit_8 : decode cX9_emit 8 = .ok (.aload_n 0, 1) := by decide +kernel
theorem dX9_emit_9 : decode cX9_emit 9 = .ok (.getfield 20, 3) := by decide +kernel
theorem dX9_emit_12 : decode cX9_emit 12 = .ok (.sipush 1363, 3) := by decide +kernel
theorem dX9_emit_15 : decode cX9_emit 15 = .ok (.aload_n 0, 1) := by decide +kernel
theorem dX9_emit_16 : decode cX9_emit 16 = .ok (.getfield 20, 3) := by decide +kernel
theorem dX9_emit_19 : decode cX9_emit 19 = .ok (.iconst 4, 1) := by decide +kernel
theorem dX9_emit_20 : decode cX9_emit 20 = .ok (.iaload, 1) := by decide +kernel
theorem dX9_emit_21 : decode cX9_emit 21 = .ok (.iadd, 1) := by decide +kernel
theorem dX9_emit_22 : decode cX9_emit 22 = .ok (.iload_n 1, 1) := by decide +kernel
theorem dX9_emit_23 : decode cX9_emit 23 = .ok (.iastore, 1) := by decide +kernel
theorem dX9_emit_24 : decode cX9_emit 24 = .ok (.aload_n 0, 1) := by decide +kernel
theorem dX9_emit_25 : decode cX9_emit 25 = .ok (.getfield 20, 3) := by decide +kernel
theorem dX9_emit_28 : decode cX9_emit 28 = .ok (.iconst 4, 1) := by decide +kernel
theorem dX9_emit_29 : decode cX9_emit 29 = .ok (.dup2, 1) := by decide +kernel
theorem dX9_emit_30 : decode cX9_emit 30 = .ok (.iaload, 1) := by decide +kernel
theorem dX9_emit_31 : decode cX9_emit 31 = .ok (.iconst 1, 1) := by decide +kernel
theorem dX9_emit_32 : decode cX9_emit 32 = .ok (.iadd, 1) := by decide +kernel
theorem dX9_emit_33 : decode cX9_emit 33 = .ok (.iastore, 1) := by decide +kernel
theorem dX9_emit_34 : decode cX9_emit 34 = .ok (.return_, 1) := by decide +kernel
theorem dX9_factor_0 : decode cX9_factor 0 = .ok (.aload_n 0, 1) := by decide +kernel
theorem dX9_factor_1 : decode cX9_factor 1 = .ok (.invokevirtual 70, 3) := by decide +kernel
theorem dX9_factor_4 : decode cX9_factor 4 = .ok (.ifCond .ne 4, 3) := by decide +kernel
theorem dX9_factor_7 : decode cX9_factor 7 = .ok (.return_, 1) := by decide +kernel
theorem dX9_factor_8 : decode cX9_factor 8 = .ok (.aload_n 0, 1) := by decide +kernel
theorem dX9_factor_9 : decode cX9_factor 9 = .ok (.invokevirtual 74, 3) := by decide +kernel
theorem dX9_factor_12 : decode cX9_factor 12 = .ok (.istore_n 1, 1) := by decide +kernel
theorem dX9_factor_13 : decode cX9_factor 13 = .ok (.iload_n 1, 1) := by decide +kernel
theorem dX9_factor_14 : decode cX9_factor 14 = .ok (.bipush 40, 2) := by decide +kernel
theorem dX9_factor_16 : decode cX9_factor 16 = .ok (.if_icmp .ne 62, 3) := by decide +kernel
theorem dX9_factor_19 : decode cX9_factor 19 = .ok (.aload_n 0, 1) := by decide +kernel
theorem dX9_factor_20 : decode cX9_factor 20 = .ok (.getfield 103, 3) := by decide +kernel
theorem dX9_factor_23 : decode cX9_factor 23 = .ok (.iconst 4, 1) := by decide +kernel
theorem dX9_factor_24 : decode cX9_factor 24 = .ok (.if_icmp .ne 13, 3) := by decide +kernel
theorem dX9_factor_27 : decode cX9_factor 27 = .ok (.aload_n 0, 1) := by decide +kernel
theorem dX9_factor_28 : decode cX9_factor 28 = .ok (.bipush (-5), 2) := by decide +kernel
theorem dX9_factor_30 : decode cX9_factor 30 = .ok (.aload_n 0, 1) := by decide +kernel
theorem dX9_factor_31 : decode cX9_factor 31 = .ok (.getfield 54, 3) := by decide +kernel
theorem dX9_factor_34 : decode cX9_factor 34 = .ok (.invokevirtual 87, 3) := by decide +kernel
theorem dX9_factor_37 : decode cX9_factor 37 = .ok (.aload_n 0, 1) := by decide +kernel
theorem dX9_factor_38 : decode cX9_factor 38 = .ok (.dup, 1) := by decide +kernel
theorem dX9_factor_39 : decode cX9_factor 39 = .ok (.getfield 54, 3) := by decide +kernel
theorem dX9_factor_42 : decode cX9_factor 42 = .ok (.iconst 1, 1) := by decide +kernel
theorem dX9_factor_43 : decode cX9_factor 43 = .ok (.iadd, 1) := by decide +kernel
theorem dX9_factor_44 : decode cX9_factor 44 = .ok (.putfield 54, 3) := by decide +kernel
theorem dX9_factor_47 : decode cX9_factor 47 = .ok (.aload_n 0, 1) := by decide +kernel
theorem dX9_factor_48 : decode cX9_factor 48 = .ok (.dup, 1) := by decide +kernel
theorem dX9_factor_49 : decode cX9_factor 49 = .ok (.getfield 103, 3) := by decide +kernel
theorem dX9_factor_52 : decode cX9_factor 52 = .ok (.iconst 1, 1) := by decide +kernel
theorem dX9_factor_53 : decode cX9_factor 53 = .ok (.iadd, 1) := by decide +kernel
theorem dX9_factor_54 : decode cX9_factor 54 = .ok (.putfield 103, 3) := by decide +kernel
theorem dX9_factor_57 : decode cX9_factor 57 = .ok (.aload_n 0, 1) := by decide +kernel
theorem dX9_factor_58 : decode cX9_factor 58 = .ok (.invokevirtual 106, 3) := by decide +kernel
theorem dX9_factor_61 : decode cX9_factor 61 = .ok (.aload_n 0, 1) := by decide +kernel
theorem dX9_factor_62 : decode cX9_factor 62 = .ok (.bipush 41, 2) := by decide +kernel
theorem dX9_factor_64 : decode cX9_factor 64 = .ok (.invokevirtual 109, 3) := by decide +kernel
theorem dX9_factor_67 : decode cX9_factor 67 = .ok (.aload_n 0, 1) := by decide +kernel
theorem dX9_factor_68 : decode cX9_factor 68 = .ok (.dup, 1) := by decide +kernel
theorem dX9_factor_69 : decode cX9_factor 69 = .ok (.getfield 103, 3) := by decide +kernel
theorem dX9_factor_72 : decode cX9_factor 72 = .ok (.iconst 1, 1) := by decide +kernel
theorem dX9_factor_73 : decode cX9_factor 73 = .ok (.isub, 1) := by decide +kernel
theorem dX9_factor_74 : decode cX9_factor 74 = .ok (.putfield 103, 3) := by decide +kernel
theorem dX9_factor_77 : decode cX9_factor 77 = .ok (.return_, 1) := by decide +kernel
theorem dX9_factor_78 : decode cX9_factor 78 = .ok (.iload_n 1, 1) := by decide +kernel
theorem dX9_factor_79 : decode cX9_factor 79 = .ok (.invokestatic 91, 3) := by decide +kernel
theorem dX9_factor_82 : decode cX9_factor 82 = .ok (.ifCond .eq 7, 3) := by decide +kernel
theorem dX9_factor_85 : decode cX9_factor 85 = .ok (.iconst (-1), 1) := by decide +kernel
theorem dX9_factor_86 : decode cX9_factor 86 = .ok (.goto 69, 3) := by decide +kernel
theorem dX9_factor_89 : decode cX9_factor 89 = .ok (.aload_n 0, 1) := by decide +kernel
theorem dX9_factor_90 : decode cX9_factor 90 = .ok (.ldc 113, 2) := by decide +kernel
theorem dX9_factor_92 : decode cX9_factor 92 = .ok (.invokevirtual 115, 3) := by decide +kernel
theorem dX9_factor_95 : decode cX9_factor 95 = .ok (.ifCond .eq 7, 3) := by decide +kernel
theorem dX9_factor_98 : decode cX9_factor 98 = .ok (.iconst 0, 1) := by decide +kernel
theorem dX9_factor_99 : decode cX9_factor 99 = .ok (.goto 56, 3) := by decide +kernel
theorem dX9_factor_102 : decode cX9_factor 102 = .ok (.aload_n 0, 1) := by decide +kernel
theorem dX9_factor_103 : decode cX9_factor 103 = .ok (.ldc 119, 2) := by decide +kernel
theorem dX9_factor_105 : decode cX9_factor 105 = .ok (.invokevirtual 115, 3) := by decide +kernel
theorem dX9_factor_108 : decode cX9_factor 108 = .ok (.ifCond .eq 7, 3) := by decide +kernel
theorem dX9_factor_111 : decode cX9_factor 111 = .ok (.iconst 1, 1) := by decide +kernel
theorem dX9_factor_112 : decode cX9_factor 112 = .ok (.goto 43, 3) := by decide +kernel
theorem dX9_factor_115 : decode cX9_factor 115 = .ok (.aload_n 0, 1) := by decide +kernel
theorem dX9_factor_116 : decode cX9_factor 116 = .ok (.ldc 121, 2) := by decide +kernel
theorem dX9_factor_118 : decode cX9_factor 118 = .ok (.invokevirtual 115, 3) := by decide +kernel
theorem dX9_factor_121 : decode cX9_factor 121 = .ok (.ifCond .eq 7, 3) := by decide +kernel
theorem dX9_factor_124 : decode cX9_factor 124 = .ok (.iconst 2, 1) := by decide +kernel
theorem dX9_factor_125 : decode cX9_factor 125 = .ok (.goto 30, 3) := by decide +kernel
theorem dX9_factor_128 : decode cX9_factor 128 = .ok (.aload_n 0, 1) := by decide +kernel
theorem dX9_factor_129 : decode cX9_factor 129 = .ok (.ldc 123, 2) := by decide +kernel
theorem dX9_factor_131 : decode cX9_factor 131 = .ok (.invokevirtual 115, 3) := by decide +kernel
theorem dX9_factor_134 : decode cX9_factor 134 = .ok (.ifCond .eq 7, 3) := by decide +kernel
theorem dX9_factor_137 : decode cX9_factor 137 = .ok (.iconst 3, 1) := by decide +kernel
theorem dX9_factor_138 : decode cX9_factor 138 = .ok (.goto 17, 3) := by decide +kernel
theorem dX9_factor_141 : decode cX9_factor 141 = .ok (.aload_n 0, 1) := by decide +kernel
theorem dX9_factor_142 : decode cX9_factor 142 = .ok (.ldc 125, 2) := by decide +kernel
theorem dX9_factor_144 : decode cX9_factor 144 = .ok (.invokevirtual 115, 3) := by decide +kernel
theorem dX9_factor_147 : decode cX9_factor 147 = .ok (.ifCond .eq 7, 3) := by decide +kernel
theorem dX9_factor_150 : decode cX9_factor 150 = .ok (.iconst 4, 1) := by decide +kernel
theorem dX9_factor_151 : decode cX9_factor 151 = .ok (.goto 4, 3) := by decide +kernel
theorem dX9_factor_154 : decode cX9_factor 154 = .ok (.iconst (-1), 1) := by decide +kernel
theorem dX9_factor_155 : decode cX9_factor 155 = .ok (.istore_n 2, 1) := by decide +kernel
theorem dX9_factor_156 : decode cX9_factor 156 = .ok (.iload_n 2, 1) := by decide +kernel
theorem dX9_factor_157 : decode cX9_factor 157 = .ok (.ifCond .ge 14, 3) := by decide +kernel
theorem dX9_factor_160 : decode cX9_factor 160 = .ok (.aload_n 0, 1) := by decide +kernel
theorem dX9_factor_161 : decode cX9_factor 161 = .ok (.iconst 0, 1) := by decide +kernel
theorem dX9_factor_162 : decode cX9_factor 162 = .ok (.sipush 9999, 3) := by decide +kernel
theorem dX9_factor_165 : decode cX9_factor 165 = .ok (.invokevirtual 127, 3) := by decide +kernel
theorem dX9_factor_168 : decode cX9_factor 168 = .ok (.goto 4, 3) := by decide +kernel
theorem dX9_factor_171 : decode cX9_factor 171 = .ok (.iload_n 2, 1) := by decide +kernel
theorem dX9_factor_172 : decode cX9_factor 172 = .ok (.istore_n 3, 1) := by decide +kernel
theorem dX9_factor_173 : decode cX9_factor 173 = .ok (.aload_n 0, 1) := by decide +kernel
theorem dX9_factor_174 : decode cX9_factor 174 = .ok (.iload_n 2, 1) := by decide +kernel
theorem dX9_factor_175 : decode cX9_factor 175 = .ok (.ifCond .ge 7, 3) := by decide +kernel
theorem dX9_factor_178 : decode cX9_factor 178 = .ok (.iconst 0, 1) := by decide +kernel
theorem dX9_factor_179 : decode cX9_factor 179 = .ok (.goto 4, 3) := by decide +kernel
theorem dX9_factor_182 : decode cX9_factor 182 = .ok (.iconst 1, 1) := by decide +kernel
theorem dX9_factor_183 : decode cX9_factor 183 = .ok (.invokevirtual 130, 3) := by decide +kernel
theorem dX9_factor_186 : decode cX9_factor 186 = .ok (.aload_n 0, 1) := by decide +kernel
theorem dX9_factor_187 : decode cX9_factor 187 = .ok (.iload_n 3, 1) := by decide +kernel
theorem dX9_factor_188 : decode cX9_factor 188 = .ok (.invokevirtual 130, 3) := by decide +kernel
theorem dX9_factor_191 : decode cX9_factor 191 = .ok (.return_, 1) := by decide +kernel
theorem dX9_term_0 : decode cX9_term 0 = .ok (.aload_n 0, 1) := by decide +kernel
theorem dX9_term_1 : decode cX9_term 1 = .ok (.invokevirtual 133, 3) := by decide +kernel
theorem dX9_term_4 : decode cX9_term 4 = .ok (.aload_n 0, 1) := by decide +kernel
theorem dX9_term_5 : decode cX9_term 5 = .ok (.invokevirtual 70, 3) := by decide +kernel
theorem dX9_term_8 : decode cX9_term 8 = .ok (.ifCond .eq 66, 3) := by decide +kernel
theorem dX9_term_11 : decode cX9_term 11 = .ok (.aload_n 0, 1) := by decide +kernel
theorem dX9_term_12 : decode cX9_term 12 = .ok (.invokevirtual 74, 3) := by decide +kernel
theorem dX9_term_15 : decode cX9_term 15 = .ok (.bipush 42, 2) := by decide +kernel
theorem dX9_term_17 : decode cX9_term 17 = .ok (.if_icmp .eq 12, 3) := by decide +kernel
theorem dX9_term_20 : decode cX9_term 20 = .ok (.aload_n 0, 1) := by decide +kernel
theorem dX9_term_21 : decode cX9_term 21 = .ok (.invokevirtual 74, 3) := by decide +kernel
theorem dX9_term_24 : decode cX9_term 24 = .ok (.bipush 47, 2) := by decide +kernel
theorem dX9_term_26 : decode cX9_term 26 = .ok (.if_icmp .ne 48, 3) := by decide +kernel
theorem dX9_term_29 : decode cX9_term 29 = .ok (.aload_n 0, 1) := by decide +kernel
theorem dX9_term_30 : decode cX9_term 30 = .ok (.invokevirtual 74, 3) := by decide +kernel
theorem dX9_term_33 : decode cX9_term 33 = .ok (.bipush 42, 2) := by decide +kernel
theorem dX9_term_35 : decode cX9_term 35 = .ok (.if_icmp .ne 7, 3) := by decide +kernel
theorem dX9_term_38 : decode cX9_term 38 = .ok (.iconst 1, 1) := by decide +kernel
theorem dX9_term_39 : decode cX9_term 39 = .ok (.goto 4, 3) := by decide +kernel
theorem dX9_term_42 : decode cX9_term 42 = .ok (.iconst 0, 1) := by decide +kernel
theorem dX9_term_43 : decode cX9_term 43 = .ok (.istore_n 1, 1) := by decide +kernel
theorem dX9_term_44 : decode cX9_term 44 = .ok (.aload_n 0, 1) := by decide +kernel
theorem dX9_term_45 : decode cX9_term 45 = .ok (.dup, 1) := by decide +kernel
theorem dX9_term_46 : decode cX9_term 46 = .ok (.getfield 54, 3) := by decide +kernel
theorem dX9_term_49 : decode cX9_term 49 = .ok (.iconst 1, 1) := by decide +kernel
theorem dX9_term_50 : decode cX9_term 50 = .ok (.iadd, 1) := by decide +kernel
theorem dX9_term_51 : decode cX9_term 51 = .ok (.putfield 54, 3) := by decide +kernel
theorem dX9_term_54 : decode cX9_term 54 = .ok (.aload_n 0, 1) := by decide +kernel
theorem dX9_term_55 : decode cX9_term 55 = .ok (.invokevirtual 133, 3) := by decide +kernel
theorem dX9_term_58 : decode cX9_term 58 = .ok (.aload_n 0, 1) := by decide +kernel
theorem dX9_term_59 : decode cX9_term 59 = .ok (.iload_n 1, 1) := by decide +kernel
theorem dX9_term_60 : decode cX9_term 60 = .ok (.ifCond .eq 7, 3) := by decide +kernel
theorem dX9_term_63 : decode cX9_term 63 = .ok (.iconst 4, 1) := by decide +kernel
theorem dX9_term_64 : decode cX9_term 64 = .ok (.goto 4, 3) := by decide +kernel
theorem dX9_term_67 : decode cX9_term 67 = .ok (.iconst 5, 1) := by decide +kernel
theorem dX9_term_68 : decode cX9_term 68 = .ok (.invokevirtual 130, 3) := by decide +kernel
theorem dX9_term_71 : decode cX9_term 71 = .ok (.goto (-67), 3) := by decide +kernel
theorem dX9_term_74 : decode cX9_term 74 = .ok (.return_, 1) := by decide +kernel
theorem dX9_sum_0 : decode cX9_sum 0 = .ok (.aload_n 0, 1) := by decide +kernel
theorem dX9_sum_1 : decode cX9_sum 1 = .ok (.invokevirtual 136, 3) := by decide +kernel
theorem dX9_sum_4 : decode cX9_sum 4 = .ok (.aload_n 0, 1) := by decide +kernel
theorem dX9_sum_5 : decode cX9_sum 5 = .ok (.invokevirtual 70, 3) := by decide +kernel
theorem dX9_sum_8 : decode cX9_sum 8 = .ok (.ifCond .eq 66, 3) := by decide +kernel
theorem dX9_sum_11 : decode cX9_sum 11 = .ok (.aload_n 0, 1) := by decide +kernel
theorem dX9_sum_12 : decode cX9_sum 12 = .ok (.invokevirtual 74, 3) := by decide +kernel
theorem dX9_sum_15 : decode cX9_sum 15 = .ok (.bipush 43, 2) := by decide +kernel
theorem dX9_sum_17 : decode cX9_sum 17 = .ok (.if_icmp .eq 12, 3) := by decide +kernel
theorem dX9_sum_20 : decode cX9_sum 20 = .ok (.aload_n 0, 1) := by decide +kernel
theorem dX9_sum_21 : decode cX9_sum 21 = .ok (.invokevirtual 74, 3) := by decide +kernel
theorem dX9_sum_24 : decode cX9_sum 24 = .ok (.bipush 45, 2) := by decide +kernel
theorem dX9_sum_26 : decode cX9_sum 26 = .ok (.if_icmp .ne 48, 3) := by decide +kernel
theorem dX9_sum_29 : decode cX9_sum 29 = .ok (.aload_n 0, 1) := by decide +kernel
theorem dX9_sum_30 : decode cX9_sum 30 = .ok (.invokevirtual 74, 3) := by decide +kernel
theorem dX9_sum_33 : decode cX9_sum 33 = .ok (.bipush 43, 2) := by decide +kernel
theorem dX9_sum_35 : decode cX9_sum 35 = .ok (.if_icmp .ne 7, 3) := by decide +kernel
theorem dX9_sum_38 : decode cX9_sum 38 = .ok (.iconst 1, 1) := by decide +kernel
theorem dX9_sum_39 : decode cX9_sum 39 = .ok (.goto 4, 3) := by decide +kernel
theorem dX9_sum_42 : decode cX9_sum 42 = .ok (.iconst 0, 1) := by decide +kernel
theorem dX9_sum_43 : decode cX9_sum 43 = .ok (.istore_n 1, 1) := by decide +kernel
theorem dX9_sum_44 : decode cX9_sum 44 = .ok (.aload_n 0, 1) := by decide +kernel
theorem dX9_sum_45 : decode cX9_sum 45 = .ok (.dup, 1) := by decide +kernel
theorem dX9_sum_46 : decode cX9_sum 46 = .ok (.getfield 54, 3) := by decide +kernel
theorem dX9_sum_49 : decode cX9_sum 49 = .ok (.iconst 1, 1) := by decide +kernel
theorem dX9_sum_50 : decode cX9_sum 50 = .ok (.iadd, 1) := by decide +kernel
theorem dX9_sum_51 : decode cX9_sum 51 = .ok (.putfield 54, 3) := by decide +kernel
theorem dX9_sum_54 : decode cX9_sum 54 = .ok (.aload_n 0, 1) := by decide +kernel
theorem dX9_sum_55 : decode cX9_sum 55 = .ok (.invokevirtual 136, 3) := by decide +kernel
theorem dX9_sum_58 : decode cX9_sum 58 = .ok (.aload_n 0, 1) := by decide +kernel
theorem dX9_sum_59 : decode cX9_sum 59 = .ok (.iload_n 1, 1) := by decide +kernel
theorem dX9_sum_60 : decode cX9_sum 60 = .ok (.ifCond .eq 7, 3) := by decide +kernel
theorem dX9_sum_63 : decode cX9_sum 63 = .ok (.iconst 2, 1) := by decide +kernel
theorem dX9_sum_64 : decode cX9_sum 64 = .ok (.goto 4, 3) := by decide +kernel
theorem dX9_sum_67 : decode cX9_sum 67 = .ok (.iconst 3, 1) := by decide +kernel
theorem dX9_sum_68 : decode cX9_sum 68 = .ok (.invokevirtual 130, 3) := by decide +kernel
theorem dX9_sum_71 : decode cX9_sum 71 = .ok (.goto (-67), 3) := by decide +kernel
theorem dX9_sum_74 : decode cX9_sum 74 = .ok (.return_, 1) := by decide +kernel
theorem dX9_once_0 : decode cX9_once 0 = .ok (.aload_n 0, 1) := by decide +kernel
theorem dX9_once_1 : decode cX9_once 1 = .ok (.getfield 139, 3) := by decide +kernel
theorem dX9_once_4 : decode cX9_once 4 = .ok (.iload_n 1, 1) := by decide +kernel
theorem dX9_once_5 : decode cX9_once 5 = .ok (.ishr, 1) := by decide +kernel
theorem dX9_once_6 : decode cX9_once 6 = .ok (.iconst 1, 1) := by decide +kernel
theorem dX9_once_7 : decode cX9_once 7 = .ok (.iand, 1) := by decide +kernel
theorem dX9_once_8 : decode cX9_once 8 = .ok (.iconst 1, 1) := by decide +kernel
theorem dX9_once_9 : decode cX9_once 9 = .ok (.if_icmp .ne 10, 3) := by decide +kernel
theorem dX9_once_12 : decode cX9_once 12 = .ok (.aload_n 0, 1) := by decide +kernel
theorem dX9_once_13 : decode cX9_once 13 = .ok (.bipush (-2), 2) := by decide +kernel
theorem dX9_once_15 : decode cX9_once 15 = .ok (.iload_n 2, 1) := by decide +kernel
theorem dX9_once_16 : decode cX9_once 16 = .ok (.invokevirtual 87, 3) := by decide +kernel
theorem dX9_once_19 : decode cX9_once 19 = .ok (.aload_n 0, 1) := by decide +kernel
theorem dX9_once_20 : decode cX9_once 20 = .ok (.dup, 1) := by decide +kernel
theorem dX9_once_21 : decode cX9_once 21 = .ok (.getfield 139, 3) := by decide +kernel
theorem dX9_once_24 : decode cX9_once 24 = .ok (.iconst 1, 1) := by decide +kernel
theorem dX9_once_25 : decode cX9_once 25 = .ok (.iload_n 1, 1) := by decide +kernel
theorem dX9_once_26 : decode cX9_once 26 = .ok (.ishl, 1) := by decide +kernel
theorem dX9_once_27 : decode cX9_once 27 = .ok (.ior, 1) := by decide +kernel
theorem dX9_once_28 : decode cX9_once 28 = .ok (.putfield 139, 3) := by decide +kernel
theorem dX9_once_31 : decode cX9_once 31 = .ok (.return_, 1) := by decide +kernel
theorem dX9_readBreak_0 : decode cX9_readBreak 0 = .ok (.aload_n 0, 1) := by decide +kernel
theorem dX9_readBreak_1 : decode cX9_readBreak 1 = .ok (.getfield 20, 3) := by decide +kernel
theorem dX9_readBreak_4 : decode cX9_readBreak 4 = .ok (.iconst 0, 1) := by decide +kernel
theorem dX9_readBreak_5 : decode cX9_readBreak 5 = .ok (.iaload, 1) := by decide +kernel
theorem dX9_readBreak_6 : decode cX9_readBreak 6 = .ok (.bipush 20, 2) := by decide +kernel
theorem dX9_readBreak_8 : decode cX9_readBreak 8 = .ok (.if_icmp .ne 10, 3) := by decide +kernel
theorem dX9_readBreak_11 : decode cX9_readBreak 11 = .ok (.aload_n 0, 1) := by decide +kernel
theorem dX9_readBreak_12 : decode cX9_readBreak 12 = .ok (.bipush (-4), 2) := by decide +kernel
theorem dX9_readBreak_14 : decode cX9_readBreak 14 = .ok (.iload_n 1, 1) := by decide +kernel
theorem dX9_readBreak_15 : decode cX9_readBreak 15 = .ok (.invokevirtual 87, 3) := by decide +kernel
theorem dX9_readBreak_18 : decode cX9_readBreak 18 = .ok (.aload_n 0, 1) := by decide +kernel
theorem dX9_readBreak_19 : decode cX9_readBreak 19 = .ok (.invokevirtual 70, 3) := by decide +kernel
theorem dX9_readBreak_22 : decode cX9_readBreak 22 = .ok (.ifCond .ne 4, 3) := by decide +kernel
theorem dX9_readBreak_25 : decode cX9_readBreak 25 = .ok (.return_, 1) := by decide +kernel
theorem dX9_readBreak_26 : decode cX9_readBreak 26 = .ok (.aload_n 0, 1) := by decide +kernel
theorem dX9_readBreak_27 : decode cX9_readBreak 27 = .ok (.getfield 20, 3) := by decide +kernel
theorem dX9_readBreak_30 : decode cX9_readBreak 30 = .ok (.iconst 0, 1) := by decide +kernel
theorem dX9_readBreak_31 : decode cX9_readBreak 31 = .ok (.iaload, 1) := by decide +kernel
theorem dX9_readBreak_32 : decode cX9_readBreak 32 = .ok (.istore_n 2, 1) := by decide +kernel
theorem dX9_readBreak_33 : decode cX9_readBreak 33 = .ok (.iload_n 2, 1) := by decide +kernel
theorem dX9_readBreak_34 : decode cX9_readBreak 34 = .ok (.invokestatic 44, 3) := by decide +kernel
theorem dX9_readBreak_37 : decode cX9_readBreak 37 = .ok (.istore_n 3, 1) := by decide +kernel
theorem dX9_readBreak_38 : decode cX9_readBreak 38 = .ok (.aload_n 0, 1) := by decide +kernel
theorem dX9_readBreak_39 : decode cX9_readBreak 39 = .ok (.getfield 20, 3) := by decide +kernel
theorem dX9_readBreak_42 : decode cX9_readBreak 42 = .ok (.iload_n 3, 1) := by decide +kernel
theorem dX9_readBreak_43 : decode cX9_readBreak 43 = .ok (.aload_n 0, 1) := by decide +kernel
theorem dX9_readBreak_44 : decode cX9_readBreak 44 = .ok (.iconst 0, 1) := by decide +kernel
theorem dX9_readBreak_45 : decode cX9_readBreak 45 = .ok (.bipush 6, 2) := by decide +kernel
theorem dX9_readBreak_47 : decode cX9_readBreak 47 = .ok (.invokevirtual 127, 3) := by decide +kernel
theorem dX9_readBreak_50 : decode cX9_readBreak 50 = .ok (.iastore, 1) := by decide +kernel
theorem dX9_readBreak_51 : decode cX9_readBreak 51 = .ok (.aload_n 0, 1) := by decide +kernel
theorem dX9_readBreak_52 : decode cX9_readBreak 52 = .ok (.getfield 20, 3) := by decide +kernel
theorem dX9_readBreak_55 : decode cX9_readBreak 55 = .ok (.iload_n 3, 1) := by decide +kernel
theorem dX9_readBreak_56 : decode cX9_readBreak 56 = .ok (.iconst 1, 1) := by decide +kernel
theorem dX9_readBreak_57 : decode cX9_readBreak 57 = .ok (.iadd, 1) := by decide +kernel
theorem dX9_readBreak_58 : decode cX9_readBreak 58 = .ok (.aload_n 0, 1) := by decide +kernel
theorem dX9_readBreak_59 : decode cX9_readBreak 59 = .ok (.iconst 0, 1) := by decide +kernel
theorem dX9_readBreak_60 : decode cX9_readBreak 60 = .ok (.bipush 23, 2) := by decide +kernel
theorem dX9_readBreak_62 : decode cX9_readBreak 62 = .ok (.invokevirtual 127, 3) := by decide +kernel
theorem dX9_readBreak_65 : decode cX9_readBreak 65 = .ok (.iastore, 1) := by decide +kernel
theorem dX9_readBreak_66 : decode cX9_readBreak 66 = .ok (.iconst 0, 1) := by decide +kernel
theorem dX9_readBreak_67 : decode cX9_readBreak 67 = .ok (.istore 4, 2) := by decide +kernel
theorem dX9_readBreak_69 : decode cX9_readBreak 69 = .ok (.iload 4, 2) := by decide +kernel
theorem dX9_readBreak_71 : decode cX9_readBreak 71 = .ok (.iload_n 2, 1) := by decide +kernel
theorem dX9_readBreak_72 : decode cX9_readBreak 72 = .ok (.if_icmp .ge 46, 3) := by decide +kernel
theorem dX9_readBreak_75 : decode cX9_readBreak 75 = .ok (.aload_n 0, 1) := by decide +kernel
theorem dX9_readBreak_76 : decode cX9_readBreak 76 = .ok (.invokevirtual 70, 3) := by decide +kernel
theorem dX9_readBreak_79 : decode cX9_readBreak 79 = .ok (.ifCond .eq 39, 3) := by decide +kernel
theorem dX9_readBreak_82 : decode cX9_readBreak 82 = .ok (.aload_n 0, 1) := by decide +kernel
theorem dX9_readBreak_83 : decode cX9_readBreak 83 = .ok (.getfield 20, 3) := by decide +kernel
theorem dX9_readBreak_86 : decode cX9_readBreak 86 = .ok (.iload 4, 2) := by decide +kernel
theorem dX9_readBreak_88 : decode cX9_readBreak 88 = .ok (.invokestatic 142, 3) := by decide +kernel
theorem dX9_readBreak_91 : decode cX9_readBreak 91 = .ok (.aload_n 0, 1) := by decide +kernel
theorem dX9_readBreak_92 : decode cX9_readBreak 92 = .ok (.getfield 20, 3) := by decide +kernel
theorem dX9_readBreak_95 : decode cX9_readBreak 95 = .ok (.iload_n 2, 1) := by decide +kernel
theorem dX9_readBreak_96 : decode cX9_readBreak 96 = .ok (.invokestatic 142, 3) := by decide +kernel
theorem dX9_readBreak_99 : decode cX9_readBreak 99 = .ok (.if_icmp .ne 13, 3) := by decide +kernel
theorem dX9_readBreak_102 : decode cX9_readBreak 102 = .ok (.aload_n 0, 1) := by decide +kernel
theorem dX9_readBreak_103 : decode cX9_readBreak 103 = .ok (.bipush (-3), 2) := by decide +kernel
theorem dX9_readBreak_105 : decode cX9_readBreak 105 = .ok (.aload_n 0, 1) := by decide +kernel
theorem dX9_readBreak_106 : decode cX9_readBreak 106 = .ok (.getfield 95, 3) := by decide +kernel
theorem dX9_readBreak_109 : decode cX9_readBreak 109 = .ok (.invokevirtual 87, 3) := by decide +kernel
theorem dX9_readBreak_112 : decode cX9_readBreak 112 = .ok (.iinc 4 1, 3) := by decide +kernel
theorem dX9_readBreak_115 : decode cX9_readBreak 115 = .ok (.goto (-46), 3) := by decide +kernel
theorem dX9_readBreak_118 : decode cX9_readBreak 118 = .ok (.aload_n 0, 1) := by decide +kernel
theorem dX9_readBreak_119 : decode cX9_readBreak 119 = .ok (.getfield 20, 3) := by decide +kernel
theorem dX9_readBreak_122 : decode cX9_readBreak 122 = .ok (.iload_n 3, 1) := by decide +kernel
theorem dX9_readBreak_123 : decode cX9_readBreak 123 = .ok (.iconst 2, 1) := by decide +kernel
theorem dX9_readBreak_124 : decode cX9_readBreak 124 = .ok (.iadd, 1) := by decide +kernel
theorem dX9_readBreak_125 : decode cX9_readBreak 125 = .ok (.aload_n 0, 1) := by decide +kernel
theorem dX9_readBreak_126 : decode cX9_readBreak 126 = .ok (.bipush 10, 2) := by decide +kernel
theorem dX9_readBreak_128 : decode cX9_readBreak 128 = .ok (.sipush 300, 3) := by decide +kernel
theorem dX9_readBreak_131 : decode cX9_readBreak 131 = .ok (.invokevirtual 127, 3) := by decide +kernel
theorem dX9_readBreak_134 : decode cX9_readBreak 134 = .ok (.iastore, 1) := by decide +kernel
theorem dX9_readBreak_135 : decode cX9_readBreak 135 = .ok (.aload_n 0, 1) := by decide +kernel
theorem dX9_readBreak_136 : decode cX9_readBreak 136 = .ok (.getfield 20, 3) := by decide +kernel
theorem dX9_readBreak_139 : decode cX9_readBreak 139 = .ok (.iload_n 3, 1) := by decide +kernel
theorem dX9_readBreak_140 : decode cX9_readBreak 140 = .ok (.iconst 3, 1) := by decide +kernel
theorem dX9_readBreak_141 : decode cX9_readBreak 141 = .ok (.iadd, 1) := by decide +kernel
theorem dX9_readBreak_142 : decode cX9_readBreak 142 = .ok (.aload_n 0, 1) := by decide +kernel
theorem dX9_readBreak_143 : decode cX9_readBreak 143 = .ok (.iconst 0, 1) := by decide +kernel
theorem dX9_readBreak_144 : decode cX9_readBreak 144 = .ok (.sipush 999, 3) := by decide +kernel
theorem dX9_readBreak_147 : decode cX9_readBreak 147 = .ok (.invokevirtual 127, 3) := by decide +kernel
theorem dX9_readBreak_150 : decode cX9_readBreak 150 = .ok (.iastore, 1) := by decide +kernel
theorem dX9_readBreak_151 : decode cX9_readBreak 151 = .ok (.aload_n 0, 1) := by decide +kernel
theorem dX9_readBreak_152 : decode cX9_readBreak 152 = .ok (.getfield 20, 3) := by decide +kernel
theorem dX9_readBreak_155 : decode cX9_readBreak 155 = .ok (.iconst 0, 1) := by decide +kernel
theorem dX9_readBreak_156 : decode cX9_readBreak 156 = .ok (.dup2, 1) := by decide +kernel
theorem dX9_readBreak_157 : decode cX9_readBreak 157 = .ok (.iaload, 1) := by decide +kernel
theorem dX9_readBreak_158 : decode cX9_readBreak 158 = .ok (.iconst 1, 1) := by decide +kernel
theorem dX9_readBreak_159 : decode cX9_readBreak 159 = .ok (.iadd, 1) := by decide +kernel
theorem dX9_readBreak_160 : decode cX9_readBreak 160 = .ok (.iastore, 1) := by decide +kernel
theorem dX9_readBreak_161 : decode cX9_readBreak 161 = .ok (.return_, 1) := by decide +kernel
theorem dX9_readSponsor_0 : decode cX9_readSponsor 0 = .ok (.aload_n 0, 1) := by decide +kernel
theorem dX9_readSponsor_1 : decode cX9_readSponsor 1 = .ok (.getfield 20, 3) := by decide +kernel
theorem dX9_readSponsor_4 : decode cX9_readSponsor 4 = .ok (.iconst 1, 1) := by decide +kernel
theorem dX9_readSponsor_5 : decode cX9_readSponsor 5 = .ok (.iaload, 1) := by decide +kernel
theorem dX9_readSponsor_6 : decode cX9_readSponsor 6 = .ok (.bipush 8, 2) := by decide +kernel
theorem dX9_readSponsor_8 : decode cX9_readSponsor 8 = .ok (.if_icmp .ne 10, 3) := by decide +kernel
theorem dX9_readSponsor_11 : decode cX9_readSponsor 11 = .ok (.aload_n 0, 1) := by decide +kernel
theorem dX9_readSponsor_12 : decode cX9_readSponsor 12 = .ok (.bipush (-4), 2) := by decide +kernel
theorem dX9_readSponsor_14 : decode cX9_readSponsor 14 = .ok (.iload_n 1, 1) := by decide +kernel
theorem dX9_readSponsor_15 : decode cX9_readSponsor 15 = .ok (.invokevirtual 87, 3) := by decide +kernel
theorem dX9_readSponsor_18 : decode cX9_readSponsor 18 = .ok (.aload_n 0, 1) := by decide +kernel
theorem dX9_readSponsor_19 : decode cX9_readSponsor 19 = .ok (.invokevirtual 70, 3) := by decide +kernel
theorem dX9_readSponsor_22 : decode cX9_readSponsor 22 = .ok (.ifCond .ne 4, 3) := by decide +kernel
theorem dX9_readSponsor_25 : decode cX9_readSponsor 25 = .ok (.return_, 1) := by decide +kernel
theorem dX9_readSponsor_26 : decode cX9_readSponsor 26 = .ok (.sipush 607, 3) := by decide +kernel
theorem dX9_readSponsor_29 : decode cX9_readSponsor 29 = .ok (.iconst 2, 1) := by decide +kernel
theorem dX9_readSponsor_30 : decode cX9_readSponsor 30 = .ok (.aload_n 0, 1) := by decide +kernel
theorem dX9_readSponsor_31 : decode cX9_readSponsor 31 = .ok (.getfield 20, 3) := by decide +kernel
theorem dX9_readSponsor_34 : decode cX9_readSponsor 34 = .ok (.iconst 1, 1) := by decide +kernel
theorem dX9_readSponsor_35 : decode cX9_readSponsor 35 = .ok (.iaload, 1) := by decide +kernel
theorem dX9_readSponsor_36 : decode cX9_readSponsor 36 = .ok (.imul, 1) := by decide +kernel
theorem dX9_readSponsor_37 : decode cX9_readSponsor 37 = .ok (.iadd, 1) := by decide +kernel
theorem dX9_readSponsor_38 : decode cX9_readSponsor 38 = .ok (.istore_n 2, 1) := by decide +kernel
theorem dX9_readSponsor_39 : decode cX9_readSponsor 39 = .ok (.aload_n 0, 1) := by decide +kernel
theorem dX9_readSponsor_40 : decode cX9_readSponsor 40 = .ok (.getfield 20, 3) := by decide +kernel
theorem dX9_readSponsor_43 : decode cX9_readSponsor 43 = .ok (.iload_n 2, 1) := by decide +kernel
theorem dX9_readSponsor_44 : decode cX9_readSponsor 44 = .ok (.aload_n 0, 1) := by decide +kernel
theorem dX9_readSponsor_45 : decode cX9_readSponsor 45 = .ok (.iconst 0, 1) := by decide +kernel
theorem dX9_readSponsor_46 : decode cX9_readSponsor 46 = .ok (.bipush 9, 2) := by decide +kernel
theorem dX9_readSponsor_48 : decode cX9_readSponsor 48 = .ok (.invokevirtual 127, 3) := by decide +kernel
theorem dX9_readSponsor_51 : decode cX9_readSponsor 51 = .ok (.iastore, 1) := by decide +kernel
theorem dX9_readSponsor_52 : decode cX9_readSponsor 52 = .ok (.aload_n 0, 1) := by decide +kernel
theorem dX9_readSponsor_53 : decode cX9_readSponsor 53 = .ok (.getfield 20, 3) := by decide +kernel
theorem dX9_readSponsor_56 : decode cX9_readSponsor 56 = .ok (.iload_n 2, 1) := by decide +kernel
theorem dX9_readSponsor_57 : decode cX9_readSponsor 57 = .ok (.iconst 1, 1) := by decide +kernel
theorem dX9_readSponsor_58 : decode cX9_readSponsor 58 = .ok (.iadd, 1) := by decide +kernel
theorem dX9_readSponsor_59 : decode cX9_readSponsor 59 = .ok (.aload_n 0, 1) := by decide +kernel
theorem dX9_readSponsor_60 : decode cX9_readSponsor 60 = .ok (.iconst 1, 1) := by decide +kernel
theorem dX9_readSponsor_61 : decode cX9_readSponsor 61 = .ok (.bipush 9, 2) := by decide +kernel
theorem dX9_readSponsor_63 : decode cX9_readSponsor 63 = .ok (.invokevirtual 127, 3) := by decide +kernel
theorem dX9_readSponsor_66 : decode cX9_readSponsor 66 = .ok (.iastore, 1) := by decide +kernel
theorem dX9_readSponsor_67 : decode cX9_readSponsor 67 = .ok (.aload_n 0, 1) := by decide +kernel
theorem dX9_readSponsor_68 : decode cX9_readSponsor 68 = .ok (.getfield 20, 3) := by decide +kernel
theorem dX9_readSponsor_71 : decode cX9_readSponsor 71 = .ok (.iconst 1, 1) := by decide +kernel
theorem dX9_readSponsor_72 : decode cX9_readSponsor 72 = .ok (.dup2, 1) := by decide +kernel
theorem dX9_readSponsor_73 : decode cX9_readSponsor 73 = .ok (.iaload, 1) := by decide +kernel
theorem dX9_readSponsor_74 : decode cX9_readSponsor 74 = .ok (.iconst 1, 1) := by decide +kernel
theorem dX9_readSponsor_75 : decode cX9_readSponsor 75 = .ok (.iadd, 1) := by decide +kernel
theorem dX9_readSponsor_76 : decode cX9_readSponsor 76 = .ok (.iastore, 1) := by decide +kernel
theorem dX9_readSponsor_77 : decode cX9_readSponsor 77 = .ok (.return_, 1) := by decide +kernel
theorem dX9_readBan_0 : decode cX9_readBan 0 = .ok (.aload_n 0, 1) := by decide +kernel
theorem dX9_readBan_1 : decode cX9_readBan 1 = .ok (.getfield 20, 3) := by decide +kernel
theorem dX9_readBan_4 : decode cX9_readBan 4 = .ok (.iconst 2, 1) := by decide +kernel
theorem dX9_readBan_5 : decode cX9_readBan 5 = .ok (.iaload, 1) := by decide +kernel
theorem dX9_readBan_6 : decode cX9_readBan 6 = .ok (.bipush 10, 2) := by decide +kernel
theorem dX9_readBan_8 : decode cX9_readBan 8 = .ok (.if_icmp .ne 10, 3) := by decide +kernel
theorem dX9_readBan_11 : decode cX9_readBan 11 = .ok (.aload_n 0, 1) := by decide +kernel
theorem dX9_readBan_12 : decode cX9_readBan 12 = .ok (.bipush (-4), 2) := by decide +kernel
theorem dX9_readBan_14 : decode cX9_readBan 14 = .ok (.iload_n 1, 1) := by decide +kernel
theorem dX9_readBan_15 : decode cX9_readBan 15 = .ok (.invokevirtual 87, 3) := by decide +kernel
theorem dX9_readBan_18 : decode cX9_readBan 18 = .ok (.aload_n 0, 1) := by decide +kernel
theorem dX9_readBan_19 : decode cX9_readBan 19 = .ok (.iconst 0, 1) := by decide +kernel
theorem dX9_readBan_20 : decode cX9_readBan 20 = .ok (.bipush 9, 2) := by decide +kernel
theorem dX9_readBan_22 : decode cX9_readBan 22 = .ok (.invokevirtual 127, 3) := by decide +kernel
theorem dX9_readBan_25 : decode cX9_readBan 25 = .ok (.istore_n 2, 1) := by decide +kernel
theorem dX9_readBan_26 : decode cX9_readBan 26 = .ok (.aload_n 0, 1) := by decide +kernel
theorem dX9_readBan_27 : decode cX9_readBan 27 = .ok (.iconst 0, 1) := by decide +kernel
theorem dX9_readBan_28 : decode cX9_readBan 28 = .ok (.bipush 9, 2) := by decide +kernel
theorem dX9_readBan_30 : decode cX9_readBan 30 = .ok (.invokevirtual 127, 3) := by decide +kernel
theorem dX9_readBan_33 : decode cX9_readBan 33 = .ok (.istore_n 3, 1) := by decide +kernel
theorem dX9_readBan_34 : decode cX9_readBan 34 = .ok (.aload_n 0, 1) := by decide +kernel
theorem dX9_readBan_35 : decode cX9_readBan 35 = .ok (.invokevirtual 70, 3) := by decide +kernel
theorem dX9_readBan_38 : decode cX9_readBan 38 = .ok (.ifCond .ne 4, 3) := by decide +kernel
theorem dX9_readBan_41 : decode cX9_readBan 41 = .ok (.return_, 1) := by decide +kernel
theorem dX9_readBan_42 : decode cX9_readBan 42 = .ok (.aload_n 0, 1) := by decide +kernel
theorem dX9_readBan_43 : decode cX9_readBan 43 = .ok (.getfield 20, 3) := by decide +kernel
theorem dX9_readBan_46 : decode cX9_readBan 46 = .ok (.sipush 623, 3) := by decide +kernel
theorem dX9_readBan_49 : decode cX9_readBan 49 = .ok (.bipush 10, 2) := by decide +kernel
theorem dX9_readBan_51 : decode cX9_readBan 51 = .ok (.iload_n 2, 1) := by decide +kernel
theorem dX9_readBan_52 : decode cX9_readBan 52 = .ok (.imul, 1) := by decide +kernel
theorem dX9_readBan_53 : decode cX9_readBan 53 = .ok (.iadd, 1) := by decide +kernel
theorem dX9_readBan_54 : decode cX9_readBan 54 = .ok (.iload_n 3, 1) := by decide +kernel
theorem dX9_readBan_55 : decode cX9_readBan 55 = .ok (.iadd, 1) := by decide +kernel
theorem dX9_readBan_56 : decode cX9_readBan 56 = .ok (.iconst 1, 1) := by decide +kernel
theorem dX9_readBan_57 : decode cX9_readBan 57 = .ok (.iastore, 1) := by decide +kernel
theorem dX9_readBan_58 : decode cX9_readBan 58 = .ok (.aload_n 0, 1) := by decide +kernel
theorem dX9_readBan_59 : decode cX9_readBan 59 = .ok (.getfield 20, 3) := by decide +kernel
theorem dX9_readBan_62 : decode cX9_readBan 62 = .ok (.sipush 623, 3) := by decide +kernel
theorem dX9_readBan_65 : decode cX9_readBan 65 = .ok (.bipush 10, 2) := by decide +kernel
theorem dX9_readBan_67 : decode cX9_readBan 67 = .ok (.iload_n 3, 1) := by decide +kernel
theorem dX9_readBan_68 : decode cX9_readBan 68 = .ok (.imul, 1) := by decide +kernel
theorem dX9_readBan_69 : decode cX9_readBan 69 = .ok (.iadd, 1) := by decide +kernel
theorem dX9_readBan_70 : decode cX9_readBan 70 = .ok (.iload_n 2, 1) := by decide +kernel
theorem dX9_readBan_71 : decode cX9_readBan 71 = .ok (.iadd, 1) := by decide +kernel
theorem dX9_readBan_72 : decode cX9_readBan 72 = .ok (.iconst 1, 1) := by decide +kernel
theorem dX9_readBan_73 : decode cX9_readBan 73 = .ok (.iastore, 1) := by decide +kernel
theorem dX9_readBan_74 : decode cX9_readBan 74 = .ok (.aload_n 0, 1) := by decide +kernel
theorem dX9_readBan_75 : decode cX9_readBan 75 = .ok (.getfield 20, 3) := by decide +kernel
theorem dX9_readBan_78 : decode cX9_readBan 78 = .ok (.iconst 2, 1) := by decide +kernel
theorem dX9_readBan_79 : decode cX9_readBan 79 = .ok (.dup2, 1) := by decide +kernel
theorem dX9_readBan_80 : decode cX9_readBan 80 = .ok (.iaload, 1) := by decide +kernel
theorem dX9_readBan_81 : decode cX9_readBan 81 = .ok (.iconst 1, 1) := by decide +kernel
theorem dX9_readBan_82 : decode cX9_readBan 82 = .ok (.iadd, 1) := by decide +kernel
theorem dX9_readBan_83 : decode cX9_readBan 83 = .ok (.iastore, 1) := by decide +kernel
theorem dX9_readBan_84 : decode cX9_readBan 84 = .ok (.return_, 1) := by decide +kernel
theorem dX9_statement_0 : decode cX9_statement 0 = .ok (.aload_n 0, 1) := by decide +kernel
theorem dX9_statement_1 : decode cX9_statement 1 = .ok (.invokevirtual 74, 3) := by decide +kernel
theorem dX9_statement_4 : decode cX9_statement 4 = .ok (.pop, 1) := by decide +kernel
theorem dX9_statement_5 : decode cX9_statement 5 = .ok (.aload_n 0, 1) := by decide +kernel
theorem dX9_statement_6 : decode cX9_statement 6 = .ok (.getfield 54, 3) := by decide +kernel
theorem dX9_statement_9 : decode cX9_statement 9 = .ok (.istore_n 1, 1) := by decide +kernel
theorem dX9_statement_10 : decode cX9_statement 10 = .ok (.aload_n 0, 1) := by decide +kernel
theorem dX9_statement_11 : decode cX9_statement 11 = .ok (.ldc 146, 2) := by decide +kernel
theorem dX9_statement_13 : decode cX9_statement 13 = .ok (.invokevirtual 115, 3) := by decide +kernel
end
section
theorem dX9_statement_16 : decode cX9_statement 16 = .ok (.ifCond .eq 11, 3) := by decide +kernel
theorem dX9_statement_19 : decode cX9_statement 19 = .ok (.aload_n 0, 1) := by decide +kernel
theorem dX9_statement_20 : decode cX9_statement 20 = .ok (.iload_n 1, 1) := by decide +kernel
theorem dX9_statement_21 : decode cX9_statement 21 = .ok (.invokevirtual 148, 3) := by decide +kernel
theorem dX9_statement_24 : decode cX9_statement 24 = .ok (.goto 73, 3) := by decide +kernel
theorem dX9_statement_27 : decode cX9_statement 27 = .ok (.aload_n 0, 1) := by decide +kernel
theorem dX9_statement_28 : decode cX9_statement 28 = .ok (.ldc 151, 2) := by decide +kernel
theorem dX9_statement_30 : decode cX9_statement 30 = .ok (.invokevirtual 115, 3) := by decide +kernel
theorem dX9_statement_33 : decode cX9_statement 33 = .ok (.ifCond .eq 11, 3) := by decide +kernel
theorem dX9_statement_36 : decode cX9_statement 36 = .ok (.aload_n 0, 1) := by decide +kernel
theorem dX9_statement_37 : decode cX9_statement 37 = .ok (.iload_n 1, 1) := by decide +kernel
theorem dX9_statement_38 : decode cX9_statement 38 = .ok (.invokevirtual 153, 3) := by decide +kernel
theorem dX9_statement_41 : decode cX9_statement 41 = .ok (.goto 56, 3) := by decide +kernel
theorem dX9_statement_44 : decode cX9_statement 44 = .ok (.aload_n 0, 1) := by decide +kernel
theorem dX9_statement_45 : decode cX9_statement 45 = .ok (.ldc 156, 2) := by decide +kernel
theorem dX9_statement_47 : decode cX9_statement 47 = .ok (.invokevirtual 115, 3) := by decide +kernel
theorem dX9_statement_50 : decode cX9_statement 50 = .ok (.ifCond .eq 11, 3) := by decide +kernel
theorem dX9_statement_53 : decode cX9_statement 53 = .ok (.aload_n 0, 1) := by decide +kernel
theorem dX9_statement_54 : decode cX9_statement 54 = .ok (.iload_n 1, 1) := by decide +kernel
theorem dX9_statement_55 : decode cX9_statement 55 = .ok (.invokevirtual 158, 3) := by decide +kernel
theorem dX9_statement_58 : decode cX9_statement 58 = .ok (.goto 39, 3) := by decide +kernel
theorem dX9_statement_61 : decode cX9_statement 61 = .ok (.aload_n 0, 1) := by decide +kernel
theorem dX9_statement_62 : decode cX9_statement 62 = .ok (.ldc 161, 2) := by decide +kernel
theorem dX9_statement_64 : decode cX9_statement 64 = .ok (.invokevirtual 115, 3) := by decide +kernel
theorem dX9_statement_67 : decode cX9_statement 67 = .ok (.ifCond .eq 23, 3) := by decide +kernel
theorem dX9_statement_70 : decode cX9_statement 70 = .ok (.aload_n 0, 1) := by decide +kernel
theorem dX9_statement_71 : decode cX9_statement 71 = .ok (.iconst 0, 1) := by decide +kernel
theorem dX9_statement_72 : decode cX9_statement 72 = .ok (.iload_n 1, 1) := by decide +kernel
theorem dX9_statement_73 : decode cX9_statement 73 = .ok (.invokevirtual 163, 3) := by decide +kernel
theorem dX9_statement_76 : decode cX9_statement 76 = .ok (.aload_n 0, 1) := by decide +kernel
theorem dX9_statement_77 : decode cX9_statement 77 = .ok (.getfield 20, 3) := by decide +kernel
theorem dX9_statement_80 : decode cX9_statement 80 = .ok (.iconst 3, 1) := by decide +kernel
theorem dX9_statement_81 : decode cX9_statement 81 = .ok (.iconst 1, 1) := by decide +kernel
theorem dX9_statement_82 : decode cX9_statement 82 = .ok (.iastore, 1) := by decide +kernel
theorem dX9_statement_83 : decode cX9_statement 83 = .ok (.aload_n 0, 1) := by decide +kernel
theorem dX9_statement_84 : decode cX9_statement 84 = .ok (.invokevirtual 106, 3) := by decide +kernel
theorem dX9_statement_87 : decode cX9_statement 87 = .ok (.goto 10, 3) := by decide +kernel
theorem dX9_statement_90 : decode cX9_statement 90 = .ok (.aload_n 0, 1) := by decide +kernel
theorem dX9_statement_91 : decode cX9_statement 91 = .ok (.bipush (-2), 2) := by decide +kernel
theorem dX9_statement_93 : decode cX9_statement 93 = .ok (.iload_n 1, 1) := by decide +kernel
theorem dX9_statement_94 : decode cX9_statement 94 = .ok (.invokevirtual 87, 3) := by decide +kernel
theorem dX9_statement_97 : decode cX9_statement 97 = .ok (.aload_n 0, 1) := by decide +kernel
theorem dX9_statement_98 : decode cX9_statement 98 = .ok (.bipush 59, 2) := by decide +kernel
theorem dX9_statement_100 : decode cX9_statement 100 = .ok (.invokevirtual 109, 3) := by decide +kernel
theorem dX9_statement_103 : decode cX9_statement 103 = .ok (.return_, 1) := by decide +kernel
theorem dX9_sortBreaks_0 : decode cX9_sortBreaks 0 = .ok (.iconst 1, 1) := by decide +kernel
theorem dX9_sortBreaks_1 : decode cX9_sortBreaks 1 = .ok (.istore_n 1, 1) := by decide +kernel
theorem dX9_sortBreaks_2 : decode cX9_sortBreaks 2 = .ok (.iload_n 1, 1) := by decide +kernel
theorem dX9_sortBreaks_3 : decode cX9_sortBreaks 3 = .ok (.aload_n 0, 1) := by decide +kernel
theorem dX9_sortBreaks_4 : decode cX9_sortBreaks 4 = .ok (.getfield 20, 3) := by decide +kernel
theorem dX9_sortBreaks_7 : decode cX9_sortBreaks 7 = .ok (.iconst 0, 1) := by decide +kernel
theorem dX9_sortBreaks_8 : decode cX9_sortBreaks 8 = .ok (.iaload, 1) := by decide +kernel
theorem dX9_sortBreaks_9 : decode cX9_sortBreaks 9 = .ok (.if_icmp .ge 108, 3) := by decide +kernel
theorem dX9_sortBreaks_12 : decode cX9_sortBreaks 12 = .ok (.iload_n 1, 1) := by decide +kernel
theorem dX9_sortBreaks_13 : decode cX9_sortBreaks 13 = .ok (.istore_n 2, 1) := by decide +kernel
theorem dX9_sortBreaks_14 : decode cX9_sortBreaks 14 = .ok (.iload_n 2, 1) := by decide +kernel
theorem dX9_sortBreaks_15 : decode cX9_sortBreaks 15 = .ok (.ifCond .le 96, 3) := by decide +kernel
theorem dX9_sortBreaks_18 : decode cX9_sortBreaks 18 = .ok (.aload_n 0, 1) := by decide +kernel
theorem dX9_sortBreaks_19 : decode cX9_sortBreaks 19 = .ok (.getfield 20, 3) := by decide +kernel
theorem dX9_sortBreaks_22 : decode cX9_sortBreaks 22 = .ok (.iload_n 2, 1) := by decide +kernel
theorem dX9_sortBreaks_23 : decode cX9_sortBreaks 23 = .ok (.invokestatic 142, 3) := by decide +kernel
theorem dX9_sortBreaks_26 : decode cX9_sortBreaks 26 = .ok (.aload_n 0, 1) := by decide +kernel
theorem dX9_sortBreaks_27 : decode cX9_sortBreaks 27 = .ok (.getfield 20, 3) := by decide +kernel
theorem dX9_sortBreaks_30 : decode cX9_sortBreaks 30 = .ok (.iload_n 2, 1) := by decide +kernel
theorem dX9_sortBreaks_31 : decode cX9_sortBreaks 31 = .ok (.iconst 1, 1) := by decide +kernel
theorem dX9_sortBreaks_32 : decode cX9_sortBreaks 32 = .ok (.isub, 1) := by decide +kernel
theorem dX9_sortBreaks_33 : decode cX9_sortBreaks 33 = .ok (.invokestatic 142, 3) := by decide +kernel
theorem dX9_sortBreaks_36 : decode cX9_sortBreaks 36 = .ok (.if_icmp .ge 75, 3) := by decide +kernel
theorem dX9_sortBreaks_39 : decode cX9_sortBreaks 39 = .ok (.iconst 0, 1) := by decide +kernel
theorem dX9_sortBreaks_40 : decode cX9_sortBreaks 40 = .ok (.istore_n 3, 1) := by decide +kernel
theorem dX9_sortBreaks_41 : decode cX9_sortBreaks 41 = .ok (.iload_n 3, 1) := by decide +kernel
theorem dX9_sortBreaks_42 : decode cX9_sortBreaks 42 = .ok (.bipush 30, 2) := by decide +kernel
theorem dX9_sortBreaks_44 : decode cX9_sortBreaks 44 = .ok (.if_icmp .ge 61, 3) := by decide +kernel
theorem dX9_sortBreaks_47 : decode cX9_sortBreaks 47 = .ok (.aload_n 0, 1) := by decide +kernel
theorem dX9_sortBreaks_48 : decode cX9_sortBreaks 48 = .ok (.getfield 20, 3) := by decide +kernel
theorem dX9_sortBreaks_51 : decode cX9_sortBreaks 51 = .ok (.iload_n 2, 1) := by decide +kernel
theorem dX9_sortBreaks_52 : decode cX9_sortBreaks 52 = .ok (.invokestatic 44, 3) := by decide +kernel
theorem dX9_sortBreaks_55 : decode cX9_sortBreaks 55 = .ok (.iload_n 3, 1) := by decide +kernel
theorem dX9_sortBreaks_56 : decode cX9_sortBreaks 56 = .ok (.iadd, 1) := by decide +kernel
theorem dX9_sortBreaks_57 : decode cX9_sortBreaks 57 = .ok (.iaload, 1) := by decide +kernel
theorem dX9_sortBreaks_58 : decode cX9_sortBreaks 58 = .ok (.istore 4, 2) := by decide +kernel
theorem dX9_sortBreaks_60 : decode cX9_sortBreaks 60 = .ok (.aload_n 0, 1) := by decide +kernel
theorem dX9_sortBreaks_61 : decode cX9_sortBreaks 61 = .ok (.getfield 20, 3) := by decide +kernel
theorem dX9_sortBreaks_64 : decode cX9_sortBreaks 64 = .ok (.iload_n 2, 1) := by decide +kernel
theorem dX9_sortBreaks_65 : decode cX9_sortBreaks 65 = .ok (.invokestatic 44, 3) := by decide +kernel
theorem dX9_sortBreaks_68 : decode cX9_sortBreaks 68 = .ok (.iload_n 3, 1) := by decide +kernel
theorem dX9_sortBreaks_69 : decode cX9_sortBreaks 69 = .ok (.iadd, 1) := by decide +kernel
theorem dX9_sortBreaks_70 : decode cX9_sortBreaks 70 = .ok (.aload_n 0, 1) := by decide +kernel
theorem dX9_sortBreaks_71 : decode cX9_sortBreaks 71 = .ok (.getfield 20, 3) := by decide +kernel
theorem dX9_sortBreaks_74 : decode cX9_sortBreaks 74 = .ok (.iload_n 2, 1) := by decide +kernel
theorem dX9_sortBreaks_75 : decode cX9_sortBreaks 75 = .ok (.iconst 1, 1) := by decide +kernel
theorem dX9_sortBreaks_76 : decode cX9_sortBreaks 76 = .ok (.isub, 1) := by decide +kernel
theorem dX9_sortBreaks_77 : decode cX9_sortBreaks 77 = .ok (.invokestatic 44, 3) := by decide +kernel
theorem dX9_sortBreaks_80 : decode cX9_sortBreaks 80 = .ok (.iload_n 3, 1) := by decide +kernel
theorem dX9_sortBreaks_81 : decode cX9_sortBreaks 81 = .ok (.iadd, 1) := by decide +kernel
theorem dX9_sortBreaks_82 : decode cX9_sortBreaks 82 = .ok (.iaload, 1) := by decide +kernel
theorem dX9_sortBreaks_83 : decode cX9_sortBreaks 83 = .ok (.iastore, 1) := by decide +kernel
theorem dX9_sortBreaks_84 : decode cX9_sortBreaks 84 = .ok (.aload_n 0, 1) := by decide +kernel
theorem dX9_sortBreaks_85 : decode cX9_sortBreaks 85 = .ok (.getfield 20, 3) := by decide +kernel
theorem dX9_sortBreaks_88 : decode cX9_sortBreaks 88 = .ok (.iload_n 2, 1) := by decide +kernel
theorem dX9_sortBreaks_89 : decode cX9_sortBreaks 89 = .ok (.iconst 1, 1) := by decide +kernel
theorem dX9_sortBreaks_90 : decode cX9_sortBreaks 90 = .ok (.isub, 1) := by decide +kernel
theorem dX9_sortBreaks_91 : decode cX9_sortBreaks 91 = .ok (.invokestatic 44, 3) := by decide +kernel
theorem dX9_sortBreaks_94 : decode cX9_sortBreaks 94 = .ok (.iload_n 3, 1) := by decide +kernel
theorem dX9_sortBreaks_95 : decode cX9_sortBreaks 95 = .ok (.iadd, 1) := by decide +kernel
theorem dX9_sortBreaks_96 : decode cX9_sortBreaks 96 = .ok (.iload 4, 2) := by decide +kernel
theorem dX9_sortBreaks_98 : decode cX9_sortBreaks 98 = .ok (.iastore, 1) := by decide +kernel
theorem dX9_sortBreaks_99 : decode cX9_sortBreaks 99 = .ok (.iinc 3 1, 3) := by decide +kernel
theorem dX9_sortBreaks_102 : decode cX9_sortBreaks 102 = .ok (.goto (-61), 3) := by decide +kernel
theorem dX9_sortBreaks_105 : decode cX9_sortBreaks 105 = .ok (.iinc 2 (-1), 3) := by decide +kernel
theorem dX9_sortBreaks_108 : decode cX9_sortBreaks 108 = .ok (.goto (-94), 3) := by decide +kernel
theorem dX9_sortBreaks_111 : decode cX9_sortBreaks 111 = .ok (.iinc 1 1, 3) := by decide +kernel
theorem dX9_sortBreaks_114 : decode cX9_sortBreaks 114 = .ok (.goto (-112), 3) := by decide +kernel
theorem dX9_sortBreaks_117 : decode cX9_sortBreaks 117 = .ok (.return_, 1) := by decide +kernel
theorem dX9_load_0 : decode cX9_load 0 = .ok (.aload_n 0, 1) := by decide +kernel
theorem dX9_load_1 : decode cX9_load 1 = .ok (.iconst 0, 1) := by decide +kernel
theorem dX9_load_2 : decode cX9_load 2 = .ok (.putfield 41, 3) := by decide +kernel
theorem dX9_load_5 : decode cX9_load 5 = .ok (.aload_n 0, 1) := by decide +kernel
theorem dX9_load_6 : decode cX9_load 6 = .ok (.iload_n 1, 1) := by decide +kernel
theorem dX9_load_7 : decode cX9_load 7 = .ok (.iconst 0, 1) := by decide +kernel
theorem dX9_load_8 : decode cX9_load 8 = .ok (.aload_n 0, 1) := by decide +kernel
theorem dX9_load_9 : decode cX9_load 9 = .ok (.getfield 48, 3) := by decide +kernel
theorem dX9_load_12 : decode cX9_load 12 = .ok (.invokestatic 66, 3) := by decide +kernel
theorem dX9_load_15 : decode cX9_load 15 = .ok (.ifCond .ne 7, 3) := by decide +kernel
theorem dX9_load_18 : decode cX9_load 18 = .ok (.iconst 1, 1) := by decide +kernel
theorem dX9_load_19 : decode cX9_load 19 = .ok (.goto 4, 3) := by decide +kernel
theorem dX9_load_22 : decode cX9_load 22 = .ok (.iconst 0, 1) := by decide +kernel
theorem dX9_load_23 : decode cX9_load 23 = .ok (.iconst 1, 1) := by decide +kernel
theorem dX9_load_24 : decode cX9_load 24 = .ok (.invokevirtual 166, 3) := by decide +kernel
theorem dX9_load_27 : decode cX9_load 27 = .ok (.ifCond .eq 5, 3) := by decide +kernel
theorem dX9_load_30 : decode cX9_load 30 = .ok (.iconst 0, 1) := by decide +kernel
theorem dX9_load_31 : decode cX9_load 31 = .ok (.ireturn, 1) := by decide +kernel
theorem dX9_load_32 : decode cX9_load 32 = .ok (.aload_n 0, 1) := by decide +kernel
theorem dX9_load_33 : decode cX9_load 33 = .ok (.iconst 0, 1) := by decide +kernel
theorem dX9_load_34 : decode cX9_load 34 = .ok (.putfield 48, 3) := by decide +kernel
theorem dX9_load_37 : decode cX9_load 37 = .ok (.aload_n 0, 1) := by decide +kernel
theorem dX9_load_38 : decode cX9_load 38 = .ok (.iload_n 1, 1) := by decide +kernel
theorem dX9_load_39 : decode cX9_load 39 = .ok (.putfield 51, 3) := by decide +kernel
theorem dX9_load_42 : decode cX9_load 42 = .ok (.aload_n 0, 1) := by decide +kernel
theorem dX9_load_43 : decode cX9_load 43 = .ok (.iconst 0, 1) := by decide +kernel
theorem dX9_load_44 : decode cX9_load 44 = .ok (.putfield 54, 3) := by decide +kernel
theorem dX9_load_47 : decode cX9_load 47 = .ok (.aload_n 0, 1) := by decide +kernel
theorem dX9_load_48 : decode cX9_load 48 = .ok (.iconst 0, 1) := by decide +kernel
theorem dX9_load_49 : decode cX9_load 49 = .ok (.putfield 60, 3) := by decide +kernel
theorem dX9_load_52 : decode cX9_load 52 = .ok (.aload_n 0, 1) := by decide +kernel
theorem dX9_load_53 : decode cX9_load 53 = .ok (.iconst (-1), 1) := by decide +kernel
theorem dX9_load_54 : decode cX9_load 54 = .ok (.putfield 63, 3) := by decide +kernel
theorem dX9_load_57 : decode cX9_load 57 = .ok (.aload_n 0, 1) := by decide +kernel
theorem dX9_load_58 : decode cX9_load 58 = .ok (.iconst 0, 1) := by decide +kernel
theorem dX9_load_59 : decode cX9_load 59 = .ok (.putfield 103, 3) := by decide +kernel
theorem dX9_load_62 : decode cX9_load 62 = .ok (.aload_n 0, 1) := by decide +kernel
theorem dX9_load_63 : decode cX9_load 63 = .ok (.iconst 0, 1) := by decide +kernel
theorem dX9_load_64 : decode cX9_load 64 = .ok (.putfield 139, 3) := by decide +kernel
theorem dX9_load_67 : decode cX9_load 67 = .ok (.iconst 0, 1) := by decide +kernel
theorem dX9_load_68 : decode cX9_load 68 = .ok (.istore_n 2, 1) := by decide +kernel
theorem dX9_load_69 : decode cX9_load 69 = .ok (.iload_n 2, 1) := by decide +kernel
theorem dX9_load_70 : decode cX9_load 70 = .ok (.sipush 2663, 3) := by decide +kernel
theorem dX9_load_73 : decode cX9_load 73 = .ok (.if_icmp .ge 16, 3) := by decide +kernel
theorem dX9_load_76 : decode cX9_load 76 = .ok (.aload_n 0, 1) := by decide +kernel
theorem dX9_load_77 : decode cX9_load 77 = .ok (.getfield 20, 3) := by decide +kernel
theorem dX9_load_80 : decode cX9_load 80 = .ok (.iload_n 2, 1) := by decide +kernel
theorem dX9_load_81 : decode cX9_load 81 = .ok (.iconst 0, 1) := by decide +kernel
theorem dX9_load_82 : decode cX9_load 82 = .ok (.iastore, 1) := by decide +kernel
theorem dX9_load_83 : decode cX9_load 83 = .ok (.iinc 2 1, 3) := by decide +kernel
theorem dX9_load_86 : decode cX9_load 86 = .ok (.goto (-17), 3) := by decide +kernel
theorem dX9_load_89 : decode cX9_load 89 = .ok (.aload_n 0, 1) := by decide +kernel
theorem dX9_load_90 : decode cX9_load 90 = .ok (.ldc 170, 2) := by decide +kernel
theorem dX9_load_92 : decode cX9_load 92 = .ok (.invokevirtual 115, 3) := by decide +kernel
theorem dX9_load_95 : decode cX9_load 95 = .ok (.ifCond .ne 13, 3) := by decide +kernel
theorem dX9_load_98 : decode cX9_load 98 = .ok (.aload_n 0, 1) := by decide +kernel
theorem dX9_load_99 : decode cX9_load 99 = .ok (.bipush (-2), 2) := by decide +kernel
theorem dX9_load_101 : decode cX9_load 101 = .ok (.aload_n 0, 1) := by decide +kernel
theorem dX9_load_102 : decode cX9_load 102 = .ok (.getfield 54, 3) := by decide +kernel
theorem dX9_load_105 : decode cX9_load 105 = .ok (.invokevirtual 87, 3) := by decide +kernel
theorem dX9_load_108 : decode cX9_load 108 = .ok (.aload_n 0, 1) := by decide +kernel
theorem dX9_load_109 : decode cX9_load 109 = .ok (.bipush 59, 2) := by decide +kernel
theorem dX9_load_111 : decode cX9_load 111 = .ok (.invokevirtual 109, 3) := by decide +kernel
theorem dX9_load_114 : decode cX9_load 114 = .ok (.aload_n 0, 1) := by decide +kernel
theorem dX9_load_115 : decode cX9_load 115 = .ok (.invokevirtual 70, 3) := by decide +kernel
theorem dX9_load_118 : decode cX9_load 118 = .ok (.ifCond .eq 18, 3) := by decide +kernel
theorem dX9_load_121 : decode cX9_load 121 = .ok (.aload_n 0, 1) := by decide +kernel
theorem dX9_load_122 : decode cX9_load 122 = .ok (.invokevirtual 74, 3) := by decide +kernel
theorem dX9_load_125 : decode cX9_load 125 = .ok (.iconst (-1), 1) := by decide +kernel
theorem dX9_load_126 : decode cX9_load 126 = .ok (.if_icmp .eq 10, 3) := by decide +kernel
theorem dX9_load_129 : decode cX9_load 129 = .ok (.aload_n 0, 1) := by decide +kernel
theorem dX9_load_130 : decode cX9_load 130 = .ok (.invokevirtual 172, 3) := by decide +kernel
theorem dX9_load_133 : decode cX9_load 133 = .ok (.goto (-19), 3) := by decide +kernel
theorem dX9_load_136 : decode cX9_load 136 = .ok (.aload_n 0, 1) := by decide +kernel
theorem dX9_load_137 : decode cX9_load 137 = .ok (.aload_n 0, 1) := by decide +kernel
theorem dX9_load_138 : decode cX9_load 138 = .ok (.getfield 63, 3) := by decide +kernel
theorem dX9_load_141 : decode cX9_load 141 = .ok (.putfield 13, 3) := by decide +kernel
theorem dX9_load_144 : decode cX9_load 144 = .ok (.aload_n 0, 1) := by decide +kernel
theorem dX9_load_145 : decode cX9_load 145 = .ok (.invokevirtual 70, 3) := by decide +kernel
theorem dX9_load_148 : decode cX9_load 148 = .ok (.ifCond .ne 8, 3) := by decide +kernel
theorem dX9_load_151 : decode cX9_load 151 = .ok (.aload_n 0, 1) := by decide +kernel
theorem dX9_load_152 : decode cX9_load 152 = .ok (.getfield 60, 3) := by decide +kernel
theorem dX9_load_155 : decode cX9_load 155 = .ok (.ireturn, 1) := by decide +kernel
theorem dX9_load_156 : decode cX9_load 156 = .ok (.aload_n 0, 1) := by decide +kernel
theorem dX9_load_157 : decode cX9_load 157 = .ok (.invokevirtual 175, 3) := by decide +kernel
theorem dX9_load_160 : decode cX9_load 160 = .ok (.aload_n 0, 1) := by decide +kernel
theorem dX9_load_161 : decode cX9_load 161 = .ok (.invokevirtual 178, 3) := by decide +kernel
theorem dX9_load_164 : decode cX9_load 164 = .ok (.aload_n 0, 1) := by decide +kernel
theorem dX9_load_165 : decode cX9_load 165 = .ok (.getfield 20, 3) := by decide +kernel
theorem dX9_load_168 : decode cX9_load 168 = .ok (.aload_n 0, 1) := by decide +kernel
theorem dX9_load_169 : decode cX9_load 169 = .ok (.getfield 17, 3) := by decide +kernel
theorem dX9_load_172 : decode cX9_load 172 = .ok (.invokestatic 181, 3) := by decide +kernel
theorem dX9_load_175 : decode cX9_load 175 = .ok (.aload_n 0, 1) := by decide +kernel
theorem dX9_load_176 : decode cX9_load 176 = .ok (.getfield 17, 3) := by decide +kernel
theorem dX9_load_179 : decode cX9_load 179 = .ok (.iconst 0, 1) := by decide +kernel
theorem dX9_load_180 : decode cX9_load 180 = .ok (.iaload, 1) := by decide +kernel
theorem dX9_load_181 : decode cX9_load 181 = .ok (.ireturn, 1) := by decide +kernel
theorem dX9_errorOffset_0 : decode cX9_errorOffset 0 = .ok (.aload_n 0, 1) := by decide +kernel
theorem dX9_errorOffset_1 : decode cX9_errorOffset 1 = .ok (.iconst 0, 1) := by decide +kernel
theorem dX9_errorOffset_2 : decode cX9_errorOffset 2 = .ok (.putfield 41, 3) := by decide +kernel
theorem dX9_errorOffset_5 : decode cX9_errorOffset 5 = .ok (.aload_n 0, 1) := by decide +kernel
theorem dX9_errorOffset_6 : decode cX9_errorOffset 6 = .ok (.getfield 13, 3) := by decide +kernel
theorem dX9_errorOffset_9 : decode cX9_errorOffset 9 = .ok (.ireturn, 1) := by decide +kernel
theorem dX9_spotAt_0 : decode cX9_spotAt 0 = .ok (.iload_n 0, 1) := by decide +kernel
theorem dX9_spotAt_1 : decode cX9_spotAt 1 = .ok (.invokestatic 44, 3) := by decide +kernel
theorem dX9_spotAt_4 : decode cX9_spotAt 4 = .ok (.bipush 6, 2) := by decide +kernel
theorem dX9_spotAt_6 : decode cX9_spotAt 6 = .ok (.iadd, 1) := by decide +kernel
theorem dX9_spotAt_7 : decode cX9_spotAt 7 = .ok (.iconst 3, 1) := by decide +kernel
theorem dX9_spotAt_8 : decode cX9_spotAt 8 = .ok (.iload_n 1, 1) := by decide +kernel
theorem dX9_spotAt_9 : decode cX9_spotAt 9 = .ok (.imul, 1) := by decide +kernel
theorem dX9_spotAt_10 : decode cX9_spotAt 10 = .ok (.iadd, 1) := by decide +kernel
theorem dX9_spotAt_11 : decode cX9_spotAt 11 = .ok (.ireturn, 1) := by decide +kernel
theorem dX9_countOf_0 : decode cX9_countOf 0 = .ok (.aload_n 0, 1) := by decide +kernel
theorem dX9_countOf_1 : decode cX9_countOf 1 = .ok (.getfield 17, 3) := by decide +kernel
theorem dX9_countOf_4 : decode cX9_countOf 4 = .ok (.iload_n 1, 1) := by decide +kernel
theorem dX9_countOf_5 : decode cX9_countOf 5 = .ok (.invokestatic 44, 3) := by decide +kernel
theorem dX9_countOf_8 : decode cX9_countOf 8 = .ok (.iconst 5, 1) := by decide +kernel
theorem dX9_countOf_9 : decode cX9_countOf 9 = .ok (.iadd, 1) := by decide +kernel
theorem dX9_countOf_10 : decode cX9_countOf 10 = .ok (.iaload, 1) := by decide +kernel
theorem dX9_countOf_11 : decode cX9_countOf 11 = .ok (.ireturn, 1) := by decide +kernel
theorem dX9_usedOf_0 : decode cX9_usedOf 0 = .ok (.iconst 0, 1) := by decide +kernel
theorem dX9_usedOf_1 : decode cX9_usedOf 1 = .ok (.istore_n 2, 1) := by decide +kernel
theorem dX9_usedOf_2 : decode cX9_usedOf 2 = .ok (.iconst 0, 1) := by decide +kernel
theorem dX9_usedOf_3 : decode cX9_usedOf 3 = .ok (.istore_n 3, 1) := by decide +kernel
theorem dX9_usedOf_4 : decode cX9_usedOf 4 = .ok (.iload_n 3, 1) := by decide +kernel
theorem dX9_usedOf_5 : decode cX9_usedOf 5 = .ok (.aload_n 0, 1) := by decide +kernel
theorem dX9_usedOf_6 : decode cX9_usedOf 6 = .ok (.iload_n 1, 1) := by decide +kernel
theorem dX9_usedOf_7 : decode cX9_usedOf 7 = .ok (.invokevirtual 185, 3) := by decide +kernel
theorem dX9_usedOf_10 : decode cX9_usedOf 10 = .ok (.if_icmp .ge 24, 3) := by decide +kernel
theorem dX9_usedOf_13 : decode cX9_usedOf 13 = .ok (.iload_n 2, 1) := by decide +kernel
theorem dX9_usedOf_14 : decode cX9_usedOf 14 = .ok (.aload_n 0, 1) := by decide +kernel
theorem dX9_usedOf_15 : decode cX9_usedOf 15 = .ok (.getfield 17, 3) := by decide +kernel
theorem dX9_usedOf_18 : decode cX9_usedOf 18 = .ok (.iload_n 1, 1) := by decide +kernel
theorem dX9_usedOf_19 : decode cX9_usedOf 19 = .ok (.iload_n 3, 1) := by decide +kernel
theorem dX9_usedOf_20 : decode cX9_usedOf 20 = .ok (.invokestatic 188, 3) := by decide +kernel
theorem dX9_usedOf_23 : decode cX9_usedOf 23 = .ok (.iconst 1, 1) := by decide +kernel
theorem dX9_usedOf_24 : decode cX9_usedOf 24 = .ok (.iadd, 1) := by decide +kernel
theorem dX9_usedOf_25 : decode cX9_usedOf 25 = .ok (.iaload, 1) := by decide +kernel
theorem dX9_usedOf_26 : decode cX9_usedOf 26 = .ok (.iadd, 1) := by decide +kernel
theorem dX9_usedOf_27 : decode cX9_usedOf 27 = .ok (.istore_n 2, 1) := by decide +kernel
theorem dX9_usedOf_28 : decode cX9_usedOf 28 = .ok (.iinc 3 1, 3) := by decide +kernel
theorem dX9_usedOf_31 : decode cX9_usedOf 31 = .ok (.goto (-27), 3) := by decide +kernel
theorem dX9_usedOf_34 : decode cX9_usedOf 34 = .ok (.iload_n 2, 1) := by decide +kernel
theorem dX9_usedOf_35 : decode cX9_usedOf 35 = .ok (.ireturn, 1) := by decide +kernel
theorem dX9_hasSpot_0 : decode cX9_hasSpot 0 = .ok (.iconst 0, 1) := by decide +kernel
theorem dX9_hasSpot_1 : decode cX9_hasSpot 1 = .ok (.istore_n 3, 1) := by decide +kernel
theorem dX9_hasSpot_2 : decode cX9_hasSpot 2 = .ok (.iload_n 3, 1) := by decide +kernel
theorem dX9_hasSpot_3 : decode cX9_hasSpot 3 = .ok (.aload_n 0, 1) := by decide +kernel
theorem dX9_hasSpot_4 : decode cX9_hasSpot 4 = .ok (.iload_n 1, 1) := by decide +kernel
theorem dX9_hasSpot_5 : decode cX9_hasSpot 5 = .ok (.invokevirtual 185, 3) := by decide +kernel
theorem dX9_hasSpot_8 : decode cX9_hasSpot 8 = .ok (.if_icmp .ge 25, 3) := by decide +kernel
theorem dX9_hasSpot_11 : decode cX9_hasSpot 11 = .ok (.aload_n 0, 1) := by decide +kernel
theorem dX9_hasSpot_12 : decode cX9_hasSpot 12 = .ok (.getfield 17, 3) := by decide +kernel
theorem dX9_hasSpot_15 : decode cX9_hasSpot 15 = .ok (.iload_n 1, 1) := by decide +kernel
theorem dX9_hasSpot_16 : decode cX9_hasSpot 16 = .ok (.iload_n 3, 1) := by decide +kernel
theorem dX9_hasSpot_17 : decode cX9_hasSpot 17 = .ok (.invokestatic 188, 3) := by decide +kernel
theorem dX9_hasSpot_20 : decode cX9_hasSpot 20 = .ok (.iaload, 1) := by decide +kernel
theorem dX9_hasSpot_21 : decode cX9_hasSpot 21 = .ok (.iload_n 2, 1) := by decide +kernel
theorem dX9_hasSpot_22 : decode cX9_hasSpot 22 = .ok (.if_icmp .ne 5, 3) := by decide +kernel
theorem dX9_hasSpot_25 : decode cX9_hasSpot 25 = .ok (.iconst 1, 1) := by decide +kernel
theorem dX9_hasSpot_26 : decode cX9_hasSpot 26 = .ok (.ireturn, 1) := by decide +kernel
theorem dX9_hasSpot_27 : decode cX9_hasSpot 27 = .ok (.iinc 3 1, 3) := by decide +kernel
theorem dX9_hasSpot_30 : decode cX9_hasSpot 30 = .ok (.goto (-28), 3) := by decide +kernel
theorem dX9_hasSpot_33 : decode cX9_hasSpot 33 = .ok (.iconst 0, 1) := by decide +kernel
theorem dX9_hasSpot_34 : decode cX9_hasSpot 34 = .ok (.ireturn, 1) := by decide +kernel
theorem dX9_spotsOf_0 : decode cX9_spotsOf 0 = .ok (.iconst 0, 1) := by decide +kernel
theorem dX9_spotsOf_1 : decode cX9_spotsOf 1 = .ok (.istore 5, 2) := by decide +kernel
theorem dX9_spotsOf_3 : decode cX9_spotsOf 3 = .ok (.iconst 0, 1) := by decide +kernel
theorem dX9_spotsOf_4 : decode cX9_spotsOf 4 = .ok (.istore 6, 2) := by decide +kernel
theorem dX9_spotsOf_6 : decode cX9_spotsOf 6 = .ok (.iload 6, 2) := by decide +kernel
theorem dX9_spotsOf_8 : decode cX9_spotsOf 8 = .ok (.aload_n 0, 1) := by decide +kernel
theorem dX9_spotsOf_9 : decode cX9_spotsOf 9 = .ok (.getfield 17, 3) := by decide +kernel
theorem dX9_spotsOf_12 : decode cX9_spotsOf 12 = .ok (.iconst 0, 1) := by decide +kernel
theorem dX9_spotsOf_13 : decode cX9_spotsOf 13 = .ok (.iaload, 1) := by decide +kernel
theorem dX9_spotsOf_14 : decode cX9_spotsOf 14 = .ok (.if_icmp .ge 68, 3) := by decide +kernel
theorem dX9_spotsOf_17 : decode cX9_spotsOf 17 = .ok (.aload_n 0, 1) := by decide +kernel
theorem dX9_spotsOf_18 : decode cX9_spotsOf 18 = .ok (.getfield 17, 3) := by decide +kernel
theorem dX9_spotsOf_21 : decode cX9_spotsOf 21 = .ok (.iload 6, 2) := by decide +kernel
theorem dX9_spotsOf_23 : decode cX9_spotsOf 23 = .ok (.invokestatic 44, 3) := by decide +kernel
theorem dX9_spotsOf_26 : decode cX9_spotsOf 26 = .ok (.iconst 4, 1) := by decide +kernel
theorem dX9_spotsOf_27 : decode cX9_spotsOf 27 = .ok (.iadd, 1) := by decide +kernel
theorem dX9_spotsOf_28 : decode cX9_spotsOf 28 = .ok (.iaload, 1) := by decide +kernel
theorem dX9_spotsOf_29 : decode cX9_spotsOf 29 = .ok (.istore 7, 2) := by decide +kernel
theorem dX9_spotsOf_31 : decode cX9_spotsOf 31 = .ok (.iload_n 2, 1) := by decide +kernel
theorem dX9_spotsOf_32 : decode cX9_spotsOf 32 = .ok (.iconst (-1), 1) := by decide +kernel
theorem dX9_spotsOf_33 : decode cX9_spotsOf 33 = .ok (.if_icmp .eq 17, 3) := by decide +kernel
theorem dX9_spotsOf_36 : decode cX9_spotsOf 36 = .ok (.aload_n 0, 1) := by decide +kernel
theorem dX9_spotsOf_37 : decode cX9_spotsOf 37 = .ok (.getfield 17, 3) := by decide +kernel
theorem dX9_spotsOf_40 : decode cX9_spotsOf 40 = .ok (.iload 6, 2) := by decide +kernel
theorem dX9_spotsOf_42 : decode cX9_spotsOf 42 = .ok (.invokestatic 44, 3) := by decide +kernel
theorem dX9_spotsOf_45 : decode cX9_spotsOf 45 = .ok (.iaload, 1) := by decide +kernel
theorem dX9_spotsOf_46 : decode cX9_spotsOf 46 = .ok (.iload_n 2, 1) := by decide +kernel
theorem dX9_spotsOf_47 : decode cX9_spotsOf 47 = .ok (.if_icmp .ne 29, 3) := by decide +kernel
theorem dX9_spotsOf_50 : decode cX9_spotsOf 50 = .ok (.iload 7, 2) := by decide +kernel
theorem dX9_spotsOf_52 : decode cX9_spotsOf 52 = .ok (.iload_n 3, 1) := by decide +kernel
theorem dX9_spotsOf_53 : decode cX9_spotsOf 53 = .ok (.if_icmp .eq 10, 3) := by decide +kernel
theorem dX9_spotsOf_56 : decode cX9_spotsOf 56 = .ok (.iload 7, 2) := by decide +kernel
theorem dX9_spotsOf_58 : decode cX9_spotsOf 58 = .ok (.iload 4, 2) := by decide +kernel
theorem dX9_spotsOf_60 : decode cX9_spotsOf 60 = .ok (.if_icmp .ne 16, 3) := by decide +kernel
theorem dX9_spotsOf_63 : decode cX9_spotsOf 63 = .ok (.aload_n 0, 1) := by decide +kernel
theorem dX9_spotsOf_64 : decode cX9_spotsOf 64 = .ok (.iload 6, 2) := by decide +kernel
theorem dX9_spotsOf_66 : decode cX9_spotsOf 66 = .ok (.iload_n 1, 1) := by decide +kernel
theorem dX9_spotsOf_67 : decode cX9_spotsOf 67 = .ok (.invokevirtual 191, 3) := by decide +kernel
theorem dX9_spotsOf_70 : decode cX9_spotsOf 70 = .ok (.ifCond .eq 6, 3) := by decide +kernel
theorem dX9_spotsOf_73 : decode cX9_spotsOf 73 = .ok (.iinc 5 1, 3) := by decide +kernel
theorem dX9_spotsOf_76 : decode cX9_spotsOf 76 = .ok (.iinc 6 1, 3) := by decide +kernel
theorem dX9_spotsOf_79 : decode cX9_spotsOf 79 = .ok (.goto (-73), 3) := by decide +kernel
theorem dX9_spotsOf_82 : decode cX9_spotsOf 82 = .ok (.iload 5, 2) := by decide +kernel
theorem dX9_spotsOf_84 : decode cX9_spotsOf 84 = .ok (.ireturn, 1) := by decide +kernel
theorem dX9_clash_0 : decode cX9_clash 0 = .ok (.aload_n 0, 1) := by decide +kernel
theorem dX9_clash_1 : decode cX9_clash 1 = .ok (.getfield 17, 3) := by decide +kernel
theorem dX9_clash_4 : decode cX9_clash 4 = .ok (.sipush 623, 3) := by decide +kernel
theorem dX9_clash_7 : decode cX9_clash 7 = .ok (.bipush 10, 2) := by decide +kernel
theorem dX9_clash_9 : decode cX9_clash 9 = .ok (.aload_n 0, 1) := by decide +kernel
theorem dX9_clash_10 : decode cX9_clash 10 = .ok (.getfield 17, 3) := by decide +kernel
theorem dX9_clash_13 : decode cX9_clash 13 = .ok (.sipush 607, 3) := by decide +kernel
theorem dX9_clash_16 : decode cX9_clash 16 = .ok (.iconst 2, 1) := by decide +kernel
theorem dX9_clash_17 : decode cX9_clash 17 = .ok (.iload_n 1, 1) := by decide +kernel
theorem dX9_clash_18 : decode cX9_clash 18 = .ok (.imul, 1) := by decide +kernel
theorem dX9_clash_19 : decode cX9_clash 19 = .ok (.iadd, 1) := by decide +kernel
theorem dX9_clash_20 : decode cX9_clash 20 = .ok (.iaload, 1) := by decide +kernel
theorem dX9_clash_21 : decode cX9_clash 21 = .ok (.imul, 1) := by decide +kernel
theorem dX9_clash_22 : decode cX9_clash 22 = .ok (.iadd, 1) := by decide +kernel
theorem dX9_clash_23 : decode cX9_clash 23 = .ok (.aload_n 0, 1) := by decide +kernel
theorem dX9_clash_24 : decode cX9_clash 24 = .ok (.getfield 17, 3) := by decide +kernel
theorem dX9_clash_27 : decode cX9_clash 27 = .ok (.sipush 607, 3) := by decide +kernel
theorem dX9_clash_30 : decode cX9_clash 30 = .ok (.iconst 2, 1) := by decide +kernel
theorem dX9_clash_31 : decode cX9_clash 31 = .ok (.iload_n 2, 1) := by decide +kernel
theorem dX9_clash_32 : decode cX9_clash 32 = .ok (.imul, 1) := by decide +kernel
theorem dX9_clash_33 : decode cX9_clash 33 = .ok (.iadd, 1) := by decide +kernel
theorem dX9_clash_34 : decode cX9_clash 34 = .ok (.iaload, 1) := by decide +kernel
theorem dX9_clash_35 : decode cX9_clash 35 = .ok (.iadd, 1) := by decide +kernel
theorem dX9_clash_36 : decode cX9_clash 36 = .ok (.iaload, 1) := by decide +kernel
theorem dX9_clash_37 : decode cX9_clash 37 = .ok (.iconst 1, 1) := by decide +kernel
theorem dX9_clash_38 : decode cX9_clash 38 = .ok (.if_icmp .ne 7, 3) := by decide +kernel
theorem dX9_clash_41 : decode cX9_clash 41 = .ok (.iconst 1, 1) := by decide +kernel
theorem dX9_clash_42 : decode cX9_clash 42 = .ok (.goto 4, 3) := by decide +kernel
theorem dX9_clash_45 : decode cX9_clash 45 = .ok (.iconst 0, 1) := by decide +kernel
theorem dX9_clash_46 : decode cX9_clash 46 = .ok (.ireturn, 1) := by decide +kernel
theorem dX9_placeFor_0 : decode cX9_placeFor 0 = .ok (.iconst 0, 1) := by decide +kernel
theorem dX9_placeFor_1 : decode cX9_placeFor 1 = .ok (.istore_n 3, 1) := by decide +kernel
theorem dX9_placeFor_2 : decode cX9_placeFor 2 = .ok (.iload_n 3, 1) := by decide +kernel
theorem dX9_placeFor_3 : decode cX9_placeFor 3 = .ok (.aload_n 0, 1) := by decide +kernel
theorem dX9_placeFor_4 : decode cX9_placeFor 4 = .ok (.iload_n 2, 1) := by decide +kernel
theorem dX9_placeFor_5 : decode cX9_placeFor 5 = .ok (.invokevirtual 185, 3) := by decide +kernel
theorem dX9_placeFor_8 : decode cX9_placeFor 8 = .ok (.if_icmp .gt 74, 3) := by decide +kernel
theorem dX9_placeFor_11 : decode cX9_placeFor 11 = .ok (.iload_n 3, 1) := by decide +kernel
theorem dX9_placeFor_12 : decode cX9_placeFor 12 = .ok (.ifCond .eq 23, 3) := by decide +kernel
theorem dX9_placeFor_15 : decode cX9_placeFor 15 = .ok (.aload_n 0, 1) := by decide +kernel
theorem dX9_placeFor_16 : decode cX9_placeFor 16 = .ok (.aload_n 0, 1) := by decide +kernel
theorem dX9_placeFor_17 : decode cX9_placeFor 17 = .ok (.getfield 17, 3) := by decide +kernel
theorem dX9_placeFor_20 : decode cX9_placeFor 20 = .ok (.iload_n 2, 1) := by decide +kernel
theorem dX9_placeFor_21 : decode cX9_placeFor 21 = .ok (.iload_n 3, 1) := by decide +kernel
theorem dX9_placeFor_22 : decode cX9_placeFor 22 = .ok (.iconst 1, 1) := by decide +kernel
theorem dX9_placeFor_23 : decode cX9_placeFor 23 = .ok (.isub, 1) := by decide +kernel
theorem dX9_placeFor_24 : decode cX9_placeFor 24 = .ok (.invokestatic 188, 3) := by decide +kernel
theorem dX9_placeFor_27 : decode cX9_placeFor 27 = .ok (.iaload, 1) := by decide +kernel
theorem dX9_placeFor_28 : decode cX9_placeFor 28 = .ok (.iload_n 1, 1) := by decide +kernel
theorem dX9_placeFor_29 : decode cX9_placeFor 29 = .ok (.invokevirtual 195, 3) := by decide +kernel
theorem dX9_placeFor_32 : decode cX9_placeFor 32 = .ok (.ifCond .ne 7, 3) := by decide +kernel
theorem dX9_placeFor_35 : decode cX9_placeFor 35 = .ok (.iconst 1, 1) := by decide +kernel
theorem dX9_placeFor_36 : decode cX9_placeFor 36 = .ok (.goto 4, 3) := by decide +kernel
theorem dX9_placeFor_39 : decode cX9_placeFor 39 = .ok (.iconst 0, 1) := by decide +kernel
theorem dX9_placeFor_40 : decode cX9_placeFor 40 = .ok (.istore 4, 2) := by decide +kernel
theorem dX9_placeFor_42 : decode cX9_placeFor 42 = .ok (.iload 4, 2) := by decide +kernel
theorem dX9_placeFor_44 : decode cX9_placeFor 44 = .ok (.ifCond .eq 32, 3) := by decide +kernel
theorem dX9_placeFor_47 : decode cX9_placeFor 47 = .ok (.iload_n 3, 1) := by decide +kernel
theorem dX9_placeFor_48 : decode cX9_placeFor 48 = .ok (.aload_n 0, 1) := by decide +kernel
theorem dX9_placeFor_49 : decode cX9_placeFor 49 = .ok (.iload_n 2, 1) := by decide +kernel
theorem dX9_placeFor_50 : decode cX9_placeFor 50 = .ok (.invokevirtual 185, 3) := by decide +kernel
theorem dX9_placeFor_53 : decode cX9_placeFor 53 = .ok (.if_icmp .eq 21, 3) := by decide +kernel
theorem dX9_placeFor_56 : decode cX9_placeFor 56 = .ok (.aload_n 0, 1) := by decide +kernel
theorem dX9_placeFor_57 : decode cX9_placeFor 57 = .ok (.iload_n 1, 1) := by decide +kernel
theorem dX9_placeFor_58 : decode cX9_placeFor 58 = .ok (.aload_n 0, 1) := by decide +kernel
theorem dX9_placeFor_59 : decode cX9_placeFor 59 = .ok (.getfield 17, 3) := by decide +kernel
theorem dX9_placeFor_62 : decode cX9_placeFor 62 = .ok (.iload_n 2, 1) := by decide +kernel
theorem dX9_placeFor_63 : decode cX9_placeFor 63 = .ok (.iload_n 3, 1) := by decide +kernel
theorem dX9_placeFor_64 : decode cX9_placeFor 64 = .ok (.invokestatic 188, 3) := by decide +kernel
theorem dX9_placeFor_67 : decode cX9_placeFor 67 = .ok (.iaload, 1) := by decide +kernel
theorem dX9_placeFor_68 : decode cX9_placeFor 68 = .ok (.invokevirtual 195, 3) := by decide +kernel
theorem dX9_placeFor_71 : decode cX9_placeFor 71 = .ok (.ifCond .ne 5, 3) := by decide +kernel
theorem dX9_placeFor_74 : decode cX9_placeFor 74 = .ok (.iload_n 3, 1) := by decide +kernel
theorem dX9_placeFor_75 : decode cX9_placeFor 75 = .ok (.ireturn, 1) := by decide +kernel
theorem dX9_placeFor_76 : decode cX9_placeFor 76 = .ok (.iinc 3 1, 3) := by decide +kernel
theorem dX9_placeFor_79 : decode cX9_placeFor 79 = .ok (.goto (-77), 3) := by decide +kernel
theorem dX9_placeFor_82 : decode cX9_placeFor 82 = .ok (.iconst (-1), 1) := by decide +kernel
theorem dX9_placeFor_83 : decode cX9_placeFor 83 = .ok (.ireturn, 1) := by decide +kernel
theorem dX9_reasonOf_0 : decode cX9_reasonOf 0 = .ok (.iload_n 3, 1) := by decide +kernel
theorem dX9_reasonOf_1 : decode cX9_reasonOf 1 = .ok (.invokestatic 44, 3) := by decide +kernel
theorem dX9_reasonOf_4 : decode cX9_reasonOf 4 = .ok (.istore 4, 2) := by decide +kernel
theorem dX9_reasonOf_6 : decode cX9_reasonOf 6 = .ok (.aload_n 0, 1) := by decide +kernel
theorem dX9_reasonOf_7 : decode cX9_reasonOf 7 = .ok (.getfield 17, 3) := by decide +kernel
theorem dX9_reasonOf_10 : decode cX9_reasonOf 10 = .ok (.iload 4, 2) := by decide +kernel
theorem dX9_reasonOf_12 : decode cX9_reasonOf 12 = .ok (.iconst 4, 1) := by decide +kernel
theorem dX9_reasonOf_13 : decode cX9_reasonOf 13 = .ok (.iadd, 1) := by decide +kernel
theorem dX9_reasonOf_14 : decode cX9_reasonOf 14 = .ok (.iaload, 1) := by decide +kernel
theorem dX9_reasonOf_15 : decode cX9_reasonOf 15 = .ok (.ifCond .eq 5, 3) := by decide +kernel
theorem dX9_reasonOf_18 : decode cX9_reasonOf 18 = .ok (.iconst 1, 1) := by decide +kernel
theorem dX9_reasonOf_19 : decode cX9_reasonOf 19 = .ok (.ireturn, 1) := by decide +kernel
theorem dX9_reasonOf_20 : decode cX9_reasonOf 20 = .ok (.aload_n 0, 1) := by decide +kernel
theorem dX9_reasonOf_21 : decode cX9_reasonOf 21 = .ok (.iload_n 3, 1) := by decide +kernel
theorem dX9_reasonOf_22 : decode cX9_reasonOf 22 = .ok (.iload_n 1, 1) := by decide +kernel
theorem dX9_reasonOf_23 : decode cX9_reasonOf 23 = .ok (.invokevirtual 191, 3) := by decide +kernel
theorem dX9_reasonOf_26 : decode cX9_reasonOf 26 = .ok (.ifCond .eq 5, 3) := by decide +kernel
theorem dX9_reasonOf_29 : decode cX9_reasonOf 29 = .ok (.iconst 2, 1) := by decide +kernel
theorem dX9_reasonOf_30 : decode cX9_reasonOf 30 = .ok (.ireturn, 1) := by decide +kernel
theorem dX9_reasonOf_31 : decode cX9_reasonOf 31 = .ok (.aload_n 0, 1) := by decide +kernel
theorem dX9_reasonOf_32 : decode cX9_reasonOf 32 = .ok (.iload_n 1, 1) := by decide +kernel
theorem dX9_reasonOf_33 : decode cX9_reasonOf 33 = .ok (.aload_n 0, 1) := by decide +kernel
theorem dX9_reasonOf_34 : decode cX9_reasonOf 34 = .ok (.getfield 17, 3) := by decide +kernel
theorem dX9_reasonOf_37 : decode cX9_reasonOf 37 = .ok (.iload 4, 2) := by decide +kernel
theorem dX9_reasonOf_39 : decode cX9_reasonOf 39 = .ok (.iaload, 1) := by decide +kernel
theorem dX9_reasonOf_40 : decode cX9_reasonOf 40 = .ok (.iconst 0, 1) := by decide +kernel
theorem dX9_reasonOf_41 : decode cX9_reasonOf 41 = .ok (.iconst 1, 1) := by decide +kernel
theorem dX9_reasonOf_42 : decode cX9_reasonOf 42 = .ok (.invokevirtual 198, 3) := by decide +kernel
theorem dX9_reasonOf_45 : decode cX9_reasonOf 45 = .ok (.aload_n 0, 1) := by decide +kernel
theorem dX9_reasonOf_46 : decode cX9_reasonOf 46 = .ok (.getfield 17, 3) := by decide +kernel
theorem dX9_reasonOf_49 : decode cX9_reasonOf 49 = .ok (.sipush 607, 3) := by decide +kernel
theorem dX9_reasonOf_52 : decode cX9_reasonOf 52 = .ok (.iconst 2, 1) := by decide +kernel
theorem dX9_reasonOf_53 : decode cX9_reasonOf 53 = .ok (.iload_n 1, 1) := by decide +kernel
theorem dX9_reasonOf_54 : decode cX9_reasonOf 54 = .ok (.imul, 1) := by decide +kernel
theorem dX9_reasonOf_55 : decode cX9_reasonOf 55 = .ok (.iadd, 1) := by decide +kernel
theorem dX9_reasonOf_56 : decode cX9_reasonOf 56 = .ok (.iconst 1, 1) := by decide +kernel
theorem dX9_reasonOf_57 : decode cX9_reasonOf 57 = .ok (.iadd, 1) := by decide +kernel
theorem dX9_reasonOf_58 : decode cX9_reasonOf 58 = .ok (.iaload, 1) := by decide +kernel
theorem dX9_reasonOf_59 : decode cX9_reasonOf 59 = .ok (.if_icmp .lt 5, 3) := by decide +kernel
theorem dX9_reasonOf_62 : decode cX9_reasonOf 62 = .ok (.iconst 3, 1) := by decide +kernel
theorem dX9_reasonOf_63 : decode cX9_reasonOf 63 = .ok (.ireturn, 1) := by decide +kernel
theorem dX9_reasonOf_64 : decode cX9_reasonOf 64 = .ok (.aload_n 0, 1) := by decide +kernel
theorem dX9_reasonOf_65 : decode cX9_reasonOf 65 = .ok (.iload_n 3, 1) := by decide +kernel
theorem dX9_reasonOf_66 : decode cX9_reasonOf 66 = .ok (.invokevirtual 202, 3) := by decide +kernel
theorem dX9_reasonOf_69 : decode cX9_reasonOf 69 = .ok (.iload_n 2, 1) := by decide +kernel
theorem dX9_reasonOf_70 : decode cX9_reasonOf 70 = .ok (.iadd, 1) := by decide +kernel
theorem dX9_reasonOf_71 : decode cX9_reasonOf 71 = .ok (.aload_n 0, 1) := by decide +kernel
theorem dX9_reasonOf_72 : decode cX9_reasonOf 72 = .ok (.getfield 17, 3) := by decide +kernel
theorem dX9_reasonOf_75 : decode cX9_reasonOf 75 = .ok (.iload 4, 2) := by decide +kernel
theorem dX9_reasonOf_77 : decode cX9_reasonOf 77 = .ok (.iconst 2, 1) := by decide +kernel
theorem dX9_reasonOf_78 : decode cX9_reasonOf 78 = .ok (.iadd, 1) := by decide +kernel
theorem dX9_reasonOf_79 : decode cX9_reasonOf 79 = .ok (.iaload, 1) := by decide +kernel
theorem dX9_reasonOf_80 : decode cX9_reasonOf 80 = .ok (.if_icmp .le 5, 3) := by decide +kernel
theorem dX9_reasonOf_83 : decode cX9_reasonOf 83 = .ok (.iconst 4, 1) := by decide +kernel
theorem dX9_reasonOf_84 : decode cX9_reasonOf 84 = .ok (.ireturn, 1) := by decide +kernel
theorem dX9_reasonOf_85 : decode cX9_reasonOf 85 = .ok (.aload_n 0, 1) := by decide +kernel
theorem dX9_reasonOf_86 : decode cX9_reasonOf 86 = .ok (.iload_n 1, 1) := by decide +kernel
theorem dX9_reasonOf_87 : decode cX9_reasonOf 87 = .ok (.iload_n 3, 1) := by decide +kernel
theorem dX9_reasonOf_88 : decode cX9_reasonOf 88 = .ok (.invokevirtual 205, 3) := by decide +kernel
theorem dX9_reasonOf_91 : decode cX9_reasonOf 91 = .ok (.iconst (-1), 1) := by decide +kernel
theorem dX9_reasonOf_92 : decode cX9_reasonOf 92 = .ok (.if_icmp .ne 7, 3) := by decide +kernel
theorem dX9_reasonOf_95 : decode cX9_reasonOf 95 = .ok (.iconst 5, 1) := by decide +kernel
theorem dX9_reasonOf_96 : decode cX9_reasonOf 96 = .ok (.goto 4, 3) := by decide +kernel
theorem dX9_reasonOf_99 : decode cX9_reasonOf 99 = .ok (.iconst 0, 1) := by decide +kernel
theorem dX9_reasonOf_100 : decode cX9_reasonOf 100 = .ok (.ireturn, 1) := by decide +kernel
theorem dX9_put_0 : decode cX9_put 0 = .ok (.aload_n 0, 1) := by decide +kernel
theorem dX9_put_1 : decode cX9_put 1 = .ok (.iload_n 1, 1) := by decide +kernel
theorem dX9_put_2 : decode cX9_put 2 = .ok (.invokevirtual 185, 3) := by decide +kernel
theorem dX9_put_5 : decode cX9_put 5 = .ok (.istore 6, 2) := by decide +kernel
theorem dX9_put_7 : decode cX9_put 7 = .ok (.iload 6, 2) := by decide +kernel
theorem dX9_put_9 : decode cX9_put 9 = .ok (.iload_n 2, 1) := by decide +kernel
theorem dX9_put_10 : decode cX9_put 10 = .ok (.if_icmp .le 54, 3) := by decide +kernel
theorem dX9_put_13 : decode cX9_put 13 = .ok (.iconst 0, 1) := by decide +kernel
theorem dX9_put_14 : decode cX9_put 14 = .ok (.istore 7, 2) := by decide +kernel
theorem dX9_put_16 : decode cX9_put 16 = .ok (.iload 7, 2) := by decide +kernel
theorem dX9_put_18 : decode cX9_put 18 = .ok (.iconst 3, 1) := by decide +kernel
theorem dX9_put_19 : decode cX9_put 19 = .ok (.if_icmp .ge 39, 3) := by decide +kernel
theorem dX9_put_22 : decode cX9_put 22 = .ok (.aload_n 0, 1) := by decide +kernel
theorem dX9_put_23 : decode cX9_put 23 = .ok (.getfield 17, 3) := by decide +kernel
theorem dX9_put_26 : decode cX9_put 26 = .ok (.iload_n 1, 1) := by decide +kernel
theorem dX9_put_27 : decode cX9_put 27 = .ok (.iload 6, 2) := by decide +kernel
theorem dX9_put_29 : decode cX9_put 29 = .ok (.invokestatic 188, 3) := by decide +kernel
theorem dX9_put_32 : decode cX9_put 32 = .ok (.iload 7, 2) := by decide +kernel
theorem dX9_put_34 : decode cX9_put 34 = .ok (.iadd, 1) := by decide +kernel
theorem dX9_put_35 : decode cX9_put 35 = .ok (.aload_n 0, 1) := by decide +kernel
theorem dX9_put_36 : decode cX9_put 36 = .ok (.getfield 17, 3) := by decide +kernel
theorem dX9_put_39 : decode cX9_put 39 = .ok (.iload_n 1, 1) := by decide +kernel
theorem dX9_put_40 : decode cX9_put 40 = .ok (.iload 6, 2) := by decide +kernel
theorem dX9_put_42 : decode cX9_put 42 = .ok (.iconst 1, 1) := by decide +kernel
theorem dX9_put_43 : decode cX9_put 43 = .ok (.isub, 1) := by decide +kernel
theorem dX9_put_44 : decode cX9_put 44 = .ok (.invokestatic 188, 3) := by decide +kernel
theorem dX9_put_47 : decode cX9_put 47 = .ok (.iload 7, 2) := by decide +kernel
theorem dX9_put_49 : decode cX9_put 49 = .ok (.iadd, 1) := by decide +kernel
theorem dX9_put_50 : decode cX9_put 50 = .ok (.iaload, 1) := by decide +kernel
theorem dX9_put_51 : decode cX9_put 51 = .ok (.iastore, 1) := by decide +kernel
theorem dX9_put_52 : decode cX9_put 52 = .ok (.iinc 7 1, 3) := by decide +kernel
theorem dX9_put_55 : decode cX9_put 55 = .ok (.goto (-39), 3) := by decide +kernel
theorem dX9_put_58 : decode cX9_put 58 = .ok (.iinc 6 (-1), 3) := by decide +kernel
theorem dX9_put_61 : decode cX9_put 61 = .ok (.goto (-54), 3) := by decide +kernel
theorem dX9_put_64 : decode cX9_put 64 = .ok (.aload_n 0, 1) := by decide +kernel
theorem dX9_put_65 : decode cX9_put 65 = .ok (.getfield 17, 3) := by decide +kernel
theorem dX9_put_68 : decode cX9_put 68 = .ok (.iload_n 1, 1) := by decide +kernel
theorem dX9_put_69 : decode cX9_put 69 = .ok (.iload_n 2, 1) := by decide +kernel
theorem dX9_put_70 : decode cX9_put 70 = .ok (.invokestatic 188, 3) := by decide +kernel
theorem dX9_put_73 : decode cX9_put 73 = .ok (.iload_n 3, 1) := by decide +kernel
theorem dX9_put_74 : decode cX9_put 74 = .ok (.iastore, 1) := by decide +kernel
theorem dX9_put_75 : decode cX9_put 75 = .ok (.aload_n 0, 1) := by decide +kernel
theorem dX9_put_76 : decode cX9_put 76 = .ok (.getfield 17, 3) := by decide +kernel
theorem dX9_put_79 : decode cX9_put 79 = .ok (.iload_n 1, 1) := by decide +kernel
theorem dX9_put_80 : decode cX9_put 80 = .ok (.iload_n 2, 1) := by decide +kernel
theorem dX9_put_81 : decode cX9_put 81 = .ok (.invokestatic 188, 3) := by decide +kernel
theorem dX9_put_84 : decode cX9_put 84 = .ok (.iconst 1, 1) := by decide +kernel
theorem dX9_put_85 : decode cX9_put 85 = .ok (.iadd, 1) := by decide +kernel
theorem dX9_put_86 : decode cX9_put 86 = .ok (.iload 4, 2) := by decide +kernel
theorem dX9_put_88 : decode cX9_put 88 = .ok (.iastore, 1) := by decide +kernel
theorem dX9_put_89 : decode cX9_put 89 = .ok (.aload_n 0, 1) := by decide +kernel
theorem dX9_put_90 : decode cX9_put 90 = .ok (.getfield 17, 3) := by decide +kernel
theorem dX9_put_93 : decode cX9_put 93 = .ok (.iload_n 1, 1) := by decide +kernel
theorem dX9_put_94 : decode cX9_put 94 = .ok (.iload_n 2, 1) := by decide +kernel
theorem dX9_put_95 : decode cX9_put 95 = .ok (.invokestatic 188, 3) := by decide +kernel
theorem dX9_put_98 : decode cX9_put 98 = .ok (.iconst 2, 1) := by decide +kernel
theorem dX9_put_99 : decode cX9_put 99 = .ok (.iadd, 1) := by decide +kernel
theorem dX9_put_100 : decode cX9_put 100 = .ok (.iload 5, 2) := by decide +kernel
theorem dX9_put_102 : decode cX9_put 102 = .ok (.iastore, 1) := by decide +kernel
theorem dX9_put_103 : decode cX9_put 103 = .ok (.aload_n 0, 1) := by decide +kernel
theorem dX9_put_104 : decode cX9_put 104 = .ok (.getfield 17, 3) := by decide +kernel
theorem dX9_put_107 : decode cX9_put 107 = .ok (.iload_n 1, 1) := by decide +kernel
theorem dX9_put_108 : decode cX9_put 108 = .ok (.invokestatic 44, 3) := by decide +kernel
theorem dX9_put_111 : decode cX9_put 111 = .ok (.iconst 5, 1) := by decide +kernel
theorem dX9_put_112 : decode cX9_put 112 = .ok (.iadd, 1) := by decide +kernel
theorem dX9_put_113 : decode cX9_put 113 = .ok (.dup2, 1) := by decide +kernel
theorem dX9_put_114 : decode cX9_put 114 = .ok (.iaload, 1) := by decide +kernel
theorem dX9_put_115 : decode cX9_put 115 = .ok (.iconst 1, 1) := by decide +kernel
theorem dX9_put_116 : decode cX9_put 116 = .ok (.iadd, 1) := by decide +kernel
theorem dX9_put_117 : decode cX9_put 117 = .ok (.iastore, 1) := by decide +kernel
theorem dX9_put_118 : decode cX9_put 118 = .ok (.return_, 1) := by decide +kernel
theorem dX9_limited_0 : decode cX9_limited 0 = .ok (.lload_n 0, 1) := by decide +kernel
theorem dX9_limited_1 : decode cX9_limited 1 = .ok (.ldc2_w 208, 3) := by decide +kernel
theorem dX9_limited_4 : decode cX9_limited 4 = .ok (.lcmp, 1) := by decide +kernel
theorem dX9_limited_5 : decode cX9_limited 5 = .ok (.ifCond .le 9, 3) := by decide +kernel
theorem dX9_limited_8 : decode cX9_limited 8 = .ok (.ldc2_w 208, 3) := by decide +kernel
theorem dX9_limited_11 : decode cX9_limited 11 = .ok (.goto 18, 3) := by decide +kernel
theorem dX9_limited_14 : decode cX9_limited 14 = .ok (.lload_n 0, 1) := by decide +kernel
theorem dX9_limited_15 : decode cX9_limited 15 = .ok (.ldc2_w 210, 3) := by decide +kernel
theorem dX9_limited_18 : decode cX9_limited 18 = .ok (.lcmp, 1) := by decide +kernel
theorem dX9_limited_19 : decode cX9_limited 19 = .ok (.ifCond .ge 9, 3) := by decide +kernel
theorem dX9_limited_22 : decode cX9_limited 22 = .ok (.ldc2_w 210, 3) := by decide +kernel
theorem dX9_limited_25 : decode cX9_limited 25 = .ok (.goto 4, 3) := by decide +kernel
theorem dX9_limited_28 : decode cX9_limited 28 = .ok (.lload_n 0, 1) := by decide +kernel
theorem dX9_limited_29 : decode cX9_limited 29 = .ok (.lreturn, 1) := by decide +kernel
theorem dX9_operate_0 : decode cX9_operate 0 = .ok (.iload_n 0, 1) := by decide +kernel
theorem dX9_operate_1 : decode cX9_operate 1 = .ok (.iconst 5, 1) := by decide +kernel
theorem dX9_operate_2 : decode cX9_operate 2 = .ok (.if_icmp .ne 17, 3) := by decide +kernel
theorem dX9_operate_5 : decode cX9_operate 5 = .ok (.lload_n 3, 1) := by decide +kernel
theorem dX9_operate_6 : decode cX9_operate 6 = .ok (.lconst 0, 1) := by decide +kernel
theorem dX9_operate_7 : decode cX9_operate 7 = .ok (.lcmp, 1) := by decide +kernel
theorem dX9_operate_8 : decode cX9_operate 8 = .ok (.ifCond .ne 7, 3) := by decide +kernel
theorem dX9_operate_11 : decode cX9_operate 11 = .ok (.lconst 0, 1) := by decide +kernel
theorem dX9_operate_12 : decode cX9_operate 12 = .ok (.goto 6, 3) := by decide +kernel
theorem dX9_operate_15 : decode cX9_operate 15 = .ok (.lload_n 1, 1) := by decide +kernel
theorem dX9_operate_16 : decode cX9_operate 16 = .ok (.lload_n 3, 1) := by decide +kernel
theorem dX9_operate_17 : decode cX9_operate 17 = .ok (.ldiv, 1) := by decide +kernel
theorem dX9_operate_18 : decode cX9_operate 18 = .ok (.lreturn, 1) := by decide +kernel
theorem dX9_operate_19 : decode cX9_operate 19 = .ok (.iload_n 0, 1) := by decide +kernel
theorem dX9_operate_20 : decode cX9_operate 20 = .ok (.iconst 2, 1) := by decide +kernel
theorem dX9_operate_21 : decode cX9_operate 21 = .ok (.if_icmp .ne 9, 3) := by decide +kernel
theorem dX9_operate_24 : decode cX9_operate 24 = .ok (.lload_n 1, 1) := by decide +kernel
theorem dX9_operate_25 : decode cX9_operate 25 = .ok (.lload_n 3, 1) := by decide +kernel
theorem dX9_operate_26 : decode cX9_operate 26 = .ok (.ladd, 1) := by decide +kernel
theorem dX9_operate_27 : decode cX9_operate 27 = .ok (.goto 17, 3) := by decide +kernel
theorem dX9_operate_30 : decode cX9_operate 30 = .ok (.iload_n 0, 1) := by decide +kernel
theorem dX9_operate_31 : decode cX9_operate 31 = .ok (.iconst 3, 1) := by decide +kernel
theorem dX9_operate_32 : decode cX9_operate 32 = .ok (.if_icmp .ne 9, 3) := by decide +kernel
theorem dX9_operate_35 : decode cX9_operate 35 = .ok (.lload_n 1, 1) := by decide +kernel
theorem dX9_operate_36 : decode cX9_operate 36 = .ok (.lload_n 3, 1) := by decide +kernel
theorem dX9_operate_37 : decode cX9_operate 37 = .ok (.lsub, 1) := by decide +kernel
theorem dX9_operate_38 : decode cX9_operate 38 = .ok (.goto 6, 3) := by decide +kernel
theorem dX9_operate_41 : decode cX9_operate 41 = .ok (.lload_n 1, 1) := by decide +kernel
theorem dX9_operate_42 : decode cX9_operate 42 = .ok (.lload_n 3, 1) := by decide +kernel
theorem dX9_operate_43 : decode cX9_operate 43 = .ok (.lmul, 1) := by decide +kernel
theorem dX9_operate_44 : decode cX9_operate 44 = .ok (.invokestatic 212, 3) := by decide +kernel
theorem dX9_operate_47 : decode cX9_operate 47 = .ok (.lreturn, 1) := by decide +kernel
theorem dX9_priceOf_0 : decode cX9_priceOf 0 = .ok (.iconst 0, 1) := by decide +kernel
theorem dX9_priceOf_1 : decode cX9_priceOf 1 = .ok (.istore 4, 2) := by decide +kernel
theorem dX9_priceOf_3 : decode cX9_priceOf 3 = .ok (.aload_n 0, 1) := by decide +kernel
theorem dX9_priceOf_4 : decode cX9_priceOf 4 = .ok (.getfield 17, 3) := by decide +kernel
theorem dX9_priceOf_7 : decode cX9_priceOf 7 = .ok (.iload_n 3, 1) := by decide +kernel
theorem dX9_priceOf_8 : decode cX9_priceOf 8 = .ok (.invokestatic 44, 3) := by decide +kernel
theorem dX9_priceOf_11 : decode cX9_priceOf 11 = .ok (.iconst 3, 1) := by decide +kernel
theorem dX9_priceOf_12 : decode cX9_priceOf 12 = .ok (.iadd, 1) := by decide +kernel
theorem dX9_priceOf_13 : decode cX9_priceOf 13 = .ok (.iaload, 1) := by decide +kernel
theorem dX9_priceOf_14 : decode cX9_priceOf 14 = .ok (.istore 5, 2) := by decide +kernel
theorem dX9_priceOf_16 : decode cX9_priceOf 16 = .ok (.aload_n 0, 1) := by decide +kernel
theorem dX9_priceOf_17 : decode cX9_priceOf 17 = .ok (.getfield 28, 3) := by decide +kernel
theorem dX9_priceOf_20 : decode cX9_priceOf 20 = .ok (.iconst 0, 1) := by decide +kernel
theorem dX9_priceOf_21 : decode cX9_priceOf 21 = .ok (.iload 5, 2) := by decide +kernel
theorem dX9_priceOf_23 : decode cX9_priceOf 23 = .ok (.i2l, 1) := by decide +kernel
theorem dX9_priceOf_24 : decode cX9_priceOf 24 = .ok (.iload_n 2, 1) := by decide +kernel
theorem dX9_priceOf_25 : decode cX9_priceOf 25 = .ok (.i2l, 1) := by decide +kernel
theorem dX9_priceOf_26 : decode cX9_priceOf 26 = .ok (.lmul, 1) := by decide +kernel
theorem dX9_priceOf_27 : decode cX9_priceOf 27 = .ok (.ldc2_w 216, 3) := by decide +kernel
theorem dX9_priceOf_30 : decode cX9_priceOf 30 = .ok (.ldiv, 1) := by decide +kernel
theorem dX9_priceOf_31 : decode cX9_priceOf 31 = .ok (.lastore, 1) := by decide +kernel
theorem dX9_priceOf_32 : decode cX9_priceOf 32 = .ok (.iconst 0, 1) := by decide +kernel
theorem dX9_priceOf_33 : decode cX9_priceOf 33 = .ok (.istore 6, 2) := by decide +kernel
theorem dX9_priceOf_35 : decode cX9_priceOf 35 = .ok (.iload 6, 2) := by decide +kernel
theorem dX9_priceOf_37 : decode cX9_priceOf 37 = .ok (.aload_n 0, 1) := by decide +kernel
theorem dX9_priceOf_38 : decode cX9_priceOf 38 = .ok (.getfield 17, 3) := by decide +kernel
theorem dX9_priceOf_41 : decode cX9_priceOf 41 = .ok (.iconst 4, 1) := by decide +kernel
theorem dX9_priceOf_42 : decode cX9_priceOf 42 = .ok (.iaload, 1) := by decide +kernel
theorem dX9_priceOf_43 : decode cX9_priceOf 43 = .ok (.if_icmp .ge 168, 3) := by decide +kernel
theorem dX9_priceOf_46 : decode cX9_priceOf 46 = .ok (.aload_n 0, 1) := by decide +kernel
theorem dX9_priceOf_47 : decode cX9_priceOf 47 = .ok (.getfield 17, 3) := by decide +kernel
theorem dX9_priceOf_50 : decode cX9_priceOf 50 = .ok (.sipush 1363, 3) := by decide +kernel
theorem dX9_priceOf_53 : decode cX9_priceOf 53 = .ok (.iload 6, 2) := by decide +kernel
theorem dX9_priceOf_55 : decode cX9_priceOf 55 = .ok (.iadd, 1) := by decide +kernel
theorem dX9_priceOf_56 : decode cX9_priceOf 56 = .ok (.iaload, 1) := by decide +kernel
theorem dX9_priceOf_57 : decode cX9_priceOf 57 = .ok (.istore 7, 2) := by decide +kernel
theorem dX9_priceOf_59 : decode cX9_priceOf 59 = .ok (.iload 7, 2) := by decide +kernel
theorem dX9_priceOf_61 : decode cX9_priceOf 61 = .ok (.iconst 1, 1) := by decide +kernel
theorem dX9_priceOf_62 : decode cX9_priceOf 62 = .ok (.if_icmp .gt 110, 3) := by decide +kernel
theorem dX9_priceOf_65 : decode cX9_priceOf 65 = .ok (.iinc 6 1, 3) := by decide +kernel
theorem dX9_priceOf_68 : decode cX9_priceOf 68 = .ok (.aload_n 0, 1) := by decide +kernel
theorem dX9_priceOf_69 : decode cX9_priceOf 69 = .ok (.getfield 17, 3) := by decide +kernel
theorem dX9_priceOf_72 : decode cX9_priceOf 72 = .ok (.sipush 1363, 3) := by decide +kernel
theorem dX9_priceOf_75 : decode cX9_priceOf 75 = .ok (.iload 6, 2) := by decide +kernel
theorem dX9_priceOf_77 : decode cX9_priceOf 77 = .ok (.iadd, 1) := by decide +kernel
theorem dX9_priceOf_78 : decode cX9_priceOf 78 = .ok (.iaload, 1) := by decide +kernel
theorem dX9_priceOf_79 : decode cX9_priceOf 79 = .ok (.istore 8, 2) := by decide +kernel
theorem dX9_priceOf_81 : decode cX9_priceOf 81 = .ok (.aload_n 0, 1) := by decide +kernel
theorem dX9_priceOf_82 : decode cX9_priceOf 82 = .ok (.getfield 28, 3) := by decide +kernel
theorem dX9_priceOf_85 : decode cX9_priceOf 85 = .ok (.iload 4, 2) := by decide +kernel
theorem dX9_priceOf_87 : decode cX9_priceOf 87 = .ok (.iload 7, 2) := by decide +kernel
theorem dX9_priceOf_89 : decode cX9_priceOf 89 = .ok (.ifCond .ne 9, 3) := by decide +kernel
theorem dX9_priceOf_92 : decode cX9_priceOf 92 = .ok (.iload 8, 2) := by decide +kernel
theorem dX9_priceOf_94 : decode cX9_priceOf 94 = .ok (.i2l, 1) := by decide +kernel
theorem dX9_priceOf_95 : decode cX9_priceOf 95 = .ok (.goto 70, 3) := by decide +kernel
theorem dX9_priceOf_98 : decode cX9_priceOf 98 = .ok (.iload 8, 2) := by decide +kernel
theorem dX9_priceOf_100 : decode cX9_priceOf 100 = .ok (.ifCond .ne 9, 3) := by decide +kernel
theorem dX9_priceOf_103 : decode cX9_priceOf 103 = .ok (.iload 5, 2) := by decide +kernel
theorem dX9_priceOf_105 : decode cX9_priceOf 105 = .ok (.i2l, 1) := by decide +kernel
theorem dX9_priceOf_106 : decode cX9_priceOf 106 = .ok (.goto 59, 3) := by decide +kernel
theorem dX9_priceOf_109 : decode cX9_priceOf 109 = .ok (.iload 8, 2) := by decide +kernel
theorem dX9_priceOf_111 : decode cX9_priceOf 111 = .ok (.iconst 1, 1) := by decide +kernel
theorem dX9_priceOf_112 : decode cX9_priceOf 112 = .ok (.if_icmp .ne 18, 3) := by decide +kernel
theorem dX9_priceOf_115 : decode cX9_priceOf 115 = .ok (.aload_n 0, 1) := by decide +kernel
theorem dX9_priceOf_116 : decode cX9_priceOf 116 = .ok (.getfield 17, 3) := by decide +kernel
theorem dX9_priceOf_119 : decode cX9_priceOf 119 = .ok (.iload_n 3, 1) := by decide +kernel
theorem dX9_priceOf_120 : decode cX9_priceOf 120 = .ok (.invokestatic 44, 3) := by decide +kernel
theorem dX9_priceOf_123 : decode cX9_priceOf 123 = .ok (.iconst 1, 1) := by decide +kernel
theorem dX9_priceOf_124 : decode cX9_priceOf 124 = .ok (.iadd, 1) := by decide +kernel
theorem dX9_priceOf_125 : decode cX9_priceOf 125 = .ok (.iaload, 1) := by decide +kernel
theorem dX9_priceOf_126 : decode cX9_priceOf 126 = .ok (.i2l, 1) := by decide +kernel
theorem dX9_priceOf_127 : decode cX9_priceOf 127 = .ok (.goto 38, 3) := by decide +kernel
theorem dX9_priceOf_130 : decode cX9_priceOf 130 = .ok (.iload 8, 2) := by decide +kernel
theorem dX9_priceOf_132 : decode cX9_priceOf 132 = .ok (.iconst 2, 1) := by decide +kernel
theorem dX9_priceOf_133 : decode cX9_priceOf 133 = .ok (.if_icmp .ne 8, 3) := by decide +kernel
theorem dX9_priceOf_136 : decode cX9_priceOf 136 = .ok (.iload_n 2, 1) := by decide +kernel
theorem dX9_priceOf_137 : decode cX9_priceOf 137 = .ok (.i2l, 1) := by decide +kernel
theorem dX9_priceOf_138 : decode cX9_priceOf 138 = .ok (.goto 27, 3) := by decide +kernel
theorem dX9_priceOf_141 : decode cX9_priceOf 141 = .ok (.iload 8, 2) := by decide +kernel
theorem dX9_priceOf_143 : decode cX9_priceOf 143 = .ok (.iconst 3, 1) := by decide +kernel
theorem dX9_priceOf_144 : decode cX9_priceOf 144 = .ok (.if_icmp .ne 12, 3) := by decide +kernel
theorem dX9_priceOf_147 : decode cX9_priceOf 147 = .ok (.aload_n 0, 1) := by decide +kernel
theorem dX9_priceOf_148 : decode cX9_priceOf 148 = .ok (.iload_n 3, 1) := by decide +kernel
theorem dX9_priceOf_149 : decode cX9_priceOf 149 = .ok (.invokevirtual 202, 3) := by decide +kernel
theorem dX9_priceOf_152 : decode cX9_priceOf 152 = .ok (.i2l, 1) := by decide +kernel
theorem dX9_priceOf_153 : decode cX9_priceOf 153 = .ok (.goto 12, 3) := by decide +kernel
theorem dX9_priceOf_156 : decode cX9_priceOf 156 = .ok (.aload_n 0, 1) := by decide +kernel
theorem dX9_priceOf_157 : decode cX9_priceOf 157 = .ok (.iload_n 1, 1) := by decide +kernel
theorem dX9_priceOf_158 : decode cX9_priceOf 158 = .ok (.iconst (-1), 1) := by decide +kernel
theorem dX9_priceOf_159 : decode cX9_priceOf 159 = .ok (.iconst 0, 1) := by decide +kernel
theorem dX9_priceOf_160 : decode cX9_priceOf 160 = .ok (.iconst 1, 1) := by decide +kernel
theorem dX9_priceOf_161 : decode cX9_priceOf 161 = .ok (.invokevirtual 198, 3) := by decide +kernel
theorem dX9_priceOf_164 : decode cX9_priceOf 164 = .ok (.i2l, 1) := by decide +kernel
theorem dX9_priceOf_165 : decode cX9_priceOf 165 = .ok (.lastore, 1) := by decide +kernel
theorem dX9_priceOf_166 : decode cX9_priceOf 166 = .ok (.iinc 4 1, 3) := by decide +kernel
theorem dX9_priceOf_169 : decode cX9_priceOf 169 = .ok (.goto 36, 3) := by decide +kernel
theorem dX9_priceOf_172 : decode cX9_priceOf 172 = .ok (.iinc 4 (-1), 3) := by decide +kernel
theorem dX9_priceOf_175 : decode cX9_priceOf 175 = .ok (.aload_n 0, 1) := by decide +kernel
theorem dX9_priceOf_176 : decode cX9_priceOf 176 = .ok (.getfield 28, 3) := by decide +kernel
theorem dX9_priceOf_179 : decode cX9_priceOf 179 = .ok (.iload 4, 2) := by decide +kernel
theorem dX9_priceOf_181 : decode cX9_priceOf 181 = .ok (.iconst 1, 1) := by decide +kernel
theorem dX9_priceOf_182 : decode cX9_priceOf 182 = .ok (.isub, 1) := by decide +kernel
theorem dX9_priceOf_183 : decode cX9_priceOf 183 = .ok (.iload 7, 2) := by decide +kernel
theorem dX9_priceOf_185 : decode cX9_priceOf 185 = .ok (.aload_n 0, 1) := by decide +kernel
theorem dX9_priceOf_186 : decode cX9_priceOf 186 = .ok (.getfield 28, 3) := by decide +kernel
theorem dX9_priceOf_189 : decode cX9_priceOf 189 = .ok (.iload 4, 2) := by decide +kernel
theorem dX9_priceOf_191 : decode cX9_priceOf 191 = .ok (.iconst 1, 1) := by decide +kernel
theorem dX9_priceOf_192 : decode cX9_priceOf 192 = .ok (.isub, 1) := by decide +kernel
theorem dX9_priceOf_193 : decode cX9_priceOf 193 = .ok (.laload, 1) := by decide +kernel
theorem dX9_priceOf_194 : decode cX9_priceOf 194 = .ok (.aload_n 0, 1) := by decide +kernel
theorem dX9_priceOf_195 : decode cX9_priceOf 195 = .ok (.getfield 28, 3) := by decide +kernel
theorem dX9_priceOf_198 : decode cX9_priceOf 198 = .ok (.iload 4, 2) := by decide +kernel
theorem dX9_priceOf_200 : decode cX9_priceOf 200 = .ok (.laload, 1) := by decide +kernel
theorem dX9_priceOf_201 : decode cX9_priceOf 201 = .ok (.invokestatic 218, 3) := by decide +kernel
theorem dX9_priceOf_204 : decode cX9_priceOf 204 = .ok (.lastore, 1) := by decide +kernel
theorem dX9_priceOf_205 : decode cX9_priceOf 205 = .ok (.iinc 6 1, 3) := by decide +kernel
theorem dX9_priceOf_208 : decode cX9_priceOf 208 = .ok (.goto (-173), 3) := by decide +kernel
theorem dX9_priceOf_211 : decode cX9_priceOf 211 = .ok (.aload_n 0, 1) := by decide +kernel
theorem dX9_priceOf_212 : decode cX9_priceOf 212 = .ok (.getfield 28, 3) := by decide +kernel
theorem dX9_priceOf_215 : decode cX9_priceOf 215 = .ok (.iconst 0, 1) := by decide +kernel
theorem dX9_priceOf_216 : decode cX9_priceOf 216 = .ok (.laload, 1) := by decide +kernel
theorem dX9_priceOf_217 : decode cX9_priceOf 217 = .ok (.lconst 0, 1) := by decide +kernel
theorem dX9_priceOf_218 : decode cX9_priceOf 218 = .ok (.lcmp, 1) := by decide +kernel
theorem dX9_priceOf_219 : decode cX9_priceOf 219 = .ok (.ifCond .ge 7, 3) := by decide +kernel
theorem dX9_priceOf_222 : decode cX9_priceOf 222 = .ok (.iconst 0, 1) := by decide +kernel
theorem dX9_priceOf_223 : decode cX9_priceOf 223 = .ok (.goto 28, 3) := by decide +kernel
theorem dX9_priceOf_226 : decode cX9_priceOf 226 = .ok (.aload_n 0, 1) := by decide +kernel
theorem dX9_priceOf_227 : decode cX9_priceOf 227 = .ok (.getfield 28, 3) := by decide +kernel
theorem dX9_priceOf_230 : decode cX9_priceOf 230 = .ok (.iconst 0, 1) := by decide +kernel
theorem dX9_priceOf_231 : decode cX9_priceOf 231 = .ok (.laload, 1) := by decide +kernel
theorem dX9_priceOf_232 : decode cX9_priceOf 232 = .ok (.ldc2_w 222, 3) := by decide +kernel
theorem dX9_priceOf_235 : decode cX9_priceOf 235 = .ok (.lcmp, 1) := by decide +kernel
theorem dX9_priceOf_236 : decode cX9_priceOf 236 = .ok (.ifCond .le 8, 3) := by decide +kernel
theorem dX9_priceOf_239 : decode cX9_priceOf 239 = .ok (.ldc 224, 2) := by decide +kernel
theorem dX9_priceOf_241 : decode cX9_priceOf 241 = .ok (.goto 10, 3) := by decide +kernel
theorem dX9_priceOf_244 : decode cX9_priceOf 244 = .ok (.aload_n 0, 1) := by decide +kernel
theorem dX9_priceOf_245 : decode cX9_priceOf 245 = .ok (.getfield 28, 3) := by decide +kernel
theorem dX9_priceOf_248 : decode cX9_priceOf 248 = .ok (.iconst 0, 1) := by decide +kernel
theorem dX9_priceOf_249 : decode cX9_priceOf 249 = .ok (.laload, 1) := by decide +kernel
theorem dX9_priceOf_250 : decode cX9_priceOf 250 = .ok (.l2i, 1) := by decide +kernel
theorem dX9_priceOf_251 : decode cX9_priceOf 251 = .ok (.ireturn, 1) := by decide +kernel
theorem dX9_findCheapest_0 : decode cX9_findCheapest 0 = .ok (.iconst (-1), 1) := by decide +kernel
theorem dX9_findCheapest_1 : decode cX9_findCheapest 1 = .ok (.istore_n 3, 1) := by decide +kernel
theorem dX9_findCheapest_2 : decode cX9_findCheapest 2 = .ok (.iconst 0, 1) := by decide +kernel
theorem dX9_findCheapest_3 : decode cX9_findCheapest 3 = .ok (.istore 4, 2) := by decide +kernel
theorem dX9_findCheapest_5 : decode cX9_findCheapest 5 = .ok (.iconst 0, 1) := by decide +kernel
theorem dX9_findCheapest_6 : decode cX9_findCheapest 6 = .ok (.istore 5, 2) := by decide +kernel
theorem dX9_findCheapest_8 : decode cX9_findCheapest 8 = .ok (.iload 5, 2) := by decide +kernel
theorem dX9_findCheapest_10 : decode cX9_findCheapest 10 = .ok (.aload_n 0, 1) := by decide +kernel
theorem dX9_findCheapest_11 : decode cX9_findCheapest 11 = .ok (.getfield 17, 3) := by decide +kernel
theorem dX9_findCheapest_14 : decode cX9_findCheapest 14 = .ok (.iconst 0, 1) := by decide +kernel
theorem dX9_findCheapest_15 : decode cX9_findCheapest 15 = .ok (.iaload, 1) := by decide +kernel
theorem dX9_findCheapest_16 : decode cX9_findCheapest 16 = .ok (.if_icmp .ge 55, 3) := by decide +kernel
theorem dX9_findCheapest_19 : decode cX9_findCheapest 19 = .ok (.aload_n 0, 1) := by decide +kernel
theorem dX9_findCheapest_20 : decode cX9_findCheapest 20 = .ok (.iload_n 1, 1) := by decide +kernel
theorem dX9_findCheapest_21 : decode cX9_findCheapest 21 = .ok (.iload_n 2, 1) := by decide +kernel
theorem dX9_findCheapest_22 : decode cX9_findCheapest 22 = .ok (.iload 5, 2) := by decide +kernel
theorem dX9_findCheapest_24 : decode cX9_findCheapest 24 = .ok (.invokevirtual 225, 3) := by decide +kernel
theorem dX9_findCheapest_27 : decode cX9_findCheapest 27 = .ok (.ifCond .eq 6, 3) := by decide +kernel
theorem dX9_findCheapest_30 : decode cX9_findCheapest 30 = .ok (.goto 35, 3) := by decide +kernel
theorem dX9_findCheapest_33 : decode cX9_findCheapest 33 = .ok (.aload_n 0, 1) := by decide +kernel
theorem dX9_findCheapest_34 : decode cX9_findCheapest 34 = .ok (.iload_n 1, 1) := by decide +kernel
theorem dX9_findCheapest_35 : decode cX9_findCheapest 35 = .ok (.iload_n 2, 1) := by decide +kernel
theorem dX9_findCheapest_36 : decode cX9_findCheapest 36 = .ok (.iload 5, 2) := by decide +kernel
theorem dX9_findCheapest_38 : decode cX9_findCheapest 38 = .ok (.invokevirtual 229, 3) := by decide +kernel
theorem dX9_findCheapest_41 : decode cX9_findCheapest 41 = .ok (.istore 6, 2) := by decide +kernel
theorem dX9_findCheapest_43 : decode cX9_findCheapest 43 = .ok (.iload_n 3, 1) := by decide +kernel
theorem dX9_findCheapest_44 : decode cX9_findCheapest 44 = .ok (.iconst (-1), 1) := by decide +kernel
theorem dX9_findCheapest_45 : decode cX9_findCheapest 45 = .ok (.if_icmp .eq 13, 3) := by decide +kernel
theorem dX9_findCheapest_48 : decode cX9_findCheapest 48 = .ok (.iload 6, 2) := by decide +kernel
theorem dX9_findCheapest_50 : decode cX9_findCheapest 50 = .ok (.iload 4, 2) := by decide +kernel
theorem dX9_findCheapest_52 : decode cX9_findCheapest 52 = .ok (.if_icmp .lt 6, 3) := by decide +kernel
theorem dX9_findCheapest_55 : decode cX9_findCheapest 55 = .ok (.goto 10, 3) := by decide +kernel
theorem dX9_findCheapest_58 : decode cX9_findCheapest 58 = .ok (.iload 5, 2) := by decide +kernel
theorem dX9_findCheapest_60 : decode cX9_findCheapest 60 = .ok (.istore_n 3, 1) := by decide +kernel
theorem dX9_findCheapest_61 : decode cX9_findCheapest 61 = .ok (.iload 6, 2) := by decide +kernel
theorem dX9_findCheapest_63 : decode cX9_findCheapest 63 = .ok (.istore 4, 2) := by decide +kernel
theorem dX9_findCheapest_65 : decode cX9_findCheapest 65 = .ok (.iinc 5 1, 3) := by decide +kernel
theorem dX9_findCheapest_68 : decode cX9_findCheapest 68 = .ok (.goto (-60), 3) := by decide +kernel
theorem dX9_findCheapest_71 : decode cX9_findCheapest 71 = .ok (.iload_n 3, 1) := by decide +kernel
theorem dX9_findCheapest_72 : decode cX9_findCheapest 72 = .ok (.ireturn, 1) := by decide +kernel
theorem dX9_layOrders_0 : decode cX9_layOrders 0 = .ok (.iconst 1, 1) := by decide +kernel
theorem dX9_layOrders_1 : decode cX9_layOrders 1 = .ok (.istore_n 1, 1) := by decide +kernel
theorem dX9_layOrders_2 : decode cX9_layOrders 2 = .ok (.iload_n 1, 1) := by decide +kernel
theorem dX9_layOrders_3 : decode cX9_layOrders 3 = .ok (.sipush 256, 3) := by decide +kernel
theorem dX9_layOrders_6 : decode cX9_layOrders 6 = .ok (.if_icmp .ge 118, 3) := by decide +kernel
theorem dX9_layOrders_9 : decode cX9_layOrders 9 = .ok (.iconst 0, 1) := by decide +kernel
theorem dX9_layOrders_10 : decode cX9_layOrders 10 = .ok (.istore_n 2, 1) := by decide +kernel
theorem dX9_layOrders_11 : decode cX9_layOrders 11 = .ok (.iload_n 2, 1) := by decide +kernel
theorem dX9_layOrders_12 : decode cX9_layOrders 12 = .ok (.bipush 8, 2) := by decide +kernel
theorem dX9_layOrders_14 : decode cX9_layOrders 14 = .ok (.if_icmp .ge 104, 3) := by decide +kernel
theorem dX9_layOrders_17 : decode cX9_layOrders 17 = .ok (.iload_n 1, 1) := by decide +kernel
theorem dX9_layOrders_18 : decode cX9_layOrders 18 = .ok (.iconst 1, 1) := by decide +kernel
theorem dX9_layOrders_19 : decode cX9_layOrders 19 = .ok (.iload_n 2, 1) := by decide +kernel
theorem dX9_layOrders_20 : decode cX9_layOrders 20 = .ok (.ishl, 1) := by decide +kernel
theorem dX9_layOrders_21 : decode cX9_layOrders 21 = .ok (.iconst (-1), 1) := by decide +kernel
theorem dX9_layOrders_22 : decode cX9_layOrders 22 = .ok (.ixor, 1) := by decide +kernel
theorem dX9_layOrders_23 : decode cX9_layOrders 23 = .ok (.iand, 1) := by decide +kernel
theorem dX9_layOrders_24 : decode cX9_layOrders 24 = .ok (.istore_n 3, 1) := by decide +kernel
theorem dX9_layOrders_25 : decode cX9_layOrders 25 = .ok (.aload_n 0, 1) := by decide +kernel
theorem dX9_layOrders_26 : decode cX9_layOrders 26 = .ok (.getfield 32, 3) := by decide +kernel
theorem dX9_layOrders_29 : decode cX9_layOrders 29 = .ok (.iload_n 1, 1) := by decide +kernel
theorem dX9_layOrders_30 : decode cX9_layOrders 30 = .ok (.aaload, 1) := by decide +kernel
theorem dX9_layOrders_31 : decode cX9_layOrders 31 = .ok (.iload_n 2, 1) := by decide +kernel
theorem dX9_layOrders_32 : decode cX9_layOrders 32 = .ok (.iload_n 3, 1) := by decide +kernel
theorem dX9_layOrders_33 : decode cX9_layOrders 33 = .ok (.iload_n 1, 1) := by decide +kernel
theorem dX9_layOrders_34 : decode cX9_layOrders 34 = .ok (.if_icmp .ne 7, 3) := by decide +kernel
theorem dX9_layOrders_37 : decode cX9_layOrders 37 = .ok (.iconst 0, 1) := by decide +kernel
theorem dX9_layOrders_38 : decode cX9_layOrders 38 = .ok (.goto 12, 3) := by decide +kernel
theorem dX9_layOrders_41 : decode cX9_layOrders 41 = .ok (.iload_n 3, 1) := by decide +kernel
theorem dX9_layOrders_42 : decode cX9_layOrders 42 = .ok (.ifCond .ne 7, 3) := by decide +kernel
theorem dX9_layOrders_45 : decode cX9_layOrders 45 = .ok (.iconst 1, 1) := by decide +kernel
theorem dX9_layOrders_46 : decode cX9_layOrders 46 = .ok (.goto 4, 3) := by decide +kernel
theorem dX9_layOrders_49 : decode cX9_layOrders 49 = .ok (.iconst 0, 1) := by decide +kernel
theorem dX9_layOrders_50 : decode cX9_layOrders 50 = .ok (.iastore, 1) := by decide +kernel
theorem dX9_layOrders_51 : decode cX9_layOrders 51 = .ok (.iconst 0, 1) := by decide +kernel
theorem dX9_layOrders_52 : decode cX9_layOrders 52 = .ok (.istore 4, 2) := by decide +kernel
theorem dX9_layOrders_54 : decode cX9_layOrders 54 = .ok (.iload 4, 2) := by decide +kernel
theorem dX9_layOrders_56 : decode cX9_layOrders 56 = .ok (.bipush 8, 2) := by decide +kernel
theorem dX9_layOrders_58 : decode cX9_layOrders 58 = .ok (.if_icmp .ge 54, 3) := by decide +kernel
theorem dX9_layOrders_61 : decode cX9_layOrders 61 = .ok (.iload_n 3, 1) := by decide +kernel
theorem dX9_layOrders_62 : decode cX9_layOrders 62 = .ok (.iload_n 1, 1) := by decide +kernel
theorem dX9_layOrders_63 : decode cX9_layOrders 63 = .ok (.if_icmp .eq 49, 3) := by decide +kernel
theorem dX9_layOrders_66 : decode cX9_layOrders 66 = .ok (.iload_n 3, 1) := by decide +kernel
theorem dX9_layOrders_67 : decode cX9_layOrders 67 = .ok (.iload 4, 2) := by decide +kernel
theorem dX9_layOrders_69 : decode cX9_layOrders 69 = .ok (.ishr, 1) := by decide +kernel
theorem dX9_layOrders_70 : decode cX9_layOrders 70 = .ok (.iconst 1, 1) := by decide +kernel
theorem dX9_layOrders_71 : decode cX9_layOrders 71 = .ok (.iand, 1) := by decide +kernel
theorem dX9_layOrders_72 : decode cX9_layOrders 72 = .ok (.iconst 1, 1) := by decide +kernel
theorem dX9_layOrders_73 : decode cX9_layOrders 73 = .ok (.if_icmp .ne 33, 3) := by decide +kernel
theorem dX9_layOrders_76 : decode cX9_layOrders 76 = .ok (.aload_n 0, 1) := by decide +kernel
theorem dX9_layOrders_77 : decode cX9_layOrders 77 = .ok (.iload_n 2, 1) := by decide +kernel
theorem dX9_layOrders_78 : decode cX9_layOrders 78 = .ok (.iload 4, 2) := by decide +kernel
theorem dX9_layOrders_80 : decode cX9_layOrders 80 = .ok (.invokevirtual 195, 3) := by decide +kernel
theorem dX9_layOrders_83 : decode cX9_layOrders 83 = .ok (.ifCond .ne 23, 3) := by decide +kernel
theorem dX9_layOrders_86 : decode cX9_layOrders 86 = .ok (.aload_n 0, 1) := by decide +kernel
theorem dX9_layOrders_87 : decode cX9_layOrders 87 = .ok (.getfield 32, 3) := by decide +kernel
theorem dX9_layOrders_90 : decode cX9_layOrders 90 = .ok (.iload_n 1, 1) := by decide +kernel
theorem dX9_layOrders_91 : decode cX9_layOrders 91 = .ok (.aaload, 1) := by decide +kernel
theorem dX9_layOrders_92 : decode cX9_layOrders 92 = .ok (.iload_n 2, 1) := by decide +kernel
theorem dX9_layOrders_93 : decode cX9_layOrders 93 = .ok (.dup2, 1) := by decide +kernel
theorem dX9_layOrders_94 : decode cX9_layOrders 94 = .ok (.iaload, 1) := by decide +kernel
theorem dX9_layOrders_95 : decode cX9_layOrders 95 = .ok (.aload_n 0, 1) := by decide +kernel
theorem dX9_layOrders_96 : decode cX9_layOrders 96 = .ok (.getfield 32, 3) := by decide +kernel
theorem dX9_layOrders_99 : decode cX9_layOrders 99 = .ok (.iload_n 3, 1) := by decide +kernel
theorem dX9_layOrders_100 : decode cX9_layOrders 100 = .ok (.aaload, 1) := by decide +kernel
theorem dX9_layOrders_101 : decode cX9_layOrders 101 = .ok (.iload 4, 2) := by decide +kernel
theorem dX9_layOrders_103 : decode cX9_layOrders 103 = .ok (.iaload, 1) := by decide +kernel
theorem dX9_layOrders_104 : decode cX9_layOrders 104 = .ok (.iadd, 1) := by decide +kernel
theorem dX9_layOrders_105 : decode cX9_layOrders 105 = .ok (.iastore, 1) := by decide +kernel
theorem dX9_layOrders_106 : decode cX9_layOrders 106 = .ok (.iinc 4 1, 3) := by decide +kernel
theorem dX9_layOrders_109 : decode cX9_layOrders 109 = .ok (.goto (-55), 3) := by decide +kernel
theorem dX9_layOrders_112 : decode cX9_layOrders 112 = .ok (.iinc 2 1, 3) := by decide +kernel
theorem dX9_layOrders_115 : decode cX9_layOrders 115 = .ok (.goto (-104), 3) := by decide +kernel
theorem dX9_layOrders_118 : decode cX9_layOrders 118 = .ok (.iinc 1 1, 3) := by decide +kernel
theorem dX9_layOrders_121 : decode cX9_layOrders 121 = .ok (.goto (-119), 3) := by decide +kernel
theorem dX9_layOrders_124 : decode cX9_layOrders 124 = .ok (.return_, 1) := by decide +kernel
theorem dX9_countOrders_0 : decode cX9_countOrders 0 = .ok (.iload_n 1, 1) := by decide +kernel
theorem dX9_countOrders_1 : decode cX9_countOrders 1 = .ok (.ifCond .ne 5, 3) := by decide +kernel
theorem dX9_countOrders_4 : decode cX9_countOrders 4 = .ok (.iconst 1, 1) := by decide +kernel
theorem dX9_countOrders_5 : decode cX9_countOrders 5 = .ok (.ireturn, 1) := by decide +kernel
theorem dX9_countOrders_6 : decode cX9_countOrders 6 = .ok (.iconst 0, 1) := by decide +kernel
theorem dX9_countOrders_7 : decode cX9_countOrders 7 = .ok (.istore_n 2, 1) := by decide +kernel
theorem dX9_countOrders_8 : decode cX9_countOrders 8 = .ok (.iconst 0, 1) := by decide +kernel
theorem dX9_countOrders_9 : decode cX9_countOrders 9 = .ok (.istore_n 3, 1) := by decide +kernel
theorem dX9_countOrders_10 : decode cX9_countOrders 10 = .ok (.iload_n 3, 1) := by decide +kernel
theorem dX9_countOrders_11 : decode cX9_countOrders 11 = .ok (.bipush 8, 2) := by decide +kernel
theorem dX9_countOrders_13 : decode cX9_countOrders 13 = .ok (.if_icmp .ge 20, 3) := by decide +kernel
theorem dX9_countOrders_16 : decode cX9_countOrders 16 = .ok (.iload_n 2, 1) := by decide +kernel
theorem dX9_countOrders_17 : decode cX9_countOrders 17 = .ok (.aload_n 0, 1) := by decide +kernel
theorem dX9_countOrders_18 : decode cX9_countOrders 18 = .ok (.getfield 32, 3) := by decide +kernel
theorem dX9_countOrders_21 : decode cX9_countOrders 21 = .ok (.iload_n 1, 1) := by decide +kernel
theorem dX9_countOrders_22 : decode cX9_countOrders 22 = .ok (.aaload, 1) := by decide +kernel
theorem dX9_countOrders_23 : decode cX9_countOrders 23 = .ok (.iload_n 3, 1) := by decide +kernel
theorem dX9_countOrders_24 : decode cX9_countOrders 24 = .ok (.iaload, 1) := by decide +kernel
theorem dX9_countOrders_25 : decode cX9_countOrders 25 = .ok (.iadd, 1) := by decide +kernel
theorem dX9_countOrders_26 : decode cX9_countOrders 26 = .ok (.istore_n 2, 1) := by decide +kernel
theorem dX9_countOrders_27 : decode cX9_countOrders 27 = .ok (.iinc 3 1, 3) := by decide +kernel
theorem dX9_countOrders_30 : decode cX9_countOrders 30 = .ok (.goto (-20), 3) := by decide +kernel
theorem dX9_countOrders_33 : decode cX9_countOrders 33 = .ok (.iload_n 2, 1) := by decide +kernel
theorem dX9_countOrders_34 : decode cX9_countOrders 34 = .ok (.ireturn, 1) := by decide +kernel
theorem dX9_layFirst_0 : decode cX9_layFirst 0 = .ok (.iconst 0, 1) := by decide +kernel
theorem dX9_layFirst_1 : decode cX9_layFirst 1 = .ok (.istore_n 2, 1) := by decide +kernel
theorem dX9_layFirst_2 : decode cX9_layFirst 2 = .ok (.iload_n 1, 1) := by decide +kernel
theorem dX9_layFirst_3 : decode cX9_layFirst 3 = .ok (.istore_n 3, 1) := by decide +kernel
theorem dX9_layFirst_4 : decode cX9_layFirst 4 = .ok (.iload_n 3, 1) := by decide +kernel
theorem dX9_layFirst_5 : decode cX9_layFirst 5 = .ok (.ifCond .eq 74, 3) := by decide +kernel
theorem dX9_layFirst_8 : decode cX9_layFirst 8 = .ok (.iconst 0, 1) := by decide +kernel
theorem dX9_layFirst_9 : decode cX9_layFirst 9 = .ok (.istore 4, 2) := by decide +kernel
theorem dX9_layFirst_11 : decode cX9_layFirst 11 = .ok (.aload_n 0, 1) := by decide +kernel
theorem dX9_layFirst_12 : decode cX9_layFirst 12 = .ok (.getfield 32, 3) := by decide +kernel
theorem dX9_layFirst_15 : decode cX9_layFirst 15 = .ok (.iload_n 3, 1) := by decide +kernel
theorem dX9_layFirst_16 : decode cX9_layFirst 16 = .ok (.aaload, 1) := by decide +kernel
theorem dX9_layFirst_17 : decode cX9_layFirst 17 = .ok (.iload 4, 2) := by decide +kernel
theorem dX9_layFirst_19 : decode cX9_layFirst 19 = .ok (.iaload, 1) := by decide +kernel
theorem dX9_layFirst_20 : decode cX9_layFirst 20 = .ok (.ifCond .eq 24, 3) := by decide +kernel
theorem dX9_layFirst_23 : decode cX9_layFirst 23 = .ok (.iload_n 2, 1) := by decide +kernel
theorem dX9_layFirst_24 : decode cX9_layFirst 24 = .ok (.ifCond .le 26, 3) := by decide +kernel
theorem dX9_layFirst_27 : decode cX9_layFirst 27 = .ok (.aload_n 0, 1) := by decide +kernel
theorem dX9_layFirst_28 : decode cX9_layFirst 28 = .ok (.aload_n 0, 1) := by decide +kernel
theorem dX9_layFirst_29 : decode cX9_layFirst 29 = .ok (.getfield 35, 3) := by decide +kernel
theorem dX9_layFirst_32 : decode cX9_layFirst 32 = .ok (.iload_n 2, 1) := by decide +kernel
theorem dX9_layFirst_33 : decode cX9_layFirst 33 = .ok (.iconst 1, 1) := by decide +kernel
theorem dX9_layFirst_34 : decode cX9_layFirst 34 = .ok (.isub, 1) := by decide +kernel
theorem dX9_layFirst_35 : decode cX9_layFirst 35 = .ok (.iaload, 1) := by decide +kernel
theorem dX9_layFirst_36 : decode cX9_layFirst 36 = .ok (.iload 4, 2) := by decide +kernel
theorem dX9_layFirst_38 : decode cX9_layFirst 38 = .ok (.invokevirtual 195, 3) := by decide +kernel
theorem dX9_layFirst_41 : decode cX9_layFirst 41 = .ok (.ifCond .eq 9, 3) := by decide +kernel
theorem dX9_layFirst_44 : decode cX9_layFirst 44 = .ok (.iinc 4 1, 3) := by decide +kernel
theorem dX9_layFirst_47 : decode cX9_layFirst 47 = .ok (.goto (-36), 3) := by decide +kernel
theorem dX9_layFirst_50 : decode cX9_layFirst 50 = .ok (.aload_n 0, 1) := by decide +kernel
theorem dX9_layFirst_51 : decode cX9_layFirst 51 = .ok (.getfield 35, 3) := by decide +kernel
theorem dX9_layFirst_54 : decode cX9_layFirst 54 = .ok (.iload_n 2, 1) := by decide +kernel
theorem dX9_layFirst_55 : decode cX9_layFirst 55 = .ok (.iload 4, 2) := by decide +kernel
theorem dX9_layFirst_57 : decode cX9_layFirst 57 = .ok (.iastore, 1) := by decide +kernel
theorem dX9_layFirst_58 : decode cX9_layFirst 58 = .ok (.iinc 2 1, 3) := by decide +kernel
theorem dX9_layFirst_61 : decode cX9_layFirst 61 = .ok (.iload_n 3, 1) := by decide +kernel
theorem dX9_layFirst_62 : decode cX9_layFirst 62 = .ok (.iconst 1, 1) := by decide +kernel
theorem dX9_layFirst_63 : decode cX9_layFirst 63 = .ok (.aload_n 0, 1) := by decide +kernel
theorem dX9_layFirst_64 : decode cX9_layFirst 64 = .ok (.getfield 35, 3) := by decide +kernel
theorem dX9_layFirst_67 : decode cX9_layFirst 67 = .ok (.iload_n 2, 1) := by decide +kernel
theorem dX9_layFirst_68 : decode cX9_layFirst 68 = .ok (.iconst 1, 1) := by decide +kernel
theorem dX9_layFirst_69 : decode cX9_layFirst 69 = .ok (.isub, 1) := by decide +kernel
theorem dX9_layFirst_70 : decode cX9_layFirst 70 = .ok (.iaload, 1) := by decide +kernel
theorem dX9_layFirst_71 : decode cX9_layFirst 71 = .ok (.ishl, 1) := by decide +kernel
theorem dX9_layFirst_72 : decode cX9_layFirst 72 = .ok (.iconst (-1), 1) := by decide +kernel
theorem dX9_layFirst_73 : decode cX9_layFirst 73 = .ok (.ixor, 1) := by decide +kernel
theorem dX9_layFirst_74 : decode cX9_layFirst 74 = .ok (.iand, 1) := by decide +kernel
theorem dX9_layFirst_75 : decode cX9_layFirst 75 = .ok (.istore_n 3, 1) := by decide +kernel
theorem dX9_layFirst_76 : decode cX9_layFirst 76 = .ok (.goto (-72), 3) := by decide +kernel
theorem dX9_layFirst_79 : decode cX9_layFirst 79 = .ok (.return_, 1) := by decide +kernel
theorem dX9_noBreak_0 : decode cX9_noBreak 0 = .ok (.aload_n 0, 1) := by decide +kernel
theorem dX9_noBreak_1 : decode cX9_noBreak 1 = .ok (.iload_n 1, 1) := by decide +kernel
theorem dX9_noBreak_2 : decode cX9_noBreak 2 = .ok (.iconst 0, 1) := by decide +kernel
theorem dX9_noBreak_3 : decode cX9_noBreak 3 = .ok (.aload_n 0, 1) := by decide +kernel
theorem dX9_noBreak_4 : decode cX9_noBreak 4 = .ok (.getfield 17, 3) := by decide +kernel
theorem dX9_noBreak_7 : decode cX9_noBreak 7 = .ok (.iconst 0, 1) := by decide +kernel
theorem dX9_noBreak_8 : decode cX9_noBreak 8 = .ok (.iaload, 1) := by decide +kernel
theorem dX9_noBreak_9 : decode cX9_noBreak 9 = .ok (.iconst 1, 1) := by decide +kernel
theorem dX9_noBreak_10 : decode cX9_noBreak 10 = .ok (.isub, 1) := by decide +kernel
theorem dX9_noBreak_11 : decode cX9_noBreak 11 = .ok (.invokestatic 66, 3) := by decide +kernel
theorem dX9_noBreak_14 : decode cX9_noBreak 14 = .ok (.ifCond .ne 7, 3) := by decide +kernel
theorem dX9_noBreak_17 : decode cX9_noBreak 17 = .ok (.iconst 1, 1) := by decide +kernel
theorem dX9_noBreak_18 : decode cX9_noBreak 18 = .ok (.goto 4, 3) := by decide +kernel
theorem dX9_noBreak_21 : decode cX9_noBreak 21 = .ok (.iconst 0, 1) := by decide +kernel
theorem dX9_noBreak_22 : decode cX9_noBreak 22 = .ok (.iconst 1, 1) := by decide +kernel
theorem dX9_noBreak_23 : decode cX9_noBreak 23 = .ok (.invokevirtual 166, 3) := by decide +kernel
theorem dX9_noBreak_26 : decode cX9_noBreak 26 = .ok (.ireturn, 1) := by decide +kernel
theorem dX9_noSponsor_0 : decode cX9_noSponsor 0 = .ok (.aload_n 0, 1) := by decide +kernel
theorem dX9_noSponsor_1 : decode cX9_noSponsor 1 = .ok (.iload_n 1, 1) := by decide +kernel
theorem dX9_noSponsor_2 : decode cX9_noSponsor 2 = .ok (.iconst 0, 1) := by decide +kernel
theorem dX9_noSponsor_3 : decode cX9_noSponsor 3 = .ok (.aload_n 0, 1) := by decide +kernel
theorem dX9_noSponsor_4 : decode cX9_noSponsor 4 = .ok (.getfield 17, 3) := by decide +kernel
theorem dX9_noSponsor_7 : decode cX9_noSponsor 7 = .ok (.iconst 1, 1) := by decide +kernel
theorem dX9_noSponsor_8 : decode cX9_noSponsor 8 = .ok (.iaload, 1) := by decide +kernel
theorem dX9_noSponsor_9 : decode cX9_noSponsor 9 = .ok (.iconst 1, 1) := by decide +kernel
theorem dX9_noSponsor_10 : decode cX9_noSponsor 10 = .ok (.isub, 1) := by decide +kernel
theorem dX9_noSponsor_11 : decode cX9_noSponsor 11 = .ok (.invokestatic 66, 3) := by decide +kernel
theorem dX9_noSponsor_14 : decode cX9_noSponsor 14 = .ok (.ifCond .ne 7, 3) := by decide +kernel
theorem dX9_noSponsor_17 : decode cX9_noSponsor 17 = .ok (.iconst 1, 1) := by decide +kernel
theorem dX9_noSponsor_18 : decode cX9_noSponsor 18 = .ok (.goto 4, 3) := by decide +kernel
theorem dX9_noSponsor_21 : decode cX9_noSponsor 21 = .ok (.iconst 0, 1) := by decide +kernel
theorem dX9_noSponsor_22 : decode cX9_noSponsor 22 = .ok (.iconst 1, 1) := by decide +kernel
theorem dX9_noSponsor_23 : decode cX9_noSponsor 23 = .ok (.invokevirtual 166, 3) := by decide +kernel
theorem dX9_noSponsor_26 : decode cX9_noSponsor 26 = .ok (.ireturn, 1) := by decide +kernel
theorem dX9_noSeconds_0 : decode cX9_noSeconds 0 = .ok (.aload_n 0, 1) := by decide +kernel
theorem dX9_noSeconds_1 : decode cX9_noSeconds 1 = .ok (.iload_n 1, 1) := by decide +kernel
theorem dX9_noSeconds_2 : decode cX9_noSeconds 2 = .ok (.iconst 5, 1) := by decide +kernel
theorem dX9_noSeconds_3 : decode cX9_noSeconds 3 = .ok (.bipush 60, 2) := by decide +kernel
theorem dX9_noSeconds_5 : decode cX9_noSeconds 5 = .ok (.invokestatic 66, 3) := by decide +kernel
theorem dX9_noSeconds_8 : decode cX9_noSeconds 8 = .ok (.ifCond .ne 7, 3) := by decide +kernel
theorem dX9_noSeconds_11 : decode cX9_noSeconds 11 = .ok (.iconst 1, 1) := by decide +kernel
theorem dX9_noSeconds_12 : decode cX9_noSeconds 12 = .ok (.goto 4, 3) := by decide +kernel
theorem dX9_noSeconds_15 : decode cX9_noSeconds 15 = .ok (.iconst 0, 1) := by decide +kernel
theorem dX9_noSeconds_16 : decode cX9_noSeconds 16 = .ok (.iconst 2, 1) := by decide +kernel
theorem dX9_noSeconds_17 : decode cX9_noSeconds 17 = .ok (.invokevirtual 166, 3) := by decide +kernel
theorem dX9_noSeconds_20 : decode cX9_noSeconds 20 = .ok (.ireturn, 1) := by decide +kernel
theorem dX9_noRequest_0 : decode cX9_noRequest 0 = .ok (.aload_n 0, 1) := by decide +kernel
theorem dX9_noRequest_1 : decode cX9_noRequest 1 = .ok (.iload_n 1, 1) := by decide +kernel
theorem dX9_noRequest_2 : decode cX9_noRequest 2 = .ok (.invokevirtual 232, 3) := by decide +kernel
theorem dX9_noRequest_5 : decode cX9_noRequest 5 = .ok (.ifCond .ne 19, 3) := by decide +kernel
theorem dX9_noRequest_8 : decode cX9_noRequest 8 = .ok (.aload_n 0, 1) := by decide +kernel
theorem dX9_noRequest_9 : decode cX9_noRequest 9 = .ok (.iload_n 3, 1) := by decide +kernel
theorem dX9_noRequest_10 : decode cX9_noRequest 10 = .ok (.invokevirtual 235, 3) := by decide +kernel
theorem dX9_noRequest_13 : decode cX9_noRequest 13 = .ok (.ifCond .ne 11, 3) := by decide +kernel
theorem dX9_noRequest_16 : decode cX9_noRequest 16 = .ok (.aload_n 0, 1) := by decide +kernel
theorem dX9_noRequest_17 : decode cX9_noRequest 17 = .ok (.iload_n 2, 1) := by decide +kernel
theorem dX9_noRequest_18 : decode cX9_noRequest 18 = .ok (.invokevirtual 238, 3) := by decide +kernel
theorem dX9_noRequest_21 : decode cX9_noRequest 21 = .ok (.ifCond .eq 7, 3) := by decide +kernel
theorem dX9_noRequest_24 : decode cX9_noRequest 24 = .ok (.iconst 1, 1) := by decide +kernel
theorem dX9_noRequest_25 : decode cX9_noRequest 25 = .ok (.goto 4, 3) := by decide +kernel
theorem dX9_noRequest_28 : decode cX9_noRequest 28 = .ok (.iconst 0, 1) := by decide +kernel
theorem dX9_noRequest_29 : decode cX9_noRequest 29 = .ok (.ireturn, 1) := by decide +kernel
theorem dX9_breaks_0 : decode cX9_breaks 0 = .ok (.aload_n 0, 1) := by decide +kernel
theorem dX9_breaks_1 : decode cX9_breaks 1 = .ok (.iconst 0, 1) := by decide +kernel
theorem dX9_breaks_2 : decode cX9_breaks 2 = .ok (.putfield 41, 3) := by decide +kernel
theorem dX9_breaks_5 : decode cX9_breaks 5 = .ok (.aload_n 0, 1) := by decide +kernel
theorem dX9_breaks_6 : decode cX9_breaks 6 = .ok (.getfield 17, 3) := by decide +kernel
theorem dX9_breaks_9 : decode cX9_breaks 9 = .ok (.iconst 0, 1) := by decide +kernel
theorem dX9_breaks_10 : decode cX9_breaks 10 = .ok (.iaload, 1) := by decide +kernel
theorem dX9_breaks_11 : decode cX9_breaks 11 = .ok (.ireturn, 1) := by decide +kernel
theorem dX9_sponsors_0 : decode cX9_sponsors 0 = .ok (.aload_n 0, 1) := by decide +kernel
theorem dX9_sponsors_1 : decode cX9_sponsors 1 = .ok (.iconst 0, 1) := by decide +kernel
theorem dX9_sponsors_2 : decode cX9_sponsors 2 = .ok (.putfield 41, 3) := by decide +kernel
theorem dX9_sponsors_5 : decode cX9_sponsors 5 = .ok (.aload_n 0, 1) := by decide +kernel
theorem dX9_sponsors_6 : decode cX9_sponsors 6 = .ok (.getfield 17, 3) := by decide +kernel
theorem dX9_sponsors_9 : decode cX9_sponsors 9 = .ok (.iconst 1, 1) := by decide +kernel
theorem dX9_sponsors_10 : decode cX9_sponsors 10 = .ok (.iaload, 1) := by decide +kernel
theorem dX9_sponsors_11 : decode cX9_sponsors 11 = .ok (.ireturn, 1) := by decide +kernel
theorem dX9_breakOf_0 : decode cX9_breakOf 0 = .ok (.aload_n 0, 1) := by decide +kernel
theorem dX9_breakOf_1 : decode cX9_breakOf 1 = .ok (.iconst 0, 1) := by decide +kernel
theorem dX9_breakOf_2 : decode cX9_breakOf 2 = .ok (.putfield 41, 3) := by decide +kernel
theorem dX9_breakOf_5 : decode cX9_breakOf 5 = .ok (.aload_n 0, 1) := by decide +kernel
theorem dX9_breakOf_6 : decode cX9_breakOf 6 = .ok (.iload_n 1, 1) := by decide +kernel
theorem dX9_breakOf_7 : decode cX9_breakOf 7 = .ok (.invokevirtual 235, 3) := by decide +kernel
theorem dX9_breakOf_10 : decode cX9_breakOf 10 = .ok (.ifCond .ne 26, 3) := by decide +kernel
theorem dX9_breakOf_13 : decode cX9_breakOf 13 = .ok (.aload_n 0, 1) := by decide +kernel
theorem dX9_breakOf_14 : decode cX9_breakOf 14 = .ok (.iload_n 2, 1) := by decide +kernel
theorem dX9_breakOf_15 : decode cX9_breakOf 15 = .ok (.iconst 0, 1) := by decide +kernel
theorem dX9_breakOf_16 : decode cX9_breakOf 16 = .ok (.bipush 6, 2) := by decide +kernel
theorem dX9_breakOf_18 : decode cX9_breakOf 18 = .ok (.invokestatic 66, 3) := by decide +kernel
theorem dX9_breakOf_21 : decode cX9_breakOf 21 = .ok (.ifCond .ne 7, 3) := by decide +kernel
theorem dX9_breakOf_24 : decode cX9_breakOf 24 = .ok (.iconst 1, 1) := by decide +kernel
theorem dX9_breakOf_25 : decode cX9_breakOf 25 = .ok (.goto 4, 3) := by decide +kernel
theorem dX9_breakOf_28 : decode cX9_breakOf 28 = .ok (.iconst 0, 1) := by decide +kernel
theorem dX9_breakOf_29 : decode cX9_breakOf 29 = .ok (.iconst 2, 1) := by decide +kernel
theorem dX9_breakOf_30 : decode cX9_breakOf 30 = .ok (.invokevirtual 166, 3) := by decide +kernel
theorem dX9_breakOf_33 : decode cX9_breakOf 33 = .ok (.ifCond .eq 5, 3) := by decide +kernel
theorem dX9_breakOf_36 : decode cX9_breakOf 36 = .ok (.iconst 0, 1) := by decide +kernel
theorem dX9_breakOf_37 : decode cX9_breakOf 37 = .ok (.ireturn, 1) := by decide +kernel
theorem dX9_breakOf_38 : decode cX9_breakOf 38 = .ok (.iload_n 2, 1) := by decide +kernel
theorem dX9_breakOf_39 : decode cX9_breakOf 39 = .ok (.bipush 6, 2) := by decide +kernel
theorem dX9_breakOf_41 : decode cX9_breakOf 41 = .ok (.if_icmp .ne 11, 3) := by decide +kernel
theorem dX9_breakOf_44 : decode cX9_breakOf 44 = .ok (.aload_n 0, 1) := by decide +kernel
theorem dX9_breakOf_45 : decode cX9_breakOf 45 = .ok (.iload_n 1, 1) := by decide +kernel
theorem dX9_breakOf_46 : decode cX9_breakOf 46 = .ok (.invokevirtual 202, 3) := by decide +kernel
theorem dX9_breakOf_49 : decode cX9_breakOf 49 = .ok (.goto 14, 3) := by decide +kernel
theorem dX9_breakOf_52 : decode cX9_breakOf 52 = .ok (.aload_n 0, 1) := by decide +kernel
theorem dX9_breakOf_53 : decode cX9_breakOf 53 = .ok (.getfield 17, 3) := by decide +kernel
theorem dX9_breakOf_56 : decode cX9_breakOf 56 = .ok (.iload_n 1, 1) := by decide +kernel
theorem dX9_breakOf_57 : decode cX9_breakOf 57 = .ok (.invokestatic 44, 3) := by decide +kernel
theorem dX9_breakOf_60 : decode cX9_breakOf 60 = .ok (.iload_n 2, 1) := by decide +kernel
theorem dX9_breakOf_61 : decode cX9_breakOf 61 = .ok (.iadd, 1) := by decide +kernel
theorem dX9_breakOf_62 : decode cX9_breakOf 62 = .ok (.iaload, 1) := by decide +kernel
theorem dX9_breakOf_63 : decode cX9_breakOf 63 = .ok (.ireturn, 1) := by decide +kernel
theorem dX9_spot_0 : decode cX9_spot 0 = .ok (.aload_n 0, 1) := by decide +kernel
theorem dX9_spot_1 : decode cX9_spot 1 = .ok (.iconst 0, 1) := by decide +kernel
theorem dX9_spot_2 : decode cX9_spot 2 = .ok (.putfield 41, 3) := by decide +kernel
theorem dX9_spot_5 : decode cX9_spot 5 = .ok (.aload_n 0, 1) := by decide +kernel
theorem dX9_spot_6 : decode cX9_spot 6 = .ok (.iload_n 1, 1) := by decide +kernel
theorem dX9_spot_7 : decode cX9_spot 7 = .ok (.invokevirtual 235, 3) := by decide +kernel
theorem dX9_spot_10 : decode cX9_spot 10 = .ok (.ifCond .ne 53, 3) := by decide +kernel
theorem dX9_spot_13 : decode cX9_spot 13 = .ok (.aload_n 0, 1) := by decide +kernel
theorem dX9_spot_14 : decode cX9_spot 14 = .ok (.iload_n 2, 1) := by decide +kernel
theorem dX9_spot_15 : decode cX9_spot 15 = .ok (.iconst 0, 1) := by decide +kernel
theorem dX9_spot_16 : decode cX9_spot 16 = .ok (.aload_n 0, 1) := by decide +kernel
theorem dX9_spot_17 : decode cX9_spot 17 = .ok (.iload_n 1, 1) := by decide +kernel
theorem dX9_spot_18 : decode cX9_spot 18 = .ok (.invokevirtual 185, 3) := by decide +kernel
theorem dX9_spot_21 : decode cX9_spot 21 = .ok (.iconst 1, 1) := by decide +kernel
theorem dX9_spot_22 : decode cX9_spot 22 = .ok (.isub, 1) := by decide +kernel
theorem dX9_spot_23 : decode cX9_spot 23 = .ok (.invokestatic 66, 3) := by decide +kernel
theorem dX9_spot_26 : decode cX9_spot 26 = .ok (.ifCond .ne 7, 3) := by decide +kernel
theorem dX9_spot_29 : decode cX9_spot 29 = .ok (.iconst 1, 1) := by decide +kernel
theorem dX9_spot_30 : decode cX9_spot 30 = .ok (.goto 4, 3) := by decide +kernel
theorem dX9_spot_33 : decode cX9_spot 33 = .ok (.iconst 0, 1) := by decide +kernel
theorem dX9_spot_34 : decode cX9_spot 34 = .ok (.iconst 2, 1) := by decide +kernel
theorem dX9_spot_35 : decode cX9_spot 35 = .ok (.invokevirtual 166, 3) := by decide +kernel
theorem dX9_spot_38 : decode cX9_spot 38 = .ok (.ifCond .ne 25, 3) := by decide +kernel
theorem dX9_spot_41 : decode cX9_spot 41 = .ok (.aload_n 0, 1) := by decide +kernel
theorem dX9_spot_42 : decode cX9_spot 42 = .ok (.iload_n 3, 1) := by decide +kernel
theorem dX9_spot_43 : decode cX9_spot 43 = .ok (.iconst 0, 1) := by decide +kernel
theorem dX9_spot_44 : decode cX9_spot 44 = .ok (.iconst 2, 1) := by decide +kernel
theorem dX9_spot_45 : decode cX9_spot 45 = .ok (.invokestatic 66, 3) := by decide +kernel
theorem dX9_spot_48 : decode cX9_spot 48 = .ok (.ifCond .ne 7, 3) := by decide +kernel
theorem dX9_spot_51 : decode cX9_spot 51 = .ok (.iconst 1, 1) := by decide +kernel
theorem dX9_spot_52 : decode cX9_spot 52 = .ok (.goto 4, 3) := by decide +kernel
theorem dX9_spot_55 : decode cX9_spot 55 = .ok (.iconst 0, 1) := by decide +kernel
theorem dX9_spot_56 : decode cX9_spot 56 = .ok (.iconst 3, 1) := by decide +kernel
theorem dX9_spot_57 : decode cX9_spot 57 = .ok (.invokevirtual 166, 3) := by decide +kernel
theorem dX9_spot_60 : decode cX9_spot 60 = .ok (.ifCond .eq 5, 3) := by decide +kernel
theorem dX9_spot_63 : decode cX9_spot 63 = .ok (.iconst 0, 1) := by decide +kernel
theorem dX9_spot_64 : decode cX9_spot 64 = .ok (.ireturn, 1) := by decide +kernel
theorem dX9_spot_65 : decode cX9_spot 65 = .ok (.aload_n 0, 1) := by decide +kernel
theorem dX9_spot_66 : decode cX9_spot 66 = .ok (.getfield 17, 3) := by decide +kernel
theorem dX9_spot_69 : decode cX9_spot 69 = .ok (.iload_n 1, 1) := by decide +kernel
theorem dX9_spot_70 : decode cX9_spot 70 = .ok (.iload_n 2, 1) := by decide +kernel
theorem dX9_spot_71 : decode cX9_spot 71 = .ok (.invokestatic 188, 3) := by decide +kernel
theorem dX9_spot_74 : decode cX9_spot 74 = .ok (.iload_n 3, 1) := by decide +kernel
theorem dX9_spot_75 : decode cX9_spot 75 = .ok (.iadd, 1) := by decide +kernel
theorem dX9_spot_76 : decode cX9_spot 76 = .ok (.iaload, 1) := by decide +kernel
theorem dX9_spot_77 : decode cX9_spot 77 = .ok (.ireturn, 1) := by decide +kernel
theorem dX9_owedOf_0 : decode cX9_owedOf 0 = .ok (.iconst 0, 1) := by decide +kernel
theorem dX9_owedOf_1 : decode cX9_owedOf 1 = .ok (.istore_n 2, 1) := by decide +kernel
theorem dX9_owedOf_2 : decode cX9_owedOf 2 = .ok (.iconst 0, 1) := by decide +kernel
theorem dX9_owedOf_3 : decode cX9_owedOf 3 = .ok (.istore_n 3, 1) := by decide +kernel
theorem dX9_owedOf_4 : decode cX9_owedOf 4 = .ok (.iload_n 3, 1) := by decide +kernel
theorem dX9_owedOf_5 : decode cX9_owedOf 5 = .ok (.aload_n 0, 1) := by decide +kernel
theorem dX9_owedOf_6 : decode cX9_owedOf 6 = .ok (.getfield 17, 3) := by decide +kernel
theorem dX9_owedOf_9 : decode cX9_owedOf 9 = .ok (.iconst 5, 1) := by decide +kernel
theorem dX9_owedOf_10 : decode cX9_owedOf 10 = .ok (.iaload, 1) := by decide +kernel
theorem dX9_owedOf_11 : decode cX9_owedOf 11 = .ok (.if_icmp .ge 33, 3) := by decide +kernel
theorem dX9_owedOf_14 : decode cX9_owedOf 14 = .ok (.iload_n 2, 1) := by decide +kernel
theorem dX9_owedOf_15 : decode cX9_owedOf 15 = .ok (.aload_n 0, 1) := by decide +kernel
theorem dX9_owedOf_16 : decode cX9_owedOf 16 = .ok (.getfield 17, 3) := by decide +kernel
theorem dX9_owedOf_19 : decode cX9_owedOf 19 = .ok (.sipush 723, 3) := by decide +kernel
theorem dX9_owedOf_22 : decode cX9_owedOf 22 = .ok (.iconst 4, 1) := by decide +kernel
theorem dX9_owedOf_23 : decode cX9_owedOf 23 = .ok (.iload_n 3, 1) := by decide +kernel
theorem dX9_owedOf_24 : decode cX9_owedOf 24 = .ok (.imul, 1) := by decide +kernel
theorem dX9_owedOf_25 : decode cX9_owedOf 25 = .ok (.iadd, 1) := by decide +kernel
theorem dX9_owedOf_26 : decode cX9_owedOf 26 = .ok (.iaload, 1) := by decide +kernel
theorem dX9_owedOf_27 : decode cX9_owedOf 27 = .ok (.iload_n 1, 1) := by decide +kernel
theorem dX9_owedOf_28 : decode cX9_owedOf 28 = .ok (.if_icmp .ne 7, 3) := by decide +kernel
theorem dX9_owedOf_31 : decode cX9_owedOf 31 = .ok (.iconst 1, 1) := by decide +kernel
theorem dX9_owedOf_32 : decode cX9_owedOf 32 = .ok (.goto 4, 3) := by decide +kernel
theorem dX9_owedOf_35 : decode cX9_owedOf 35 = .ok (.iconst 0, 1) := by decide +kernel
theorem dX9_owedOf_36 : decode cX9_owedOf 36 = .ok (.iadd, 1) := by decide +kernel
theorem dX9_owedOf_37 : decode cX9_owedOf 37 = .ok (.istore_n 2, 1) := by decide +kernel
theorem dX9_owedOf_38 : decode cX9_owedOf 38 = .ok (.iinc 3 1, 3) := by decide +kernel
theorem dX9_owedOf_41 : decode cX9_owedOf 41 = .ok (.goto (-37), 3) := by decide +kernel
theorem dX9_owedOf_44 : decode cX9_owedOf 44 = .ok (.iload_n 2, 1) := by decide +kernel
theorem dX9_owedOf_45 : decode cX9_owedOf 45 = .ok (.ireturn, 1) := by decide +kernel
theorem dX9_sponsor_0 : decode cX9_sponsor 0 = .ok (.aload_n 0, 1) := by decide +kernel
theorem dX9_sponsor_1 : decode cX9_sponsor 1 = .ok (.iconst 0, 1) := by decide +kernel
theorem dX9_sponsor_2 : decode cX9_sponsor 2 = .ok (.putfield 41, 3) := by decide +kernel
theorem dX9_sponsor_5 : decode cX9_sponsor 5 = .ok (.aload_n 0, 1) := by decide +kernel
theorem dX9_sponsor_6 : decode cX9_sponsor 6 = .ok (.iload_n 1, 1) := by decide +kernel
theorem dX9_sponsor_7 : decode cX9_sponsor 7 = .ok (.invokevirtual 232, 3) := by decide +kernel
theorem dX9_sponsor_10 : decode cX9_sponsor 10 = .ok (.ifCond .ne 25, 3) := by decide +kernel
theorem dX9_sponsor_13 : decode cX9_sponsor 13 = .ok (.aload_n 0, 1) := by decide +kernel
theorem dX9_sponsor_14 : decode cX9_sponsor 14 = .ok (.iload_n 2, 1) := by decide +kernel
theorem dX9_sponsor_15 : decode cX9_sponsor 15 = .ok (.iconst 0, 1) := by decide +kernel
theorem dX9_sponsor_16 : decode cX9_sponsor 16 = .ok (.iconst 4, 1) := by decide +kernel
theorem dX9_sponsor_17 : decode cX9_sponsor 17 = .ok (.invokestatic 66, 3) := by decide +kernel
theorem dX9_sponsor_20 : decode cX9_sponsor 20 = .ok (.ifCond .ne 7, 3) := by decide +kernel
theorem dX9_sponsor_23 : decode cX9_sponsor 23 = .ok (.iconst 1, 1) := by decide +kernel
theorem dX9_sponsor_24 : decode cX9_sponsor 24 = .ok (.goto 4, 3) := by decide +kernel
theorem dX9_sponsor_27 : decode cX9_sponsor 27 = .ok (.iconst 0, 1) := by decide +kernel
theorem dX9_sponsor_28 : decode cX9_sponsor 28 = .ok (.iconst 2, 1) := by decide +kernel
theorem dX9_sponsor_29 : decode cX9_sponsor 29 = .ok (.invokevirtual 166, 3) := by decide +kernel
theorem dX9_sponsor_32 : decode cX9_sponsor 32 = .ok (.ifCond .eq 5, 3) := by decide +kernel
theorem dX9_sponsor_35 : decode cX9_sponsor 35 = .ok (.iconst 0, 1) := by decide +kernel
theorem dX9_sponsor_36 : decode cX9_sponsor 36 = .ok (.ireturn, 1) := by decide +kernel
theorem dX9_sponsor_37 : decode cX9_sponsor 37 = .ok (.iload_n 2, 1) := by decide +kernel
theorem dX9_sponsor_38 : decode cX9_sponsor 38 = .ok (.iconst 2, 1) := by decide +kernel
theorem dX9_sponsor_39 : decode cX9_sponsor 39 = .ok (.if_icmp .ge 20, 3) := by decide +kernel
theorem dX9_sponsor_42 : decode cX9_sponsor 42 = .ok (.aload_n 0, 1) := by decide +kernel
theorem dX9_sponsor_43 : decode cX9_sponsor 43 = .ok (.getfield 17, 3) := by decide +kernel
theorem dX9_sponsor_46 : decode cX9_sponsor 46 = .ok (.sipush 607, 3) := by decide +kernel
theorem dX9_sponsor_49 : decode cX9_sponsor 49 = .ok (.iconst 2, 1) := by decide +kernel
theorem dX9_sponsor_50 : decode cX9_sponsor 50 = .ok (.iload_n 1, 1) := by decide +kernel
theorem dX9_sponsor_51 : decode cX9_sponsor 51 = .ok (.imul, 1) := by decide +kernel
theorem dX9_sponsor_52 : decode cX9_sponsor 52 = .ok (.iadd, 1) := by decide +kernel
theorem dX9_sponsor_53 : decode cX9_sponsor 53 = .ok (.iload_n 2, 1) := by decide +kernel
theorem dX9_sponsor_54 : decode cX9_sponsor 54 = .ok (.iadd, 1) := by decide +kernel
theorem dX9_sponsor_55 : decode cX9_sponsor 55 = .ok (.iaload, 1) := by decide +kernel
theorem dX9_sponsor_56 : decode cX9_sponsor 56 = .ok (.goto 40, 3) := by decide +kernel
theorem dX9_sponsor_59 : decode cX9_sponsor 59 = .ok (.iload_n 2, 1) := by decide +kernel
theorem dX9_sponsor_60 : decode cX9_sponsor 60 = .ok (.iconst 2, 1) := by decide +kernel
theorem dX9_sponsor_61 : decode cX9_sponsor 61 = .ok (.if_icmp .ne 14, 3) := by decide +kernel
theorem dX9_sponsor_64 : decode cX9_sponsor 64 = .ok (.aload_n 0, 1) := by decide +kernel
theorem dX9_sponsor_65 : decode cX9_sponsor 65 = .ok (.iload_n 1, 1) := by decide +kernel
theorem dX9_sponsor_66 : decode cX9_sponsor 66 = .ok (.iconst (-1), 1) := by decide +kernel
theorem dX9_sponsor_67 : decode cX9_sponsor 67 = .ok (.iconst 0, 1) := by decide +kernel
theorem dX9_sponsor_68 : decode cX9_sponsor 68 = .ok (.iconst 1, 1) := by decide +kernel
theorem dX9_sponsor_69 : decode cX9_sponsor 69 = .ok (.invokevirtual 198, 3) := by decide +kernel
theorem dX9_sponsor_72 : decode cX9_sponsor 72 = .ok (.goto 24, 3) := by decide +kernel
theorem dX9_sponsor_75 : decode cX9_sponsor 75 = .ok (.iload_n 2, 1) := by decide +kernel
theorem dX9_sponsor_76 : decode cX9_sponsor 76 = .ok (.iconst 3, 1) := by decide +kernel
theorem dX9_sponsor_77 : decode cX9_sponsor 77 = .ok (.if_icmp .ne 14, 3) := by decide +kernel
theorem dX9_sponsor_80 : decode cX9_sponsor 80 = .ok (.aload_n 0, 1) := by decide +kernel
theorem dX9_sponsor_81 : decode cX9_sponsor 81 = .ok (.iload_n 1, 1) := by decide +kernel
theorem dX9_sponsor_82 : decode cX9_sponsor 82 = .ok (.iconst (-1), 1) := by decide +kernel
theorem dX9_sponsor_83 : decode cX9_sponsor 83 = .ok (.iconst 1, 1) := by decide +kernel
theorem dX9_sponsor_84 : decode cX9_sponsor 84 = .ok (.iconst 1, 1) := by decide +kernel
theorem dX9_sponsor_85 : decode cX9_sponsor 85 = .ok (.invokevirtual 198, 3) := by decide +kernel
theorem dX9_sponsor_88 : decode cX9_sponsor 88 = .ok (.goto 8, 3) := by decide +kernel
theorem dX9_sponsor_91 : decode cX9_sponsor 91 = .ok (.aload_n 0, 1) := by decide +kernel
theorem dX9_sponsor_92 : decode cX9_sponsor 92 = .ok (.iload_n 1, 1) := by decide +kernel
theorem dX9_sponsor_93 : decode cX9_sponsor 93 = .ok (.invokevirtual 241, 3) := by decide +kernel
theorem dX9_sponsor_96 : decode cX9_sponsor 96 = .ok (.ireturn, 1) := by decide +kernel
theorem dX9_isBanned_0 : decode cX9_isBanned 0 = .ok (.aload_n 0, 1) := by decide +kernel
theorem dX9_isBanned_1 : decode cX9_isBanned 1 = .ok (.iconst 0, 1) := by decide +kernel
theorem dX9_isBanned_2 : decode cX9_isBanned 2 = .ok (.putfield 41, 3) := by decide +kernel
theorem dX9_isBanned_5 : decode cX9_isBanned 5 = .ok (.aload_n 0, 1) := by decide +kernel
theorem dX9_isBanned_6 : decode cX9_isBanned 6 = .ok (.iload_n 1, 1) := by decide +kernel
theorem dX9_isBanned_7 : decode cX9_isBanned 7 = .ok (.iconst 0, 1) := by decide +kernel
theorem dX9_isBanned_8 : decode cX9_isBanned 8 = .ok (.bipush 9, 2) := by decide +kernel
theorem dX9_isBanned_10 : decode cX9_isBanned 10 = .ok (.invokestatic 66, 3) := by decide +kernel
theorem dX9_isBanned_13 : decode cX9_isBanned 13 = .ok (.ifCond .eq 13, 3) := by decide +kernel
theorem dX9_isBanned_16 : decode cX9_isBanned 16 = .ok (.iload_n 2, 1) := by decide +kernel
theorem dX9_isBanned_17 : decode cX9_isBanned 17 = .ok (.iconst 0, 1) := by decide +kernel
theorem dX9_isBanned_18 : decode cX9_isBanned 18 = .ok (.bipush 9, 2) := by decide +kernel
theorem dX9_isBanned_20 : decode cX9_isBanned 20 = .ok (.invokestatic 66, 3) := by decide +kernel
theorem dX9_isBanned_23 : decode cX9_isBanned 23 = .ok (.ifCond .ne 7, 3) := by decide +kernel
theorem dX9_isBanned_26 : decode cX9_isBanned 26 = .ok (.iconst 1, 1) := by decide +kernel
theorem dX9_isBanned_27 : decode cX9_isBanned 27 = .ok (.goto 4, 3) := by decide +kernel
theorem dX9_isBanned_30 : decode cX9_isBanned 30 = .ok (.iconst 0, 1) := by decide +kernel
theorem dX9_isBanned_31 : decode cX9_isBanned 31 = .ok (.iconst 1, 1) := by decide +kernel
theorem dX9_isBanned_32 : decode cX9_isBanned 32 = .ok (.invokevirtual 166, 3) := by decide +kernel
theorem dX9_isBanned_35 : decode cX9_isBanned 35 = .ok (.ifCond .eq 5, 3) := by decide +kernel
theorem dX9_isBanned_38 : decode cX9_isBanned 38 = .ok (.iconst 0, 1) := by decide +kernel
theorem dX9_isBanned_39 : decode cX9_isBanned 39 = .ok (.ireturn, 1) := by decide +kernel
theorem dX9_isBanned_40 : decode cX9_isBanned 40 = .ok (.aload_n 0, 1) := by decide +kernel
theorem dX9_isBanned_41 : decode cX9_isBanned 41 = .ok (.getfield 17, 3) := by decide +kernel
theorem dX9_isBanned_44 : decode cX9_isBanned 44 = .ok (.sipush 623, 3) := by decide +kernel
theorem dX9_isBanned_47 : decode cX9_isBanned 47 = .ok (.bipush 10, 2) := by decide +kernel
theorem dX9_isBanned_49 : decode cX9_isBanned 49 = .ok (.iload_n 1, 1) := by decide +kernel
theorem dX9_isBanned_50 : decode cX9_isBanned 50 = .ok (.imul, 1) := by decide +kernel
theorem dX9_isBanned_51 : decode cX9_isBanned 51 = .ok (.iadd, 1) := by decide +kernel
theorem dX9_isBanned_52 : decode cX9_isBanned 52 = .ok (.iload_n 2, 1) := by decide +kernel
theorem dX9_isBanned_53 : decode cX9_isBanned 53 = .ok (.iadd, 1) := by decide +kernel
theorem dX9_isBanned_54 : decode cX9_isBanned 54 = .ok (.iaload, 1) := by decide +kernel
theorem dX9_isBanned_55 : decode cX9_isBanned 55 = .ok (.iconst 1, 1) := by decide +kernel
theorem dX9_isBanned_56 : decode cX9_isBanned 56 = .ok (.if_icmp .ne 7, 3) := by decide +kernel
theorem dX9_isBanned_59 : decode cX9_isBanned 59 = .ok (.iconst 1, 1) := by decide +kernel
theorem dX9_isBanned_60 : decode cX9_isBanned 60 = .ok (.goto 4, 3) := by decide +kernel
theorem dX9_isBanned_63 : decode cX9_isBanned 63 = .ok (.iconst 0, 1) := by decide +kernel
theorem dX9_isBanned_64 : decode cX9_isBanned 64 = .ok (.ireturn, 1) := by decide +kernel
theorem dX9_spotsOn_0 : decode cX9_spotsOn 0 = .ok (.aload_n 0, 1) := by decide +kernel
theorem dX9_spotsOn_1 : decode cX9_spotsOn 1 = .ok (.iconst 0, 1) := by decide +kernel
theorem dX9_spotsOn_2 : decode cX9_spotsOn 2 = .ok (.putfield 41, 3) := by decide +kernel
theorem dX9_spotsOn_5 : decode cX9_spotsOn 5 = .ok (.aload_n 0, 1) := by decide +kernel
theorem dX9_spotsOn_6 : decode cX9_spotsOn 6 = .ok (.iload_n 1, 1) := by decide +kernel
theorem dX9_spotsOn_7 : decode cX9_spotsOn 7 = .ok (.invokevirtual 232, 3) := by decide +kernel
theorem dX9_spotsOn_10 : decode cX9_spotsOn 10 = .ok (.ifCond .ne 26, 3) := by decide +kernel
theorem dX9_spotsOn_13 : decode cX9_spotsOn 13 = .ok (.aload_n 0, 1) := by decide +kernel
theorem dX9_spotsOn_14 : decode cX9_spotsOn 14 = .ok (.iload_n 2, 1) := by decide +kernel
theorem dX9_spotsOn_15 : decode cX9_spotsOn 15 = .ok (.iconst 0, 1) := by decide +kernel
theorem dX9_spotsOn_16 : decode cX9_spotsOn 16 = .ok (.bipush 6, 2) := by decide +kernel
theorem dX9_spotsOn_18 : decode cX9_spotsOn 18 = .ok (.invokestatic 66, 3) := by decide +kernel
theorem dX9_spotsOn_21 : decode cX9_spotsOn 21 = .ok (.ifCond .ne 7, 3) := by decide +kernel
theorem dX9_spotsOn_24 : decode cX9_spotsOn 24 = .ok (.iconst 1, 1) := by decide +kernel
theorem dX9_spotsOn_25 : decode cX9_spotsOn 25 = .ok (.goto 4, 3) := by decide +kernel
theorem dX9_spotsOn_28 : decode cX9_spotsOn 28 = .ok (.iconst 0, 1) := by decide +kernel
theorem dX9_spotsOn_29 : decode cX9_spotsOn 29 = .ok (.iconst 2, 1) := by decide +kernel
theorem dX9_spotsOn_30 : decode cX9_spotsOn 30 = .ok (.invokevirtual 166, 3) := by decide +kernel
theorem dX9_spotsOn_33 : decode cX9_spotsOn 33 = .ok (.ifCond .eq 7, 3) := by decide +kernel
theorem dX9_spotsOn_36 : decode cX9_spotsOn 36 = .ok (.iconst 0, 1) := by decide +kernel
theorem dX9_spotsOn_37 : decode cX9_spotsOn 37 = .ok (.goto 11, 3) := by decide +kernel
theorem dX9_spotsOn_40 : decode cX9_spotsOn 40 = .ok (.aload_n 0, 1) := by decide +kernel
theorem dX9_spotsOn_41 : decode cX9_spotsOn 41 = .ok (.iload_n 1, 1) := by decide +kernel
theorem dX9_spotsOn_42 : decode cX9_spotsOn 42 = .ok (.iload_n 2, 1) := by decide +kernel
theorem dX9_spotsOn_43 : decode cX9_spotsOn 43 = .ok (.iconst 0, 1) := by decide +kernel
theorem dX9_spotsOn_44 : decode cX9_spotsOn 44 = .ok (.iconst 1, 1) := by decide +kernel
theorem dX9_spotsOn_45 : decode cX9_spotsOn 45 = .ok (.invokevirtual 198, 3) := by decide +kernel
theorem dX9_spotsOn_48 : decode cX9_spotsOn 48 = .ok (.ireturn, 1) := by decide +kernel
theorem dX9_reason_0 : decode cX9_reason 0 = .ok (.aload_n 0, 1) := by decide +kernel
theorem dX9_reason_1 : decode cX9_reason 1 = .ok (.iconst 0, 1) := by decide +kernel
theorem dX9_reason_2 : decode cX9_reason 2 = .ok (.putfield 41, 3) := by decide +kernel
theorem dX9_reason_5 : decode cX9_reason 5 = .ok (.aload_n 0, 1) := by decide +kernel
theorem dX9_reason_6 : decode cX9_reason 6 = .ok (.iload_n 1, 1) := by decide +kernel
theorem dX9_reason_7 : decode cX9_reason 7 = .ok (.iload_n 2, 1) := by decide +kernel
theorem dX9_reason_8 : decode cX9_reason 8 = .ok (.iload_n 3, 1) := by decide +kernel
theorem dX9_reason_9 : decode cX9_reason 9 = .ok (.invokevirtual 244, 3) := by decide +kernel
theorem dX9_reason_12 : decode cX9_reason 12 = .ok (.ifCond .eq 7, 3) := by decide +kernel
theorem dX9_reason_15 : decode cX9_reason 15 = .ok (.iconst 0, 1) := by decide +kernel
theorem dX9_reason_16 : decode cX9_reason 16 = .ok (.goto 10, 3) := by decide +kernel
theorem dX9_reason_19 : decode cX9_reason 19 = .ok (.aload_n 0, 1) := by decide +kernel
theorem dX9_reason_20 : decode cX9_reason 20 = .ok (.iload_n 1, 1) := by decide +kernel
theorem dX9_reason_21 : decode cX9_reason 21 = .ok (.iload_n 2, 1) := by decide +kernel
theorem dX9_reason_22 : decode cX9_reason 22 = .ok (.iload_n 3, 1) := by decide +kernel
theorem dX9_reason_23 : decode cX9_reason 23 = .ok (.invokevirtual 225, 3) := by decide +kernel
theorem dX9_reason_26 : decode cX9_reason 26 = .ok (.ireturn, 1) := by decide +kernel
theorem dX9_price_0 : decode cX9_price 0 = .ok (.aload_n 0, 1) := by decide +kernel
theorem dX9_price_1 : decode cX9_price 1 = .ok (.iconst 0, 1) := by decide +kernel
theorem dX9_price_2 : decode cX9_price 2 = .ok (.putfield 41, 3) := by decide +kernel
theorem dX9_price_5 : decode cX9_price 5 = .ok (.aload_n 0, 1) := by decide +kernel
theorem dX9_price_6 : decode cX9_price 6 = .ok (.iload_n 1, 1) := by decide +kernel
theorem dX9_price_7 : decode cX9_price 7 = .ok (.iload_n 2, 1) := by decide +kernel
theorem dX9_price_8 : decode cX9_price 8 = .ok (.iload_n 3, 1) := by decide +kernel
theorem dX9_price_9 : decode cX9_price 9 = .ok (.invokevirtual 244, 3) := by decide +kernel
theorem dX9_price_12 : decode cX9_price 12 = .ok (.ifCond .eq 7, 3) := by decide +kernel
theorem dX9_price_15 : decode cX9_price 15 = .ok (.iconst 0, 1) := by decide +kernel
theorem dX9_price_16 : decode cX9_price 16 = .ok (.goto 10, 3) := by decide +kernel
theorem dX9_price_19 : decode cX9_price 19 = .ok (.aload_n 0, 1) := by decide +kernel
theorem dX9_price_20 : decode cX9_price 20 = .ok (.iload_n 1, 1) := by decide +kernel
theorem dX9_price_21 : decode cX9_price 21 = .ok (.iload_n 2, 1) := by decide +kernel
theorem dX9_price_22 : decode cX9_price 22 = .ok (.iload_n 3, 1) := by decide +kernel
theorem dX9_price_23 : decode cX9_price 23 = .ok (.invokevirtual 229, 3) := by decide +kernel
theorem dX9_price_26 : decode cX9_price 26 = .ok (.ireturn, 1) := by decide +kernel
theorem dX9_cheapest_0 : decode cX9_cheapest 0 = .ok (.aload_n 0, 1) := by decide +kernel
theorem dX9_cheapest_1 : decode cX9_cheapest 1 = .ok (.iconst 0, 1) := by decide +kernel
theorem dX9_cheapest_2 : decode cX9_cheapest 2 = .ok (.putfield 41, 3) := by decide +kernel
theorem dX9_cheapest_5 : decode cX9_cheapest 5 = .ok (.aload_n 0, 1) := by decide +kernel
theorem dX9_cheapest_6 : decode cX9_cheapest 6 = .ok (.iload_n 1, 1) := by decide +kernel
theorem dX9_cheapest_7 : decode cX9_cheapest 7 = .ok (.invokevirtual 232, 3) := by decide +kernel
theorem dX9_cheapest_10 : decode cX9_cheapest 10 = .ok (.ifCond .ne 11, 3) := by decide +kernel
theorem dX9_cheapest_13 : decode cX9_cheapest 13 = .ok (.aload_n 0, 1) := by decide +kernel
theorem dX9_cheapest_14 : decode cX9_cheapest 14 = .ok (.iload_n 2, 1) := by decide +kernel
theorem dX9_cheapest_15 : decode cX9_cheapest 15 = .ok (.invokevirtual 238, 3) := by decide +kernel
theorem dX9_cheapest_18 : decode cX9_cheapest 18 = .ok (.ifCond .eq 7, 3) := by decide +kernel
theorem dX9_cheapest_21 : decode cX9_cheapest 21 = .ok (.iconst 0, 1) := by decide +kernel
theorem dX9_cheapest_22 : decode cX9_cheapest 22 = .ok (.goto 9, 3) := by decide +kernel
theorem dX9_cheapest_25 : decode cX9_cheapest 25 = .ok (.aload_n 0, 1) := by decide +kernel
theorem dX9_cheapest_26 : decode cX9_cheapest 26 = .ok (.iload_n 1, 1) := by decide +kernel
theorem dX9_cheapest_27 : decode cX9_cheapest 27 = .ok (.iload_n 2, 1) := by decide +kernel
theorem dX9_cheapest_28 : decode cX9_cheapest 28 = .ok (.invokevirtual 247, 3) := by decide +kernel
theorem dX9_cheapest_31 : decode cX9_cheapest 31 = .ok (.ireturn, 1) := by decide +kernel
theorem dX9_widest_0 : decode cX9_widest 0 = .ok (.aload_n 0, 1) := by decide +kernel
theorem dX9_widest_1 : decode cX9_widest 1 = .ok (.iconst 0, 1) := by decide +kernel
theorem dX9_widest_2 : decode cX9_widest 2 = .ok (.putfield 41, 3) := by decide +kernel
theorem dX9_widest_5 : decode cX9_widest 5 = .ok (.aload_n 0, 1) := by decide +kernel
theorem dX9_widest_6 : decode cX9_widest 6 = .ok (.iload_n 1, 1) := by decide +kernel
theorem dX9_widest_7 : decode cX9_widest 7 = .ok (.invokevirtual 232, 3) := by decide +kernel
theorem dX9_widest_10 : decode cX9_widest 10 = .ok (.ifCond .ne 11, 3) := by decide +kernel
theorem dX9_widest_13 : decode cX9_widest 13 = .ok (.aload_n 0, 1) := by decide +kernel
theorem dX9_widest_14 : decode cX9_widest 14 = .ok (.iload_n 2, 1) := by decide +kernel
theorem dX9_widest_15 : decode cX9_widest 15 = .ok (.invokevirtual 238, 3) := by decide +kernel
theorem dX9_widest_18 : decode cX9_widest 18 = .ok (.ifCond .eq 5, 3) := by decide +kernel
theorem dX9_widest_21 : decode cX9_widest 21 = .ok (.iconst 0, 1) := by decide +kernel
theorem dX9_widest_22 : decode cX9_widest 22 = .ok (.ireturn, 1) := by decide +kernel
theorem dX9_widest_23 : decode cX9_widest 23 = .ok (.iconst (-1), 1) := by decide +kernel
theorem dX9_widest_24 : decode cX9_widest 24 = .ok (.istore_n 3, 1) := by decide +kernel
theorem dX9_widest_25 : decode cX9_widest 25 = .ok (.iconst 0, 1) := by decide +kernel
theorem dX9_widest_26 : decode cX9_widest 26 = .ok (.istore 4, 2) := by decide +kernel
theorem dX9_widest_28 : decode cX9_widest 28 = .ok (.iload 4, 2) := by decide +kernel
theorem dX9_widest_30 : decode cX9_widest 30 = .ok (.aload_n 0, 1) := by decide +kernel
theorem dX9_widest_31 : decode cX9_widest 31 = .ok (.getfield 17, 3) := by decide +kernel
theorem dX9_widest_34 : decode cX9_widest 34 = .ok (.iconst 0, 1) := by decide +kernel
theorem dX9_widest_35 : decode cX9_widest 35 = .ok (.iaload, 1) := by decide +kernel
theorem dX9_widest_36 : decode cX9_widest 36 = .ok (.if_icmp .ge 54, 3) := by decide +kernel
theorem dX9_widest_39 : decode cX9_widest 39 = .ok (.aload_n 0, 1) := by decide +kernel
theorem dX9_widest_40 : decode cX9_widest 40 = .ok (.iload_n 1, 1) := by decide +kernel
theorem dX9_widest_41 : decode cX9_widest 41 = .ok (.iload_n 2, 1) := by decide +kernel
theorem dX9_widest_42 : decode cX9_widest 42 = .ok (.iload 4, 2) := by decide +kernel
theorem dX9_widest_44 : decode cX9_widest 44 = .ok (.invokevirtual 225, 3) := by decide +kernel
theorem dX9_widest_47 : decode cX9_widest 47 = .ok (.ifCond .ne 37, 3) := by decide +kernel
theorem dX9_widest_50 : decode cX9_widest 50 = .ok (.iload_n 3, 1) := by decide +kernel
theorem dX9_widest_51 : decode cX9_widest 51 = .ok (.iconst (-1), 1) := by decide +kernel
theorem dX9_widest_52 : decode cX9_widest 52 = .ok (.if_icmp .eq 29, 3) := by decide +kernel
theorem dX9_widest_55 : decode cX9_widest 55 = .ok (.aload_n 0, 1) := by decide +kernel
theorem dX9_widest_56 : decode cX9_widest 56 = .ok (.getfield 17, 3) := by decide +kernel
theorem dX9_widest_59 : decode cX9_widest 59 = .ok (.iload 4, 2) := by decide +kernel
theorem dX9_widest_61 : decode cX9_widest 61 = .ok (.invokestatic 44, 3) := by decide +kernel
theorem dX9_widest_64 : decode cX9_widest 64 = .ok (.iconst 3, 1) := by decide +kernel
theorem dX9_widest_65 : decode cX9_widest 65 = .ok (.iadd, 1) := by decide +kernel
theorem dX9_widest_66 : decode cX9_widest 66 = .ok (.iaload, 1) := by decide +kernel
theorem dX9_widest_67 : decode cX9_widest 67 = .ok (.aload_n 0, 1) := by decide +kernel
theorem dX9_widest_68 : decode cX9_widest 68 = .ok (.getfield 17, 3) := by decide +kernel
theorem dX9_widest_71 : decode cX9_widest 71 = .ok (.iload_n 3, 1) := by decide +kernel
theorem dX9_widest_72 : decode cX9_widest 72 = .ok (.invokestatic 44, 3) := by decide +kernel
theorem dX9_widest_75 : decode cX9_widest 75 = .ok (.iconst 3, 1) := by decide +kernel
theorem dX9_widest_76 : decode cX9_widest 76 = .ok (.iadd, 1) := by decide +kernel
theorem dX9_widest_77 : decode cX9_widest 77 = .ok (.iaload, 1) := by decide +kernel
theorem dX9_widest_78 : decode cX9_widest 78 = .ok (.if_icmp .le 6, 3) := by decide +kernel
theorem dX9_widest_81 : decode cX9_widest 81 = .ok (.iload 4, 2) := by decide +kernel
theorem dX9_widest_83 : decode cX9_widest 83 = .ok (.istore_n 3, 1) := by decide +kernel
theorem dX9_widest_84 : decode cX9_widest 84 = .ok (.iinc 4 1, 3) := by decide +kernel
theorem dX9_widest_87 : decode cX9_widest 87 = .ok (.goto (-59), 3) := by decide +kernel
theorem dX9_widest_90 : decode cX9_widest 90 = .ok (.iload_n 3, 1) := by decide +kernel
theorem dX9_widest_91 : decode cX9_widest 91 = .ok (.ireturn, 1) := by decide +kernel
theorem dX9_income_0 : decode cX9_income 0 = .ok (.aload_n 0, 1) := by decide +kernel
theorem dX9_income_1 : decode cX9_income 1 = .ok (.iconst 0, 1) := by decide +kernel
theorem dX9_income_2 : decode cX9_income 2 = .ok (.putfield 41, 3) := by decide +kernel
theorem dX9_income_5 : decode cX9_income 5 = .ok (.aload_n 0, 1) := by decide +kernel
theorem dX9_income_6 : decode cX9_income 6 = .ok (.getfield 17, 3) := by decide +kernel
theorem dX9_income_9 : decode cX9_income 9 = .ok (.bipush 6, 2) := by decide +kernel
theorem dX9_income_11 : decode cX9_income 11 = .ok (.iaload, 1) := by decide +kernel
theorem dX9_income_12 : decode cX9_income 12 = .ok (.ireturn, 1) := by decide +kernel
theorem dX9_owed_0 : decode cX9_owed 0 = .ok (.aload_n 0, 1) := by decide +kernel
theorem dX9_owed_1 : decode cX9_owed 1 = .ok (.iconst 0, 1) := by decide +kernel
theorem dX9_owed_2 : decode cX9_owed 2 = .ok (.putfield 41, 3) := by decide +kernel
theorem dX9_owed_5 : decode cX9_owed 5 = .ok (.aload_n 0, 1) := by decide +kernel
theorem dX9_owed_6 : decode cX9_owed 6 = .ok (.getfield 17, 3) := by decide +kernel
theorem dX9_owed_9 : decode cX9_owed 9 = .ok (.iconst 5, 1) := by decide +kernel
theorem dX9_owed_10 : decode cX9_owed 10 = .ok (.iaload, 1) := by decide +kernel
theorem dX9_owed_11 : decode cX9_owed 11 = .ok (.ireturn, 1) := by decide +kernel
theorem dX9_owedSpot_0 : decode cX9_owedSpot 0 = .ok (.aload_n 0, 1) := by decide +kernel
theorem dX9_owedSpot_1 : decode cX9_owedSpot 1 = .ok (.iconst 0, 1) := by decide +kernel
theorem dX9_owedSpot_2 : decode cX9_owedSpot 2 = .ok (.putfield 41, 3) := by decide +kernel
theorem dX9_owedSpot_5 : decode cX9_owedSpot 5 = .ok (.aload_n 0, 1) := by decide +kernel
theorem dX9_owedSpot_6 : decode cX9_owedSpot 6 = .ok (.iload_n 1, 1) := by decide +kernel
theorem dX9_owedSpot_7 : decode cX9_owedSpot 7 = .ok (.iconst 0, 1) := by decide +kernel
theorem dX9_owedSpot_8 : decode cX9_owedSpot 8 = .ok (.aload_n 0, 1) := by decide +kernel
theorem dX9_owedSpot_9 : decode cX9_owedSpot 9 = .ok (.getfield 17, 3) := by decide +kernel
theorem dX9_owedSpot_12 : decode cX9_owedSpot 12 = .ok (.iconst 5, 1) := by decide +kernel
theorem dX9_owedSpot_13 : decode cX9_owedSpot 13 = .ok (.iaload, 1) := by decide +kernel
theorem dX9_owedSpot_14 : decode cX9_owedSpot 14 = .ok (.iconst 1, 1) := by decide +kernel
theorem dX9_owedSpot_15 : decode cX9_owedSpot 15 = .ok (.isub, 1) := by decide +kernel
theorem dX9_owedSpot_16 : decode cX9_owedSpot 16 = .ok (.invokestatic 66, 3) := by decide +kernel
theorem dX9_owedSpot_19 : decode cX9_owedSpot 19 = .ok (.ifCond .ne 7, 3) := by decide +kernel
theorem dX9_owedSpot_22 : decode cX9_owedSpot 22 = .ok (.iconst 1, 1) := by decide +kernel
theorem dX9_owedSpot_23 : decode cX9_owedSpot 23 = .ok (.goto 4, 3) := by decide +kernel
theorem dX9_owedSpot_26 : decode cX9_owedSpot 26 = .ok (.iconst 0, 1) := by decide +kernel
theorem dX9_owedSpot_27 : decode cX9_owedSpot 27 = .ok (.iconst 1, 1) := by decide +kernel
theorem dX9_owedSpot_28 : decode cX9_owedSpot 28 = .ok (.invokevirtual 166, 3) := by decide +kernel
theorem dX9_owedSpot_31 : decode cX9_owedSpot 31 = .ok (.ifCond .ne 25, 3) := by decide +kernel
theorem dX9_owedSpot_34 : decode cX9_owedSpot 34 = .ok (.aload_n 0, 1) := by decide +kernel
theorem dX9_owedSpot_35 : decode cX9_owedSpot 35 = .ok (.iload_n 2, 1) := by decide +kernel
theorem dX9_owedSpot_36 : decode cX9_owedSpot 36 = .ok (.iconst 0, 1) := by decide +kernel
theorem dX9_owedSpot_37 : decode cX9_owedSpot 37 = .ok (.iconst 3, 1) := by decide +kernel
theorem dX9_owedSpot_38 : decode cX9_owedSpot 38 = .ok (.invokestatic 66, 3) := by decide +kernel
theorem dX9_owedSpot_41 : decode cX9_owedSpot 41 = .ok (.ifCond .ne 7, 3) := by decide +kernel
theorem dX9_owedSpot_44 : decode cX9_owedSpot 44 = .ok (.iconst 1, 1) := by decide +kernel
theorem dX9_owedSpot_45 : decode cX9_owedSpot 45 = .ok (.goto 4, 3) := by decide +kernel
theorem dX9_owedSpot_48 : decode cX9_owedSpot 48 = .ok (.iconst 0, 1) := by decide +kernel
theorem dX9_owedSpot_49 : decode cX9_owedSpot 49 = .ok (.iconst 2, 1) := by decide +kernel
theorem dX9_owedSpot_50 : decode cX9_owedSpot 50 = .ok (.invokevirtual 166, 3) := by decide +kernel
theorem dX9_owedSpot_53 : decode cX9_owedSpot 53 = .ok (.ifCond .eq 7, 3) := by decide +kernel
theorem dX9_owedSpot_56 : decode cX9_owedSpot 56 = .ok (.iconst 0, 1) := by decide +kernel
theorem dX9_owedSpot_57 : decode cX9_owedSpot 57 = .ok (.goto 17, 3) := by decide +kernel
theorem dX9_owedSpot_60 : decode cX9_owedSpot 60 = .ok (.aload_n 0, 1) := by decide +kernel
theorem dX9_owedSpot_61 : decode cX9_owedSpot 61 = .ok (.getfield 17, 3) := by decide +kernel
theorem dX9_owedSpot_64 : decode cX9_owedSpot 64 = .ok (.sipush 723, 3) := by decide +kernel
theorem dX9_owedSpot_67 : decode cX9_owedSpot 67 = .ok (.iconst 4, 1) := by decide +kernel
theorem dX9_owedSpot_68 : decode cX9_owedSpot 68 = .ok (.iload_n 1, 1) := by decide +kernel
theorem dX9_owedSpot_69 : decode cX9_owedSpot 69 = .ok (.imul, 1) := by decide +kernel
theorem dX9_owedSpot_70 : decode cX9_owedSpot 70 = .ok (.iadd, 1) := by decide +kernel
theorem dX9_owedSpot_71 : decode cX9_owedSpot 71 = .ok (.iload_n 2, 1) := by decide +kernel
theorem dX9_owedSpot_72 : decode cX9_owedSpot 72 = .ok (.iadd, 1) := by decide +kernel
theorem dX9_owedSpot_73 : decode cX9_owedSpot 73 = .ok (.iaload, 1) := by decide +kernel
theorem dX9_owedSpot_74 : decode cX9_owedSpot 74 = .ok (.ireturn, 1) := by decide +kernel
theorem dX9_noSet_0 : decode cX9_noSet 0 = .ok (.aload_n 0, 1) := by decide +kernel
theorem dX9_noSet_1 : decode cX9_noSet 1 = .ok (.iload_n 1, 1) := by decide +kernel
theorem dX9_noSet_2 : decode cX9_noSet 2 = .ok (.iconst 0, 1) := by decide +kernel
theorem dX9_noSet_3 : decode cX9_noSet 3 = .ok (.iconst 1, 1) := by decide +kernel
theorem dX9_noSet_4 : decode cX9_noSet 4 = .ok (.aload_n 0, 1) := by decide +kernel
end
section
theorem dX9_noSet_5 : decode cX9_noSet 5 = .ok (.getfield 17, 3) := by decide +kernel
theorem dX9_noSet_8 : decode cX9_noSet 8 = .ok (.iconst 1, 1) := by decide +kernel
theorem dX9_noSet_9 : decode cX9_noSet 9 = .ok (.iaload, 1) := by decide +kernel
theorem dX9_noSet_10 : decode cX9_noSet 10 = .ok (.ishl, 1) := by decide +kernel
theorem dX9_noSet_11 : decode cX9_noSet 11 = .ok (.iconst 1, 1) := by decide +kernel
theorem dX9_noSet_12 : decode cX9_noSet 12 = .ok (.isub, 1) := by decide +kernel
theorem dX9_noSet_13 : decode cX9_noSet 13 = .ok (.invokestatic 66, 3) := by decide +kernel
theorem dX9_noSet_16 : decode cX9_noSet 16 = .ok (.ifCond .ne 7, 3) := by decide +kernel
theorem dX9_noSet_19 : decode cX9_noSet 19 = .ok (.iconst 1, 1) := by decide +kernel
theorem dX9_noSet_20 : decode cX9_noSet 20 = .ok (.goto 4, 3) := by decide +kernel
theorem dX9_noSet_23 : decode cX9_noSet 23 = .ok (.iconst 0, 1) := by decide +kernel
theorem dX9_noSet_24 : decode cX9_noSet 24 = .ok (.iconst 1, 1) := by decide +kernel
theorem dX9_noSet_25 : decode cX9_noSet 25 = .ok (.invokevirtual 166, 3) := by decide +kernel
theorem dX9_noSet_28 : decode cX9_noSet 28 = .ok (.ireturn, 1) := by decide +kernel
theorem dX9_arrangements_0 : decode cX9_arrangements 0 = .ok (.aload_n 0, 1) := by decide +kernel
theorem dX9_arrangements_1 : decode cX9_arrangements 1 = .ok (.iconst 0, 1) := by decide +kernel
theorem dX9_arrangements_2 : decode cX9_arrangements 2 = .ok (.putfield 41, 3) := by decide +kernel
theorem dX9_arrangements_5 : decode cX9_arrangements 5 = .ok (.aload_n 0, 1) := by decide +kernel
theorem dX9_arrangements_6 : decode cX9_arrangements 6 = .ok (.iload_n 1, 1) := by decide +kernel
theorem dX9_arrangements_7 : decode cX9_arrangements 7 = .ok (.invokevirtual 250, 3) := by decide +kernel
theorem dX9_arrangements_10 : decode cX9_arrangements 10 = .ok (.ifCond .eq 5, 3) := by decide +kernel
theorem dX9_arrangements_13 : decode cX9_arrangements 13 = .ok (.iconst 0, 1) := by decide +kernel
theorem dX9_arrangements_14 : decode cX9_arrangements 14 = .ok (.ireturn, 1) := by decide +kernel
theorem dX9_arrangements_15 : decode cX9_arrangements 15 = .ok (.aload_n 0, 1) := by decide +kernel
theorem dX9_arrangements_16 : decode cX9_arrangements 16 = .ok (.invokevirtual 253, 3) := by decide +kernel
theorem dX9_arrangements_19 : decode cX9_arrangements 19 = .ok (.aload_n 0, 1) := by decide +kernel
theorem dX9_arrangements_20 : decode cX9_arrangements 20 = .ok (.iload_n 1, 1) := by decide +kernel
theorem dX9_arrangements_21 : decode cX9_arrangements 21 = .ok (.invokevirtual 256, 3) := by decide +kernel
theorem dX9_arrangements_24 : decode cX9_arrangements 24 = .ok (.ireturn, 1) := by decide +kernel
theorem dX9_arranged_0 : decode cX9_arranged 0 = .ok (.aload_n 0, 1) := by decide +kernel
theorem dX9_arranged_1 : decode cX9_arranged 1 = .ok (.iconst 0, 1) := by decide +kernel
theorem dX9_arranged_2 : decode cX9_arranged 2 = .ok (.putfield 41, 3) := by decide +kernel
theorem dX9_arranged_5 : decode cX9_arranged 5 = .ok (.iconst 0, 1) := by decide +kernel
theorem dX9_arranged_6 : decode cX9_arranged 6 = .ok (.istore_n 3, 1) := by decide +kernel
theorem dX9_arranged_7 : decode cX9_arranged 7 = .ok (.iconst 0, 1) := by decide +kernel
theorem dX9_arranged_8 : decode cX9_arranged 8 = .ok (.istore 4, 2) := by decide +kernel
theorem dX9_arranged_10 : decode cX9_arranged 10 = .ok (.iload 4, 2) := by decide +kernel
theorem dX9_arranged_12 : decode cX9_arranged 12 = .ok (.bipush 8, 2) := by decide +kernel
theorem dX9_arranged_14 : decode cX9_arranged 14 = .ok (.if_icmp .ge 18, 3) := by decide +kernel
theorem dX9_arranged_17 : decode cX9_arranged 17 = .ok (.iload_n 3, 1) := by decide +kernel
theorem dX9_arranged_18 : decode cX9_arranged 18 = .ok (.iload_n 1, 1) := by decide +kernel
theorem dX9_arranged_19 : decode cX9_arranged 19 = .ok (.iload 4, 2) := by decide +kernel
theorem dX9_arranged_21 : decode cX9_arranged 21 = .ok (.ishr, 1) := by decide +kernel
theorem dX9_arranged_22 : decode cX9_arranged 22 = .ok (.iconst 1, 1) := by decide +kernel
theorem dX9_arranged_23 : decode cX9_arranged 23 = .ok (.iand, 1) := by decide +kernel
theorem dX9_arranged_24 : decode cX9_arranged 24 = .ok (.iadd, 1) := by decide +kernel
theorem dX9_arranged_25 : decode cX9_arranged 25 = .ok (.istore_n 3, 1) := by decide +kernel
theorem dX9_arranged_26 : decode cX9_arranged 26 = .ok (.iinc 4 1, 3) := by decide +kernel
theorem dX9_arranged_29 : decode cX9_arranged 29 = .ok (.goto (-19), 3) := by decide +kernel
theorem dX9_arranged_32 : decode cX9_arranged 32 = .ok (.aload_n 0, 1) := by decide +kernel
theorem dX9_arranged_33 : decode cX9_arranged 33 = .ok (.iload_n 1, 1) := by decide +kernel
theorem dX9_arranged_34 : decode cX9_arranged 34 = .ok (.invokevirtual 250, 3) := by decide +kernel
theorem dX9_arranged_37 : decode cX9_arranged 37 = .ok (.ifCond .ne 27, 3) := by decide +kernel
theorem dX9_arranged_40 : decode cX9_arranged 40 = .ok (.aload_n 0, 1) := by decide +kernel
theorem dX9_arranged_41 : decode cX9_arranged 41 = .ok (.iload_n 2, 1) := by decide +kernel
theorem dX9_arranged_42 : decode cX9_arranged 42 = .ok (.iconst 0, 1) := by decide +kernel
theorem dX9_arranged_43 : decode cX9_arranged 43 = .ok (.iload_n 3, 1) := by decide +kernel
theorem dX9_arranged_44 : decode cX9_arranged 44 = .ok (.iconst 1, 1) := by decide +kernel
theorem dX9_arranged_45 : decode cX9_arranged 45 = .ok (.isub, 1) := by decide +kernel
theorem dX9_arranged_46 : decode cX9_arranged 46 = .ok (.invokestatic 66, 3) := by decide +kernel
theorem dX9_arranged_49 : decode cX9_arranged 49 = .ok (.ifCond .ne 7, 3) := by decide +kernel
theorem dX9_arranged_52 : decode cX9_arranged 52 = .ok (.iconst 1, 1) := by decide +kernel
theorem dX9_arranged_53 : decode cX9_arranged 53 = .ok (.goto 4, 3) := by decide +kernel
theorem dX9_arranged_56 : decode cX9_arranged 56 = .ok (.iconst 0, 1) := by decide +kernel
theorem dX9_arranged_57 : decode cX9_arranged 57 = .ok (.iconst 2, 1) := by decide +kernel
theorem dX9_arranged_58 : decode cX9_arranged 58 = .ok (.invokevirtual 166, 3) := by decide +kernel
theorem dX9_arranged_61 : decode cX9_arranged 61 = .ok (.ifCond .eq 5, 3) := by decide +kernel
theorem dX9_arranged_64 : decode cX9_arranged 64 = .ok (.iconst 0, 1) := by decide +kernel
theorem dX9_arranged_65 : decode cX9_arranged 65 = .ok (.ireturn, 1) := by decide +kernel
theorem dX9_arranged_66 : decode cX9_arranged 66 = .ok (.aload_n 0, 1) := by decide +kernel
theorem dX9_arranged_67 : decode cX9_arranged 67 = .ok (.invokevirtual 253, 3) := by decide +kernel
theorem dX9_arranged_70 : decode cX9_arranged 70 = .ok (.aload_n 0, 1) := by decide +kernel
theorem dX9_arranged_71 : decode cX9_arranged 71 = .ok (.iload_n 1, 1) := by decide +kernel
theorem dX9_arranged_72 : decode cX9_arranged 72 = .ok (.invokevirtual 256, 3) := by decide +kernel
theorem dX9_arranged_75 : decode cX9_arranged 75 = .ok (.ifCond .ne 5, 3) := by decide +kernel
theorem dX9_arranged_78 : decode cX9_arranged 78 = .ok (.iconst (-1), 1) := by decide +kernel
theorem dX9_arranged_79 : decode cX9_arranged 79 = .ok (.ireturn, 1) := by decide +kernel
theorem dX9_arranged_80 : decode cX9_arranged 80 = .ok (.aload_n 0, 1) := by decide +kernel
theorem dX9_arranged_81 : decode cX9_arranged 81 = .ok (.iload_n 1, 1) := by decide +kernel
theorem dX9_arranged_82 : decode cX9_arranged 82 = .ok (.invokevirtual 259, 3) := by decide +kernel
theorem dX9_arranged_85 : decode cX9_arranged 85 = .ok (.aload_n 0, 1) := by decide +kernel
theorem dX9_arranged_86 : decode cX9_arranged 86 = .ok (.getfield 35, 3) := by decide +kernel
theorem dX9_arranged_89 : decode cX9_arranged 89 = .ok (.iload_n 2, 1) := by decide +kernel
theorem dX9_arranged_90 : decode cX9_arranged 90 = .ok (.iaload, 1) := by decide +kernel
theorem dX9_arranged_91 : decode cX9_arranged 91 = .ok (.ireturn, 1) := by decide +kernel
theorem dX9_remember_0 : decode cX9_remember 0 = .ok (.aload_n 0, 1) := by decide +kernel
theorem dX9_remember_1 : decode cX9_remember 1 = .ok (.getfield 262, 3) := by decide +kernel
theorem dX9_remember_4 : decode cX9_remember 4 = .ok (.bipush 8, 2) := by decide +kernel
theorem dX9_remember_6 : decode cX9_remember 6 = .ok (.if_icmp .ne 44, 3) := by decide +kernel
theorem dX9_remember_9 : decode cX9_remember 9 = .ok (.iconst 1, 1) := by decide +kernel
theorem dX9_remember_10 : decode cX9_remember 10 = .ok (.istore_n 1, 1) := by decide +kernel
theorem dX9_remember_11 : decode cX9_remember 11 = .ok (.iload_n 1, 1) := by decide +kernel
theorem dX9_remember_12 : decode cX9_remember 12 = .ok (.bipush 8, 2) := by decide +kernel
theorem dX9_remember_14 : decode cX9_remember 14 = .ok (.if_icmp .ge 26, 3) := by decide +kernel
theorem dX9_remember_17 : decode cX9_remember 17 = .ok (.aload_n 0, 1) := by decide +kernel
theorem dX9_remember_18 : decode cX9_remember 18 = .ok (.getfield 25, 3) := by decide +kernel
theorem dX9_remember_21 : decode cX9_remember 21 = .ok (.iload_n 1, 1) := by decide +kernel
theorem dX9_remember_22 : decode cX9_remember 22 = .ok (.aaload, 1) := by decide +kernel
theorem dX9_remember_23 : decode cX9_remember 23 = .ok (.aload_n 0, 1) := by decide +kernel
theorem dX9_remember_24 : decode cX9_remember 24 = .ok (.getfield 25, 3) := by decide +kernel
theorem dX9_remember_27 : decode cX9_remember 27 = .ok (.iload_n 1, 1) := by decide +kernel
theorem dX9_remember_28 : decode cX9_remember 28 = .ok (.iconst 1, 1) := by decide +kernel
theorem dX9_remember_29 : decode cX9_remember 29 = .ok (.isub, 1) := by decide +kernel
theorem dX9_remember_30 : decode cX9_remember 30 = .ok (.aaload, 1) := by decide +kernel
theorem dX9_remember_31 : decode cX9_remember 31 = .ok (.invokestatic 181, 3) := by decide +kernel
theorem dX9_remember_34 : decode cX9_remember 34 = .ok (.iinc 1 1, 3) := by decide +kernel
theorem dX9_remember_37 : decode cX9_remember 37 = .ok (.goto (-26), 3) := by decide +kernel
theorem dX9_remember_40 : decode cX9_remember 40 = .ok (.aload_n 0, 1) := by decide +kernel
theorem dX9_remember_41 : decode cX9_remember 41 = .ok (.dup, 1) := by decide +kernel
theorem dX9_remember_42 : decode cX9_remember 42 = .ok (.getfield 262, 3) := by decide +kernel
theorem dX9_remember_45 : decode cX9_remember 45 = .ok (.iconst 1, 1) := by decide +kernel
theorem dX9_remember_46 : decode cX9_remember 46 = .ok (.isub, 1) := by decide +kernel
theorem dX9_remember_47 : decode cX9_remember 47 = .ok (.putfield 262, 3) := by decide +kernel
theorem dX9_remember_50 : decode cX9_remember 50 = .ok (.aload_n 0, 1) := by decide +kernel
theorem dX9_remember_51 : decode cX9_remember 51 = .ok (.getfield 17, 3) := by decide +kernel
theorem dX9_remember_54 : decode cX9_remember 54 = .ok (.aload_n 0, 1) := by decide +kernel
theorem dX9_remember_55 : decode cX9_remember 55 = .ok (.getfield 25, 3) := by decide +kernel
theorem dX9_remember_58 : decode cX9_remember 58 = .ok (.aload_n 0, 1) := by decide +kernel
theorem dX9_remember_59 : decode cX9_remember 59 = .ok (.getfield 262, 3) := by decide +kernel
theorem dX9_remember_62 : decode cX9_remember 62 = .ok (.aaload, 1) := by decide +kernel
theorem dX9_remember_63 : decode cX9_remember 63 = .ok (.invokestatic 181, 3) := by decide +kernel
theorem dX9_remember_66 : decode cX9_remember 66 = .ok (.aload_n 0, 1) := by decide +kernel
theorem dX9_remember_67 : decode cX9_remember 67 = .ok (.dup, 1) := by decide +kernel
theorem dX9_remember_68 : decode cX9_remember 68 = .ok (.getfield 262, 3) := by decide +kernel
theorem dX9_remember_71 : decode cX9_remember 71 = .ok (.iconst 1, 1) := by decide +kernel
theorem dX9_remember_72 : decode cX9_remember 72 = .ok (.iadd, 1) := by decide +kernel
theorem dX9_remember_73 : decode cX9_remember 73 = .ok (.putfield 262, 3) := by decide +kernel
theorem dX9_remember_76 : decode cX9_remember 76 = .ok (.return_, 1) := by decide +kernel
theorem dX9_books_0 : decode cX9_books 0 = .ok (.aload_n 0, 1) := by decide +kernel
theorem dX9_books_1 : decode cX9_books 1 = .ok (.iload_n 1, 1) := by decide +kernel
theorem dX9_books_2 : decode cX9_books 2 = .ok (.iload_n 3, 1) := by decide +kernel
theorem dX9_books_3 : decode cX9_books 3 = .ok (.invokevirtual 205, 3) := by decide +kernel
theorem dX9_books_6 : decode cX9_books 6 = .ok (.istore 4, 2) := by decide +kernel
theorem dX9_books_8 : decode cX9_books 8 = .ok (.aload_n 0, 1) := by decide +kernel
theorem dX9_books_9 : decode cX9_books 9 = .ok (.iload_n 1, 1) := by decide +kernel
theorem dX9_books_10 : decode cX9_books 10 = .ok (.iload_n 2, 1) := by decide +kernel
theorem dX9_books_11 : decode cX9_books 11 = .ok (.iload_n 3, 1) := by decide +kernel
theorem dX9_books_12 : decode cX9_books 12 = .ok (.invokevirtual 229, 3) := by decide +kernel
theorem dX9_books_15 : decode cX9_books 15 = .ok (.istore 5, 2) := by decide +kernel
theorem dX9_books_17 : decode cX9_books 17 = .ok (.aload_n 0, 1) := by decide +kernel
theorem dX9_books_18 : decode cX9_books 18 = .ok (.iload_n 3, 1) := by decide +kernel
theorem dX9_books_19 : decode cX9_books 19 = .ok (.iload 4, 2) := by decide +kernel
theorem dX9_books_21 : decode cX9_books 21 = .ok (.iload_n 1, 1) := by decide +kernel
theorem dX9_books_22 : decode cX9_books 22 = .ok (.iload_n 2, 1) := by decide +kernel
theorem dX9_books_23 : decode cX9_books 23 = .ok (.iload 5, 2) := by decide +kernel
theorem dX9_books_25 : decode cX9_books 25 = .ok (.invokevirtual 265, 3) := by decide +kernel
theorem dX9_books_28 : decode cX9_books 28 = .ok (.aload_n 0, 1) := by decide +kernel
theorem dX9_books_29 : decode cX9_books 29 = .ok (.getfield 17, 3) := by decide +kernel
theorem dX9_books_32 : decode cX9_books 32 = .ok (.bipush 6, 2) := by decide +kernel
theorem dX9_books_34 : decode cX9_books 34 = .ok (.dup2, 1) := by decide +kernel
theorem dX9_books_35 : decode cX9_books 35 = .ok (.iaload, 1) := by decide +kernel
theorem dX9_books_36 : decode cX9_books 36 = .ok (.iload 5, 2) := by decide +kernel
theorem dX9_books_38 : decode cX9_books 38 = .ok (.iadd, 1) := by decide +kernel
theorem dX9_books_39 : decode cX9_books 39 = .ok (.iastore, 1) := by decide +kernel
theorem dX9_books_40 : decode cX9_books 40 = .ok (.iload 4, 2) := by decide +kernel
theorem dX9_books_42 : decode cX9_books 42 = .ok (.ireturn, 1) := by decide +kernel
theorem dX9_book_0 : decode cX9_book 0 = .ok (.aload_n 0, 1) := by decide +kernel
theorem dX9_book_1 : decode cX9_book 1 = .ok (.iconst 0, 1) := by decide +kernel
theorem dX9_book_2 : decode cX9_book 2 = .ok (.putfield 41, 3) := by decide +kernel
theorem dX9_book_5 : decode cX9_book 5 = .ok (.aload_n 0, 1) := by decide +kernel
theorem dX9_book_6 : decode cX9_book 6 = .ok (.iload_n 1, 1) := by decide +kernel
theorem dX9_book_7 : decode cX9_book 7 = .ok (.iload_n 2, 1) := by decide +kernel
theorem dX9_book_8 : decode cX9_book 8 = .ok (.iload_n 3, 1) := by decide +kernel
theorem dX9_book_9 : decode cX9_book 9 = .ok (.invokevirtual 244, 3) := by decide +kernel
theorem dX9_book_12 : decode cX9_book 12 = .ok (.ifCond .eq 5, 3) := by decide +kernel
theorem dX9_book_15 : decode cX9_book 15 = .ok (.iconst 0, 1) := by decide +kernel
theorem dX9_book_16 : decode cX9_book 16 = .ok (.ireturn, 1) := by decide +kernel
theorem dX9_book_17 : decode cX9_book 17 = .ok (.aload_n 0, 1) := by decide +kernel
theorem dX9_book_18 : decode cX9_book 18 = .ok (.invokevirtual 178, 3) := by decide +kernel
theorem dX9_book_21 : decode cX9_book 21 = .ok (.aload_n 0, 1) := by decide +kernel
theorem dX9_book_22 : decode cX9_book 22 = .ok (.iload_n 1, 1) := by decide +kernel
theorem dX9_book_23 : decode cX9_book 23 = .ok (.iload_n 2, 1) := by decide +kernel
theorem dX9_book_24 : decode cX9_book 24 = .ok (.iload_n 3, 1) := by decide +kernel
theorem dX9_book_25 : decode cX9_book 25 = .ok (.invokevirtual 225, 3) := by decide +kernel
theorem dX9_book_28 : decode cX9_book 28 = .ok (.istore 4, 2) := by decide +kernel
theorem dX9_book_30 : decode cX9_book 30 = .ok (.iload 4, 2) := by decide +kernel
theorem dX9_book_32 : decode cX9_book 32 = .ok (.ifCond .le 9, 3) := by decide +kernel
theorem dX9_book_35 : decode cX9_book 35 = .ok (.iload 4, 2) := by decide +kernel
theorem dX9_book_37 : decode cX9_book 37 = .ok (.ineg, 1) := by decide +kernel
theorem dX9_book_38 : decode cX9_book 38 = .ok (.goto 10, 3) := by decide +kernel
theorem dX9_book_41 : decode cX9_book 41 = .ok (.aload_n 0, 1) := by decide +kernel
theorem dX9_book_42 : decode cX9_book 42 = .ok (.iload_n 1, 1) := by decide +kernel
theorem dX9_book_43 : decode cX9_book 43 = .ok (.iload_n 2, 1) := by decide +kernel
theorem dX9_book_44 : decode cX9_book 44 = .ok (.iload_n 3, 1) := by decide +kernel
theorem dX9_book_45 : decode cX9_book 45 = .ok (.invokevirtual 269, 3) := by decide +kernel
theorem dX9_book_48 : decode cX9_book 48 = .ok (.ireturn, 1) := by decide +kernel
theorem dX9_setOf_0 : decode cX9_setOf 0 = .ok (.iconst 0, 1) := by decide +kernel
theorem dX9_setOf_1 : decode cX9_setOf 1 = .ok (.istore_n 2, 1) := by decide +kernel
theorem dX9_setOf_2 : decode cX9_setOf 2 = .ok (.iconst 0, 1) := by decide +kernel
theorem dX9_setOf_3 : decode cX9_setOf 3 = .ok (.istore_n 3, 1) := by decide +kernel
theorem dX9_setOf_4 : decode cX9_setOf 4 = .ok (.iload_n 3, 1) := by decide +kernel
theorem dX9_setOf_5 : decode cX9_setOf 5 = .ok (.aload_n 0, 1) := by decide +kernel
theorem dX9_setOf_6 : decode cX9_setOf 6 = .ok (.iload_n 1, 1) := by decide +kernel
theorem dX9_setOf_7 : decode cX9_setOf 7 = .ok (.invokevirtual 185, 3) := by decide +kernel
theorem dX9_setOf_10 : decode cX9_setOf 10 = .ok (.if_icmp .ge 24, 3) := by decide +kernel
theorem dX9_setOf_13 : decode cX9_setOf 13 = .ok (.iload_n 2, 1) := by decide +kernel
theorem dX9_setOf_14 : decode cX9_setOf 14 = .ok (.iconst 1, 1) := by decide +kernel
theorem dX9_setOf_15 : decode cX9_setOf 15 = .ok (.aload_n 0, 1) := by decide +kernel
theorem dX9_setOf_16 : decode cX9_setOf 16 = .ok (.getfield 17, 3) := by decide +kernel
theorem dX9_setOf_19 : decode cX9_setOf 19 = .ok (.iload_n 1, 1) := by decide +kernel
theorem dX9_setOf_20 : decode cX9_setOf 20 = .ok (.iload_n 3, 1) := by decide +kernel
theorem dX9_setOf_21 : decode cX9_setOf 21 = .ok (.invokestatic 188, 3) := by decide +kernel
theorem dX9_setOf_24 : decode cX9_setOf 24 = .ok (.iaload, 1) := by decide +kernel
theorem dX9_setOf_25 : decode cX9_setOf 25 = .ok (.ishl, 1) := by decide +kernel
theorem dX9_setOf_26 : decode cX9_setOf 26 = .ok (.ior, 1) := by decide +kernel
theorem dX9_setOf_27 : decode cX9_setOf 27 = .ok (.istore_n 2, 1) := by decide +kernel
theorem dX9_setOf_28 : decode cX9_setOf 28 = .ok (.iinc 3 1, 3) := by decide +kernel
theorem dX9_setOf_31 : decode cX9_setOf 31 = .ok (.goto (-27), 3) := by decide +kernel
theorem dX9_setOf_34 : decode cX9_setOf 34 = .ok (.iload_n 2, 1) := by decide +kernel
theorem dX9_setOf_35 : decode cX9_setOf 35 = .ok (.ireturn, 1) := by decide +kernel
theorem dX9_reorder_0 : decode cX9_reorder 0 = .ok (.aload_n 0, 1) := by decide +kernel
theorem dX9_reorder_1 : decode cX9_reorder 1 = .ok (.iload_n 1, 1) := by decide +kernel
theorem dX9_reorder_2 : decode cX9_reorder 2 = .ok (.invokevirtual 185, 3) := by decide +kernel
theorem dX9_reorder_5 : decode cX9_reorder 5 = .ok (.istore_n 3, 1) := by decide +kernel
theorem dX9_reorder_6 : decode cX9_reorder 6 = .ok (.iconst (-1), 1) := by decide +kernel
theorem dX9_reorder_7 : decode cX9_reorder 7 = .ok (.istore 4, 2) := by decide +kernel
theorem dX9_reorder_9 : decode cX9_reorder 9 = .ok (.iconst 0, 1) := by decide +kernel
theorem dX9_reorder_10 : decode cX9_reorder 10 = .ok (.istore 5, 2) := by decide +kernel
theorem dX9_reorder_12 : decode cX9_reorder 12 = .ok (.iload 5, 2) := by decide +kernel
theorem dX9_reorder_14 : decode cX9_reorder 14 = .ok (.iload_n 3, 1) := by decide +kernel
theorem dX9_reorder_15 : decode cX9_reorder 15 = .ok (.if_icmp .ge 100, 3) := by decide +kernel
theorem dX9_reorder_18 : decode cX9_reorder 18 = .ok (.iconst 0, 1) := by decide +kernel
theorem dX9_reorder_19 : decode cX9_reorder 19 = .ok (.istore 6, 2) := by decide +kernel
theorem dX9_reorder_21 : decode cX9_reorder 21 = .ok (.aload_n 0, 1) := by decide +kernel
theorem dX9_reorder_22 : decode cX9_reorder 22 = .ok (.getfield 17, 3) := by decide +kernel
theorem dX9_reorder_25 : decode cX9_reorder 25 = .ok (.iload_n 1, 1) := by decide +kernel
theorem dX9_reorder_26 : decode cX9_reorder 26 = .ok (.iload 6, 2) := by decide +kernel
theorem dX9_reorder_28 : decode cX9_reorder 28 = .ok (.invokestatic 188, 3) := by decide +kernel
theorem dX9_reorder_31 : decode cX9_reorder 31 = .ok (.iaload, 1) := by decide +kernel
theorem dX9_reorder_32 : decode cX9_reorder 32 = .ok (.aload_n 0, 1) := by decide +kernel
theorem dX9_reorder_33 : decode cX9_reorder 33 = .ok (.getfield 35, 3) := by decide +kernel
theorem dX9_reorder_36 : decode cX9_reorder 36 = .ok (.iload 5, 2) := by decide +kernel
theorem dX9_reorder_38 : decode cX9_reorder 38 = .ok (.iaload, 1) := by decide +kernel
theorem dX9_reorder_39 : decode cX9_reorder 39 = .ok (.if_icmp .eq 9, 3) := by decide +kernel
theorem dX9_reorder_42 : decode cX9_reorder 42 = .ok (.iinc 6 1, 3) := by decide +kernel
theorem dX9_reorder_45 : decode cX9_reorder 45 = .ok (.goto (-24), 3) := by decide +kernel
theorem dX9_reorder_48 : decode cX9_reorder 48 = .ok (.iconst 0, 1) := by decide +kernel
theorem dX9_reorder_49 : decode cX9_reorder 49 = .ok (.istore 7, 2) := by decide +kernel
theorem dX9_reorder_51 : decode cX9_reorder 51 = .ok (.iload 7, 2) := by decide +kernel
theorem dX9_reorder_53 : decode cX9_reorder 53 = .ok (.iconst 3, 1) := by decide +kernel
theorem dX9_reorder_54 : decode cX9_reorder 54 = .ok (.if_icmp .ge 35, 3) := by decide +kernel
theorem dX9_reorder_57 : decode cX9_reorder 57 = .ok (.aload_n 0, 1) := by decide +kernel
theorem dX9_reorder_58 : decode cX9_reorder 58 = .ok (.getfield 38, 3) := by decide +kernel
theorem dX9_reorder_61 : decode cX9_reorder 61 = .ok (.iconst 3, 1) := by decide +kernel
theorem dX9_reorder_62 : decode cX9_reorder 62 = .ok (.iload 5, 2) := by decide +kernel
theorem dX9_reorder_64 : decode cX9_reorder 64 = .ok (.imul, 1) := by decide +kernel
theorem dX9_reorder_65 : decode cX9_reorder 65 = .ok (.iload 7, 2) := by decide +kernel
theorem dX9_reorder_67 : decode cX9_reorder 67 = .ok (.iadd, 1) := by decide +kernel
theorem dX9_reorder_68 : decode cX9_reorder 68 = .ok (.aload_n 0, 1) := by decide +kernel
theorem dX9_reorder_69 : decode cX9_reorder 69 = .ok (.getfield 17, 3) := by decide +kernel
theorem dX9_reorder_72 : decode cX9_reorder 72 = .ok (.iload_n 1, 1) := by decide +kernel
theorem dX9_reorder_73 : decode cX9_reorder 73 = .ok (.iload 6, 2) := by decide +kernel
theorem dX9_reorder_75 : decode cX9_reorder 75 = .ok (.invokestatic 188, 3) := by decide +kernel
theorem dX9_reorder_78 : decode cX9_reorder 78 = .ok (.iload 7, 2) := by decide +kernel
theorem dX9_reorder_80 : decode cX9_reorder 80 = .ok (.iadd, 1) := by decide +kernel
theorem dX9_reorder_81 : decode cX9_reorder 81 = .ok (.iaload, 1) := by decide +kernel
theorem dX9_reorder_82 : decode cX9_reorder 82 = .ok (.iastore, 1) := by decide +kernel
theorem dX9_reorder_83 : decode cX9_reorder 83 = .ok (.iinc 7 1, 3) := by decide +kernel
theorem dX9_reorder_86 : decode cX9_reorder 86 = .ok (.goto (-35), 3) := by decide +kernel
theorem dX9_reorder_89 : decode cX9_reorder 89 = .ok (.aload_n 0, 1) := by decide +kernel
theorem dX9_reorder_90 : decode cX9_reorder 90 = .ok (.getfield 35, 3) := by decide +kernel
theorem dX9_reorder_93 : decode cX9_reorder 93 = .ok (.iload 5, 2) := by decide +kernel
theorem dX9_reorder_95 : decode cX9_reorder 95 = .ok (.iaload, 1) := by decide +kernel
theorem dX9_reorder_96 : decode cX9_reorder 96 = .ok (.iload_n 2, 1) := by decide +kernel
theorem dX9_reorder_97 : decode cX9_reorder 97 = .ok (.if_icmp .ne 8, 3) := by decide +kernel
theorem dX9_reorder_100 : decode cX9_reorder 100 = .ok (.iload 5, 2) := by decide +kernel
theorem dX9_reorder_102 : decode cX9_reorder 102 = .ok (.goto 5, 3) := by decide +kernel
theorem dX9_reorder_105 : decode cX9_reorder 105 = .ok (.iload 4, 2) := by decide +kernel
theorem dX9_reorder_107 : decode cX9_reorder 107 = .ok (.istore 4, 2) := by decide +kernel
theorem dX9_reorder_109 : decode cX9_reorder 109 = .ok (.iinc 5 1, 3) := by decide +kernel
theorem dX9_reorder_112 : decode cX9_reorder 112 = .ok (.goto (-100), 3) := by decide +kernel
theorem dX9_reorder_115 : decode cX9_reorder 115 = .ok (.iconst 0, 1) := by decide +kernel
theorem dX9_reorder_116 : decode cX9_reorder 116 = .ok (.istore 5, 2) := by decide +kernel
theorem dX9_reorder_118 : decode cX9_reorder 118 = .ok (.iload 5, 2) := by decide +kernel
theorem dX9_reorder_120 : decode cX9_reorder 120 = .ok (.iconst 3, 1) := by decide +kernel
theorem dX9_reorder_121 : decode cX9_reorder 121 = .ok (.iload_n 3, 1) := by decide +kernel
theorem dX9_reorder_122 : decode cX9_reorder 122 = .ok (.imul, 1) := by decide +kernel
theorem dX9_reorder_123 : decode cX9_reorder 123 = .ok (.if_icmp .ge 29, 3) := by decide +kernel
theorem dX9_reorder_126 : decode cX9_reorder 126 = .ok (.aload_n 0, 1) := by decide +kernel
theorem dX9_reorder_127 : decode cX9_reorder 127 = .ok (.getfield 17, 3) := by decide +kernel
theorem dX9_reorder_130 : decode cX9_reorder 130 = .ok (.iload_n 1, 1) := by decide +kernel
theorem dX9_reorder_131 : decode cX9_reorder 131 = .ok (.iconst 0, 1) := by decide +kernel
theorem dX9_reorder_132 : decode cX9_reorder 132 = .ok (.invokestatic 188, 3) := by decide +kernel
theorem dX9_reorder_135 : decode cX9_reorder 135 = .ok (.iload 5, 2) := by decide +kernel
theorem dX9_reorder_137 : decode cX9_reorder 137 = .ok (.iadd, 1) := by decide +kernel
theorem dX9_reorder_138 : decode cX9_reorder 138 = .ok (.aload_n 0, 1) := by decide +kernel
theorem dX9_reorder_139 : decode cX9_reorder 139 = .ok (.getfield 38, 3) := by decide +kernel
theorem dX9_reorder_142 : decode cX9_reorder 142 = .ok (.iload 5, 2) := by decide +kernel
theorem dX9_reorder_144 : decode cX9_reorder 144 = .ok (.iaload, 1) := by decide +kernel
theorem dX9_reorder_145 : decode cX9_reorder 145 = .ok (.iastore, 1) := by decide +kernel
theorem dX9_reorder_146 : decode cX9_reorder 146 = .ok (.iinc 5 1, 3) := by decide +kernel
theorem dX9_reorder_149 : decode cX9_reorder 149 = .ok (.goto (-31), 3) := by decide +kernel
theorem dX9_reorder_152 : decode cX9_reorder 152 = .ok (.iload 4, 2) := by decide +kernel
theorem dX9_reorder_154 : decode cX9_reorder 154 = .ok (.ireturn, 1) := by decide +kernel
theorem dX9_bookAnyhow_0 : decode cX9_bookAnyhow 0 = .ok (.aload_n 0, 1) := by decide +kernel
theorem dX9_bookAnyhow_1 : decode cX9_bookAnyhow 1 = .ok (.iconst 0, 1) := by decide +kernel
theorem dX9_bookAnyhow_2 : decode cX9_bookAnyhow 2 = .ok (.putfield 41, 3) := by decide +kernel
theorem dX9_bookAnyhow_5 : decode cX9_bookAnyhow 5 = .ok (.aload_n 0, 1) := by decide +kernel
theorem dX9_bookAnyhow_6 : decode cX9_bookAnyhow 6 = .ok (.iload_n 1, 1) := by decide +kernel
theorem dX9_bookAnyhow_7 : decode cX9_bookAnyhow 7 = .ok (.iload_n 2, 1) := by decide +kernel
theorem dX9_bookAnyhow_8 : decode cX9_bookAnyhow 8 = .ok (.iload_n 3, 1) := by decide +kernel
theorem dX9_bookAnyhow_9 : decode cX9_bookAnyhow 9 = .ok (.invokevirtual 244, 3) := by decide +kernel
theorem dX9_bookAnyhow_12 : decode cX9_bookAnyhow 12 = .ok (.ifCond .eq 5, 3) := by decide +kernel
theorem dX9_bookAnyhow_15 : decode cX9_bookAnyhow 15 = .ok (.iconst 0, 1) := by decide +kernel
theorem dX9_bookAnyhow_16 : decode cX9_bookAnyhow 16 = .ok (.ireturn, 1) := by decide +kernel
theorem dX9_bookAnyhow_17 : decode cX9_bookAnyhow 17 = .ok (.aload_n 0, 1) := by decide +kernel
theorem dX9_bookAnyhow_18 : decode cX9_bookAnyhow 18 = .ok (.invokevirtual 178, 3) := by decide +kernel
theorem dX9_bookAnyhow_21 : decode cX9_bookAnyhow 21 = .ok (.aload_n 0, 1) := by decide +kernel
theorem dX9_bookAnyhow_22 : decode cX9_bookAnyhow 22 = .ok (.iload_n 1, 1) := by decide +kernel
theorem dX9_bookAnyhow_23 : decode cX9_bookAnyhow 23 = .ok (.iload_n 2, 1) := by decide +kernel
theorem dX9_bookAnyhow_24 : decode cX9_bookAnyhow 24 = .ok (.iload_n 3, 1) := by decide +kernel
theorem dX9_bookAnyhow_25 : decode cX9_bookAnyhow 25 = .ok (.invokevirtual 225, 3) := by decide +kernel
theorem dX9_bookAnyhow_28 : decode cX9_bookAnyhow 28 = .ok (.istore 4, 2) := by decide +kernel
theorem dX9_bookAnyhow_30 : decode cX9_bookAnyhow 30 = .ok (.iload 4, 2) := by decide +kernel
theorem dX9_bookAnyhow_32 : decode cX9_bookAnyhow 32 = .ok (.ifCond .ne 11, 3) := by decide +kernel
theorem dX9_bookAnyhow_35 : decode cX9_bookAnyhow 35 = .ok (.aload_n 0, 1) := by decide +kernel
theorem dX9_bookAnyhow_36 : decode cX9_bookAnyhow 36 = .ok (.iload_n 1, 1) := by decide +kernel
theorem dX9_bookAnyhow_37 : decode cX9_bookAnyhow 37 = .ok (.iload_n 2, 1) := by decide +kernel
theorem dX9_bookAnyhow_38 : decode cX9_bookAnyhow 38 = .ok (.iload_n 3, 1) := by decide +kernel
theorem dX9_bookAnyhow_39 : decode cX9_bookAnyhow 39 = .ok (.invokevirtual 269, 3) := by decide +kernel
theorem dX9_bookAnyhow_42 : decode cX9_bookAnyhow 42 = .ok (.ireturn, 1) := by decide +kernel
theorem dX9_bookAnyhow_43 : decode cX9_bookAnyhow 43 = .ok (.aload_n 0, 1) := by decide +kernel
theorem dX9_bookAnyhow_44 : decode cX9_bookAnyhow 44 = .ok (.invokevirtual 253, 3) := by decide +kernel
theorem dX9_bookAnyhow_47 : decode cX9_bookAnyhow 47 = .ok (.aload_n 0, 1) := by decide +kernel
theorem dX9_bookAnyhow_48 : decode cX9_bookAnyhow 48 = .ok (.iload_n 3, 1) := by decide +kernel
theorem dX9_bookAnyhow_49 : decode cX9_bookAnyhow 49 = .ok (.invokevirtual 272, 3) := by decide +kernel
theorem dX9_bookAnyhow_52 : decode cX9_bookAnyhow 52 = .ok (.iconst 1, 1) := by decide +kernel
theorem dX9_bookAnyhow_53 : decode cX9_bookAnyhow 53 = .ok (.iload_n 1, 1) := by decide +kernel
theorem dX9_bookAnyhow_54 : decode cX9_bookAnyhow 54 = .ok (.ishl, 1) := by decide +kernel
theorem dX9_bookAnyhow_55 : decode cX9_bookAnyhow 55 = .ok (.ior, 1) := by decide +kernel
theorem dX9_bookAnyhow_56 : decode cX9_bookAnyhow 56 = .ok (.istore 5, 2) := by decide +kernel
theorem dX9_bookAnyhow_58 : decode cX9_bookAnyhow 58 = .ok (.iload 4, 2) := by decide +kernel
theorem dX9_bookAnyhow_60 : decode cX9_bookAnyhow 60 = .ok (.iconst 5, 1) := by decide +kernel
theorem dX9_bookAnyhow_61 : decode cX9_bookAnyhow 61 = .ok (.if_icmp .ne 12, 3) := by decide +kernel
theorem dX9_bookAnyhow_64 : decode cX9_bookAnyhow 64 = .ok (.aload_n 0, 1) := by decide +kernel
theorem dX9_bookAnyhow_65 : decode cX9_bookAnyhow 65 = .ok (.iload 5, 2) := by decide +kernel
theorem dX9_bookAnyhow_67 : decode cX9_bookAnyhow 67 = .ok (.invokevirtual 256, 3) := by decide +kernel
theorem dX9_bookAnyhow_70 : decode cX9_bookAnyhow 70 = .ok (.ifCond .ne 7, 3) := by decide +kernel
theorem dX9_bookAnyhow_73 : decode cX9_bookAnyhow 73 = .ok (.iload 4, 2) := by decide +kernel
theorem dX9_bookAnyhow_75 : decode cX9_bookAnyhow 75 = .ok (.ineg, 1) := by decide +kernel
theorem dX9_bookAnyhow_76 : decode cX9_bookAnyhow 76 = .ok (.ireturn, 1) := by decide +kernel
theorem dX9_bookAnyhow_77 : decode cX9_bookAnyhow 77 = .ok (.aload_n 0, 1) := by decide +kernel
theorem dX9_bookAnyhow_78 : decode cX9_bookAnyhow 78 = .ok (.iload_n 1, 1) := by decide +kernel
theorem dX9_bookAnyhow_79 : decode cX9_bookAnyhow 79 = .ok (.iload_n 2, 1) := by decide +kernel
theorem dX9_bookAnyhow_80 : decode cX9_bookAnyhow 80 = .ok (.iload_n 3, 1) := by decide +kernel
theorem dX9_bookAnyhow_81 : decode cX9_bookAnyhow 81 = .ok (.invokevirtual 229, 3) := by decide +kernel
theorem dX9_bookAnyhow_84 : decode cX9_bookAnyhow 84 = .ok (.istore 6, 2) := by decide +kernel
theorem dX9_bookAnyhow_86 : decode cX9_bookAnyhow 86 = .ok (.aload_n 0, 1) := by decide +kernel
theorem dX9_bookAnyhow_87 : decode cX9_bookAnyhow 87 = .ok (.iload_n 3, 1) := by decide +kernel
theorem dX9_bookAnyhow_88 : decode cX9_bookAnyhow 88 = .ok (.aload_n 0, 1) := by decide +kernel
theorem dX9_bookAnyhow_89 : decode cX9_bookAnyhow 89 = .ok (.iload_n 3, 1) := by decide +kernel
theorem dX9_bookAnyhow_90 : decode cX9_bookAnyhow 90 = .ok (.invokevirtual 185, 3) := by decide +kernel
theorem dX9_bookAnyhow_93 : decode cX9_bookAnyhow 93 = .ok (.iload_n 1, 1) := by decide +kernel
theorem dX9_bookAnyhow_94 : decode cX9_bookAnyhow 94 = .ok (.iload_n 2, 1) := by decide +kernel
theorem dX9_bookAnyhow_95 : decode cX9_bookAnyhow 95 = .ok (.iload 6, 2) := by decide +kernel
theorem dX9_bookAnyhow_97 : decode cX9_bookAnyhow 97 = .ok (.invokevirtual 265, 3) := by decide +kernel
theorem dX9_bookAnyhow_100 : decode cX9_bookAnyhow 100 = .ok (.aload_n 0, 1) := by decide +kernel
theorem dX9_bookAnyhow_101 : decode cX9_bookAnyhow 101 = .ok (.getfield 17, 3) := by decide +kernel
theorem dX9_bookAnyhow_104 : decode cX9_bookAnyhow 104 = .ok (.bipush 6, 2) := by decide +kernel
theorem dX9_bookAnyhow_106 : decode cX9_bookAnyhow 106 = .ok (.dup2, 1) := by decide +kernel
theorem dX9_bookAnyhow_107 : decode cX9_bookAnyhow 107 = .ok (.iaload, 1) := by decide +kernel
theorem dX9_bookAnyhow_108 : decode cX9_bookAnyhow 108 = .ok (.iload 6, 2) := by decide +kernel
theorem dX9_bookAnyhow_110 : decode cX9_bookAnyhow 110 = .ok (.iadd, 1) := by decide +kernel
theorem dX9_bookAnyhow_111 : decode cX9_bookAnyhow 111 = .ok (.iastore, 1) := by decide +kernel
theorem dX9_bookAnyhow_112 : decode cX9_bookAnyhow 112 = .ok (.aload_n 0, 1) := by decide +kernel
theorem dX9_bookAnyhow_113 : decode cX9_bookAnyhow 113 = .ok (.iload 5, 2) := by decide +kernel
theorem dX9_bookAnyhow_115 : decode cX9_bookAnyhow 115 = .ok (.invokevirtual 259, 3) := by decide +kernel
theorem dX9_bookAnyhow_118 : decode cX9_bookAnyhow 118 = .ok (.aload_n 0, 1) := by decide +kernel
theorem dX9_bookAnyhow_119 : decode cX9_bookAnyhow 119 = .ok (.iload_n 3, 1) := by decide +kernel
theorem dX9_bookAnyhow_120 : decode cX9_bookAnyhow 120 = .ok (.iload_n 1, 1) := by decide +kernel
theorem dX9_bookAnyhow_121 : decode cX9_bookAnyhow 121 = .ok (.invokevirtual 275, 3) := by decide +kernel
theorem dX9_bookAnyhow_124 : decode cX9_bookAnyhow 124 = .ok (.ireturn, 1) := by decide +kernel
theorem dX9_remove_0 : decode cX9_remove 0 = .ok (.aload_n 0, 1) := by decide +kernel
theorem dX9_remove_1 : decode cX9_remove 1 = .ok (.iconst 0, 1) := by decide +kernel
theorem dX9_remove_2 : decode cX9_remove 2 = .ok (.putfield 41, 3) := by decide +kernel
theorem dX9_remove_5 : decode cX9_remove 5 = .ok (.aload_n 0, 1) := by decide +kernel
theorem dX9_remove_6 : decode cX9_remove 6 = .ok (.iload_n 1, 1) := by decide +kernel
theorem dX9_remove_7 : decode cX9_remove 7 = .ok (.invokevirtual 235, 3) := by decide +kernel
theorem dX9_remove_10 : decode cX9_remove 10 = .ok (.ifCond .ne 31, 3) := by decide +kernel
theorem dX9_remove_13 : decode cX9_remove 13 = .ok (.aload_n 0, 1) := by decide +kernel
theorem dX9_remove_14 : decode cX9_remove 14 = .ok (.iload_n 2, 1) := by decide +kernel
theorem dX9_remove_15 : decode cX9_remove 15 = .ok (.iconst 0, 1) := by decide +kernel
theorem dX9_remove_16 : decode cX9_remove 16 = .ok (.aload_n 0, 1) := by decide +kernel
theorem dX9_remove_17 : decode cX9_remove 17 = .ok (.iload_n 1, 1) := by decide +kernel
theorem dX9_remove_18 : decode cX9_remove 18 = .ok (.invokevirtual 185, 3) := by decide +kernel
theorem dX9_remove_21 : decode cX9_remove 21 = .ok (.iconst 1, 1) := by decide +kernel
theorem dX9_remove_22 : decode cX9_remove 22 = .ok (.isub, 1) := by decide +kernel
theorem dX9_remove_23 : decode cX9_remove 23 = .ok (.invokestatic 66, 3) := by decide +kernel
theorem dX9_remove_26 : decode cX9_remove 26 = .ok (.ifCond .ne 7, 3) := by decide +kernel
theorem dX9_remove_29 : decode cX9_remove 29 = .ok (.iconst 1, 1) := by decide +kernel
theorem dX9_remove_30 : decode cX9_remove 30 = .ok (.goto 4, 3) := by decide +kernel
theorem dX9_remove_33 : decode cX9_remove 33 = .ok (.iconst 0, 1) := by decide +kernel
theorem dX9_remove_34 : decode cX9_remove 34 = .ok (.iconst 2, 1) := by decide +kernel
theorem dX9_remove_35 : decode cX9_remove 35 = .ok (.invokevirtual 166, 3) := by decide +kernel
theorem dX9_remove_38 : decode cX9_remove 38 = .ok (.ifCond .eq 5, 3) := by decide +kernel
theorem dX9_remove_41 : decode cX9_remove 41 = .ok (.iconst 0, 1) := by decide +kernel
theorem dX9_remove_42 : decode cX9_remove 42 = .ok (.ireturn, 1) := by decide +kernel
theorem dX9_remove_43 : decode cX9_remove 43 = .ok (.iload_n 2, 1) := by decide +kernel
theorem dX9_remove_44 : decode cX9_remove 44 = .ok (.ifCond .le 18, 3) := by decide +kernel
theorem dX9_remove_47 : decode cX9_remove 47 = .ok (.iload_n 2, 1) := by decide +kernel
theorem dX9_remove_48 : decode cX9_remove 48 = .ok (.iconst 1, 1) := by decide +kernel
theorem dX9_remove_49 : decode cX9_remove 49 = .ok (.iadd, 1) := by decide +kernel
theorem dX9_remove_50 : decode cX9_remove 50 = .ok (.aload_n 0, 1) := by decide +kernel
theorem dX9_remove_51 : decode cX9_remove 51 = .ok (.iload_n 1, 1) := by decide +kernel
theorem dX9_remove_52 : decode cX9_remove 52 = .ok (.invokevirtual 185, 3) := by decide +kernel
theorem dX9_remove_55 : decode cX9_remove 55 = .ok (.if_icmp .ge 7, 3) := by decide +kernel
theorem dX9_remove_58 : decode cX9_remove 58 = .ok (.iconst 1, 1) := by decide +kernel
theorem dX9_remove_59 : decode cX9_remove 59 = .ok (.goto 4, 3) := by decide +kernel
theorem dX9_remove_62 : decode cX9_remove 62 = .ok (.iconst 0, 1) := by decide +kernel
theorem dX9_remove_63 : decode cX9_remove 63 = .ok (.istore_n 3, 1) := by decide +kernel
theorem dX9_remove_64 : decode cX9_remove 64 = .ok (.aload_n 0, 1) := by decide +kernel
theorem dX9_remove_65 : decode cX9_remove 65 = .ok (.aload_n 0, 1) := by decide +kernel
theorem dX9_remove_66 : decode cX9_remove 66 = .ok (.getfield 17, 3) := by decide +kernel
theorem dX9_remove_69 : decode cX9_remove 69 = .ok (.iload_n 1, 1) := by decide +kernel
theorem dX9_remove_70 : decode cX9_remove 70 = .ok (.invokestatic 44, 3) := by decide +kernel
theorem dX9_remove_73 : decode cX9_remove 73 = .ok (.iconst 4, 1) := by decide +kernel
theorem dX9_remove_74 : decode cX9_remove 74 = .ok (.iadd, 1) := by decide +kernel
theorem dX9_remove_75 : decode cX9_remove 75 = .ok (.iaload, 1) := by decide +kernel
theorem dX9_remove_76 : decode cX9_remove 76 = .ok (.ifCond .ne 38, 3) := by decide +kernel
theorem dX9_remove_79 : decode cX9_remove 79 = .ok (.iload_n 3, 1) := by decide +kernel
theorem dX9_remove_80 : decode cX9_remove 80 = .ok (.ifCond .eq 38, 3) := by decide +kernel
theorem dX9_remove_83 : decode cX9_remove 83 = .ok (.aload_n 0, 1) := by decide +kernel
theorem dX9_remove_84 : decode cX9_remove 84 = .ok (.aload_n 0, 1) := by decide +kernel
theorem dX9_remove_85 : decode cX9_remove 85 = .ok (.getfield 17, 3) := by decide +kernel
theorem dX9_remove_88 : decode cX9_remove 88 = .ok (.iload_n 1, 1) := by decide +kernel
theorem dX9_remove_89 : decode cX9_remove 89 = .ok (.iload_n 2, 1) := by decide +kernel
theorem dX9_remove_90 : decode cX9_remove 90 = .ok (.iconst 1, 1) := by decide +kernel
theorem dX9_remove_91 : decode cX9_remove 91 = .ok (.isub, 1) := by decide +kernel
theorem dX9_remove_92 : decode cX9_remove 92 = .ok (.invokestatic 188, 3) := by decide +kernel
theorem dX9_remove_95 : decode cX9_remove 95 = .ok (.iaload, 1) := by decide +kernel
theorem dX9_remove_96 : decode cX9_remove 96 = .ok (.aload_n 0, 1) := by decide +kernel
theorem dX9_remove_97 : decode cX9_remove 97 = .ok (.getfield 17, 3) := by decide +kernel
theorem dX9_remove_100 : decode cX9_remove 100 = .ok (.iload_n 1, 1) := by decide +kernel
theorem dX9_remove_101 : decode cX9_remove 101 = .ok (.iload_n 2, 1) := by decide +kernel
theorem dX9_remove_102 : decode cX9_remove 102 = .ok (.iconst 1, 1) := by decide +kernel
theorem dX9_remove_103 : decode cX9_remove 103 = .ok (.iadd, 1) := by decide +kernel
theorem dX9_remove_104 : decode cX9_remove 104 = .ok (.invokestatic 188, 3) := by decide +kernel
theorem dX9_remove_107 : decode cX9_remove 107 = .ok (.iaload, 1) := by decide +kernel
theorem dX9_remove_108 : decode cX9_remove 108 = .ok (.invokevirtual 195, 3) := by decide +kernel
theorem dX9_remove_111 : decode cX9_remove 111 = .ok (.ifCond .eq 7, 3) := by decide +kernel
theorem dX9_remove_114 : decode cX9_remove 114 = .ok (.iconst 1, 1) := by decide +kernel
theorem dX9_remove_115 : decode cX9_remove 115 = .ok (.goto 4, 3) := by decide +kernel
theorem dX9_remove_118 : decode cX9_remove 118 = .ok (.iconst 0, 1) := by decide +kernel
theorem dX9_remove_119 : decode cX9_remove 119 = .ok (.iconst 3, 1) := by decide +kernel
theorem dX9_remove_120 : decode cX9_remove 120 = .ok (.invokevirtual 166, 3) := by decide +kernel
theorem dX9_remove_123 : decode cX9_remove 123 = .ok (.ifCond .eq 5, 3) := by decide +kernel
theorem dX9_remove_126 : decode cX9_remove 126 = .ok (.iconst 0, 1) := by decide +kernel
theorem dX9_remove_127 : decode cX9_remove 127 = .ok (.ireturn, 1) := by decide +kernel
theorem dX9_remove_128 : decode cX9_remove 128 = .ok (.aload_n 0, 1) := by decide +kernel
theorem dX9_remove_129 : decode cX9_remove 129 = .ok (.invokevirtual 178, 3) := by decide +kernel
theorem dX9_remove_132 : decode cX9_remove 132 = .ok (.aload_n 0, 1) := by decide +kernel
theorem dX9_remove_133 : decode cX9_remove 133 = .ok (.getfield 17, 3) := by decide +kernel
theorem dX9_remove_136 : decode cX9_remove 136 = .ok (.iload_n 1, 1) := by decide +kernel
theorem dX9_remove_137 : decode cX9_remove 137 = .ok (.iload_n 2, 1) := by decide +kernel
theorem dX9_remove_138 : decode cX9_remove 138 = .ok (.invokestatic 188, 3) := by decide +kernel
theorem dX9_remove_141 : decode cX9_remove 141 = .ok (.iconst 2, 1) := by decide +kernel
theorem dX9_remove_142 : decode cX9_remove 142 = .ok (.iadd, 1) := by decide +kernel
theorem dX9_remove_143 : decode cX9_remove 143 = .ok (.iaload, 1) := by decide +kernel
theorem dX9_remove_144 : decode cX9_remove 144 = .ok (.iconst 2, 1) := by decide +kernel
theorem dX9_remove_145 : decode cX9_remove 145 = .ok (.idiv, 1) := by decide +kernel
theorem dX9_remove_146 : decode cX9_remove 146 = .ok (.istore 4, 2) := by decide +kernel
theorem dX9_remove_148 : decode cX9_remove 148 = .ok (.aload_n 0, 1) := by decide +kernel
theorem dX9_remove_149 : decode cX9_remove 149 = .ok (.getfield 17, 3) := by decide +kernel
theorem dX9_remove_152 : decode cX9_remove 152 = .ok (.iload_n 1, 1) := by decide +kernel
theorem dX9_remove_153 : decode cX9_remove 153 = .ok (.invokestatic 44, 3) := by decide +kernel
theorem dX9_remove_156 : decode cX9_remove 156 = .ok (.iconst 5, 1) := by decide +kernel
theorem dX9_remove_157 : decode cX9_remove 157 = .ok (.iadd, 1) := by decide +kernel
theorem dX9_remove_158 : decode cX9_remove 158 = .ok (.dup2, 1) := by decide +kernel
theorem dX9_remove_159 : decode cX9_remove 159 = .ok (.iaload, 1) := by decide +kernel
theorem dX9_remove_160 : decode cX9_remove 160 = .ok (.iconst 1, 1) := by decide +kernel
theorem dX9_remove_161 : decode cX9_remove 161 = .ok (.isub, 1) := by decide +kernel
theorem dX9_remove_162 : decode cX9_remove 162 = .ok (.iastore, 1) := by decide +kernel
theorem dX9_remove_163 : decode cX9_remove 163 = .ok (.iload_n 1, 1) := by decide +kernel
theorem dX9_remove_164 : decode cX9_remove 164 = .ok (.iload_n 2, 1) := by decide +kernel
theorem dX9_remove_165 : decode cX9_remove 165 = .ok (.invokestatic 188, 3) := by decide +kernel
theorem dX9_remove_168 : decode cX9_remove 168 = .ok (.istore 5, 2) := by decide +kernel
theorem dX9_remove_170 : decode cX9_remove 170 = .ok (.iload 5, 2) := by decide +kernel
theorem dX9_remove_172 : decode cX9_remove 172 = .ok (.iload_n 1, 1) := by decide +kernel
theorem dX9_remove_173 : decode cX9_remove 173 = .ok (.aload_n 0, 1) := by decide +kernel
theorem dX9_remove_174 : decode cX9_remove 174 = .ok (.iload_n 1, 1) := by decide +kernel
theorem dX9_remove_175 : decode cX9_remove 175 = .ok (.invokevirtual 185, 3) := by decide +kernel
theorem dX9_remove_178 : decode cX9_remove 178 = .ok (.invokestatic 188, 3) := by decide +kernel
theorem dX9_remove_181 : decode cX9_remove 181 = .ok (.if_icmp .ge 25, 3) := by decide +kernel
theorem dX9_remove_184 : decode cX9_remove 184 = .ok (.aload_n 0, 1) := by decide +kernel
theorem dX9_remove_185 : decode cX9_remove 185 = .ok (.getfield 17, 3) := by decide +kernel
theorem dX9_remove_188 : decode cX9_remove 188 = .ok (.iload 5, 2) := by decide +kernel
theorem dX9_remove_190 : decode cX9_remove 190 = .ok (.aload_n 0, 1) := by decide +kernel
theorem dX9_remove_191 : decode cX9_remove 191 = .ok (.getfield 17, 3) := by decide +kernel
theorem dX9_remove_194 : decode cX9_remove 194 = .ok (.iload 5, 2) := by decide +kernel
theorem dX9_remove_196 : decode cX9_remove 196 = .ok (.iconst 3, 1) := by decide +kernel
theorem dX9_remove_197 : decode cX9_remove 197 = .ok (.iadd, 1) := by decide +kernel
theorem dX9_remove_198 : decode cX9_remove 198 = .ok (.iaload, 1) := by decide +kernel
theorem dX9_remove_199 : decode cX9_remove 199 = .ok (.iastore, 1) := by decide +kernel
theorem dX9_remove_200 : decode cX9_remove 200 = .ok (.iinc 5 1, 3) := by decide +kernel
theorem dX9_remove_203 : decode cX9_remove 203 = .ok (.goto (-33), 3) := by decide +kernel
theorem dX9_remove_206 : decode cX9_remove 206 = .ok (.aload_n 0, 1) := by decide +kernel
theorem dX9_remove_207 : decode cX9_remove 207 = .ok (.getfield 17, 3) := by decide +kernel
theorem dX9_remove_210 : decode cX9_remove 210 = .ok (.bipush 6, 2) := by decide +kernel
theorem dX9_remove_212 : decode cX9_remove 212 = .ok (.dup2, 1) := by decide +kernel
theorem dX9_remove_213 : decode cX9_remove 213 = .ok (.iaload, 1) := by decide +kernel
theorem dX9_remove_214 : decode cX9_remove 214 = .ok (.iload 4, 2) := by decide +kernel
theorem dX9_remove_216 : decode cX9_remove 216 = .ok (.isub, 1) := by decide +kernel
theorem dX9_remove_217 : decode cX9_remove 217 = .ok (.iastore, 1) := by decide +kernel
theorem dX9_remove_218 : decode cX9_remove 218 = .ok (.iload 4, 2) := by decide +kernel
theorem dX9_remove_220 : decode cX9_remove 220 = .ok (.ireturn, 1) := by decide +kernel
theorem dX9_air_0 : decode cX9_air 0 = .ok (.aload_n 0, 1) := by decide +kernel
theorem dX9_air_1 : decode cX9_air 1 = .ok (.iconst 0, 1) := by decide +kernel
theorem dX9_air_2 : decode cX9_air 2 = .ok (.putfield 41, 3) := by decide +kernel
theorem dX9_air_5 : decode cX9_air 5 = .ok (.iconst 0, 1) := by decide +kernel
theorem dX9_air_6 : decode cX9_air 6 = .ok (.istore_n 1, 1) := by decide +kernel
theorem dX9_air_7 : decode cX9_air 7 = .ok (.iload_n 1, 1) := by decide +kernel
theorem dX9_air_8 : decode cX9_air 8 = .ok (.aload_n 0, 1) := by decide +kernel
theorem dX9_air_9 : decode cX9_air 9 = .ok (.getfield 17, 3) := by decide +kernel
theorem dX9_air_12 : decode cX9_air 12 = .ok (.iconst 0, 1) := by decide +kernel
theorem dX9_air_13 : decode cX9_air 13 = .ok (.iaload, 1) := by decide +kernel
theorem dX9_air_14 : decode cX9_air 14 = .ok (.if_icmp .ge 23, 3) := by decide +kernel
theorem dX9_air_17 : decode cX9_air 17 = .ok (.aload_n 0, 1) := by decide +kernel
theorem dX9_air_18 : decode cX9_air 18 = .ok (.getfield 17, 3) := by decide +kernel
theorem dX9_air_21 : decode cX9_air 21 = .ok (.iload_n 1, 1) := by decide +kernel
theorem dX9_air_22 : decode cX9_air 22 = .ok (.invokestatic 44, 3) := by decide +kernel
theorem dX9_air_25 : decode cX9_air 25 = .ok (.iconst 4, 1) := by decide +kernel
theorem dX9_air_26 : decode cX9_air 26 = .ok (.iadd, 1) := by decide +kernel
theorem dX9_air_27 : decode cX9_air 27 = .ok (.iaload, 1) := by decide +kernel
theorem dX9_air_28 : decode cX9_air 28 = .ok (.ifCond .eq 9, 3) := by decide +kernel
theorem dX9_air_31 : decode cX9_air 31 = .ok (.iinc 1 1, 3) := by decide +kernel
theorem dX9_air_34 : decode cX9_air 34 = .ok (.goto (-27), 3) := by decide +kernel
theorem dX9_air_37 : decode cX9_air 37 = .ok (.aload_n 0, 1) := by decide +kernel
theorem dX9_air_38 : decode cX9_air 38 = .ok (.iload_n 1, 1) := by decide +kernel
theorem dX9_air_39 : decode cX9_air 39 = .ok (.aload_n 0, 1) := by decide +kernel
theorem dX9_air_40 : decode cX9_air 40 = .ok (.getfield 17, 3) := by decide +kernel
theorem dX9_air_43 : decode cX9_air 43 = .ok (.iconst 0, 1) := by decide +kernel
theorem dX9_air_44 : decode cX9_air 44 = .ok (.iaload, 1) := by decide +kernel
theorem dX9_air_45 : decode cX9_air 45 = .ok (.if_icmp .ne 7, 3) := by decide +kernel
theorem dX9_air_48 : decode cX9_air 48 = .ok (.iconst 1, 1) := by decide +kernel
theorem dX9_air_49 : decode cX9_air 49 = .ok (.goto 4, 3) := by decide +kernel
theorem dX9_air_52 : decode cX9_air 52 = .ok (.iconst 0, 1) := by decide +kernel
theorem dX9_air_53 : decode cX9_air 53 = .ok (.iconst 1, 1) := by decide +kernel
theorem dX9_air_54 : decode cX9_air 54 = .ok (.invokevirtual 166, 3) := by decide +kernel
theorem dX9_air_57 : decode cX9_air 57 = .ok (.ifCond .eq 5, 3) := by decide +kernel
theorem dX9_air_60 : decode cX9_air 60 = .ok (.iconst 0, 1) := by decide +kernel
theorem dX9_air_61 : decode cX9_air 61 = .ok (.ireturn, 1) := by decide +kernel
theorem dX9_air_62 : decode cX9_air 62 = .ok (.aload_n 0, 1) := by decide +kernel
theorem dX9_air_63 : decode cX9_air 63 = .ok (.invokevirtual 178, 3) := by decide +kernel
theorem dX9_air_66 : decode cX9_air 66 = .ok (.aload_n 0, 1) := by decide +kernel
theorem dX9_air_67 : decode cX9_air 67 = .ok (.getfield 17, 3) := by decide +kernel
theorem dX9_air_70 : decode cX9_air 70 = .ok (.iload_n 1, 1) := by decide +kernel
theorem dX9_air_71 : decode cX9_air 71 = .ok (.invokestatic 44, 3) := by decide +kernel
theorem dX9_air_74 : decode cX9_air 74 = .ok (.iconst 4, 1) := by decide +kernel
theorem dX9_air_75 : decode cX9_air 75 = .ok (.iadd, 1) := by decide +kernel
theorem dX9_air_76 : decode cX9_air 76 = .ok (.iconst 1, 1) := by decide +kernel
theorem dX9_air_77 : decode cX9_air 77 = .ok (.iastore, 1) := by decide +kernel
theorem dX9_air_78 : decode cX9_air 78 = .ok (.aload_n 0, 1) := by decide +kernel
theorem dX9_air_79 : decode cX9_air 79 = .ok (.iload_n 1, 1) := by decide +kernel
theorem dX9_air_80 : decode cX9_air 80 = .ok (.invokevirtual 185, 3) := by decide +kernel
theorem dX9_air_83 : decode cX9_air 83 = .ok (.ireturn, 1) := by decide +kernel
theorem dX9_cancel_0 : decode cX9_cancel 0 = .ok (.aload_n 0, 1) := by decide +kernel
theorem dX9_cancel_1 : decode cX9_cancel 1 = .ok (.iconst 0, 1) := by decide +kernel
theorem dX9_cancel_2 : decode cX9_cancel 2 = .ok (.putfield 41, 3) := by decide +kernel
theorem dX9_cancel_5 : decode cX9_cancel 5 = .ok (.aload_n 0, 1) := by decide +kernel
theorem dX9_cancel_6 : decode cX9_cancel 6 = .ok (.iload_n 1, 1) := by decide +kernel
theorem dX9_cancel_7 : decode cX9_cancel 7 = .ok (.invokevirtual 235, 3) := by decide +kernel
theorem dX9_cancel_10 : decode cX9_cancel 10 = .ok (.ifCond .ne 30, 3) := by decide +kernel
theorem dX9_cancel_13 : decode cX9_cancel 13 = .ok (.aload_n 0, 1) := by decide +kernel
theorem dX9_cancel_14 : decode cX9_cancel 14 = .ok (.aload_n 0, 1) := by decide +kernel
theorem dX9_cancel_15 : decode cX9_cancel 15 = .ok (.getfield 17, 3) := by decide +kernel
theorem dX9_cancel_18 : decode cX9_cancel 18 = .ok (.iload_n 1, 1) := by decide +kernel
theorem dX9_cancel_19 : decode cX9_cancel 19 = .ok (.invokestatic 44, 3) := by decide +kernel
theorem dX9_cancel_22 : decode cX9_cancel 22 = .ok (.iconst 4, 1) := by decide +kernel
theorem dX9_cancel_23 : decode cX9_cancel 23 = .ok (.iadd, 1) := by decide +kernel
theorem dX9_cancel_24 : decode cX9_cancel 24 = .ok (.iaload, 1) := by decide +kernel
theorem dX9_cancel_25 : decode cX9_cancel 25 = .ok (.ifCond .eq 7, 3) := by decide +kernel
theorem dX9_cancel_28 : decode cX9_cancel 28 = .ok (.iconst 1, 1) := by decide +kernel
theorem dX9_cancel_29 : decode cX9_cancel 29 = .ok (.goto 4, 3) := by decide +kernel
theorem dX9_cancel_32 : decode cX9_cancel 32 = .ok (.iconst 0, 1) := by decide +kernel
theorem dX9_cancel_33 : decode cX9_cancel 33 = .ok (.iconst 2, 1) := by decide +kernel
theorem dX9_cancel_34 : decode cX9_cancel 34 = .ok (.invokevirtual 166, 3) := by decide +kernel
theorem dX9_cancel_37 : decode cX9_cancel 37 = .ok (.ifCond .eq 5, 3) := by decide +kernel
theorem dX9_cancel_40 : decode cX9_cancel 40 = .ok (.iconst 0, 1) := by decide +kernel
theorem dX9_cancel_41 : decode cX9_cancel 41 = .ok (.ireturn, 1) := by decide +kernel
theorem dX9_cancel_42 : decode cX9_cancel 42 = .ok (.aload_n 0, 1) := by decide +kernel
theorem dX9_cancel_43 : decode cX9_cancel 43 = .ok (.invokevirtual 178, 3) := by decide +kernel
theorem dX9_cancel_46 : decode cX9_cancel 46 = .ok (.iconst 0, 1) := by decide +kernel
theorem dX9_cancel_47 : decode cX9_cancel 47 = .ok (.istore_n 2, 1) := by decide +kernel
theorem dX9_cancel_48 : decode cX9_cancel 48 = .ok (.iload_n 2, 1) := by decide +kernel
theorem dX9_cancel_49 : decode cX9_cancel 49 = .ok (.aload_n 0, 1) := by decide +kernel
theorem dX9_cancel_50 : decode cX9_cancel 50 = .ok (.iload_n 1, 1) := by decide +kernel
theorem dX9_cancel_51 : decode cX9_cancel 51 = .ok (.invokevirtual 185, 3) := by decide +kernel
theorem dX9_cancel_54 : decode cX9_cancel 54 = .ok (.if_icmp .ge 88, 3) := by decide +kernel
theorem dX9_cancel_57 : decode cX9_cancel 57 = .ok (.sipush 723, 3) := by decide +kernel
theorem dX9_cancel_60 : decode cX9_cancel 60 = .ok (.iconst 4, 1) := by decide +kernel
theorem dX9_cancel_61 : decode cX9_cancel 61 = .ok (.aload_n 0, 1) := by decide +kernel
theorem dX9_cancel_62 : decode cX9_cancel 62 = .ok (.getfield 17, 3) := by decide +kernel
theorem dX9_cancel_65 : decode cX9_cancel 65 = .ok (.iconst 5, 1) := by decide +kernel
theorem dX9_cancel_66 : decode cX9_cancel 66 = .ok (.iaload, 1) := by decide +kernel
theorem dX9_cancel_67 : decode cX9_cancel 67 = .ok (.imul, 1) := by decide +kernel
theorem dX9_cancel_68 : decode cX9_cancel 68 = .ok (.iadd, 1) := by decide +kernel
theorem dX9_cancel_69 : decode cX9_cancel 69 = .ok (.istore_n 3, 1) := by decide +kernel
theorem dX9_cancel_70 : decode cX9_cancel 70 = .ok (.iconst 0, 1) := by decide +kernel
theorem dX9_cancel_71 : decode cX9_cancel 71 = .ok (.istore 4, 2) := by decide +kernel
theorem dX9_cancel_73 : decode cX9_cancel 73 = .ok (.iload 4, 2) := by decide +kernel
theorem dX9_cancel_75 : decode cX9_cancel 75 = .ok (.iconst 3, 1) := by decide +kernel
theorem dX9_cancel_76 : decode cX9_cancel 76 = .ok (.if_icmp .ge 31, 3) := by decide +kernel
theorem dX9_cancel_79 : decode cX9_cancel 79 = .ok (.aload_n 0, 1) := by decide +kernel
theorem dX9_cancel_80 : decode cX9_cancel 80 = .ok (.getfield 17, 3) := by decide +kernel
theorem dX9_cancel_83 : decode cX9_cancel 83 = .ok (.iload_n 3, 1) := by decide +kernel
theorem dX9_cancel_84 : decode cX9_cancel 84 = .ok (.iload 4, 2) := by decide +kernel
theorem dX9_cancel_86 : decode cX9_cancel 86 = .ok (.iadd, 1) := by decide +kernel
theorem dX9_cancel_87 : decode cX9_cancel 87 = .ok (.aload_n 0, 1) := by decide +kernel
theorem dX9_cancel_88 : decode cX9_cancel 88 = .ok (.getfield 17, 3) := by decide +kernel
theorem dX9_cancel_91 : decode cX9_cancel 91 = .ok (.iload_n 1, 1) := by decide +kernel
theorem dX9_cancel_92 : decode cX9_cancel 92 = .ok (.iload_n 2, 1) := by decide +kernel
theorem dX9_cancel_93 : decode cX9_cancel 93 = .ok (.invokestatic 188, 3) := by decide +kernel
theorem dX9_cancel_96 : decode cX9_cancel 96 = .ok (.iload 4, 2) := by decide +kernel
theorem dX9_cancel_98 : decode cX9_cancel 98 = .ok (.iadd, 1) := by decide +kernel
theorem dX9_cancel_99 : decode cX9_cancel 99 = .ok (.iaload, 1) := by decide +kernel
theorem dX9_cancel_100 : decode cX9_cancel 100 = .ok (.iastore, 1) := by decide +kernel
theorem dX9_cancel_101 : decode cX9_cancel 101 = .ok (.iinc 4 1, 3) := by decide +kernel
theorem dX9_cancel_104 : decode cX9_cancel 104 = .ok (.goto (-31), 3) := by decide +kernel
theorem dX9_cancel_107 : decode cX9_cancel 107 = .ok (.aload_n 0, 1) := by decide +kernel
theorem dX9_cancel_108 : decode cX9_cancel 108 = .ok (.getfield 17, 3) := by decide +kernel
theorem dX9_cancel_111 : decode cX9_cancel 111 = .ok (.iload_n 3, 1) := by decide +kernel
theorem dX9_cancel_112 : decode cX9_cancel 112 = .ok (.iconst 3, 1) := by decide +kernel
theorem dX9_cancel_113 : decode cX9_cancel 113 = .ok (.iadd, 1) := by decide +kernel
theorem dX9_cancel_114 : decode cX9_cancel 114 = .ok (.aload_n 0, 1) := by decide +kernel
theorem dX9_cancel_115 : decode cX9_cancel 115 = .ok (.getfield 17, 3) := by decide +kernel
theorem dX9_cancel_118 : decode cX9_cancel 118 = .ok (.iload_n 1, 1) := by decide +kernel
theorem dX9_cancel_119 : decode cX9_cancel 119 = .ok (.invokestatic 44, 3) := by decide +kernel
theorem dX9_cancel_122 : decode cX9_cancel 122 = .ok (.iconst 3, 1) := by decide +kernel
theorem dX9_cancel_123 : decode cX9_cancel 123 = .ok (.iadd, 1) := by decide +kernel
theorem dX9_cancel_124 : decode cX9_cancel 124 = .ok (.iaload, 1) := by decide +kernel
theorem dX9_cancel_125 : decode cX9_cancel 125 = .ok (.iastore, 1) := by decide +kernel
theorem dX9_cancel_126 : decode cX9_cancel 126 = .ok (.aload_n 0, 1) := by decide +kernel
theorem dX9_cancel_127 : decode cX9_cancel 127 = .ok (.getfield 17, 3) := by decide +kernel
theorem dX9_cancel_130 : decode cX9_cancel 130 = .ok (.iconst 5, 1) := by decide +kernel
theorem dX9_cancel_131 : decode cX9_cancel 131 = .ok (.dup2, 1) := by decide +kernel
theorem dX9_cancel_132 : decode cX9_cancel 132 = .ok (.iaload, 1) := by decide +kernel
theorem dX9_cancel_133 : decode cX9_cancel 133 = .ok (.iconst 1, 1) := by decide +kernel
theorem dX9_cancel_134 : decode cX9_cancel 134 = .ok (.iadd, 1) := by decide +kernel
theorem dX9_cancel_135 : decode cX9_cancel 135 = .ok (.iastore, 1) := by decide +kernel
theorem dX9_cancel_136 : decode cX9_cancel 136 = .ok (.iinc 2 1, 3) := by decide +kernel
theorem dX9_cancel_139 : decode cX9_cancel 139 = .ok (.goto (-91), 3) := by decide +kernel
theorem dX9_cancel_142 : decode cX9_cancel 142 = .ok (.aload_n 0, 1) := by decide +kernel
theorem dX9_cancel_143 : decode cX9_cancel 143 = .ok (.getfield 17, 3) := by decide +kernel
theorem dX9_cancel_146 : decode cX9_cancel 146 = .ok (.iload_n 1, 1) := by decide +kernel
theorem dX9_cancel_147 : decode cX9_cancel 147 = .ok (.invokestatic 44, 3) := by decide +kernel
theorem dX9_cancel_150 : decode cX9_cancel 150 = .ok (.iconst 4, 1) := by decide +kernel
theorem dX9_cancel_151 : decode cX9_cancel 151 = .ok (.iadd, 1) := by decide +kernel
theorem dX9_cancel_152 : decode cX9_cancel 152 = .ok (.iconst 2, 1) := by decide +kernel
theorem dX9_cancel_153 : decode cX9_cancel 153 = .ok (.iastore, 1) := by decide +kernel
theorem dX9_cancel_154 : decode cX9_cancel 154 = .ok (.aload_n 0, 1) := by decide +kernel
theorem dX9_cancel_155 : decode cX9_cancel 155 = .ok (.getfield 17, 3) := by decide +kernel
theorem dX9_cancel_158 : decode cX9_cancel 158 = .ok (.iload_n 1, 1) := by decide +kernel
theorem dX9_cancel_159 : decode cX9_cancel 159 = .ok (.invokestatic 44, 3) := by decide +kernel
theorem dX9_cancel_162 : decode cX9_cancel 162 = .ok (.iconst 5, 1) := by decide +kernel
theorem dX9_cancel_163 : decode cX9_cancel 163 = .ok (.iadd, 1) := by decide +kernel
theorem dX9_cancel_164 : decode cX9_cancel 164 = .ok (.iconst 0, 1) := by decide +kernel
theorem dX9_cancel_165 : decode cX9_cancel 165 = .ok (.iastore, 1) := by decide +kernel
theorem dX9_cancel_166 : decode cX9_cancel 166 = .ok (.aload_n 0, 1) := by decide +kernel
theorem dX9_cancel_167 : decode cX9_cancel 167 = .ok (.getfield 17, 3) := by decide +kernel
theorem dX9_cancel_170 : decode cX9_cancel 170 = .ok (.iconst 5, 1) := by decide +kernel
theorem dX9_cancel_171 : decode cX9_cancel 171 = .ok (.iaload, 1) := by decide +kernel
theorem dX9_cancel_172 : decode cX9_cancel 172 = .ok (.ireturn, 1) := by decide +kernel
theorem dX9_goodFor_0 : decode cX9_goodFor 0 = .ok (.sipush 723, 3) := by decide +kernel
theorem dX9_goodFor_3 : decode cX9_goodFor 3 = .ok (.iconst 4, 1) := by decide +kernel
theorem dX9_goodFor_4 : decode cX9_goodFor 4 = .ok (.iload_n 1, 1) := by decide +kernel
theorem dX9_goodFor_5 : decode cX9_goodFor 5 = .ok (.imul, 1) := by decide +kernel
theorem dX9_goodFor_6 : decode cX9_goodFor 6 = .ok (.iadd, 1) := by decide +kernel
theorem dX9_goodFor_7 : decode cX9_goodFor 7 = .ok (.istore_n 2, 1) := by decide +kernel
theorem dX9_goodFor_8 : decode cX9_goodFor 8 = .ok (.iconst 0, 1) := by decide +kernel
theorem dX9_goodFor_9 : decode cX9_goodFor 9 = .ok (.istore_n 3, 1) := by decide +kernel
theorem dX9_goodFor_10 : decode cX9_goodFor 10 = .ok (.iload_n 3, 1) := by decide +kernel
theorem dX9_goodFor_11 : decode cX9_goodFor 11 = .ok (.aload_n 0, 1) := by decide +kernel
theorem dX9_goodFor_12 : decode cX9_goodFor 12 = .ok (.getfield 17, 3) := by decide +kernel
theorem dX9_goodFor_15 : decode cX9_goodFor 15 = .ok (.iconst 0, 1) := by decide +kernel
theorem dX9_goodFor_16 : decode cX9_goodFor 16 = .ok (.iaload, 1) := by decide +kernel
theorem dX9_goodFor_17 : decode cX9_goodFor 17 = .ok (.if_icmp .ge 55, 3) := by decide +kernel
theorem dX9_goodFor_20 : decode cX9_goodFor 20 = .ok (.aload_n 0, 1) := by decide +kernel
theorem dX9_goodFor_21 : decode cX9_goodFor 21 = .ok (.getfield 17, 3) := by decide +kernel
theorem dX9_goodFor_24 : decode cX9_goodFor 24 = .ok (.iload_n 3, 1) := by decide +kernel
theorem dX9_goodFor_25 : decode cX9_goodFor 25 = .ok (.invokestatic 44, 3) := by decide +kernel
theorem dX9_goodFor_28 : decode cX9_goodFor 28 = .ok (.iconst 3, 1) := by decide +kernel
theorem dX9_goodFor_29 : decode cX9_goodFor 29 = .ok (.iadd, 1) := by decide +kernel
theorem dX9_goodFor_30 : decode cX9_goodFor 30 = .ok (.iaload, 1) := by decide +kernel
theorem dX9_goodFor_31 : decode cX9_goodFor 31 = .ok (.aload_n 0, 1) := by decide +kernel
theorem dX9_goodFor_32 : decode cX9_goodFor 32 = .ok (.getfield 17, 3) := by decide +kernel
theorem dX9_goodFor_35 : decode cX9_goodFor 35 = .ok (.iload_n 2, 1) := by decide +kernel
theorem dX9_goodFor_36 : decode cX9_goodFor 36 = .ok (.iconst 3, 1) := by decide +kernel
theorem dX9_goodFor_37 : decode cX9_goodFor 37 = .ok (.iadd, 1) := by decide +kernel
theorem dX9_goodFor_38 : decode cX9_goodFor 38 = .ok (.iaload, 1) := by decide +kernel
theorem dX9_goodFor_39 : decode cX9_goodFor 39 = .ok (.if_icmp .lt 27, 3) := by decide +kernel
theorem dX9_goodFor_42 : decode cX9_goodFor 42 = .ok (.aload_n 0, 1) := by decide +kernel
theorem dX9_goodFor_43 : decode cX9_goodFor 43 = .ok (.aload_n 0, 1) := by decide +kernel
theorem dX9_goodFor_44 : decode cX9_goodFor 44 = .ok (.getfield 17, 3) := by decide +kernel
theorem dX9_goodFor_47 : decode cX9_goodFor 47 = .ok (.iload_n 2, 1) := by decide +kernel
theorem dX9_goodFor_48 : decode cX9_goodFor 48 = .ok (.iaload, 1) := by decide +kernel
theorem dX9_goodFor_49 : decode cX9_goodFor 49 = .ok (.aload_n 0, 1) := by decide +kernel
theorem dX9_goodFor_50 : decode cX9_goodFor 50 = .ok (.getfield 17, 3) := by decide +kernel
theorem dX9_goodFor_53 : decode cX9_goodFor 53 = .ok (.iload_n 2, 1) := by decide +kernel
theorem dX9_goodFor_54 : decode cX9_goodFor 54 = .ok (.iconst 1, 1) := by decide +kernel
theorem dX9_goodFor_55 : decode cX9_goodFor 55 = .ok (.iadd, 1) := by decide +kernel
theorem dX9_goodFor_56 : decode cX9_goodFor 56 = .ok (.iaload, 1) := by decide +kernel
theorem dX9_goodFor_57 : decode cX9_goodFor 57 = .ok (.iload_n 3, 1) := by decide +kernel
theorem dX9_goodFor_58 : decode cX9_goodFor 58 = .ok (.invokevirtual 225, 3) := by decide +kernel
theorem dX9_goodFor_61 : decode cX9_goodFor 61 = .ok (.ifCond .ne 5, 3) := by decide +kernel
theorem dX9_goodFor_64 : decode cX9_goodFor 64 = .ok (.iload_n 3, 1) := by decide +kernel
theorem dX9_goodFor_65 : decode cX9_goodFor 65 = .ok (.ireturn, 1) := by decide +kernel
theorem dX9_goodFor_66 : decode cX9_goodFor 66 = .ok (.iinc 3 1, 3) := by decide +kernel
theorem dX9_goodFor_69 : decode cX9_goodFor 69 = .ok (.goto (-59), 3) := by decide +kernel
theorem dX9_goodFor_72 : decode cX9_goodFor 72 = .ok (.iconst (-1), 1) := by decide +kernel
theorem dX9_goodFor_73 : decode cX9_goodFor 73 = .ok (.ireturn, 1) := by decide +kernel
theorem dX9_makeGood_0 : decode cX9_makeGood 0 = .ok (.aload_n 0, 1) := by decide +kernel
theorem dX9_makeGood_1 : decode cX9_makeGood 1 = .ok (.iconst 0, 1) := by decide +kernel
theorem dX9_makeGood_2 : decode cX9_makeGood 2 = .ok (.putfield 41, 3) := by decide +kernel
theorem dX9_makeGood_5 : decode cX9_makeGood 5 = .ok (.aload_n 0, 1) := by decide +kernel
theorem dX9_makeGood_6 : decode cX9_makeGood 6 = .ok (.invokevirtual 178, 3) := by decide +kernel
theorem dX9_makeGood_9 : decode cX9_makeGood 9 = .ok (.aload_n 0, 1) := by decide +kernel
theorem dX9_makeGood_10 : decode cX9_makeGood 10 = .ok (.getfield 17, 3) := by decide +kernel
theorem dX9_makeGood_13 : decode cX9_makeGood 13 = .ok (.iconst 5, 1) := by decide +kernel
theorem dX9_makeGood_14 : decode cX9_makeGood 14 = .ok (.iaload, 1) := by decide +kernel
theorem dX9_makeGood_15 : decode cX9_makeGood 15 = .ok (.istore_n 1, 1) := by decide +kernel
theorem dX9_makeGood_16 : decode cX9_makeGood 16 = .ok (.iconst 0, 1) := by decide +kernel
theorem dX9_makeGood_17 : decode cX9_makeGood 17 = .ok (.istore_n 2, 1) := by decide +kernel
theorem dX9_makeGood_18 : decode cX9_makeGood 18 = .ok (.iconst 0, 1) := by decide +kernel
theorem dX9_makeGood_19 : decode cX9_makeGood 19 = .ok (.istore_n 3, 1) := by decide +kernel
theorem dX9_makeGood_20 : decode cX9_makeGood 20 = .ok (.iload_n 3, 1) := by decide +kernel
theorem dX9_makeGood_21 : decode cX9_makeGood 21 = .ok (.iload_n 1, 1) := by decide +kernel
theorem dX9_makeGood_22 : decode cX9_makeGood 22 = .ok (.if_icmp .ge 125, 3) := by decide +kernel
theorem dX9_makeGood_25 : decode cX9_makeGood 25 = .ok (.sipush 723, 3) := by decide +kernel
theorem dX9_makeGood_28 : decode cX9_makeGood 28 = .ok (.iconst 4, 1) := by decide +kernel
theorem dX9_makeGood_29 : decode cX9_makeGood 29 = .ok (.iload_n 3, 1) := by decide +kernel
theorem dX9_makeGood_30 : decode cX9_makeGood 30 = .ok (.imul, 1) := by decide +kernel
theorem dX9_makeGood_31 : decode cX9_makeGood 31 = .ok (.iadd, 1) := by decide +kernel
theorem dX9_makeGood_32 : decode cX9_makeGood 32 = .ok (.istore 4, 2) := by decide +kernel
theorem dX9_makeGood_34 : decode cX9_makeGood 34 = .ok (.sipush 723, 3) := by decide +kernel
theorem dX9_makeGood_37 : decode cX9_makeGood 37 = .ok (.iconst 4, 1) := by decide +kernel
theorem dX9_makeGood_38 : decode cX9_makeGood 38 = .ok (.iload_n 2, 1) := by decide +kernel
theorem dX9_makeGood_39 : decode cX9_makeGood 39 = .ok (.imul, 1) := by decide +kernel
theorem dX9_makeGood_40 : decode cX9_makeGood 40 = .ok (.iadd, 1) := by decide +kernel
theorem dX9_makeGood_41 : decode cX9_makeGood 41 = .ok (.istore 5, 2) := by decide +kernel
theorem dX9_makeGood_43 : decode cX9_makeGood 43 = .ok (.aload_n 0, 1) := by decide +kernel
theorem dX9_makeGood_44 : decode cX9_makeGood 44 = .ok (.iload_n 3, 1) := by decide +kernel
theorem dX9_makeGood_45 : decode cX9_makeGood 45 = .ok (.invokevirtual 278, 3) := by decide +kernel
theorem dX9_makeGood_48 : decode cX9_makeGood 48 = .ok (.istore 6, 2) := by decide +kernel
theorem dX9_makeGood_50 : decode cX9_makeGood 50 = .ok (.iload 6, 2) := by decide +kernel
theorem dX9_makeGood_52 : decode cX9_makeGood 52 = .ok (.iconst (-1), 1) := by decide +kernel
theorem dX9_makeGood_53 : decode cX9_makeGood 53 = .ok (.if_icmp .eq 50, 3) := by decide +kernel
theorem dX9_makeGood_56 : decode cX9_makeGood 56 = .ok (.aload_n 0, 1) := by decide +kernel
theorem dX9_makeGood_57 : decode cX9_makeGood 57 = .ok (.iload 6, 2) := by decide +kernel
theorem dX9_makeGood_59 : decode cX9_makeGood 59 = .ok (.aload_n 0, 1) := by decide +kernel
theorem dX9_makeGood_60 : decode cX9_makeGood 60 = .ok (.aload_n 0, 1) := by decide +kernel
theorem dX9_makeGood_61 : decode cX9_makeGood 61 = .ok (.getfield 17, 3) := by decide +kernel
theorem dX9_makeGood_64 : decode cX9_makeGood 64 = .ok (.iload 4, 2) := by decide +kernel
theorem dX9_makeGood_66 : decode cX9_makeGood 66 = .ok (.iaload, 1) := by decide +kernel
theorem dX9_makeGood_67 : decode cX9_makeGood 67 = .ok (.iload 6, 2) := by decide +kernel
theorem dX9_makeGood_69 : decode cX9_makeGood 69 = .ok (.invokevirtual 205, 3) := by decide +kernel
theorem dX9_makeGood_72 : decode cX9_makeGood 72 = .ok (.aload_n 0, 1) := by decide +kernel
theorem dX9_makeGood_73 : decode cX9_makeGood 73 = .ok (.getfield 17, 3) := by decide +kernel
theorem dX9_makeGood_76 : decode cX9_makeGood 76 = .ok (.iload 4, 2) := by decide +kernel
theorem dX9_makeGood_78 : decode cX9_makeGood 78 = .ok (.iaload, 1) := by decide +kernel
theorem dX9_makeGood_79 : decode cX9_makeGood 79 = .ok (.aload_n 0, 1) := by decide +kernel
theorem dX9_makeGood_80 : decode cX9_makeGood 80 = .ok (.getfield 17, 3) := by decide +kernel
theorem dX9_makeGood_83 : decode cX9_makeGood 83 = .ok (.iload 4, 2) := by decide +kernel
theorem dX9_makeGood_85 : decode cX9_makeGood 85 = .ok (.iconst 1, 1) := by decide +kernel
theorem dX9_makeGood_86 : decode cX9_makeGood 86 = .ok (.iadd, 1) := by decide +kernel
theorem dX9_makeGood_87 : decode cX9_makeGood 87 = .ok (.iaload, 1) := by decide +kernel
theorem dX9_makeGood_88 : decode cX9_makeGood 88 = .ok (.aload_n 0, 1) := by decide +kernel
theorem dX9_makeGood_89 : decode cX9_makeGood 89 = .ok (.getfield 17, 3) := by decide +kernel
theorem dX9_makeGood_92 : decode cX9_makeGood 92 = .ok (.iload 4, 2) := by decide +kernel
theorem dX9_makeGood_94 : decode cX9_makeGood 94 = .ok (.iconst 2, 1) := by decide +kernel
theorem dX9_makeGood_95 : decode cX9_makeGood 95 = .ok (.iadd, 1) := by decide +kernel
theorem dX9_makeGood_96 : decode cX9_makeGood 96 = .ok (.iaload, 1) := by decide +kernel
theorem dX9_makeGood_97 : decode cX9_makeGood 97 = .ok (.invokevirtual 265, 3) := by decide +kernel
theorem dX9_makeGood_100 : decode cX9_makeGood 100 = .ok (.goto 41, 3) := by decide +kernel
theorem dX9_makeGood_103 : decode cX9_makeGood 103 = .ok (.iconst 0, 1) := by decide +kernel
theorem dX9_makeGood_104 : decode cX9_makeGood 104 = .ok (.istore 7, 2) := by decide +kernel
theorem dX9_makeGood_106 : decode cX9_makeGood 106 = .ok (.iload 7, 2) := by decide +kernel
theorem dX9_makeGood_108 : decode cX9_makeGood 108 = .ok (.iconst 4, 1) := by decide +kernel
theorem dX9_makeGood_109 : decode cX9_makeGood 109 = .ok (.if_icmp .ge 29, 3) := by decide +kernel
theorem dX9_makeGood_112 : decode cX9_makeGood 112 = .ok (.aload_n 0, 1) := by decide +kernel
theorem dX9_makeGood_113 : decode cX9_makeGood 113 = .ok (.getfield 17, 3) := by decide +kernel
theorem dX9_makeGood_116 : decode cX9_makeGood 116 = .ok (.iload 5, 2) := by decide +kernel
theorem dX9_makeGood_118 : decode cX9_makeGood 118 = .ok (.iload 7, 2) := by decide +kernel
theorem dX9_makeGood_120 : decode cX9_makeGood 120 = .ok (.iadd, 1) := by decide +kernel
theorem dX9_makeGood_121 : decode cX9_makeGood 121 = .ok (.aload_n 0, 1) := by decide +kernel
theorem dX9_makeGood_122 : decode cX9_makeGood 122 = .ok (.getfield 17, 3) := by decide +kernel
theorem dX9_makeGood_125 : decode cX9_makeGood 125 = .ok (.iload 4, 2) := by decide +kernel
theorem dX9_makeGood_127 : decode cX9_makeGood 127 = .ok (.iload 7, 2) := by decide +kernel
theorem dX9_makeGood_129 : decode cX9_makeGood 129 = .ok (.iadd, 1) := by decide +kernel
theorem dX9_makeGood_130 : decode cX9_makeGood 130 = .ok (.iaload, 1) := by decide +kernel
theorem dX9_makeGood_131 : decode cX9_makeGood 131 = .ok (.iastore, 1) := by decide +kernel
theorem dX9_makeGood_132 : decode cX9_makeGood 132 = .ok (.iinc 7 1, 3) := by decide +kernel
theorem dX9_makeGood_135 : decode cX9_makeGood 135 = .ok (.goto (-29), 3) := by decide +kernel
theorem dX9_makeGood_138 : decode cX9_makeGood 138 = .ok (.iinc 2 1, 3) := by decide +kernel
theorem dX9_makeGood_141 : decode cX9_makeGood 141 = .ok (.iinc 3 1, 3) := by decide +kernel
theorem dX9_makeGood_144 : decode cX9_makeGood 144 = .ok (.goto (-124), 3) := by decide +kernel
theorem dX9_makeGood_147 : decode cX9_makeGood 147 = .ok (.aload_n 0, 1) := by decide +kernel
theorem dX9_makeGood_148 : decode cX9_makeGood 148 = .ok (.getfield 17, 3) := by decide +kernel
theorem dX9_makeGood_151 : decode cX9_makeGood 151 = .ok (.iconst 5, 1) := by decide +kernel
theorem dX9_makeGood_152 : decode cX9_makeGood 152 = .ok (.iload_n 2, 1) := by decide +kernel
theorem dX9_makeGood_153 : decode cX9_makeGood 153 = .ok (.iastore, 1) := by decide +kernel
theorem dX9_makeGood_154 : decode cX9_makeGood 154 = .ok (.iload_n 1, 1) := by decide +kernel
theorem dX9_makeGood_155 : decode cX9_makeGood 155 = .ok (.iload_n 2, 1) := by decide +kernel
theorem dX9_makeGood_156 : decode cX9_makeGood 156 = .ok (.isub, 1) := by decide +kernel
theorem dX9_makeGood_157 : decode cX9_makeGood 157 = .ok (.ireturn, 1) := by decide +kernel
theorem dX9_campaign_0 : decode cX9_campaign 0 = .ok (.aload_n 0, 1) := by decide +kernel
theorem dX9_campaign_1 : decode cX9_campaign 1 = .ok (.iconst 0, 1) := by decide +kernel
theorem dX9_campaign_2 : decode cX9_campaign 2 = .ok (.putfield 41, 3) := by decide +kernel
theorem dX9_campaign_5 : decode cX9_campaign 5 = .ok (.aload_n 0, 1) := by decide +kernel
theorem dX9_campaign_6 : decode cX9_campaign 6 = .ok (.iload_n 1, 1) := by decide +kernel
theorem dX9_campaign_7 : decode cX9_campaign 7 = .ok (.invokevirtual 232, 3) := by decide +kernel
theorem dX9_campaign_10 : decode cX9_campaign 10 = .ok (.ifCond .ne 34, 3) := by decide +kernel
theorem dX9_campaign_13 : decode cX9_campaign 13 = .ok (.aload_n 0, 1) := by decide +kernel
theorem dX9_campaign_14 : decode cX9_campaign 14 = .ok (.iload_n 2, 1) := by decide +kernel
theorem dX9_campaign_15 : decode cX9_campaign 15 = .ok (.invokevirtual 238, 3) := by decide +kernel
theorem dX9_campaign_18 : decode cX9_campaign 18 = .ok (.ifCond .ne 26, 3) := by decide +kernel
theorem dX9_campaign_21 : decode cX9_campaign 21 = .ok (.aload_n 0, 1) := by decide +kernel
theorem dX9_campaign_22 : decode cX9_campaign 22 = .ok (.iload_n 3, 1) := by decide +kernel
theorem dX9_campaign_23 : decode cX9_campaign 23 = .ok (.iconst 1, 1) := by decide +kernel
theorem dX9_campaign_24 : decode cX9_campaign 24 = .ok (.bipush 20, 2) := by decide +kernel
theorem dX9_campaign_26 : decode cX9_campaign 26 = .ok (.invokestatic 66, 3) := by decide +kernel
theorem dX9_campaign_29 : decode cX9_campaign 29 = .ok (.ifCond .ne 7, 3) := by decide +kernel
theorem dX9_campaign_32 : decode cX9_campaign 32 = .ok (.iconst 1, 1) := by decide +kernel
theorem dX9_campaign_33 : decode cX9_campaign 33 = .ok (.goto 4, 3) := by decide +kernel
theorem dX9_campaign_36 : decode cX9_campaign 36 = .ok (.iconst 0, 1) := by decide +kernel
theorem dX9_campaign_37 : decode cX9_campaign 37 = .ok (.iconst 2, 1) := by decide +kernel
theorem dX9_campaign_38 : decode cX9_campaign 38 = .ok (.invokevirtual 166, 3) := by decide +kernel
theorem dX9_campaign_41 : decode cX9_campaign 41 = .ok (.ifCond .eq 5, 3) := by decide +kernel
theorem dX9_campaign_44 : decode cX9_campaign 44 = .ok (.iconst 0, 1) := by decide +kernel
theorem dX9_campaign_45 : decode cX9_campaign 45 = .ok (.ireturn, 1) := by decide +kernel
theorem dX9_campaign_46 : decode cX9_campaign 46 = .ok (.aload_n 0, 1) := by decide +kernel
theorem dX9_campaign_47 : decode cX9_campaign 47 = .ok (.invokevirtual 178, 3) := by decide +kernel
theorem dX9_campaign_50 : decode cX9_campaign 50 = .ok (.iconst 0, 1) := by decide +kernel
theorem dX9_campaign_51 : decode cX9_campaign 51 = .ok (.istore 4, 2) := by decide +kernel
theorem dX9_campaign_53 : decode cX9_campaign 53 = .ok (.aload_n 0, 1) := by decide +kernel
theorem dX9_campaign_54 : decode cX9_campaign 54 = .ok (.iload_n 1, 1) := by decide +kernel
theorem dX9_campaign_55 : decode cX9_campaign 55 = .ok (.iload_n 2, 1) := by decide +kernel
theorem dX9_campaign_56 : decode cX9_campaign 56 = .ok (.invokevirtual 247, 3) := by decide +kernel
theorem dX9_campaign_59 : decode cX9_campaign 59 = .ok (.istore 5, 2) := by decide +kernel
theorem dX9_campaign_61 : decode cX9_campaign 61 = .ok (.iload 5, 2) := by decide +kernel
theorem dX9_campaign_63 : decode cX9_campaign 63 = .ok (.iconst (-1), 1) := by decide +kernel
theorem dX9_campaign_64 : decode cX9_campaign 64 = .ok (.if_icmp .eq 33, 3) := by decide +kernel
theorem dX9_campaign_67 : decode cX9_campaign 67 = .ok (.iload 4, 2) := by decide +kernel
theorem dX9_campaign_69 : decode cX9_campaign 69 = .ok (.iload_n 3, 1) := by decide +kernel
theorem dX9_campaign_70 : decode cX9_campaign 70 = .ok (.if_icmp .ge 27, 3) := by decide +kernel
theorem dX9_campaign_73 : decode cX9_campaign 73 = .ok (.aload_n 0, 1) := by decide +kernel
theorem dX9_campaign_74 : decode cX9_campaign 74 = .ok (.iload_n 1, 1) := by decide +kernel
theorem dX9_campaign_75 : decode cX9_campaign 75 = .ok (.iload_n 2, 1) := by decide +kernel
theorem dX9_campaign_76 : decode cX9_campaign 76 = .ok (.iload 5, 2) := by decide +kernel
theorem dX9_campaign_78 : decode cX9_campaign 78 = .ok (.invokevirtual 269, 3) := by decide +kernel
theorem dX9_campaign_81 : decode cX9_campaign 81 = .ok (.istore 6, 2) := by decide +kernel
theorem dX9_campaign_83 : decode cX9_campaign 83 = .ok (.iinc 4 1, 3) := by decide +kernel
theorem dX9_campaign_86 : decode cX9_campaign 86 = .ok (.aload_n 0, 1) := by decide +kernel
theorem dX9_campaign_87 : decode cX9_campaign 87 = .ok (.iload_n 1, 1) := by decide +kernel
theorem dX9_campaign_88 : decode cX9_campaign 88 = .ok (.iload_n 2, 1) := by decide +kernel
theorem dX9_campaign_89 : decode cX9_campaign 89 = .ok (.invokevirtual 247, 3) := by decide +kernel
theorem dX9_campaign_92 : decode cX9_campaign 92 = .ok (.istore 5, 2) := by decide +kernel
theorem dX9_campaign_94 : decode cX9_campaign 94 = .ok (.goto (-33), 3) := by decide +kernel
theorem dX9_campaign_97 : decode cX9_campaign 97 = .ok (.iload 4, 2) := by decide +kernel
theorem dX9_campaign_99 : decode cX9_campaign 99 = .ok (.ireturn, 1) := by decide +kernel
theorem dX9_setCap_0 : decode cX9_setCap 0 = .ok (.aload_n 0, 1) := by decide +kernel
theorem dX9_setCap_1 : decode cX9_setCap 1 = .ok (.iconst 0, 1) := by decide +kernel
theorem dX9_setCap_2 : decode cX9_setCap 2 = .ok (.putfield 41, 3) := by decide +kernel
theorem dX9_setCap_5 : decode cX9_setCap 5 = .ok (.aload_n 0, 1) := by decide +kernel
theorem dX9_setCap_6 : decode cX9_setCap 6 = .ok (.iload_n 1, 1) := by decide +kernel
theorem dX9_setCap_7 : decode cX9_setCap 7 = .ok (.invokevirtual 232, 3) := by decide +kernel
theorem dX9_setCap_10 : decode cX9_setCap 10 = .ok (.ifCond .ne 26, 3) := by decide +kernel
theorem dX9_setCap_13 : decode cX9_setCap 13 = .ok (.aload_n 0, 1) := by decide +kernel
theorem dX9_setCap_14 : decode cX9_setCap 14 = .ok (.iload_n 2, 1) := by decide +kernel
theorem dX9_setCap_15 : decode cX9_setCap 15 = .ok (.iconst 1, 1) := by decide +kernel
theorem dX9_setCap_16 : decode cX9_setCap 16 = .ok (.bipush 9, 2) := by decide +kernel
theorem dX9_setCap_18 : decode cX9_setCap 18 = .ok (.invokestatic 66, 3) := by decide +kernel
theorem dX9_setCap_21 : decode cX9_setCap 21 = .ok (.ifCond .ne 7, 3) := by decide +kernel
theorem dX9_setCap_24 : decode cX9_setCap 24 = .ok (.iconst 1, 1) := by decide +kernel
theorem dX9_setCap_25 : decode cX9_setCap 25 = .ok (.goto 4, 3) := by decide +kernel
theorem dX9_setCap_28 : decode cX9_setCap 28 = .ok (.iconst 0, 1) := by decide +kernel
theorem dX9_setCap_29 : decode cX9_setCap 29 = .ok (.iconst 2, 1) := by decide +kernel
theorem dX9_setCap_30 : decode cX9_setCap 30 = .ok (.invokevirtual 166, 3) := by decide +kernel
theorem dX9_setCap_33 : decode cX9_setCap 33 = .ok (.ifCond .eq 5, 3) := by decide +kernel
theorem dX9_setCap_36 : decode cX9_setCap 36 = .ok (.iconst 0, 1) := by decide +kernel
theorem dX9_setCap_37 : decode cX9_setCap 37 = .ok (.ireturn, 1) := by decide +kernel
theorem dX9_setCap_38 : decode cX9_setCap 38 = .ok (.aload_n 0, 1) := by decide +kernel
theorem dX9_setCap_39 : decode cX9_setCap 39 = .ok (.invokevirtual 178, 3) := by decide +kernel
theorem dX9_setCap_42 : decode cX9_setCap 42 = .ok (.aload_n 0, 1) := by decide +kernel
theorem dX9_setCap_43 : decode cX9_setCap 43 = .ok (.getfield 17, 3) := by decide +kernel
theorem dX9_setCap_46 : decode cX9_setCap 46 = .ok (.sipush 607, 3) := by decide +kernel
theorem dX9_setCap_49 : decode cX9_setCap 49 = .ok (.iconst 2, 1) := by decide +kernel
theorem dX9_setCap_50 : decode cX9_setCap 50 = .ok (.iload_n 1, 1) := by decide +kernel
theorem dX9_setCap_51 : decode cX9_setCap 51 = .ok (.imul, 1) := by decide +kernel
theorem dX9_setCap_52 : decode cX9_setCap 52 = .ok (.iadd, 1) := by decide +kernel
theorem dX9_setCap_53 : decode cX9_setCap 53 = .ok (.iconst 1, 1) := by decide +kernel
theorem dX9_setCap_54 : decode cX9_setCap 54 = .ok (.iadd, 1) := by decide +kernel
theorem dX9_setCap_55 : decode cX9_setCap 55 = .ok (.iaload, 1) := by decide +kernel
theorem dX9_setCap_56 : decode cX9_setCap 56 = .ok (.istore_n 3, 1) := by decide +kernel
theorem dX9_setCap_57 : decode cX9_setCap 57 = .ok (.aload_n 0, 1) := by decide +kernel
theorem dX9_setCap_58 : decode cX9_setCap 58 = .ok (.getfield 17, 3) := by decide +kernel
theorem dX9_setCap_61 : decode cX9_setCap 61 = .ok (.sipush 607, 3) := by decide +kernel
theorem dX9_setCap_64 : decode cX9_setCap 64 = .ok (.iconst 2, 1) := by decide +kernel
theorem dX9_setCap_65 : decode cX9_setCap 65 = .ok (.iload_n 1, 1) := by decide +kernel
theorem dX9_setCap_66 : decode cX9_setCap 66 = .ok (.imul, 1) := by decide +kernel
theorem dX9_setCap_67 : decode cX9_setCap 67 = .ok (.iadd, 1) := by decide +kernel
theorem dX9_setCap_68 : decode cX9_setCap 68 = .ok (.iconst 1, 1) := by decide +kernel
theorem dX9_setCap_69 : decode cX9_setCap 69 = .ok (.iadd, 1) := by decide +kernel
theorem dX9_setCap_70 : decode cX9_setCap 70 = .ok (.iload_n 2, 1) := by decide +kernel
theorem dX9_setCap_71 : decode cX9_setCap 71 = .ok (.iastore, 1) := by decide +kernel
theorem dX9_setCap_72 : decode cX9_setCap 72 = .ok (.iload_n 3, 1) := by decide +kernel
theorem dX9_setCap_73 : decode cX9_setCap 73 = .ok (.ireturn, 1) := by decide +kernel
theorem dX9_undo_0 : decode cX9_undo 0 = .ok (.aload_n 0, 1) := by decide +kernel
theorem dX9_undo_1 : decode cX9_undo 1 = .ok (.iconst 0, 1) := by decide +kernel
theorem dX9_undo_2 : decode cX9_undo 2 = .ok (.putfield 41, 3) := by decide +kernel
theorem dX9_undo_5 : decode cX9_undo 5 = .ok (.aload_n 0, 1) := by decide +kernel
theorem dX9_undo_6 : decode cX9_undo 6 = .ok (.getfield 262, 3) := by decide +kernel
theorem dX9_undo_9 : decode cX9_undo 9 = .ok (.ifCond .ne 5, 3) := by decide +kernel
theorem dX9_undo_12 : decode cX9_undo 12 = .ok (.iconst (-1), 1) := by decide +kernel
theorem dX9_undo_13 : decode cX9_undo 13 = .ok (.ireturn, 1) := by decide +kernel
theorem dX9_undo_14 : decode cX9_undo 14 = .ok (.aload_n 0, 1) := by decide +kernel
theorem dX9_undo_15 : decode cX9_undo 15 = .ok (.dup, 1) := by decide +kernel
theorem dX9_undo_16 : decode cX9_undo 16 = .ok (.getfield 262, 3) := by decide +kernel
theorem dX9_undo_19 : decode cX9_undo 19 = .ok (.iconst 1, 1) := by decide +kernel
theorem dX9_undo_20 : decode cX9_undo 20 = .ok (.isub, 1) := by decide +kernel
theorem dX9_undo_21 : decode cX9_undo 21 = .ok (.putfield 262, 3) := by decide +kernel
theorem dX9_undo_24 : decode cX9_undo 24 = .ok (.aload_n 0, 1) := by decide +kernel
theorem dX9_undo_25 : decode cX9_undo 25 = .ok (.getfield 25, 3) := by decide +kernel
theorem dX9_undo_28 : decode cX9_undo 28 = .ok (.aload_n 0, 1) := by decide +kernel
theorem dX9_undo_29 : decode cX9_undo 29 = .ok (.getfield 262, 3) := by decide +kernel
theorem dX9_undo_32 : decode cX9_undo 32 = .ok (.aaload, 1) := by decide +kernel
theorem dX9_undo_33 : decode cX9_undo 33 = .ok (.aload_n 0, 1) := by decide +kernel
theorem dX9_undo_34 : decode cX9_undo 34 = .ok (.getfield 17, 3) := by decide +kernel
theorem dX9_undo_37 : decode cX9_undo 37 = .ok (.invokestatic 181, 3) := by decide +kernel
theorem dX9_undo_40 : decode cX9_undo 40 = .ok (.aload_n 0, 1) := by decide +kernel
theorem dX9_undo_41 : decode cX9_undo 41 = .ok (.getfield 262, 3) := by decide +kernel
theorem dX9_undo_44 : decode cX9_undo 44 = .ok (.ireturn, 1) := by decide +kernel
theorem dX9_checksum_0 : decode cX9_checksum 0 = .ok (.aload_n 0, 1) := by decide +kernel
theorem dX9_checksum_1 : decode cX9_checksum 1 = .ok (.iconst 0, 1) := by decide +kernel
theorem dX9_checksum_2 : decode cX9_checksum 2 = .ok (.putfield 41, 3) := by decide +kernel
theorem dX9_checksum_5 : decode cX9_checksum 5 = .ok (.lconst 0, 1) := by decide +kernel
theorem dX9_checksum_6 : decode cX9_checksum 6 = .ok (.lstore_n 1, 1) := by decide +kernel
theorem dX9_checksum_7 : decode cX9_checksum 7 = .ok (.iconst 0, 1) := by decide +kernel
theorem dX9_checksum_8 : decode cX9_checksum 8 = .ok (.istore_n 3, 1) := by decide +kernel
theorem dX9_checksum_9 : decode cX9_checksum 9 = .ok (.iload_n 3, 1) := by decide +kernel
theorem dX9_checksum_10 : decode cX9_checksum 10 = .ok (.aload_n 0, 1) := by decide +kernel
theorem dX9_checksum_11 : decode cX9_checksum 11 = .ok (.getfield 17, 3) := by decide +kernel
theorem dX9_checksum_14 : decode cX9_checksum 14 = .ok (.iconst 0, 1) := by decide +kernel
theorem dX9_checksum_15 : decode cX9_checksum 15 = .ok (.iaload, 1) := by decide +kernel
theorem dX9_checksum_16 : decode cX9_checksum 16 = .ok (.if_icmp .ge 70, 3) := by decide +kernel
theorem dX9_checksum_19 : decode cX9_checksum 19 = .ok (.ldc2_w 281, 3) := by decide +kernel
theorem dX9_checksum_22 : decode cX9_checksum 22 = .ok (.lload_n 1, 1) := by decide +kernel
theorem dX9_checksum_23 : decode cX9_checksum 23 = .ok (.lmul, 1) := by decide +kernel
theorem dX9_checksum_24 : decode cX9_checksum 24 = .ok (.aload_n 0, 1) := by decide +kernel
theorem dX9_checksum_25 : decode cX9_checksum 25 = .ok (.getfield 17, 3) := by decide +kernel
theorem dX9_checksum_28 : decode cX9_checksum 28 = .ok (.iload_n 3, 1) := by decide +kernel
theorem dX9_checksum_29 : decode cX9_checksum 29 = .ok (.invokestatic 44, 3) := by decide +kernel
theorem dX9_checksum_32 : decode cX9_checksum 32 = .ok (.iconst 4, 1) := by decide +kernel
theorem dX9_checksum_33 : decode cX9_checksum 33 = .ok (.iadd, 1) := by decide +kernel
theorem dX9_checksum_34 : decode cX9_checksum 34 = .ok (.iaload, 1) := by decide +kernel
theorem dX9_checksum_35 : decode cX9_checksum 35 = .ok (.i2l, 1) := by decide +kernel
theorem dX9_checksum_36 : decode cX9_checksum 36 = .ok (.ladd, 1) := by decide +kernel
theorem dX9_checksum_37 : decode cX9_checksum 37 = .ok (.lstore_n 1, 1) := by decide +kernel
theorem dX9_checksum_38 : decode cX9_checksum 38 = .ok (.iconst 0, 1) := by decide +kernel
theorem dX9_checksum_39 : decode cX9_checksum 39 = .ok (.istore 4, 2) := by decide +kernel
theorem dX9_checksum_41 : decode cX9_checksum 41 = .ok (.iload 4, 2) := by decide +kernel
theorem dX9_checksum_43 : decode cX9_checksum 43 = .ok (.iconst 3, 1) := by decide +kernel
theorem dX9_checksum_44 : decode cX9_checksum 44 = .ok (.aload_n 0, 1) := by decide +kernel
theorem dX9_checksum_45 : decode cX9_checksum 45 = .ok (.iload_n 3, 1) := by decide +kernel
theorem dX9_checksum_46 : decode cX9_checksum 46 = .ok (.invokevirtual 185, 3) := by decide +kernel
theorem dX9_checksum_49 : decode cX9_checksum 49 = .ok (.imul, 1) := by decide +kernel
theorem dX9_checksum_50 : decode cX9_checksum 50 = .ok (.if_icmp .ge 30, 3) := by decide +kernel
theorem dX9_checksum_53 : decode cX9_checksum 53 = .ok (.ldc2_w 281, 3) := by decide +kernel
theorem dX9_checksum_56 : decode cX9_checksum 56 = .ok (.lload_n 1, 1) := by decide +kernel
theorem dX9_checksum_57 : decode cX9_checksum 57 = .ok (.lmul, 1) := by decide +kernel
theorem dX9_checksum_58 : decode cX9_checksum 58 = .ok (.aload_n 0, 1) := by decide +kernel
theorem dX9_checksum_59 : decode cX9_checksum 59 = .ok (.getfield 17, 3) := by decide +kernel
theorem dX9_checksum_62 : decode cX9_checksum 62 = .ok (.iload_n 3, 1) := by decide +kernel
theorem dX9_checksum_63 : decode cX9_checksum 63 = .ok (.iconst 0, 1) := by decide +kernel
theorem dX9_checksum_64 : decode cX9_checksum 64 = .ok (.invokestatic 188, 3) := by decide +kernel
theorem dX9_checksum_67 : decode cX9_checksum 67 = .ok (.iload 4, 2) := by decide +kernel
theorem dX9_checksum_69 : decode cX9_checksum 69 = .ok (.iadd, 1) := by decide +kernel
theorem dX9_checksum_70 : decode cX9_checksum 70 = .ok (.iaload, 1) := by decide +kernel
theorem dX9_checksum_71 : decode cX9_checksum 71 = .ok (.i2l, 1) := by decide +kernel
theorem dX9_checksum_72 : decode cX9_checksum 72 = .ok (.ladd, 1) := by decide +kernel
theorem dX9_checksum_73 : decode cX9_checksum 73 = .ok (.lstore_n 1, 1) := by decide +kernel
theorem dX9_checksum_74 : decode cX9_checksum 74 = .ok (.iinc 4 1, 3) := by decide +kernel
theorem dX9_checksum_77 : decode cX9_checksum 77 = .ok (.goto (-36), 3) := by decide +kernel
theorem dX9_checksum_80 : decode cX9_checksum 80 = .ok (.iinc 3 1, 3) := by decide +kernel
theorem dX9_checksum_83 : decode cX9_checksum 83 = .ok (.goto (-74), 3) := by decide +kernel
theorem dX9_checksum_86 : decode cX9_checksum 86 = .ok (.iconst 0, 1) := by decide +kernel
theorem dX9_checksum_87 : decode cX9_checksum 87 = .ok (.istore_n 3, 1) := by decide +kernel
theorem dX9_checksum_88 : decode cX9_checksum 88 = .ok (.iload_n 3, 1) := by decide +kernel
theorem dX9_checksum_89 : decode cX9_checksum 89 = .ok (.iconst 4, 1) := by decide +kernel
theorem dX9_checksum_90 : decode cX9_checksum 90 = .ok (.aload_n 0, 1) := by decide +kernel
theorem dX9_checksum_91 : decode cX9_checksum 91 = .ok (.getfield 17, 3) := by decide +kernel
theorem dX9_checksum_94 : decode cX9_checksum 94 = .ok (.iconst 5, 1) := by decide +kernel
theorem dX9_checksum_95 : decode cX9_checksum 95 = .ok (.iaload, 1) := by decide +kernel
theorem dX9_checksum_96 : decode cX9_checksum 96 = .ok (.imul, 1) := by decide +kernel
theorem dX9_checksum_97 : decode cX9_checksum 97 = .ok (.if_icmp .ge 27, 3) := by decide +kernel
theorem dX9_checksum_100 : decode cX9_checksum 100 = .ok (.ldc2_w 281, 3) := by decide +kernel
theorem dX9_checksum_103 : decode cX9_checksum 103 = .ok (.lload_n 1, 1) := by decide +kernel
theorem dX9_checksum_104 : decode cX9_checksum 104 = .ok (.lmul, 1) := by decide +kernel
theorem dX9_checksum_105 : decode cX9_checksum 105 = .ok (.aload_n 0, 1) := by decide +kernel
theorem dX9_checksum_106 : decode cX9_checksum 106 = .ok (.getfield 17, 3) := by decide +kernel
theorem dX9_checksum_109 : decode cX9_checksum 109 = .ok (.sipush 723, 3) := by decide +kernel
theorem dX9_checksum_112 : decode cX9_checksum 112 = .ok (.iload_n 3, 1) := by decide +kernel
theorem dX9_checksum_113 : decode cX9_checksum 113 = .ok (.iadd, 1) := by decide +kernel
theorem dX9_checksum_114 : decode cX9_checksum 114 = .ok (.iaload, 1) := by decide +kernel
theorem dX9_checksum_115 : decode cX9_checksum 115 = .ok (.i2l, 1) := by decide +kernel
theorem dX9_checksum_116 : decode cX9_checksum 116 = .ok (.ladd, 1) := by decide +kernel
theorem dX9_checksum_117 : decode cX9_checksum 117 = .ok (.lstore_n 1, 1) := by decide +kernel
theorem dX9_checksum_118 : decode cX9_checksum 118 = .ok (.iinc 3 1, 3) := by decide +kernel
theorem dX9_checksum_121 : decode cX9_checksum 121 = .ok (.goto (-33), 3) := by decide +kernel
theorem dX9_checksum_124 : decode cX9_checksum 124 = .ok (.iconst 0, 1) := by decide +kernel
theorem dX9_checksum_125 : decode cX9_checksum 125 = .ok (.istore_n 3, 1) := by decide +kernel
theorem dX9_checksum_126 : decode cX9_checksum 126 = .ok (.iload_n 3, 1) := by decide +kernel
theorem dX9_checksum_127 : decode cX9_checksum 127 = .ok (.aload_n 0, 1) := by decide +kernel
theorem dX9_checksum_128 : decode cX9_checksum 128 = .ok (.getfield 17, 3) := by decide +kernel
theorem dX9_checksum_131 : decode cX9_checksum 131 = .ok (.iconst 1, 1) := by decide +kernel
theorem dX9_checksum_132 : decode cX9_checksum 132 = .ok (.iaload, 1) := by decide +kernel
theorem dX9_checksum_133 : decode cX9_checksum 133 = .ok (.if_icmp .ge 31, 3) := by decide +kernel
theorem dX9_checksum_136 : decode cX9_checksum 136 = .ok (.ldc2_w 281, 3) := by decide +kernel
theorem dX9_checksum_139 : decode cX9_checksum 139 = .ok (.lload_n 1, 1) := by decide +kernel
theorem dX9_checksum_140 : decode cX9_checksum 140 = .ok (.lmul, 1) := by decide +kernel
theorem dX9_checksum_141 : decode cX9_checksum 141 = .ok (.aload_n 0, 1) := by decide +kernel
theorem dX9_checksum_142 : decode cX9_checksum 142 = .ok (.getfield 17, 3) := by decide +kernel
theorem dX9_checksum_145 : decode cX9_checksum 145 = .ok (.sipush 607, 3) := by decide +kernel
theorem dX9_checksum_148 : decode cX9_checksum 148 = .ok (.iconst 2, 1) := by decide +kernel
theorem dX9_checksum_149 : decode cX9_checksum 149 = .ok (.iload_n 3, 1) := by decide +kernel
theorem dX9_checksum_150 : decode cX9_checksum 150 = .ok (.imul, 1) := by decide +kernel
theorem dX9_checksum_151 : decode cX9_checksum 151 = .ok (.iadd, 1) := by decide +kernel
theorem dX9_checksum_152 : decode cX9_checksum 152 = .ok (.iconst 1, 1) := by decide +kernel
theorem dX9_checksum_153 : decode cX9_checksum 153 = .ok (.iadd, 1) := by decide +kernel
theorem dX9_checksum_154 : decode cX9_checksum 154 = .ok (.iaload, 1) := by decide +kernel
theorem dX9_checksum_155 : decode cX9_checksum 155 = .ok (.i2l, 1) := by decide +kernel
theorem dX9_checksum_156 : decode cX9_checksum 156 = .ok (.ladd, 1) := by decide +kernel
theorem dX9_checksum_157 : decode cX9_checksum 157 = .ok (.lstore_n 1, 1) := by decide +kernel
theorem dX9_checksum_158 : decode cX9_checksum 158 = .ok (.iinc 3 1, 3) := by decide +kernel
theorem dX9_checksum_161 : decode cX9_checksum 161 = .ok (.goto (-35), 3) := by decide +kernel
theorem dX9_checksum_164 : decode cX9_checksum 164 = .ok (.ldc2_w 281, 3) := by decide +kernel
theorem dX9_checksum_167 : decode cX9_checksum 167 = .ok (.lload_n 1, 1) := by decide +kernel
theorem dX9_checksum_168 : decode cX9_checksum 168 = .ok (.lmul, 1) := by decide +kernel
theorem dX9_checksum_169 : decode cX9_checksum 169 = .ok (.aload_n 0, 1) := by decide +kernel
theorem dX9_checksum_170 : decode cX9_checksum 170 = .ok (.getfield 17, 3) := by decide +kernel
theorem dX9_checksum_173 : decode cX9_checksum 173 = .ok (.bipush 6, 2) := by decide +kernel
theorem dX9_checksum_175 : decode cX9_checksum 175 = .ok (.iaload, 1) := by decide +kernel
theorem dX9_checksum_176 : decode cX9_checksum 176 = .ok (.i2l, 1) := by decide +kernel
theorem dX9_checksum_177 : decode cX9_checksum 177 = .ok (.ladd, 1) := by decide +kernel
theorem dX9_checksum_178 : decode cX9_checksum 178 = .ok (.lreturn, 1) := by decide +kernel
theorem dL_load_0 : decode cL_load 0 = .ok (.aload_n 2, 1) := by decide +kernel
theorem dL_load_1 : decode cL_load 1 = .ok (.iconst 0, 1) := by decide +kernel
theorem dL_load_2 : decode cL_load 2 = .ok (.aload_n 0, 1) := by decide +kernel
theorem dL_load_3 : decode cL_load 3 = .ok (.iload_n 1, 1) := by decide +kernel
theorem dL_load_4 : decode cL_load 4 = .ok (.invokevirtual 7, 3) := by decide +kernel
theorem dL_load_7 : decode cL_load 7 = .ok (.i2l, 1) := by decide +kernel
theorem dL_load_8 : decode cL_load 8 = .ok (.lastore, 1) := by decide +kernel
theorem dL_load_9 : decode cL_load 9 = .ok (.goto 6, 3) := by decide +kernel
theorem dL_load_12 : decode cL_load 12 = .ok (.astore_n 3, 1) := by decide +kernel
theorem dL_load_13 : decode cL_load 13 = .ok (.iconst 1, 1) := by decide +kernel
theorem dL_load_14 : decode cL_load 14 = .ok (.ireturn, 1) := by decide +kernel
theorem dL_load_15 : decode cL_load 15 = .ok (.iconst 0, 1) := by decide +kernel
theorem dL_load_16 : decode cL_load 16 = .ok (.ireturn, 1) := by decide +kernel
theorem dL_breakOf_0 : decode cL_breakOf 0 = .ok (.aload_n 3, 1) := by decide +kernel
theorem dL_breakOf_1 : decode cL_breakOf 1 = .ok (.iconst 0, 1) := by decide +kernel
theorem dL_breakOf_2 : decode cL_breakOf 2 = .ok (.aload_n 0, 1) := by decide +kernel
theorem dL_breakOf_3 : decode cL_breakOf 3 = .ok (.iload_n 1, 1) := by decide +kernel
theorem dL_breakOf_4 : decode cL_breakOf 4 = .ok (.iload_n 2, 1) := by decide +kernel
theorem dL_breakOf_5 : decode cL_breakOf 5 = .ok (.invokevirtual 15, 3) := by decide +kernel
theorem dL_breakOf_8 : decode cL_breakOf 8 = .ok (.i2l, 1) := by decide +kernel
theorem dL_breakOf_9 : decode cL_breakOf 9 = .ok (.lastore, 1) := by decide +kernel
theorem dL_breakOf_10 : decode cL_breakOf 10 = .ok (.goto 11, 3) := by decide +kernel
theorem dL_breakOf_13 : decode cL_breakOf 13 = .ok (.astore 4, 2) := by decide +kernel
theorem dL_breakOf_15 : decode cL_breakOf 15 = .ok (.iconst 1, 1) := by decide +kernel
theorem dL_breakOf_16 : decode cL_breakOf 16 = .ok (.ireturn, 1) := by decide +kernel
theorem dL_breakOf_17 : decode cL_breakOf 17 = .ok (.astore 4, 2) := by decide +kernel
theorem dL_breakOf_19 : decode cL_breakOf 19 = .ok (.iconst 2, 1) := by decide +kernel
theorem dL_breakOf_20 : decode cL_breakOf 20 = .ok (.ireturn, 1) := by decide +kernel
theorem dL_breakOf_21 : decode cL_breakOf 21 = .ok (.iconst 0, 1) := by decide +kernel
theorem dL_breakOf_22 : decode cL_breakOf 22 = .ok (.ireturn, 1) := by decide +kernel
theorem dL_spot_0 : decode cL_spot 0 = .ok (.aload 4, 2) := by decide +kernel
theorem dL_spot_2 : decode cL_spot 2 = .ok (.iconst 0, 1) := by decide +kernel
theorem dL_spot_3 : decode cL_spot 3 = .ok (.aload_n 0, 1) := by decide +kernel
theorem dL_spot_4 : decode cL_spot 4 = .ok (.iload_n 1, 1) := by decide +kernel
theorem dL_spot_5 : decode cL_spot 5 = .ok (.iload_n 2, 1) := by decide +kernel
theorem dL_spot_6 : decode cL_spot 6 = .ok (.iload_n 3, 1) := by decide +kernel
theorem dL_spot_7 : decode cL_spot 7 = .ok (.invokevirtual 21, 3) := by decide +kernel
theorem dL_spot_10 : decode cL_spot 10 = .ok (.i2l, 1) := by decide +kernel
theorem dL_spot_11 : decode cL_spot 11 = .ok (.lastore, 1) := by decide +kernel
theorem dL_spot_12 : decode cL_spot 12 = .ok (.goto 15, 3) := by decide +kernel
theorem dL_spot_15 : decode cL_spot 15 = .ok (.astore 5, 2) := by decide +kernel
theorem dL_spot_17 : decode cL_spot 17 = .ok (.iconst 1, 1) := by decide +kernel
theorem dL_spot_18 : decode cL_spot 18 = .ok (.ireturn, 1) := by decide +kernel
theorem dL_spot_19 : decode cL_spot 19 = .ok (.astore 5, 2) := by decide +kernel
theorem dL_spot_21 : decode cL_spot 21 = .ok (.iconst 2, 1) := by decide +kernel
theorem dL_spot_22 : decode cL_spot 22 = .ok (.ireturn, 1) := by decide +kernel
theorem dL_spot_23 : decode cL_spot 23 = .ok (.astore 5, 2) := by decide +kernel
theorem dL_spot_25 : decode cL_spot 25 = .ok (.iconst 3, 1) := by decide +kernel
theorem dL_spot_26 : decode cL_spot 26 = .ok (.ireturn, 1) := by decide +kernel
theorem dL_spot_27 : decode cL_spot 27 = .ok (.iconst 0, 1) := by decide +kernel
theorem dL_spot_28 : decode cL_spot 28 = .ok (.ireturn, 1) := by decide +kernel
theorem dL_sponsor_0 : decode cL_sponsor 0 = .ok (.aload_n 3, 1) := by decide +kernel
theorem dL_sponsor_1 : decode cL_sponsor 1 = .ok (.iconst 0, 1) := by decide +kernel
theorem dL_sponsor_2 : decode cL_sponsor 2 = .ok (.aload_n 0, 1) := by decide +kernel
theorem dL_sponsor_3 : decode cL_sponsor 3 = .ok (.iload_n 1, 1) := by decide +kernel
theorem dL_sponsor_4 : decode cL_sponsor 4 = .ok (.iload_n 2, 1) := by decide +kernel
theorem dL_sponsor_5 : decode cL_sponsor 5 = .ok (.invokevirtual 27, 3) := by decide +kernel
theorem dL_sponsor_8 : decode cL_sponsor 8 = .ok (.i2l, 1) := by decide +kernel
theorem dL_sponsor_9 : decode cL_sponsor 9 = .ok (.lastore, 1) := by decide +kernel
theorem dL_sponsor_10 : decode cL_sponsor 10 = .ok (.goto 11, 3) := by decide +kernel
theorem dL_sponsor_13 : decode cL_sponsor 13 = .ok (.astore 4, 2) := by decide +kernel
theorem dL_sponsor_15 : decode cL_sponsor 15 = .ok (.iconst 1, 1) := by decide +kernel
theorem dL_sponsor_16 : decode cL_sponsor 16 = .ok (.ireturn, 1) := by decide +kernel
theorem dL_sponsor_17 : decode cL_sponsor 17 = .ok (.astore 4, 2) := by decide +kernel
theorem dL_sponsor_19 : decode cL_sponsor 19 = .ok (.iconst 2, 1) := by decide +kernel
theorem dL_sponsor_20 : decode cL_sponsor 20 = .ok (.ireturn, 1) := by decide +kernel
theorem dL_sponsor_21 : decode cL_sponsor 21 = .ok (.iconst 0, 1) := by decide +kernel
theorem dL_sponsor_22 : decode cL_sponsor 22 = .ok (.ireturn, 1) := by decide +kernel
theorem dL_isBanned_0 : decode cL_isBanned 0 = .ok (.aload_n 3, 1) := by decide +kernel
theorem dL_isBanned_1 : decode cL_isBanned 1 = .ok (.iconst 0, 1) := by decide +kernel
theorem dL_isBanned_2 : decode cL_isBanned 2 = .ok (.aload_n 0, 1) := by decide +kernel
theorem dL_isBanned_3 : decode cL_isBanned 3 = .ok (.iload_n 1, 1) := by decide +kernel
theorem dL_isBanned_4 : decode cL_isBanned 4 = .ok (.iload_n 2, 1) := by decide +kernel
theorem dL_isBanned_5 : decode cL_isBanned 5 = .ok (.invokevirtual 30, 3) := by decide +kernel
theorem dL_isBanned_8 : decode cL_isBanned 8 = .ok (.ifCond .eq 7, 3) := by decide +kernel
theorem dL_isBanned_11 : decode cL_isBanned 11 = .ok (.lconst 1, 1) := by decide +kernel
theorem dL_isBanned_12 : decode cL_isBanned 12 = .ok (.goto 4, 3) := by decide +kernel
theorem dL_isBanned_15 : decode cL_isBanned 15 = .ok (.lconst 0, 1) := by decide +kernel
theorem dL_isBanned_16 : decode cL_isBanned 16 = .ok (.lastore, 1) := by decide +kernel
theorem dL_isBanned_17 : decode cL_isBanned 17 = .ok (.goto 7, 3) := by decide +kernel
theorem dL_isBanned_20 : decode cL_isBanned 20 = .ok (.astore 4, 2) := by decide +kernel
theorem dL_isBanned_22 : decode cL_isBanned 22 = .ok (.iconst 1, 1) := by decide +kernel
theorem dL_isBanned_23 : decode cL_isBanned 23 = .ok (.ireturn, 1) := by decide +kernel
theorem dL_isBanned_24 : decode cL_isBanned 24 = .ok (.iconst 0, 1) := by decide +kernel
theorem dL_isBanned_25 : decode cL_isBanned 25 = .ok (.ireturn, 1) := by decide +kernel
theorem dL_spotsOn_0 : decode cL_spotsOn 0 = .ok (.aload_n 3, 1) := by decide +kernel
theorem dL_spotsOn_1 : decode cL_spotsOn 1 = .ok (.iconst 0, 1) := by decide +kernel
theorem dL_spotsOn_2 : decode cL_spotsOn 2 = .ok (.aload_n 0, 1) := by decide +kernel
theorem dL_spotsOn_3 : decode cL_spotsOn 3 = .ok (.iload_n 1, 1) := by decide +kernel
theorem dL_spotsOn_4 : decode cL_spotsOn 4 = .ok (.iload_n 2, 1) := by decide +kernel
theorem dL_spotsOn_5 : decode cL_spotsOn 5 = .ok (.invokevirtual 34, 3) := by decide +kernel
theorem dL_spotsOn_8 : decode cL_spotsOn 8 = .ok (.i2l, 1) := by decide +kernel
theorem dL_spotsOn_9 : decode cL_spotsOn 9 = .ok (.lastore, 1) := by decide +kernel
theorem dL_spotsOn_10 : decode cL_spotsOn 10 = .ok (.goto 11, 3) := by decide +kernel
theorem dL_spotsOn_13 : decode cL_spotsOn 13 = .ok (.astore 4, 2) := by decide +kernel
theorem dL_spotsOn_15 : decode cL_spotsOn 15 = .ok (.iconst 1, 1) := by decide +kernel
theorem dL_spotsOn_16 : decode cL_spotsOn 16 = .ok (.ireturn, 1) := by decide +kernel
theorem dL_spotsOn_17 : decode cL_spotsOn 17 = .ok (.astore 4, 2) := by decide +kernel
theorem dL_spotsOn_19 : decode cL_spotsOn 19 = .ok (.iconst 2, 1) := by decide +kernel
theorem dL_spotsOn_20 : decode cL_spotsOn 20 = .ok (.ireturn, 1) := by decide +kernel
theorem dL_spotsOn_21 : decode cL_spotsOn 21 = .ok (.iconst 0, 1) := by decide +kernel
theorem dL_spotsOn_22 : decode cL_spotsOn 22 = .ok (.ireturn, 1) := by decide +kernel
theorem dL_reason_0 : decode cL_reason 0 = .ok (.aload 4, 2) := by decide +kernel
theorem dL_reason_2 : decode cL_reason 2 = .ok (.iconst 0, 1) := by decide +kernel
theorem dL_reason_3 : decode cL_reason 3 = .ok (.aload_n 0, 1) := by decide +kernel
theorem dL_reason_4 : decode cL_reason 4 = .ok (.iload_n 1, 1) := by decide +kernel
theorem dL_reason_5 : decode cL_reason 5 = .ok (.iload_n 2, 1) := by decide +kernel
theorem dL_reason_6 : decode cL_reason 6 = .ok (.iload_n 3, 1) := by decide +kernel
theorem dL_reason_7 : decode cL_reason 7 = .ok (.invokevirtual 37, 3) := by decide +kernel
theorem dL_reason_10 : decode cL_reason 10 = .ok (.i2l, 1) := by decide +kernel
theorem dL_reason_11 : decode cL_reason 11 = .ok (.lastore, 1) := by decide +kernel
theorem dL_reason_12 : decode cL_reason 12 = .ok (.goto 11, 3) := by decide +kernel
theorem dL_reason_15 : decode cL_reason 15 = .ok (.astore 5, 2) := by decide +kernel
theorem dL_reason_17 : decode cL_reason 17 = .ok (.iconst 1, 1) := by decide +kernel
theorem dL_reason_18 : decode cL_reason 18 = .ok (.ireturn, 1) := by decide +kernel
theorem dL_reason_19 : decode cL_reason 19 = .ok (.astore 5, 2) := by decide +kernel
theorem dL_reason_21 : decode cL_reason 21 = .ok (.iconst 2, 1) := by decide +kernel
theorem dL_reason_22 : decode cL_reason 22 = .ok (.ireturn, 1) := by decide +kernel
theorem dL_reason_23 : decode cL_reason 23 = .ok (.iconst 0, 1) := by decide +kernel
theorem dL_reason_24 : decode cL_reason 24 = .ok (.ireturn, 1) := by decide +kernel
theorem dL_price_0 : decode cL_price 0 = .ok (.aload 4, 2) := by decide +kernel
theorem dL_price_2 : decode cL_price 2 = .ok (.iconst 0, 1) := by decide +kernel
theorem dL_price_3 : decode cL_price 3 = .ok (.aload_n 0, 1) := by decide +kernel
theorem dL_price_4 : decode cL_price 4 = .ok (.iload_n 1, 1) := by decide +kernel
theorem dL_price_5 : decode cL_price 5 = .ok (.iload_n 2, 1) := by decide +kernel
theorem dL_price_6 : decode cL_price 6 = .ok (.iload_n 3, 1) := by decide +kernel
theorem dL_price_7 : decode cL_price 7 = .ok (.invokevirtual 40, 3) := by decide +kernel
theorem dL_price_10 : decode cL_price 10 = .ok (.i2l, 1) := by decide +kernel
theorem dL_price_11 : decode cL_price 11 = .ok (.lastore, 1) := by decide +kernel
theorem dL_price_12 : decode cL_price 12 = .ok (.goto 11, 3) := by decide +kernel
theorem dL_price_15 : decode cL_price 15 = .ok (.astore 5, 2) := by decide +kernel
theorem dL_price_17 : decode cL_price 17 = .ok (.iconst 1, 1) := by decide +kernel
theorem dL_price_18 : decode cL_price 18 = .ok (.ireturn, 1) := by decide +kernel
theorem dL_price_19 : decode cL_price 19 = .ok (.astore 5, 2) := by decide +kernel
theorem dL_price_21 : decode cL_price 21 = .ok (.iconst 2, 1) := by decide +kernel
theorem dL_price_22 : decode cL_price 22 = .ok (.ireturn, 1) := by decide +kernel
theorem dL_price_23 : decode cL_price 23 = .ok (.iconst 0, 1) := by decide +kernel
theorem dL_price_24 : decode cL_price 24 = .ok (.ireturn, 1) := by decide +kernel
theorem dL_cheapest_0 : decode cL_cheapest 0 = .ok (.aload_n 3, 1) := by decide +kernel
theorem dL_cheapest_1 : decode cL_cheapest 1 = .ok (.iconst 0, 1) := by decide +kernel
theorem dL_cheapest_2 : decode cL_cheapest 2 = .ok (.aload_n 0, 1) := by decide +kernel
theorem dL_cheapest_3 : decode cL_cheapest 3 = .ok (.iload_n 1, 1) := by decide +kernel
theorem dL_cheapest_4 : decode cL_cheapest 4 = .ok (.iload_n 2, 1) := by decide +kernel
theorem dL_cheapest_5 : decode cL_cheapest 5 = .ok (.invokevirtual 43, 3) := by decide +kernel
theorem dL_cheapest_8 : decode cL_cheapest 8 = .ok (.i2l, 1) := by decide +kernel
theorem dL_cheapest_9 : decode cL_cheapest 9 = .ok (.lastore, 1) := by decide +kernel
theorem dL_cheapest_10 : decode cL_cheapest 10 = .ok (.goto 11, 3) := by decide +kernel
theorem dL_cheapest_13 : decode cL_cheapest 13 = .ok (.astore 4, 2) := by decide +kernel
theorem dL_cheapest_15 : decode cL_cheapest 15 = .ok (.iconst 1, 1) := by decide +kernel
theorem dL_cheapest_16 : decode cL_cheapest 16 = .ok (.ireturn, 1) := by decide +kernel
theorem dL_cheapest_17 : decode cL_cheapest 17 = .ok (.astore 4, 2) := by decide +kernel
theorem dL_cheapest_19 : decode cL_cheapest 19 = .ok (.iconst 2, 1) := by decide +kernel
theorem dL_cheapest_20 : decode cL_cheapest 20 = .ok (.ireturn, 1) := by decide +kernel
theorem dL_cheapest_21 : decode cL_cheapest 21 = .ok (.iconst 0, 1) := by decide +kernel
theorem dL_cheapest_22 : decode cL_cheapest 22 = .ok (.ireturn, 1) := by decide +kernel
theorem dL_widest_0 : decode cL_widest 0 = .ok (.aload_n 3, 1) := by decide +kernel
theorem dL_widest_1 : decode cL_widest 1 = .ok (.iconst 0, 1) := by decide +kernel
theorem dL_widest_2 : decode cL_widest 2 = .ok (.aload_n 0, 1) := by decide +kernel
theorem dL_widest_3 : decode cL_widest 3 = .ok (.iload_n 1, 1) := by decide +kernel
theorem dL_widest_4 : decode cL_widest 4 = .ok (.iload_n 2, 1) := by decide +kernel
theorem dL_widest_5 : decode cL_widest 5 = .ok (.invokevirtual 46, 3) := by decide +kernel
theorem dL_widest_8 : decode cL_widest 8 = .ok (.i2l, 1) := by decide +kernel
theorem dL_widest_9 : decode cL_widest 9 = .ok (.lastore, 1) := by decide +kernel
theorem dL_widest_10 : decode cL_widest 10 = .ok (.goto 11, 3) := by decide +kernel
theorem dL_widest_13 : decode cL_widest 13 = .ok (.astore 4, 2) := by decide +kernel
theorem dL_widest_15 : decode cL_widest 15 = .ok (.iconst 1, 1) := by decide +kernel
theorem dL_widest_16 : decode cL_widest 16 = .ok (.ireturn, 1) := by decide +kernel
theorem dL_widest_17 : decode cL_widest 17 = .ok (.astore 4, 2) := by decide +kernel
theorem dL_widest_19 : decode cL_widest 19 = .ok (.iconst 2, 1) := by decide +kernel
theorem dL_widest_20 : decode cL_widest 20 = .ok (.ireturn, 1) := by decide +kernel
theorem dL_widest_21 : decode cL_widest 21 = .ok (.iconst 0, 1) := by decide +kernel
theorem dL_widest_22 : decode cL_widest 22 = .ok (.ireturn, 1) := by decide +kernel
theorem dL_owedSpot_0 : decode cL_owedSpot 0 = .ok (.aload_n 3, 1) := by decide +kernel
theorem dL_owedSpot_1 : decode cL_owedSpot 1 = .ok (.iconst 0, 1) := by decide +kernel
theorem dL_owedSpot_2 : decode cL_owedSpot 2 = .ok (.aload_n 0, 1) := by decide +kernel
theorem dL_owedSpot_3 : decode cL_owedSpot 3 = .ok (.iload_n 1, 1) := by decide +kernel
theorem dL_owedSpot_4 : decode cL_owedSpot 4 = .ok (.iload_n 2, 1) := by decide +kernel
theorem dL_owedSpot_5 : decode cL_owedSpot 5 = .ok (.invokevirtual 49, 3) := by decide +kernel
theorem dL_owedSpot_8 : decode cL_owedSpot 8 = .ok (.i2l, 1) := by decide +kernel
theorem dL_owedSpot_9 : decode cL_owedSpot 9 = .ok (.lastore, 1) := by decide +kernel
theorem dL_owedSpot_10 : decode cL_owedSpot 10 = .ok (.goto 11, 3) := by decide +kernel
theorem dL_owedSpot_13 : decode cL_owedSpot 13 = .ok (.astore 4, 2) := by decide +kernel
theorem dL_owedSpot_15 : decode cL_owedSpot 15 = .ok (.iconst 1, 1) := by decide +kernel
theorem dL_owedSpot_16 : decode cL_owedSpot 16 = .ok (.ireturn, 1) := by decide +kernel
theorem dL_owedSpot_17 : decode cL_owedSpot 17 = .ok (.astore 4, 2) := by decide +kernel
theorem dL_owedSpot_19 : decode cL_owedSpot 19 = .ok (.iconst 2, 1) := by decide +kernel
theorem dL_owedSpot_20 : decode cL_owedSpot 20 = .ok (.ireturn, 1) := by decide +kernel
theorem dL_owedSpot_21 : decode cL_owedSpot 21 = .ok (.iconst 0, 1) := by decide +kernel
theorem dL_owedSpot_22 : decode cL_owedSpot 22 = .ok (.ireturn, 1) := by decide +kernel
theorem dL_arrangements_0 : decode cL_arrangements 0 = .ok (.aload_n 2, 1) := by decide +kernel
theorem dL_arrangements_1 : decode cL_arrangements 1 = .ok (.iconst 0, 1) := by decide +kernel
theorem dL_arrangements_2 : decode cL_arrangements 2 = .ok (.aload_n 0, 1) := by decide +kernel
theorem dL_arrangements_3 : decode cL_arrangements 3 = .ok (.iload_n 1, 1) := by decide +kernel
theorem dL_arrangements_4 : decode cL_arrangements 4 = .ok (.invokevirtual 52, 3) := by decide +kernel
theorem dL_arrangements_7 : decode cL_arrangements 7 = .ok (.i2l, 1) := by decide +kernel
theorem dL_arrangements_8 : decode cL_arrangements 8 = .ok (.lastore, 1) := by decide +kernel
theorem dL_arrangements_9 : decode cL_arrangements 9 = .ok (.goto 6, 3) := by decide +kernel
theorem dL_arrangements_12 : decode cL_arrangements 12 = .ok (.astore_n 3, 1) := by decide +kernel
theorem dL_arrangements_13 : decode cL_arrangements 13 = .ok (.iconst 1, 1) := by decide +kernel
theorem dL_arrangements_14 : decode cL_arrangements 14 = .ok (.ireturn, 1) := by decide +kernel
theorem dL_arrangements_15 : decode cL_arrangements 15 = .ok (.iconst 0, 1) := by decide +kernel
theorem dL_arrangements_16 : decode cL_arrangements 16 = .ok (.ireturn, 1) := by decide +kernel
theorem dL_arranged_0 : decode cL_arranged 0 = .ok (.aload_n 3, 1) := by decide +kernel
theorem dL_arranged_1 : decode cL_arranged 1 = .ok (.iconst 0, 1) := by decide +kernel
theorem dL_arranged_2 : decode cL_arranged 2 = .ok (.aload_n 0, 1) := by decide +kernel
theorem dL_arranged_3 : decode cL_arranged 3 = .ok (.iload_n 1, 1) := by decide +kernel
theorem dL_arranged_4 : decode cL_arranged 4 = .ok (.iload_n 2, 1) := by decide +kernel
theorem dL_arranged_5 : decode cL_arranged 5 = .ok (.invokevirtual 55, 3) := by decide +kernel
theorem dL_arranged_8 : decode cL_arranged 8 = .ok (.i2l, 1) := by decide +kernel
theorem dL_arranged_9 : decode cL_arranged 9 = .ok (.lastore, 1) := by decide +kernel
theorem dL_arranged_10 : decode cL_arranged 10 = .ok (.goto 11, 3) := by decide +kernel
theorem dL_arranged_13 : decode cL_arranged 13 = .ok (.astore 4, 2) := by decide +kernel
theorem dL_arranged_15 : decode cL_arranged 15 = .ok (.iconst 1, 1) := by decide +kernel
theorem dL_arranged_16 : decode cL_arranged 16 = .ok (.ireturn, 1) := by decide +kernel
theorem dL_arranged_17 : decode cL_arranged 17 = .ok (.astore 4, 2) := by decide +kernel
theorem dL_arranged_19 : decode cL_arranged 19 = .ok (.iconst 2, 1) := by decide +kernel
theorem dL_arranged_20 : decode cL_arranged 20 = .ok (.ireturn, 1) := by decide +kernel
theorem dL_arranged_21 : decode cL_arranged 21 = .ok (.iconst 0, 1) := by decide +kernel
theorem dL_arranged_22 : decode cL_arranged 22 = .ok (.ireturn, 1) := by decide +kernel
theorem dL_book_0 : decode cL_book 0 = .ok (.aload 4, 2) := by decide +kernel
theorem dL_book_2 : decode cL_book 2 = .ok (.iconst 0, 1) := by decide +kernel
theorem dL_book_3 : decode cL_book 3 = .ok (.aload_n 0, 1) := by decide +kernel
theorem dL_book_4 : decode cL_book 4 = .ok (.iload_n 1, 1) := by decide +kernel
theorem dL_book_5 : decode cL_book 5 = .ok (.iload_n 2, 1) := by decide +kernel
theorem dL_book_6 : decode cL_book 6 = .ok (.iload_n 3, 1) := by decide +kernel
theorem dL_book_7 : decode cL_book 7 = .ok (.invokevirtual 58, 3) := by decide +kernel
theorem dL_book_10 : decode cL_book 10 = .ok (.i2l, 1) := by decide +kernel
theorem dL_book_11 : decode cL_book 11 = .ok (.lastore, 1) := by decide +kernel
theorem dL_book_12 : decode cL_book 12 = .ok (.goto 11, 3) := by decide +kernel
theorem dL_book_15 : decode cL_book 15 = .ok (.astore 5, 2) := by decide +kernel
theorem dL_book_17 : decode cL_book 17 = .ok (.iconst 1, 1) := by decide +kernel
theorem dL_book_18 : decode cL_book 18 = .ok (.ireturn, 1) := by decide +kernel
theorem dL_book_19 : decode cL_book 19 = .ok (.astore 5, 2) := by decide +kernel
theorem dL_book_21 : decode cL_book 21 = .ok (.iconst 2, 1) := by decide +kernel
theorem dL_book_22 : decode cL_book 22 = .ok (.ireturn, 1) := by decide +kernel
theorem dL_book_23 : decode cL_book 23 = .ok (.iconst 0, 1) := by decide +kernel
theorem dL_book_24 : decode cL_book 24 = .ok (.ireturn, 1) := by decide +kernel
theorem dL_bookAnyhow_0 : decode cL_bookAnyhow 0 = .ok (.aload 4, 2) := by decide +kernel
theorem dL_bookAnyhow_2 : decode cL_bookAnyhow 2 = .ok (.iconst 0, 1) := by decide +kernel
theorem dL_bookAnyhow_3 : decode cL_bookAnyhow 3 = .ok (.aload_n 0, 1) := by decide +kernel
theorem dL_bookAnyhow_4 : decode cL_bookAnyhow 4 = .ok (.iload_n 1, 1) := by decide +kernel
theorem dL_bookAnyhow_5 : decode cL_bookAnyhow 5 = .ok (.iload_n 2, 1) := by decide +kernel
theorem dL_bookAnyhow_6 : decode cL_bookAnyhow 6 = .ok (.iload_n 3, 1) := by decide +kernel
theorem dL_bookAnyhow_7 : decode cL_bookAnyhow 7 = .ok (.invokevirtual 61, 3) := by decide +kernel
theorem dL_bookAnyhow_10 : decode cL_bookAnyhow 10 = .ok (.i2l, 1) := by decide +kernel
theorem dL_bookAnyhow_11 : decode cL_bookAnyhow 11 = .ok (.lastore, 1) := by decide +kernel
theorem dL_bookAnyhow_12 : decode cL_bookAnyhow 12 = .ok (.goto 11, 3) := by decide +kernel
theorem dL_bookAnyhow_15 : decode cL_bookAnyhow 15 = .ok (.astore 5, 2) := by decide +kernel
theorem dL_bookAnyhow_17 : decode cL_bookAnyhow 17 = .ok (.iconst 1, 1) := by decide +kernel
theorem dL_bookAnyhow_18 : decode cL_bookAnyhow 18 = .ok (.ireturn, 1) := by decide +kernel
theorem dL_bookAnyhow_19 : decode cL_bookAnyhow 19 = .ok (.astore 5, 2) := by decide +kernel
theorem dL_bookAnyhow_21 : decode cL_bookAnyhow 21 = .ok (.iconst 2, 1) := by decide +kernel
theorem dL_bookAnyhow_22 : decode cL_bookAnyhow 22 = .ok (.ireturn, 1) := by decide +kernel
theorem dL_bookAnyhow_23 : decode cL_bookAnyhow 23 = .ok (.iconst 0, 1) := by decide +kernel
theorem dL_bookAnyhow_24 : decode cL_bookAnyhow 24 = .ok (.ireturn, 1) := by decide +kernel
theorem dL_remove_0 : decode cL_remove 0 = .ok (.aload_n 3, 1) := by decide +kernel
theorem dL_remove_1 : decode cL_remove 1 = .ok (.iconst 0, 1) := by decide +kernel
theorem dL_remove_2 : decode cL_remove 2 = .ok (.aload_n 0, 1) := by decide +kernel
theorem dL_remove_3 : decode cL_remove 3 = .ok (.iload_n 1, 1) := by decide +kernel
theorem dL_remove_4 : decode cL_remove 4 = .ok (.iload_n 2, 1) := by decide +kernel
theorem dL_remove_5 : decode cL_remove 5 = .ok (.invokevirtual 64, 3) := by decide +kernel
theorem dL_remove_8 : decode cL_remove 8 = .ok (.i2l, 1) := by decide +kernel
theorem dL_remove_9 : decode cL_remove 9 = .ok (.lastore, 1) := by decide +kernel
theorem dL_remove_10 : decode cL_remove 10 = .ok (.goto 15, 3) := by decide +kernel
theorem dL_remove_13 : decode cL_remove 13 = .ok (.astore 4, 2) := by decide +kernel
theorem dL_remove_15 : decode cL_remove 15 = .ok (.iconst 1, 1) := by decide +kernel
theorem dL_remove_16 : decode cL_remove 16 = .ok (.ireturn, 1) := by decide +kernel
theorem dL_remove_17 : decode cL_remove 17 = .ok (.astore 4, 2) := by decide +kernel
theorem dL_remove_19 : decode cL_remove 19 = .ok (.iconst 2, 1) := by decide +kernel
theorem dL_remove_20 : decode cL_remove 20 = .ok (.ireturn, 1) := by decide +kernel
theorem dL_remove_21 : decode cL_remove 21 = .ok (.astore 4, 2) := by decide +kernel
theorem dL_remove_23 : decode cL_remove 23 = .ok (.iconst 3, 1) := by decide +kernel
theorem dL_remove_24 : decode cL_remove 24 = .ok (.ireturn, 1) := by decide +kernel
theorem dL_remove_25 : decode cL_remove 25 = .ok (.iconst 0, 1) := by decide +kernel
theorem dL_remove_26 : decode cL_remove 26 = .ok (.ireturn, 1) := by decide +kernel
theorem dL_air_0 : decode cL_air 0 = .ok (.aload_n 1, 1) := by decide +kernel
theorem dL_air_1 : decode cL_air 1 = .ok (.iconst 0, 1) := by decide +kernel
theorem dL_air_2 : decode cL_air 2 = .ok (.aload_n 0, 1) := by decide +kernel
theorem dL_air_3 : decode cL_air 3 = .ok (.invokevirtual 69, 3) := by decide +kernel
theorem dL_air_6 : decode cL_air 6 = .ok (.i2l, 1) := by decide +kernel
theorem dL_air_7 : decode cL_air 7 = .ok (.lastore, 1) := by decide +kernel
theorem dL_air_8 : decode cL_air 8 = .ok (.goto 6, 3) := by decide +kernel
theorem dL_air_11 : decode cL_air 11 = .ok (.astore_n 2, 1) := by decide +kernel
theorem dL_air_12 : decode cL_air 12 = .ok (.iconst 1, 1) := by decide +kernel
theorem dL_air_13 : decode cL_air 13 = .ok (.ireturn, 1) := by decide +kernel
theorem dL_air_14 : decode cL_air 14 = .ok (.iconst 0, 1) := by decide +kernel
theorem dL_air_15 : decode cL_air 15 = .ok (.ireturn, 1) := by decide +kernel
theorem dL_cancel_0 : decode cL_cancel 0 = .ok (.aload_n 2, 1) := by decide +kernel
theorem dL_cancel_1 : decode cL_cancel 1 = .ok (.iconst 0, 1) := by decide +kernel
theorem dL_cancel_2 : decode cL_cancel 2 = .ok (.aload_n 0, 1) := by decide +kernel
theorem dL_cancel_3 : decode cL_cancel 3 = .ok (.iload_n 1, 1) := by decide +kernel
theorem dL_cancel_4 : decode cL_cancel 4 = .ok (.invokevirtual 73, 3) := by decide +kernel
theorem dL_cancel_7 : decode cL_cancel 7 = .ok (.i2l, 1) := by decide +kernel
theorem dL_cancel_8 : decode cL_cancel 8 = .ok (.lastore, 1) := by decide +kernel
theorem dL_cancel_9 : decode cL_cancel 9 = .ok (.goto 9, 3) := by decide +kernel
theorem dL_cancel_12 : decode cL_cancel 12 = .ok (.astore_n 3, 1) := by decide +kernel
theorem dL_cancel_13 : decode cL_cancel 13 = .ok (.iconst 1, 1) := by decide +kernel
theorem dL_cancel_14 : decode cL_cancel 14 = .ok (.ireturn, 1) := by decide +kernel
theorem dL_cancel_15 : decode cL_cancel 15 = .ok (.astore_n 3, 1) := by decide +kernel
theorem dL_cancel_16 : decode cL_cancel 16 = .ok (.iconst 2, 1) := by decide +kernel
theorem dL_cancel_17 : decode cL_cancel 17 = .ok (.ireturn, 1) := by decide +kernel
theorem dL_cancel_18 : decode cL_cancel 18 = .ok (.iconst 0, 1) := by decide +kernel
theorem dL_cancel_19 : decode cL_cancel 19 = .ok (.ireturn, 1) := by decide +kernel
theorem dL_campaign_0 : decode cL_campaign 0 = .ok (.aload 4, 2) := by decide +kernel
theorem dL_campaign_2 : decode cL_campaign 2 = .ok (.iconst 0, 1) := by decide +kernel
theorem dL_campaign_3 : decode cL_campaign 3 = .ok (.aload_n 0, 1) := by decide +kernel
theorem dL_campaign_4 : decode cL_campaign 4 = .ok (.iload_n 1, 1) := by decide +kernel
theorem dL_campaign_5 : decode cL_campaign 5 = .ok (.iload_n 2, 1) := by decide +kernel
theorem dL_campaign_6 : decode cL_campaign 6 = .ok (.iload_n 3, 1) := by decide +kernel
theorem dL_campaign_7 : decode cL_campaign 7 = .ok (.invokevirtual 76, 3) := by decide +kernel
theorem dL_campaign_10 : decode cL_campaign 10 = .ok (.i2l, 1) := by decide +kernel
theorem dL_campaign_11 : decode cL_campaign 11 = .ok (.lastore, 1) := by decide +kernel
theorem dL_campaign_12 : decode cL_campaign 12 = .ok (.goto 11, 3) := by decide +kernel
theorem dL_campaign_15 : decode cL_campaign 15 = .ok (.astore 5, 2) := by decide +kernel
theorem dL_campaign_17 : decode cL_campaign 17 = .ok (.iconst 1, 1) := by decide +kernel
theorem dL_campaign_18 : decode cL_campaign 18 = .ok (.ireturn, 1) := by decide +kernel
theorem dL_campaign_19 : decode cL_campaign 19 = .ok (.astore 5, 2) := by decide +kernel
theorem dL_campaign_21 : decode cL_campaign 21 = .ok (.iconst 2, 1) := by decide +kernel
theorem dL_campaign_22 : decode cL_campaign 22 = .ok (.ireturn, 1) := by decide +kernel
theorem dL_campaign_23 : decode cL_campaign 23 = .ok (.iconst 0, 1) := by decide +kernel
theorem dL_campaign_24 : decode cL_campaign 24 = .ok (.ireturn, 1) := by decide +kernel
theorem dL_setCap_0 : decode cL_setCap 0 = .ok (.aload_n 3, 1) := by decide +kernel
theorem dL_setCap_1 : decode cL_setCap 1 = .ok (.iconst 0, 1) := by decide +kernel
theorem dL_setCap_2 : decode cL_setCap 2 = .ok (.aload_n 0, 1) := by decide +kernel
theorem dL_setCap_3 : decode cL_setCap 3 = .ok (.iload_n 1, 1) := by decide +kernel
theorem dL_setCap_4 : decode cL_setCap 4 = .ok (.iload_n 2, 1) := by decide +kernel
theorem dL_setCap_5 : decode cL_setCap 5 = .ok (.invokevirtual 79, 3) := by decide +kernel
theorem dL_setCap_8 : decode cL_setCap 8 = .ok (.i2l, 1) := by decide +kernel
theorem dL_setCap_9 : decode cL_setCap 9 = .ok (.lastore, 1) := by decide +kernel
theorem dL_setCap_10 : decode cL_setCap 10 = .ok (.goto 11, 3) := by decide +kernel
theorem dL_setCap_13 : decode cL_setCap 13 = .ok (.astore 4, 2) := by decide +kernel
theorem dL_setCap_15 : decode cL_setCap 15 = .ok (.iconst 1, 1) := by decide +kernel
theorem dL_setCap_16 : decode cL_setCap 16 = .ok (.ireturn, 1) := by decide +kernel
theorem dL_setCap_17 : decode cL_setCap 17 = .ok (.astore 4, 2) := by decide +kernel
theorem dL_setCap_19 : decode cL_setCap 19 = .ok (.iconst 2, 1) := by decide +kernel
theorem dL_setCap_20 : decode cL_setCap 20 = .ok (.ireturn, 1) := by decide +kernel
theorem dL_setCap_21 : decode cL_setCap 21 = .ok (.iconst 0, 1) := by decide +kernel
theorem dL_setCap_22 : decode cL_setCap 22 = .ok (.ireturn, 1) := by decide +kernel
theorem dL_law_0 : decode cL_law 0 = .ok (.new 8, 3) := by decide +kernel
theorem dL_law_3 : decode cL_law 3 = .ok (.dup, 1) := by decide +kernel
theorem dL_law_4 : decode cL_law 4 = .ok (.invokespecial 82, 3) := by decide +kernel
theorem dL_law_7 : decode cL_law 7 = .ok (.astore_n 1, 1) := by decide +kernel
theorem dL_law_8 : decode cL_law 8 = .ok (.new 83, 3) := by decide +kernel
theorem dL_law_11 : decode cL_law 11 = .ok (.dup, 1) := by decide +kernel
theorem dL_law_12 : decode cL_law 12 = .ok (.invokespecial 85, 3) := by decide +kernel
theorem dL_law_15 : decode cL_law 15 = .ok (.astore_n 2, 1) := by decide +kernel
theorem dL_law_16 : decode cL_law 16 = .ok (.iconst 1, 1) := by decide +kernel
theorem dL_law_17 : decode cL_law 17 = .ok (.newarray .long, 2) := by decide +kernel
theorem dL_law_19 : decode cL_law 19 = .ok (.astore_n 3, 1) := by decide +kernel
theorem dL_law_20 : decode cL_law 20 = .ok (.iconst 0, 1) := by decide +kernel
theorem dL_law_21 : decode cL_law 21 = .ok (.istore 4, 2) := by decide +kernel
theorem dL_law_23 : decode cL_law 23 = .ok (.iload 4, 2) := by decide +kernel
theorem dL_law_25 : decode cL_law 25 = .ok (.aload_n 0, 1) := by decide +kernel
theorem dL_law_26 : decode cL_law 26 = .ok (.arraylength, 1) := by decide +kernel
theorem dL_law_27 : decode cL_law 27 = .ok (.bipush 6, 2) := by decide +kernel
theorem dL_law_29 : decode cL_law 29 = .ok (.isub, 1) := by decide +kernel
end
section
theorem dL_law_30 : decode cL_law 30 = .ok (.if_icmp .gt 1705, 3) := by decide +kernel
theorem dL_law_33 : decode cL_law 33 = .ok (.aload_n 0, 1) := by decide +kernel
theorem dL_law_34 : decode cL_law 34 = .ok (.iload 4, 2) := by decide +kernel
theorem dL_law_36 : decode cL_law 36 = .ok (.iaload, 1) := by decide +kernel
theorem dL_law_37 : decode cL_law 37 = .ok (.bipush 31, 2) := by decide +kernel
theorem dL_law_39 : decode cL_law 39 = .ok (.iand, 1) := by decide +kernel
theorem dL_law_40 : decode cL_law 40 = .ok (.tableswitch 1689 0 28 #[132, 205, 261, 274, 287, 300, 368, 448, 516, 591, 659, 739, 819, 887, 955, 968, 981, 1049, 1105, 1173, 1253, 1333, 1401, 1445, 1501, 1514, 1594, 1662, 1675], 132) := by decide +kernel
theorem dL_law_172 : decode cL_law 172 = .ok (.aload_n 1, 1) := by decide +kernel
theorem dL_law_173 : decode cL_law 173 = .ok (.aload_n 0, 1) := by decide +kernel
theorem dL_law_174 : decode cL_law 174 = .ok (.iload 4, 2) := by decide +kernel
theorem dL_law_176 : decode cL_law 176 = .ok (.iconst 1, 1) := by decide +kernel
theorem dL_law_177 : decode cL_law 177 = .ok (.iadd, 1) := by decide +kernel
theorem dL_law_178 : decode cL_law 178 = .ok (.iaload, 1) := by decide +kernel
theorem dL_law_179 : decode cL_law 179 = .ok (.aload_n 0, 1) := by decide +kernel
theorem dL_law_180 : decode cL_law 180 = .ok (.iload 4, 2) := by decide +kernel
theorem dL_law_182 : decode cL_law 182 = .ok (.iconst 2, 1) := by decide +kernel
theorem dL_law_183 : decode cL_law 183 = .ok (.iadd, 1) := by decide +kernel
theorem dL_law_184 : decode cL_law 184 = .ok (.iaload, 1) := by decide +kernel
theorem dL_law_185 : decode cL_law 185 = .ok (.aload_n 0, 1) := by decide +kernel
theorem dL_law_186 : decode cL_law 186 = .ok (.iload 4, 2) := by decide +kernel
theorem dL_law_188 : decode cL_law 188 = .ok (.iconst 3, 1) := by decide +kernel
theorem dL_law_189 : decode cL_law 189 = .ok (.iadd, 1) := by decide +kernel
theorem dL_law_190 : decode cL_law 190 = .ok (.iaload, 1) := by decide +kernel
theorem dL_law_191 : decode cL_law 191 = .ok (.aload_n 0, 1) := by decide +kernel
theorem dL_law_192 : decode cL_law 192 = .ok (.iload 4, 2) := by decide +kernel
theorem dL_law_194 : decode cL_law 194 = .ok (.iconst 4, 1) := by decide +kernel
theorem dL_law_195 : decode cL_law 195 = .ok (.iadd, 1) := by decide +kernel
theorem dL_law_196 : decode cL_law 196 = .ok (.iaload, 1) := by decide +kernel
theorem dL_law_197 : decode cL_law 197 = .ok (.aload_n 0, 1) := by decide +kernel
theorem dL_law_198 : decode cL_law 198 = .ok (.iload 4, 2) := by decide +kernel
theorem dL_law_200 : decode cL_law 200 = .ok (.iconst 5, 1) := by decide +kernel
theorem dL_law_201 : decode cL_law 201 = .ok (.iadd, 1) := by decide +kernel
theorem dL_law_202 : decode cL_law 202 = .ok (.iaload, 1) := by decide +kernel
theorem dL_law_203 : decode cL_law 203 = .ok (.invokevirtual 86, 3) := by decide +kernel
theorem dL_law_206 : decode cL_law 206 = .ok (.aload_n 2, 1) := by decide +kernel
theorem dL_law_207 : decode cL_law 207 = .ok (.aload_n 0, 1) := by decide +kernel
theorem dL_law_208 : decode cL_law 208 = .ok (.iload 4, 2) := by decide +kernel
theorem dL_law_210 : decode cL_law 210 = .ok (.iconst 1, 1) := by decide +kernel
theorem dL_law_211 : decode cL_law 211 = .ok (.iadd, 1) := by decide +kernel
theorem dL_law_212 : decode cL_law 212 = .ok (.iaload, 1) := by decide +kernel
theorem dL_law_213 : decode cL_law 213 = .ok (.aload_n 0, 1) := by decide +kernel
theorem dL_law_214 : decode cL_law 214 = .ok (.iload 4, 2) := by decide +kernel
theorem dL_law_216 : decode cL_law 216 = .ok (.iconst 2, 1) := by decide +kernel
theorem dL_law_217 : decode cL_law 217 = .ok (.iadd, 1) := by decide +kernel
theorem dL_law_218 : decode cL_law 218 = .ok (.iaload, 1) := by decide +kernel
theorem dL_law_219 : decode cL_law 219 = .ok (.aload_n 0, 1) := by decide +kernel
theorem dL_law_220 : decode cL_law 220 = .ok (.iload 4, 2) := by decide +kernel
theorem dL_law_222 : decode cL_law 222 = .ok (.iconst 3, 1) := by decide +kernel
theorem dL_law_223 : decode cL_law 223 = .ok (.iadd, 1) := by decide +kernel
theorem dL_law_224 : decode cL_law 224 = .ok (.iaload, 1) := by decide +kernel
theorem dL_law_225 : decode cL_law 225 = .ok (.aload_n 0, 1) := by decide +kernel
theorem dL_law_226 : decode cL_law 226 = .ok (.iload 4, 2) := by decide +kernel
theorem dL_law_228 : decode cL_law 228 = .ok (.iconst 4, 1) := by decide +kernel
theorem dL_law_229 : decode cL_law 229 = .ok (.iadd, 1) := by decide +kernel
theorem dL_law_230 : decode cL_law 230 = .ok (.iaload, 1) := by decide +kernel
theorem dL_law_231 : decode cL_law 231 = .ok (.aload_n 0, 1) := by decide +kernel
theorem dL_law_232 : decode cL_law 232 = .ok (.iload 4, 2) := by decide +kernel
theorem dL_law_234 : decode cL_law 234 = .ok (.iconst 5, 1) := by decide +kernel
theorem dL_law_235 : decode cL_law 235 = .ok (.iadd, 1) := by decide +kernel
theorem dL_law_236 : decode cL_law 236 = .ok (.iaload, 1) := by decide +kernel
theorem dL_law_237 : decode cL_law 237 = .ok (.invokevirtual 90, 3) := by decide +kernel
theorem dL_law_240 : decode cL_law 240 = .ok (.if_icmp .eq 1489, 3) := by decide +kernel
theorem dL_law_243 : decode cL_law 243 = .ok (.iconst 0, 1) := by decide +kernel
theorem dL_law_244 : decode cL_law 244 = .ok (.ireturn, 1) := by decide +kernel
theorem dL_law_245 : decode cL_law 245 = .ok (.aload_n 1, 1) := by decide +kernel
theorem dL_law_246 : decode cL_law 246 = .ok (.aload_n 0, 1) := by decide +kernel
theorem dL_law_247 : decode cL_law 247 = .ok (.iload 4, 2) := by decide +kernel
theorem dL_law_249 : decode cL_law 249 = .ok (.iconst 1, 1) := by decide +kernel
theorem dL_law_250 : decode cL_law 250 = .ok (.iadd, 1) := by decide +kernel
theorem dL_law_251 : decode cL_law 251 = .ok (.iaload, 1) := by decide +kernel
theorem dL_law_252 : decode cL_law 252 = .ok (.aload_n 3, 1) := by decide +kernel
theorem dL_law_253 : decode cL_law 253 = .ok (.invokestatic 91, 3) := by decide +kernel
theorem dL_law_256 : decode cL_law 256 = .ok (.istore 5, 2) := by decide +kernel
theorem dL_law_258 : decode cL_law 258 = .ok (.aload_n 2, 1) := by decide +kernel
theorem dL_law_259 : decode cL_law 259 = .ok (.aload_n 0, 1) := by decide +kernel
theorem dL_law_260 : decode cL_law 260 = .ok (.iload 4, 2) := by decide +kernel
theorem dL_law_262 : decode cL_law 262 = .ok (.iconst 1, 1) := by decide +kernel
theorem dL_law_263 : decode cL_law 263 = .ok (.iadd, 1) := by decide +kernel
theorem dL_law_264 : decode cL_law 264 = .ok (.iaload, 1) := by decide +kernel
theorem dL_law_265 : decode cL_law 265 = .ok (.invokevirtual 96, 3) := by decide +kernel
theorem dL_law_268 : decode cL_law 268 = .ok (.istore 6, 2) := by decide +kernel
theorem dL_law_270 : decode cL_law 270 = .ok (.aload_n 2, 1) := by decide +kernel
theorem dL_law_271 : decode cL_law 271 = .ok (.invokevirtual 97, 3) := by decide +kernel
theorem dL_law_274 : decode cL_law 274 = .ok (.iload 5, 2) := by decide +kernel
theorem dL_law_276 : decode cL_law 276 = .ok (.if_icmp .eq 5, 3) := by decide +kernel
theorem dL_law_279 : decode cL_law 279 = .ok (.iconst 0, 1) := by decide +kernel
theorem dL_law_280 : decode cL_law 280 = .ok (.ireturn, 1) := by decide +kernel
theorem dL_law_281 : decode cL_law 281 = .ok (.iload 5, 2) := by decide +kernel
theorem dL_law_283 : decode cL_law 283 = .ok (.ifCond .ne 15, 3) := by decide +kernel
theorem dL_law_286 : decode cL_law 286 = .ok (.aload_n 3, 1) := by decide +kernel
theorem dL_law_287 : decode cL_law 287 = .ok (.iconst 0, 1) := by decide +kernel
theorem dL_law_288 : decode cL_law 288 = .ok (.laload, 1) := by decide +kernel
theorem dL_law_289 : decode cL_law 289 = .ok (.iload 6, 2) := by decide +kernel
theorem dL_law_291 : decode cL_law 291 = .ok (.i2l, 1) := by decide +kernel
theorem dL_law_292 : decode cL_law 292 = .ok (.lcmp, 1) := by decide +kernel
theorem dL_law_293 : decode cL_law 293 = .ok (.ifCond .eq 5, 3) := by decide +kernel
theorem dL_law_296 : decode cL_law 296 = .ok (.iconst 0, 1) := by decide +kernel
theorem dL_law_297 : decode cL_law 297 = .ok (.ireturn, 1) := by decide +kernel
theorem dL_law_298 : decode cL_law 298 = .ok (.goto 1431, 3) := by decide +kernel
theorem dL_law_301 : decode cL_law 301 = .ok (.aload_n 1, 1) := by decide +kernel
theorem dL_law_302 : decode cL_law 302 = .ok (.invokevirtual 100, 3) := by decide +kernel
theorem dL_law_305 : decode cL_law 305 = .ok (.aload_n 2, 1) := by decide +kernel
theorem dL_law_306 : decode cL_law 306 = .ok (.invokevirtual 103, 3) := by decide +kernel
theorem dL_law_309 : decode cL_law 309 = .ok (.if_icmp .eq 1420, 3) := by decide +kernel
theorem dL_law_312 : decode cL_law 312 = .ok (.iconst 0, 1) := by decide +kernel
theorem dL_law_313 : decode cL_law 313 = .ok (.ireturn, 1) := by decide +kernel
theorem dL_law_314 : decode cL_law 314 = .ok (.aload_n 1, 1) := by decide +kernel
theorem dL_law_315 : decode cL_law 315 = .ok (.invokevirtual 104, 3) := by decide +kernel
theorem dL_law_318 : decode cL_law 318 = .ok (.aload_n 2, 1) := by decide +kernel
theorem dL_law_319 : decode cL_law 319 = .ok (.invokevirtual 107, 3) := by decide +kernel
theorem dL_law_322 : decode cL_law 322 = .ok (.if_icmp .eq 1407, 3) := by decide +kernel
theorem dL_law_325 : decode cL_law 325 = .ok (.iconst 0, 1) := by decide +kernel
theorem dL_law_326 : decode cL_law 326 = .ok (.ireturn, 1) := by decide +kernel
theorem dL_law_327 : decode cL_law 327 = .ok (.aload_n 1, 1) := by decide +kernel
theorem dL_law_328 : decode cL_law 328 = .ok (.invokevirtual 108, 3) := by decide +kernel
theorem dL_law_331 : decode cL_law 331 = .ok (.aload_n 2, 1) := by decide +kernel
theorem dL_law_332 : decode cL_law 332 = .ok (.invokevirtual 111, 3) := by decide +kernel
theorem dL_law_335 : decode cL_law 335 = .ok (.if_icmp .eq 1394, 3) := by decide +kernel
theorem dL_law_338 : decode cL_law 338 = .ok (.iconst 0, 1) := by decide +kernel
theorem dL_law_339 : decode cL_law 339 = .ok (.ireturn, 1) := by decide +kernel
theorem dL_law_340 : decode cL_law 340 = .ok (.aload_n 1, 1) := by decide +kernel
theorem dL_law_341 : decode cL_law 341 = .ok (.aload_n 0, 1) := by decide +kernel
theorem dL_law_342 : decode cL_law 342 = .ok (.iload 4, 2) := by decide +kernel
theorem dL_law_344 : decode cL_law 344 = .ok (.iconst 1, 1) := by decide +kernel
theorem dL_law_345 : decode cL_law 345 = .ok (.iadd, 1) := by decide +kernel
theorem dL_law_346 : decode cL_law 346 = .ok (.iaload, 1) := by decide +kernel
theorem dL_law_347 : decode cL_law 347 = .ok (.aload_n 0, 1) := by decide +kernel
theorem dL_law_348 : decode cL_law 348 = .ok (.iload 4, 2) := by decide +kernel
theorem dL_law_350 : decode cL_law 350 = .ok (.iconst 2, 1) := by decide +kernel
theorem dL_law_351 : decode cL_law 351 = .ok (.iadd, 1) := by decide +kernel
theorem dL_law_352 : decode cL_law 352 = .ok (.iaload, 1) := by decide +kernel
theorem dL_law_353 : decode cL_law 353 = .ok (.aload_n 3, 1) := by decide +kernel
theorem dL_law_354 : decode cL_law 354 = .ok (.invokestatic 112, 3) := by decide +kernel
theorem dL_law_357 : decode cL_law 357 = .ok (.istore 5, 2) := by decide +kernel
theorem dL_law_359 : decode cL_law 359 = .ok (.aload_n 2, 1) := by decide +kernel
theorem dL_law_360 : decode cL_law 360 = .ok (.aload_n 0, 1) := by decide +kernel
theorem dL_law_361 : decode cL_law 361 = .ok (.iload 4, 2) := by decide +kernel
theorem dL_law_363 : decode cL_law 363 = .ok (.iconst 1, 1) := by decide +kernel
theorem dL_law_364 : decode cL_law 364 = .ok (.iadd, 1) := by decide +kernel
theorem dL_law_365 : decode cL_law 365 = .ok (.iaload, 1) := by decide +kernel
theorem dL_law_366 : decode cL_law 366 = .ok (.aload_n 0, 1) := by decide +kernel
theorem dL_law_367 : decode cL_law 367 = .ok (.iload 4, 2) := by decide +kernel
theorem dL_law_369 : decode cL_law 369 = .ok (.iconst 2, 1) := by decide +kernel
theorem dL_law_370 : decode cL_law 370 = .ok (.iadd, 1) := by decide +kernel
theorem dL_law_371 : decode cL_law 371 = .ok (.iaload, 1) := by decide +kernel
theorem dL_law_372 : decode cL_law 372 = .ok (.invokevirtual 115, 3) := by decide +kernel
theorem dL_law_375 : decode cL_law 375 = .ok (.istore 6, 2) := by decide +kernel
theorem dL_law_377 : decode cL_law 377 = .ok (.aload_n 2, 1) := by decide +kernel
theorem dL_law_378 : decode cL_law 378 = .ok (.invokevirtual 97, 3) := by decide +kernel
theorem dL_law_381 : decode cL_law 381 = .ok (.iload 5, 2) := by decide +kernel
theorem dL_law_383 : decode cL_law 383 = .ok (.if_icmp .eq 5, 3) := by decide +kernel
theorem dL_law_386 : decode cL_law 386 = .ok (.iconst 0, 1) := by decide +kernel
theorem dL_law_387 : decode cL_law 387 = .ok (.ireturn, 1) := by decide +kernel
theorem dL_law_388 : decode cL_law 388 = .ok (.iload 5, 2) := by decide +kernel
theorem dL_law_390 : decode cL_law 390 = .ok (.ifCond .ne 15, 3) := by decide +kernel
theorem dL_law_393 : decode cL_law 393 = .ok (.aload_n 3, 1) := by decide +kernel
theorem dL_law_394 : decode cL_law 394 = .ok (.iconst 0, 1) := by decide +kernel
theorem dL_law_395 : decode cL_law 395 = .ok (.laload, 1) := by decide +kernel
theorem dL_law_396 : decode cL_law 396 = .ok (.iload 6, 2) := by decide +kernel
theorem dL_law_398 : decode cL_law 398 = .ok (.i2l, 1) := by decide +kernel
theorem dL_law_399 : decode cL_law 399 = .ok (.lcmp, 1) := by decide +kernel
theorem dL_law_400 : decode cL_law 400 = .ok (.ifCond .eq 5, 3) := by decide +kernel
theorem dL_law_403 : decode cL_law 403 = .ok (.iconst 0, 1) := by decide +kernel
theorem dL_law_404 : decode cL_law 404 = .ok (.ireturn, 1) := by decide +kernel
theorem dL_law_405 : decode cL_law 405 = .ok (.goto 1324, 3) := by decide +kernel
theorem dL_law_408 : decode cL_law 408 = .ok (.aload_n 1, 1) := by decide +kernel
theorem dL_law_409 : decode cL_law 409 = .ok (.aload_n 0, 1) := by decide +kernel
theorem dL_law_410 : decode cL_law 410 = .ok (.iload 4, 2) := by decide +kernel
theorem dL_law_412 : decode cL_law 412 = .ok (.iconst 1, 1) := by decide +kernel
theorem dL_law_413 : decode cL_law 413 = .ok (.iadd, 1) := by decide +kernel
theorem dL_law_414 : decode cL_law 414 = .ok (.iaload, 1) := by decide +kernel
theorem dL_law_415 : decode cL_law 415 = .ok (.aload_n 0, 1) := by decide +kernel
theorem dL_law_416 : decode cL_law 416 = .ok (.iload 4, 2) := by decide +kernel
theorem dL_law_418 : decode cL_law 418 = .ok (.iconst 2, 1) := by decide +kernel
theorem dL_law_419 : decode cL_law 419 = .ok (.iadd, 1) := by decide +kernel
theorem dL_law_420 : decode cL_law 420 = .ok (.iaload, 1) := by decide +kernel
theorem dL_law_421 : decode cL_law 421 = .ok (.aload_n 0, 1) := by decide +kernel
theorem dL_law_422 : decode cL_law 422 = .ok (.iload 4, 2) := by decide +kernel
theorem dL_law_424 : decode cL_law 424 = .ok (.iconst 3, 1) := by decide +kernel
theorem dL_law_425 : decode cL_law 425 = .ok (.iadd, 1) := by decide +kernel
theorem dL_law_426 : decode cL_law 426 = .ok (.iaload, 1) := by decide +kernel
theorem dL_law_427 : decode cL_law 427 = .ok (.aload_n 3, 1) := by decide +kernel
theorem dL_law_428 : decode cL_law 428 = .ok (.invokestatic 116, 3) := by decide +kernel
theorem dL_law_431 : decode cL_law 431 = .ok (.istore 5, 2) := by decide +kernel
theorem dL_law_433 : decode cL_law 433 = .ok (.aload_n 2, 1) := by decide +kernel
theorem dL_law_434 : decode cL_law 434 = .ok (.aload_n 0, 1) := by decide +kernel
theorem dL_law_435 : decode cL_law 435 = .ok (.iload 4, 2) := by decide +kernel
theorem dL_law_437 : decode cL_law 437 = .ok (.iconst 1, 1) := by decide +kernel
theorem dL_law_438 : decode cL_law 438 = .ok (.iadd, 1) := by decide +kernel
theorem dL_law_439 : decode cL_law 439 = .ok (.iaload, 1) := by decide +kernel
theorem dL_law_440 : decode cL_law 440 = .ok (.aload_n 0, 1) := by decide +kernel
theorem dL_law_441 : decode cL_law 441 = .ok (.iload 4, 2) := by decide +kernel
theorem dL_law_443 : decode cL_law 443 = .ok (.iconst 2, 1) := by decide +kernel
theorem dL_law_444 : decode cL_law 444 = .ok (.iadd, 1) := by decide +kernel
theorem dL_law_445 : decode cL_law 445 = .ok (.iaload, 1) := by decide +kernel
theorem dL_law_446 : decode cL_law 446 = .ok (.aload_n 0, 1) := by decide +kernel
theorem dL_law_447 : decode cL_law 447 = .ok (.iload 4, 2) := by decide +kernel
theorem dL_law_449 : decode cL_law 449 = .ok (.iconst 3, 1) := by decide +kernel
theorem dL_law_450 : decode cL_law 450 = .ok (.iadd, 1) := by decide +kernel
theorem dL_law_451 : decode cL_law 451 = .ok (.iaload, 1) := by decide +kernel
theorem dL_law_452 : decode cL_law 452 = .ok (.invokevirtual 119, 3) := by decide +kernel
theorem dL_law_455 : decode cL_law 455 = .ok (.istore 6, 2) := by decide +kernel
theorem dL_law_457 : decode cL_law 457 = .ok (.aload_n 2, 1) := by decide +kernel
theorem dL_law_458 : decode cL_law 458 = .ok (.invokevirtual 97, 3) := by decide +kernel
theorem dL_law_461 : decode cL_law 461 = .ok (.iload 5, 2) := by decide +kernel
theorem dL_law_463 : decode cL_law 463 = .ok (.if_icmp .eq 5, 3) := by decide +kernel
theorem dL_law_466 : decode cL_law 466 = .ok (.iconst 0, 1) := by decide +kernel
theorem dL_law_467 : decode cL_law 467 = .ok (.ireturn, 1) := by decide +kernel
theorem dL_law_468 : decode cL_law 468 = .ok (.iload 5, 2) := by decide +kernel
theorem dL_law_470 : decode cL_law 470 = .ok (.ifCond .ne 15, 3) := by decide +kernel
theorem dL_law_473 : decode cL_law 473 = .ok (.aload_n 3, 1) := by decide +kernel
theorem dL_law_474 : decode cL_law 474 = .ok (.iconst 0, 1) := by decide +kernel
theorem dL_law_475 : decode cL_law 475 = .ok (.laload, 1) := by decide +kernel
theorem dL_law_476 : decode cL_law 476 = .ok (.iload 6, 2) := by decide +kernel
theorem dL_law_478 : decode cL_law 478 = .ok (.i2l, 1) := by decide +kernel
theorem dL_law_479 : decode cL_law 479 = .ok (.lcmp, 1) := by decide +kernel
theorem dL_law_480 : decode cL_law 480 = .ok (.ifCond .eq 5, 3) := by decide +kernel
theorem dL_law_483 : decode cL_law 483 = .ok (.iconst 0, 1) := by decide +kernel
theorem dL_law_484 : decode cL_law 484 = .ok (.ireturn, 1) := by decide +kernel
theorem dL_law_485 : decode cL_law 485 = .ok (.goto 1244, 3) := by decide +kernel
theorem dL_law_488 : decode cL_law 488 = .ok (.aload_n 1, 1) := by decide +kernel
theorem dL_law_489 : decode cL_law 489 = .ok (.aload_n 0, 1) := by decide +kernel
theorem dL_law_490 : decode cL_law 490 = .ok (.iload 4, 2) := by decide +kernel
theorem dL_law_492 : decode cL_law 492 = .ok (.iconst 1, 1) := by decide +kernel
theorem dL_law_493 : decode cL_law 493 = .ok (.iadd, 1) := by decide +kernel
theorem dL_law_494 : decode cL_law 494 = .ok (.iaload, 1) := by decide +kernel
theorem dL_law_495 : decode cL_law 495 = .ok (.aload_n 0, 1) := by decide +kernel
theorem dL_law_496 : decode cL_law 496 = .ok (.iload 4, 2) := by decide +kernel
theorem dL_law_498 : decode cL_law 498 = .ok (.iconst 2, 1) := by decide +kernel
theorem dL_law_499 : decode cL_law 499 = .ok (.iadd, 1) := by decide +kernel
theorem dL_law_500 : decode cL_law 500 = .ok (.iaload, 1) := by decide +kernel
theorem dL_law_501 : decode cL_law 501 = .ok (.aload_n 3, 1) := by decide +kernel
theorem dL_law_502 : decode cL_law 502 = .ok (.invokestatic 120, 3) := by decide +kernel
theorem dL_law_505 : decode cL_law 505 = .ok (.istore 5, 2) := by decide +kernel
theorem dL_law_507 : decode cL_law 507 = .ok (.aload_n 2, 1) := by decide +kernel
theorem dL_law_508 : decode cL_law 508 = .ok (.aload_n 0, 1) := by decide +kernel
theorem dL_law_509 : decode cL_law 509 = .ok (.iload 4, 2) := by decide +kernel
theorem dL_law_511 : decode cL_law 511 = .ok (.iconst 1, 1) := by decide +kernel
theorem dL_law_512 : decode cL_law 512 = .ok (.iadd, 1) := by decide +kernel
theorem dL_law_513 : decode cL_law 513 = .ok (.iaload, 1) := by decide +kernel
theorem dL_law_514 : decode cL_law 514 = .ok (.aload_n 0, 1) := by decide +kernel
theorem dL_law_515 : decode cL_law 515 = .ok (.iload 4, 2) := by decide +kernel
theorem dL_law_517 : decode cL_law 517 = .ok (.iconst 2, 1) := by decide +kernel
theorem dL_law_518 : decode cL_law 518 = .ok (.iadd, 1) := by decide +kernel
theorem dL_law_519 : decode cL_law 519 = .ok (.iaload, 1) := by decide +kernel
theorem dL_law_520 : decode cL_law 520 = .ok (.invokevirtual 122, 3) := by decide +kernel
theorem dL_law_523 : decode cL_law 523 = .ok (.istore 6, 2) := by decide +kernel
theorem dL_law_525 : decode cL_law 525 = .ok (.aload_n 2, 1) := by decide +kernel
theorem dL_law_526 : decode cL_law 526 = .ok (.invokevirtual 97, 3) := by decide +kernel
theorem dL_law_529 : decode cL_law 529 = .ok (.iload 5, 2) := by decide +kernel
theorem dL_law_531 : decode cL_law 531 = .ok (.if_icmp .eq 5, 3) := by decide +kernel
theorem dL_law_534 : decode cL_law 534 = .ok (.iconst 0, 1) := by decide +kernel
theorem dL_law_535 : decode cL_law 535 = .ok (.ireturn, 1) := by decide +kernel
theorem dL_law_536 : decode cL_law 536 = .ok (.iload 5, 2) := by decide +kernel
theorem dL_law_538 : decode cL_law 538 = .ok (.ifCond .ne 15, 3) := by decide +kernel
theorem dL_law_541 : decode cL_law 541 = .ok (.aload_n 3, 1) := by decide +kernel
theorem dL_law_542 : decode cL_law 542 = .ok (.iconst 0, 1) := by decide +kernel
theorem dL_law_543 : decode cL_law 543 = .ok (.laload, 1) := by decide +kernel
theorem dL_law_544 : decode cL_law 544 = .ok (.iload 6, 2) := by decide +kernel
theorem dL_law_546 : decode cL_law 546 = .ok (.i2l, 1) := by decide +kernel
theorem dL_law_547 : decode cL_law 547 = .ok (.lcmp, 1) := by decide +kernel
theorem dL_law_548 : decode cL_law 548 = .ok (.ifCond .eq 5, 3) := by decide +kernel
theorem dL_law_551 : decode cL_law 551 = .ok (.iconst 0, 1) := by decide +kernel
theorem dL_law_552 : decode cL_law 552 = .ok (.ireturn, 1) := by decide +kernel
theorem dL_law_553 : decode cL_law 553 = .ok (.goto 1176, 3) := by decide +kernel
theorem dL_law_556 : decode cL_law 556 = .ok (.aload_n 1, 1) := by decide +kernel
theorem dL_law_557 : decode cL_law 557 = .ok (.aload_n 0, 1) := by decide +kernel
theorem dL_law_558 : decode cL_law 558 = .ok (.iload 4, 2) := by decide +kernel
theorem dL_law_560 : decode cL_law 560 = .ok (.iconst 1, 1) := by decide +kernel
theorem dL_law_561 : decode cL_law 561 = .ok (.iadd, 1) := by decide +kernel
theorem dL_law_562 : decode cL_law 562 = .ok (.iaload, 1) := by decide +kernel
theorem dL_law_563 : decode cL_law 563 = .ok (.aload_n 0, 1) := by decide +kernel
theorem dL_law_564 : decode cL_law 564 = .ok (.iload 4, 2) := by decide +kernel
theorem dL_law_566 : decode cL_law 566 = .ok (.iconst 2, 1) := by decide +kernel
theorem dL_law_567 : decode cL_law 567 = .ok (.iadd, 1) := by decide +kernel
theorem dL_law_568 : decode cL_law 568 = .ok (.iaload, 1) := by decide +kernel
theorem dL_law_569 : decode cL_law 569 = .ok (.aload_n 3, 1) := by decide +kernel
theorem dL_law_570 : decode cL_law 570 = .ok (.invokestatic 123, 3) := by decide +kernel
theorem dL_law_573 : decode cL_law 573 = .ok (.istore 5, 2) := by decide +kernel
theorem dL_law_575 : decode cL_law 575 = .ok (.aload_n 2, 1) := by decide +kernel
theorem dL_law_576 : decode cL_law 576 = .ok (.aload_n 0, 1) := by decide +kernel
theorem dL_law_577 : decode cL_law 577 = .ok (.iload 4, 2) := by decide +kernel
theorem dL_law_579 : decode cL_law 579 = .ok (.iconst 1, 1) := by decide +kernel
theorem dL_law_580 : decode cL_law 580 = .ok (.iadd, 1) := by decide +kernel
theorem dL_law_581 : decode cL_law 581 = .ok (.iaload, 1) := by decide +kernel
theorem dL_law_582 : decode cL_law 582 = .ok (.aload_n 0, 1) := by decide +kernel
theorem dL_law_583 : decode cL_law 583 = .ok (.iload 4, 2) := by decide +kernel
theorem dL_law_585 : decode cL_law 585 = .ok (.iconst 2, 1) := by decide +kernel
theorem dL_law_586 : decode cL_law 586 = .ok (.iadd, 1) := by decide +kernel
theorem dL_law_587 : decode cL_law 587 = .ok (.iaload, 1) := by decide +kernel
theorem dL_law_588 : decode cL_law 588 = .ok (.invokevirtual 125, 3) := by decide +kernel
theorem dL_law_591 : decode cL_law 591 = .ok (.istore 6, 2) := by decide +kernel
theorem dL_law_593 : decode cL_law 593 = .ok (.aload_n 2, 1) := by decide +kernel
theorem dL_law_594 : decode cL_law 594 = .ok (.invokevirtual 97, 3) := by decide +kernel
theorem dL_law_597 : decode cL_law 597 = .ok (.iload 5, 2) := by decide +kernel
theorem dL_law_599 : decode cL_law 599 = .ok (.if_icmp .eq 5, 3) := by decide +kernel
theorem dL_law_602 : decode cL_law 602 = .ok (.iconst 0, 1) := by decide +kernel
theorem dL_law_603 : decode cL_law 603 = .ok (.ireturn, 1) := by decide +kernel
theorem dL_law_604 : decode cL_law 604 = .ok (.iload 5, 2) := by decide +kernel
theorem dL_law_606 : decode cL_law 606 = .ok (.ifCond .ne 22, 3) := by decide +kernel
theorem dL_law_609 : decode cL_law 609 = .ok (.aload_n 3, 1) := by decide +kernel
theorem dL_law_610 : decode cL_law 610 = .ok (.iconst 0, 1) := by decide +kernel
theorem dL_law_611 : decode cL_law 611 = .ok (.laload, 1) := by decide +kernel
theorem dL_law_612 : decode cL_law 612 = .ok (.iload 6, 2) := by decide +kernel
theorem dL_law_614 : decode cL_law 614 = .ok (.ifCond .eq 7, 3) := by decide +kernel
theorem dL_law_617 : decode cL_law 617 = .ok (.lconst 1, 1) := by decide +kernel
theorem dL_law_618 : decode cL_law 618 = .ok (.goto 4, 3) := by decide +kernel
theorem dL_law_621 : decode cL_law 621 = .ok (.lconst 0, 1) := by decide +kernel
theorem dL_law_622 : decode cL_law 622 = .ok (.lcmp, 1) := by decide +kernel
theorem dL_law_623 : decode cL_law 623 = .ok (.ifCond .eq 5, 3) := by decide +kernel
theorem dL_law_626 : decode cL_law 626 = .ok (.iconst 0, 1) := by decide +kernel
theorem dL_law_627 : decode cL_law 627 = .ok (.ireturn, 1) := by decide +kernel
theorem dL_law_628 : decode cL_law 628 = .ok (.goto 1101, 3) := by decide +kernel
theorem dL_law_631 : decode cL_law 631 = .ok (.aload_n 1, 1) := by decide +kernel
theorem dL_law_632 : decode cL_law 632 = .ok (.aload_n 0, 1) := by decide +kernel
theorem dL_law_633 : decode cL_law 633 = .ok (.iload 4, 2) := by decide +kernel
theorem dL_law_635 : decode cL_law 635 = .ok (.iconst 1, 1) := by decide +kernel
theorem dL_law_636 : decode cL_law 636 = .ok (.iadd, 1) := by decide +kernel
theorem dL_law_637 : decode cL_law 637 = .ok (.iaload, 1) := by decide +kernel
theorem dL_law_638 : decode cL_law 638 = .ok (.aload_n 0, 1) := by decide +kernel
theorem dL_law_639 : decode cL_law 639 = .ok (.iload 4, 2) := by decide +kernel
theorem dL_law_641 : decode cL_law 641 = .ok (.iconst 2, 1) := by decide +kernel
theorem dL_law_642 : decode cL_law 642 = .ok (.iadd, 1) := by decide +kernel
theorem dL_law_643 : decode cL_law 643 = .ok (.iaload, 1) := by decide +kernel
theorem dL_law_644 : decode cL_law 644 = .ok (.aload_n 3, 1) := by decide +kernel
theorem dL_law_645 : decode cL_law 645 = .ok (.invokestatic 126, 3) := by decide +kernel
theorem dL_law_648 : decode cL_law 648 = .ok (.istore 5, 2) := by decide +kernel
theorem dL_law_650 : decode cL_law 650 = .ok (.aload_n 2, 1) := by decide +kernel
theorem dL_law_651 : decode cL_law 651 = .ok (.aload_n 0, 1) := by decide +kernel
theorem dL_law_652 : decode cL_law 652 = .ok (.iload 4, 2) := by decide +kernel
theorem dL_law_654 : decode cL_law 654 = .ok (.iconst 1, 1) := by decide +kernel
theorem dL_law_655 : decode cL_law 655 = .ok (.iadd, 1) := by decide +kernel
theorem dL_law_656 : decode cL_law 656 = .ok (.iaload, 1) := by decide +kernel
theorem dL_law_657 : decode cL_law 657 = .ok (.aload_n 0, 1) := by decide +kernel
theorem dL_law_658 : decode cL_law 658 = .ok (.iload 4, 2) := by decide +kernel
theorem dL_law_660 : decode cL_law 660 = .ok (.iconst 2, 1) := by decide +kernel
theorem dL_law_661 : decode cL_law 661 = .ok (.iadd, 1) := by decide +kernel
theorem dL_law_662 : decode cL_law 662 = .ok (.iaload, 1) := by decide +kernel
theorem dL_law_663 : decode cL_law 663 = .ok (.invokevirtual 128, 3) := by decide +kernel
theorem dL_law_666 : decode cL_law 666 = .ok (.istore 6, 2) := by decide +kernel
theorem dL_law_668 : decode cL_law 668 = .ok (.aload_n 2, 1) := by decide +kernel
theorem dL_law_669 : decode cL_law 669 = .ok (.invokevirtual 97, 3) := by decide +kernel
theorem dL_law_672 : decode cL_law 672 = .ok (.iload 5, 2) := by decide +kernel
theorem dL_law_674 : decode cL_law 674 = .ok (.if_icmp .eq 5, 3) := by decide +kernel
theorem dL_law_677 : decode cL_law 677 = .ok (.iconst 0, 1) := by decide +kernel
theorem dL_law_678 : decode cL_law 678 = .ok (.ireturn, 1) := by decide +kernel
theorem dL_law_679 : decode cL_law 679 = .ok (.iload 5, 2) := by decide +kernel
theorem dL_law_681 : decode cL_law 681 = .ok (.ifCond .ne 15, 3) := by decide +kernel
theorem dL_law_684 : decode cL_law 684 = .ok (.aload_n 3, 1) := by decide +kernel
theorem dL_law_685 : decode cL_law 685 = .ok (.iconst 0, 1) := by decide +kernel
theorem dL_law_686 : decode cL_law 686 = .ok (.laload, 1) := by decide +kernel
theorem dL_law_687 : decode cL_law 687 = .ok (.iload 6, 2) := by decide +kernel
theorem dL_law_689 : decode cL_law 689 = .ok (.i2l, 1) := by decide +kernel
theorem dL_law_690 : decode cL_law 690 = .ok (.lcmp, 1) := by decide +kernel
theorem dL_law_691 : decode cL_law 691 = .ok (.ifCond .eq 5, 3) := by decide +kernel
theorem dL_law_694 : decode cL_law 694 = .ok (.iconst 0, 1) := by decide +kernel
theorem dL_law_695 : decode cL_law 695 = .ok (.ireturn, 1) := by decide +kernel
theorem dL_law_696 : decode cL_law 696 = .ok (.goto 1033, 3) := by decide +kernel
theorem dL_law_699 : decode cL_law 699 = .ok (.aload_n 1, 1) := by decide +kernel
theorem dL_law_700 : decode cL_law 700 = .ok (.aload_n 0, 1) := by decide +kernel
theorem dL_law_701 : decode cL_law 701 = .ok (.iload 4, 2) := by decide +kernel
theorem dL_law_703 : decode cL_law 703 = .ok (.iconst 1, 1) := by decide +kernel
theorem dL_law_704 : decode cL_law 704 = .ok (.iadd, 1) := by decide +kernel
theorem dL_law_705 : decode cL_law 705 = .ok (.iaload, 1) := by decide +kernel
theorem dL_law_706 : decode cL_law 706 = .ok (.aload_n 0, 1) := by decide +kernel
theorem dL_law_707 : decode cL_law 707 = .ok (.iload 4, 2) := by decide +kernel
theorem dL_law_709 : decode cL_law 709 = .ok (.iconst 2, 1) := by decide +kernel
theorem dL_law_710 : decode cL_law 710 = .ok (.iadd, 1) := by decide +kernel
theorem dL_law_711 : decode cL_law 711 = .ok (.iaload, 1) := by decide +kernel
theorem dL_law_712 : decode cL_law 712 = .ok (.aload_n 0, 1) := by decide +kernel
theorem dL_law_713 : decode cL_law 713 = .ok (.iload 4, 2) := by decide +kernel
theorem dL_law_715 : decode cL_law 715 = .ok (.iconst 3, 1) := by decide +kernel
theorem dL_law_716 : decode cL_law 716 = .ok (.iadd, 1) := by decide +kernel
theorem dL_law_717 : decode cL_law 717 = .ok (.iaload, 1) := by decide +kernel
theorem dL_law_718 : decode cL_law 718 = .ok (.aload_n 3, 1) := by decide +kernel
theorem dL_law_719 : decode cL_law 719 = .ok (.invokestatic 129, 3) := by decide +kernel
theorem dL_law_722 : decode cL_law 722 = .ok (.istore 5, 2) := by decide +kernel
theorem dL_law_724 : decode cL_law 724 = .ok (.aload_n 2, 1) := by decide +kernel
theorem dL_law_725 : decode cL_law 725 = .ok (.aload_n 0, 1) := by decide +kernel
theorem dL_law_726 : decode cL_law 726 = .ok (.iload 4, 2) := by decide +kernel
theorem dL_law_728 : decode cL_law 728 = .ok (.iconst 1, 1) := by decide +kernel
theorem dL_law_729 : decode cL_law 729 = .ok (.iadd, 1) := by decide +kernel
theorem dL_law_730 : decode cL_law 730 = .ok (.iaload, 1) := by decide +kernel
theorem dL_law_731 : decode cL_law 731 = .ok (.aload_n 0, 1) := by decide +kernel
theorem dL_law_732 : decode cL_law 732 = .ok (.iload 4, 2) := by decide +kernel
theorem dL_law_734 : decode cL_law 734 = .ok (.iconst 2, 1) := by decide +kernel
theorem dL_law_735 : decode cL_law 735 = .ok (.iadd, 1) := by decide +kernel
theorem dL_law_736 : decode cL_law 736 = .ok (.iaload, 1) := by decide +kernel
theorem dL_law_737 : decode cL_law 737 = .ok (.aload_n 0, 1) := by decide +kernel
theorem dL_law_738 : decode cL_law 738 = .ok (.iload 4, 2) := by decide +kernel
theorem dL_law_740 : decode cL_law 740 = .ok (.iconst 3, 1) := by decide +kernel
theorem dL_law_741 : decode cL_law 741 = .ok (.iadd, 1) := by decide +kernel
theorem dL_law_742 : decode cL_law 742 = .ok (.iaload, 1) := by decide +kernel
theorem dL_law_743 : decode cL_law 743 = .ok (.invokevirtual 131, 3) := by decide +kernel
theorem dL_law_746 : decode cL_law 746 = .ok (.istore 6, 2) := by decide +kernel
theorem dL_law_748 : decode cL_law 748 = .ok (.aload_n 2, 1) := by decide +kernel
theorem dL_law_749 : decode cL_law 749 = .ok (.invokevirtual 97, 3) := by decide +kernel
theorem dL_law_752 : decode cL_law 752 = .ok (.iload 5, 2) := by decide +kernel
theorem dL_law_754 : decode cL_law 754 = .ok (.if_icmp .eq 5, 3) := by decide +kernel
theorem dL_law_757 : decode cL_law 757 = .ok (.iconst 0, 1) := by decide +kernel
theorem dL_law_758 : decode cL_law 758 = .ok (.ireturn, 1) := by decide +kernel
theorem dL_law_759 : decode cL_law 759 = .ok (.iload 5, 2) := by decide +kernel
theorem dL_law_761 : decode cL_law 761 = .ok (.ifCond .ne 15, 3) := by decide +kernel
theorem dL_law_764 : decode cL_law 764 = .ok (.aload_n 3, 1) := by decide +kernel
theorem dL_law_765 : decode cL_law 765 = .ok (.iconst 0, 1) := by decide +kernel
theorem dL_law_766 : decode cL_law 766 = .ok (.laload, 1) := by decide +kernel
theorem dL_law_767 : decode cL_law 767 = .ok (.iload 6, 2) := by decide +kernel
theorem dL_law_769 : decode cL_law 769 = .ok (.i2l, 1) := by decide +kernel
theorem dL_law_770 : decode cL_law 770 = .ok (.lcmp, 1) := by decide +kernel
theorem dL_law_771 : decode cL_law 771 = .ok (.ifCond .eq 5, 3) := by decide +kernel
theorem dL_law_774 : decode cL_law 774 = .ok (.iconst 0, 1) := by decide +kernel
theorem dL_law_775 : decode cL_law 775 = .ok (.ireturn, 1) := by decide +kernel
theorem dL_law_776 : decode cL_law 776 = .ok (.goto 953, 3) := by decide +kernel
theorem dL_law_779 : decode cL_law 779 = .ok (.aload_n 1, 1) := by decide +kernel
theorem dL_law_780 : decode cL_law 780 = .ok (.aload_n 0, 1) := by decide +kernel
theorem dL_law_781 : decode cL_law 781 = .ok (.iload 4, 2) := by decide +kernel
theorem dL_law_783 : decode cL_law 783 = .ok (.iconst 1, 1) := by decide +kernel
theorem dL_law_784 : decode cL_law 784 = .ok (.iadd, 1) := by decide +kernel
theorem dL_law_785 : decode cL_law 785 = .ok (.iaload, 1) := by decide +kernel
theorem dL_law_786 : decode cL_law 786 = .ok (.aload_n 0, 1) := by decide +kernel
theorem dL_law_787 : decode cL_law 787 = .ok (.iload 4, 2) := by decide +kernel
theorem dL_law_789 : decode cL_law 789 = .ok (.iconst 2, 1) := by decide +kernel
theorem dL_law_790 : decode cL_law 790 = .ok (.iadd, 1) := by decide +kernel
theorem dL_law_791 : decode cL_law 791 = .ok (.iaload, 1) := by decide +kernel
theorem dL_law_792 : decode cL_law 792 = .ok (.aload_n 0, 1) := by decide +kernel
theorem dL_law_793 : decode cL_law 793 = .ok (.iload 4, 2) := by decide +kernel
theorem dL_law_795 : decode cL_law 795 = .ok (.iconst 3, 1) := by decide +kernel
theorem dL_law_796 : decode cL_law 796 = .ok (.iadd, 1) := by decide +kernel
theorem dL_law_797 : decode cL_law 797 = .ok (.iaload, 1) := by decide +kernel
theorem dL_law_798 : decode cL_law 798 = .ok (.aload_n 3, 1) := by decide +kernel
theorem dL_law_799 : decode cL_law 799 = .ok (.invokestatic 132, 3) := by decide +kernel
theorem dL_law_802 : decode cL_law 802 = .ok (.istore 5, 2) := by decide +kernel
theorem dL_law_804 : decode cL_law 804 = .ok (.aload_n 2, 1) := by decide +kernel
theorem dL_law_805 : decode cL_law 805 = .ok (.aload_n 0, 1) := by decide +kernel
theorem dL_law_806 : decode cL_law 806 = .ok (.iload 4, 2) := by decide +kernel
theorem dL_law_808 : decode cL_law 808 = .ok (.iconst 1, 1) := by decide +kernel
theorem dL_law_809 : decode cL_law 809 = .ok (.iadd, 1) := by decide +kernel
theorem dL_law_810 : decode cL_law 810 = .ok (.iaload, 1) := by decide +kernel
theorem dL_law_811 : decode cL_law 811 = .ok (.aload_n 0, 1) := by decide +kernel
theorem dL_law_812 : decode cL_law 812 = .ok (.iload 4, 2) := by decide +kernel
theorem dL_law_814 : decode cL_law 814 = .ok (.iconst 2, 1) := by decide +kernel
theorem dL_law_815 : decode cL_law 815 = .ok (.iadd, 1) := by decide +kernel
theorem dL_law_816 : decode cL_law 816 = .ok (.iaload, 1) := by decide +kernel
theorem dL_law_817 : decode cL_law 817 = .ok (.aload_n 0, 1) := by decide +kernel
theorem dL_law_818 : decode cL_law 818 = .ok (.iload 4, 2) := by decide +kernel
theorem dL_law_820 : decode cL_law 820 = .ok (.iconst 3, 1) := by decide +kernel
theorem dL_law_821 : decode cL_law 821 = .ok (.iadd, 1) := by decide +kernel
theorem dL_law_822 : decode cL_law 822 = .ok (.iaload, 1) := by decide +kernel
theorem dL_law_823 : decode cL_law 823 = .ok (.invokevirtual 134, 3) := by decide +kernel
theorem dL_law_826 : decode cL_law 826 = .ok (.istore 6, 2) := by decide +kernel
theorem dL_law_828 : decode cL_law 828 = .ok (.aload_n 2, 1) := by decide +kernel
theorem dL_law_829 : decode cL_law 829 = .ok (.invokevirtual 97, 3) := by decide +kernel
theorem dL_law_832 : decode cL_law 832 = .ok (.iload 5, 2) := by decide +kernel
theorem dL_law_834 : decode cL_law 834 = .ok (.if_icmp .eq 5, 3) := by decide +kernel
theorem dL_law_837 : decode cL_law 837 = .ok (.iconst 0, 1) := by decide +kernel
theorem dL_law_838 : decode cL_law 838 = .ok (.ireturn, 1) := by decide +kernel
theorem dL_law_839 : decode cL_law 839 = .ok (.iload 5, 2) := by decide +kernel
theorem dL_law_841 : decode cL_law 841 = .ok (.ifCond .ne 15, 3) := by decide +kernel
theorem dL_law_844 : decode cL_law 844 = .ok (.aload_n 3, 1) := by decide +kernel
theorem dL_law_845 : decode cL_law 845 = .ok (.iconst 0, 1) := by decide +kernel
theorem dL_law_846 : decode cL_law 846 = .ok (.laload, 1) := by decide +kernel
theorem dL_law_847 : decode cL_law 847 = .ok (.iload 6, 2) := by decide +kernel
theorem dL_law_849 : decode cL_law 849 = .ok (.i2l, 1) := by decide +kernel
theorem dL_law_850 : decode cL_law 850 = .ok (.lcmp, 1) := by decide +kernel
theorem dL_law_851 : decode cL_law 851 = .ok (.ifCond .eq 5, 3) := by decide +kernel
theorem dL_law_854 : decode cL_law 854 = .ok (.iconst 0, 1) := by decide +kernel
theorem dL_law_855 : decode cL_law 855 = .ok (.ireturn, 1) := by decide +kernel
theorem dL_law_856 : decode cL_law 856 = .ok (.goto 873, 3) := by decide +kernel
theorem dL_law_859 : decode cL_law 859 = .ok (.aload_n 1, 1) := by decide +kernel
theorem dL_law_860 : decode cL_law 860 = .ok (.aload_n 0, 1) := by decide +kernel
theorem dL_law_861 : decode cL_law 861 = .ok (.iload 4, 2) := by decide +kernel
theorem dL_law_863 : decode cL_law 863 = .ok (.iconst 1, 1) := by decide +kernel
theorem dL_law_864 : decode cL_law 864 = .ok (.iadd, 1) := by decide +kernel
theorem dL_law_865 : decode cL_law 865 = .ok (.iaload, 1) := by decide +kernel
theorem dL_law_866 : decode cL_law 866 = .ok (.aload_n 0, 1) := by decide +kernel
theorem dL_law_867 : decode cL_law 867 = .ok (.iload 4, 2) := by decide +kernel
theorem dL_law_869 : decode cL_law 869 = .ok (.iconst 2, 1) := by decide +kernel
theorem dL_law_870 : decode cL_law 870 = .ok (.iadd, 1) := by decide +kernel
theorem dL_law_871 : decode cL_law 871 = .ok (.iaload, 1) := by decide +kernel
theorem dL_law_872 : decode cL_law 872 = .ok (.aload_n 3, 1) := by decide +kernel
theorem dL_law_873 : decode cL_law 873 = .ok (.invokestatic 135, 3) := by decide +kernel
theorem dL_law_876 : decode cL_law 876 = .ok (.istore 5, 2) := by decide +kernel
theorem dL_law_878 : decode cL_law 878 = .ok (.aload_n 2, 1) := by decide +kernel
theorem dL_law_879 : decode cL_law 879 = .ok (.aload_n 0, 1) := by decide +kernel
theorem dL_law_880 : decode cL_law 880 = .ok (.iload 4, 2) := by decide +kernel
theorem dL_law_882 : decode cL_law 882 = .ok (.iconst 1, 1) := by decide +kernel
theorem dL_law_883 : decode cL_law 883 = .ok (.iadd, 1) := by decide +kernel
theorem dL_law_884 : decode cL_law 884 = .ok (.iaload, 1) := by decide +kernel
theorem dL_law_885 : decode cL_law 885 = .ok (.aload_n 0, 1) := by decide +kernel
theorem dL_law_886 : decode cL_law 886 = .ok (.iload 4, 2) := by decide +kernel
theorem dL_law_888 : decode cL_law 888 = .ok (.iconst 2, 1) := by decide +kernel
theorem dL_law_889 : decode cL_law 889 = .ok (.iadd, 1) := by decide +kernel
theorem dL_law_890 : decode cL_law 890 = .ok (.iaload, 1) := by decide +kernel
theorem dL_law_891 : decode cL_law 891 = .ok (.invokevirtual 137, 3) := by decide +kernel
theorem dL_law_894 : decode cL_law 894 = .ok (.istore 6, 2) := by decide +kernel
theorem dL_law_896 : decode cL_law 896 = .ok (.aload_n 2, 1) := by decide +kernel
theorem dL_law_897 : decode cL_law 897 = .ok (.invokevirtual 97, 3) := by decide +kernel
theorem dL_law_900 : decode cL_law 900 = .ok (.iload 5, 2) := by decide +kernel
theorem dL_law_902 : decode cL_law 902 = .ok (.if_icmp .eq 5, 3) := by decide +kernel
theorem dL_law_905 : decode cL_law 905 = .ok (.iconst 0, 1) := by decide +kernel
theorem dL_law_906 : decode cL_law 906 = .ok (.ireturn, 1) := by decide +kernel
theorem dL_law_907 : decode cL_law 907 = .ok (.iload 5, 2) := by decide +kernel
theorem dL_law_909 : decode cL_law 909 = .ok (.ifCond .ne 15, 3) := by decide +kernel
theorem dL_law_912 : decode cL_law 912 = .ok (.aload_n 3, 1) := by decide +kernel
theorem dL_law_913 : decode cL_law 913 = .ok (.iconst 0, 1) := by decide +kernel
theorem dL_law_914 : decode cL_law 914 = .ok (.laload, 1) := by decide +kernel
theorem dL_law_915 : decode cL_law 915 = .ok (.iload 6, 2) := by decide +kernel
theorem dL_law_917 : decode cL_law 917 = .ok (.i2l, 1) := by decide +kernel
theorem dL_law_918 : decode cL_law 918 = .ok (.lcmp, 1) := by decide +kernel
theorem dL_law_919 : decode cL_law 919 = .ok (.ifCond .eq 5, 3) := by decide +kernel
theorem dL_law_922 : decode cL_law 922 = .ok (.iconst 0, 1) := by decide +kernel
theorem dL_law_923 : decode cL_law 923 = .ok (.ireturn, 1) := by decide +kernel
theorem dL_law_924 : decode cL_law 924 = .ok (.goto 805, 3) := by decide +kernel
theorem dL_law_927 : decode cL_law 927 = .ok (.aload_n 1, 1) := by decide +kernel
theorem dL_law_928 : decode cL_law 928 = .ok (.aload_n 0, 1) := by decide +kernel
theorem dL_law_929 : decode cL_law 929 = .ok (.iload 4, 2) := by decide +kernel
theorem dL_law_931 : decode cL_law 931 = .ok (.iconst 1, 1) := by decide +kernel
theorem dL_law_932 : decode cL_law 932 = .ok (.iadd, 1) := by decide +kernel
theorem dL_law_933 : decode cL_law 933 = .ok (.iaload, 1) := by decide +kernel
theorem dL_law_934 : decode cL_law 934 = .ok (.aload_n 0, 1) := by decide +kernel
theorem dL_law_935 : decode cL_law 935 = .ok (.iload 4, 2) := by decide +kernel
theorem dL_law_937 : decode cL_law 937 = .ok (.iconst 2, 1) := by decide +kernel
theorem dL_law_938 : decode cL_law 938 = .ok (.iadd, 1) := by decide +kernel
theorem dL_law_939 : decode cL_law 939 = .ok (.iaload, 1) := by decide +kernel
theorem dL_law_940 : decode cL_law 940 = .ok (.aload_n 3, 1) := by decide +kernel
theorem dL_law_941 : decode cL_law 941 = .ok (.invokestatic 138, 3) := by decide +kernel
theorem dL_law_944 : decode cL_law 944 = .ok (.istore 5, 2) := by decide +kernel
theorem dL_law_946 : decode cL_law 946 = .ok (.aload_n 2, 1) := by decide +kernel
theorem dL_law_947 : decode cL_law 947 = .ok (.aload_n 0, 1) := by decide +kernel
theorem dL_law_948 : decode cL_law 948 = .ok (.iload 4, 2) := by decide +kernel
theorem dL_law_950 : decode cL_law 950 = .ok (.iconst 1, 1) := by decide +kernel
theorem dL_law_951 : decode cL_law 951 = .ok (.iadd, 1) := by decide +kernel
theorem dL_law_952 : decode cL_law 952 = .ok (.iaload, 1) := by decide +kernel
theorem dL_law_953 : decode cL_law 953 = .ok (.aload_n 0, 1) := by decide +kernel
theorem dL_law_954 : decode cL_law 954 = .ok (.iload 4, 2) := by decide +kernel
theorem dL_law_956 : decode cL_law 956 = .ok (.iconst 2, 1) := by decide +kernel
theorem dL_law_957 : decode cL_law 957 = .ok (.iadd, 1) := by decide +kernel
theorem dL_law_958 : decode cL_law 958 = .ok (.iaload, 1) := by decide +kernel
theorem dL_law_959 : decode cL_law 959 = .ok (.invokevirtual 140, 3) := by decide +kernel
theorem dL_law_962 : decode cL_law 962 = .ok (.istore 6, 2) := by decide +kernel
theorem dL_law_964 : decode cL_law 964 = .ok (.aload_n 2, 1) := by decide +kernel
theorem dL_law_965 : decode cL_law 965 = .ok (.invokevirtual 97, 3) := by decide +kernel
theorem dL_law_968 : decode cL_law 968 = .ok (.iload 5, 2) := by decide +kernel
theorem dL_law_970 : decode cL_law 970 = .ok (.if_icmp .eq 5, 3) := by decide +kernel
theorem dL_law_973 : decode cL_law 973 = .ok (.iconst 0, 1) := by decide +kernel
theorem dL_law_974 : decode cL_law 974 = .ok (.ireturn, 1) := by decide +kernel
theorem dL_law_975 : decode cL_law 975 = .ok (.iload 5, 2) := by decide +kernel
theorem dL_law_977 : decode cL_law 977 = .ok (.ifCond .ne 15, 3) := by decide +kernel
theorem dL_law_980 : decode cL_law 980 = .ok (.aload_n 3, 1) := by decide +kernel
theorem dL_law_981 : decode cL_law 981 = .ok (.iconst 0, 1) := by decide +kernel
theorem dL_law_982 : decode cL_law 982 = .ok (.laload, 1) := by decide +kernel
theorem dL_law_983 : decode cL_law 983 = .ok (.iload 6, 2) := by decide +kernel
theorem dL_law_985 : decode cL_law 985 = .ok (.i2l, 1) := by decide +kernel
theorem dL_law_986 : decode cL_law 986 = .ok (.lcmp, 1) := by decide +kernel
theorem dL_law_987 : decode cL_law 987 = .ok (.ifCond .eq 5, 3) := by decide +kernel
theorem dL_law_990 : decode cL_law 990 = .ok (.iconst 0, 1) := by decide +kernel
theorem dL_law_991 : decode cL_law 991 = .ok (.ireturn, 1) := by decide +kernel
theorem dL_law_992 : decode cL_law 992 = .ok (.goto 737, 3) := by decide +kernel
theorem dL_law_995 : decode cL_law 995 = .ok (.aload_n 1, 1) := by decide +kernel
theorem dL_law_996 : decode cL_law 996 = .ok (.invokevirtual 141, 3) := by decide +kernel
theorem dL_law_999 : decode cL_law 999 = .ok (.aload_n 2, 1) := by decide +kernel
theorem dL_law_1000 : decode cL_law 1000 = .ok (.invokevirtual 144, 3) := by decide +kernel
theorem dL_law_1003 : decode cL_law 1003 = .ok (.if_icmp .eq 726, 3) := by decide +kernel
theorem dL_law_1006 : decode cL_law 1006 = .ok (.iconst 0, 1) := by decide +kernel
theorem dL_law_1007 : decode cL_law 1007 = .ok (.ireturn, 1) := by decide +kernel
theorem dL_law_1008 : decode cL_law 1008 = .ok (.aload_n 1, 1) := by decide +kernel
theorem dL_law_1009 : decode cL_law 1009 = .ok (.invokevirtual 145, 3) := by decide +kernel
theorem dL_law_1012 : decode cL_law 1012 = .ok (.aload_n 2, 1) := by decide +kernel
theorem dL_law_1013 : decode cL_law 1013 = .ok (.invokevirtual 148, 3) := by decide +kernel
theorem dL_law_1016 : decode cL_law 1016 = .ok (.if_icmp .eq 713, 3) := by decide +kernel
theorem dL_law_1019 : decode cL_law 1019 = .ok (.iconst 0, 1) := by decide +kernel
theorem dL_law_1020 : decode cL_law 1020 = .ok (.ireturn, 1) := by decide +kernel
theorem dL_law_1021 : decode cL_law 1021 = .ok (.aload_n 1, 1) := by decide +kernel
theorem dL_law_1022 : decode cL_law 1022 = .ok (.aload_n 0, 1) := by decide +kernel
theorem dL_law_1023 : decode cL_law 1023 = .ok (.iload 4, 2) := by decide +kernel
theorem dL_law_1025 : decode cL_law 1025 = .ok (.iconst 1, 1) := by decide +kernel
theorem dL_law_1026 : decode cL_law 1026 = .ok (.iadd, 1) := by decide +kernel
theorem dL_law_1027 : decode cL_law 1027 = .ok (.iaload, 1) := by decide +kernel
theorem dL_law_1028 : decode cL_law 1028 = .ok (.aload_n 0, 1) := by decide +kernel
theorem dL_law_1029 : decode cL_law 1029 = .ok (.iload 4, 2) := by decide +kernel
theorem dL_law_1031 : decode cL_law 1031 = .ok (.iconst 2, 1) := by decide +kernel
theorem dL_law_1032 : decode cL_law 1032 = .ok (.iadd, 1) := by decide +kernel
theorem dL_law_1033 : decode cL_law 1033 = .ok (.iaload, 1) := by decide +kernel
theorem dL_law_1034 : decode cL_law 1034 = .ok (.aload_n 3, 1) := by decide +kernel
theorem dL_law_1035 : decode cL_law 1035 = .ok (.invokestatic 149, 3) := by decide +kernel
theorem dL_law_1038 : decode cL_law 1038 = .ok (.istore 5, 2) := by decide +kernel
theorem dL_law_1040 : decode cL_law 1040 = .ok (.aload_n 2, 1) := by decide +kernel
theorem dL_law_1041 : decode cL_law 1041 = .ok (.aload_n 0, 1) := by decide +kernel
theorem dL_law_1042 : decode cL_law 1042 = .ok (.iload 4, 2) := by decide +kernel
theorem dL_law_1044 : decode cL_law 1044 = .ok (.iconst 1, 1) := by decide +kernel
theorem dL_law_1045 : decode cL_law 1045 = .ok (.iadd, 1) := by decide +kernel
theorem dL_law_1046 : decode cL_law 1046 = .ok (.iaload, 1) := by decide +kernel
theorem dL_law_1047 : decode cL_law 1047 = .ok (.aload_n 0, 1) := by decide +kernel
theorem dL_law_1048 : decode cL_law 1048 = .ok (.iload 4, 2) := by decide +kernel
theorem dL_law_1050 : decode cL_law 1050 = .ok (.iconst 2, 1) := by decide +kernel
theorem dL_law_1051 : decode cL_law 1051 = .ok (.iadd, 1) := by decide +kernel
theorem dL_law_1052 : decode cL_law 1052 = .ok (.iaload, 1) := by decide +kernel
theorem dL_law_1053 : decode cL_law 1053 = .ok (.invokevirtual 151, 3) := by decide +kernel
theorem dL_law_1056 : decode cL_law 1056 = .ok (.istore 6, 2) := by decide +kernel
theorem dL_law_1058 : decode cL_law 1058 = .ok (.aload_n 2, 1) := by decide +kernel
theorem dL_law_1059 : decode cL_law 1059 = .ok (.invokevirtual 97, 3) := by decide +kernel
theorem dL_law_1062 : decode cL_law 1062 = .ok (.iload 5, 2) := by decide +kernel
theorem dL_law_1064 : decode cL_law 1064 = .ok (.if_icmp .eq 5, 3) := by decide +kernel
theorem dL_law_1067 : decode cL_law 1067 = .ok (.iconst 0, 1) := by decide +kernel
theorem dL_law_1068 : decode cL_law 1068 = .ok (.ireturn, 1) := by decide +kernel
theorem dL_law_1069 : decode cL_law 1069 = .ok (.iload 5, 2) := by decide +kernel
theorem dL_law_1071 : decode cL_law 1071 = .ok (.ifCond .ne 15, 3) := by decide +kernel
theorem dL_law_1074 : decode cL_law 1074 = .ok (.aload_n 3, 1) := by decide +kernel
theorem dL_law_1075 : decode cL_law 1075 = .ok (.iconst 0, 1) := by decide +kernel
theorem dL_law_1076 : decode cL_law 1076 = .ok (.laload, 1) := by decide +kernel
theorem dL_law_1077 : decode cL_law 1077 = .ok (.iload 6, 2) := by decide +kernel
theorem dL_law_1079 : decode cL_law 1079 = .ok (.i2l, 1) := by decide +kernel
theorem dL_law_1080 : decode cL_law 1080 = .ok (.lcmp, 1) := by decide +kernel
theorem dL_law_1081 : decode cL_law 1081 = .ok (.ifCond .eq 5, 3) := by decide +kernel
theorem dL_law_1084 : decode cL_law 1084 = .ok (.iconst 0, 1) := by decide +kernel
theorem dL_law_1085 : decode cL_law 1085 = .ok (.ireturn, 1) := by decide +kernel
theorem dL_law_1086 : decode cL_law 1086 = .ok (.goto 643, 3) := by decide +kernel
theorem dL_law_1089 : decode cL_law 1089 = .ok (.aload_n 1, 1) := by decide +kernel
theorem dL_law_1090 : decode cL_law 1090 = .ok (.aload_n 0, 1) := by decide +kernel
theorem dL_law_1091 : decode cL_law 1091 = .ok (.iload 4, 2) := by decide +kernel
theorem dL_law_1093 : decode cL_law 1093 = .ok (.iconst 1, 1) := by decide +kernel
theorem dL_law_1094 : decode cL_law 1094 = .ok (.iadd, 1) := by decide +kernel
theorem dL_law_1095 : decode cL_law 1095 = .ok (.iaload, 1) := by decide +kernel
theorem dL_law_1096 : decode cL_law 1096 = .ok (.aload_n 3, 1) := by decide +kernel
theorem dL_law_1097 : decode cL_law 1097 = .ok (.invokestatic 152, 3) := by decide +kernel
theorem dL_law_1100 : decode cL_law 1100 = .ok (.istore 5, 2) := by decide +kernel
theorem dL_law_1102 : decode cL_law 1102 = .ok (.aload_n 2, 1) := by decide +kernel
theorem dL_law_1103 : decode cL_law 1103 = .ok (.aload_n 0, 1) := by decide +kernel
theorem dL_law_1104 : decode cL_law 1104 = .ok (.iload 4, 2) := by decide +kernel
theorem dL_law_1106 : decode cL_law 1106 = .ok (.iconst 1, 1) := by decide +kernel
theorem dL_law_1107 : decode cL_law 1107 = .ok (.iadd, 1) := by decide +kernel
theorem dL_law_1108 : decode cL_law 1108 = .ok (.iaload, 1) := by decide +kernel
theorem dL_law_1109 : decode cL_law 1109 = .ok (.invokevirtual 154, 3) := by decide +kernel
theorem dL_law_1112 : decode cL_law 1112 = .ok (.istore 6, 2) := by decide +kernel
theorem dL_law_1114 : decode cL_law 1114 = .ok (.aload_n 2, 1) := by decide +kernel
theorem dL_law_1115 : decode cL_law 1115 = .ok (.invokevirtual 97, 3) := by decide +kernel
theorem dL_law_1118 : decode cL_law 1118 = .ok (.iload 5, 2) := by decide +kernel
theorem dL_law_1120 : decode cL_law 1120 = .ok (.if_icmp .eq 5, 3) := by decide +kernel
theorem dL_law_1123 : decode cL_law 1123 = .ok (.iconst 0, 1) := by decide +kernel
theorem dL_law_1124 : decode cL_law 1124 = .ok (.ireturn, 1) := by decide +kernel
theorem dL_law_1125 : decode cL_law 1125 = .ok (.iload 5, 2) := by decide +kernel
theorem dL_law_1127 : decode cL_law 1127 = .ok (.ifCond .ne 15, 3) := by decide +kernel
theorem dL_law_1130 : decode cL_law 1130 = .ok (.aload_n 3, 1) := by decide +kernel
theorem dL_law_1131 : decode cL_law 1131 = .ok (.iconst 0, 1) := by decide +kernel
theorem dL_law_1132 : decode cL_law 1132 = .ok (.laload, 1) := by decide +kernel
theorem dL_law_1133 : decode cL_law 1133 = .ok (.iload 6, 2) := by decide +kernel
theorem dL_law_1135 : decode cL_law 1135 = .ok (.i2l, 1) := by decide +kernel
theorem dL_law_1136 : decode cL_law 1136 = .ok (.lcmp, 1) := by decide +kernel
theorem dL_law_1137 : decode cL_law 1137 = .ok (.ifCond .eq 5, 3) := by decide +kernel
theorem dL_law_1140 : decode cL_law 1140 = .ok (.iconst 0, 1) := by decide +kernel
theorem dL_law_1141 : decode cL_law 1141 = .ok (.ireturn, 1) := by decide +kernel
theorem dL_law_1142 : decode cL_law 1142 = .ok (.goto 587, 3) := by decide +kernel
theorem dL_law_1145 : decode cL_law 1145 = .ok (.aload_n 1, 1) := by decide +kernel
theorem dL_law_1146 : decode cL_law 1146 = .ok (.aload_n 0, 1) := by decide +kernel
theorem dL_law_1147 : decode cL_law 1147 = .ok (.iload 4, 2) := by decide +kernel
theorem dL_law_1149 : decode cL_law 1149 = .ok (.iconst 1, 1) := by decide +kernel
theorem dL_law_1150 : decode cL_law 1150 = .ok (.iadd, 1) := by decide +kernel
theorem dL_law_1151 : decode cL_law 1151 = .ok (.iaload, 1) := by decide +kernel
theorem dL_law_1152 : decode cL_law 1152 = .ok (.aload_n 0, 1) := by decide +kernel
theorem dL_law_1153 : decode cL_law 1153 = .ok (.iload 4, 2) := by decide +kernel
theorem dL_law_1155 : decode cL_law 1155 = .ok (.iconst 2, 1) := by decide +kernel
theorem dL_law_1156 : decode cL_law 1156 = .ok (.iadd, 1) := by decide +kernel
theorem dL_law_1157 : decode cL_law 1157 = .ok (.iaload, 1) := by decide +kernel
theorem dL_law_1158 : decode cL_law 1158 = .ok (.aload_n 3, 1) := by decide +kernel
theorem dL_law_1159 : decode cL_law 1159 = .ok (.invokestatic 155, 3) := by decide +kernel
theorem dL_law_1162 : decode cL_law 1162 = .ok (.istore 5, 2) := by decide +kernel
theorem dL_law_1164 : decode cL_law 1164 = .ok (.aload_n 2, 1) := by decide +kernel
theorem dL_law_1165 : decode cL_law 1165 = .ok (.aload_n 0, 1) := by decide +kernel
theorem dL_law_1166 : decode cL_law 1166 = .ok (.iload 4, 2) := by decide +kernel
theorem dL_law_1168 : decode cL_law 1168 = .ok (.iconst 1, 1) := by decide +kernel
theorem dL_law_1169 : decode cL_law 1169 = .ok (.iadd, 1) := by decide +kernel
theorem dL_law_1170 : decode cL_law 1170 = .ok (.iaload, 1) := by decide +kernel
theorem dL_law_1171 : decode cL_law 1171 = .ok (.aload_n 0, 1) := by decide +kernel
theorem dL_law_1172 : decode cL_law 1172 = .ok (.iload 4, 2) := by decide +kernel
theorem dL_law_1174 : decode cL_law 1174 = .ok (.iconst 2, 1) := by decide +kernel
theorem dL_law_1175 : decode cL_law 1175 = .ok (.iadd, 1) := by decide +kernel
theorem dL_law_1176 : decode cL_law 1176 = .ok (.iaload, 1) := by decide +kernel
theorem dL_law_1177 : decode cL_law 1177 = .ok (.invokevirtual 157, 3) := by decide +kernel
theorem dL_law_1180 : decode cL_law 1180 = .ok (.istore 6, 2) := by decide +kernel
theorem dL_law_1182 : decode cL_law 1182 = .ok (.aload_n 2, 1) := by decide +kernel
theorem dL_law_1183 : decode cL_law 1183 = .ok (.invokevirtual 97, 3) := by decide +kernel
theorem dL_law_1186 : decode cL_law 1186 = .ok (.iload 5, 2) := by decide +kernel
theorem dL_law_1188 : decode cL_law 1188 = .ok (.if_icmp .eq 5, 3) := by decide +kernel
theorem dL_law_1191 : decode cL_law 1191 = .ok (.iconst 0, 1) := by decide +kernel
theorem dL_law_1192 : decode cL_law 1192 = .ok (.ireturn, 1) := by decide +kernel
theorem dL_law_1193 : decode cL_law 1193 = .ok (.iload 5, 2) := by decide +kernel
theorem dL_law_1195 : decode cL_law 1195 = .ok (.ifCond .ne 15, 3) := by decide +kernel
theorem dL_law_1198 : decode cL_law 1198 = .ok (.aload_n 3, 1) := by decide +kernel
theorem dL_law_1199 : decode cL_law 1199 = .ok (.iconst 0, 1) := by decide +kernel
theorem dL_law_1200 : decode cL_law 1200 = .ok (.laload, 1) := by decide +kernel
theorem dL_law_1201 : decode cL_law 1201 = .ok (.iload 6, 2) := by decide +kernel
theorem dL_law_1203 : decode cL_law 1203 = .ok (.i2l, 1) := by decide +kernel
theorem dL_law_1204 : decode cL_law 1204 = .ok (.lcmp, 1) := by decide +kernel
theorem dL_law_1205 : decode cL_law 1205 = .ok (.ifCond .eq 5, 3) := by decide +kernel
theorem dL_law_1208 : decode cL_law 1208 = .ok (.iconst 0, 1) := by decide +kernel
theorem dL_law_1209 : decode cL_law 1209 = .ok (.ireturn, 1) := by decide +kernel
theorem dL_law_1210 : decode cL_law 1210 = .ok (.goto 519, 3) := by decide +kernel
theorem dL_law_1213 : decode cL_law 1213 = .ok (.aload_n 1, 1) := by decide +kernel
theorem dL_law_1214 : decode cL_law 1214 = .ok (.aload_n 0, 1) := by decide +kernel
theorem dL_law_1215 : decode cL_law 1215 = .ok (.iload 4, 2) := by decide +kernel
theorem dL_law_1217 : decode cL_law 1217 = .ok (.iconst 1, 1) := by decide +kernel
theorem dL_law_1218 : decode cL_law 1218 = .ok (.iadd, 1) := by decide +kernel
theorem dL_law_1219 : decode cL_law 1219 = .ok (.iaload, 1) := by decide +kernel
theorem dL_law_1220 : decode cL_law 1220 = .ok (.aload_n 0, 1) := by decide +kernel
theorem dL_law_1221 : decode cL_law 1221 = .ok (.iload 4, 2) := by decide +kernel
theorem dL_law_1223 : decode cL_law 1223 = .ok (.iconst 2, 1) := by decide +kernel
theorem dL_law_1224 : decode cL_law 1224 = .ok (.iadd, 1) := by decide +kernel
theorem dL_law_1225 : decode cL_law 1225 = .ok (.iaload, 1) := by decide +kernel
theorem dL_law_1226 : decode cL_law 1226 = .ok (.aload_n 0, 1) := by decide +kernel
theorem dL_law_1227 : decode cL_law 1227 = .ok (.iload 4, 2) := by decide +kernel
theorem dL_law_1229 : decode cL_law 1229 = .ok (.iconst 3, 1) := by decide +kernel
theorem dL_law_1230 : decode cL_law 1230 = .ok (.iadd, 1) := by decide +kernel
theorem dL_law_1231 : decode cL_law 1231 = .ok (.iaload, 1) := by decide +kernel
theorem dL_law_1232 : decode cL_law 1232 = .ok (.aload_n 3, 1) := by decide +kernel
theorem dL_law_1233 : decode cL_law 1233 = .ok (.invokestatic 158, 3) := by decide +kernel
theorem dL_law_1236 : decode cL_law 1236 = .ok (.istore 5, 2) := by decide +kernel
theorem dL_law_1238 : decode cL_law 1238 = .ok (.aload_n 2, 1) := by decide +kernel
theorem dL_law_1239 : decode cL_law 1239 = .ok (.aload_n 0, 1) := by decide +kernel
theorem dL_law_1240 : decode cL_law 1240 = .ok (.iload 4, 2) := by decide +kernel
theorem dL_law_1242 : decode cL_law 1242 = .ok (.iconst 1, 1) := by decide +kernel
theorem dL_law_1243 : decode cL_law 1243 = .ok (.iadd, 1) := by decide +kernel
theorem dL_law_1244 : decode cL_law 1244 = .ok (.iaload, 1) := by decide +kernel
theorem dL_law_1245 : decode cL_law 1245 = .ok (.aload_n 0, 1) := by decide +kernel
theorem dL_law_1246 : decode cL_law 1246 = .ok (.iload 4, 2) := by decide +kernel
theorem dL_law_1248 : decode cL_law 1248 = .ok (.iconst 2, 1) := by decide +kernel
theorem dL_law_1249 : decode cL_law 1249 = .ok (.iadd, 1) := by decide +kernel
theorem dL_law_1250 : decode cL_law 1250 = .ok (.iaload, 1) := by decide +kernel
theorem dL_law_1251 : decode cL_law 1251 = .ok (.aload_n 0, 1) := by decide +kernel
theorem dL_law_1252 : decode cL_law 1252 = .ok (.iload 4, 2) := by decide +kernel
theorem dL_law_1254 : decode cL_law 1254 = .ok (.iconst 3, 1) := by decide +kernel
theorem dL_law_1255 : decode cL_law 1255 = .ok (.iadd, 1) := by decide +kernel
theorem dL_law_1256 : decode cL_law 1256 = .ok (.iaload, 1) := by decide +kernel
theorem dL_law_1257 : decode cL_law 1257 = .ok (.invokevirtual 160, 3) := by decide +kernel
theorem dL_law_1260 : decode cL_law 1260 = .ok (.istore 6, 2) := by decide +kernel
theorem dL_law_1262 : decode cL_law 1262 = .ok (.aload_n 2, 1) := by decide +kernel
theorem dL_law_1263 : decode cL_law 1263 = .ok (.invokevirtual 97, 3) := by decide +kernel
theorem dL_law_1266 : decode cL_law 1266 = .ok (.iload 5, 2) := by decide +kernel
theorem dL_law_1268 : decode cL_law 1268 = .ok (.if_icmp .eq 5, 3) := by decide +kernel
theorem dL_law_1271 : decode cL_law 1271 = .ok (.iconst 0, 1) := by decide +kernel
theorem dL_law_1272 : decode cL_law 1272 = .ok (.ireturn, 1) := by decide +kernel
theorem dL_law_1273 : decode cL_law 1273 = .ok (.iload 5, 2) := by decide +kernel
theorem dL_law_1275 : decode cL_law 1275 = .ok (.ifCond .ne 15, 3) := by decide +kernel
theorem dL_law_1278 : decode cL_law 1278 = .ok (.aload_n 3, 1) := by decide +kernel
theorem dL_law_1279 : decode cL_law 1279 = .ok (.iconst 0, 1) := by decide +kernel
theorem dL_law_1280 : decode cL_law 1280 = .ok (.laload, 1) := by decide +kernel
theorem dL_law_1281 : decode cL_law 1281 = .ok (.iload 6, 2) := by decide +kernel
theorem dL_law_1283 : decode cL_law 1283 = .ok (.i2l, 1) := by decide +kernel
theorem dL_law_1284 : decode cL_law 1284 = .ok (.lcmp, 1) := by decide +kernel
theorem dL_law_1285 : decode cL_law 1285 = .ok (.ifCond .eq 5, 3) := by decide +kernel
theorem dL_law_1288 : decode cL_law 1288 = .ok (.iconst 0, 1) := by decide +kernel
theorem dL_law_1289 : decode cL_law 1289 = .ok (.ireturn, 1) := by decide +kernel
theorem dL_law_1290 : decode cL_law 1290 = .ok (.goto 439, 3) := by decide +kernel
theorem dL_law_1293 : decode cL_law 1293 = .ok (.aload_n 1, 1) := by decide +kernel
theorem dL_law_1294 : decode cL_law 1294 = .ok (.aload_n 0, 1) := by decide +kernel
theorem dL_law_1295 : decode cL_law 1295 = .ok (.iload 4, 2) := by decide +kernel
theorem dL_law_1297 : decode cL_law 1297 = .ok (.iconst 1, 1) := by decide +kernel
theorem dL_law_1298 : decode cL_law 1298 = .ok (.iadd, 1) := by decide +kernel
theorem dL_law_1299 : decode cL_law 1299 = .ok (.iaload, 1) := by decide +kernel
theorem dL_law_1300 : decode cL_law 1300 = .ok (.aload_n 0, 1) := by decide +kernel
theorem dL_law_1301 : decode cL_law 1301 = .ok (.iload 4, 2) := by decide +kernel
theorem dL_law_1303 : decode cL_law 1303 = .ok (.iconst 2, 1) := by decide +kernel
theorem dL_law_1304 : decode cL_law 1304 = .ok (.iadd, 1) := by decide +kernel
theorem dL_law_1305 : decode cL_law 1305 = .ok (.iaload, 1) := by decide +kernel
theorem dL_law_1306 : decode cL_law 1306 = .ok (.aload_n 0, 1) := by decide +kernel
theorem dL_law_1307 : decode cL_law 1307 = .ok (.iload 4, 2) := by decide +kernel
theorem dL_law_1309 : decode cL_law 1309 = .ok (.iconst 3, 1) := by decide +kernel
theorem dL_law_1310 : decode cL_law 1310 = .ok (.iadd, 1) := by decide +kernel
theorem dL_law_1311 : decode cL_law 1311 = .ok (.iaload, 1) := by decide +kernel
theorem dL_law_1312 : decode cL_law 1312 = .ok (.aload_n 3, 1) := by decide +kernel
theorem dL_law_1313 : decode cL_law 1313 = .ok (.invokestatic 161, 3) := by decide +kernel
theorem dL_law_1316 : decode cL_law 1316 = .ok (.istore 5, 2) := by decide +kernel
theorem dL_law_1318 : decode cL_law 1318 = .ok (.aload_n 2, 1) := by decide +kernel
theorem dL_law_1319 : decode cL_law 1319 = .ok (.aload_n 0, 1) := by decide +kernel
theorem dL_law_1320 : decode cL_law 1320 = .ok (.iload 4, 2) := by decide +kernel
theorem dL_law_1322 : decode cL_law 1322 = .ok (.iconst 1, 1) := by decide +kernel
theorem dL_law_1323 : decode cL_law 1323 = .ok (.iadd, 1) := by decide +kernel
theorem dL_law_1324 : decode cL_law 1324 = .ok (.iaload, 1) := by decide +kernel
theorem dL_law_1325 : decode cL_law 1325 = .ok (.aload_n 0, 1) := by decide +kernel
theorem dL_law_1326 : decode cL_law 1326 = .ok (.iload 4, 2) := by decide +kernel
theorem dL_law_1328 : decode cL_law 1328 = .ok (.iconst 2, 1) := by decide +kernel
theorem dL_law_1329 : decode cL_law 1329 = .ok (.iadd, 1) := by decide +kernel
theorem dL_law_1330 : decode cL_law 1330 = .ok (.iaload, 1) := by decide +kernel
theorem dL_law_1331 : decode cL_law 1331 = .ok (.aload_n 0, 1) := by decide +kernel
theorem dL_law_1332 : decode cL_law 1332 = .ok (.iload 4, 2) := by decide +kernel
theorem dL_law_1334 : decode cL_law 1334 = .ok (.iconst 3, 1) := by decide +kernel
theorem dL_law_1335 : decode cL_law 1335 = .ok (.iadd, 1) := by decide +kernel
theorem dL_law_1336 : decode cL_law 1336 = .ok (.iaload, 1) := by decide +kernel
theorem dL_law_1337 : decode cL_law 1337 = .ok (.invokevirtual 163, 3) := by decide +kernel
theorem dL_law_1340 : decode cL_law 1340 = .ok (.istore 6, 2) := by decide +kernel
theorem dL_law_1342 : decode cL_law 1342 = .ok (.aload_n 2, 1) := by decide +kernel
theorem dL_law_1343 : decode cL_law 1343 = .ok (.invokevirtual 97, 3) := by decide +kernel
theorem dL_law_1346 : decode cL_law 1346 = .ok (.iload 5, 2) := by decide +kernel
theorem dL_law_1348 : decode cL_law 1348 = .ok (.if_icmp .eq 5, 3) := by decide +kernel
theorem dL_law_1351 : decode cL_law 1351 = .ok (.iconst 0, 1) := by decide +kernel
theorem dL_law_1352 : decode cL_law 1352 = .ok (.ireturn, 1) := by decide +kernel
theorem dL_law_1353 : decode cL_law 1353 = .ok (.iload 5, 2) := by decide +kernel
theorem dL_law_1355 : decode cL_law 1355 = .ok (.ifCond .ne 15, 3) := by decide +kernel
theorem dL_law_1358 : decode cL_law 1358 = .ok (.aload_n 3, 1) := by decide +kernel
theorem dL_law_1359 : decode cL_law 1359 = .ok (.iconst 0, 1) := by decide +kernel
theorem dL_law_1360 : decode cL_law 1360 = .ok (.laload, 1) := by decide +kernel
theorem dL_law_1361 : decode cL_law 1361 = .ok (.iload 6, 2) := by decide +kernel
theorem dL_law_1363 : decode cL_law 1363 = .ok (.i2l, 1) := by decide +kernel
theorem dL_law_1364 : decode cL_law 1364 = .ok (.lcmp, 1) := by decide +kernel
theorem dL_law_1365 : decode cL_law 1365 = .ok (.ifCond .eq 5, 3) := by decide +kernel
theorem dL_law_1368 : decode cL_law 1368 = .ok (.iconst 0, 1) := by decide +kernel
theorem dL_law_1369 : decode cL_law 1369 = .ok (.ireturn, 1) := by decide +kernel
theorem dL_law_1370 : decode cL_law 1370 = .ok (.goto 359, 3) := by decide +kernel
theorem dL_law_1373 : decode cL_law 1373 = .ok (.aload_n 1, 1) := by decide +kernel
theorem dL_law_1374 : decode cL_law 1374 = .ok (.aload_n 0, 1) := by decide +kernel
theorem dL_law_1375 : decode cL_law 1375 = .ok (.iload 4, 2) := by decide +kernel
theorem dL_law_1377 : decode cL_law 1377 = .ok (.iconst 1, 1) := by decide +kernel
theorem dL_law_1378 : decode cL_law 1378 = .ok (.iadd, 1) := by decide +kernel
theorem dL_law_1379 : decode cL_law 1379 = .ok (.iaload, 1) := by decide +kernel
theorem dL_law_1380 : decode cL_law 1380 = .ok (.aload_n 0, 1) := by decide +kernel
theorem dL_law_1381 : decode cL_law 1381 = .ok (.iload 4, 2) := by decide +kernel
theorem dL_law_1383 : decode cL_law 1383 = .ok (.iconst 2, 1) := by decide +kernel
theorem dL_law_1384 : decode cL_law 1384 = .ok (.iadd, 1) := by decide +kernel
theorem dL_law_1385 : decode cL_law 1385 = .ok (.iaload, 1) := by decide +kernel
theorem dL_law_1386 : decode cL_law 1386 = .ok (.aload_n 3, 1) := by decide +kernel
theorem dL_law_1387 : decode cL_law 1387 = .ok (.invokestatic 164, 3) := by decide +kernel
theorem dL_law_1390 : decode cL_law 1390 = .ok (.istore 5, 2) := by decide +kernel
theorem dL_law_1392 : decode cL_law 1392 = .ok (.aload_n 2, 1) := by decide +kernel
theorem dL_law_1393 : decode cL_law 1393 = .ok (.aload_n 0, 1) := by decide +kernel
theorem dL_law_1394 : decode cL_law 1394 = .ok (.iload 4, 2) := by decide +kernel
theorem dL_law_1396 : decode cL_law 1396 = .ok (.iconst 1, 1) := by decide +kernel
theorem dL_law_1397 : decode cL_law 1397 = .ok (.iadd, 1) := by decide +kernel
theorem dL_law_1398 : decode cL_law 1398 = .ok (.iaload, 1) := by decide +kernel
theorem dL_law_1399 : decode cL_law 1399 = .ok (.aload_n 0, 1) := by decide +kernel
theorem dL_law_1400 : decode cL_law 1400 = .ok (.iload 4, 2) := by decide +kernel
theorem dL_law_1402 : decode cL_law 1402 = .ok (.iconst 2, 1) := by decide +kernel
theorem dL_law_1403 : decode cL_law 1403 = .ok (.iadd, 1) := by decide +kernel
theorem dL_law_1404 : decode cL_law 1404 = .ok (.iaload, 1) := by decide +kernel
theorem dL_law_1405 : decode cL_law 1405 = .ok (.invokevirtual 166, 3) := by decide +kernel
theorem dL_law_1408 : decode cL_law 1408 = .ok (.istore 6, 2) := by decide +kernel
theorem dL_law_1410 : decode cL_law 1410 = .ok (.aload_n 2, 1) := by decide +kernel
theorem dL_law_1411 : decode cL_law 1411 = .ok (.invokevirtual 97, 3) := by decide +kernel
theorem dL_law_1414 : decode cL_law 1414 = .ok (.iload 5, 2) := by decide +kernel
theorem dL_law_1416 : decode cL_law 1416 = .ok (.if_icmp .eq 5, 3) := by decide +kernel
theorem dL_law_1419 : decode cL_law 1419 = .ok (.iconst 0, 1) := by decide +kernel
theorem dL_law_1420 : decode cL_law 1420 = .ok (.ireturn, 1) := by decide +kernel
theorem dL_law_1421 : decode cL_law 1421 = .ok (.iload 5, 2) := by decide +kernel
theorem dL_law_1423 : decode cL_law 1423 = .ok (.ifCond .ne 15, 3) := by decide +kernel
theorem dL_law_1426 : decode cL_law 1426 = .ok (.aload_n 3, 1) := by decide +kernel
theorem dL_law_1427 : decode cL_law 1427 = .ok (.iconst 0, 1) := by decide +kernel
theorem dL_law_1428 : decode cL_law 1428 = .ok (.laload, 1) := by decide +kernel
theorem dL_law_1429 : decode cL_law 1429 = .ok (.iload 6, 2) := by decide +kernel
theorem dL_law_1431 : decode cL_law 1431 = .ok (.i2l, 1) := by decide +kernel
theorem dL_law_1432 : decode cL_law 1432 = .ok (.lcmp, 1) := by decide +kernel
theorem dL_law_1433 : decode cL_law 1433 = .ok (.ifCond .eq 5, 3) := by decide +kernel
theorem dL_law_1436 : decode cL_law 1436 = .ok (.iconst 0, 1) := by decide +kernel
theorem dL_law_1437 : decode cL_law 1437 = .ok (.ireturn, 1) := by decide +kernel
theorem dL_law_1438 : decode cL_law 1438 = .ok (.goto 291, 3) := by decide +kernel
theorem dL_law_1441 : decode cL_law 1441 = .ok (.aload_n 1, 1) := by decide +kernel
theorem dL_law_1442 : decode cL_law 1442 = .ok (.aload_n 3, 1) := by decide +kernel
theorem dL_law_1443 : decode cL_law 1443 = .ok (.invokestatic 167, 3) := by decide +kernel
theorem dL_law_1446 : decode cL_law 1446 = .ok (.istore 5, 2) := by decide +kernel
theorem dL_law_1448 : decode cL_law 1448 = .ok (.aload_n 2, 1) := by decide +kernel
theorem dL_law_1449 : decode cL_law 1449 = .ok (.invokevirtual 170, 3) := by decide +kernel
theorem dL_law_1452 : decode cL_law 1452 = .ok (.istore 6, 2) := by decide +kernel
theorem dL_law_1454 : decode cL_law 1454 = .ok (.aload_n 2, 1) := by decide +kernel
theorem dL_law_1455 : decode cL_law 1455 = .ok (.invokevirtual 97, 3) := by decide +kernel
theorem dL_law_1458 : decode cL_law 1458 = .ok (.iload 5, 2) := by decide +kernel
theorem dL_law_1460 : decode cL_law 1460 = .ok (.if_icmp .eq 5, 3) := by decide +kernel
theorem dL_law_1463 : decode cL_law 1463 = .ok (.iconst 0, 1) := by decide +kernel
theorem dL_law_1464 : decode cL_law 1464 = .ok (.ireturn, 1) := by decide +kernel
theorem dL_law_1465 : decode cL_law 1465 = .ok (.iload 5, 2) := by decide +kernel
theorem dL_law_1467 : decode cL_law 1467 = .ok (.ifCond .ne 15, 3) := by decide +kernel
theorem dL_law_1470 : decode cL_law 1470 = .ok (.aload_n 3, 1) := by decide +kernel
theorem dL_law_1471 : decode cL_law 1471 = .ok (.iconst 0, 1) := by decide +kernel
theorem dL_law_1472 : decode cL_law 1472 = .ok (.laload, 1) := by decide +kernel
theorem dL_law_1473 : decode cL_law 1473 = .ok (.iload 6, 2) := by decide +kernel
theorem dL_law_1475 : decode cL_law 1475 = .ok (.i2l, 1) := by decide +kernel
theorem dL_law_1476 : decode cL_law 1476 = .ok (.lcmp, 1) := by decide +kernel
theorem dL_law_1477 : decode cL_law 1477 = .ok (.ifCond .eq 5, 3) := by decide +kernel
theorem dL_law_1480 : decode cL_law 1480 = .ok (.iconst 0, 1) := by decide +kernel
theorem dL_law_1481 : decode cL_law 1481 = .ok (.ireturn, 1) := by decide +kernel
theorem dL_law_1482 : decode cL_law 1482 = .ok (.goto 247, 3) := by decide +kernel
theorem dL_law_1485 : decode cL_law 1485 = .ok (.aload_n 1, 1) := by decide +kernel
theorem dL_law_1486 : decode cL_law 1486 = .ok (.aload_n 0, 1) := by decide +kernel
theorem dL_law_1487 : decode cL_law 1487 = .ok (.iload 4, 2) := by decide +kernel
theorem dL_law_1489 : decode cL_law 1489 = .ok (.iconst 1, 1) := by decide +kernel
theorem dL_law_1490 : decode cL_law 1490 = .ok (.iadd, 1) := by decide +kernel
theorem dL_law_1491 : decode cL_law 1491 = .ok (.iaload, 1) := by decide +kernel
theorem dL_law_1492 : decode cL_law 1492 = .ok (.aload_n 3, 1) := by decide +kernel
theorem dL_law_1493 : decode cL_law 1493 = .ok (.invokestatic 171, 3) := by decide +kernel
theorem dL_law_1496 : decode cL_law 1496 = .ok (.istore 5, 2) := by decide +kernel
theorem dL_law_1498 : decode cL_law 1498 = .ok (.aload_n 2, 1) := by decide +kernel
theorem dL_law_1499 : decode cL_law 1499 = .ok (.aload_n 0, 1) := by decide +kernel
theorem dL_law_1500 : decode cL_law 1500 = .ok (.iload 4, 2) := by decide +kernel
theorem dL_law_1502 : decode cL_law 1502 = .ok (.iconst 1, 1) := by decide +kernel
theorem dL_law_1503 : decode cL_law 1503 = .ok (.iadd, 1) := by decide +kernel
theorem dL_law_1504 : decode cL_law 1504 = .ok (.iaload, 1) := by decide +kernel
theorem dL_law_1505 : decode cL_law 1505 = .ok (.invokevirtual 173, 3) := by decide +kernel
theorem dL_law_1508 : decode cL_law 1508 = .ok (.istore 6, 2) := by decide +kernel
theorem dL_law_1510 : decode cL_law 1510 = .ok (.aload_n 2, 1) := by decide +kernel
theorem dL_law_1511 : decode cL_law 1511 = .ok (.invokevirtual 97, 3) := by decide +kernel
theorem dL_law_1514 : decode cL_law 1514 = .ok (.iload 5, 2) := by decide +kernel
theorem dL_law_1516 : decode cL_law 1516 = .ok (.if_icmp .eq 5, 3) := by decide +kernel
theorem dL_law_1519 : decode cL_law 1519 = .ok (.iconst 0, 1) := by decide +kernel
theorem dL_law_1520 : decode cL_law 1520 = .ok (.ireturn, 1) := by decide +kernel
theorem dL_law_1521 : decode cL_law 1521 = .ok (.iload 5, 2) := by decide +kernel
theorem dL_law_1523 : decode cL_law 1523 = .ok (.ifCond .ne 15, 3) := by decide +kernel
theorem dL_law_1526 : decode cL_law 1526 = .ok (.aload_n 3, 1) := by decide +kernel
theorem dL_law_1527 : decode cL_law 1527 = .ok (.iconst 0, 1) := by decide +kernel
theorem dL_law_1528 : decode cL_law 1528 = .ok (.laload, 1) := by decide +kernel
theorem dL_law_1529 : decode cL_law 1529 = .ok (.iload 6, 2) := by decide +kernel
theorem dL_law_1531 : decode cL_law 1531 = .ok (.i2l, 1) := by decide +kernel
theorem dL_law_1532 : decode cL_law 1532 = .ok (.lcmp, 1) := by decide +kernel
theorem dL_law_1533 : decode cL_law 1533 = .ok (.ifCond .eq 5, 3) := by decide +kernel
theorem dL_law_1536 : decode cL_law 1536 = .ok (.iconst 0, 1) := by decide +kernel
theorem dL_law_1537 : decode cL_law 1537 = .ok (.ireturn, 1) := by decide +kernel
theorem dL_law_1538 : decode cL_law 1538 = .ok (.goto 191, 3) := by decide +kernel
theorem dL_law_1541 : decode cL_law 1541 = .ok (.aload_n 1, 1) := by decide +kernel
theorem dL_law_1542 : decode cL_law 1542 = .ok (.invokevirtual 174, 3) := by decide +kernel
theorem dL_law_1545 : decode cL_law 1545 = .ok (.aload_n 2, 1) := by decide +kernel
theorem dL_law_1546 : decode cL_law 1546 = .ok (.invokevirtual 177, 3) := by decide +kernel
theorem dL_law_1549 : decode cL_law 1549 = .ok (.if_icmp .eq 180, 3) := by decide +kernel
theorem dL_law_1552 : decode cL_law 1552 = .ok (.iconst 0, 1) := by decide +kernel
theorem dL_law_1553 : decode cL_law 1553 = .ok (.ireturn, 1) := by decide +kernel
theorem dL_law_1554 : decode cL_law 1554 = .ok (.aload_n 1, 1) := by decide +kernel
theorem dL_law_1555 : decode cL_law 1555 = .ok (.aload_n 0, 1) := by decide +kernel
theorem dL_law_1556 : decode cL_law 1556 = .ok (.iload 4, 2) := by decide +kernel
theorem dL_law_1558 : decode cL_law 1558 = .ok (.iconst 1, 1) := by decide +kernel
theorem dL_law_1559 : decode cL_law 1559 = .ok (.iadd, 1) := by decide +kernel
theorem dL_law_1560 : decode cL_law 1560 = .ok (.iaload, 1) := by decide +kernel
theorem dL_law_1561 : decode cL_law 1561 = .ok (.aload_n 0, 1) := by decide +kernel
theorem dL_law_1562 : decode cL_law 1562 = .ok (.iload 4, 2) := by decide +kernel
theorem dL_law_1564 : decode cL_law 1564 = .ok (.iconst 2, 1) := by decide +kernel
theorem dL_law_1565 : decode cL_law 1565 = .ok (.iadd, 1) := by decide +kernel
theorem dL_law_1566 : decode cL_law 1566 = .ok (.iaload, 1) := by decide +kernel
theorem dL_law_1567 : decode cL_law 1567 = .ok (.aload_n 0, 1) := by decide +kernel
theorem dL_law_1568 : decode cL_law 1568 = .ok (.iload 4, 2) := by decide +kernel
theorem dL_law_1570 : decode cL_law 1570 = .ok (.iconst 3, 1) := by decide +kernel
theorem dL_law_1571 : decode cL_law 1571 = .ok (.iadd, 1) := by decide +kernel
theorem dL_law_1572 : decode cL_law 1572 = .ok (.iaload, 1) := by decide +kernel
theorem dL_law_1573 : decode cL_law 1573 = .ok (.aload_n 3, 1) := by decide +kernel
theorem dL_law_1574 : decode cL_law 1574 = .ok (.invokestatic 178, 3) := by decide +kernel
theorem dL_law_1577 : decode cL_law 1577 = .ok (.istore 5, 2) := by decide +kernel
theorem dL_law_1579 : decode cL_law 1579 = .ok (.aload_n 2, 1) := by decide +kernel
theorem dL_law_1580 : decode cL_law 1580 = .ok (.aload_n 0, 1) := by decide +kernel
theorem dL_law_1581 : decode cL_law 1581 = .ok (.iload 4, 2) := by decide +kernel
theorem dL_law_1583 : decode cL_law 1583 = .ok (.iconst 1, 1) := by decide +kernel
theorem dL_law_1584 : decode cL_law 1584 = .ok (.iadd, 1) := by decide +kernel
theorem dL_law_1585 : decode cL_law 1585 = .ok (.iaload, 1) := by decide +kernel
theorem dL_law_1586 : decode cL_law 1586 = .ok (.aload_n 0, 1) := by decide +kernel
theorem dL_law_1587 : decode cL_law 1587 = .ok (.iload 4, 2) := by decide +kernel
theorem dL_law_1589 : decode cL_law 1589 = .ok (.iconst 2, 1) := by decide +kernel
theorem dL_law_1590 : decode cL_law 1590 = .ok (.iadd, 1) := by decide +kernel
theorem dL_law_1591 : decode cL_law 1591 = .ok (.iaload, 1) := by decide +kernel
theorem dL_law_1592 : decode cL_law 1592 = .ok (.aload_n 0, 1) := by decide +kernel
theorem dL_law_1593 : decode cL_law 1593 = .ok (.iload 4, 2) := by decide +kernel
theorem dL_law_1595 : decode cL_law 1595 = .ok (.iconst 3, 1) := by decide +kernel
theorem dL_law_1596 : decode cL_law 1596 = .ok (.iadd, 1) := by decide +kernel
theorem dL_law_1597 : decode cL_law 1597 = .ok (.iaload, 1) := by decide +kernel
theorem dL_law_1598 : decode cL_law 1598 = .ok (.invokevirtual 180, 3) := by decide +kernel
theorem dL_law_1601 : decode cL_law 1601 = .ok (.istore 6, 2) := by decide +kernel
theorem dL_law_1603 : decode cL_law 1603 = .ok (.aload_n 2, 1) := by decide +kernel
theorem dL_law_1604 : decode cL_law 1604 = .ok (.invokevirtual 97, 3) := by decide +kernel
theorem dL_law_1607 : decode cL_law 1607 = .ok (.iload 5, 2) := by decide +kernel
theorem dL_law_1609 : decode cL_law 1609 = .ok (.if_icmp .eq 5, 3) := by decide +kernel
theorem dL_law_1612 : decode cL_law 1612 = .ok (.iconst 0, 1) := by decide +kernel
theorem dL_law_1613 : decode cL_law 1613 = .ok (.ireturn, 1) := by decide +kernel
theorem dL_law_1614 : decode cL_law 1614 = .ok (.iload 5, 2) := by decide +kernel
theorem dL_law_1616 : decode cL_law 1616 = .ok (.ifCond .ne 15, 3) := by decide +kernel
theorem dL_law_1619 : decode cL_law 1619 = .ok (.aload_n 3, 1) := by decide +kernel
theorem dL_law_1620 : decode cL_law 1620 = .ok (.iconst 0, 1) := by decide +kernel
theorem dL_law_1621 : decode cL_law 1621 = .ok (.laload, 1) := by decide +kernel
theorem dL_law_1622 : decode cL_law 1622 = .ok (.iload 6, 2) := by decide +kernel
theorem dL_law_1624 : decode cL_law 1624 = .ok (.i2l, 1) := by decide +kernel
theorem dL_law_1625 : decode cL_law 1625 = .ok (.lcmp, 1) := by decide +kernel
theorem dL_law_1626 : decode cL_law 1626 = .ok (.ifCond .eq 5, 3) := by decide +kernel
theorem dL_law_1629 : decode cL_law 1629 = .ok (.iconst 0, 1) := by decide +kernel
theorem dL_law_1630 : decode cL_law 1630 = .ok (.ireturn, 1) := by decide +kernel
theorem dL_law_1631 : decode cL_law 1631 = .ok (.goto 98, 3) := by decide +kernel
theorem dL_law_1634 : decode cL_law 1634 = .ok (.aload_n 1, 1) := by decide +kernel
theorem dL_law_1635 : decode cL_law 1635 = .ok (.aload_n 0, 1) := by decide +kernel
theorem dL_law_1636 : decode cL_law 1636 = .ok (.iload 4, 2) := by decide +kernel
theorem dL_law_1638 : decode cL_law 1638 = .ok (.iconst 1, 1) := by decide +kernel
theorem dL_law_1639 : decode cL_law 1639 = .ok (.iadd, 1) := by decide +kernel
theorem dL_law_1640 : decode cL_law 1640 = .ok (.iaload, 1) := by decide +kernel
theorem dL_law_1641 : decode cL_law 1641 = .ok (.aload_n 0, 1) := by decide +kernel
theorem dL_law_1642 : decode cL_law 1642 = .ok (.iload 4, 2) := by decide +kernel
theorem dL_law_1644 : decode cL_law 1644 = .ok (.iconst 2, 1) := by decide +kernel
theorem dL_law_1645 : decode cL_law 1645 = .ok (.iadd, 1) := by decide +kernel
theorem dL_law_1646 : decode cL_law 1646 = .ok (.iaload, 1) := by decide +kernel
theorem dL_law_1647 : decode cL_law 1647 = .ok (.aload_n 3, 1) := by decide +kernel
theorem dL_law_1648 : decode cL_law 1648 = .ok (.invokestatic 181, 3) := by decide +kernel
theorem dL_law_1651 : decode cL_law 1651 = .ok (.istore 5, 2) := by decide +kernel
theorem dL_law_1653 : decode cL_law 1653 = .ok (.aload_n 2, 1) := by decide +kernel
theorem dL_law_1654 : decode cL_law 1654 = .ok (.aload_n 0, 1) := by decide +kernel
theorem dL_law_1655 : decode cL_law 1655 = .ok (.iload 4, 2) := by decide +kernel
theorem dL_law_1657 : decode cL_law 1657 = .ok (.iconst 1, 1) := by decide +kernel
theorem dL_law_1658 : decode cL_law 1658 = .ok (.iadd, 1) := by decide +kernel
theorem dL_law_1659 : decode cL_law 1659 = .ok (.iaload, 1) := by decide +kernel
theorem dL_law_1660 : decode cL_law 1660 = .ok (.aload_n 0, 1) := by decide +kernel
theorem dL_law_1661 : decode cL_law 1661 = .ok (.iload 4, 2) := by decide +kernel
theorem dL_law_1663 : decode cL_law 1663 = .ok (.iconst 2, 1) := by decide +kernel
theorem dL_law_1664 : decode cL_law 1664 = .ok (.iadd, 1) := by decide +kernel
theorem dL_law_1665 : decode cL_law 1665 = .ok (.iaload, 1) := by decide +kernel
theorem dL_law_1666 : decode cL_law 1666 = .ok (.invokevirtual 183, 3) := by decide +kernel
theorem dL_law_1669 : decode cL_law 1669 = .ok (.istore 6, 2) := by decide +kernel
theorem dL_law_1671 : decode cL_law 1671 = .ok (.aload_n 2, 1) := by decide +kernel
theorem dL_law_1672 : decode cL_law 1672 = .ok (.invokevirtual 97, 3) := by decide +kernel
theorem dL_law_1675 : decode cL_law 1675 = .ok (.iload 5, 2) := by decide +kernel
theorem dL_law_1677 : decode cL_law 1677 = .ok (.if_icmp .eq 5, 3) := by decide +kernel
theorem dL_law_1680 : decode cL_law 1680 = .ok (.iconst 0, 1) := by decide +kernel
theorem dL_law_1681 : decode cL_law 1681 = .ok (.ireturn, 1) := by decide +kernel
theorem dL_law_1682 : decode cL_law 1682 = .ok (.iload 5, 2) := by decide +kernel
theorem dL_law_1684 : decode cL_law 1684 = .ok (.ifCond .ne 15, 3) := by decide +kernel
theorem dL_law_1687 : decode cL_law 1687 = .ok (.aload_n 3, 1) := by decide +kernel
theorem dL_law_1688 : decode cL_law 1688 = .ok (.iconst 0, 1) := by decide +kernel
theorem dL_law_1689 : decode cL_law 1689 = .ok (.laload, 1) := by decide +kernel
theorem dL_law_1690 : decode cL_law 1690 = .ok (.iload 6, 2) := by decide +kernel
theorem dL_law_1692 : decode cL_law 1692 = .ok (.i2l, 1) := by decide +kernel
theorem dL_law_1693 : decode cL_law 1693 = .ok (.lcmp, 1) := by decide +kernel
theorem dL_law_1694 : decode cL_law 1694 = .ok (.ifCond .eq 5, 3) := by decide +kernel
theorem dL_law_1697 : decode cL_law 1697 = .ok (.iconst 0, 1) := by decide +kernel
theorem dL_law_1698 : decode cL_law 1698 = .ok (.ireturn, 1) := by decide +kernel
theorem dL_law_1699 : decode cL_law 1699 = .ok (.goto 30, 3) := by decide +kernel
theorem dL_law_1702 : decode cL_law 1702 = .ok (.aload_n 1, 1) := by decide +kernel
theorem dL_law_1703 : decode cL_law 1703 = .ok (.invokevirtual 184, 3) := by decide +kernel
theorem dL_law_1706 : decode cL_law 1706 = .ok (.aload_n 2, 1) := by decide +kernel
theorem dL_law_1707 : decode cL_law 1707 = .ok (.invokevirtual 187, 3) := by decide +kernel
theorem dL_law_1710 : decode cL_law 1710 = .ok (.if_icmp .eq 19, 3) := by decide +kernel
theorem dL_law_1713 : decode cL_law 1713 = .ok (.iconst 0, 1) := by decide +kernel
theorem dL_law_1714 : decode cL_law 1714 = .ok (.ireturn, 1) := by decide +kernel
theorem dL_law_1715 : decode cL_law 1715 = .ok (.aload_n 1, 1) := by decide +kernel
theorem dL_law_1716 : decode cL_law 1716 = .ok (.invokevirtual 188, 3) := by decide +kernel
theorem dL_law_1719 : decode cL_law 1719 = .ok (.aload_n 2, 1) := by decide +kernel
theorem dL_law_1720 : decode cL_law 1720 = .ok (.invokevirtual 192, 3) := by decide +kernel
theorem dL_law_1723 : decode cL_law 1723 = .ok (.lcmp, 1) := by decide +kernel
theorem dL_law_1724 : decode cL_law 1724 = .ok (.ifCond .eq 5, 3) := by decide +kernel
theorem dL_law_1727 : decode cL_law 1727 = .ok (.iconst 0, 1) := by decide +kernel
theorem dL_law_1728 : decode cL_law 1728 = .ok (.ireturn, 1) := by decide +kernel
theorem dL_law_1729 : decode cL_law 1729 = .ok (.iinc 4 6, 3) := by decide +kernel
theorem dL_law_1732 : decode cL_law 1732 = .ok (.goto (-1709), 3) := by decide +kernel
theorem dL_law_1735 : decode cL_law 1735 = .ok (.iconst 1, 1) := by decide +kernel
theorem dL_law_1736 : decode cL_law 1736 = .ok (.ireturn, 1) := by decide +kernel
end
section
/-! THE LITE HEAP: the shape of each cell (S), what its ints hold as numbers (M), what its longs hold (N); all read relative to the law's first state. -/
def lq_W : List Cond := lw_tbl.filter goodWord
theorem lq_in {w : Cond} (h : w ∈ lw_tbl) (g : goodWord w = true) : w ∈ lq_W := List.mem_filter.mpr ⟨h, g⟩
/-- launch, the law's first state, class numbers and slots, array classes, the addresses of the string constants and of their bytes -/
abbrev lq_G : Type := Launch × State × va_G × (Nat → ClassId) × (Nat → Nat) × (Nat → Nat)
abbrev lq_l (G : lq_G) : Launch := G.1
abbrev lq_u (G : lq_G) : State := G.2.1
abbrev lq_D (G : lq_G) : va_G := G.2.2.1
abbrev lq_c (G : lq_G) : Nat → ClassId := G.2.2.2.1
abbrev lq_k (G : lq_G) : Nat → Nat := G.2.2.2.2.1
abbrev lq_v (G : lq_G) : Nat → Nat := G.2.2.2.2.2
abbrev lq_b (G : lq_G) : Nat := (lq_u G).heap.size
def lq_T0 : u_T := fun _ => ("", "", "", false)
abbrev lq_cl : List vw_C := vwCl ++ [("java/lang/IllegalArgumentException", lq_T0, 0), ("java/lang/IndexOutOfBoundsException", lq_T0, 0), ("java/util/NoSuchElementException", lq_T0, 0), ("java/lang/IllegalStateException", lq_T0, 0)]
abbrev lq_ty (G : lq_G) : List (ClassId × FieldType) := [(lq_c G 0, .int), (lq_c G 1, .byte), (lq_c G 2, .long), (lq_c G 3, .array .int), (lq_c G 4, .object "AdBreaks$AdBreak"), (lq_c G 5, .object "AdBreaks$Plan")]
abbrev lq_C : Type := (Nat × List (Option (Option Nat))) ⊕ (Nat × Nat) ⊕ (Nat × Nat × (Nat → Option Nat))
def lq_fs : List (Option (Option Nat)) → Nat → (Nat → Nat) → List Value
  | [], _, _ => []
  | none :: t, k, m => .int (nI (m k)) :: lq_fs t (k + 1) m
  | some r :: t, k, m => va_rf r :: lq_fs t (k + 1) m
def lq_e (G : lq_G) (c : lq_C) (m : Nat → Nat) (n : Nat → Int64) : va_E := match c with
  | .inl o => .inr (o.1, lq_fs o.2 0 m)
  | .inr (.inl (0, k)) => .inl (lq_c G 0, k, .inl fun j => nI (m j))
  | .inr (.inl (2, k)) => .inl (lq_c G 2, k, .inr (.inl n))
  | .inr (.inl (_, k)) => .inl (lq_c G 1, k, .inl fun j => sb_b (m j))
  | .inr (.inr (t, k, f)) => .inl (lq_c G t, k, .inr (.inr (.inr (.inr f))))
abbrev lq_S : Type := Nat → Option lq_C
abbrev lq_M : Type := Nat → Nat → Nat
abbrev lq_N : Type := Nat → Nat → Int64
def lq_H (G : lq_G) (H : Heap) (z : Nat) (S : lq_S) (M : lq_M) (N : lq_N) : Prop :=
  H.size = z ∧ lq_b G ≤ z ∧ (∀ q : Nat, q < lq_b G → H[q]? = (lq_u G).heap[q]?) ∧ ∀ (a : Nat) (c : lq_C), S a = some c → lq_b G ≤ a ∧ va_at (lq_D G) lq_cl (a, lq_e G c (M a) (N a)) H
def lq_strs : List (String × Nat × String) := [("AdBreaks", 54, "length"), ("AdBreaks", 199, "place"), ("AdBreaks", 227, "not open, or a ban would be broken"), ("AdBreaks", 236, "no break is open"), ("AdBreaks", 238, "not open"), ("AdBreaks", 258, "no such break"), ("AdBreaks", 260, "no such sponsor"), ("AdBreaks", 264, "no such spot"), ("AdBreaks", 267, "out of range"), ("AdBreaks$SetupReader", 41, "radio"), ("AdBreaks$SetupReader", 58, "break"), ("AdBreaks$SetupReader", 66, "sponsor"), ("AdBreaks$SetupReader", 71, "ban"), ("AdBreaks$SetupReader", 76, "price"), ("AdBreaks$SetupReader", 143, "audience"), ("AdBreaks$SetupReader", 145, "hour"), ("AdBreaks$SetupReader", 147, "seconds"), ("AdBreaks$SetupReader", 149, "used"), ("AdBreaks$SetupReader", 151, "spots"), ("AdBreaksModel", 113, "audience"), ("AdBreaksModel", 119, "hour"), ("AdBreaksModel", 121, "seconds"), ("AdBreaksModel", 123, "used"), ("AdBreaksModel", 125, "spots"), ("AdBreaksModel", 146, "break"), ("AdBreaksModel", 151, "sponsor"), ("AdBreaksModel", 156, "ban"), ("AdBreaksModel", 161, "price"), ("AdBreaksModel", 170, "radio")]
def lq_bys : List (List Int32) := [[108, 101, 110, 103, 116, 104], [112, 108, 97, 99, 101], [110, 111, 116, 32, 111, 112, 101, 110, 44, 32, 111, 114, 32, 97, 32, 98, 97, 110, 32, 119, 111, 117, 108, 100, 32, 98, 101, 32, 98, 114, 111, 107, 101, 110], [110, 111, 32, 98, 114, 101, 97, 107, 32, 105, 115, 32, 111, 112, 101, 110], [110, 111, 116, 32, 111, 112, 101, 110], [110, 111, 32, 115, 117, 99, 104, 32, 98, 114, 101, 97, 107], [110, 111, 32, 115, 117, 99, 104, 32, 115, 112, 111, 110, 115, 111, 114], [110, 111, 32, 115, 117, 99, 104, 32, 115, 112, 111, 116], [111, 117, 116, 32, 111, 102, 32, 114, 97, 110, 103, 101], [114, 97, 100, 105, 111], [98, 114, 101, 97, 107], [115, 112, 111, 110, 115, 111, 114], [98, 97, 110], [112, 114, 105, 99, 101], [97, 117, 100, 105, 101, 110, 99, 101], [104, 111, 117, 114], [115, 101, 99, 111, 110, 100, 115], [117, 115, 101, 100], [115, 112, 111, 116, 115], [97, 117, 100, 105, 101, 110, 99, 101], [104, 111, 117, 114], [115, 101, 99, 111, 110, 100, 115], [117, 115, 101, 100], [115, 112, 111, 116, 115], [98, 114, 101, 97, 107], [115, 112, 111, 110, 115, 111, 114], [98, 97, 110], [112, 114, 105, 99, 101], [114, 97, 100, 105, 111]]
def lq_len : List Nat := [6, 5, 34, 16, 8, 13, 15, 12, 12, 5, 5, 7, 3, 5, 8, 4, 7, 4, 5, 8, 4, 7, 4, 5, 5, 7, 3, 5, 5]
/-- what is known of the string constants and of the launch at the law's first state -/
def lq_ok (G : lq_G) : Prop := (lq_l G).stackTraces = false ∧ vx_Zq Bundle.tN "UNASSIGNED_STACK" Bundle.steD (fun q => lq_b G ≤ q) (lq_u G) (lq_u G).heap ∧ vx_Zq Bundle.tN "SUPPRESSED_SENTINEL" Bundle.listD (fun q => lq_b G ≤ q) (lq_u G) (lq_u G).heap ∧
  ∀ i : Nat, i < 29 → va_O "java/lang/String" (lq_k G i) (fun q => lq_b G ≤ q) (lq_u G) (lq_u G).heap ∧ va_OF "java/lang/String" "coder" "B" (.int 0) (lq_k G i) (fun q => lq_b G ≤ q) (lq_u G) (lq_u G).heap ∧ va_OF "java/lang/String" "value" "[B" (.ref (lq_v G i)) (lq_k G i) (fun q => lq_b G ≤ q) (lq_u G) (lq_u G).heap ∧ va_T .byte (lq_v G i) (lq_len.getD i 0) (fun j => .int ((lq_bys.getD i []).getD j 0)) (fun q => lq_b G ≤ q) (lq_u G) (lq_u G).heap
def lq_pr : List (Option Value) → Nat → List (Nat × Value)
  | [], _ => []
  | none :: t, i => lq_pr t (i + 1)
  | some v :: t, i => (i, v) :: lq_pr t (i + 1)
theorem lq_pr_mem : ∀ (l : List (Option Value)) (i : Nat) (q : Nat × Value), q ∈ lq_pr l i ↔ ∃ k : Nat, q.1 = i + k ∧ l[k]? = some (some q.2)
  | [], i, q => by simp [lq_pr]
  | none :: t, i, q => by
    rw [lq_pr, lq_pr_mem t (i + 1) q]
    constructor
    · rintro ⟨k, h1, h2⟩
      exact ⟨k + 1, by omega, by simpa using h2⟩
    · rintro ⟨k, h1, h2⟩
      cases k with
      | zero => simp at h2
      | succ k => exact ⟨k, by omega, by simpa using h2⟩
  | some v :: t, i, q => by
    rw [lq_pr, List.mem_cons, lq_pr_mem t (i + 1) q]
    constructor
    · rintro (rfl | ⟨k, h1, h2⟩)
      · exact ⟨0, by simp, by simp⟩
      · exact ⟨k + 1, by omega, by simpa using h2⟩
    · rintro ⟨k, h1, h2⟩
      cases k with
      | zero =>
        left
        obtain ⟨a, b⟩ := q
        simp at h1 h2
        rw [h1, h2]
      | succ k => exact Or.inr ⟨k, by omega, by simpa using h2⟩
def lq_nl (lv : List (Option Value)) (i : Nat) : Bool := match i with
  | 0 => true
  | k + 1 => match lv[k]? with
    | some (some (.long _)) => false
    | some (some (.double _)) => false
    | _ => true
theorem lq_nl_cat {lv : List (Option Value)} {i k : Nat} {v : Value} (h : lq_nl lv i = true) (hk : k + 1 = i) (hv : lv[k]? = some (some v)) : v.category ≠ 2 := by
  subst hk
  unfold lq_nl at h
  simp only [hv] at h
  cases v <;> first | (simp at h; done) | (intro c; cases c; done)
theorem lq_set1 {ls : Array Slot} {nL : Nat} {lv : List (Option Value)} {i : Nat} {v : Value} (hn : lq_nl lv i = true) (h : lv_has ls nL ((i, v) :: (lq_pr lv 0).filter (fun q => !(q.1 == i) && !(q.1 + 1 == i && q.2.category == 2)))) : lv_has ls nL (lq_pr (lv.set i (some v)) 0) := by
  refine ⟨h.1, h.2.1, fun q hq => h.2.2 q ?_⟩
  obtain ⟨k, h1, h2⟩ := (lq_pr_mem _ _ _).mp hq
  rw [List.getElem?_set] at h2
  by_cases hk : i = k
  · subst hk
    simp at h2 h1
    obtain ⟨a, b⟩ := q
    simp at h1 h2
    rw [h1, ← h2.2]
    exact List.mem_cons_self
  · rw [if_neg hk] at h2
    refine List.mem_cons_of_mem _ (List.mem_filter.mpr ⟨(lq_pr_mem _ _ _).mpr ⟨k, h1, h2⟩, ?_⟩)
    have hq1 : ¬ q.1 = i := by omega
    have hq2 : ¬ (q.1 + 1 = i ∧ q.2.category = 2) := fun hc => lq_nl_cat hn (by omega) h2 hc.2
    simp [hq1]
    omega
theorem lq_set2 {ls : Array Slot} {nL : Nat} {lv : List (Option Value)} {i : Nat} {v : Value} (hn : lq_nl lv i = true) (h : lv_has ls nL ((i, v) :: (lq_pr lv 0).filter (fun q => !(q.1 == i) && (!(q.1 == i + 1) && !(q.1 + 1 == i && q.2.category == 2))))) : lv_has ls nL (lq_pr ((lv.set i (some v)).set (i + 1) none) 0) := by
  refine ⟨h.1, h.2.1, fun q hq => h.2.2 q ?_⟩
  obtain ⟨k, h1, h2⟩ := (lq_pr_mem _ _ _).mp hq
  rw [List.getElem?_set] at h2
  by_cases hk1 : i + 1 = k
  · subst hk1
    simp at h2
  rw [if_neg hk1, List.getElem?_set] at h2
  by_cases hk : i = k
  · subst hk
    simp at h2 h1
    obtain ⟨a, b⟩ := q
    simp at h1 h2
    rw [h1, ← h2.2]
    exact List.mem_cons_self
  · rw [if_neg hk] at h2
    refine List.mem_cons_of_mem _ (List.mem_filter.mpr ⟨(lq_pr_mem _ _ _).mpr ⟨k, h1, h2⟩, ?_⟩)
    have hq1 : ¬ q.1 = i := by omega
    have hq3 : ¬ q.1 = i + 1 := by omega
    have hq2 : ¬ (q.1 + 1 = i ∧ q.2.category = 2) := fun hc => lq_nl_cat hn (by omega) h2 hc.2
    simp [hq1, hq3]
    omega
theorem lq_at {ls : Array Slot} {nL : Nat} {lv : List (Option Value)} {i : Nat} {v : Value} (h : lv_has ls nL (lq_pr lv 0)) (hi : lv[i]? = some (some v)) : ls[i]? = some (.val v) := h.2.2 (i, v) ((lq_pr_mem _ _ _).mpr ⟨i, by simp, hi⟩)
/-- fewer locals known -/
def lq_le : List (Option Value) → List (Option Value) → Prop
  | [], _ => True
  | none :: t, _ :: t' => lq_le t t'
  | none :: t, [] => lq_le t []
  | some v :: t, w :: t' => w = some v ∧ lq_le t t'
  | some _ :: _, [] => False
theorem lq_le_get : ∀ (a b : List (Option Value)) (k : Nat) (v : Value), lq_le a b → a[k]? = some (some v) → b[k]? = some (some v)
  | [], _, k, v, _, h => by simp at h
  | none :: t, w :: t', k, v, hl, h => by
    cases k with
    | zero => simp at h
    | succ k => simpa using lq_le_get t t' k v hl (by simpa using h)
  | none :: t, [], k, v, hl, h => by
    cases k with
    | zero => simp at h
    | succ k => simpa using lq_le_get t [] k v hl (by simpa using h)
  | some u :: t, w :: t', k, v, hl, h => by
    cases k with
    | zero =>
      simp at h
      subst h
      simp [hl.1]
    | succ k => simpa using lq_le_get t t' k v hl.2 (by simpa using h)
  | some _ :: _, [], _, _, hl, _ => hl.elim
theorem lq_le_has {ls : Array Slot} {nL : Nat} {a b : List (Option Value)} (hl : lq_le a b) (h : lv_has ls nL (lq_pr b 0)) : lv_has ls nL (lq_pr a 0) := by
  refine ⟨h.1, h.2.1, fun q hq => h.2.2 q ?_⟩
  obtain ⟨k, h1, h2⟩ := (lq_pr_mem _ _ _).mp hq
  exact (lq_pr_mem _ _ _).mpr ⟨k, h1, lq_le_get _ _ _ _ hl h2⟩
/-! THE JUDGEMENT of a walk over the lite heap -/
/-- name, code, number of locals, result, handlers -/
abbrev lq_Y : Type := MethodName × ByteArray × Nat × Option FieldType × List (Nat × Nat × Nat × Nat)
abbrev lq_P : Type := Option Value → Nat → lq_S → lq_M → lq_N → Prop
abbrev lq_E : Type := String → Nat → lq_S → lq_M → lq_N → Prop
def lq_K (G : lq_G) (U : State) : Prop := va_K (lq_D G) lq_cl (lq_ty G) U ∧ (lq_u G).vm.Alike U.vm ∧ lq_ok G ∧ ∀ (i : Nat) (q : String × Nat × String), lq_strs[i]? = some q → vk_R q.1 q.2.1 q.2.2 (lq_k G i) U
def lq_Qc (G : lq_G) (Q : lq_P) : Array Value → State → Outcome → State → Prop := fun _ st o t => st.heap.size ≤ t.heap.size ∧ ∃ (r : Option Value) (z : Nat) (S : lq_S) (M : lq_M) (N : lq_N), o = .returned r ∧ Q r z S M N ∧ lq_H G t.heap z S M N
def lq_XC (G : lq_G) (X : lq_E) : String → State → State → Prop := fun E st t => st.heap.size ≤ t.heap.size ∧ ∃ (z : Nat) (S : lq_S) (M : lq_M) (N : lq_N), X E z S M N ∧ lq_H G t.heap z S M N
def lq_room (d kc ks : Nat) : Room := { frames := d + 20, cells := kc, slots := ks, locals := 40 * d + 1000 }
def lq_cx (G : lq_G) (Y : lq_Y) (d kc ks : Nat) (z : Nat) (S : lq_S) (M : lq_M) (N : lq_N) (lv : List (Option Value)) (p : Program) (R : Room) (s : State) (m : MethodId) (args : Array Value) (meth : Method) (c : Code) (H : Heap) (locs : List Loc) (cells slots : Nat) (ls : Array Slot) : Prop :=
  (p.tables.exec = Jvm.exec ∧ c.code = Y.2.1 ∧ c.maxLocals = Y.2.2.1 ∧ s.vm.findClass Y.1.cls = some m.cls ∧ ∀ w ∈ lq_W, w.before args s = true) ∧
  (meth.sig.returnType = Y.2.2.2.1 ∧ meth.locks = false ∧ meth.name = Y.1.name ∧ c.exceptionTable.toList = tableOf Y.2.2.2.2) ∧
  (lq_K G s ∧ lq_b G ≤ s.heap.size) ∧
  (lq_H G H z S M N ∧ va_S (fun q => lq_b G ≤ q) s.heap H locs) ∧
  (cells + kc ≤ R.cells ∧ slots + ks ≤ R.slots ∧ d + 20 ≤ R.frames ∧ 40 * d + 1000 ≤ R.locals) ∧
  lv_has ls Y.2.2.1 (lq_pr lv 0)
def LW (G : lq_G) (Y : lq_Y) (d kc ks : Nat) (Q : lq_P) (X : lq_E) (z : Nat) (S : lq_S) (M : lq_M) (N : lq_N) (pc : Nat) (lv : List (Option Value)) (st : List Value) : Prop :=
  ∀ (p : Program) (e : Env) (R : Room) (s : State) (m : MethodId) (args : Array Value) (below : List Frame) (meth : Method) (c : Code) (H : Heap) (locs : List Loc) (cells slots : Nat) (ls : Array Slot),
    lq_cx G Y d kc ks z S M N lv p R s m args meth c H locs cells slots ls → W p (lq_l G) e R s m args below meth c H locs cells slots (vx_MQ below (lq_Qc G Q) (lq_XC G X) args s R.cells R.slots (fun q => lq_b G ≤ q)) (F0 m pc ls st)
section LQ
variable {G : lq_G} {Y : lq_Y} {d kc ks z : Nat} {S : lq_S} {M : lq_M} {N : lq_N} {Q : lq_P} {X : lq_E} {pc : Nat} {lv : List (Option Value)} {st : List Value}
theorem qw_weak (lv' : List (Option Value)) (h : lq_le lv' lv) (k : LW G Y d kc ks Q X z S M N pc lv' st) : LW G Y d kc ks Q X z S M N pc lv st := fun p e R s m args below meth c H locs cells slots ls C => k p e R s m args below meth c H locs cells slots ls ⟨C.1, C.2.1, C.2.2.1, C.2.2.2.1, C.2.2.2.2.1, lq_le_has h C.2.2.2.2.2⟩
theorem qw_budget {kc' ks' : Nat} (h1 : kc' ≤ kc) (h2 : ks' ≤ ks) (k : LW G Y d kc' ks' Q X z S M N pc lv st) : LW G Y d kc ks Q X z S M N pc lv st := fun p e R s m args below meth c H locs cells slots ls C => k p e R s m args below meth c H locs cells slots ls ⟨C.1, C.2.1, C.2.2.1, C.2.2.2.1, ⟨Nat.le_trans (Nat.add_le_add_left h1 _) C.2.2.2.2.1.1, Nat.le_trans (Nat.add_le_add_left h2 _) C.2.2.2.2.1.2.1, C.2.2.2.2.1.2.2⟩, C.2.2.2.2.2⟩
theorem qw_iconst {n : Int} (v : Int32) (hd : decode Y.2.1 pc = .ok (.iconst n, 1)) (hv : Int32.ofInt n = v) (k : LW G Y d kc ks Q X z S M N (pc + 1) lv (.int v :: st)) : LW G Y d kc ks Q X z S M N pc lv st := fun p e R s m args below meth c H locs cells slots ls C => lv_iconst C.1.1 C.1.2.1 hd hv (k p e R s m args below meth c H locs cells slots ls C)
theorem qw_bipush {n : Int} (v : Int32) (hd : decode Y.2.1 pc = .ok (.bipush n, 2)) (hv : (Int8.ofInt n).toInt32 = v) (k : LW G Y d kc ks Q X z S M N (pc + 2) lv (.int v :: st)) : LW G Y d kc ks Q X z S M N pc lv st := fun p e R s m args below meth c H locs cells slots ls C => lv_bipush C.1.1 C.1.2.1 hd hv (k p e R s m args below meth c H locs cells slots ls C)
theorem qw_sipush {n : Int} (v : Int32) (hd : decode Y.2.1 pc = .ok (.sipush n, 3)) (hv : (Int16.ofInt n).toInt32 = v) (k : LW G Y d kc ks Q X z S M N (pc + 3) lv (.int v :: st)) : LW G Y d kc ks Q X z S M N pc lv st := fun p e R s m args below meth c H locs cells slots ls C => lv_sipush C.1.1 C.1.2.1 hd hv (k p e R s m args below meth c H locs cells slots ls C)
theorem qw_lconst {n : Fin 2} (v : Int64) (hd : decode Y.2.1 pc = .ok (.lconst n, 1)) (hv : Int64.ofNat (n : Nat) = v) (k : LW G Y d kc ks Q X z S M N (pc + 1) lv (.long v :: st)) : LW G Y d kc ks Q X z S M N pc lv st := fun p e R s m args below meth c H locs cells slots ls C => lv_lconst C.1.1 C.1.2.1 hd hv (k p e R s m args below meth c H locs cells slots ls C)
theorem qw_iload_n {k0 : Fin 4} (i : Nat) {x : Int32} (hd : decode Y.2.1 pc = .ok (.iload_n k0, 1)) (hi : (k0 : Nat) = i) (h : lv[i]? = some (some (.int x))) (k : LW G Y d kc ks Q X z S M N (pc + 1) lv (.int x :: st)) : LW G Y d kc ks Q X z S M N pc lv st := fun p e R s m args below meth c H locs cells slots ls C => lv_iload_n C.1.1 C.1.2.1 hd hi (lq_at C.2.2.2.2.2 h) (k p e R s m args below meth c H locs cells slots ls C)
theorem qw_iload {i : Nat} {x : Int32} (hd : decode Y.2.1 pc = .ok (.iload i, 2)) (h : lv[i]? = some (some (.int x))) (k : LW G Y d kc ks Q X z S M N (pc + 2) lv (.int x :: st)) : LW G Y d kc ks Q X z S M N pc lv st := fun p e R s m args below meth c H locs cells slots ls C => lv_iload C.1.1 C.1.2.1 hd (lq_at C.2.2.2.2.2 h) (k p e R s m args below meth c H locs cells slots ls C)
theorem qw_aload_n {k0 : Fin 4} (i : Nat) {x : Nat} (hd : decode Y.2.1 pc = .ok (.aload_n k0, 1)) (hi : (k0 : Nat) = i) (h : lv[i]? = some (some (.ref x))) (k : LW G Y d kc ks Q X z S M N (pc + 1) lv (.ref x :: st)) : LW G Y d kc ks Q X z S M N pc lv st := fun p e R s m args below meth c H locs cells slots ls C => lv_aload_n C.1.1 C.1.2.1 hd hi (lq_at C.2.2.2.2.2 h) (k p e R s m args below meth c H locs cells slots ls C)
theorem qw_aload {i : Nat} {x : Nat} (hd : decode Y.2.1 pc = .ok (.aload i, 2)) (h : lv[i]? = some (some (.ref x))) (k : LW G Y d kc ks Q X z S M N (pc + 2) lv (.ref x :: st)) : LW G Y d kc ks Q X z S M N pc lv st := fun p e R s m args below meth c H locs cells slots ls C => lv_aload C.1.1 C.1.2.1 hd (lq_at C.2.2.2.2.2 h) (k p e R s m args below meth c H locs cells slots ls C)
theorem qw_lload_n {k0 : Fin 4} (i : Nat) {x : Int64} (hd : decode Y.2.1 pc = .ok (.lload_n k0, 1)) (hi : (k0 : Nat) = i) (h : lv[i]? = some (some (.long x))) (k : LW G Y d kc ks Q X z S M N (pc + 1) lv (.long x :: st)) : LW G Y d kc ks Q X z S M N pc lv st := fun p e R s m args below meth c H locs cells slots ls C => lv_lload_n C.1.1 C.1.2.1 hd hi (lq_at C.2.2.2.2.2 h) (k p e R s m args below meth c H locs cells slots ls C)
theorem qw_lload {i : Nat} {x : Int64} (hd : decode Y.2.1 pc = .ok (.lload i, 2)) (h : lv[i]? = some (some (.long x))) (k : LW G Y d kc ks Q X z S M N (pc + 2) lv (.long x :: st)) : LW G Y d kc ks Q X z S M N pc lv st := fun p e R s m args below meth c H locs cells slots ls C => lv_lload C.1.1 C.1.2.1 hd (lq_at C.2.2.2.2.2 h) (k p e R s m args below meth c H locs cells slots ls C)
theorem qw_istore_n {k0 : Fin 4} (i : Nat) {x : Int32} (hd : decode Y.2.1 pc = .ok (.istore_n k0, 1)) (hi : (k0 : Nat) = i) (hn : lq_nl lv i = true) (hm : i < Y.2.2.1) (k : LW G Y d kc ks Q X z S M N (pc + 1) (lv.set i (some (.int x))) st) : LW G Y d kc ks Q X z S M N pc lv (.int x :: st) := fun p e R s m args below meth c H locs cells slots ls C => lv_istore_n C.1.1 C.1.2.1 hd hi C.2.2.2.2.2 hm rfl (fun ls1 hl1 => k p e R s m args below meth c H locs cells slots ls1 ⟨C.1, C.2.1, C.2.2.1, C.2.2.2.1, C.2.2.2.2.1, lq_set1 hn hl1⟩)
theorem qw_istore {i : Nat} {x : Int32} (hd : decode Y.2.1 pc = .ok (.istore i, 2)) (hn : lq_nl lv i = true) (hm : i < Y.2.2.1) (k : LW G Y d kc ks Q X z S M N (pc + 2) (lv.set i (some (.int x))) st) : LW G Y d kc ks Q X z S M N pc lv (.int x :: st) := fun p e R s m args below meth c H locs cells slots ls C => lv_istore C.1.1 C.1.2.1 hd C.2.2.2.2.2 hm rfl (fun ls1 hl1 => k p e R s m args below meth c H locs cells slots ls1 ⟨C.1, C.2.1, C.2.2.1, C.2.2.2.1, C.2.2.2.2.1, lq_set1 hn hl1⟩)
theorem qw_astore_n {k0 : Fin 4} (i : Nat) {x : Nat} (hd : decode Y.2.1 pc = .ok (.astore_n k0, 1)) (hi : (k0 : Nat) = i) (hn : lq_nl lv i = true) (hm : i < Y.2.2.1) (k : LW G Y d kc ks Q X z S M N (pc + 1) (lv.set i (some (.ref x))) st) : LW G Y d kc ks Q X z S M N pc lv (.ref x :: st) := fun p e R s m args below meth c H locs cells slots ls C => lv_astore_n C.1.1 C.1.2.1 hd hi C.2.2.2.2.2 hm rfl (fun ls1 hl1 => k p e R s m args below meth c H locs cells slots ls1 ⟨C.1, C.2.1, C.2.2.1, C.2.2.2.1, C.2.2.2.2.1, lq_set1 hn hl1⟩)
theorem qw_astore {i : Nat} {x : Nat} (hd : decode Y.2.1 pc = .ok (.astore i, 2)) (hn : lq_nl lv i = true) (hm : i < Y.2.2.1) (k : LW G Y d kc ks Q X z S M N (pc + 2) (lv.set i (some (.ref x))) st) : LW G Y d kc ks Q X z S M N pc lv (.ref x :: st) := fun p e R s m args below meth c H locs cells slots ls C => lv_astore C.1.1 C.1.2.1 hd C.2.2.2.2.2 hm rfl (fun ls1 hl1 => k p e R s m args below meth c H locs cells slots ls1 ⟨C.1, C.2.1, C.2.2.1, C.2.2.2.1, C.2.2.2.2.1, lq_set1 hn hl1⟩)
theorem qw_lstore_n {k0 : Fin 4} (i : Nat) {x : Int64} (hd : decode Y.2.1 pc = .ok (.lstore_n k0, 1)) (hi : (k0 : Nat) = i) (hn : lq_nl lv i = true) (hm : i + 1 < Y.2.2.1) (k : LW G Y d kc ks Q X z S M N (pc + 1) ((lv.set i (some (.long x))).set (i + 1) none) st) : LW G Y d kc ks Q X z S M N pc lv (.long x :: st) := fun p e R s m args below meth c H locs cells slots ls C => lv_lstore_n C.1.1 C.1.2.1 hd hi C.2.2.2.2.2 hm rfl (fun ls1 hl1 => k p e R s m args below meth c H locs cells slots ls1 ⟨C.1, C.2.1, C.2.2.1, C.2.2.2.1, C.2.2.2.2.1, lq_set2 hn hl1⟩)
theorem qw_lstore {i : Nat} {x : Int64} (hd : decode Y.2.1 pc = .ok (.lstore i, 2)) (hn : lq_nl lv i = true) (hm : i + 1 < Y.2.2.1) (k : LW G Y d kc ks Q X z S M N (pc + 2) ((lv.set i (some (.long x))).set (i + 1) none) st) : LW G Y d kc ks Q X z S M N pc lv (.long x :: st) := fun p e R s m args below meth c H locs cells slots ls C => lv_lstore C.1.1 C.1.2.1 hd C.2.2.2.2.2 hm rfl (fun ls1 hl1 => k p e R s m args below meth c H locs cells slots ls1 ⟨C.1, C.2.1, C.2.2.1, C.2.2.2.1, C.2.2.2.2.1, lq_set2 hn hl1⟩)
theorem lq_pr_get {lv : List (Option Value)} {i : Nat} {v : Value} (h : lv[i]? = some (some v)) : ∃ k : Nat, (lq_pr lv 0)[k]? = some (i, v) := List.getElem?_of_mem ((lq_pr_mem lv 0 (i, v)).mpr ⟨i, (Nat.zero_add i).symm, h⟩)
theorem qw_iinc {i : Nat} {n : Int} {x : Int32} (v : Int32) (hd : decode Y.2.1 pc = .ok (.iinc i n, 3)) (h : lv[i]? = some (some (.int x))) (hv : x + Int32.ofInt n = v) (hn : lq_nl lv i = true) (hm : i < Y.2.2.1) (k : LW G Y d kc ks Q X z S M N (pc + 3) (lv.set i (some (.int v))) st) : LW G Y d kc ks Q X z S M N pc lv st := by
  intro p e R s m args below meth c H locs cells slots ls C
  obtain ⟨j, hj⟩ := lq_pr_get h
  exact lv_iinc C.1.1 C.1.2.1 hd C.2.2.2.2.2 hj hv hm rfl (fun ls1 hl1 => k p e R s m args below meth c H locs cells slots ls1 ⟨C.1, C.2.1, C.2.2.1, C.2.2.2.1, C.2.2.2.2.1, lq_set1 hn hl1⟩)
theorem qw_iadd {x y : Int32} (hd : decode Y.2.1 pc = .ok (.iadd, 1))  (k : LW G Y d kc ks Q X z S M N (pc + 1) lv (.int (x + y) :: st)) : LW G Y d kc ks Q X z S M N pc lv (.int y :: .int x :: st) := fun p e R s m args below meth c H locs cells slots ls C => lv_iadd C.1.1 C.1.2.1 hd  (k p e R s m args below meth c H locs cells slots ls C)
theorem qw_isub {x y : Int32} (hd : decode Y.2.1 pc = .ok (.isub, 1))  (k : LW G Y d kc ks Q X z S M N (pc + 1) lv (.int (x - y) :: st)) : LW G Y d kc ks Q X z S M N pc lv (.int y :: .int x :: st) := fun p e R s m args below meth c H locs cells slots ls C => lv_isub C.1.1 C.1.2.1 hd  (k p e R s m args below meth c H locs cells slots ls C)
theorem qw_imul {x y : Int32} (hd : decode Y.2.1 pc = .ok (.imul, 1))  (k : LW G Y d kc ks Q X z S M N (pc + 1) lv (.int (x * y) :: st)) : LW G Y d kc ks Q X z S M N pc lv (.int y :: .int x :: st) := fun p e R s m args below meth c H locs cells slots ls C => lv_imul C.1.1 C.1.2.1 hd  (k p e R s m args below meth c H locs cells slots ls C)
theorem qw_iand {x y : Int32} (hd : decode Y.2.1 pc = .ok (.iand, 1))  (k : LW G Y d kc ks Q X z S M N (pc + 1) lv (.int (x &&& y) :: st)) : LW G Y d kc ks Q X z S M N pc lv (.int y :: .int x :: st) := fun p e R s m args below meth c H locs cells slots ls C => lv_iand C.1.1 C.1.2.1 hd  (k p e R s m args below meth c H locs cells slots ls C)
theorem qw_ior {x y : Int32} (hd : decode Y.2.1 pc = .ok (.ior, 1))  (k : LW G Y d kc ks Q X z S M N (pc + 1) lv (.int (x ||| y) :: st)) : LW G Y d kc ks Q X z S M N pc lv (.int y :: .int x :: st) := fun p e R s m args below meth c H locs cells slots ls C => lv_ior C.1.1 C.1.2.1 hd  (k p e R s m args below meth c H locs cells slots ls C)
theorem qw_ixor {x y : Int32} (hd : decode Y.2.1 pc = .ok (.ixor, 1))  (k : LW G Y d kc ks Q X z S M N (pc + 1) lv (.int (x ^^^ y) :: st)) : LW G Y d kc ks Q X z S M N pc lv (.int y :: .int x :: st) := fun p e R s m args below meth c H locs cells slots ls C => lv_ixor C.1.1 C.1.2.1 hd  (k p e R s m args below meth c H locs cells slots ls C)
theorem qw_ladd {x y : Int64} (hd : decode Y.2.1 pc = .ok (.ladd, 1))  (k : LW G Y d kc ks Q X z S M N (pc + 1) lv (.long (x + y) :: st)) : LW G Y d kc ks Q X z S M N pc lv (.long y :: .long x :: st) := fun p e R s m args below meth c H locs cells slots ls C => lv_ladd C.1.1 C.1.2.1 hd  (k p e R s m args below meth c H locs cells slots ls C)
theorem qw_lsub {x y : Int64} (hd : decode Y.2.1 pc = .ok (.lsub, 1))  (k : LW G Y d kc ks Q X z S M N (pc + 1) lv (.long (x - y) :: st)) : LW G Y d kc ks Q X z S M N pc lv (.long y :: .long x :: st) := fun p e R s m args below meth c H locs cells slots ls C => lv_lsub C.1.1 C.1.2.1 hd  (k p e R s m args below meth c H locs cells slots ls C)
theorem qw_lmul {x y : Int64} (hd : decode Y.2.1 pc = .ok (.lmul, 1))  (k : LW G Y d kc ks Q X z S M N (pc + 1) lv (.long (x * y) :: st)) : LW G Y d kc ks Q X z S M N pc lv (.long y :: .long x :: st) := fun p e R s m args below meth c H locs cells slots ls C => lv_lmul C.1.1 C.1.2.1 hd  (k p e R s m args below meth c H locs cells slots ls C)
theorem qw_idiv {x y : Int32} (hd : decode Y.2.1 pc = .ok (.idiv, 1)) (hne : ¬ y = 0) (k : LW G Y d kc ks Q X z S M N (pc + 1) lv (.int (x / y) :: st)) : LW G Y d kc ks Q X z S M N pc lv (.int y :: .int x :: st) := fun p e R s m args below meth c H locs cells slots ls C => lv_idiv C.1.1 C.1.2.1 hd hne (k p e R s m args below meth c H locs cells slots ls C)
theorem qw_irem {x y : Int32} (hd : decode Y.2.1 pc = .ok (.irem, 1)) (hne : ¬ y = 0) (k : LW G Y d kc ks Q X z S M N (pc + 1) lv (.int (x - x / y * y) :: st)) : LW G Y d kc ks Q X z S M N pc lv (.int y :: .int x :: st) := fun p e R s m args below meth c H locs cells slots ls C => lv_irem C.1.1 C.1.2.1 hd hne (k p e R s m args below meth c H locs cells slots ls C)
theorem qw_ineg {x : Int32} (hd : decode Y.2.1 pc = .ok (.ineg, 1))  (k : LW G Y d kc ks Q X z S M N (pc + 1) lv (.int (-x) :: st)) : LW G Y d kc ks Q X z S M N pc lv (.int x :: st) := fun p e R s m args below meth c H locs cells slots ls C => lv_ineg C.1.1 C.1.2.1 hd  (k p e R s m args below meth c H locs cells slots ls C)
theorem qw_ishl {x y : Int32} (hd : decode Y.2.1 pc = .ok (.ishl, 1))  (k : LW G Y d kc ks Q X z S M N (pc + 1) lv (.int (x <<< (y &&& 31)) :: st)) : LW G Y d kc ks Q X z S M N pc lv (.int y :: .int x :: st) := fun p e R s m args below meth c H locs cells slots ls C => lv_ishl C.1.1 C.1.2.1 hd  (k p e R s m args below meth c H locs cells slots ls C)
theorem qw_ishr {x y : Int32} (hd : decode Y.2.1 pc = .ok (.ishr, 1))  (k : LW G Y d kc ks Q X z S M N (pc + 1) lv (.int (x >>> (y &&& 31)) :: st)) : LW G Y d kc ks Q X z S M N pc lv (.int y :: .int x :: st) := fun p e R s m args below meth c H locs cells slots ls C => lv_ishr C.1.1 C.1.2.1 hd  (k p e R s m args below meth c H locs cells slots ls C)
theorem qw_iushr {x y : Int32} (v : Int32) (hd : decode Y.2.1 pc = .ok (.iushr, 1)) (hv : (x.toUInt32 >>> (y.toUInt32 &&& Int32.toUInt32 31)).toInt32 = v) (k : LW G Y d kc ks Q X z S M N (pc + 1) lv (.int v :: st)) : LW G Y d kc ks Q X z S M N pc lv (.int y :: .int x :: st) := fun p e R s m args below meth c H locs cells slots ls C => lv_iushr C.1.1 C.1.2.1 hd hv (k p e R s m args below meth c H locs cells slots ls C)
theorem qw_ldiv {x y : Int64} (hd : decode Y.2.1 pc = .ok (.ldiv, 1)) (hne : ¬ y = 0) (k : LW G Y d kc ks Q X z S M N (pc + 1) lv (.long (x / y) :: st)) : LW G Y d kc ks Q X z S M N pc lv (.long y :: .long x :: st) := fun p e R s m args below meth c H locs cells slots ls C => lv_ldiv C.1.1 C.1.2.1 hd hne (k p e R s m args below meth c H locs cells slots ls C)
theorem qw_lcmp {x y : Int64} (hd : decode Y.2.1 pc = .ok (.lcmp, 1))  (k : LW G Y d kc ks Q X z S M N (pc + 1) lv (.int (lg_cmp x y) :: st)) : LW G Y d kc ks Q X z S M N pc lv (.long y :: .long x :: st) := fun p e R s m args below meth c H locs cells slots ls C => W.lcmp C.1.1 C.1.2.1 hd  (k p e R s m args below meth c H locs cells slots ls C)
theorem qw_i2l {x : Int32} (v : Int64) (hd : decode Y.2.1 pc = .ok (.i2l, 1)) (hv : x.toInt64 = v) (k : LW G Y d kc ks Q X z S M N (pc + 1) lv (.long v :: st)) : LW G Y d kc ks Q X z S M N pc lv (.int x :: st) := fun p e R s m args below meth c H locs cells slots ls C => lv_i2l C.1.1 C.1.2.1 hd hv (k p e R s m args below meth c H locs cells slots ls C)
theorem qw_l2i {x : Int64} (v : Int32) (hd : decode Y.2.1 pc = .ok (.l2i, 1)) (hv : x.toInt32 = v) (k : LW G Y d kc ks Q X z S M N (pc + 1) lv (.int v :: st)) : LW G Y d kc ks Q X z S M N pc lv (.long x :: st) := fun p e R s m args below meth c H locs cells slots ls C => lv_l2i C.1.1 C.1.2.1 hd hv (k p e R s m args below meth c H locs cells slots ls C)
theorem qw_i2b {x : Int32} (v : Int32) (hd : decode Y.2.1 pc = .ok (.i2b, 1)) (hv : x.toInt8.toInt32 = v) (k : LW G Y d kc ks Q X z S M N (pc + 1) lv (.int v :: st)) : LW G Y d kc ks Q X z S M N pc lv (.int x :: st) := fun p e R s m args below meth c H locs cells slots ls C => lv_i2b C.1.1 C.1.2.1 hd hv (k p e R s m args below meth c H locs cells slots ls C)
theorem qw_i2c {x : Int32} (v : Int32) (hd : decode Y.2.1 pc = .ok (.i2c, 1)) (hv : (x.toUInt32 % 65536).toInt32 = v) (k : LW G Y d kc ks Q X z S M N (pc + 1) lv (.int v :: st)) : LW G Y d kc ks Q X z S M N pc lv (.int x :: st) := fun p e R s m args below meth c H locs cells slots ls C => lv_i2c C.1.1 C.1.2.1 hd hv (k p e R s m args below meth c H locs cells slots ls C)
theorem qw_dup {va : Value} (hd : decode Y.2.1 pc = .ok (.dup, 1)) (hva : va.category = 1) (k : LW G Y d kc ks Q X z S M N (pc + 1) lv (va :: va :: st)) : LW G Y d kc ks Q X z S M N pc lv (va :: st) := fun p e R s m args below meth c H locs cells slots ls C => lv_dup C.1.1 C.1.2.1 hd hva (k p e R s m args below meth c H locs cells slots ls C)
theorem qw_pop {va : Value} (hd : decode Y.2.1 pc = .ok (.pop, 1)) (hva : va.category = 1) (k : LW G Y d kc ks Q X z S M N (pc + 1) lv st) : LW G Y d kc ks Q X z S M N pc lv (va :: st) := fun p e R s m args below meth c H locs cells slots ls C => lv_pop C.1.1 C.1.2.1 hd hva (k p e R s m args below meth c H locs cells slots ls C)
theorem qw_dup2 {va vb : Value} (hd : decode Y.2.1 pc = .ok (.dup2, 1)) (hva : va.category = 1) (hvb : vb.category = 1) (k : LW G Y d kc ks Q X z S M N (pc + 1) lv (va :: vb :: va :: vb :: st)) : LW G Y d kc ks Q X z S M N pc lv (va :: vb :: st) := fun p e R s m args below meth c H locs cells slots ls C => lv_dup2_11 C.1.1 C.1.2.1 hd hva hvb (k p e R s m args below meth c H locs cells slots ls C)
theorem qw_icmp_eq {x y : Int32} {off : Int} (tgt : Nat) (hd : decode Y.2.1 pc = .ok (.if_icmp .eq off, 3)) (ht : (pc : Int) + off = (tgt : Int)) (kt : x = y → LW G Y d kc ks Q X z S M N tgt lv st) (kf : ¬ x = y → LW G Y d kc ks Q X z S M N (pc + 3) lv st) : LW G Y d kc ks Q X z S M N pc lv (.int y :: .int x :: st) := fun p e R s m args below meth c H locs cells slots ls C => lv_icmp_eq C.1.1 C.1.2.1 hd ht (fun q => kt q p e R s m args below meth c H locs cells slots ls C) (fun q => kf q p e R s m args below meth c H locs cells slots ls C)
theorem qw_if_eq {x : Int32} {off : Int} (tgt : Nat) (hd : decode Y.2.1 pc = .ok (.ifCond .eq off, 3)) (ht : (pc : Int) + off = (tgt : Int)) (kt : x = 0 → LW G Y d kc ks Q X z S M N tgt lv st) (kf : ¬ x = 0 → LW G Y d kc ks Q X z S M N (pc + 3) lv st) : LW G Y d kc ks Q X z S M N pc lv (.int x :: st) := fun p e R s m args below meth c H locs cells slots ls C => lv_if_eq C.1.1 C.1.2.1 hd ht (fun q => kt q p e R s m args below meth c H locs cells slots ls C) (fun q => kf q p e R s m args below meth c H locs cells slots ls C)
theorem qw_icmp_ne {x y : Int32} {off : Int} (tgt : Nat) (hd : decode Y.2.1 pc = .ok (.if_icmp .ne off, 3)) (ht : (pc : Int) + off = (tgt : Int)) (kt : ¬ x = y → LW G Y d kc ks Q X z S M N tgt lv st) (kf : x = y → LW G Y d kc ks Q X z S M N (pc + 3) lv st) : LW G Y d kc ks Q X z S M N pc lv (.int y :: .int x :: st) := fun p e R s m args below meth c H locs cells slots ls C => lv_icmp_ne C.1.1 C.1.2.1 hd ht (fun q => kt q p e R s m args below meth c H locs cells slots ls C) (fun q => kf q p e R s m args below meth c H locs cells slots ls C)
theorem qw_if_ne {x : Int32} {off : Int} (tgt : Nat) (hd : decode Y.2.1 pc = .ok (.ifCond .ne off, 3)) (ht : (pc : Int) + off = (tgt : Int)) (kt : ¬ x = 0 → LW G Y d kc ks Q X z S M N tgt lv st) (kf : x = 0 → LW G Y d kc ks Q X z S M N (pc + 3) lv st) : LW G Y d kc ks Q X z S M N pc lv (.int x :: st) := fun p e R s m args below meth c H locs cells slots ls C => lv_if_ne C.1.1 C.1.2.1 hd ht (fun q => kt q p e R s m args below meth c H locs cells slots ls C) (fun q => kf q p e R s m args below meth c H locs cells slots ls C)
theorem qw_icmp_lt {x y : Int32} {off : Int} (tgt : Nat) (hd : decode Y.2.1 pc = .ok (.if_icmp .lt off, 3)) (ht : (pc : Int) + off = (tgt : Int)) (kt : x < y → LW G Y d kc ks Q X z S M N tgt lv st) (kf : ¬ x < y → LW G Y d kc ks Q X z S M N (pc + 3) lv st) : LW G Y d kc ks Q X z S M N pc lv (.int y :: .int x :: st) := fun p e R s m args below meth c H locs cells slots ls C => lv_icmp_lt C.1.1 C.1.2.1 hd ht (fun q => kt q p e R s m args below meth c H locs cells slots ls C) (fun q => kf q p e R s m args below meth c H locs cells slots ls C)
theorem qw_if_lt {x : Int32} {off : Int} (tgt : Nat) (hd : decode Y.2.1 pc = .ok (.ifCond .lt off, 3)) (ht : (pc : Int) + off = (tgt : Int)) (kt : x < 0 → LW G Y d kc ks Q X z S M N tgt lv st) (kf : ¬ x < 0 → LW G Y d kc ks Q X z S M N (pc + 3) lv st) : LW G Y d kc ks Q X z S M N pc lv (.int x :: st) := fun p e R s m args below meth c H locs cells slots ls C => lv_if_lt C.1.1 C.1.2.1 hd ht (fun q => kt q p e R s m args below meth c H locs cells slots ls C) (fun q => kf q p e R s m args below meth c H locs cells slots ls C)
theorem qw_icmp_ge {x y : Int32} {off : Int} (tgt : Nat) (hd : decode Y.2.1 pc = .ok (.if_icmp .ge off, 3)) (ht : (pc : Int) + off = (tgt : Int)) (kt : y ≤ x → LW G Y d kc ks Q X z S M N tgt lv st) (kf : ¬ y ≤ x → LW G Y d kc ks Q X z S M N (pc + 3) lv st) : LW G Y d kc ks Q X z S M N pc lv (.int y :: .int x :: st) := fun p e R s m args below meth c H locs cells slots ls C => lv_icmp_ge C.1.1 C.1.2.1 hd ht (fun q => kt q p e R s m args below meth c H locs cells slots ls C) (fun q => kf q p e R s m args below meth c H locs cells slots ls C)
theorem qw_if_ge {x : Int32} {off : Int} (tgt : Nat) (hd : decode Y.2.1 pc = .ok (.ifCond .ge off, 3)) (ht : (pc : Int) + off = (tgt : Int)) (kt : 0 ≤ x → LW G Y d kc ks Q X z S M N tgt lv st) (kf : ¬ 0 ≤ x → LW G Y d kc ks Q X z S M N (pc + 3) lv st) : LW G Y d kc ks Q X z S M N pc lv (.int x :: st) := fun p e R s m args below meth c H locs cells slots ls C => lv_if_ge C.1.1 C.1.2.1 hd ht (fun q => kt q p e R s m args below meth c H locs cells slots ls C) (fun q => kf q p e R s m args below meth c H locs cells slots ls C)
theorem qw_icmp_gt {x y : Int32} {off : Int} (tgt : Nat) (hd : decode Y.2.1 pc = .ok (.if_icmp .gt off, 3)) (ht : (pc : Int) + off = (tgt : Int)) (kt : y < x → LW G Y d kc ks Q X z S M N tgt lv st) (kf : ¬ y < x → LW G Y d kc ks Q X z S M N (pc + 3) lv st) : LW G Y d kc ks Q X z S M N pc lv (.int y :: .int x :: st) := fun p e R s m args below meth c H locs cells slots ls C => lv_icmp_gt C.1.1 C.1.2.1 hd ht (fun q => kt q p e R s m args below meth c H locs cells slots ls C) (fun q => kf q p e R s m args below meth c H locs cells slots ls C)
theorem qw_if_gt {x : Int32} {off : Int} (tgt : Nat) (hd : decode Y.2.1 pc = .ok (.ifCond .gt off, 3)) (ht : (pc : Int) + off = (tgt : Int)) (kt : 0 < x → LW G Y d kc ks Q X z S M N tgt lv st) (kf : ¬ 0 < x → LW G Y d kc ks Q X z S M N (pc + 3) lv st) : LW G Y d kc ks Q X z S M N pc lv (.int x :: st) := fun p e R s m args below meth c H locs cells slots ls C => lv_if_gt C.1.1 C.1.2.1 hd ht (fun q => kt q p e R s m args below meth c H locs cells slots ls C) (fun q => kf q p e R s m args below meth c H locs cells slots ls C)
theorem qw_icmp_le {x y : Int32} {off : Int} (tgt : Nat) (hd : decode Y.2.1 pc = .ok (.if_icmp .le off, 3)) (ht : (pc : Int) + off = (tgt : Int)) (kt : x ≤ y → LW G Y d kc ks Q X z S M N tgt lv st) (kf : ¬ x ≤ y → LW G Y d kc ks Q X z S M N (pc + 3) lv st) : LW G Y d kc ks Q X z S M N pc lv (.int y :: .int x :: st) := fun p e R s m args below meth c H locs cells slots ls C => lv_icmp_le C.1.1 C.1.2.1 hd ht (fun q => kt q p e R s m args below meth c H locs cells slots ls C) (fun q => kf q p e R s m args below meth c H locs cells slots ls C)
theorem qw_if_le {x : Int32} {off : Int} (tgt : Nat) (hd : decode Y.2.1 pc = .ok (.ifCond .le off, 3)) (ht : (pc : Int) + off = (tgt : Int)) (kt : x ≤ 0 → LW G Y d kc ks Q X z S M N tgt lv st) (kf : ¬ x ≤ 0 → LW G Y d kc ks Q X z S M N (pc + 3) lv st) : LW G Y d kc ks Q X z S M N pc lv (.int x :: st) := fun p e R s m args below meth c H locs cells slots ls C => lv_if_le C.1.1 C.1.2.1 hd ht (fun q => kt q p e R s m args below meth c H locs cells slots ls C) (fun q => kf q p e R s m args below meth c H locs cells slots ls C)
theorem qw_goto {off : Int} (tgt : Nat) (hd : decode Y.2.1 pc = .ok (.goto off, 3)) (ht : (pc : Int) + off = (tgt : Int)) (k : LW G Y d kc ks Q X z S M N tgt lv st) : LW G Y d kc ks Q X z S M N pc lv st := fun p e R s m args below meth c H locs cells slots ls C => lv_goto C.1.1 C.1.2.1 hd ht (k p e R s m args below meth c H locs cells slots ls C)
theorem qw_ldc {i : Nat} {v : Int32} (hd : decode Y.2.1 pc = .ok (.ldc i, 2)) (hw : Cond.constant Y.1.cls i v ∈ lq_W) (k : LW G Y d kc ks Q X z S M N (pc + 2) lv (.int v :: st)) : LW G Y d kc ks Q X z S M N pc lv st := fun p e R s m args below meth c H locs cells slots ls C => lv_ldc C.1.1 C.1.2.1 C.1.2.2.2.1 (C.1.2.2.2.2 _ hw) hd (k p e R s m args below meth c H locs cells slots ls C)
theorem qw_ldcw {i : Nat} {v : Int32} (hd : decode Y.2.1 pc = .ok (.ldc_w i, 3)) (hw : Cond.constant Y.1.cls i v ∈ lq_W) (k : LW G Y d kc ks Q X z S M N (pc + 3) lv (.int v :: st)) : LW G Y d kc ks Q X z S M N pc lv st := fun p e R s m args below meth c H locs cells slots ls C => lv_ldcw C.1.1 C.1.2.1 C.1.2.2.2.1 (C.1.2.2.2.2 _ hw) hd (k p e R s m args below meth c H locs cells slots ls C)
theorem qw_ldc2 {i : Nat} {v : Int64} (hd : decode Y.2.1 pc = .ok (.ldc2_w i, 3)) (hw : Cond.constantLong Y.1.cls i v ∈ lq_W) (k : LW G Y d kc ks Q X z S M N (pc + 3) lv (.long v :: st)) : LW G Y d kc ks Q X z S M N pc lv st := fun p e R s m args below meth c H locs cells slots ls C => lv_ldc2 C.1.1 C.1.2.1 C.1.2.2.2.1 (C.1.2.2.2.2 _ hw) hd (k p e R s m args below meth c H locs cells slots ls C)
theorem qw_ldcS {i : Nat} (j : Nat) {tx : String} (hd : decode Y.2.1 pc = .ok (.ldc i, 2)) (hw : lq_strs[j]? = some (Y.1.cls, i, tx)) (k : LW G Y d kc ks Q X z S M N (pc + 2) lv (.ref (lq_k G j) :: st)) : LW G Y d kc ks Q X z S M N pc lv st := fun p e R s m args below meth c H locs cells slots ls C => va_ldcS C.1.1 C.1.2.1 C.1.2.2.2.1 (C.2.2.1.1.2.2.2 j _ hw) hd (k p e R s m args below meth c H locs cells slots ls C)
theorem qw_tabOut {dflt lo hi : Int} {offs : Array Int} {len : Nat} {x : Int32} (tgt : Nat) (hd : decode Y.2.1 pc = .ok (.tableswitch dflt lo hi offs, len)) (h : x.toInt < lo ∨ hi < x.toInt) (ht : (pc : Int) + dflt = (tgt : Int)) (k : LW G Y d kc ks Q X z S M N tgt lv st) : LW G Y d kc ks Q X z S M N pc lv (.int x :: st) := fun p e R s m args below meth c H locs cells slots ls C => lv_tableOut C.1.1 C.1.2.1 hd h ht (k p e R s m args below meth c H locs cells slots ls C)
theorem qw_tabIn {dflt lo hi : Int} {offs : Array Int} {len : Nat} {x : Int32} {off : Int} (tgt : Nat) (hd : decode Y.2.1 pc = .ok (.tableswitch dflt lo hi offs, len)) (h1 : ¬ x.toInt < lo) (h2 : ¬ hi < x.toInt) (ho : offs[(x.toInt - lo).toNat]? = some off) (ht : (pc : Int) + off = (tgt : Int)) (k : LW G Y d kc ks Q X z S M N tgt lv st) : LW G Y d kc ks Q X z S M N pc lv (.int x :: st) := fun p e R s m args below meth c H locs cells slots ls C => lv_tableIn C.1.1 C.1.2.1 hd h1 h2 ho ht (k p e R s m args below meth c H locs cells slots ls C)
theorem qw_eqi {x : Int32} (y : Int32) (h : x = y) (k : LW G Y d kc ks Q X z S M N pc lv (.int y :: st)) : LW G Y d kc ks Q X z S M N pc lv (.int x :: st) := h ▸ k
theorem qw_eql {x : Int64} (y : Int64) (h : x = y) (k : LW G Y d kc ks Q X z S M N pc lv (.long y :: st)) : LW G Y d kc ks Q X z S M N pc lv (.long x :: st) := h ▸ k
theorem qw_addN {a b : Nat} (hd : decode Y.2.1 pc = .ok (.iadd, 1)) (k : LW G Y d kc ks Q X z S M N (pc + 1) lv (.int (nI (a + b)) :: st)) : LW G Y d kc ks Q X z S M N pc lv (.int (nI b) :: .int (nI a) :: st) := qw_iadd hd (by rw [nI_add]; exact k)
theorem qw_mulN {a b : Nat} (hd : decode Y.2.1 pc = .ok (.imul, 1)) (k : LW G Y d kc ks Q X z S M N (pc + 1) lv (.int (nI (a * b)) :: st)) : LW G Y d kc ks Q X z S M N pc lv (.int (nI b) :: .int (nI a) :: st) := qw_imul hd (by rw [pk_mul]; exact k)
theorem qw_subN {a b : Nat} (h : b ≤ a) (hd : decode Y.2.1 pc = .ok (.isub, 1)) (k : LW G Y d kc ks Q X z S M N (pc + 1) lv (.int (nI (a - b)) :: st)) : LW G Y d kc ks Q X z S M N pc lv (.int (nI b) :: .int (nI a) :: st) := qw_isub hd (by rw [pk_sub h]; exact k)
theorem qw_iincN {i : Nat} {a : Nat} (b : Nat) {n : Int} (hd : decode Y.2.1 pc = .ok (.iinc i n, 3)) (h : lv[i]? = some (some (.int (nI a)))) (hv : Int32.ofInt n = nI b) (hn : lq_nl lv i = true) (hm : i < Y.2.2.1) (k : LW G Y d kc ks Q X z S M N (pc + 3) (lv.set i (some (.int (nI (a + b))))) st) : LW G Y d kc ks Q X z S M N pc lv st := qw_iinc (nI (a + b)) hd h (by rw [hv, nI_add]) hn hm k
theorem qw_icmp_eqN {a b : Nat} {off : Int} (tgt : Nat) (hd : decode Y.2.1 pc = .ok (.if_icmp .eq off, 3)) (ht : (pc : Int) + off = (tgt : Int)) (ha : a < 2 ^ 31) (hb : b < 2 ^ 31) (kt : a = b → LW G Y d kc ks Q X z S M N tgt lv st) (kf : a ≠ b → LW G Y d kc ks Q X z S M N (pc + 3) lv st) : LW G Y d kc ks Q X z S M N pc lv (.int (nI b) :: .int (nI a) :: st) := qw_icmp_eq tgt hd ht (fun q => kt ((nI_eq ha hb).mp q)) (fun q => kf (fun z => q ((nI_eq ha hb).mpr z)))
theorem qw_icmp_neN {a b : Nat} {off : Int} (tgt : Nat) (hd : decode Y.2.1 pc = .ok (.if_icmp .ne off, 3)) (ht : (pc : Int) + off = (tgt : Int)) (ha : a < 2 ^ 31) (hb : b < 2 ^ 31) (kt : a ≠ b → LW G Y d kc ks Q X z S M N tgt lv st) (kf : a = b → LW G Y d kc ks Q X z S M N (pc + 3) lv st) : LW G Y d kc ks Q X z S M N pc lv (.int (nI b) :: .int (nI a) :: st) := qw_icmp_ne tgt hd ht (fun q => kt (fun z => q ((nI_eq ha hb).mpr z))) (fun q => kf ((nI_eq ha hb).mp q))
theorem qw_icmp_ltN {a b : Nat} {off : Int} (tgt : Nat) (hd : decode Y.2.1 pc = .ok (.if_icmp .lt off, 3)) (ht : (pc : Int) + off = (tgt : Int)) (ha : a < 2 ^ 31) (hb : b < 2 ^ 31) (kt : a < b → LW G Y d kc ks Q X z S M N tgt lv st) (kf : b ≤ a → LW G Y d kc ks Q X z S M N (pc + 3) lv st) : LW G Y d kc ks Q X z S M N pc lv (.int (nI b) :: .int (nI a) :: st) := qw_icmp_lt tgt hd ht (fun q => kt ((nI_ltI ha hb).mp q)) (fun q => kf (Nat.not_lt.mp (fun z => q ((nI_ltI ha hb).mpr z))))
theorem qw_icmp_geN {a b : Nat} {off : Int} (tgt : Nat) (hd : decode Y.2.1 pc = .ok (.if_icmp .ge off, 3)) (ht : (pc : Int) + off = (tgt : Int)) (ha : a < 2 ^ 31) (hb : b < 2 ^ 31) (kt : b ≤ a → LW G Y d kc ks Q X z S M N tgt lv st) (kf : a < b → LW G Y d kc ks Q X z S M N (pc + 3) lv st) : LW G Y d kc ks Q X z S M N pc lv (.int (nI b) :: .int (nI a) :: st) := qw_icmp_ge tgt hd ht (fun q => kt ((nI_leI hb ha).mp q)) (fun q => kf (Nat.not_le.mp (fun z => q ((nI_leI hb ha).mpr z))))
theorem qw_icmp_gtN {a b : Nat} {off : Int} (tgt : Nat) (hd : decode Y.2.1 pc = .ok (.if_icmp .gt off, 3)) (ht : (pc : Int) + off = (tgt : Int)) (ha : a < 2 ^ 31) (hb : b < 2 ^ 31) (kt : b < a → LW G Y d kc ks Q X z S M N tgt lv st) (kf : a ≤ b → LW G Y d kc ks Q X z S M N (pc + 3) lv st) : LW G Y d kc ks Q X z S M N pc lv (.int (nI b) :: .int (nI a) :: st) := qw_icmp_gt tgt hd ht (fun q => kt ((nI_ltI hb ha).mp q)) (fun q => kf (Nat.not_lt.mp (fun z => q ((nI_ltI hb ha).mpr z))))
theorem qw_icmp_leN {a b : Nat} {off : Int} (tgt : Nat) (hd : decode Y.2.1 pc = .ok (.if_icmp .le off, 3)) (ht : (pc : Int) + off = (tgt : Int)) (ha : a < 2 ^ 31) (hb : b < 2 ^ 31) (kt : a ≤ b → LW G Y d kc ks Q X z S M N tgt lv st) (kf : b < a → LW G Y d kc ks Q X z S M N (pc + 3) lv st) : LW G Y d kc ks Q X z S M N pc lv (.int (nI b) :: .int (nI a) :: st) := qw_icmp_le tgt hd ht (fun q => kt ((nI_leI ha hb).mp q)) (fun q => kf (Nat.not_le.mp (fun z => q ((nI_leI ha hb).mpr z))))
theorem lq_n0 {a : Nat} (ha : a < 2 ^ 31) : nI a = 0 ↔ a = 0 := nI_eq (b := 0) ha (by decide)
theorem qw_if_eqN {a : Nat} {off : Int} (tgt : Nat) (hd : decode Y.2.1 pc = .ok (.ifCond .eq off, 3)) (ht : (pc : Int) + off = (tgt : Int)) (ha : a < 2 ^ 31) (kt : a = 0 → LW G Y d kc ks Q X z S M N tgt lv st) (kf : a ≠ 0 → LW G Y d kc ks Q X z S M N (pc + 3) lv st) : LW G Y d kc ks Q X z S M N pc lv (.int (nI a) :: st) := qw_if_eq tgt hd ht (fun q => kt ((lq_n0 ha).mp q)) (fun q => kf (fun z => q ((lq_n0 ha).mpr z)))
theorem qw_if_neN {a : Nat} {off : Int} (tgt : Nat) (hd : decode Y.2.1 pc = .ok (.ifCond .ne off, 3)) (ht : (pc : Int) + off = (tgt : Int)) (ha : a < 2 ^ 31) (kt : a ≠ 0 → LW G Y d kc ks Q X z S M N tgt lv st) (kf : a = 0 → LW G Y d kc ks Q X z S M N (pc + 3) lv st) : LW G Y d kc ks Q X z S M N pc lv (.int (nI a) :: st) := qw_if_ne tgt hd ht (fun q => kt (fun z => q ((lq_n0 ha).mpr z))) (fun q => kf ((lq_n0 ha).mp q))
theorem qw_if_gtN {a : Nat} {off : Int} (tgt : Nat) (hd : decode Y.2.1 pc = .ok (.ifCond .gt off, 3)) (ht : (pc : Int) + off = (tgt : Int)) (ha : a < 2 ^ 31) (kt : 0 < a → LW G Y d kc ks Q X z S M N tgt lv st) (kf : a = 0 → LW G Y d kc ks Q X z S M N (pc + 3) lv st) : LW G Y d kc ks Q X z S M N pc lv (.int (nI a) :: st) := qw_if_gt tgt hd ht (fun q => kt ((nI_ltI (a := 0) (by decide) ha).mp q)) (fun q => kf (Nat.le_zero.mp (Nat.not_lt.mp (fun z => q ((nI_ltI (a := 0) (by decide) ha).mpr z)))))
theorem qw_if_leN {a : Nat} {off : Int} (tgt : Nat) (hd : decode Y.2.1 pc = .ok (.ifCond .le off, 3)) (ht : (pc : Int) + off = (tgt : Int)) (ha : a < 2 ^ 31) (kt : a = 0 → LW G Y d kc ks Q X z S M N tgt lv st) (kf : 0 < a → LW G Y d kc ks Q X z S M N (pc + 3) lv st) : LW G Y d kc ks Q X z S M N pc lv (.int (nI a) :: st) := qw_if_le tgt hd ht (fun q => kt (Nat.le_zero.mp (Nat.not_lt.mp (fun z => (Int32.not_le.mpr ((nI_ltI (a := 0) (by decide) ha).mpr z)) q)))) (fun q => kf ((nI_ltI (a := 0) (by decide) ha).mp (Int32.not_le.mp q)))
theorem qw_if_ltN {a : Nat} {off : Int} (tgt : Nat) (hd : decode Y.2.1 pc = .ok (.ifCond .lt off, 3)) (ht : (pc : Int) + off = (tgt : Int)) (ha : a < 2 ^ 31) (kf : LW G Y d kc ks Q X z S M N (pc + 3) lv st) : LW G Y d kc ks Q X z S M N pc lv (.int (nI a) :: st) := qw_if_lt tgt hd ht (fun q => absurd q (nI_pos ha)) (fun _ => kf)
theorem qw_if_geN {a : Nat} {off : Int} (tgt : Nat) (hd : decode Y.2.1 pc = .ok (.ifCond .ge off, 3)) (ht : (pc : Int) + off = (tgt : Int)) (ha : a < 2 ^ 31) (kt : LW G Y d kc ks Q X z S M N tgt lv st) : LW G Y d kc ks Q X z S M N pc lv (.int (nI a) :: st) := qw_if_ge tgt hd ht (fun _ => kt) (fun q => absurd (nI_pos' ha) q)
theorem lq_retQ {Q : lq_P} {s : State} {H : Heap} {locs : List Loc} {v : Option Value} {args : Array Value} (h : lq_H G H z S M N ∧ va_S (fun q => lq_b G ≤ q) s.heap H locs) (q : Q v z S M N) : ∀ t : State, t.heap = H → s.WarmedH t.vm → lq_Qc G Q args s (.returned v) t := fun t ht _ => ⟨by rw [ht]; exact h.2.1, v, z, S, M, N, rfl, q, by rw [ht]; exact h.1⟩
theorem qw_ireturn {x : Int32} {ty : FieldType} (hr : Y.2.2.2.1 = some ty) (hn : narrow ty (.int x) = .int x) (hd : decode Y.2.1 pc = .ok (.ireturn, 1)) (q : Q (some (.int x)) z S M N) : LW G Y d kc ks Q X z S M N pc lv [.int x] :=
  fun p e R s m args below meth c H locs cells slots ls C => W.widen (Nat.le_trans (Nat.le_add_right _ _) C.2.2.2.2.1.1) (Nat.le_trans (Nat.le_add_right _ _) C.2.2.2.2.1.2.1) (vx_ret (W.zret C.1.1 C.1.2.1 (C.2.1.1.trans hr) hn (lq_retQ C.2.2.2.1 q) (fun l hl => C.2.2.2.1.2.2.2 l hl) hd C.2.1.2.1))
theorem qw_lreturn {x : Int64} (hr : Y.2.2.2.1 = some .long) (hd : decode Y.2.1 pc = .ok (.lreturn, 1)) (q : Q (some (.long x)) z S M N) : LW G Y d kc ks Q X z S M N pc lv [.long x] :=
  fun p e R s m args below meth c H locs cells slots ls C => W.widen (Nat.le_trans (Nat.le_add_right _ _) C.2.2.2.2.1.1) (Nat.le_trans (Nat.le_add_right _ _) C.2.2.2.2.1.2.1) (vx_ret (W.lret C.1.1 C.1.2.1 (C.2.1.1.trans hr) (lq_retQ C.2.2.2.1 q) (fun l hl => C.2.2.2.1.2.2.2 l hl) hd C.2.1.2.1))
theorem qw_areturn {a : Nat} {nm : String} (hr : Y.2.2.2.1 = some (.object nm)) (hd : decode Y.2.1 pc = .ok (.areturn, 1)) (q : Q (some (.ref a)) z S M N) : LW G Y d kc ks Q X z S M N pc lv [.ref a] :=
  fun p e R s m args below meth c H locs cells slots ls C => W.widen (Nat.le_trans (Nat.le_add_right _ _) C.2.2.2.2.1.1) (Nat.le_trans (Nat.le_add_right _ _) C.2.2.2.2.1.2.1) (vx_ret (W.aret C.1.1 C.1.2.1 (C.2.1.1.trans hr) (Or.inl ⟨nm, rfl⟩) (Or.inr ⟨a, rfl⟩) (lq_retQ C.2.2.2.1 q) (fun l hl => C.2.2.2.1.2.2.2 l hl) hd C.2.1.2.1))
theorem qw_return (hr : Y.2.2.2.1 = none) (hd : decode Y.2.1 pc = .ok (.return_, 1)) (q : Q none z S M N) : LW G Y d kc ks Q X z S M N pc lv [] :=
  fun p e R s m args below meth c H locs cells slots ls C => W.widen (Nat.le_trans (Nat.le_add_right _ _) C.2.2.2.2.1.1) (Nat.le_trans (Nat.le_add_right _ _) C.2.2.2.2.1.2.1) (vx_ret (W.vret C.1.1 C.1.2.1 (C.2.1.1.trans hr) (lq_retQ C.2.2.2.1 q) (fun l hl => C.2.2.2.1.2.2.2 l hl) hd C.2.1.2.1))
/-! cells: read, written -/
def lq_up {α : Type} (M : Nat → Nat → α) (a k : Nat) (v : α) : Nat → Nat → α := fun b => if b = a then fun j => if j = k then v else M a j else M b
theorem lq_up_s {α : Type} (M : Nat → Nat → α) (a k : Nat) (v : α) : lq_up M a k v a k = v := by simp [lq_up]
theorem lq_up_c {α : Type} (M : Nat → Nat → α) {a k j : Nat} (v : α) (h : j ≠ k) : lq_up M a k v a j = M a j := by simp [lq_up, h]
theorem lq_up_n {α : Type} (M : Nat → Nat → α) {a b : Nat} (k : Nat) (v : α) (h : b ≠ a) : lq_up M a k v b = M b := by simp [lq_up, h]
theorem lq_up_a {α : Type} (M : Nat → Nat → α) (a k : Nat) (v : α) : lq_up M a k v a = fun j => if j = k then v else M a j := by simp [lq_up]
def lq_us (S : lq_S) (a : Nat) (c : lq_C) : lq_S := fun b => if b = a then some c else S b
theorem lq_us_s (S : lq_S) (a : Nat) (c : lq_C) : lq_us S a c a = some c := by simp [lq_us]
theorem lq_us_n (S : lq_S) {a b : Nat} (c : lq_C) (h : b ≠ a) : lq_us S a c b = S b := by simp [lq_us, h]
theorem lq_fs_len : ∀ (l : List (Option (Option Nat))) (k : Nat) (m : Nat → Nat), (lq_fs l k m).length = l.length
  | [], _, _ => rfl
  | none :: t, k, m => by simp [lq_fs, lq_fs_len t (k + 1) m]
  | some r :: t, k, m => by simp [lq_fs, lq_fs_len t (k + 1) m]
theorem lq_fs_int : ∀ (l : List (Option (Option Nat))) (i k : Nat) (m : Nat → Nat), l[k]? = some none → (lq_fs l i m)[k]? = some (.int (nI (m (i + k))))
  | [], _, _, _, h => by simp at h
  | x :: t, i, 0, m, h => by
    simp at h
    subst h
    simp [lq_fs]
  | none :: t, i, k + 1, m, h => by simpa [lq_fs, Nat.add_comm, Nat.add_left_comm] using lq_fs_int t (i + 1) k m (by simpa using h)
  | some r :: t, i, k + 1, m, h => by simpa [lq_fs, Nat.add_comm, Nat.add_left_comm] using lq_fs_int t (i + 1) k m (by simpa using h)
theorem lq_fs_ref : ∀ (l : List (Option (Option Nat))) (i k : Nat) (m : Nat → Nat) (r : Option Nat), l[k]? = some (some r) → (lq_fs l i m)[k]? = some (va_rf r)
  | [], _, _, _, _, h => by simp at h
  | x :: t, i, 0, m, r, h => by
    simp at h
    subst h
    simp [lq_fs]
  | none :: t, i, k + 1, m, r, h => by simpa [lq_fs] using lq_fs_ref t (i + 1) k m r (by simpa using h)
  | some r0 :: t, i, k + 1, m, r, h => by simpa [lq_fs] using lq_fs_ref t (i + 1) k m r (by simpa using h)
theorem lq_fs_put : ∀ (l : List (Option (Option Nat))) (i k : Nat) (m m' : Nat → Nat) (v : Nat), l[k]? = some none → (∀ j, j ≠ i + k → m' j = m j) → m' (i + k) = v → (lq_fs l i m).set k (.int (nI v)) = lq_fs l i m'
  | [], _, _, _, _, _, h, _, _ => by simp at h
  | x :: t, i, 0, m, m', v, h, h1, h2 => by
    simp at h
    subst h
    have e : ∀ (t : List (Option (Option Nat))) (q : Nat), i < q → lq_fs t q m = lq_fs t q m' := by
      intro t
      induction t with
      | nil => intro q _; rfl
      | cons y t ih =>
        intro q hq
        cases y with
        | none => simp only [lq_fs]; rw [ih (q + 1) (by omega), h1 q (by omega)]
        | some r => simp only [lq_fs]; rw [ih (q + 1) (by omega)]
    simp only [lq_fs, List.set_cons_zero, Nat.add_zero] at h2 ⊢
    rw [h2, e t (i + 1) (by omega)]
  | none :: t, i, k + 1, m, m', v, h, h1, h2 => by
    simp only [lq_fs, List.set_cons_succ]
    rw [lq_fs_put t (i + 1) k m m' v (by simpa using h) (fun j hj => h1 j (by omega)) (by rw [← h2]; congr 1; omega), h1 i (by omega)]
  | some r :: t, i, k + 1, m, m', v, h, h1, h2 => by
    simp only [lq_fs, List.set_cons_succ]
    rw [lq_fs_put t (i + 1) k m m' v (by simpa using h) (fun j hj => h1 j (by omega)) (by rw [← h2]; congr 1; omega)]
theorem lq_fs_putr : ∀ (l : List (Option (Option Nat))) (i k : Nat) (m : Nat → Nat) (r0 r : Option Nat), l[k]? = some (some r0) → (lq_fs l i m).set k (va_rf r) = lq_fs (l.set k (some r)) i m
  | [], _, _, _, _, _, h => by simp at h
  | x :: t, i, 0, m, r0, r, h => by
    simp at h
    subst h
    simp [lq_fs]
  | none :: t, i, k + 1, m, r0, r, h => by simp only [lq_fs, List.set_cons_succ]; rw [lq_fs_putr t (i + 1) k m r0 r (by simpa using h)]
  | some q :: t, i, k + 1, m, r0, r, h => by simp only [lq_fs, List.set_cons_succ]; rw [lq_fs_putr t (i + 1) k m r0 r (by simpa using h)]
theorem lq_H.upd {H H1 : Heap} {S' : lq_S} {M' : lq_M} {N' : lq_N} {a : Nat} (h : lq_H G H z S M N) (hz : H1.size = H.size) (ho : ∀ q, q ≠ a → H1[q]? = H[q]?) (ha : lq_b G ≤ a) (hS : ∀ b, b ≠ a → S' b = S b) (hM : ∀ b, b ≠ a → M' b = M b) (hN : ∀ b, b ≠ a → N' b = N b) (hc : ∀ c, S' a = some c → va_at (lq_D G) lq_cl (a, lq_e G c (M' a) (N' a)) H1) : lq_H G H1 z S' M' N' := by
  obtain ⟨h1, h2, h3, h4⟩ := h
  refine ⟨hz.trans h1, h2, fun q hq => (ho q (by omega)).trans (h3 q hq), fun b c hb => ?_⟩
  by_cases hba : b = a
  · subst hba
    exact ⟨ha, hc c hb⟩
  · rw [hS b hba] at hb
    obtain ⟨g1, g2⟩ := h4 b c hb
    rw [hM b hba, hN b hba]
    exact ⟨g1, g2.kept (ho b hba)⟩
def lq_F (own : String) (idx ci k : Nat) (ty : FieldType) (fin : Bool) : Prop := ∃ (C : String) (T : u_T) (n : Nat) (ty0 : Nat → FieldType), lq_cl[ci]? = some (C, T, n) ∧ k < n ∧ (∀ w ∈ u_ws C T n, w ∈ lq_W) ∧ Cond.fieldLink own idx (T k).1 (T k).2.1 (T k).2.2.1 ∈ lq_W ∧ (∀ k, k < n → parseFieldDescriptor (T k).2.2.1 = some (ty0 k)) ∧ (∀ a, a < n → ∀ b, b < n → a ≠ b → (T a).2.1 ≠ (T b).2.1) ∧ (T k).2.2.2 = fin ∧ ty0 k = ty ∧ (T k).1 = C
theorem lq_get {idx ci i : Nat} {ty : FieldType} {fin : Bool} {a : Nat} {fl : List (Option (Option Nat))} {v : Value} (hF : lq_F Y.1.cls idx ci i ty fin) (hS : S a = some (.inl (ci, fl))) (hd : decode Y.2.1 pc = .ok (.getfield idx, 3)) (hv : (lq_fs fl 0 (M a))[i]? = some v) (k : LW G Y d kc ks Q X z S M N (pc + 3) lv (v :: st)) : LW G Y d kc ks Q X z S M N pc lv (.ref a :: st) := by
  intro p e R s m args below meth c H locs cells slots ls C
  obtain ⟨Cn, T, n, ty0, f1, f2, f3, f4, f5, f6, f7, f8, f9⟩ := hF
  obtain ⟨-, h2⟩ := C.2.2.2.1.1.2.2.2 a _ hS
  refine va_get C.1.1 C.1.2.1 (ws := [(a, .inr (ci, lq_fs fl 0 (M a)))]) (Ts := lq_W) C.1.2.2.2.2 f3 C.1.2.2.2.1 C.2.2.1.1.1 (fun j q hq => ?_) 0 rfl f1 i f2 (C.1.2.2.2.2 _ f4) (fun x hx => hx) hv hd (k p e R s m args below meth c H locs cells slots ls C)
  cases j with
  | zero => cases hq; exact h2
  | succ j => simp at hq
theorem qw_geti {idx ci i : Nat} {ty : FieldType} {fin : Bool} {a : Nat} {fl : List (Option (Option Nat))} (hF : lq_F Y.1.cls idx ci i ty fin) (hd : decode Y.2.1 pc = .ok (.getfield idx, 3)) (hS : S a = some (.inl (ci, fl))) (hk : fl[i]? = some none) (k : LW G Y d kc ks Q X z S M N (pc + 3) lv (.int (nI (M a i)) :: st)) : LW G Y d kc ks Q X z S M N pc lv (.ref a :: st) := lq_get hF hS hd ((lq_fs_int fl 0 i (M a) hk).trans (by rw [Nat.zero_add])) k
theorem qw_getr {idx ci i r : Nat} {ty : FieldType} {fin : Bool} {a : Nat} {fl : List (Option (Option Nat))} (hF : lq_F Y.1.cls idx ci i ty fin) (hd : decode Y.2.1 pc = .ok (.getfield idx, 3)) (hS : S a = some (.inl (ci, fl))) (hk : fl[i]? = some (some (some r))) (k : LW G Y d kc ks Q X z S M N (pc + 3) lv (.ref r :: st)) : LW G Y d kc ks Q X z S M N pc lv (.ref a :: st) := lq_get hF hS hd (lq_fs_ref fl 0 i (M a) _ hk) k
theorem lq_put {idx ci i : Nat} {ty : FieldType} {a : Nat} {fl fl' : List (Option (Option Nat))} {v : Value} {S' : lq_S} {M' : lq_M} (hF : lq_F Y.1.cls idx ci i ty false) (hS : S a = some (.inl (ci, fl))) (hd : decode Y.2.1 pc = .ok (.putfield idx, 3)) (hn : narrow ty v = v) (hfit : fits ty v = true) (hi : i < fl.length)
    (hS1 : S' a = some (.inl (ci, fl'))) (hS2 : ∀ b, b ≠ a → S' b = S b) (hM2 : ∀ b, b ≠ a → M' b = M b) (hv : (lq_fs fl 0 (M a)).set i v = lq_fs fl' 0 (M' a)) (k : LW G Y d kc ks Q X z S' M' N (pc + 3) lv st) : LW G Y d kc ks Q X z S M N pc lv (v :: .ref a :: st) := by
  intro p e R s m args below meth c H locs cells slots ls C
  obtain ⟨Cn, T, n, ty0, f1, f2, f3, f4, f5, f6, f7, f8, f9⟩ := hF
  obtain ⟨ha, h2⟩ := C.2.2.2.1.1.2.2.2 a _ hS
  obtain ⟨r, h1, cell, q1, q2, q3, q4⟩ := h2
  have hr : r = (Cn, T, n) := Option.some.inj (h1.symm.trans f1)
  subst hr
  have hap := va_apart (own := Y.1.cls) C.1.2.2.2.2 f3 ty0 f5 f6 C.2.2.1.1.1 f1
  obtain ⟨hSl, hfc, kC, hkC, hkind⟩ := C.2.2.1.1.1.1 ci _ f1
  obtain ⟨cf, kf, fi, f, hi2, hsl⟩ := hSl i f2
  have hlay := C.1.2.2.2.2 _ (f3 _ (u_in_lay f2))
  unfold u_lay at hlay
  rw [if_neg (by rw [f7]; decide)] at hlay
  have hst := (u_facts hfc hkC (u_lays C.1.2.2.2.2 f3 f2) hi2).1
  have h6 := u_store hfc hkC hkind hlay hi2 (f8 ▸ f5 i f2) hn hfit
  refine W.putK C.1.1 C.1.2.1 (f := f) ⟨C.1.2.2.2.1, C.1.2.2.2.2 _ f4, ⟨_, _, _, hi2⟩, hst⟩ (by rw [q2]; exact h6) q1 q3 (by rw [hsl]; exact k2_hasslot (q4 i f2)) rfl rfl hd fun H1 e1 e2 e3 => ?_
  rw [hsl] at e1
  refine k p e R s m args below meth c H1 _ cells slots ls ⟨C.1, C.2.1, C.2.2.1, ⟨C.2.2.2.1.1.upd e2 e3 ha hS2 hM2 (fun _ _ => rfl) (fun c9 h9 => ?_), C.2.2.2.1.2.put e2 e3 ha⟩, C.2.2.2.2.1, C.2.2.2.2.2⟩
  rw [hS1] at h9
  cases h9
  show va_at (lq_D G) lq_cl (a, .inr (ci, lq_fs fl' 0 (M' a))) H1
  refine ⟨_, f1, t_OB.to (V := updV (vp_V (lq_fs fl 0 (M a))) i v) ⟨_, e1, q2, q3, t_set q4 hap f2 v⟩ (fun j _ => ?_)⟩
  rw [vp_updV_set (by rw [lq_fs_len]; exact hi) v j, hv]
theorem qw_puti {idx ci i v : Nat} {a : Nat} {fl : List (Option (Option Nat))} (hF : lq_F Y.1.cls idx ci i .int false) (hd : decode Y.2.1 pc = .ok (.putfield idx, 3)) (hS : S a = some (.inl (ci, fl))) (hk : fl[i]? = some none) (k : LW G Y d kc ks Q X z S (lq_up M a i v) N (pc + 3) lv st) : LW G Y d kc ks Q X z S M N pc lv (.int (nI v) :: .ref a :: st) :=
  lq_put hF hS hd (vp_nar_int _) rfl (List.getElem?_eq_some_iff.mp hk).1 hS (fun _ _ => rfl) (fun b hb => lq_up_n M i v hb) (lq_fs_put fl 0 i (M a) _ v hk (fun j hj => lq_up_c M v (by omega)) (by rw [Nat.zero_add]; exact lq_up_s M a i v)) k
theorem qw_putz {idx ci i v : Nat} {a : Nat} {fl : List (Option (Option Nat))} (hF : lq_F Y.1.cls idx ci i .boolean false) (hd : decode Y.2.1 pc = .ok (.putfield idx, 3)) (hS : S a = some (.inl (ci, fl))) (hk : fl[i]? = some none) (hv : v = 0 ∨ v = 1) (k : LW G Y d kc ks Q X z S (lq_up M a i v) N (pc + 3) lv st) : LW G Y d kc ks Q X z S M N pc lv (.int (nI v) :: .ref a :: st) :=
  lq_put hF hS hd (by rcases hv with rfl | rfl <;> decide) (by rcases hv with rfl | rfl <;> decide) (List.getElem?_eq_some_iff.mp hk).1 hS (fun _ _ => rfl) (fun b hb => lq_up_n M i v hb) (lq_fs_put fl 0 i (M a) _ v hk (fun j hj => lq_up_c M v (by omega)) (by rw [Nat.zero_add]; exact lq_up_s M a i v)) k
theorem qw_putr {idx ci i r : Nat} {r0 : Option Nat} {ty : FieldType} {a : Nat} {fl : List (Option (Option Nat))} (hF : lq_F Y.1.cls idx ci i ty false) (hd : decode Y.2.1 pc = .ok (.putfield idx, 3)) (hn : narrow ty (.ref r) = .ref r) (hfit : fits ty (.ref r) = true) (hS : S a = some (.inl (ci, fl))) (hk : fl[i]? = some (some r0)) (k : LW G Y d kc ks Q X z (lq_us S a (.inl (ci, fl.set i (some (some r))))) M N (pc + 3) lv st) : LW G Y d kc ks Q X z S M N pc lv (.ref r :: .ref a :: st) :=
  lq_put hF hS hd hn hfit (List.getElem?_eq_some_iff.mp hk).1 (lq_us_s S a _) (fun b hb => lq_us_n S _ hb) (fun _ _ => rfl) (lq_fs_putr fl 0 i (M a) r0 (some r) hk) k
end LQ
end
section
section LQ2
variable {G : lq_G} {Y : lq_Y} {d kc ks z : Nat} {S : lq_S} {M : lq_M} {N : lq_N} {Q : lq_P} {X : lq_E} {pc : Nat} {lv : List (Option Value)} {st : List Value}
theorem lq_ty_at {G : lq_G} {s : State} (h : lq_K G s) {t : Nat} {q : ClassId × FieldType} (ht : (lq_ty G)[t]? = some q) : ArrOfT s q.1 q.2 := (h.1.2 t q ht).1
theorem qw_iald {a n j : Nat} (hd : decode Y.2.1 pc = .ok (.iaload, 1)) (hS : S a = some (.inr (.inl (0, n)))) (hj : j < n) (hn : n < 2 ^ 31) (k : LW G Y d kc ks Q X z S M N (pc + 1) lv (.int (nI (M a j)) :: st)) : LW G Y d kc ks Q X z S M N pc lv (.int (nI j) :: .ref a :: st) := by
  intro p e R s m args below meth c H locs cells slots ls C
  obtain ⟨-, h2⟩ := C.2.2.2.1.1.2.2.2 a _ hS
  have k' := k p e R s m args below meth c H locs cells slots ls C
  refine W.iald (v := .int (nI (M a j))) C.1.1 C.1.2.1 h2 (lq_ty_at C.2.2.1.1 (t := 0) rfl n (fun j => .int (nI (M a j)))) (fun q => by cases q) ?_ ?_ rfl rfl hd k'
  · show ¬ (nI j < 0 ∨ (arrV _ _ _).slots.size ≤ _)
    rw [arrV_size]
    exact vp_in_nI hj hn
  · show (arrV _ _ _).slots[_]? = _
    rw [arrV_read _ _ (by rw [nI_clamp (by omega)]; exact hj), nI_clamp (by omega)]
theorem qw_bald {a n j : Nat} (hd : decode Y.2.1 pc = .ok (.baload, 1)) (hS : S a = some (.inr (.inl (1, n)))) (hj : j < n) (hn : n < 2 ^ 31) (k : LW G Y d kc ks Q X z S M N (pc + 1) lv (.int (sb_b (M a j)) :: st)) : LW G Y d kc ks Q X z S M N pc lv (.int (nI j) :: .ref a :: st) := by
  intro p e R s m args below meth c H locs cells slots ls C
  obtain ⟨-, h2⟩ := C.2.2.2.1.1.2.2.2 a _ hS
  have k' := k p e R s m args below meth c H locs cells slots ls C
  refine W.bald (v := .int (sb_b (M a j))) C.1.1 C.1.2.1 h2 (lq_ty_at C.2.2.1.1 (t := 1) rfl n (fun j => .int (sb_b (M a j)))) (fun q => by cases q) ?_ ?_ rfl rfl hd k'
  · show ¬ (nI j < 0 ∨ (arrV _ _ _).slots.size ≤ _)
    rw [arrV_size]
    exact vp_in_nI hj hn
  · show (arrV _ _ _).slots[_]? = _
    rw [arrV_read _ _ (by rw [nI_clamp (by omega)]; exact hj), nI_clamp (by omega)]
theorem qw_lald {a n j : Nat} (hd : decode Y.2.1 pc = .ok (.laload, 1)) (hS : S a = some (.inr (.inl (2, n)))) (hj : j < n) (hn : n < 2 ^ 31) (k : LW G Y d kc ks Q X z S M N (pc + 1) lv (.long (N a j) :: st)) : LW G Y d kc ks Q X z S M N pc lv (.int (nI j) :: .ref a :: st) := by
  intro p e R s m args below meth c H locs cells slots ls C
  obtain ⟨-, h2⟩ := C.2.2.2.1.1.2.2.2 a _ hS
  have k' := k p e R s m args below meth c H locs cells slots ls C
  refine W.lald (v := .long (N a j)) C.1.1 C.1.2.1 h2 (lq_ty_at C.2.2.1.1 (t := 2) rfl n (fun j => .long (N a j))) (fun q => by cases q) ?_ ?_ rfl rfl hd k'
  · show ¬ (nI j < 0 ∨ (arrV _ _ _).slots.size ≤ _)
    rw [arrV_size]
    exact vp_in_nI hj hn
  · show (arrV _ _ _).slots[_]? = _
    rw [arrV_read _ _ (by rw [nI_clamp (by omega)]; exact hj), nI_clamp (by omega)]
theorem qw_aald {a n j r t : Nat} {f : Nat → Option Nat} {ty : FieldType} (hd : decode Y.2.1 pc = .ok (.aaload, 1)) (hS : S a = some (.inr (.inr (t, n, f)))) (ht : (lq_ty G)[t]? = some (lq_c G t, ty)) (hty : ty.isReference = true) (hj : j < n) (hn : n < 2 ^ 31) (hf : f j = some r) (k : LW G Y d kc ks Q X z S M N (pc + 1) lv (.ref r :: st)) : LW G Y d kc ks Q X z S M N pc lv (.int (nI j) :: .ref a :: st) := by
  intro p e R s m args below meth c H locs cells slots ls C
  obtain ⟨-, h2⟩ := C.2.2.2.1.1.2.2.2 a _ hS
  have k' := k p e R s m args below meth c H locs cells slots ls C
  have hR : va_rf (f j) = .ref r := by rw [hf]; rfl
  refine W.aald (v := .ref r) (ty := ty) C.1.1 C.1.2.1 h2 (lq_ty_at C.2.2.1.1 ht n (fun j => va_rf (f j))) hty (fun q => by cases q) ?_ ?_ rfl rfl hd k'
  · show ¬ (nI j < 0 ∨ (arrV _ _ _).slots.size ≤ _)
    rw [arrV_size]
    exact vp_in_nI hj hn
  · show (arrV _ _ _).slots[_]? = _
    rw [arrV_read _ _ (by rw [nI_clamp (by omega)]; exact hj), nI_clamp (by omega)]
    exact congrArg some hR
theorem qw_alen {a n t : Nat} {ty : FieldType} {m : Nat} (hd : decode Y.2.1 pc = .ok (.arraylength, 1)) (hS : S a = some (.inr (.inl (t, n)))) (ht : (t = 0 ∧ m = 0 ∧ ty = .int) ∨ (t = 1 ∧ m = 1 ∧ ty = .byte) ∨ (t = 2 ∧ m = 2 ∧ ty = .long)) (k : LW G Y d kc ks Q X z S M N (pc + 1) lv (.int (nI n) :: st)) : LW G Y d kc ks Q X z S M N pc lv (.ref a :: st) := by
  intro p e R s m9 args below meth c H locs cells slots ls C
  obtain ⟨-, h2⟩ := C.2.2.2.1.1.2.2.2 a _ hS
  have k' := k p e R s m9 args below meth c H locs cells slots ls C
  rcases ht with ⟨rfl, rfl, rfl⟩ | ⟨rfl, rfl, rfl⟩ | ⟨rfl, rfl, rfl⟩
  · exact W.alen C.1.1 C.1.2.1 h2 (lq_ty_at C.2.2.1.1 (t := 0) rfl n (fun j => .int (nI (M a j)))) (by show (arrV _ _ _).slots.size.toInt32 = _; rw [arrV_size]; rfl) rfl rfl hd k'
  · exact W.alen C.1.1 C.1.2.1 h2 (lq_ty_at C.2.2.1.1 (t := 1) rfl n (fun j => .int (sb_b (M a j)))) (by show (arrV _ _ _).slots.size.toInt32 = _; rw [arrV_size]; rfl) rfl rfl hd k'
  · exact W.alen C.1.1 C.1.2.1 h2 (lq_ty_at C.2.2.1.1 (t := 2) rfl n (fun j => .long (N a j))) (by show (arrV _ _ _).slots.size.toInt32 = _; rw [arrV_size]; rfl) rfl rfl hd k'
theorem qw_aleni {a n : Nat} (hd : decode Y.2.1 pc = .ok (.arraylength, 1)) (hS : S a = some (.inr (.inl (0, n)))) (k : LW G Y d kc ks Q X z S M N (pc + 1) lv (.int (nI n) :: st)) : LW G Y d kc ks Q X z S M N pc lv (.ref a :: st) := qw_alen hd hS (Or.inl ⟨rfl, rfl, rfl⟩) k
theorem qw_alenb {a n : Nat} (hd : decode Y.2.1 pc = .ok (.arraylength, 1)) (hS : S a = some (.inr (.inl (1, n)))) (k : LW G Y d kc ks Q X z S M N (pc + 1) lv (.int (nI n) :: st)) : LW G Y d kc ks Q X z S M N pc lv (.ref a :: st) := qw_alen hd hS (Or.inr (Or.inl ⟨rfl, rfl, rfl⟩)) k
theorem qw_alenr {a n t : Nat} {f : Nat → Option Nat} {ty : FieldType} (hd : decode Y.2.1 pc = .ok (.arraylength, 1)) (hS : S a = some (.inr (.inr (t, n, f)))) (ht : (lq_ty G)[t]? = some (lq_c G t, ty)) (k : LW G Y d kc ks Q X z S M N (pc + 1) lv (.int (nI n) :: st)) : LW G Y d kc ks Q X z S M N pc lv (.ref a :: st) := by
  intro p e R s m9 args below meth c H locs cells slots ls C
  obtain ⟨-, h2⟩ := C.2.2.2.1.1.2.2.2 a _ hS
  have k' := k p e R s m9 args below meth c H locs cells slots ls C
  exact W.alen C.1.1 C.1.2.1 h2 (lq_ty_at C.2.2.1.1 ht n (fun j => va_rf (f j))) (by show (arrV _ _ _).slots.size.toInt32 = _; rw [arrV_size]; rfl) rfl rfl hd k'
theorem qw_iast {a n j v : Nat} (hd : decode Y.2.1 pc = .ok (.iastore, 1)) (hS : S a = some (.inr (.inl (0, n)))) (hj : j < n) (hn : n < 2 ^ 31) (k : LW G Y d kc ks Q X z S (lq_up M a j v) N (pc + 1) lv st) : LW G Y d kc ks Q X z S M N pc lv (.int (nI v) :: .int (nI j) :: .ref a :: st) := by
  intro p e R s m args below meth c H locs cells slots ls C
  obtain ⟨ha, h2⟩ := C.2.2.2.1.1.2.2.2 a _ hS
  refine W.iast C.1.1 C.1.2.1 h2 (lq_ty_at C.2.2.1.1 (t := 0) rfl n (fun j => .int (nI (M a j)))) (fun q => by cases q) ?_ rfl rfl hd fun H1 e1 e2 e3 => ?_
  · show ¬ (nI j < 0 ∨ (arrV _ _ _).slots.size ≤ _)
    rw [arrV_size]
    exact vp_in_nI hj hn
  · refine k p e R s m args below meth c H1 _ cells slots ls ⟨C.1, C.2.1, C.2.2.1, ⟨C.2.2.2.1.1.upd e2 e3 ha (fun _ _ => rfl) (fun b hb => lq_up_n M j v hb) (fun _ _ => rfl) (fun c9 h9 => ?_), C.2.2.2.1.2.put e2 e3 ha⟩, C.2.2.2.2.1, C.2.2.2.2.2⟩
    cases hS.symm.trans h9
    show H1[a]? = some (arrV (lq_c G 0) n (fun q => .int (nI (lq_up M a j v a q))))
    rw [e1, nI_clamp (by omega)]
    refine congrArg some (Eq.trans (arrV_store (lq_c G 0) n j (fun q => .int (nI (M a q))) (.int (nI v))) (congrArg (arrV (lq_c G 0) n) (funext fun q => ?_)))
    rw [lq_up_a]
    by_cases hq : q = j
    · simp [updV, hq]
    · simp [updV, hq]
theorem qw_bast {a n j v : Nat} (hd : decode Y.2.1 pc = .ok (.bastore, 1)) (hS : S a = some (.inr (.inl (1, n)))) (hj : j < n) (hn : n < 2 ^ 31) (k : LW G Y d kc ks Q X z S (lq_up M a j v) N (pc + 1) lv st) : LW G Y d kc ks Q X z S M N pc lv (.int (sb_b v) :: .int (nI j) :: .ref a :: st) := by
  intro p e R s m args below meth c H locs cells slots ls C
  obtain ⟨ha, h2⟩ := C.2.2.2.1.1.2.2.2 a _ hS
  refine W.bast C.1.1 C.1.2.1 h2 (lq_ty_at C.2.2.1.1 (t := 1) rfl n (fun j => .int (sb_b (M a j)))) (fun q => by cases q) ?_ rfl rfl hd fun H1 e1 e2 e3 => ?_
  · show ¬ (nI j < 0 ∨ (arrV _ _ _).slots.size ≤ _)
    rw [arrV_size]
    exact vp_in_nI hj hn
  · refine k p e R s m args below meth c H1 _ cells slots ls ⟨C.1, C.2.1, C.2.2.1, ⟨C.2.2.2.1.1.upd e2 e3 ha (fun _ _ => rfl) (fun b hb => lq_up_n M j v hb) (fun _ _ => rfl) (fun c9 h9 => ?_), C.2.2.2.1.2.put e2 e3 ha⟩, C.2.2.2.2.1, C.2.2.2.2.2⟩
    cases hS.symm.trans h9
    show H1[a]? = some (arrV (lq_c G 1) n (fun q => .int (sb_b (lq_up M a j v a q))))
    rw [e1, nI_clamp (by omega), show narrow .byte (.int (sb_b v)) = .int (sb_b v) from pk_nb _]
    refine congrArg some (Eq.trans (arrV_store (lq_c G 1) n j (fun q => .int (sb_b (M a q))) (.int (sb_b v))) (congrArg (arrV (lq_c G 1) n) (funext fun q => ?_)))
    rw [lq_up_a]
    by_cases hq : q = j
    · simp [updV, hq]
    · simp [updV, hq]
theorem qw_last {a n j : Nat} {v : Int64} (hd : decode Y.2.1 pc = .ok (.lastore, 1)) (hS : S a = some (.inr (.inl (2, n)))) (hj : j < n) (hn : n < 2 ^ 31) (k : LW G Y d kc ks Q X z S M (lq_up N a j v) (pc + 1) lv st) : LW G Y d kc ks Q X z S M N pc lv (.long v :: .int (nI j) :: .ref a :: st) := by
  intro p e R s m args below meth c H locs cells slots ls C
  obtain ⟨ha, h2⟩ := C.2.2.2.1.1.2.2.2 a _ hS
  refine W.last C.1.1 C.1.2.1 h2 (lq_ty_at C.2.2.1.1 (t := 2) rfl n (fun j => .long (N a j))) (fun q => by cases q) ?_ rfl rfl hd fun H1 e1 e2 e3 => ?_
  · show ¬ (nI j < 0 ∨ (arrV _ _ _).slots.size ≤ _)
    rw [arrV_size]
    exact vp_in_nI hj hn
  · refine k p e R s m args below meth c H1 _ cells slots ls ⟨C.1, C.2.1, C.2.2.1, ⟨C.2.2.2.1.1.upd e2 e3 ha (fun _ _ => rfl) (fun _ _ => rfl) (fun b hb => lq_up_n N j v hb) (fun c9 h9 => ?_), C.2.2.2.1.2.put e2 e3 ha⟩, C.2.2.2.2.1, C.2.2.2.2.2⟩
    cases hS.symm.trans h9
    show H1[a]? = some (arrV (lq_c G 2) n (fun q => .long (lq_up N a j v a q)))
    rw [e1, nI_clamp (by omega)]
    refine congrArg some (Eq.trans (arrV_store (lq_c G 2) n j (fun q => .long (N a q)) (.long v)) (congrArg (arrV (lq_c G 2) n) (funext fun q => ?_)))
    rw [lq_up_a]
    by_cases hq : q = j
    · simp [updV, hq]
    · simp [updV, hq]
end LQ2
end
section
theorem i_vc : Claimed_1_1 ∧ Claimed_1_2 := sorry
end
