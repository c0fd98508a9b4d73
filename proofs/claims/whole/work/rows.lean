section
-- ===== PART A: goes FIRST, ahead of the names: the tables' words, and 'selects' of the private methods out of them =====
/-- a private method of a class that the tables say can be made, by its rows of tables_1 -/
def lw_okq (q : MethodName × Nat) : Prop := (q.1.cls ≠ "java/lang/invoke/MethodHandle" ∧ q.1.cls ≠ "java/lang/invoke/VarHandle") ∧ Cond.instantiable q.1.cls q.2 ∈ tables_1 ∧ Cond.privateMethod q.1 ∈ tables_1 ∧ Cond.instanceMethod q.1 ∈ tables_1
theorem lw_p0 : lw_okq (⟨"PlaceRules$Text", "readLine", "(LPlaceRules$Rule;)Z"⟩, 7) := ⟨⟨by decide +kernel, by decide +kernel⟩, List.mem_of_getElem? (i := 127) (by decide +kernel), List.mem_of_getElem? (i := 410) (by decide +kernel), List.mem_of_getElem? (i := 411) (by decide +kernel)⟩
theorem lw_p1 : lw_okq (⟨"PlaceRules$Text", "readNumber", "(II)Z"⟩, 7) := ⟨⟨by decide +kernel, by decide +kernel⟩, List.mem_of_getElem? (i := 127) (by decide +kernel), List.mem_of_getElem? (i := 414) (by decide +kernel), List.mem_of_getElem? (i := 415) (by decide +kernel)⟩
theorem lw_p2 : lw_okq (⟨"PlaceRules$Text", "nextSign", "()I"⟩, 7) := ⟨⟨by decide +kernel, by decide +kernel⟩, List.mem_of_getElem? (i := 127) (by decide +kernel), List.mem_of_getElem? (i := 418) (by decide +kernel), List.mem_of_getElem? (i := 419) (by decide +kernel)⟩
theorem lw_p3 : lw_okq (⟨"PlaceRules$Text", "fail", "(I)Z"⟩, 7) := ⟨⟨by decide +kernel, by decide +kernel⟩, List.mem_of_getElem? (i := 127) (by decide +kernel), List.mem_of_getElem? (i := 425) (by decide +kernel), List.mem_of_getElem? (i := 426) (by decide +kernel)⟩
theorem lw_p4 : lw_okq (⟨"PlaceRules$Text", "readBlank", "()Z"⟩, 7) := ⟨⟨by decide +kernel, by decide +kernel⟩, List.mem_of_getElem? (i := 127) (by decide +kernel), List.mem_of_getElem? (i := 429) (by decide +kernel), List.mem_of_getElem? (i := 430) (by decide +kernel)⟩
theorem lw_p5 : lw_okq (⟨"PlaceRules$Text", "readSign", "(I)Z"⟩, 7) := ⟨⟨by decide +kernel, by decide +kernel⟩, List.mem_of_getElem? (i := 127) (by decide +kernel), List.mem_of_getElem? (i := 433) (by decide +kernel), List.mem_of_getElem? (i := 434) (by decide +kernel)⟩
theorem lw_p6 : lw_okq (⟨"PlaceRules$Text", "readKind", "()Z"⟩, 7) := ⟨⟨by decide +kernel, by decide +kernel⟩, List.mem_of_getElem? (i := 127) (by decide +kernel), List.mem_of_getElem? (i := 437) (by decide +kernel), List.mem_of_getElem? (i := 438) (by decide +kernel)⟩
theorem lw_p7 : lw_okq (⟨"PlaceRules$Text", "sharedSigns", "(Ljava/lang/String;)I"⟩, 7) := ⟨⟨by decide +kernel, by decide +kernel⟩, List.mem_of_getElem? (i := 127) (by decide +kernel), List.mem_of_getElem? (i := 443) (by decide +kernel), List.mem_of_getElem? (i := 444) (by decide +kernel)⟩
theorem lw_p8 : lw_okq (⟨"PlaceRules$RuleBook", "noteClashes", "(I)V"⟩, 6) := ⟨⟨by decide +kernel, by decide +kernel⟩, List.mem_of_getElem? (i := 43) (by decide +kernel), List.mem_of_getElem? (i := 512) (by decide +kernel), List.mem_of_getElem? (i := 513) (by decide +kernel)⟩
theorem lw_p9 : lw_okq (⟨"PlaceRules$RuleBook", "insertInOrder", "(I)V"⟩, 6) := ⟨⟨by decide +kernel, by decide +kernel⟩, List.mem_of_getElem? (i := 43) (by decide +kernel), List.mem_of_getElem? (i := 516) (by decide +kernel), List.mem_of_getElem? (i := 517) (by decide +kernel)⟩
theorem lw_p10 : lw_okq (⟨"java/lang/Throwable", "fillInStackTrace", "(I)Ljava/lang/Throwable;"⟩, 6) := ⟨⟨by decide +kernel, by decide +kernel⟩, List.mem_of_getElem? (i := 581) (by decide +kernel), List.mem_of_getElem? (i := 579) (by decide +kernel), List.mem_of_getElem? (i := 580) (by decide +kernel)⟩
theorem lw_p11 : lw_okq (⟨"PlaceRules", "needUnit", "(I)V"⟩, 11) := ⟨⟨by decide +kernel, by decide +kernel⟩, List.mem_of_getElem? (i := 29) (by decide +kernel), List.mem_of_getElem? (i := 655) (by decide +kernel), List.mem_of_getElem? (i := 656) (by decide +kernel)⟩
theorem lw_p12 : lw_okq (⟨"PlaceRules", "needNowhere", "(I)V"⟩, 11) := ⟨⟨by decide +kernel, by decide +kernel⟩, List.mem_of_getElem? (i := 29) (by decide +kernel), List.mem_of_getElem? (i := 676) (by decide +kernel), List.mem_of_getElem? (i := 677) (by decide +kernel)⟩
theorem lw_p13 : lw_okq (⟨"PlaceRules", "findWaiver", "(III)I"⟩, 11) := ⟨⟨by decide +kernel, by decide +kernel⟩, List.mem_of_getElem? (i := 29) (by decide +kernel), List.mem_of_getElem? (i := 729) (by decide +kernel), List.mem_of_getElem? (i := 730) (by decide +kernel)⟩
theorem lw_p14 : lw_okq (⟨"PlaceRules", "needQuestion", "(III)V"⟩, 11) := ⟨⟨by decide +kernel, by decide +kernel⟩, List.mem_of_getElem? (i := 29) (by decide +kernel), List.mem_of_getElem? (i := 744) (by decide +kernel), List.mem_of_getElem? (i := 745) (by decide +kernel)⟩
theorem lw_p15 : lw_okq (⟨"PlaceRules", "ask", "(III)I"⟩, 11) := ⟨⟨by decide +kernel, by decide +kernel⟩, List.mem_of_getElem? (i := 29) (by decide +kernel), List.mem_of_getElem? (i := 748) (by decide +kernel), List.mem_of_getElem? (i := 749) (by decide +kernel)⟩
def lw_privs_1 : List (MethodName × Nat) := [(⟨"PlaceRules$Text", "readLine", "(LPlaceRules$Rule;)Z"⟩, 7), (⟨"PlaceRules$Text", "readNumber", "(II)Z"⟩, 7), (⟨"PlaceRules$Text", "nextSign", "()I"⟩, 7), (⟨"PlaceRules$Text", "fail", "(I)Z"⟩, 7), (⟨"PlaceRules$Text", "readBlank", "()Z"⟩, 7), (⟨"PlaceRules$Text", "readSign", "(I)Z"⟩, 7), (⟨"PlaceRules$Text", "readKind", "()Z"⟩, 7), (⟨"PlaceRules$Text", "sharedSigns", "(Ljava/lang/String;)I"⟩, 7), (⟨"PlaceRules$RuleBook", "noteClashes", "(I)V"⟩, 6), (⟨"PlaceRules$RuleBook", "insertInOrder", "(I)V"⟩, 6), (⟨"java/lang/Throwable", "fillInStackTrace", "(I)Ljava/lang/Throwable;"⟩, 6), (⟨"PlaceRules", "needUnit", "(I)V"⟩, 11), (⟨"PlaceRules", "needNowhere", "(I)V"⟩, 11), (⟨"PlaceRules", "findWaiver", "(III)I"⟩, 11), (⟨"PlaceRules", "needQuestion", "(III)V"⟩, 11), (⟨"PlaceRules", "ask", "(III)I"⟩, 11)]
theorem lw_r1 : ∀ q ∈ lw_privs_1, lw_okq q := List.forall_mem_cons.mpr ⟨lw_p0, List.forall_mem_cons.mpr ⟨lw_p1, List.forall_mem_cons.mpr ⟨lw_p2, List.forall_mem_cons.mpr ⟨lw_p3, List.forall_mem_cons.mpr ⟨lw_p4, List.forall_mem_cons.mpr ⟨lw_p5, List.forall_mem_cons.mpr ⟨lw_p6, List.forall_mem_cons.mpr ⟨lw_p7, List.forall_mem_cons.mpr ⟨lw_p8, List.forall_mem_cons.mpr ⟨lw_p9, List.forall_mem_cons.mpr ⟨lw_p10, List.forall_mem_cons.mpr ⟨lw_p11, List.forall_mem_cons.mpr ⟨lw_p12, List.forall_mem_cons.mpr ⟨lw_p13, List.forall_mem_cons.mpr ⟨lw_p14, List.forall_mem_cons.mpr ⟨lw_p15, fun _ h => absurd h List.not_mem_nil⟩⟩⟩⟩⟩⟩⟩⟩⟩⟩⟩⟩⟩⟩⟩⟩
theorem lw_p16 : lw_okq (⟨"PlaceRules", "gather", "(III)V"⟩, 11) := ⟨⟨by decide +kernel, by decide +kernel⟩, List.mem_of_getElem? (i := 29) (by decide +kernel), List.mem_of_getElem? (i := 752) (by decide +kernel), List.mem_of_getElem? (i := 753) (by decide +kernel)⟩
theorem lw_p17 : lw_okq (⟨"PlaceRules$Place", "holds", "(III)Z"⟩, 5) := ⟨⟨by decide +kernel, by decide +kernel⟩, List.mem_of_getElem? (i := 250) (by decide +kernel), List.mem_of_getElem? (i := 764) (by decide +kernel), List.mem_of_getElem? (i := 765) (by decide +kernel)⟩
theorem lw_p18 : lw_okq (⟨"PlaceRules", "isWaived", "(IIII)Z"⟩, 11) := ⟨⟨by decide +kernel, by decide +kernel⟩, List.mem_of_getElem? (i := 29) (by decide +kernel), List.mem_of_getElem? (i := 795) (by decide +kernel), List.mem_of_getElem? (i := 796) (by decide +kernel)⟩
theorem lw_p19 : lw_okq (⟨"PlaceRulesModel", "fails", "(ZZZ)Z"⟩, 28) := ⟨⟨by decide +kernel, by decide +kernel⟩, List.mem_of_getElem? (i := 897) (by decide +kernel), List.mem_of_getElem? (i := 1007) (by decide +kernel), List.mem_of_getElem? (i := 1008) (by decide +kernel)⟩
theorem lw_p20 : lw_okq (⟨"PlaceRulesModel", "lay", "(IIIII)V"⟩, 28) := ⟨⟨by decide +kernel, by decide +kernel⟩, List.mem_of_getElem? (i := 897) (by decide +kernel), List.mem_of_getElem? (i := 1020) (by decide +kernel), List.mem_of_getElem? (i := 1021) (by decide +kernel)⟩
theorem lw_p21 : lw_okq (⟨"PlaceRulesModel", "isUnit", "(I)Z"⟩, 28) := ⟨⟨by decide +kernel, by decide +kernel⟩, List.mem_of_getElem? (i := 897) (by decide +kernel), List.mem_of_getElem? (i := 1029) (by decide +kernel), List.mem_of_getElem? (i := 1030) (by decide +kernel)⟩
theorem lw_p22 : lw_okq (⟨"PlaceRulesModel", "comes", "(IIII)V"⟩, 28) := ⟨⟨by decide +kernel, by decide +kernel⟩, List.mem_of_getElem? (i := 897) (by decide +kernel), List.mem_of_getElem? (i := 1047) (by decide +kernel), List.mem_of_getElem? (i := 1048) (by decide +kernel)⟩
theorem lw_p23 : lw_okq (⟨"PlaceRulesModel", "fault", "(I)V"⟩, 28) := ⟨⟨by decide +kernel, by decide +kernel⟩, List.mem_of_getElem? (i := 897) (by decide +kernel), List.mem_of_getElem? (i := 1059) (by decide +kernel), List.mem_of_getElem? (i := 1060) (by decide +kernel)⟩
theorem lw_p24 : lw_okq (⟨"PlaceRulesModel", "line", "(Z)V"⟩, 28) := ⟨⟨by decide +kernel, by decide +kernel⟩, List.mem_of_getElem? (i := 897) (by decide +kernel), List.mem_of_getElem? (i := 1063) (by decide +kernel), List.mem_of_getElem? (i := 1064) (by decide +kernel)⟩
theorem lw_p25 : lw_okq (⟨"PlaceRulesModel", "digits", "()I"⟩, 28) := ⟨⟨by decide +kernel, by decide +kernel⟩, List.mem_of_getElem? (i := 897) (by decide +kernel), List.mem_of_getElem? (i := 1067) (by decide +kernel), List.mem_of_getElem? (i := 1068) (by decide +kernel)⟩
theorem lw_p26 : lw_okq (⟨"PlaceRulesModel", "isDigit", "()Z"⟩, 28) := ⟨⟨by decide +kernel, by decide +kernel⟩, List.mem_of_getElem? (i := 897) (by decide +kernel), List.mem_of_getElem? (i := 1071) (by decide +kernel), List.mem_of_getElem? (i := 1072) (by decide +kernel)⟩
theorem lw_p27 : lw_okq (⟨"PlaceRulesModel", "now", "()I"⟩, 28) := ⟨⟨by decide +kernel, by decide +kernel⟩, List.mem_of_getElem? (i := 897) (by decide +kernel), List.mem_of_getElem? (i := 1075) (by decide +kernel), List.mem_of_getElem? (i := 1076) (by decide +kernel)⟩
theorem lw_p28 : lw_okq (⟨"PlaceRulesModel", "pass", "(I)V"⟩, 28) := ⟨⟨by decide +kernel, by decide +kernel⟩, List.mem_of_getElem? (i := 897) (by decide +kernel), List.mem_of_getElem? (i := 1079) (by decide +kernel), List.mem_of_getElem? (i := 1080) (by decide +kernel)⟩
theorem lw_p29 : lw_okq (⟨"PlaceRulesModel", "kind", "()I"⟩, 28) := ⟨⟨by decide +kernel, by decide +kernel⟩, List.mem_of_getElem? (i := 897) (by decide +kernel), List.mem_of_getElem? (i := 1083) (by decide +kernel), List.mem_of_getElem? (i := 1084) (by decide +kernel)⟩
theorem lw_p30 : lw_okq (⟨"PlaceRulesModel", "match", "(II)I"⟩, 28) := ⟨⟨by decide +kernel, by decide +kernel⟩, List.mem_of_getElem? (i := 897) (by decide +kernel), List.mem_of_getElem? (i := 1087) (by decide +kernel), List.mem_of_getElem? (i := 1088) (by decide +kernel)⟩
theorem lw_p31 : lw_okq (⟨"PlaceRulesModel", "lengthOf", "(I)I"⟩, 28) := ⟨⟨by decide +kernel, by decide +kernel⟩, List.mem_of_getElem? (i := 897) (by decide +kernel), List.mem_of_getElem? (i := 1091) (by decide +kernel), List.mem_of_getElem? (i := 1092) (by decide +kernel)⟩
def lw_privs_2 : List (MethodName × Nat) := [(⟨"PlaceRules", "gather", "(III)V"⟩, 11), (⟨"PlaceRules$Place", "holds", "(III)Z"⟩, 5), (⟨"PlaceRules", "isWaived", "(IIII)Z"⟩, 11), (⟨"PlaceRulesModel", "fails", "(ZZZ)Z"⟩, 28), (⟨"PlaceRulesModel", "lay", "(IIIII)V"⟩, 28), (⟨"PlaceRulesModel", "isUnit", "(I)Z"⟩, 28), (⟨"PlaceRulesModel", "comes", "(IIII)V"⟩, 28), (⟨"PlaceRulesModel", "fault", "(I)V"⟩, 28), (⟨"PlaceRulesModel", "line", "(Z)V"⟩, 28), (⟨"PlaceRulesModel", "digits", "()I"⟩, 28), (⟨"PlaceRulesModel", "isDigit", "()Z"⟩, 28), (⟨"PlaceRulesModel", "now", "()I"⟩, 28), (⟨"PlaceRulesModel", "pass", "(I)V"⟩, 28), (⟨"PlaceRulesModel", "kind", "()I"⟩, 28), (⟨"PlaceRulesModel", "match", "(II)I"⟩, 28), (⟨"PlaceRulesModel", "lengthOf", "(I)I"⟩, 28)]
theorem lw_r2 : ∀ q ∈ lw_privs_2, lw_okq q := List.forall_mem_cons.mpr ⟨lw_p16, List.forall_mem_cons.mpr ⟨lw_p17, List.forall_mem_cons.mpr ⟨lw_p18, List.forall_mem_cons.mpr ⟨lw_p19, List.forall_mem_cons.mpr ⟨lw_p20, List.forall_mem_cons.mpr ⟨lw_p21, List.forall_mem_cons.mpr ⟨lw_p22, List.forall_mem_cons.mpr ⟨lw_p23, List.forall_mem_cons.mpr ⟨lw_p24, List.forall_mem_cons.mpr ⟨lw_p25, List.forall_mem_cons.mpr ⟨lw_p26, List.forall_mem_cons.mpr ⟨lw_p27, List.forall_mem_cons.mpr ⟨lw_p28, List.forall_mem_cons.mpr ⟨lw_p29, List.forall_mem_cons.mpr ⟨lw_p30, List.forall_mem_cons.mpr ⟨lw_p31, fun _ h => absurd h List.not_mem_nil⟩⟩⟩⟩⟩⟩⟩⟩⟩⟩⟩⟩⟩⟩⟩⟩
theorem lw_p32 : lw_okq (⟨"PlaceRulesModel", "ask", "(III)I"⟩, 28) := ⟨⟨by decide +kernel, by decide +kernel⟩, List.mem_of_getElem? (i := 897) (by decide +kernel), List.mem_of_getElem? (i := 1107) (by decide +kernel), List.mem_of_getElem? (i := 1108) (by decide +kernel)⟩
theorem lw_p33 : lw_okq (⟨"PlaceRulesModel", "isExcepted", "(IIII)Z"⟩, 28) := ⟨⟨by decide +kernel, by decide +kernel⟩, List.mem_of_getElem? (i := 897) (by decide +kernel), List.mem_of_getElem? (i := 1111) (by decide +kernel), List.mem_of_getElem? (i := 1112) (by decide +kernel)⟩
theorem lw_p34 : lw_okq (⟨"PlaceRulesModel", "refuses", "(IIII)Z"⟩, 28) := ⟨⟨by decide +kernel, by decide +kernel⟩, List.mem_of_getElem? (i := 897) (by decide +kernel), List.mem_of_getElem? (i := 1115) (by decide +kernel), List.mem_of_getElem? (i := 1116) (by decide +kernel)⟩
theorem lw_p35 : lw_okq (⟨"PlaceRulesModel", "isSized", "(III)Z"⟩, 28) := ⟨⟨by decide +kernel, by decide +kernel⟩, List.mem_of_getElem? (i := 897) (by decide +kernel), List.mem_of_getElem? (i := 1119) (by decide +kernel), List.mem_of_getElem? (i := 1120) (by decide +kernel)⟩
theorem lw_p36 : lw_okq (⟨"PlaceRulesModel", "fits", "(III)Z"⟩, 28) := ⟨⟨by decide +kernel, by decide +kernel⟩, List.mem_of_getElem? (i := 897) (by decide +kernel), List.mem_of_getElem? (i := 1123) (by decide +kernel), List.mem_of_getElem? (i := 1124) (by decide +kernel)⟩
theorem lw_p37 : lw_okq (⟨"PlaceRulesModel", "others", "(II)I"⟩, 28) := ⟨⟨by decide +kernel, by decide +kernel⟩, List.mem_of_getElem? (i := 897) (by decide +kernel), List.mem_of_getElem? (i := 1127) (by decide +kernel), List.mem_of_getElem? (i := 1128) (by decide +kernel)⟩
theorem lw_p38 : lw_okq (⟨"PlaceRulesModel", "unlike", "(III)I"⟩, 28) := ⟨⟨by decide +kernel, by decide +kernel⟩, List.mem_of_getElem? (i := 897) (by decide +kernel), List.mem_of_getElem? (i := 1131) (by decide +kernel), List.mem_of_getElem? (i := 1132) (by decide +kernel)⟩
theorem lw_p39 : lw_okq (⟨"PlaceRulesModel", "isThere", "(III)Z"⟩, 28) := ⟨⟨by decide +kernel, by decide +kernel⟩, List.mem_of_getElem? (i := 897) (by decide +kernel), List.mem_of_getElem? (i := 1135) (by decide +kernel), List.mem_of_getElem? (i := 1136) (by decide +kernel)⟩
theorem lw_p40 : lw_okq (⟨"PlaceRulesModel", "meets", "(III)Z"⟩, 28) := ⟨⟨by decide +kernel, by decide +kernel⟩, List.mem_of_getElem? (i := 897) (by decide +kernel), List.mem_of_getElem? (i := 1139) (by decide +kernel), List.mem_of_getElem? (i := 1140) (by decide +kernel)⟩
theorem lw_p41 : lw_okq (⟨"PlaceRulesModel", "many", "(II)I"⟩, 28) := ⟨⟨by decide +kernel, by decide +kernel⟩, List.mem_of_getElem? (i := 897) (by decide +kernel), List.mem_of_getElem? (i := 1143) (by decide +kernel), List.mem_of_getElem? (i := 1144) (by decide +kernel)⟩
theorem lw_p42 : lw_okq (⟨"PlaceRulesModel", "span", "(II)I"⟩, 28) := ⟨⟨by decide +kernel, by decide +kernel⟩, List.mem_of_getElem? (i := 897) (by decide +kernel), List.mem_of_getElem? (i := 1147) (by decide +kernel), List.mem_of_getElem? (i := 1148) (by decide +kernel)⟩
theorem lw_p43 : lw_okq (⟨"PlaceRulesModel", "ownRefuses", "(III)Z"⟩, 28) := ⟨⟨by decide +kernel, by decide +kernel⟩, List.mem_of_getElem? (i := 897) (by decide +kernel), List.mem_of_getElem? (i := 1151) (by decide +kernel), List.mem_of_getElem? (i := 1152) (by decide +kernel)⟩
def lw_privs_3 : List (MethodName × Nat) := [(⟨"PlaceRulesModel", "ask", "(III)I"⟩, 28), (⟨"PlaceRulesModel", "isExcepted", "(IIII)Z"⟩, 28), (⟨"PlaceRulesModel", "refuses", "(IIII)Z"⟩, 28), (⟨"PlaceRulesModel", "isSized", "(III)Z"⟩, 28), (⟨"PlaceRulesModel", "fits", "(III)Z"⟩, 28), (⟨"PlaceRulesModel", "others", "(II)I"⟩, 28), (⟨"PlaceRulesModel", "unlike", "(III)I"⟩, 28), (⟨"PlaceRulesModel", "isThere", "(III)Z"⟩, 28), (⟨"PlaceRulesModel", "meets", "(III)Z"⟩, 28), (⟨"PlaceRulesModel", "many", "(II)I"⟩, 28), (⟨"PlaceRulesModel", "span", "(II)I"⟩, 28), (⟨"PlaceRulesModel", "ownRefuses", "(III)Z"⟩, 28)]
theorem lw_r3 : ∀ q ∈ lw_privs_3, lw_okq q := List.forall_mem_cons.mpr ⟨lw_p32, List.forall_mem_cons.mpr ⟨lw_p33, List.forall_mem_cons.mpr ⟨lw_p34, List.forall_mem_cons.mpr ⟨lw_p35, List.forall_mem_cons.mpr ⟨lw_p36, List.forall_mem_cons.mpr ⟨lw_p37, List.forall_mem_cons.mpr ⟨lw_p38, List.forall_mem_cons.mpr ⟨lw_p39, List.forall_mem_cons.mpr ⟨lw_p40, List.forall_mem_cons.mpr ⟨lw_p41, List.forall_mem_cons.mpr ⟨lw_p42, List.forall_mem_cons.mpr ⟨lw_p43, fun _ h => absurd h List.not_mem_nil⟩⟩⟩⟩⟩⟩⟩⟩⟩⟩⟩⟩
def lw_privs : List (MethodName × Nat) := lw_privs_1 ++ (lw_privs_2 ++ (lw_privs_3))
def lw_tbl : List Cond := k2_sels lw_privs ++ tables_1
theorem lw_privs_ok : ∀ q ∈ lw_privs, lw_okq q := by
  show ∀ q ∈ lw_privs_1 ++ (lw_privs_2 ++ (lw_privs_3)), lw_okq q
  exact List.forall_mem_append.mpr ⟨lw_r1, List.forall_mem_append.mpr ⟨lw_r2, lw_r3⟩⟩
end
section
/-! One world for all: every cell of the class, of the reference and of the law has a number, in the order in which they are made; ad: its address; E: what it holds. -/
def gw (n : Nat) (ad : Nat → Nat) (E : Nat → va_E) : va_W := (List.range n).map fun k => (ad k, E k)
theorem gw_len {n : Nat} {ad : Nat → Nat} {E : Nat → va_E} : (gw n ad E).length = n := by simp [gw]
theorem gw_at {n : Nat} {ad : Nat → Nat} {E : Nat → va_E} {k : Nat} (h : k < n) : (gw n ad E)[k]? = some (ad k, E k) := by
  simp [gw, List.getElem?_map, h]
theorem gw_set {n : Nat} {ad : Nat → Nat} {E : Nat → va_E} {k : Nat} {e : va_E} (h : k < n) : (gw n ad E).set k (ad k, e) = gw n ad (va_up E k e) := by
  apply List.ext_getElem?
  intro j
  by_cases hj : j < n
  · rw [gw_at hj]
    by_cases hjk : j = k
    · subst hjk
      rw [List.getElem?_set_self (by rw [gw_len]; exact hj)]
      simp [va_up]
    · rw [List.getElem?_set_ne (Ne.symm hjk), gw_at hj]
      simp [va_up, hjk]
  · rw [List.getElem?_eq_none (by rw [List.length_set, gw_len]; omega), List.getElem?_eq_none (by rw [gw_len]; omega)]
theorem gw_push {n : Nat} {ad : Nat → Nat} {E : Nat → va_E} {q : Nat} {e : va_E} : gw n ad E ++ [(q, e)] = gw (n + 1) (va_up ad n q) (va_up E n e) := by
  unfold gw
  rw [List.range_succ, List.map_append]
  congr 1
  · apply List.map_congr_left
    intro k hk
    have h : k ≠ n := by have h1 := List.mem_range.mp hk; omega
    simp [va_up, h]
  · simp [va_up]
end
section
/-! Names: the good words of the tables; classes with their fields; methods with their code; each word by its place. Written by wip/tools/emit_names.py. -/
def gts : List Cond := lw_tbl.filter goodWord
theorem gts_of {w : Cond} (h : w ∈ lw_tbl) (g : goodWord w = true) : w ∈ gts := List.mem_filter.mpr ⟨h, g⟩
theorem gt_0 {w : Cond} (i : Nat) (h : (k2_sels lw_privs)[i]? = some w) (g : goodWord w = true) : w ∈ gts := gts_of (List.mem_append_left _ (List.mem_of_getElem? h)) g
theorem gt_1 {w : Cond} (i : Nat) (h : tables_1_1[i]? = some w) (g : goodWord w = true) : w ∈ gts := gts_of (List.mem_append_right _ (List.mem_append_left _ (List.mem_of_getElem? h))) g
theorem gt_2 {w : Cond} (i : Nat) (h : tables_1_2[i]? = some w) (g : goodWord w = true) : w ∈ gts := gts_of (List.mem_append_right _ (List.mem_append_right _ (List.mem_append_left _ (List.mem_of_getElem? h)))) g
theorem gt_3 {w : Cond} (i : Nat) (h : tables_1_3[i]? = some w) (g : goodWord w = true) : w ∈ gts := gts_of (List.mem_append_right _ (List.mem_append_right _ (List.mem_append_right _ (List.mem_append_left _ (List.mem_of_getElem? h))))) g
theorem gt_4 {w : Cond} (i : Nat) (h : tables_1_4[i]? = some w) (g : goodWord w = true) : w ∈ gts := gts_of (List.mem_append_right _ (List.mem_append_right _ (List.mem_append_right _ (List.mem_append_right _ (List.mem_append_left _ (List.mem_of_getElem? h)))))) g
theorem gt_5 {w : Cond} (i : Nat) (h : tables_1_5[i]? = some w) (g : goodWord w = true) : w ∈ gts := gts_of (List.mem_append_right _ (List.mem_append_right _ (List.mem_append_right _ (List.mem_append_right _ (List.mem_append_right _ (List.mem_append_left _ (List.mem_of_getElem? h))))))) g
theorem gt_6 {w : Cond} (i : Nat) (h : tables_1_6[i]? = some w) (g : goodWord w = true) : w ∈ gts := gts_of (List.mem_append_right _ (List.mem_append_right _ (List.mem_append_right _ (List.mem_append_right _ (List.mem_append_right _ (List.mem_append_right _ (List.mem_of_getElem? h))))))) g
abbrev T_PR : u_T := fun k => match k with
  | 0 => ("PlaceRules", "places", "[LPlaceRules$Place;", true)
  | 1 => ("PlaceRules", "units", "[LPlaceRules$Unit;", true)
  | 2 => ("PlaceRules", "unitCount", "I", false)
  | 3 => ("PlaceRules", "waivers", "[LPlaceRules$Waiver;", true)
  | 4 => ("PlaceRules", "waiverCount", "I", false)
  | 5 => ("PlaceRules", "book", "LPlaceRules$RuleBook;", true)
  | 6 => ("PlaceRules", "ownRules", "LPlaceRules$OwnRules;", true)
  | 7 => ("PlaceRules", "text", "LPlaceRules$Text;", true)
  | 8 => ("PlaceRules", "question", "LPlaceRules$Question;", true)
  | 9 => ("PlaceRules", "refusals", "[I", true)
  | _ => ("PlaceRules", "refusalCount", "I", false)
abbrev ty_PR : Nat → FieldType := fun k => match k with
  | 0 => .array (.object "PlaceRules$Place")
  | 1 => .array (.object "PlaceRules$Unit")
  | 2 => .int
  | 3 => .array (.object "PlaceRules$Waiver")
  | 4 => .int
  | 5 => .object "PlaceRules$RuleBook"
  | 6 => .object "PlaceRules$OwnRules"
  | 7 => .object "PlaceRules$Text"
  | 8 => .object "PlaceRules$Question"
  | 9 => .array .int
  | _ => .int
abbrev T_RB : u_T := fun k => match k with
  | 0 => ("PlaceRules$RuleBook", "rules", "[LPlaceRules$Rule;", true)
  | 1 => ("PlaceRules$RuleBook", "order", "[I", true)
  | 2 => ("PlaceRules$RuleBook", "ruleCount", "I", false)
  | 3 => ("PlaceRules$RuleBook", "earlier", "[I", true)
  | 4 => ("PlaceRules$RuleBook", "later", "[I", true)
  | _ => ("PlaceRules$RuleBook", "clashCount", "I", false)
abbrev ty_RB : Nat → FieldType := fun k => match k with
  | 0 => .array (.object "PlaceRules$Rule")
  | 1 => .array .int
  | 2 => .int
  | 3 => .array .int
  | 4 => .array .int
  | _ => .int
abbrev T_RU : u_T := fun k => match k with
  | 0 => ("PlaceRules$Rule", "rank", "I", false)
  | 1 => ("PlaceRules$Rule", "kind", "LPlaceRules$Kind;", false)
  | 2 => ("PlaceRules$Rule", "a", "I", false)
  | 3 => ("PlaceRules$Rule", "b", "I", false)
  | _ => ("PlaceRules$Rule", "hasRefused", "Z", false)
abbrev ty_RU : Nat → FieldType := fun k => match k with
  | 0 => .int
  | 1 => .object "PlaceRules$Kind"
  | 2 => .int
  | 3 => .int
  | _ => .boolean
abbrev T_OW : u_T := fun k => match k with
  | 0 => ("PlaceRules$OwnRules", "says", "[I", true)
  | _ => ("PlaceRules$OwnRules", "failures", "I", false)
abbrev ty_OW : Nat → FieldType := fun k => match k with
  | 0 => .array .int
  | _ => .int
abbrev T_TX : u_T := fun k => match k with
  | 0 => ("PlaceRules$Text", "signs", "[I", true)
  | 1 => ("PlaceRules$Text", "signCount", "I", false)
  | 2 => ("PlaceRules$Text", "drafts", "[LPlaceRules$Rule;", true)
  | 3 => ("PlaceRules$Text", "next", "I", false)
  | 4 => ("PlaceRules$Text", "wrong", "I", false)
  | 5 => ("PlaceRules$Text", "value", "I", false)
  | _ => ("PlaceRules$Text", "kind", "LPlaceRules$Kind;", false)
abbrev ty_TX : Nat → FieldType := fun k => match k with
  | 0 => .array .int
  | 1 => .int
  | 2 => .array (.object "PlaceRules$Rule")
  | 3 => .int
  | 4 => .int
  | 5 => .int
  | _ => .object "PlaceRules$Kind"
abbrev T_QU : u_T := fun k => match k with
  | 0 => ("PlaceRules$Question", "fitsUpright", "Z", false)
  | 1 => ("PlaceRules$Question", "fitsSomehow", "Z", false)
  | 2 => ("PlaceRules$Question", "day", "I", false)
  | 3 => ("PlaceRules$Question", "limit", "I", false)
  | 4 => ("PlaceRules$Question", "zone", "I", false)
  | 5 => ("PlaceRules$Question", "good", "I", false)
  | 6 => ("PlaceRules$Question", "grams", "I", false)
  | 7 => ("PlaceRules$Question", "hazard", "I", false)
  | 8 => ("PlaceRules$Question", "group", "I", false)
  | 9 => ("PlaceRules$Question", "last", "I", false)
  | 10 => ("PlaceRules$Question", "units", "I", false)
  | 11 => ("PlaceRules$Question", "othersGrams", "I", false)
  | 12 => ("PlaceRules$Question", "leastLast", "I", false)
  | 13 => ("PlaceRules$Question", "greatestLast", "I", false)
  | 14 => ("PlaceRules$Question", "goods", "LPlaceRules$NumberSet;", true)
  | 15 => ("PlaceRules$Question", "lots", "LPlaceRules$NumberSet;", true)
  | 16 => ("PlaceRules$Question", "owners", "LPlaceRules$NumberSet;", true)
  | _ => ("PlaceRules$Question", "othersHazards", "LPlaceRules$NumberSet;", true)
abbrev ty_QU : Nat → FieldType := fun k => match k with
  | 0 => .boolean
  | 1 => .boolean
  | 2 => .int
  | 3 => .int
  | 4 => .int
  | 5 => .int
  | 6 => .int
  | 7 => .int
  | 8 => .int
  | 9 => .int
  | 10 => .int
  | 11 => .int
  | 12 => .int
  | 13 => .int
  | 14 => .object "PlaceRules$NumberSet"
  | 15 => .object "PlaceRules$NumberSet"
  | 16 => .object "PlaceRules$NumberSet"
  | _ => .object "PlaceRules$NumberSet"
abbrev T_NS : u_T := fun k => match k with
  | 0 => ("PlaceRules$NumberSet", "low", "J", false)
  | _ => ("PlaceRules$NumberSet", "high", "J", false)
abbrev ty_NS : Nat → FieldType := fun k => match k with
  | 0 => .long
  | _ => .long
abbrev T_PL : u_T := fun k => match k with
  | 0 => ("PlaceRules$Place", "width", "I", false)
  | 1 => ("PlaceRules$Place", "depth", "I", false)
  | 2 => ("PlaceRules$Place", "height", "I", false)
  | 3 => ("PlaceRules$Place", "limit", "I", false)
  | _ => ("PlaceRules$Place", "zone", "I", false)
abbrev ty_PL : Nat → FieldType := fun k => match k with
  | 0 => .int
  | 1 => .int
  | 2 => .int
  | 3 => .int
  | _ => .int
abbrev T_UN : u_T := fun k => match k with
  | 0 => ("PlaceRules$Unit", "good", "I", false)
  | 1 => ("PlaceRules$Unit", "lot", "I", false)
  | 2 => ("PlaceRules$Unit", "owner", "I", false)
  | 3 => ("PlaceRules$Unit", "width", "I", false)
  | 4 => ("PlaceRules$Unit", "depth", "I", false)
  | 5 => ("PlaceRules$Unit", "height", "I", false)
  | 6 => ("PlaceRules$Unit", "grams", "I", false)
  | 7 => ("PlaceRules$Unit", "hazard", "I", false)
  | 8 => ("PlaceRules$Unit", "group", "I", false)
  | 9 => ("PlaceRules$Unit", "last", "I", false)
  | _ => ("PlaceRules$Unit", "place", "I", false)
abbrev ty_UN : Nat → FieldType := fun k => match k with
  | 0 => .int
  | 1 => .int
  | 2 => .int
  | 3 => .int
  | 4 => .int
  | 5 => .int
  | 6 => .int
  | 7 => .int
  | 8 => .int
  | 9 => .int
  | _ => .int
abbrev T_WV : u_T := fun k => match k with
  | 0 => ("PlaceRules$Waiver", "rule", "I", false)
  | 1 => ("PlaceRules$Waiver", "place", "I", false)
  | 2 => ("PlaceRules$Waiver", "owner", "I", false)
  | _ => ("PlaceRules$Waiver", "until", "I", false)
abbrev ty_WV : Nat → FieldType := fun k => match k with
  | 0 => .int
  | 1 => .int
  | 2 => .int
  | _ => .int
abbrev T_MD : u_T := fun k => match k with
  | 0 => ("PlaceRulesModel", "thrown", "I", false)
  | 1 => ("PlaceRulesModel", "places", "[I", true)
  | 2 => ("PlaceRulesModel", "units", "I", false)
  | 3 => ("PlaceRulesModel", "things", "[I", true)
  | 4 => ("PlaceRulesModel", "stands", "[I", true)
  | 5 => ("PlaceRulesModel", "rules", "I", false)
  | 6 => ("PlaceRulesModel", "ranks", "[I", true)
  | 7 => ("PlaceRulesModel", "kinds", "[I", true)
  | 8 => ("PlaceRulesModel", "firsts", "[I", true)
  | 9 => ("PlaceRulesModel", "seconds", "[I", true)
  | 10 => ("PlaceRulesModel", "refused", "[Z", true)
  | 11 => ("PlaceRulesModel", "exceptions", "I", false)
  | 12 => ("PlaceRulesModel", "rulesOf", "[I", true)
  | 13 => ("PlaceRulesModel", "placesOf", "[I", true)
  | 14 => ("PlaceRulesModel", "ownersOf", "[I", true)
  | 15 => ("PlaceRulesModel", "untils", "[I", true)
  | 16 => ("PlaceRulesModel", "says", "[I", true)
  | 17 => ("PlaceRulesModel", "failures", "I", false)
  | 18 => ("PlaceRulesModel", "clashes", "I", false)
  | 19 => ("PlaceRulesModel", "clashing", "[I", true)
  | 20 => ("PlaceRulesModel", "told", "I", false)
  | 21 => ("PlaceRulesModel", "tells", "[I", true)
  | 22 => ("PlaceRulesModel", "signs", "I", false)
  | 23 => ("PlaceRulesModel", "text", "[I", true)
  | 24 => ("PlaceRulesModel", "at", "I", false)
  | 25 => ("PlaceRulesModel", "wrong", "I", false)
  | 26 => ("PlaceRulesModel", "number", "I", false)
  | _ => ("PlaceRulesModel", "names", "[I", true)
abbrev ty_MD : Nat → FieldType := fun k => match k with
  | 0 => .int
  | 1 => .array .int
  | 2 => .int
  | 3 => .array .int
  | 4 => .array .int
  | 5 => .int
  | 6 => .array .int
  | 7 => .array .int
  | 8 => .array .int
  | 9 => .array .int
  | 10 => .array .boolean
  | 11 => .int
  | 12 => .array .int
  | 13 => .array .int
  | 14 => .array .int
  | 15 => .array .int
  | 16 => .array .int
  | 17 => .int
  | 18 => .int
  | 19 => .array .int
  | 20 => .int
  | 21 => .array .int
  | 22 => .int
  | 23 => .array .int
  | 24 => .int
  | 25 => .int
  | 26 => .int
  | _ => .array .int
abbrev gcl : List vw_C := [("PlaceRules", T_PR, 11), ("PlaceRules$RuleBook", T_RB, 6), ("PlaceRules$Rule", T_RU, 5), ("PlaceRules$OwnRules", T_OW, 2), ("PlaceRules$Text", T_TX, 7), ("PlaceRules$Question", T_QU, 18), ("PlaceRules$NumberSet", T_NS, 2), ("PlaceRules$Place", T_PL, 5), ("PlaceRules$Unit", T_UN, 11), ("PlaceRules$Waiver", T_WV, 4), ("PlaceRulesModel", T_MD, 28)]
theorem nm_PR : ∀ a, a < 11 → ∀ b, b < 11 → a ≠ b → (T_PR a).2.1 ≠ (T_PR b).2.1 := by decide +kernel
theorem tk_PR : ∀ k, k < 11 → parseFieldDescriptor (T_PR k).2.2.1 = some (ty_PR k) := by decide +kernel
theorem in_PR : ∀ w ∈ u_ws "PlaceRules" T_PR 11, w ∈ gts := by
  intro w hw
  obtain ⟨k, hk, rfl⟩ := List.mem_map.mp hw
  have hk := List.mem_range.mp hk
  match k, hk with
  | 0, _ => exact gt_2 126 rfl rfl
  | 1, _ => exact gt_2 128 rfl rfl
  | 2, _ => exact gt_2 130 rfl rfl
  | 3, _ => exact gt_2 132 rfl rfl
  | 4, _ => exact gt_2 134 rfl rfl
  | 5, _ => exact gt_2 136 rfl rfl
  | 6, _ => exact gt_2 138 rfl rfl
  | 7, _ => exact gt_2 140 rfl rfl
  | 8, _ => exact gt_2 142 rfl rfl
  | 9, _ => exact gt_2 144 rfl rfl
  | 10, _ => exact gt_2 146 rfl rfl
  | k + 11, hk => exact absurd hk (by omega)
theorem nm_RB : ∀ a, a < 6 → ∀ b, b < 6 → a ≠ b → (T_RB a).2.1 ≠ (T_RB b).2.1 := by decide +kernel
theorem tk_RB : ∀ k, k < 6 → parseFieldDescriptor (T_RB k).2.2.1 = some (ty_RB k) := by decide +kernel
theorem in_RB : ∀ w ∈ u_ws "PlaceRules$RuleBook" T_RB 6, w ∈ gts := by
  intro w hw
  obtain ⟨k, hk, rfl⟩ := List.mem_map.mp hw
  have hk := List.mem_range.mp hk
  match k, hk with
  | 0, _ => exact gt_1 98 rfl rfl
  | 1, _ => exact gt_1 100 rfl rfl
  | 2, _ => exact gt_1 102 rfl rfl
  | 3, _ => exact gt_1 104 rfl rfl
  | 4, _ => exact gt_1 106 rfl rfl
  | 5, _ => exact gt_1 108 rfl rfl
  | k + 6, hk => exact absurd hk (by omega)
theorem nm_RU : ∀ a, a < 5 → ∀ b, b < 5 → a ≠ b → (T_RU a).2.1 ≠ (T_RU b).2.1 := by decide +kernel
theorem tk_RU : ∀ k, k < 5 → parseFieldDescriptor (T_RU k).2.2.1 = some (ty_RU k) := by decide +kernel
theorem in_RU : ∀ w ∈ u_ws "PlaceRules$Rule" T_RU 5, w ∈ gts := by
  intro w hw
  obtain ⟨k, hk, rfl⟩ := List.mem_map.mp hw
  have hk := List.mem_range.mp hk
  match k, hk with
  | 0, _ => exact gt_1 74 rfl rfl
  | 1, _ => exact gt_1 76 rfl rfl
  | 2, _ => exact gt_1 78 rfl rfl
  | 3, _ => exact gt_1 80 rfl rfl
  | 4, _ => exact gt_1 82 rfl rfl
  | k + 5, hk => exact absurd hk (by omega)
theorem nm_OW : ∀ a, a < 2 → ∀ b, b < 2 → a ≠ b → (T_OW a).2.1 ≠ (T_OW b).2.1 := by decide +kernel
theorem tk_OW : ∀ k, k < 2 → parseFieldDescriptor (T_OW k).2.2.1 = some (ty_OW k) := by decide +kernel
theorem in_OW : ∀ w ∈ u_ws "PlaceRules$OwnRules" T_OW 2, w ∈ gts := by
  intro w hw
  obtain ⟨k, hk, rfl⟩ := List.mem_map.mp hw
  have hk := List.mem_range.mp hk
  match k, hk with
  | 0, _ => exact gt_1 121 rfl rfl
  | 1, _ => exact gt_1 123 rfl rfl
  | k + 2, hk => exact absurd hk (by omega)
theorem nm_TX : ∀ a, a < 7 → ∀ b, b < 7 → a ≠ b → (T_TX a).2.1 ≠ (T_TX b).2.1 := by decide +kernel
theorem tk_TX : ∀ k, k < 7 → parseFieldDescriptor (T_TX k).2.2.1 = some (ty_TX k) := by decide +kernel
theorem in_TX : ∀ w ∈ u_ws "PlaceRules$Text" T_TX 7, w ∈ gts := by
  intro w hw
  obtain ⟨k, hk, rfl⟩ := List.mem_map.mp hw
  have hk := List.mem_range.mp hk
  match k, hk with
  | 0, _ => exact gt_1 144 rfl rfl
  | 1, _ => exact gt_1 146 rfl rfl
  | 2, _ => exact gt_1 148 rfl rfl
  | 3, _ => exact gt_1 150 rfl rfl
  | 4, _ => exact gt_1 152 rfl rfl
  | 5, _ => exact gt_1 154 rfl rfl
  | 6, _ => exact gt_1 156 rfl rfl
  | k + 7, hk => exact absurd hk (by omega)
theorem nm_QU : ∀ a, a < 18 → ∀ b, b < 18 → a ≠ b → (T_QU a).2.1 ≠ (T_QU b).2.1 := by decide +kernel
theorem tk_QU : ∀ k, k < 18 → parseFieldDescriptor (T_QU k).2.2.1 = some (ty_QU k) := by decide +kernel
theorem in_QU : ∀ w ∈ u_ws "PlaceRules$Question" T_QU 18, w ∈ gts := by
  intro w hw
  obtain ⟨k, hk, rfl⟩ := List.mem_map.mp hw
  have hk := List.mem_range.mp hk
  match k, hk with
  | 0, _ => exact gt_1 213 rfl rfl
  | 1, _ => exact gt_1 215 rfl rfl
  | 2, _ => exact gt_1 217 rfl rfl
  | 3, _ => exact gt_1 219 rfl rfl
  | 4, _ => exact gt_1 221 rfl rfl
  | 5, _ => exact gt_1 223 rfl rfl
  | 6, _ => exact gt_1 225 rfl rfl
  | 7, _ => exact gt_1 227 rfl rfl
  | 8, _ => exact gt_1 229 rfl rfl
  | 9, _ => exact gt_1 231 rfl rfl
  | 10, _ => exact gt_1 233 rfl rfl
  | 11, _ => exact gt_1 235 rfl rfl
  | 12, _ => exact gt_1 237 rfl rfl
  | 13, _ => exact gt_1 239 rfl rfl
  | 14, _ => exact gt_2 1 rfl rfl
  | 15, _ => exact gt_2 3 rfl rfl
  | 16, _ => exact gt_2 5 rfl rfl
  | 17, _ => exact gt_2 7 rfl rfl
  | k + 18, hk => exact absurd hk (by omega)
theorem nm_NS : ∀ a, a < 2 → ∀ b, b < 2 → a ≠ b → (T_NS a).2.1 ≠ (T_NS b).2.1 := by decide +kernel
theorem tk_NS : ∀ k, k < 2 → parseFieldDescriptor (T_NS k).2.2.1 = some (ty_NS k) := by decide +kernel
theorem in_NS : ∀ w ∈ u_ws "PlaceRules$NumberSet" T_NS 2, w ∈ gts := by
  intro w hw
  obtain ⟨k, hk, rfl⟩ := List.mem_map.mp hw
  have hk := List.mem_range.mp hk
  match k, hk with
  | 0, _ => exact gt_1 173 rfl rfl
  | 1, _ => exact gt_1 175 rfl rfl
  | k + 2, hk => exact absurd hk (by omega)
theorem nm_PL : ∀ a, a < 5 → ∀ b, b < 5 → a ≠ b → (T_PL a).2.1 ≠ (T_PL b).2.1 := by decide +kernel
theorem tk_PL : ∀ k, k < 5 → parseFieldDescriptor (T_PL k).2.2.1 = some (ty_PL k) := by decide +kernel
theorem in_PL : ∀ w ∈ u_ws "PlaceRules$Place" T_PL 5, w ∈ gts := by
  intro w hw
  obtain ⟨k, hk, rfl⟩ := List.mem_map.mp hw
  have hk := List.mem_range.mp hk
  match k, hk with
  | 0, _ => exact gt_2 27 rfl rfl
  | 1, _ => exact gt_2 29 rfl rfl
  | 2, _ => exact gt_2 31 rfl rfl
  | 3, _ => exact gt_2 33 rfl rfl
  | 4, _ => exact gt_2 35 rfl rfl
  | k + 5, hk => exact absurd hk (by omega)
theorem nm_UN : ∀ a, a < 11 → ∀ b, b < 11 → a ≠ b → (T_UN a).2.1 ≠ (T_UN b).2.1 := by decide +kernel
theorem tk_UN : ∀ k, k < 11 → parseFieldDescriptor (T_UN k).2.2.1 = some (ty_UN k) := by decide +kernel
theorem in_UN : ∀ w ∈ u_ws "PlaceRules$Unit" T_UN 11, w ∈ gts := by
  intro w hw
  obtain ⟨k, hk, rfl⟩ := List.mem_map.mp hw
  have hk := List.mem_range.mp hk
  match k, hk with
  | 0, _ => exact gt_2 70 rfl rfl
  | 1, _ => exact gt_2 72 rfl rfl
  | 2, _ => exact gt_2 74 rfl rfl
  | 3, _ => exact gt_2 76 rfl rfl
  | 4, _ => exact gt_2 78 rfl rfl
  | 5, _ => exact gt_2 80 rfl rfl
  | 6, _ => exact gt_2 82 rfl rfl
  | 7, _ => exact gt_2 84 rfl rfl
  | 8, _ => exact gt_2 86 rfl rfl
  | 9, _ => exact gt_2 88 rfl rfl
  | 10, _ => exact gt_2 90 rfl rfl
  | k + 11, hk => exact absurd hk (by omega)
theorem nm_WV : ∀ a, a < 4 → ∀ b, b < 4 → a ≠ b → (T_WV a).2.1 ≠ (T_WV b).2.1 := by decide +kernel
theorem tk_WV : ∀ k, k < 4 → parseFieldDescriptor (T_WV k).2.2.1 = some (ty_WV k) := by decide +kernel
theorem in_WV : ∀ w ∈ u_ws "PlaceRules$Waiver" T_WV 4, w ∈ gts := by
  intro w hw
  obtain ⟨k, hk, rfl⟩ := List.mem_map.mp hw
  have hk := List.mem_range.mp hk
  match k, hk with
  | 0, _ => exact gt_2 106 rfl rfl
  | 1, _ => exact gt_2 108 rfl rfl
  | 2, _ => exact gt_2 110 rfl rfl
  | 3, _ => exact gt_2 112 rfl rfl
  | k + 4, hk => exact absurd hk (by omega)
theorem nm_MD : ∀ a, a < 28 → ∀ b, b < 28 → a ≠ b → (T_MD a).2.1 ≠ (T_MD b).2.1 := by decide +kernel
theorem tk_MD : ∀ k, k < 28 → parseFieldDescriptor (T_MD k).2.2.1 = some (ty_MD k) := by decide +kernel
theorem in_MD : ∀ w ∈ u_ws "PlaceRulesModel" T_MD 28, w ∈ gts := by
  intro w hw
  obtain ⟨k, hk, rfl⟩ := List.mem_map.mp hw
  have hk := List.mem_range.mp hk
  match k, hk with
  | 0, _ => exact gt_4 211 rfl rfl
  | 1, _ => exact gt_4 213 rfl rfl
  | 2, _ => exact gt_4 215 rfl rfl
  | 3, _ => exact gt_4 217 rfl rfl
  | 4, _ => exact gt_4 219 rfl rfl
  | 5, _ => exact gt_4 221 rfl rfl
  | 6, _ => exact gt_4 223 rfl rfl
  | 7, _ => exact gt_4 225 rfl rfl
  | 8, _ => exact gt_4 227 rfl rfl
  | 9, _ => exact gt_4 229 rfl rfl
  | 10, _ => exact gt_4 231 rfl rfl
  | 11, _ => exact gt_4 233 rfl rfl
  | 12, _ => exact gt_4 235 rfl rfl
  | 13, _ => exact gt_4 237 rfl rfl
  | 14, _ => exact gt_4 239 rfl rfl
  | 15, _ => exact gt_5 1 rfl rfl
  | 16, _ => exact gt_5 3 rfl rfl
  | 17, _ => exact gt_5 5 rfl rfl
  | 18, _ => exact gt_5 7 rfl rfl
  | 19, _ => exact gt_5 9 rfl rfl
  | 20, _ => exact gt_5 11 rfl rfl
  | 21, _ => exact gt_5 13 rfl rfl
  | 22, _ => exact gt_5 15 rfl rfl
  | 23, _ => exact gt_5 17 rfl rfl
  | 24, _ => exact gt_5 19 rfl rfl
  | 25, _ => exact gt_5 21 rfl rfl
  | 26, _ => exact gt_5 23 rfl rfl
  | 27, _ => exact gt_5 25 rfl rfl
  | k + 28, hk => exact absurd hk (by omega)
abbrev y_PR_init : MethodName := ⟨"PlaceRules", "<init>", "()V"⟩
abbrev c_PR_init : ByteArray := prog_1_method_1_code
theorem kc_PR_init : Cond.code y_PR_init c_PR_init 2 none ∈ gts := gt_1 32 rfl rfl
abbrev y_java_lang_Object_init : MethodName := ⟨"java/lang/Object", "<init>", "()V"⟩
abbrev c_java_lang_Object_init : ByteArray := object_method_1_code
theorem kc_java_lang_Object_init : Cond.code y_java_lang_Object_init c_java_lang_Object_init 1 none ∈ gts := gt_1 35 rfl rfl
abbrev y_RB_init : MethodName := ⟨"PlaceRules$RuleBook", "<init>", "()V"⟩
abbrev c_RB_init : ByteArray := prog_9_method_1_code
theorem kc_RB_init : Cond.code y_RB_init c_RB_init 2 none ∈ gts := gt_1 46 rfl rfl
abbrev y_RU_init : MethodName := ⟨"PlaceRules$Rule", "<init>", "()V"⟩
abbrev c_RU_init : ByteArray := prog_8_method_1_code
theorem kc_RU_init : Cond.code y_RU_init c_RU_init 1 none ∈ gts := gt_1 53 rfl rfl
abbrev y_OW_init : MethodName := ⟨"PlaceRules$OwnRules", "<init>", "()V"⟩
abbrev c_OW_init : ByteArray := prog_5_method_1_code
theorem kc_OW_init : Cond.code y_OW_init c_OW_init 1 none ∈ gts := gt_1 115 rfl rfl
abbrev y_TX_init : MethodName := ⟨"PlaceRules$Text", "<init>", "()V"⟩
abbrev c_TX_init : ByteArray := prog_10_method_1_code
theorem kc_TX_init : Cond.code y_TX_init c_TX_init 2 none ∈ gts := gt_1 130 rfl rfl
abbrev y_QU_init : MethodName := ⟨"PlaceRules$Question", "<init>", "()V"⟩
abbrev c_QU_init : ByteArray := prog_7_method_1_code
theorem kc_QU_init : Cond.code y_QU_init c_QU_init 1 none ∈ gts := gt_1 163 rfl rfl
abbrev y_NS_init : MethodName := ⟨"PlaceRules$NumberSet", "<init>", "()V"⟩
abbrev c_NS_init : ByteArray := prog_4_method_1_code
theorem kc_NS_init : Cond.code y_NS_init c_NS_init 1 none ∈ gts := gt_1 169 rfl rfl
abbrev y_PL_init : MethodName := ⟨"PlaceRules$Place", "<init>", "()V"⟩
abbrev c_PL_init : ByteArray := prog_6_method_1_code
theorem kc_PL_init : Cond.code y_PL_init c_PL_init 1 none ∈ gts := gt_2 13 rfl rfl
abbrev y_UN_init : MethodName := ⟨"PlaceRules$Unit", "<init>", "()V"⟩
abbrev c_UN_init : ByteArray := prog_11_method_1_code
theorem kc_UN_init : Cond.code y_UN_init c_UN_init 1 none ∈ gts := gt_2 41 rfl rfl
abbrev y_WV_init : MethodName := ⟨"PlaceRules$Waiver", "<init>", "()V"⟩
abbrev c_WV_init : ByteArray := prog_12_method_1_code
theorem kc_WV_init : Cond.code y_WV_init c_WV_init 1 none ∈ gts := gt_2 96 rfl rfl
abbrev y_PR_sign : MethodName := ⟨"PlaceRules", "sign", "(I)I"⟩
abbrev c_PR_sign : ByteArray := prog_1_method_8_code
theorem kc_PR_sign : Cond.code y_PR_sign c_PR_sign 2 (some .int) ∈ gts := gt_2 152 rfl rfl
abbrev y_TX_collect : MethodName := ⟨"PlaceRules$Text", "collect", "(I)I"⟩
abbrev c_TX_collect : ByteArray := prog_10_method_2_code
theorem kc_TX_collect : Cond.code y_TX_collect c_TX_collect 2 (some .int) ∈ gts := gt_2 156 rfl rfl
abbrev y_PR_read : MethodName := ⟨"PlaceRules", "read", "()I"⟩
abbrev c_PR_read : ByteArray := prog_1_method_9_code
theorem kc_PR_read : Cond.code y_PR_read c_PR_read 4 (some .int) ∈ gts := gt_2 160 rfl rfl
abbrev y_RB_room : MethodName := ⟨"PlaceRules$RuleBook", "room", "()I"⟩
abbrev c_RB_room : ByteArray := prog_9_method_2_code
theorem kc_RB_room : Cond.code y_RB_room c_RB_room 1 (some .int) ∈ gts := gt_2 164 rfl rfl
abbrev y_TX_readLines : MethodName := ⟨"PlaceRules$Text", "readLines", "(I)I"⟩
abbrev c_TX_readLines : ByteArray := prog_10_method_4_code
theorem kc_TX_readLines : Cond.code y_TX_readLines c_TX_readLines 3 (some .int) ∈ gts := gt_2 168 rfl rfl
abbrev y_TX_readLine : MethodName := ⟨"PlaceRules$Text", "readLine", "(LPlaceRules$Rule;)Z"⟩
abbrev c_TX_readLine : ByteArray := prog_10_method_5_code
theorem kc_TX_readLine : Cond.code y_TX_readLine c_TX_readLine 2 (some .boolean) ∈ gts := gt_2 172 rfl rfl
abbrev y_TX_readNumber : MethodName := ⟨"PlaceRules$Text", "readNumber", "(II)Z"⟩
abbrev c_TX_readNumber : ByteArray := prog_10_method_6_code
theorem kc_TX_readNumber : Cond.code y_TX_readNumber c_TX_readNumber 6 (some .boolean) ∈ gts := gt_2 176 rfl rfl
abbrev y_TX_nextSign : MethodName := ⟨"PlaceRules$Text", "nextSign", "()I"⟩
abbrev c_TX_nextSign : ByteArray := prog_10_method_11_code
theorem kc_TX_nextSign : Cond.code y_TX_nextSign c_TX_nextSign 1 (some .int) ∈ gts := gt_2 180 rfl rfl
abbrev y_TX_isDigit : MethodName := ⟨"PlaceRules$Text", "isDigit", "(I)Z"⟩
abbrev c_TX_isDigit : ByteArray := prog_10_method_12_code
theorem kc_TX_isDigit : Cond.code y_TX_isDigit c_TX_isDigit 1 (some .boolean) ∈ gts := gt_2 183 rfl rfl
abbrev y_TX_fail : MethodName := ⟨"PlaceRules$Text", "fail", "(I)Z"⟩
abbrev c_TX_fail : ByteArray := prog_10_method_13_code
theorem kc_TX_fail : Cond.code y_TX_fail c_TX_fail 2 (some .boolean) ∈ gts := gt_2 187 rfl rfl
abbrev y_TX_readBlank : MethodName := ⟨"PlaceRules$Text", "readBlank", "()Z"⟩
abbrev c_TX_readBlank : ByteArray := prog_10_method_9_code
theorem kc_TX_readBlank : Cond.code y_TX_readBlank c_TX_readBlank 1 (some .boolean) ∈ gts := gt_2 191 rfl rfl
abbrev y_TX_readSign : MethodName := ⟨"PlaceRules$Text", "readSign", "(I)Z"⟩
abbrev c_TX_readSign : ByteArray := prog_10_method_10_code
theorem kc_TX_readSign : Cond.code y_TX_readSign c_TX_readSign 2 (some .boolean) ∈ gts := gt_2 195 rfl rfl
abbrev y_TX_readKind : MethodName := ⟨"PlaceRules$Text", "readKind", "()Z"⟩
abbrev c_TX_readKind : ByteArray := prog_10_method_7_code
theorem kc_TX_readKind : Cond.code y_TX_readKind c_TX_readKind 4 (some .boolean) ∈ gts := gt_2 199 rfl rfl
abbrev y_TX_sharedSigns : MethodName := ⟨"PlaceRules$Text", "sharedSigns", "(Ljava/lang/String;)I"⟩
abbrev c_TX_sharedSigns : ByteArray := prog_10_method_8_code
theorem kc_TX_sharedSigns : Cond.code y_TX_sharedSigns c_TX_sharedSigns 3 (some .int) ∈ gts := gt_2 205 rfl rfl
abbrev y_java_lang_String_length : MethodName := ⟨"java/lang/String", "length", "()I"⟩
abbrev c_java_lang_String_length : ByteArray := prog_22_method_54_code
theorem kc_java_lang_String_length : Cond.code y_java_lang_String_length c_java_lang_String_length 1 (some .int) ∈ gts := gt_2 209 rfl rfl
abbrev y_java_lang_String_coder : MethodName := ⟨"java/lang/String", "coder", "()B"⟩
abbrev c_java_lang_String_coder : ByteArray := prog_22_method_152_code
theorem kc_java_lang_String_coder : Cond.code y_java_lang_String_coder c_java_lang_String_coder 1 (some .byte) ∈ gts := gt_2 213 rfl rfl
abbrev y_java_lang_String_charAt : MethodName := ⟨"java/lang/String", "charAt", "(I)C"⟩
abbrev c_java_lang_String_charAt : ByteArray := prog_22_method_56_code
theorem kc_java_lang_String_charAt : Cond.code y_java_lang_String_charAt c_java_lang_String_charAt 2 (some .char) ∈ gts := gt_2 219 rfl rfl
abbrev y_java_lang_String_isLatin1 : MethodName := ⟨"java/lang/String", "isLatin1", "()Z"⟩
abbrev c_java_lang_String_isLatin1 : ByteArray := prog_22_method_154_code
theorem kc_java_lang_String_isLatin1 : Cond.code y_java_lang_String_isLatin1 c_java_lang_String_isLatin1 1 (some .boolean) ∈ gts := gt_2 223 rfl rfl
abbrev y_java_lang_StringLatin1_charAt : MethodName := ⟨"java/lang/StringLatin1", "charAt", "([BI)C"⟩
abbrev c_java_lang_StringLatin1_charAt : ByteArray := prog_23_method_2_code
theorem kc_java_lang_StringLatin1_charAt : Cond.code y_java_lang_StringLatin1_charAt c_java_lang_StringLatin1_charAt 2 (some .char) ∈ gts := gt_2 226 rfl rfl
abbrev y_java_lang_String_checkIndex : MethodName := ⟨"java/lang/String", "checkIndex", "(II)V"⟩
abbrev c_java_lang_String_checkIndex : ByteArray := prog_22_method_155_code
theorem kc_java_lang_String_checkIndex : Cond.code y_java_lang_String_checkIndex c_java_lang_String_checkIndex 2 none ∈ gts := gt_2 229 rfl rfl
abbrev y_jdk_internal_util_Preconditions_checkIndex : MethodName := ⟨"jdk/internal/util/Preconditions", "checkIndex", "(IILjava/util/function/BiFunction;)I"⟩
abbrev c_jdk_internal_util_Preconditions_checkIndex : ByteArray := prog_28_method_11_code
theorem kc_jdk_internal_util_Preconditions_checkIndex : Cond.code y_jdk_internal_util_Preconditions_checkIndex c_jdk_internal_util_Preconditions_checkIndex 3 (some .int) ∈ gts := gt_2 234 rfl rfl
abbrev y_java_lang_StringUTF16_charAt : MethodName := ⟨"java/lang/StringUTF16", "charAt", "([BI)C"⟩
abbrev c_java_lang_StringUTF16_charAt : ByteArray := prog_24_method_83_code
theorem kc_java_lang_StringUTF16_charAt : Cond.code y_java_lang_StringUTF16_charAt c_java_lang_StringUTF16_charAt 2 (some .char) ∈ gts := gt_2 237 rfl rfl
abbrev y_java_lang_StringUTF16_checkIndex : MethodName := ⟨"java/lang/StringUTF16", "checkIndex", "(I[B)V"⟩
abbrev c_java_lang_StringUTF16_checkIndex : ByteArray := prog_24_method_91_code
theorem kc_java_lang_StringUTF16_checkIndex : Cond.code y_java_lang_StringUTF16_checkIndex c_java_lang_StringUTF16_checkIndex 2 none ∈ gts := gt_3 0 rfl rfl
abbrev y_java_lang_StringUTF16_length : MethodName := ⟨"java/lang/StringUTF16", "length", "([B)I"⟩
abbrev c_java_lang_StringUTF16_length : ByteArray := prog_24_method_6_code
theorem kc_java_lang_StringUTF16_length : Cond.code y_java_lang_StringUTF16_length c_java_lang_StringUTF16_length 1 (some .int) ∈ gts := gt_3 3 rfl rfl
abbrev y_java_lang_StringUTF16_getChar : MethodName := ⟨"java/lang/StringUTF16", "getChar", "([BI)C"⟩
abbrev c_java_lang_StringUTF16_getChar : ByteArray := prog_24_method_5_code
theorem kc_java_lang_StringUTF16_getChar : Cond.code y_java_lang_StringUTF16_getChar c_java_lang_StringUTF16_getChar 2 (some .char) ∈ gts := gt_3 7 rfl rfl
abbrev y_KD_hasSecond : MethodName := ⟨"PlaceRules$Kind", "hasSecond", "()Z"⟩
abbrev c_KD_hasSecond : ByteArray := prog_3_method_4_code
theorem kc_KD_hasSecond : Cond.code y_KD_hasSecond c_KD_hasSecond 1 (some .boolean) ∈ gts := gt_3 17 rfl rfl
abbrev y_KD_leastSecond : MethodName := ⟨"PlaceRules$Kind", "leastSecond", "()I"⟩
abbrev c_KD_leastSecond : ByteArray := prog_3_method_5_code
theorem kc_KD_leastSecond : Cond.code y_KD_leastSecond c_KD_leastSecond 1 (some .int) ∈ gts := gt_3 21 rfl rfl
abbrev y_KD_mostSecond : MethodName := ⟨"PlaceRules$Kind", "mostSecond", "()I"⟩
abbrev c_KD_mostSecond : ByteArray := prog_3_method_6_code
theorem kc_KD_mostSecond : Cond.code y_KD_mostSecond c_KD_mostSecond 1 (some .int) ∈ gts := gt_3 26 rfl rfl
abbrev y_RB_addRule : MethodName := ⟨"PlaceRules$RuleBook", "addRule", "(ILPlaceRules$Kind;II)I"⟩
abbrev c_RB_addRule : ByteArray := prog_9_method_3_code
theorem kc_RB_addRule : Cond.code y_RB_addRule c_RB_addRule 7 (some .int) ∈ gts := gt_3 30 rfl rfl
abbrev y_RB_noteClashes : MethodName := ⟨"PlaceRules$RuleBook", "noteClashes", "(I)V"⟩
abbrev c_RB_noteClashes : ByteArray := prog_9_method_5_code
theorem kc_RB_noteClashes : Cond.code y_RB_noteClashes c_RB_noteClashes 4 none ∈ gts := gt_3 34 rfl rfl
abbrev y_RB_insertInOrder : MethodName := ⟨"PlaceRules$RuleBook", "insertInOrder", "(I)V"⟩
abbrev c_RB_insertInOrder : ByteArray := prog_9_method_6_code
theorem kc_RB_insertInOrder : Cond.code y_RB_insertInOrder c_RB_insertInOrder 3 none ∈ gts := gt_3 38 rfl rfl
abbrev y_TX_forget : MethodName := ⟨"PlaceRules$Text", "forget", "()V"⟩
abbrev c_TX_forget : ByteArray := prog_10_method_3_code
theorem kc_TX_forget : Cond.code y_TX_forget c_TX_forget 1 none ∈ gts := gt_3 42 rfl rfl
abbrev y_PR_count : MethodName := ⟨"PlaceRules", "count", "(I)I"⟩
abbrev c_PR_count : ByteArray := prog_1_method_20_code
theorem kc_PR_count : Cond.code y_PR_count c_PR_count 2 (some .int) ∈ gts := gt_3 46 rfl rfl
abbrev y_LW_place : MethodName := ⟨"PlaceRulesLaw", "place", "(LPlaceRules;IIII)I"⟩
abbrev c_LW_place : ByteArray := method_3_code
theorem kc_LW_place : Cond.codeWith y_LW_place c_LW_place 6 (some .int) [(0, 9, 12, 13)] ∈ gts := gt_3 49 rfl rfl
abbrev y_PR_place : MethodName := ⟨"PlaceRules", "place", "(IIII)V"⟩
abbrev c_PR_place : ByteArray := prog_1_method_2_code
theorem kc_PR_place : Cond.code y_PR_place c_PR_place 6 none ∈ gts := gt_3 54 rfl rfl
abbrev y_PR_needPlace : MethodName := ⟨"PlaceRules", "needPlace", "(I)V"⟩
abbrev c_PR_needPlace : ByteArray := prog_1_method_28_code
theorem kc_PR_needPlace : Cond.code y_PR_needPlace c_PR_needPlace 1 none ∈ gts := gt_3 57 rfl rfl
abbrev y_PR_needWithin : MethodName := ⟨"PlaceRules", "needWithin", "(III)V"⟩
abbrev c_PR_needWithin : ByteArray := prog_1_method_31_code
theorem kc_PR_needWithin : Cond.code y_PR_needWithin c_PR_needWithin 3 none ∈ gts := gt_3 60 rfl rfl
abbrev y_java_lang_Throwable_init : MethodName := ⟨"java/lang/Throwable", "<init>", "()V"⟩
abbrev c_java_lang_Throwable_init : ByteArray := prog_25_method_1_code
theorem kc_java_lang_Throwable_init : Cond.code y_java_lang_Throwable_init c_java_lang_Throwable_init 1 none ∈ gts := gt_3 85 rfl rfl
abbrev y_java_lang_IllegalArgumentException_init : MethodName := ⟨"java/lang/IllegalArgumentException", "<init>", "(Ljava/lang/String;)V"⟩
abbrev c_java_lang_IllegalArgumentException_init : ByteArray := prog_17_method_2_code
theorem kc_java_lang_IllegalArgumentException_init : Cond.code y_java_lang_IllegalArgumentException_init c_java_lang_IllegalArgumentException_init 2 none ∈ gts := gt_3 106 rfl rfl
abbrev y_java_lang_RuntimeException_init : MethodName := ⟨"java/lang/RuntimeException", "<init>", "(Ljava/lang/String;)V"⟩
abbrev c_java_lang_RuntimeException_init : ByteArray := prog_21_method_2_code
theorem kc_java_lang_RuntimeException_init : Cond.code y_java_lang_RuntimeException_init c_java_lang_RuntimeException_init 2 none ∈ gts := gt_3 109 rfl rfl
abbrev y_java_lang_Exception_init : MethodName := ⟨"java/lang/Exception", "<init>", "(Ljava/lang/String;)V"⟩
abbrev c_java_lang_Exception_init : ByteArray := prog_16_method_2_code
theorem kc_java_lang_Exception_init : Cond.code y_java_lang_Exception_init c_java_lang_Exception_init 2 none ∈ gts := gt_3 112 rfl rfl
abbrev y_java_lang_Throwable_init2 : MethodName := ⟨"java/lang/Throwable", "<init>", "(Ljava/lang/String;)V"⟩
abbrev c_java_lang_Throwable_init2 : ByteArray := prog_25_method_2_code
theorem kc_java_lang_Throwable_init2 : Cond.code y_java_lang_Throwable_init2 c_java_lang_Throwable_init2 2 none ∈ gts := gt_3 115 rfl rfl
abbrev y_PR_needLengths : MethodName := ⟨"PlaceRules", "needLengths", "(III)V"⟩
abbrev c_PR_needLengths : ByteArray := prog_1_method_29_code
theorem kc_PR_needLengths : Cond.code y_PR_needLengths c_PR_needLengths 3 none ∈ gts := gt_3 132 rfl rfl
abbrev y_LW_limit : MethodName := ⟨"PlaceRulesLaw", "limit", "(LPlaceRules;III)I"⟩
abbrev c_LW_limit : ByteArray := method_4_code
theorem kc_LW_limit : Cond.codeWith y_LW_limit c_LW_limit 5 (some .int) [(0, 7, 10, 13)] ∈ gts := gt_3 135 rfl rfl
abbrev y_PR_limit : MethodName := ⟨"PlaceRules", "limit", "(III)V"⟩
abbrev c_PR_limit : ByteArray := prog_1_method_3_code
theorem kc_PR_limit : Cond.code y_PR_limit c_PR_limit 4 none ∈ gts := gt_3 139 rfl rfl
abbrev y_LW_unit : MethodName := ⟨"PlaceRulesLaw", "unit", "(LPlaceRules;III[J)I"⟩
abbrev c_LW_unit : ByteArray := method_5_code
theorem kc_LW_unit : Cond.codeWith y_LW_unit c_LW_unit 6 (some .int) [(0, 12, 15, 13), (0, 12, 19, 23)] ∈ gts := gt_3 143 rfl rfl
abbrev y_PR_unit : MethodName := ⟨"PlaceRules", "unit", "(III)I"⟩
abbrev c_PR_unit : ByteArray := prog_1_method_4_code
theorem kc_PR_unit : Cond.code y_PR_unit c_PR_unit 5 (some .int) ∈ gts := gt_3 148 rfl rfl
abbrev y_java_lang_UnsupportedOperationException_init : MethodName := ⟨"java/lang/UnsupportedOperationException", "<init>", "(Ljava/lang/String;)V"⟩
abbrev c_java_lang_UnsupportedOperationException_init : ByteArray := prog_26_method_2_code
theorem kc_java_lang_UnsupportedOperationException_init : Cond.code y_java_lang_UnsupportedOperationException_init c_java_lang_UnsupportedOperationException_init 2 none ∈ gts := gt_3 161 rfl rfl
abbrev y_LW_size : MethodName := ⟨"PlaceRulesLaw", "size", "(LPlaceRules;IIIII)I"⟩
abbrev c_LW_size : ByteArray := method_6_code
theorem kc_LW_size : Cond.codeWith y_LW_size c_LW_size 7 (some .int) [(0, 11, 14, 29), (0, 11, 18, 13), (0, 11, 22, 31)] ∈ gts := gt_3 167 rfl rfl
abbrev y_PR_size : MethodName := ⟨"PlaceRules", "size", "(IIIII)V"⟩
abbrev c_PR_size : ByteArray := prog_1_method_5_code
theorem kc_PR_size : Cond.code y_PR_size c_PR_size 7 none ∈ gts := gt_3 173 rfl rfl
abbrev y_PR_needUnit : MethodName := ⟨"PlaceRules", "needUnit", "(I)V"⟩
abbrev c_PR_needUnit : ByteArray := prog_1_method_26_code
theorem kc_PR_needUnit : Cond.code y_PR_needUnit c_PR_needUnit 2 none ∈ gts := gt_3 177 rfl rfl
abbrev y_java_util_NoSuchElementException_init : MethodName := ⟨"java/util/NoSuchElementException", "<init>", "(Ljava/lang/String;)V"⟩
abbrev c_java_util_NoSuchElementException_init : ByteArray := prog_27_method_4_code
theorem kc_java_util_NoSuchElementException_init : Cond.code y_java_util_NoSuchElementException_init c_java_util_NoSuchElementException_init 2 none ∈ gts := gt_3 190 rfl rfl
abbrev y_PR_needNowhere : MethodName := ⟨"PlaceRules", "needNowhere", "(I)V"⟩
abbrev c_PR_needNowhere : ByteArray := prog_1_method_27_code
theorem kc_PR_needNowhere : Cond.code y_PR_needNowhere c_PR_needNowhere 2 none ∈ gts := gt_3 198 rfl rfl
abbrev y_java_lang_IllegalStateException_init : MethodName := ⟨"java/lang/IllegalStateException", "<init>", "(Ljava/lang/String;)V"⟩
abbrev c_java_lang_IllegalStateException_init : ByteArray := prog_18_method_2_code
theorem kc_java_lang_IllegalStateException_init : Cond.code y_java_lang_IllegalStateException_init c_java_lang_IllegalStateException_init 2 none ∈ gts := gt_3 211 rfl rfl
abbrev y_LW_nature : MethodName := ⟨"PlaceRulesLaw", "nature", "(LPlaceRules;IIII)I"⟩
abbrev c_LW_nature : ByteArray := method_7_code
theorem kc_LW_nature : Cond.codeWith y_LW_nature c_LW_nature 6 (some .int) [(0, 9, 12, 29), (0, 9, 16, 13), (0, 9, 20, 31)] ∈ gts := gt_3 217 rfl rfl
abbrev y_PR_nature : MethodName := ⟨"PlaceRules", "nature", "(IIII)V"⟩
abbrev c_PR_nature : ByteArray := prog_1_method_6_code
theorem kc_PR_nature : Cond.code y_PR_nature c_PR_nature 6 none ∈ gts := gt_3 221 rfl rfl
abbrev y_LW_rule : MethodName := ⟨"PlaceRulesLaw", "rule", "(LPlaceRules;IIII[J)I"⟩
abbrev c_LW_rule : ByteArray := method_8_code
theorem kc_LW_rule : Cond.codeWith y_LW_rule c_LW_rule 7 (some .int) [(0, 14, 17, 13), (0, 14, 21, 23)] ∈ gts := gt_3 224 rfl rfl
abbrev y_PR_rule : MethodName := ⟨"PlaceRules", "rule", "(IIII)I"⟩
abbrev c_PR_rule : ByteArray := prog_1_method_7_code
theorem kc_PR_rule : Cond.code y_PR_rule c_PR_rule 6 (some .int) ∈ gts := gt_3 228 rfl rfl
abbrev y_LW_own : MethodName := ⟨"PlaceRulesLaw", "own", "(LPlaceRules;II)I"⟩
abbrev c_LW_own : ByteArray := method_9_code
theorem kc_LW_own : Cond.codeWith y_LW_own c_LW_own 4 (some .int) [(0, 6, 9, 13)] ∈ gts := gt_3 235 rfl rfl
abbrev y_PR_own : MethodName := ⟨"PlaceRules", "own", "(II)V"⟩
abbrev c_PR_own : ByteArray := prog_1_method_10_code
theorem kc_PR_own : Cond.code y_PR_own c_PR_own 3 none ∈ gts := gt_3 239 rfl rfl
abbrev y_LW_except : MethodName := ⟨"PlaceRulesLaw", "except", "(LPlaceRules;IIII)I"⟩
abbrev c_LW_except : ByteArray := method_10_code
theorem kc_LW_except : Cond.codeWith y_LW_except c_LW_except 6 (some .int) [(0, 9, 12, 29), (0, 9, 16, 13), (0, 9, 20, 23)] ∈ gts := gt_4 2 rfl rfl
abbrev y_PR_except : MethodName := ⟨"PlaceRules", "except", "(IIII)V"⟩
abbrev c_PR_except : ByteArray := prog_1_method_11_code
theorem kc_PR_except : Cond.code y_PR_except c_PR_except 7 none ∈ gts := gt_4 6 rfl rfl
abbrev y_PR_findWaiver : MethodName := ⟨"PlaceRules", "findWaiver", "(III)I"⟩
abbrev c_PR_findWaiver : ByteArray := prog_1_method_24_code
theorem kc_PR_findWaiver : Cond.code y_PR_findWaiver c_PR_findWaiver 6 (some .int) ∈ gts := gt_4 11 rfl rfl
abbrev y_java_lang_Math_max : MethodName := ⟨"java/lang/Math", "max", "(II)I"⟩
abbrev c_java_lang_Math_max : ByteArray := prog_20_method_65_code
theorem kc_java_lang_Math_max : Cond.code y_java_lang_Math_max c_java_lang_Math_max 2 (some .int) ∈ gts := gt_4 14 rfl rfl
abbrev y_LW_may : MethodName := ⟨"PlaceRulesLaw", "may", "(LPlaceRules;III[J)I"⟩
abbrev c_LW_may : ByteArray := method_11_code
theorem kc_LW_may : Cond.codeWith y_LW_may c_LW_may 6 (some .int) [(0, 12, 15, 29), (0, 12, 19, 13)] ∈ gts := gt_4 18 rfl rfl
abbrev y_PR_may : MethodName := ⟨"PlaceRules", "may", "(III)I"⟩
abbrev c_PR_may : ByteArray := prog_1_method_12_code
theorem kc_PR_may : Cond.code y_PR_may c_PR_may 4 (some .int) ∈ gts := gt_4 22 rfl rfl
abbrev y_PR_needQuestion : MethodName := ⟨"PlaceRules", "needQuestion", "(III)V"⟩
abbrev c_PR_needQuestion : ByteArray := prog_1_method_25_code
theorem kc_PR_needQuestion : Cond.code y_PR_needQuestion c_PR_needQuestion 4 none ∈ gts := gt_4 26 rfl rfl
abbrev y_PR_ask : MethodName := ⟨"PlaceRules", "ask", "(III)I"⟩
abbrev c_PR_ask : ByteArray := prog_1_method_21_code
theorem kc_PR_ask : Cond.code y_PR_ask c_PR_ask 8 (some .int) ∈ gts := gt_4 30 rfl rfl
abbrev y_PR_gather : MethodName := ⟨"PlaceRules", "gather", "(III)V"⟩
abbrev c_PR_gather : ByteArray := prog_1_method_22_code
theorem kc_PR_gather : Cond.code y_PR_gather c_PR_gather 5 none ∈ gts := gt_4 34 rfl rfl
abbrev y_QU_begin : MethodName := ⟨"PlaceRules$Question", "begin", "(LPlaceRules$Unit;LPlaceRules$Place;I)V"⟩
abbrev c_QU_begin : ByteArray := prog_7_method_2_code
theorem kc_QU_begin : Cond.code y_QU_begin c_QU_begin 4 none ∈ gts := gt_4 38 rfl rfl
abbrev y_PL_fits : MethodName := ⟨"PlaceRules$Place", "fits", "(LPlaceRules$Unit;I)Z"⟩
abbrev c_PL_fits : ByteArray := prog_6_method_3_code
theorem kc_PL_fits : Cond.code y_PL_fits c_PL_fits 3 (some .boolean) ∈ gts := gt_4 42 rfl rfl
abbrev y_PL_holds : MethodName := ⟨"PlaceRules$Place", "holds", "(III)Z"⟩
abbrev c_PL_holds : ByteArray := prog_6_method_4_code
theorem kc_PL_holds : Cond.code y_PL_holds c_PL_holds 4 (some .boolean) ∈ gts := gt_4 46 rfl rfl
abbrev y_PL_firstWayFor : MethodName := ⟨"PlaceRules$Place", "firstWayFor", "(LPlaceRules$Unit;)I"⟩
abbrev c_PL_firstWayFor : ByteArray := prog_6_method_2_code
theorem kc_PL_firstWayFor : Cond.code y_PL_firstWayFor c_PL_firstWayFor 3 (some .int) ∈ gts := gt_4 50 rfl rfl
abbrev y_NS_holdOnly : MethodName := ⟨"PlaceRules$NumberSet", "holdOnly", "(I)V"⟩
abbrev c_NS_holdOnly : ByteArray := prog_4_method_3_code
theorem kc_NS_holdOnly : Cond.code y_NS_holdOnly c_NS_holdOnly 2 none ∈ gts := gt_4 55 rfl rfl
abbrev y_NS_clear : MethodName := ⟨"PlaceRules$NumberSet", "clear", "()V"⟩
abbrev c_NS_clear : ByteArray := prog_4_method_2_code
theorem kc_NS_clear : Cond.code y_NS_clear c_NS_clear 1 none ∈ gts := gt_4 59 rfl rfl
abbrev y_NS_add : MethodName := ⟨"PlaceRules$NumberSet", "add", "(I)V"⟩
abbrev c_NS_add : ByteArray := prog_4_method_4_code
theorem kc_NS_add : Cond.code y_NS_add c_NS_add 2 none ∈ gts := gt_4 63 rfl rfl
abbrev y_QU_addOther : MethodName := ⟨"PlaceRules$Question", "addOther", "(LPlaceRules$Unit;)V"⟩
abbrev c_QU_addOther : ByteArray := prog_7_method_3_code
theorem kc_QU_addOther : Cond.code y_QU_addOther c_QU_addOther 2 none ∈ gts := gt_4 68 rfl rfl
abbrev y_java_lang_Math_min : MethodName := ⟨"java/lang/Math", "min", "(II)I"⟩
abbrev c_java_lang_Math_min : ByteArray := prog_20_method_69_code
theorem kc_java_lang_Math_min : Cond.code y_java_lang_Math_min c_java_lang_Math_min 2 (some .int) ∈ gts := gt_4 71 rfl rfl
abbrev y_PR_isWaived : MethodName := ⟨"PlaceRules", "isWaived", "(IIII)Z"⟩
abbrev c_PR_isWaived : ByteArray := prog_1_method_23_code
theorem kc_PR_isWaived : Cond.code y_PR_isWaived c_PR_isWaived 6 (some .boolean) ∈ gts := gt_4 77 rfl rfl
abbrev y_WV_covers : MethodName := ⟨"PlaceRules$Waiver", "covers", "(IIII)Z"⟩
abbrev c_WV_covers : ByteArray := prog_12_method_2_code
theorem kc_WV_covers : Cond.code y_WV_covers c_WV_covers 5 (some .boolean) ∈ gts := gt_4 81 rfl rfl
abbrev y_RU_refuses : MethodName := ⟨"PlaceRules$Rule", "refuses", "(LPlaceRules$Question;LPlaceRules$OwnRules;)Z"⟩
abbrev c_RU_refuses : ByteArray := prog_8_method_2_code
theorem kc_RU_refuses : Cond.code y_RU_refuses c_RU_refuses 3 (some .boolean) ∈ gts := gt_4 85 rfl rfl
abbrev y_java_lang_Enum_ordinal : MethodName := ⟨"java/lang/Enum", "ordinal", "()I"⟩
abbrev c_java_lang_Enum_ordinal : ByteArray := prog_15_method_2_code
theorem kc_java_lang_Enum_ordinal : Cond.code y_java_lang_Enum_ordinal c_java_lang_Enum_ordinal 1 (some .int) ∈ gts := gt_4 93 rfl rfl
abbrev y_NS_howMany : MethodName := ⟨"PlaceRules$NumberSet", "howMany", "()I"⟩
abbrev c_NS_howMany : ByteArray := prog_4_method_6_code
theorem kc_NS_howMany : Cond.code y_NS_howMany c_NS_howMany 1 (some .int) ∈ gts := gt_4 97 rfl rfl
abbrev y_java_lang_Long_bitCount : MethodName := ⟨"java/lang/Long", "bitCount", "(J)I"⟩
abbrev c_java_lang_Long_bitCount : ByteArray := prog_19_method_50_code
theorem kc_java_lang_Long_bitCount : Cond.code y_java_lang_Long_bitCount c_java_lang_Long_bitCount 2 (some .int) ∈ gts := gt_4 100 rfl rfl
abbrev y_QU_meetsHazards : MethodName := ⟨"PlaceRules$Question", "meetsHazards", "(II)Z"⟩
abbrev c_QU_meetsHazards : ByteArray := prog_7_method_4_code
theorem kc_QU_meetsHazards : Cond.code y_QU_meetsHazards c_QU_meetsHazards 3 (some .boolean) ∈ gts := gt_4 107 rfl rfl
abbrev y_NS_has : MethodName := ⟨"PlaceRules$NumberSet", "has", "(I)Z"⟩
abbrev c_NS_has : ByteArray := prog_4_method_5_code
theorem kc_NS_has : Cond.code y_NS_has c_NS_has 4 (some .boolean) ∈ gts := gt_4 111 rfl rfl
abbrev y_OW_refuse : MethodName := ⟨"PlaceRules$OwnRules", "refuse", "(ILPlaceRules$Question;)Z"⟩
abbrev c_OW_refuse : ByteArray := prog_5_method_2_code
theorem kc_OW_refuse : Cond.code y_OW_refuse c_OW_refuse 3 (some .boolean) ∈ gts := gt_4 115 rfl rfl
abbrev y_LW_explain : MethodName := ⟨"PlaceRulesLaw", "explain", "(LPlaceRules;I[J)I"⟩
abbrev c_LW_explain : ByteArray := method_12_code
theorem kc_LW_explain : Cond.codeWith y_LW_explain c_LW_explain 4 (some .int) [(0, 9, 12, 13)] ∈ gts := gt_4 118 rfl rfl
abbrev y_PR_explain : MethodName := ⟨"PlaceRules", "explain", "(I)I"⟩
abbrev c_PR_explain : ByteArray := prog_1_method_13_code
theorem kc_PR_explain : Cond.code y_PR_explain c_PR_explain 2 (some .int) ∈ gts := gt_4 122 rfl rfl
abbrev y_PR_needIndex : MethodName := ⟨"PlaceRules", "needIndex", "(I)V"⟩
abbrev c_PR_needIndex : ByteArray := prog_1_method_30_code
theorem kc_PR_needIndex : Cond.code y_PR_needIndex c_PR_needIndex 1 none ∈ gts := gt_4 125 rfl rfl
abbrev y_LW_put : MethodName := ⟨"PlaceRulesLaw", "put", "(LPlaceRules;III[J)I"⟩
abbrev c_LW_put : ByteArray := method_13_code
theorem kc_LW_put : Cond.codeWith y_LW_put c_LW_put 6 (some .int) [(0, 12, 15, 29), (0, 12, 19, 13), (0, 12, 23, 31)] ∈ gts := gt_4 129 rfl rfl
abbrev y_PR_put : MethodName := ⟨"PlaceRules", "put", "(III)I"⟩
abbrev c_PR_put : ByteArray := prog_1_method_14_code
theorem kc_PR_put : Cond.code y_PR_put c_PR_put 5 (some .int) ∈ gts := gt_4 133 rfl rfl
abbrev y_LW_take : MethodName := ⟨"PlaceRulesLaw", "take", "(LPlaceRules;I)I"⟩
abbrev c_LW_take : ByteArray := method_14_code
theorem kc_LW_take : Cond.codeWith y_LW_take c_LW_take 3 (some .int) [(0, 5, 8, 29), (0, 5, 11, 31)] ∈ gts := gt_4 137 rfl rfl
abbrev y_PR_take : MethodName := ⟨"PlaceRules", "take", "(I)V"⟩
abbrev c_PR_take : ByteArray := prog_1_method_15_code
theorem kc_PR_take : Cond.code y_PR_take c_PR_take 2 none ∈ gts := gt_4 141 rfl rfl
abbrev y_LW_turned : MethodName := ⟨"PlaceRulesLaw", "turned", "(LPlaceRules;II[J)I"⟩
abbrev c_LW_turned : ByteArray := method_15_code
theorem kc_LW_turned : Cond.codeWith y_LW_turned c_LW_turned 5 (some .int) [(0, 10, 13, 29), (0, 10, 17, 13)] ∈ gts := gt_4 145 rfl rfl
abbrev y_PR_turned : MethodName := ⟨"PlaceRules", "turned", "(II)I"⟩
abbrev c_PR_turned : ByteArray := prog_1_method_16_code
theorem kc_PR_turned : Cond.code y_PR_turned c_PR_turned 3 (some .int) ∈ gts := gt_4 149 rfl rfl
abbrev y_LW_never : MethodName := ⟨"PlaceRulesLaw", "never", "(LPlaceRules;I[J)I"⟩
abbrev c_LW_never : ByteArray := method_16_code
theorem kc_LW_never : Cond.codeWith y_LW_never c_LW_never 4 (some .int) [(0, 9, 12, 13)] ∈ gts := gt_4 153 rfl rfl
abbrev y_PR_never : MethodName := ⟨"PlaceRules", "never", "(I)I"⟩
abbrev c_PR_never : ByteArray := prog_1_method_17_code
theorem kc_PR_never : Cond.code y_PR_never c_PR_never 2 (some .int) ∈ gts := gt_4 157 rfl rfl
abbrev y_RB_neverRefused : MethodName := ⟨"PlaceRules$RuleBook", "neverRefused", "(I)I"⟩
abbrev c_RB_neverRefused : ByteArray := prog_9_method_4_code
theorem kc_RB_neverRefused : Cond.code y_RB_neverRefused c_RB_neverRefused 4 (some .int) ∈ gts := gt_4 161 rfl rfl
abbrev y_LW_clash : MethodName := ⟨"PlaceRulesLaw", "clash", "(LPlaceRules;II[J)I"⟩
abbrev c_LW_clash : ByteArray := method_17_code
theorem kc_LW_clash : Cond.codeWith y_LW_clash c_LW_clash 5 (some .int) [(0, 10, 13, 13)] ∈ gts := gt_4 164 rfl rfl
abbrev y_PR_clash : MethodName := ⟨"PlaceRules", "clash", "(II)I"⟩
abbrev c_PR_clash : ByteArray := prog_1_method_18_code
theorem kc_PR_clash : Cond.code y_PR_clash c_PR_clash 3 (some .int) ∈ gts := gt_4 168 rfl rfl
abbrev y_LW_at : MethodName := ⟨"PlaceRulesLaw", "at", "(LPlaceRules;II[J)I"⟩
abbrev c_LW_at : ByteArray := method_18_code
theorem kc_LW_at : Cond.codeWith y_LW_at c_LW_at 5 (some .int) [(0, 10, 13, 13)] ∈ gts := gt_4 171 rfl rfl
abbrev y_PR_at : MethodName := ⟨"PlaceRules", "at", "(II)I"⟩
abbrev c_PR_at : ByteArray := prog_1_method_19_code
theorem kc_PR_at : Cond.code y_PR_at c_PR_at 5 (some .int) ∈ gts := gt_4 175 rfl rfl
abbrev y_MD_init : MethodName := ⟨"PlaceRulesModel", "<init>", "()V"⟩
abbrev c_MD_init : ByteArray := prog_14_method_1_code
theorem kc_MD_init : Cond.code y_MD_init c_MD_init 2 none ∈ gts := gt_4 180 rfl rfl
abbrev y_MD_thrown : MethodName := ⟨"PlaceRulesModel", "thrown", "()I"⟩
abbrev c_MD_thrown : ByteArray := prog_14_method_2_code
theorem kc_MD_thrown : Cond.code y_MD_thrown c_MD_thrown 1 (some .int) ∈ gts := gt_5 32 rfl rfl
abbrev y_MD_place : MethodName := ⟨"PlaceRulesModel", "place", "(IIII)V"⟩
abbrev c_MD_place : ByteArray := prog_14_method_7_code
theorem kc_MD_place : Cond.code y_MD_place c_MD_place 5 none ∈ gts := gt_5 36 rfl rfl
abbrev y_MD_isPlace : MethodName := ⟨"PlaceRulesModel", "isPlace", "(I)Z"⟩
abbrev c_MD_isPlace : ByteArray := prog_14_method_6_code
theorem kc_MD_isPlace : Cond.code y_MD_isPlace c_MD_isPlace 1 (some .boolean) ∈ gts := gt_5 39 rfl rfl
abbrev y_MD_in : MethodName := ⟨"PlaceRulesModel", "in", "(III)Z"⟩
abbrev c_MD_in : ByteArray := prog_14_method_3_code
theorem kc_MD_in : Cond.code y_MD_in c_MD_in 3 (some .boolean) ∈ gts := gt_5 42 rfl rfl
abbrev y_MD_isSize : MethodName := ⟨"PlaceRulesModel", "isSize", "(III)Z"⟩
abbrev c_MD_isSize : ByteArray := prog_14_method_5_code
theorem kc_MD_isSize : Cond.code y_MD_isSize c_MD_isSize 3 (some .boolean) ∈ gts := gt_5 45 rfl rfl
abbrev y_MD_fails : MethodName := ⟨"PlaceRulesModel", "fails", "(ZZZ)Z"⟩
abbrev c_MD_fails : ByteArray := prog_14_method_4_code
theorem kc_MD_fails : Cond.code y_MD_fails c_MD_fails 4 (some .boolean) ∈ gts := gt_5 49 rfl rfl
abbrev y_MD_limit : MethodName := ⟨"PlaceRulesModel", "limit", "(III)V"⟩
abbrev c_MD_limit : ByteArray := prog_14_method_8_code
theorem kc_MD_limit : Cond.code y_MD_limit c_MD_limit 4 none ∈ gts := gt_5 53 rfl rfl
abbrev y_MD_unit : MethodName := ⟨"PlaceRulesModel", "unit", "(III)I"⟩
abbrev c_MD_unit : ByteArray := prog_14_method_10_code
theorem kc_MD_unit : Cond.code y_MD_unit c_MD_unit 4 (some .int) ∈ gts := gt_5 58 rfl rfl
abbrev y_MD_lay : MethodName := ⟨"PlaceRulesModel", "lay", "(IIIII)V"⟩
abbrev c_MD_lay : ByteArray := prog_14_method_9_code
theorem kc_MD_lay : Cond.code y_MD_lay c_MD_lay 6 none ∈ gts := gt_5 62 rfl rfl
abbrev y_MD_size : MethodName := ⟨"PlaceRulesModel", "size", "(IIIII)V"⟩
abbrev c_MD_size : ByteArray := prog_14_method_12_code
theorem kc_MD_size : Cond.code y_MD_size c_MD_size 7 none ∈ gts := gt_5 66 rfl rfl
abbrev y_MD_isUnit : MethodName := ⟨"PlaceRulesModel", "isUnit", "(I)Z"⟩
abbrev c_MD_isUnit : ByteArray := prog_14_method_11_code
theorem kc_MD_isUnit : Cond.code y_MD_isUnit c_MD_isUnit 2 (some .boolean) ∈ gts := gt_5 71 rfl rfl
abbrev y_MD_nature : MethodName := ⟨"PlaceRulesModel", "nature", "(IIII)V"⟩
abbrev c_MD_nature : ByteArray := prog_14_method_13_code
theorem kc_MD_nature : Cond.code y_MD_nature c_MD_nature 6 none ∈ gts := gt_5 75 rfl rfl
abbrev y_MD_rule : MethodName := ⟨"PlaceRulesModel", "rule", "(IIII)I"⟩
abbrev c_MD_rule : ByteArray := prog_14_method_17_code
theorem kc_MD_rule : Cond.code y_MD_rule c_MD_rule 6 (some .int) ∈ gts := gt_5 79 rfl rfl
abbrev y_MD_isA : MethodName := ⟨"PlaceRulesModel", "isA", "(II)Z"⟩
abbrev c_MD_isA : ByteArray := prog_14_method_14_code
theorem kc_MD_isA : Cond.code y_MD_isA c_MD_isA 2 (some .boolean) ∈ gts := gt_5 82 rfl rfl
abbrev y_MD_isTwo : MethodName := ⟨"PlaceRulesModel", "isTwo", "(I)Z"⟩
abbrev c_MD_isTwo : ByteArray := prog_14_method_15_code
theorem kc_MD_isTwo : Cond.code y_MD_isTwo c_MD_isTwo 1 (some .boolean) ∈ gts := gt_5 85 rfl rfl
abbrev y_MD_comes : MethodName := ⟨"PlaceRulesModel", "comes", "(IIII)V"⟩
abbrev c_MD_comes : ByteArray := prog_14_method_16_code
theorem kc_MD_comes : Cond.code y_MD_comes c_MD_comes 6 none ∈ gts := gt_5 89 rfl rfl
abbrev y_MD_sign : MethodName := ⟨"PlaceRulesModel", "sign", "(I)I"⟩
abbrev c_MD_sign : ByteArray := prog_14_method_18_code
theorem kc_MD_sign : Cond.code y_MD_sign c_MD_sign 2 (some .int) ∈ gts := gt_5 93 rfl rfl
abbrev y_MD_read : MethodName := ⟨"PlaceRulesModel", "read", "()I"⟩
abbrev c_MD_read : ByteArray := prog_14_method_28_code
theorem kc_MD_read : Cond.code y_MD_read c_MD_read 2 (some .int) ∈ gts := gt_5 97 rfl rfl
abbrev y_MD_fault : MethodName := ⟨"PlaceRulesModel", "fault", "(I)V"⟩
abbrev c_MD_fault : ByteArray := prog_14_method_20_code
theorem kc_MD_fault : Cond.code y_MD_fault c_MD_fault 2 none ∈ gts := gt_5 101 rfl rfl
abbrev y_MD_line : MethodName := ⟨"PlaceRulesModel", "line", "(Z)V"⟩
abbrev c_MD_line : ByteArray := prog_14_method_27_code
theorem kc_MD_line : Cond.code y_MD_line c_MD_line 6 none ∈ gts := gt_5 105 rfl rfl
abbrev y_MD_digits : MethodName := ⟨"PlaceRulesModel", "digits", "()I"⟩
abbrev c_MD_digits : ByteArray := prog_14_method_23_code
theorem kc_MD_digits : Cond.code y_MD_digits c_MD_digits 2 (some .int) ∈ gts := gt_5 109 rfl rfl
abbrev y_MD_isDigit : MethodName := ⟨"PlaceRulesModel", "isDigit", "()Z"⟩
abbrev c_MD_isDigit : ByteArray := prog_14_method_22_code
theorem kc_MD_isDigit : Cond.code y_MD_isDigit c_MD_isDigit 1 (some .boolean) ∈ gts := gt_5 113 rfl rfl
abbrev y_MD_now : MethodName := ⟨"PlaceRulesModel", "now", "()I"⟩
abbrev c_MD_now : ByteArray := prog_14_method_19_code
theorem kc_MD_now : Cond.code y_MD_now c_MD_now 1 (some .int) ∈ gts := gt_5 117 rfl rfl
abbrev y_MD_pass : MethodName := ⟨"PlaceRulesModel", "pass", "(I)V"⟩
abbrev c_MD_pass : ByteArray := prog_14_method_21_code
theorem kc_MD_pass : Cond.code y_MD_pass c_MD_pass 2 none ∈ gts := gt_5 121 rfl rfl
abbrev y_MD_kind : MethodName := ⟨"PlaceRulesModel", "kind", "()I"⟩
abbrev c_MD_kind : ByteArray := prog_14_method_26_code
theorem kc_MD_kind : Cond.code y_MD_kind c_MD_kind 6 (some .int) ∈ gts := gt_5 125 rfl rfl
abbrev y_MD_match : MethodName := ⟨"PlaceRulesModel", "match", "(II)I"⟩
abbrev c_MD_match : ByteArray := prog_14_method_24_code
theorem kc_MD_match : Cond.code y_MD_match c_MD_match 4 (some .int) ∈ gts := gt_5 129 rfl rfl
abbrev y_MD_lengthOf : MethodName := ⟨"PlaceRulesModel", "lengthOf", "(I)I"⟩
abbrev c_MD_lengthOf : ByteArray := prog_14_method_25_code
theorem kc_MD_lengthOf : Cond.code y_MD_lengthOf c_MD_lengthOf 3 (some .int) ∈ gts := gt_5 133 rfl rfl
abbrev y_MD_own : MethodName := ⟨"PlaceRulesModel", "own", "(II)V"⟩
abbrev c_MD_own : ByteArray := prog_14_method_29_code
theorem kc_MD_own : Cond.code y_MD_own c_MD_own 3 none ∈ gts := gt_5 137 rfl rfl
abbrev y_MD_except : MethodName := ⟨"PlaceRulesModel", "except", "(IIII)V"⟩
abbrev c_MD_except : ByteArray := prog_14_method_30_code
theorem kc_MD_except : Cond.code y_MD_except c_MD_except 7 none ∈ gts := gt_5 141 rfl rfl
abbrev y_MD_may : MethodName := ⟨"PlaceRulesModel", "may", "(III)I"⟩
abbrev c_MD_may : ByteArray := prog_14_method_43_code
theorem kc_MD_may : Cond.code y_MD_may c_MD_may 4 (some .int) ∈ gts := gt_5 145 rfl rfl
abbrev y_MD_ask : MethodName := ⟨"PlaceRulesModel", "ask", "(III)I"⟩
abbrev c_MD_ask : ByteArray := prog_14_method_42_code
theorem kc_MD_ask : Cond.code y_MD_ask c_MD_ask 6 (some .int) ∈ gts := gt_5 149 rfl rfl
abbrev y_MD_isExcepted : MethodName := ⟨"PlaceRulesModel", "isExcepted", "(IIII)Z"⟩
abbrev c_MD_isExcepted : ByteArray := prog_14_method_31_code
theorem kc_MD_isExcepted : Cond.code y_MD_isExcepted c_MD_isExcepted 9 (some .boolean) ∈ gts := gt_5 153 rfl rfl
abbrev y_MD_refuses : MethodName := ⟨"PlaceRulesModel", "refuses", "(IIII)Z"⟩
abbrev c_MD_refuses : ByteArray := prog_14_method_41_code
theorem kc_MD_refuses : Cond.code y_MD_refuses c_MD_refuses 8 (some .boolean) ∈ gts := gt_5 157 rfl rfl
abbrev y_MD_isSized : MethodName := ⟨"PlaceRulesModel", "isSized", "(III)Z"⟩
abbrev c_MD_isSized : ByteArray := prog_14_method_39_code
theorem kc_MD_isSized : Cond.code y_MD_isSized c_MD_isSized 6 (some .boolean) ∈ gts := gt_5 161 rfl rfl
abbrev y_MD_fits : MethodName := ⟨"PlaceRulesModel", "fits", "(III)Z"⟩
abbrev c_MD_fits : ByteArray := prog_14_method_36_code
theorem kc_MD_fits : Cond.code y_MD_fits c_MD_fits 9 (some .boolean) ∈ gts := gt_5 165 rfl rfl
abbrev y_MD_others : MethodName := ⟨"PlaceRulesModel", "others", "(II)I"⟩
abbrev c_MD_others : ByteArray := prog_14_method_34_code
theorem kc_MD_others : Cond.code y_MD_others c_MD_others 5 (some .int) ∈ gts := gt_5 169 rfl rfl
abbrev y_MD_unlike : MethodName := ⟨"PlaceRulesModel", "unlike", "(III)I"⟩
abbrev c_MD_unlike : ByteArray := prog_14_method_33_code
theorem kc_MD_unlike : Cond.code y_MD_unlike c_MD_unlike 9 (some .int) ∈ gts := gt_5 173 rfl rfl
abbrev y_MD_isThere : MethodName := ⟨"PlaceRulesModel", "isThere", "(III)Z"⟩
abbrev c_MD_isThere : ByteArray := prog_14_method_32_code
theorem kc_MD_isThere : Cond.code y_MD_isThere c_MD_isThere 4 (some .boolean) ∈ gts := gt_5 177 rfl rfl
abbrev y_MD_meets : MethodName := ⟨"PlaceRulesModel", "meets", "(III)Z"⟩
abbrev c_MD_meets : ByteArray := prog_14_method_35_code
theorem kc_MD_meets : Cond.code y_MD_meets c_MD_meets 6 (some .boolean) ∈ gts := gt_5 181 rfl rfl
abbrev y_MD_many : MethodName := ⟨"PlaceRulesModel", "many", "(II)I"⟩
abbrev c_MD_many : ByteArray := prog_14_method_38_code
theorem kc_MD_many : Cond.code y_MD_many c_MD_many 5 (some .int) ∈ gts := gt_5 185 rfl rfl
abbrev y_MD_span : MethodName := ⟨"PlaceRulesModel", "span", "(II)I"⟩
abbrev c_MD_span : ByteArray := prog_14_method_37_code
theorem kc_MD_span : Cond.code y_MD_span c_MD_span 8 (some .int) ∈ gts := gt_5 189 rfl rfl
abbrev y_MD_ownRefuses : MethodName := ⟨"PlaceRulesModel", "ownRefuses", "(III)Z"⟩
abbrev c_MD_ownRefuses : ByteArray := prog_14_method_40_code
theorem kc_MD_ownRefuses : Cond.code y_MD_ownRefuses c_MD_ownRefuses 4 (some .boolean) ∈ gts := gt_5 193 rfl rfl
abbrev y_MD_explain : MethodName := ⟨"PlaceRulesModel", "explain", "(I)I"⟩
abbrev c_MD_explain : ByteArray := prog_14_method_44_code
theorem kc_MD_explain : Cond.code y_MD_explain c_MD_explain 2 (some .int) ∈ gts := gt_5 197 rfl rfl
abbrev y_MD_put : MethodName := ⟨"PlaceRulesModel", "put", "(III)I"⟩
abbrev c_MD_put : ByteArray := prog_14_method_45_code
theorem kc_MD_put : Cond.code y_MD_put c_MD_put 6 (some .int) ∈ gts := gt_5 201 rfl rfl
abbrev y_MD_take : MethodName := ⟨"PlaceRulesModel", "take", "(I)V"⟩
abbrev c_MD_take : ByteArray := prog_14_method_46_code
theorem kc_MD_take : Cond.code y_MD_take c_MD_take 2 none ∈ gts := gt_5 205 rfl rfl
abbrev y_MD_turned : MethodName := ⟨"PlaceRulesModel", "turned", "(II)I"⟩
abbrev c_MD_turned : ByteArray := prog_14_method_47_code
theorem kc_MD_turned : Cond.code y_MD_turned c_MD_turned 4 (some .int) ∈ gts := gt_5 209 rfl rfl
abbrev y_MD_never : MethodName := ⟨"PlaceRulesModel", "never", "(I)I"⟩
abbrev c_MD_never : ByteArray := prog_14_method_48_code
theorem kc_MD_never : Cond.code y_MD_never c_MD_never 4 (some .int) ∈ gts := gt_5 213 rfl rfl
abbrev y_MD_clash : MethodName := ⟨"PlaceRulesModel", "clash", "(II)I"⟩
abbrev c_MD_clash : ByteArray := prog_14_method_49_code
theorem kc_MD_clash : Cond.code y_MD_clash c_MD_clash 3 (some .int) ∈ gts := gt_5 217 rfl rfl
abbrev y_MD_at : MethodName := ⟨"PlaceRulesModel", "at", "(II)I"⟩
abbrev c_MD_at : ByteArray := prog_14_method_50_code
theorem kc_MD_at : Cond.code y_MD_at c_MD_at 5 (some .int) ∈ gts := gt_5 221 rfl rfl
abbrev y_MD_count : MethodName := ⟨"PlaceRulesModel", "count", "(I)I"⟩
abbrev c_MD_count : ByteArray := prog_14_method_51_code
theorem kc_MD_count : Cond.code y_MD_count c_MD_count 2 (some .int) ∈ gts := gt_5 225 rfl rfl
theorem kt_LW : Cond.initialized "PlaceRulesLaw" ∈ gts := gt_1 0 rfl rfl
theorem kt_PR : Cond.initialized "PlaceRules" ∈ gts := gt_1 1 rfl rfl
theorem kt_RB : Cond.initialized "PlaceRules$RuleBook" ∈ gts := gt_1 2 rfl rfl
theorem kt_RU : Cond.initialized "PlaceRules$Rule" ∈ gts := gt_1 3 rfl rfl
theorem kt_java_lang_Enum : Cond.initialized "java/lang/Enum" ∈ gts := gt_1 4 rfl rfl
theorem kt_KD : Cond.initialized "PlaceRules$Kind" ∈ gts := gt_1 5 rfl rfl
theorem kt_OW : Cond.initialized "PlaceRules$OwnRules" ∈ gts := gt_1 6 rfl rfl
theorem kt_TX : Cond.initialized "PlaceRules$Text" ∈ gts := gt_1 7 rfl rfl
theorem kt_QU : Cond.initialized "PlaceRules$Question" ∈ gts := gt_1 8 rfl rfl
theorem kt_NS : Cond.initialized "PlaceRules$NumberSet" ∈ gts := gt_1 9 rfl rfl
theorem kt_PL : Cond.initialized "PlaceRules$Place" ∈ gts := gt_1 10 rfl rfl
theorem kt_UN : Cond.initialized "PlaceRules$Unit" ∈ gts := gt_1 11 rfl rfl
theorem kt_WV : Cond.initialized "PlaceRules$Waiver" ∈ gts := gt_1 12 rfl rfl
theorem kt_MD : Cond.initialized "PlaceRulesModel" ∈ gts := gt_1 13 rfl rfl
theorem kt_java_lang_Throwable : Cond.initialized "java/lang/Throwable" ∈ gts := gt_1 14 rfl rfl
theorem kt_java_lang_Exception : Cond.initialized "java/lang/Exception" ∈ gts := gt_1 15 rfl rfl
theorem kt_java_lang_RuntimeException : Cond.initialized "java/lang/RuntimeException" ∈ gts := gt_1 16 rfl rfl
theorem kt_java_lang_IllegalArgumentException : Cond.initialized "java/lang/IllegalArgumentException" ∈ gts := gt_1 17 rfl rfl
theorem kt_java_lang_UnsupportedOperationException : Cond.initialized "java/lang/UnsupportedOperationException" ∈ gts := gt_1 18 rfl rfl
theorem kt_java_util_NoSuchElementException : Cond.initialized "java/util/NoSuchElementException" ∈ gts := gt_1 19 rfl rfl
theorem kt_java_lang_IllegalStateException : Cond.initialized "java/lang/IllegalStateException" ∈ gts := gt_1 20 rfl rfl
theorem kt_java_lang_String : Cond.initialized "java/lang/String" ∈ gts := gt_1 21 rfl rfl
theorem kt_java_lang_StringLatin1 : Cond.initialized "java/lang/StringLatin1" ∈ gts := gt_1 22 rfl rfl
theorem kt_jdk_internal_util_Preconditions : Cond.initialized "jdk/internal/util/Preconditions" ∈ gts := gt_1 23 rfl rfl
theorem kt_java_lang_StringUTF16 : Cond.initialized "java/lang/StringUTF16" ∈ gts := gt_1 24 rfl rfl
theorem kt_java_lang_Math : Cond.initialized "java/lang/Math" ∈ gts := gt_1 25 rfl rfl
theorem kt_SW : Cond.initialized "PlaceRules$1" ∈ gts := gt_1 26 rfl rfl
theorem kt_java_lang_Long : Cond.initialized "java/lang/Long" ∈ gts := gt_1 27 rfl rfl
theorem kk_LW_8 : Cond.classLink "PlaceRulesLaw" 8 "PlaceRules" ∈ gts := gt_1 28 rfl rfl
theorem kn_PR : Cond.instantiable "PlaceRules" 11 ∈ gts := gt_1 29 rfl rfl
theorem km_LW_74 : Cond.methodLink "PlaceRulesLaw" 74 ⟨"PlaceRules", "<init>", "()V"⟩ ∈ gts := gt_1 30 rfl rfl
theorem ki_PR_init : Cond.instanceMethod ⟨"PlaceRules", "<init>", "()V"⟩ ∈ gts := gt_1 31 rfl rfl
theorem km_PR_1 : Cond.methodLink "PlaceRules" 1 ⟨"java/lang/Object", "<init>", "()V"⟩ ∈ gts := gt_1 33 rfl rfl
theorem ki_java_lang_Object_init : Cond.instanceMethod ⟨"java/lang/Object", "<init>", "()V"⟩ ∈ gts := gt_1 34 rfl rfl
theorem kk_PR_9 : Cond.classLink "PlaceRules" 9 "PlaceRules$Place" ∈ gts := gt_1 36 rfl rfl
theorem kk_PR_15 : Cond.classLink "PlaceRules" 15 "PlaceRules$Unit" ∈ gts := gt_1 38 rfl rfl
theorem kk_PR_21 : Cond.classLink "PlaceRules" 21 "PlaceRules$Waiver" ∈ gts := gt_1 40 rfl rfl
theorem kk_PR_27 : Cond.classLink "PlaceRules" 27 "PlaceRules$RuleBook" ∈ gts := gt_1 42 rfl rfl
theorem kn_RB : Cond.instantiable "PlaceRules$RuleBook" 6 ∈ gts := gt_1 43 rfl rfl
theorem km_PR_29 : Cond.methodLink "PlaceRules" 29 ⟨"PlaceRules$RuleBook", "<init>", "()V"⟩ ∈ gts := gt_1 44 rfl rfl
theorem ki_RB_init : Cond.instanceMethod ⟨"PlaceRules$RuleBook", "<init>", "()V"⟩ ∈ gts := gt_1 45 rfl rfl
theorem km_RB_3 : Cond.methodLink "PlaceRules$RuleBook" 3 ⟨"java/lang/Object", "<init>", "()V"⟩ ∈ gts := gt_1 47 rfl rfl
theorem kk_RB_9 : Cond.classLink "PlaceRules$RuleBook" 9 "PlaceRules$Rule" ∈ gts := gt_1 48 rfl rfl
theorem kn_RU : Cond.instantiable "PlaceRules$Rule" 5 ∈ gts := gt_1 50 rfl rfl
theorem ki_RU_init : Cond.instanceMethod ⟨"PlaceRules$Rule", "<init>", "()V"⟩ ∈ gts := gt_1 52 rfl rfl
theorem km_RU_1 : Cond.methodLink "PlaceRules$Rule" 1 ⟨"java/lang/Object", "<init>", "()V"⟩ ∈ gts := gt_1 54 rfl rfl
theorem kf_RU_7 : Cond.fieldLink "PlaceRules$Rule" 7 "PlaceRules$Kind" "SIZE" "LPlaceRules$Kind;" ∈ gts := gt_1 55 rfl rfl
theorem kf_RB_32 : Cond.fieldLink "PlaceRules$RuleBook" 32 "PlaceRules$Rule" "rank" "I" ∈ gts := gt_1 57 rfl rfl
theorem kf_TX_52 : Cond.fieldLink "PlaceRules$Text" 52 "PlaceRules$Rule" "rank" "I" ∈ gts := gt_1 58 rfl rfl
theorem kf_PR_170 : Cond.fieldLink "PlaceRules" 170 "PlaceRules$Rule" "rank" "I" ∈ gts := gt_1 59 rfl rfl
theorem kf_RU_13 : Cond.fieldLink "PlaceRules$Rule" 13 "PlaceRules$Rule" "kind" "LPlaceRules$Kind;" ∈ gts := gt_1 60 rfl rfl
theorem kf_RB_35 : Cond.fieldLink "PlaceRules$RuleBook" 35 "PlaceRules$Rule" "kind" "LPlaceRules$Kind;" ∈ gts := gt_1 61 rfl rfl
theorem kf_TX_62 : Cond.fieldLink "PlaceRules$Text" 62 "PlaceRules$Rule" "kind" "LPlaceRules$Kind;" ∈ gts := gt_1 62 rfl rfl
theorem kf_PR_175 : Cond.fieldLink "PlaceRules" 175 "PlaceRules$Rule" "kind" "LPlaceRules$Kind;" ∈ gts := gt_1 63 rfl rfl
theorem kf_RU_28 : Cond.fieldLink "PlaceRules$Rule" 28 "PlaceRules$Rule" "a" "I" ∈ gts := gt_1 64 rfl rfl
theorem kf_RB_39 : Cond.fieldLink "PlaceRules$RuleBook" 39 "PlaceRules$Rule" "a" "I" ∈ gts := gt_1 65 rfl rfl
theorem kf_TX_69 : Cond.fieldLink "PlaceRules$Text" 69 "PlaceRules$Rule" "a" "I" ∈ gts := gt_1 66 rfl rfl
theorem kf_PR_179 : Cond.fieldLink "PlaceRules" 179 "PlaceRules$Rule" "a" "I" ∈ gts := gt_1 67 rfl rfl
theorem kf_RU_65 : Cond.fieldLink "PlaceRules$Rule" 65 "PlaceRules$Rule" "b" "I" ∈ gts := gt_1 68 rfl rfl
theorem kf_RB_42 : Cond.fieldLink "PlaceRules$RuleBook" 42 "PlaceRules$Rule" "b" "I" ∈ gts := gt_1 69 rfl rfl
theorem kf_TX_72 : Cond.fieldLink "PlaceRules$Text" 72 "PlaceRules$Rule" "b" "I" ∈ gts := gt_1 70 rfl rfl
theorem kf_PR_182 : Cond.fieldLink "PlaceRules" 182 "PlaceRules$Rule" "b" "I" ∈ gts := gt_1 71 rfl rfl
theorem kf_RB_52 : Cond.fieldLink "PlaceRules$RuleBook" 52 "PlaceRules$Rule" "hasRefused" "Z" ∈ gts := gt_1 72 rfl rfl
theorem kf_PR_283 : Cond.fieldLink "PlaceRules" 283 "PlaceRules$Rule" "hasRefused" "Z" ∈ gts := gt_1 73 rfl rfl
theorem ka_int : Cond.arrayClass .int ∈ gts := gt_1 85 rfl rfl
theorem kf_RB_11 : Cond.fieldLink "PlaceRules$RuleBook" 11 "PlaceRules$RuleBook" "rules" "[LPlaceRules$Rule;" ∈ gts := gt_1 86 rfl rfl
theorem kf_PR_272 : Cond.fieldLink "PlaceRules" 272 "PlaceRules$RuleBook" "rules" "[LPlaceRules$Rule;" ∈ gts := gt_1 87 rfl rfl
theorem kf_RB_17 : Cond.fieldLink "PlaceRules$RuleBook" 17 "PlaceRules$RuleBook" "order" "[I" ∈ gts := gt_1 88 rfl rfl
theorem kf_PR_269 : Cond.fieldLink "PlaceRules" 269 "PlaceRules$RuleBook" "order" "[I" ∈ gts := gt_1 89 rfl rfl
theorem kf_RB_28 : Cond.fieldLink "PlaceRules$RuleBook" 28 "PlaceRules$RuleBook" "ruleCount" "I" ∈ gts := gt_1 90 rfl rfl
theorem kf_PR_191 : Cond.fieldLink "PlaceRules" 191 "PlaceRules$RuleBook" "ruleCount" "I" ∈ gts := gt_1 91 rfl rfl
theorem kf_RB_21 : Cond.fieldLink "PlaceRules$RuleBook" 21 "PlaceRules$RuleBook" "earlier" "[I" ∈ gts := gt_1 92 rfl rfl
theorem kf_PR_254 : Cond.fieldLink "PlaceRules" 254 "PlaceRules$RuleBook" "earlier" "[I" ∈ gts := gt_1 93 rfl rfl
theorem kf_RB_24 : Cond.fieldLink "PlaceRules$RuleBook" 24 "PlaceRules$RuleBook" "later" "[I" ∈ gts := gt_1 94 rfl rfl
theorem kf_PR_257 : Cond.fieldLink "PlaceRules" 257 "PlaceRules$RuleBook" "later" "[I" ∈ gts := gt_1 95 rfl rfl
theorem kf_RB_56 : Cond.fieldLink "PlaceRules$RuleBook" 56 "PlaceRules$RuleBook" "clashCount" "I" ∈ gts := gt_1 96 rfl rfl
theorem kf_PR_251 : Cond.fieldLink "PlaceRules" 251 "PlaceRules$RuleBook" "clashCount" "I" ∈ gts := gt_1 97 rfl rfl
theorem kk_PR_34 : Cond.classLink "PlaceRules" 34 "PlaceRules$OwnRules" ∈ gts := gt_1 111 rfl rfl
theorem kn_OW : Cond.instantiable "PlaceRules$OwnRules" 2 ∈ gts := gt_1 112 rfl rfl
theorem ki_OW_init : Cond.instanceMethod ⟨"PlaceRules$OwnRules", "<init>", "()V"⟩ ∈ gts := gt_1 114 rfl rfl
theorem km_OW_3 : Cond.methodLink "PlaceRules$OwnRules" 3 ⟨"java/lang/Object", "<init>", "()V"⟩ ∈ gts := gt_1 116 rfl rfl
theorem kf_OW_9 : Cond.fieldLink "PlaceRules$OwnRules" 9 "PlaceRules$OwnRules" "says" "[I" ∈ gts := gt_1 117 rfl rfl
theorem kf_PR_188 : Cond.fieldLink "PlaceRules" 188 "PlaceRules$OwnRules" "says" "[I" ∈ gts := gt_1 118 rfl rfl
theorem kf_OW_24 : Cond.fieldLink "PlaceRules$OwnRules" 24 "PlaceRules$OwnRules" "failures" "I" ∈ gts := gt_1 119 rfl rfl
theorem kf_PR_263 : Cond.fieldLink "PlaceRules" 263 "PlaceRules$OwnRules" "failures" "I" ∈ gts := gt_1 120 rfl rfl
theorem kk_PR_41 : Cond.classLink "PlaceRules" 41 "PlaceRules$Text" ∈ gts := gt_1 126 rfl rfl
theorem kn_TX : Cond.instantiable "PlaceRules$Text" 7 ∈ gts := gt_1 127 rfl rfl
theorem km_PR_43 : Cond.methodLink "PlaceRules" 43 ⟨"PlaceRules$Text", "<init>", "()V"⟩ ∈ gts := gt_1 128 rfl rfl
theorem ki_TX_init : Cond.instanceMethod ⟨"PlaceRules$Text", "<init>", "()V"⟩ ∈ gts := gt_1 129 rfl rfl
theorem km_TX_3 : Cond.methodLink "PlaceRules$Text" 3 ⟨"java/lang/Object", "<init>", "()V"⟩ ∈ gts := gt_1 131 rfl rfl
theorem kk_TX_15 : Cond.classLink "PlaceRules$Text" 15 "PlaceRules$Rule" ∈ gts := gt_1 132 rfl rfl
theorem kf_TX_21 : Cond.fieldLink "PlaceRules$Text" 21 "PlaceRules$Kind" "SIZE" "LPlaceRules$Kind;" ∈ gts := gt_1 133 rfl rfl
theorem kf_TX_9 : Cond.fieldLink "PlaceRules$Text" 9 "PlaceRules$Text" "signs" "[I" ∈ gts := gt_1 135 rfl rfl
theorem kf_TX_31 : Cond.fieldLink "PlaceRules$Text" 31 "PlaceRules$Text" "signCount" "I" ∈ gts := gt_1 136 rfl rfl
theorem kf_PR_260 : Cond.fieldLink "PlaceRules" 260 "PlaceRules$Text" "signCount" "I" ∈ gts := gt_1 137 rfl rfl
theorem kf_TX_17 : Cond.fieldLink "PlaceRules$Text" 17 "PlaceRules$Text" "drafts" "[LPlaceRules$Rule;" ∈ gts := gt_1 138 rfl rfl
theorem kf_PR_166 : Cond.fieldLink "PlaceRules" 166 "PlaceRules$Text" "drafts" "[LPlaceRules$Rule;" ∈ gts := gt_1 139 rfl rfl
theorem kf_TX_35 : Cond.fieldLink "PlaceRules$Text" 35 "PlaceRules$Text" "next" "I" ∈ gts := gt_1 140 rfl rfl
theorem kf_TX_42 : Cond.fieldLink "PlaceRules$Text" 42 "PlaceRules$Text" "wrong" "I" ∈ gts := gt_1 141 rfl rfl
theorem kf_TX_49 : Cond.fieldLink "PlaceRules$Text" 49 "PlaceRules$Text" "value" "I" ∈ gts := gt_1 142 rfl rfl
theorem kf_TX_27 : Cond.fieldLink "PlaceRules$Text" 27 "PlaceRules$Text" "kind" "LPlaceRules$Kind;" ∈ gts := gt_1 143 rfl rfl
theorem kk_PR_48 : Cond.classLink "PlaceRules" 48 "PlaceRules$Question" ∈ gts := gt_1 159 rfl rfl
theorem kn_QU : Cond.instantiable "PlaceRules$Question" 18 ∈ gts := gt_1 160 rfl rfl
theorem ki_QU_init : Cond.instanceMethod ⟨"PlaceRules$Question", "<init>", "()V"⟩ ∈ gts := gt_1 162 rfl rfl
theorem km_QU_3 : Cond.methodLink "PlaceRules$Question" 3 ⟨"java/lang/Object", "<init>", "()V"⟩ ∈ gts := gt_1 164 rfl rfl
theorem kk_QU_9 : Cond.classLink "PlaceRules$Question" 9 "PlaceRules$NumberSet" ∈ gts := gt_1 165 rfl rfl
theorem kn_NS : Cond.instantiable "PlaceRules$NumberSet" 2 ∈ gts := gt_1 166 rfl rfl
theorem ki_NS_init : Cond.instanceMethod ⟨"PlaceRules$NumberSet", "<init>", "()V"⟩ ∈ gts := gt_1 168 rfl rfl
theorem km_NS_1 : Cond.methodLink "PlaceRules$NumberSet" 1 ⟨"java/lang/Object", "<init>", "()V"⟩ ∈ gts := gt_1 170 rfl rfl
theorem kf_NS_7 : Cond.fieldLink "PlaceRules$NumberSet" 7 "PlaceRules$NumberSet" "low" "J" ∈ gts := gt_1 171 rfl rfl
theorem kf_NS_13 : Cond.fieldLink "PlaceRules$NumberSet" 13 "PlaceRules$NumberSet" "high" "J" ∈ gts := gt_1 172 rfl rfl
theorem kf_QU_37 : Cond.fieldLink "PlaceRules$Question" 37 "PlaceRules$Question" "fitsUpright" "Z" ∈ gts := gt_1 178 rfl rfl
theorem kf_RU_32 : Cond.fieldLink "PlaceRules$Rule" 32 "PlaceRules$Question" "fitsUpright" "Z" ∈ gts := gt_1 179 rfl rfl
theorem kf_QU_45 : Cond.fieldLink "PlaceRules$Question" 45 "PlaceRules$Question" "fitsSomehow" "Z" ∈ gts := gt_1 180 rfl rfl
theorem kf_RU_38 : Cond.fieldLink "PlaceRules$Rule" 38 "PlaceRules$Question" "fitsSomehow" "Z" ∈ gts := gt_1 181 rfl rfl
theorem kf_QU_27 : Cond.fieldLink "PlaceRules$Question" 27 "PlaceRules$Question" "day" "I" ∈ gts := gt_1 182 rfl rfl
theorem kf_RU_90 : Cond.fieldLink "PlaceRules$Rule" 90 "PlaceRules$Question" "day" "I" ∈ gts := gt_1 183 rfl rfl
theorem kf_QU_51 : Cond.fieldLink "PlaceRules$Question" 51 "PlaceRules$Question" "limit" "I" ∈ gts := gt_1 184 rfl rfl
theorem kf_RU_47 : Cond.fieldLink "PlaceRules$Rule" 47 "PlaceRules$Question" "limit" "I" ∈ gts := gt_1 185 rfl rfl
theorem kf_QU_55 : Cond.fieldLink "PlaceRules$Question" 55 "PlaceRules$Question" "zone" "I" ∈ gts := gt_1 186 rfl rfl
theorem kf_RU_75 : Cond.fieldLink "PlaceRules$Rule" 75 "PlaceRules$Question" "zone" "I" ∈ gts := gt_1 187 rfl rfl
theorem kf_QU_61 : Cond.fieldLink "PlaceRules$Question" 61 "PlaceRules$Question" "good" "I" ∈ gts := gt_1 188 rfl rfl
theorem kf_OW_15 : Cond.fieldLink "PlaceRules$OwnRules" 15 "PlaceRules$Question" "grams" "I" ∈ gts := gt_1 189 rfl rfl
theorem kf_QU_65 : Cond.fieldLink "PlaceRules$Question" 65 "PlaceRules$Question" "grams" "I" ∈ gts := gt_1 190 rfl rfl
theorem kf_RU_41 : Cond.fieldLink "PlaceRules$Rule" 41 "PlaceRules$Question" "grams" "I" ∈ gts := gt_1 191 rfl rfl
theorem kf_QU_69 : Cond.fieldLink "PlaceRules$Question" 69 "PlaceRules$Question" "hazard" "I" ∈ gts := gt_1 192 rfl rfl
theorem kf_QU_73 : Cond.fieldLink "PlaceRules$Question" 73 "PlaceRules$Question" "group" "I" ∈ gts := gt_1 193 rfl rfl
theorem kf_RU_72 : Cond.fieldLink "PlaceRules$Rule" 72 "PlaceRules$Question" "group" "I" ∈ gts := gt_1 194 rfl rfl
theorem kf_QU_77 : Cond.fieldLink "PlaceRules$Question" 77 "PlaceRules$Question" "last" "I" ∈ gts := gt_1 195 rfl rfl
theorem kf_RU_87 : Cond.fieldLink "PlaceRules$Rule" 87 "PlaceRules$Question" "last" "I" ∈ gts := gt_1 196 rfl rfl
theorem kf_QU_78 : Cond.fieldLink "PlaceRules$Question" 78 "PlaceRules$Question" "units" "I" ∈ gts := gt_1 197 rfl rfl
theorem kf_RU_78 : Cond.fieldLink "PlaceRules$Rule" 78 "PlaceRules$Question" "units" "I" ∈ gts := gt_1 198 rfl rfl
theorem kf_OW_21 : Cond.fieldLink "PlaceRules$OwnRules" 21 "PlaceRules$Question" "othersGrams" "I" ∈ gts := gt_1 199 rfl rfl
theorem kf_RU_44 : Cond.fieldLink "PlaceRules$Rule" 44 "PlaceRules$Question" "othersGrams" "I" ∈ gts := gt_1 200 rfl rfl
theorem kf_QU_81 : Cond.fieldLink "PlaceRules$Question" 81 "PlaceRules$Question" "othersGrams" "I" ∈ gts := gt_1 201 rfl rfl
theorem kf_QU_84 : Cond.fieldLink "PlaceRules$Question" 84 "PlaceRules$Question" "leastLast" "I" ∈ gts := gt_1 202 rfl rfl
theorem kf_RU_84 : Cond.fieldLink "PlaceRules$Rule" 84 "PlaceRules$Question" "leastLast" "I" ∈ gts := gt_1 203 rfl rfl
theorem kf_QU_87 : Cond.fieldLink "PlaceRules$Question" 87 "PlaceRules$Question" "greatestLast" "I" ∈ gts := gt_1 204 rfl rfl
theorem kf_RU_81 : Cond.fieldLink "PlaceRules$Rule" 81 "PlaceRules$Question" "greatestLast" "I" ∈ gts := gt_1 205 rfl rfl
theorem kf_QU_12 : Cond.fieldLink "PlaceRules$Question" 12 "PlaceRules$Question" "goods" "LPlaceRules$NumberSet;" ∈ gts := gt_1 206 rfl rfl
theorem kf_RU_50 : Cond.fieldLink "PlaceRules$Rule" 50 "PlaceRules$Question" "goods" "LPlaceRules$NumberSet;" ∈ gts := gt_1 207 rfl rfl
theorem kf_QU_18 : Cond.fieldLink "PlaceRules$Question" 18 "PlaceRules$Question" "lots" "LPlaceRules$NumberSet;" ∈ gts := gt_1 208 rfl rfl
theorem kf_RU_59 : Cond.fieldLink "PlaceRules$Rule" 59 "PlaceRules$Question" "lots" "LPlaceRules$NumberSet;" ∈ gts := gt_1 209 rfl rfl
theorem kf_QU_21 : Cond.fieldLink "PlaceRules$Question" 21 "PlaceRules$Question" "owners" "LPlaceRules$NumberSet;" ∈ gts := gt_1 210 rfl rfl
theorem kf_RU_62 : Cond.fieldLink "PlaceRules$Rule" 62 "PlaceRules$Question" "owners" "LPlaceRules$NumberSet;" ∈ gts := gt_1 211 rfl rfl
theorem kf_QU_24 : Cond.fieldLink "PlaceRules$Question" 24 "PlaceRules$Question" "othersHazards" "LPlaceRules$NumberSet;" ∈ gts := gt_1 212 rfl rfl
theorem kn_PL : Cond.instantiable "PlaceRules$Place" 5 ∈ gts := gt_2 10 rfl rfl
theorem ki_PL_init : Cond.instanceMethod ⟨"PlaceRules$Place", "<init>", "()V"⟩ ∈ gts := gt_2 12 rfl rfl
theorem km_PL_3 : Cond.methodLink "PlaceRules$Place" 3 ⟨"java/lang/Object", "<init>", "()V"⟩ ∈ gts := gt_2 14 rfl rfl
theorem kv_PL_21 : Cond.constant "PlaceRules$Place" 21 (100000) ∈ gts := gt_2 15 rfl rfl
theorem kf_PL_9 : Cond.fieldLink "PlaceRules$Place" 9 "PlaceRules$Place" "width" "I" ∈ gts := gt_2 16 rfl rfl
theorem kf_PR_70 : Cond.fieldLink "PlaceRules" 70 "PlaceRules$Place" "width" "I" ∈ gts := gt_2 17 rfl rfl
theorem kf_PL_15 : Cond.fieldLink "PlaceRules$Place" 15 "PlaceRules$Place" "depth" "I" ∈ gts := gt_2 18 rfl rfl
theorem kf_PR_74 : Cond.fieldLink "PlaceRules" 74 "PlaceRules$Place" "depth" "I" ∈ gts := gt_2 19 rfl rfl
theorem kf_PL_18 : Cond.fieldLink "PlaceRules$Place" 18 "PlaceRules$Place" "height" "I" ∈ gts := gt_2 20 rfl rfl
theorem kf_PR_77 : Cond.fieldLink "PlaceRules" 77 "PlaceRules$Place" "height" "I" ∈ gts := gt_2 21 rfl rfl
theorem kf_PL_22 : Cond.fieldLink "PlaceRules$Place" 22 "PlaceRules$Place" "limit" "I" ∈ gts := gt_2 22 rfl rfl
theorem kf_QU_48 : Cond.fieldLink "PlaceRules$Question" 48 "PlaceRules$Place" "limit" "I" ∈ gts := gt_2 23 rfl rfl
theorem kf_PR_84 : Cond.fieldLink "PlaceRules" 84 "PlaceRules$Place" "limit" "I" ∈ gts := gt_2 24 rfl rfl
theorem kf_QU_52 : Cond.fieldLink "PlaceRules$Question" 52 "PlaceRules$Place" "zone" "I" ∈ gts := gt_2 25 rfl rfl
theorem kf_PR_87 : Cond.fieldLink "PlaceRules" 87 "PlaceRules$Place" "zone" "I" ∈ gts := gt_2 26 rfl rfl
theorem kn_UN : Cond.instantiable "PlaceRules$Unit" 11 ∈ gts := gt_2 38 rfl rfl
theorem ki_UN_init : Cond.instanceMethod ⟨"PlaceRules$Unit", "<init>", "()V"⟩ ∈ gts := gt_2 40 rfl rfl
theorem km_UN_3 : Cond.methodLink "PlaceRules$Unit" 3 ⟨"java/lang/Object", "<init>", "()V"⟩ ∈ gts := gt_2 42 rfl rfl
theorem kf_QU_56 : Cond.fieldLink "PlaceRules$Question" 56 "PlaceRules$Unit" "good" "I" ∈ gts := gt_2 43 rfl rfl
theorem kf_PR_100 : Cond.fieldLink "PlaceRules" 100 "PlaceRules$Unit" "good" "I" ∈ gts := gt_2 44 rfl rfl
theorem kf_QU_94 : Cond.fieldLink "PlaceRules$Question" 94 "PlaceRules$Unit" "lot" "I" ∈ gts := gt_2 45 rfl rfl
theorem kf_PR_103 : Cond.fieldLink "PlaceRules" 103 "PlaceRules$Unit" "lot" "I" ∈ gts := gt_2 46 rfl rfl
theorem kf_QU_97 : Cond.fieldLink "PlaceRules$Question" 97 "PlaceRules$Unit" "owner" "I" ∈ gts := gt_2 47 rfl rfl
theorem kf_PR_106 : Cond.fieldLink "PlaceRules" 106 "PlaceRules$Unit" "owner" "I" ∈ gts := gt_2 48 rfl rfl
theorem kf_UN_9 : Cond.fieldLink "PlaceRules$Unit" 9 "PlaceRules$Unit" "width" "I" ∈ gts := gt_2 49 rfl rfl
theorem kf_PL_29 : Cond.fieldLink "PlaceRules$Place" 29 "PlaceRules$Unit" "width" "I" ∈ gts := gt_2 50 rfl rfl
theorem kf_PR_116 : Cond.fieldLink "PlaceRules" 116 "PlaceRules$Unit" "width" "I" ∈ gts := gt_2 51 rfl rfl
theorem kf_UN_15 : Cond.fieldLink "PlaceRules$Unit" 15 "PlaceRules$Unit" "depth" "I" ∈ gts := gt_2 52 rfl rfl
theorem kf_PL_32 : Cond.fieldLink "PlaceRules$Place" 32 "PlaceRules$Unit" "depth" "I" ∈ gts := gt_2 53 rfl rfl
theorem kf_PR_117 : Cond.fieldLink "PlaceRules" 117 "PlaceRules$Unit" "depth" "I" ∈ gts := gt_2 54 rfl rfl
theorem kf_UN_18 : Cond.fieldLink "PlaceRules$Unit" 18 "PlaceRules$Unit" "height" "I" ∈ gts := gt_2 55 rfl rfl
theorem kf_PL_33 : Cond.fieldLink "PlaceRules$Place" 33 "PlaceRules$Unit" "height" "I" ∈ gts := gt_2 56 rfl rfl
theorem kf_PR_118 : Cond.fieldLink "PlaceRules" 118 "PlaceRules$Unit" "height" "I" ∈ gts := gt_2 57 rfl rfl
theorem kf_UN_21 : Cond.fieldLink "PlaceRules$Unit" 21 "PlaceRules$Unit" "grams" "I" ∈ gts := gt_2 58 rfl rfl
theorem kf_QU_62 : Cond.fieldLink "PlaceRules$Question" 62 "PlaceRules$Unit" "grams" "I" ∈ gts := gt_2 59 rfl rfl
theorem kf_PR_119 : Cond.fieldLink "PlaceRules" 119 "PlaceRules$Unit" "grams" "I" ∈ gts := gt_2 60 rfl rfl
theorem kf_QU_66 : Cond.fieldLink "PlaceRules$Question" 66 "PlaceRules$Unit" "hazard" "I" ∈ gts := gt_2 61 rfl rfl
theorem kf_PR_122 : Cond.fieldLink "PlaceRules" 122 "PlaceRules$Unit" "hazard" "I" ∈ gts := gt_2 62 rfl rfl
theorem kf_QU_70 : Cond.fieldLink "PlaceRules$Question" 70 "PlaceRules$Unit" "group" "I" ∈ gts := gt_2 63 rfl rfl
theorem kf_PR_125 : Cond.fieldLink "PlaceRules" 125 "PlaceRules$Unit" "group" "I" ∈ gts := gt_2 64 rfl rfl
theorem kf_UN_24 : Cond.fieldLink "PlaceRules$Unit" 24 "PlaceRules$Unit" "last" "I" ∈ gts := gt_2 65 rfl rfl
theorem kf_QU_74 : Cond.fieldLink "PlaceRules$Question" 74 "PlaceRules$Unit" "last" "I" ∈ gts := gt_2 66 rfl rfl
theorem kf_PR_128 : Cond.fieldLink "PlaceRules" 128 "PlaceRules$Unit" "last" "I" ∈ gts := gt_2 67 rfl rfl
theorem kf_UN_27 : Cond.fieldLink "PlaceRules$Unit" 27 "PlaceRules$Unit" "place" "I" ∈ gts := gt_2 68 rfl rfl
theorem kf_PR_236 : Cond.fieldLink "PlaceRules" 236 "PlaceRules$Unit" "place" "I" ∈ gts := gt_2 69 rfl rfl
theorem kn_WV : Cond.instantiable "PlaceRules$Waiver" 4 ∈ gts := gt_2 93 rfl rfl
theorem ki_WV_init : Cond.instanceMethod ⟨"PlaceRules$Waiver", "<init>", "()V"⟩ ∈ gts := gt_2 95 rfl rfl
theorem km_WV_3 : Cond.methodLink "PlaceRules$Waiver" 3 ⟨"java/lang/Object", "<init>", "()V"⟩ ∈ gts := gt_2 97 rfl rfl
theorem kf_WV_9 : Cond.fieldLink "PlaceRules$Waiver" 9 "PlaceRules$Waiver" "rule" "I" ∈ gts := gt_2 98 rfl rfl
theorem kf_PR_217 : Cond.fieldLink "PlaceRules" 217 "PlaceRules$Waiver" "rule" "I" ∈ gts := gt_2 99 rfl rfl
theorem kf_WV_15 : Cond.fieldLink "PlaceRules$Waiver" 15 "PlaceRules$Waiver" "place" "I" ∈ gts := gt_2 100 rfl rfl
theorem kf_PR_220 : Cond.fieldLink "PlaceRules" 220 "PlaceRules$Waiver" "place" "I" ∈ gts := gt_2 101 rfl rfl
theorem kf_WV_18 : Cond.fieldLink "PlaceRules$Waiver" 18 "PlaceRules$Waiver" "owner" "I" ∈ gts := gt_2 102 rfl rfl
theorem kf_PR_223 : Cond.fieldLink "PlaceRules" 223 "PlaceRules$Waiver" "owner" "I" ∈ gts := gt_2 103 rfl rfl
theorem kf_WV_21 : Cond.fieldLink "PlaceRules$Waiver" 21 "PlaceRules$Waiver" "until" "I" ∈ gts := gt_2 104 rfl rfl
theorem kf_PR_203 : Cond.fieldLink "PlaceRules" 203 "PlaceRules$Waiver" "until" "I" ∈ gts := gt_2 105 rfl rfl
theorem kf_PR_11 : Cond.fieldLink "PlaceRules" 11 "PlaceRules" "places" "[LPlaceRules$Place;" ∈ gts := gt_2 115 rfl rfl
theorem kf_PR_17 : Cond.fieldLink "PlaceRules" 17 "PlaceRules" "units" "[LPlaceRules$Unit;" ∈ gts := gt_2 116 rfl rfl
theorem kf_PR_90 : Cond.fieldLink "PlaceRules" 90 "PlaceRules" "unitCount" "I" ∈ gts := gt_2 117 rfl rfl
theorem kf_PR_23 : Cond.fieldLink "PlaceRules" 23 "PlaceRules" "waivers" "[LPlaceRules$Waiver;" ∈ gts := gt_2 118 rfl rfl
theorem kf_PR_212 : Cond.fieldLink "PlaceRules" 212 "PlaceRules" "waiverCount" "I" ∈ gts := gt_2 119 rfl rfl
theorem kf_PR_30 : Cond.fieldLink "PlaceRules" 30 "PlaceRules" "book" "LPlaceRules$RuleBook;" ∈ gts := gt_2 120 rfl rfl
theorem kf_PR_37 : Cond.fieldLink "PlaceRules" 37 "PlaceRules" "ownRules" "LPlaceRules$OwnRules;" ∈ gts := gt_2 121 rfl rfl
theorem kf_PR_44 : Cond.fieldLink "PlaceRules" 44 "PlaceRules" "text" "LPlaceRules$Text;" ∈ gts := gt_2 122 rfl rfl
theorem kf_PR_51 : Cond.fieldLink "PlaceRules" 51 "PlaceRules" "question" "LPlaceRules$Question;" ∈ gts := gt_2 123 rfl rfl
theorem kf_PR_55 : Cond.fieldLink "PlaceRules" 55 "PlaceRules" "refusals" "[I" ∈ gts := gt_2 124 rfl rfl
theorem kf_PR_233 : Cond.fieldLink "PlaceRules" 233 "PlaceRules" "refusalCount" "I" ∈ gts := gt_2 125 rfl rfl
theorem km_LW_107 : Cond.methodLink "PlaceRulesLaw" 107 ⟨"PlaceRules", "sign", "(I)I"⟩ ∈ gts := gt_2 149 rfl rfl
theorem ki_PR_sign : Cond.instanceMethod ⟨"PlaceRules", "sign", "(I)I"⟩ ∈ gts := gt_2 150 rfl rfl
theorem ko_PR_sign : Cond.selects "PlaceRules" ⟨"PlaceRules", "sign", "(I)I"⟩ ⟨"PlaceRules", "sign", "(I)I"⟩ ∈ gts := gt_2 151 rfl rfl
theorem km_PR_159 : Cond.methodLink "PlaceRules" 159 ⟨"PlaceRules$Text", "collect", "(I)I"⟩ ∈ gts := gt_2 153 rfl rfl
theorem ki_TX_collect : Cond.instanceMethod ⟨"PlaceRules$Text", "collect", "(I)I"⟩ ∈ gts := gt_2 154 rfl rfl
theorem ko_TX_collect : Cond.selects "PlaceRules$Text" ⟨"PlaceRules$Text", "collect", "(I)I"⟩ ⟨"PlaceRules$Text", "collect", "(I)I"⟩ ∈ gts := gt_2 155 rfl rfl
theorem km_LW_111 : Cond.methodLink "PlaceRulesLaw" 111 ⟨"PlaceRules", "read", "()I"⟩ ∈ gts := gt_2 157 rfl rfl
theorem ki_PR_read : Cond.instanceMethod ⟨"PlaceRules", "read", "()I"⟩ ∈ gts := gt_2 158 rfl rfl
theorem ko_PR_read : Cond.selects "PlaceRules" ⟨"PlaceRules", "read", "()I"⟩ ⟨"PlaceRules", "read", "()I"⟩ ∈ gts := gt_2 159 rfl rfl
theorem km_PR_150 : Cond.methodLink "PlaceRules" 150 ⟨"PlaceRules$RuleBook", "room", "()I"⟩ ∈ gts := gt_2 161 rfl rfl
theorem ki_RB_room : Cond.instanceMethod ⟨"PlaceRules$RuleBook", "room", "()I"⟩ ∈ gts := gt_2 162 rfl rfl
theorem ko_RB_room : Cond.selects "PlaceRules$RuleBook" ⟨"PlaceRules$RuleBook", "room", "()I"⟩ ⟨"PlaceRules$RuleBook", "room", "()I"⟩ ∈ gts := gt_2 163 rfl rfl
theorem km_PR_163 : Cond.methodLink "PlaceRules" 163 ⟨"PlaceRules$Text", "readLines", "(I)I"⟩ ∈ gts := gt_2 165 rfl rfl
theorem ki_TX_readLines : Cond.instanceMethod ⟨"PlaceRules$Text", "readLines", "(I)I"⟩ ∈ gts := gt_2 166 rfl rfl
theorem ko_TX_readLines : Cond.selects "PlaceRules$Text" ⟨"PlaceRules$Text", "readLines", "(I)I"⟩ ⟨"PlaceRules$Text", "readLines", "(I)I"⟩ ∈ gts := gt_2 167 rfl rfl
theorem km_TX_38 : Cond.methodLink "PlaceRules$Text" 38 ⟨"PlaceRules$Text", "readLine", "(LPlaceRules$Rule;)Z"⟩ ∈ gts := gt_2 169 rfl rfl
theorem ki_TX_readLine : Cond.instanceMethod ⟨"PlaceRules$Text", "readLine", "(LPlaceRules$Rule;)Z"⟩ ∈ gts := gt_2 171 rfl rfl
theorem km_TX_45 : Cond.methodLink "PlaceRules$Text" 45 ⟨"PlaceRules$Text", "readNumber", "(II)Z"⟩ ∈ gts := gt_2 173 rfl rfl
theorem ki_TX_readNumber : Cond.instanceMethod ⟨"PlaceRules$Text", "readNumber", "(II)Z"⟩ ∈ gts := gt_2 175 rfl rfl
theorem km_TX_89 : Cond.methodLink "PlaceRules$Text" 89 ⟨"PlaceRules$Text", "nextSign", "()I"⟩ ∈ gts := gt_2 177 rfl rfl
theorem ki_TX_nextSign : Cond.instanceMethod ⟨"PlaceRules$Text", "nextSign", "()I"⟩ ∈ gts := gt_2 179 rfl rfl
theorem km_TX_92 : Cond.methodLink "PlaceRules$Text" 92 ⟨"PlaceRules$Text", "isDigit", "(I)Z"⟩ ∈ gts := gt_2 181 rfl rfl
theorem ks_TX_isDigit : Cond.static ⟨"PlaceRules$Text", "isDigit", "(I)Z"⟩ ∈ gts := gt_2 182 rfl rfl
theorem km_TX_95 : Cond.methodLink "PlaceRules$Text" 95 ⟨"PlaceRules$Text", "fail", "(I)Z"⟩ ∈ gts := gt_2 184 rfl rfl
theorem ki_TX_fail : Cond.instanceMethod ⟨"PlaceRules$Text", "fail", "(I)Z"⟩ ∈ gts := gt_2 186 rfl rfl
theorem km_TX_55 : Cond.methodLink "PlaceRules$Text" 55 ⟨"PlaceRules$Text", "readBlank", "()Z"⟩ ∈ gts := gt_2 188 rfl rfl
theorem ki_TX_readBlank : Cond.instanceMethod ⟨"PlaceRules$Text", "readBlank", "()Z"⟩ ∈ gts := gt_2 190 rfl rfl
theorem km_TX_85 : Cond.methodLink "PlaceRules$Text" 85 ⟨"PlaceRules$Text", "readSign", "(I)Z"⟩ ∈ gts := gt_2 192 rfl rfl
theorem ki_TX_readSign : Cond.instanceMethod ⟨"PlaceRules$Text", "readSign", "(I)Z"⟩ ∈ gts := gt_2 194 rfl rfl
theorem km_TX_59 : Cond.methodLink "PlaceRules$Text" 59 ⟨"PlaceRules$Text", "readKind", "()Z"⟩ ∈ gts := gt_2 196 rfl rfl
theorem ki_TX_readKind : Cond.instanceMethod ⟨"PlaceRules$Text", "readKind", "()Z"⟩ ∈ gts := gt_2 198 rfl rfl
theorem km_TX_106 : Cond.methodLink "PlaceRules$Text" 106 ⟨"PlaceRules$Text", "sharedSigns", "(Ljava/lang/String;)I"⟩ ∈ gts := gt_2 202 rfl rfl
theorem ki_TX_sharedSigns : Cond.instanceMethod ⟨"PlaceRules$Text", "sharedSigns", "(Ljava/lang/String;)I"⟩ ∈ gts := gt_2 204 rfl rfl
theorem km_TX_110 : Cond.methodLink "PlaceRules$Text" 110 ⟨"java/lang/String", "length", "()I"⟩ ∈ gts := gt_2 206 rfl rfl
theorem ki_java_lang_String_length : Cond.instanceMethod ⟨"java/lang/String", "length", "()I"⟩ ∈ gts := gt_2 207 rfl rfl
theorem ko_java_lang_String_length : Cond.selects "java/lang/String" ⟨"java/lang/String", "length", "()I"⟩ ⟨"java/lang/String", "length", "()I"⟩ ∈ gts := gt_2 208 rfl rfl
theorem km_java_lang_String_335 : Cond.methodLink "java/lang/String" 335 ⟨"java/lang/String", "coder", "()B"⟩ ∈ gts := gt_2 210 rfl rfl
theorem ki_java_lang_String_coder : Cond.instanceMethod ⟨"java/lang/String", "coder", "()B"⟩ ∈ gts := gt_2 211 rfl rfl
theorem ko_java_lang_String_coder : Cond.selects "java/lang/String" ⟨"java/lang/String", "coder", "()B"⟩ ⟨"java/lang/String", "coder", "()B"⟩ ∈ gts := gt_2 212 rfl rfl
theorem kf_java_lang_String_38 : Cond.fieldLink "java/lang/String" 38 "java/lang/String" "COMPACT_STRINGS" "Z" ∈ gts := gt_2 214 rfl rfl
theorem km_TX_115 : Cond.methodLink "PlaceRules$Text" 115 ⟨"java/lang/String", "charAt", "(I)C"⟩ ∈ gts := gt_2 216 rfl rfl
theorem ki_java_lang_String_charAt : Cond.instanceMethod ⟨"java/lang/String", "charAt", "(I)C"⟩ ∈ gts := gt_2 217 rfl rfl
theorem ko_java_lang_String_charAt : Cond.selects "java/lang/String" ⟨"java/lang/String", "charAt", "(I)C"⟩ ⟨"java/lang/String", "charAt", "(I)C"⟩ ∈ gts := gt_2 218 rfl rfl
theorem km_java_lang_String_492 : Cond.methodLink "java/lang/String" 492 ⟨"java/lang/String", "isLatin1", "()Z"⟩ ∈ gts := gt_2 220 rfl rfl
theorem ki_java_lang_String_isLatin1 : Cond.instanceMethod ⟨"java/lang/String", "isLatin1", "()Z"⟩ ∈ gts := gt_2 221 rfl rfl
theorem ko_java_lang_String_isLatin1 : Cond.selects "java/lang/String" ⟨"java/lang/String", "isLatin1", "()Z"⟩ ⟨"java/lang/String", "isLatin1", "()Z"⟩ ∈ gts := gt_2 222 rfl rfl
theorem km_java_lang_String_495 : Cond.methodLink "java/lang/String" 495 ⟨"java/lang/StringLatin1", "charAt", "([BI)C"⟩ ∈ gts := gt_2 224 rfl rfl
theorem ks_java_lang_StringLatin1_charAt : Cond.static ⟨"java/lang/StringLatin1", "charAt", "([BI)C"⟩ ∈ gts := gt_2 225 rfl rfl
theorem km_java_lang_StringLatin1_9 : Cond.methodLink "java/lang/StringLatin1" 9 ⟨"java/lang/String", "checkIndex", "(II)V"⟩ ∈ gts := gt_2 227 rfl rfl
theorem ks_java_lang_String_checkIndex : Cond.static ⟨"java/lang/String", "checkIndex", "(II)V"⟩ ∈ gts := gt_2 228 rfl rfl
theorem kf_java_lang_String_1053 : Cond.fieldLink "java/lang/String" 1053 "jdk/internal/util/Preconditions" "SIOOBE_FORMATTER" "Ljava/util/function/BiFunction;" ∈ gts := gt_2 230 rfl rfl
theorem km_java_lang_String_1059 : Cond.methodLink "java/lang/String" 1059 ⟨"jdk/internal/util/Preconditions", "checkIndex", "(IILjava/util/function/BiFunction;)I"⟩ ∈ gts := gt_2 232 rfl rfl
theorem ks_jdk_internal_util_Preconditions_checkIndex : Cond.static ⟨"jdk/internal/util/Preconditions", "checkIndex", "(IILjava/util/function/BiFunction;)I"⟩ ∈ gts := gt_2 233 rfl rfl
theorem km_java_lang_String_498 : Cond.methodLink "java/lang/String" 498 ⟨"java/lang/StringUTF16", "charAt", "([BI)C"⟩ ∈ gts := gt_2 235 rfl rfl
theorem ks_java_lang_StringUTF16_charAt : Cond.static ⟨"java/lang/StringUTF16", "charAt", "([BI)C"⟩ ∈ gts := gt_2 236 rfl rfl
theorem km_java_lang_StringUTF16_67 : Cond.methodLink "java/lang/StringUTF16" 67 ⟨"java/lang/StringUTF16", "checkIndex", "(I[B)V"⟩ ∈ gts := gt_2 238 rfl rfl
theorem ks_java_lang_StringUTF16_checkIndex : Cond.static ⟨"java/lang/StringUTF16", "checkIndex", "(I[B)V"⟩ ∈ gts := gt_2 239 rfl rfl
theorem km_java_lang_StringUTF16_48 : Cond.methodLink "java/lang/StringUTF16" 48 ⟨"java/lang/StringUTF16", "length", "([B)I"⟩ ∈ gts := gt_3 1 rfl rfl
theorem ks_java_lang_StringUTF16_length : Cond.static ⟨"java/lang/StringUTF16", "length", "([B)I"⟩ ∈ gts := gt_3 2 rfl rfl
theorem km_java_lang_StringUTF16_414 : Cond.methodLink "java/lang/StringUTF16" 414 ⟨"java/lang/String", "checkIndex", "(II)V"⟩ ∈ gts := gt_3 4 rfl rfl
theorem km_java_lang_StringUTF16_71 : Cond.methodLink "java/lang/StringUTF16" 71 ⟨"java/lang/StringUTF16", "getChar", "([BI)C"⟩ ∈ gts := gt_3 5 rfl rfl
theorem ks_java_lang_StringUTF16_getChar : Cond.static ⟨"java/lang/StringUTF16", "getChar", "([BI)C"⟩ ∈ gts := gt_3 6 rfl rfl
theorem kf_java_lang_StringUTF16_44 : Cond.fieldLink "java/lang/StringUTF16" 44 "java/lang/StringUTF16" "$assertionsDisabled" "Z" ∈ gts := gt_3 8 rfl rfl
theorem kf_java_lang_StringUTF16_59 : Cond.fieldLink "java/lang/StringUTF16" 59 "java/lang/StringUTF16" "HI_BYTE_SHIFT" "I" ∈ gts := gt_3 10 rfl rfl
theorem kf_java_lang_StringUTF16_63 : Cond.fieldLink "java/lang/StringUTF16" 63 "java/lang/StringUTF16" "LO_BYTE_SHIFT" "I" ∈ gts := gt_3 12 rfl rfl
theorem km_TX_75 : Cond.methodLink "PlaceRules$Text" 75 ⟨"PlaceRules$Kind", "hasSecond", "()Z"⟩ ∈ gts := gt_3 14 rfl rfl
theorem ki_KD_hasSecond : Cond.instanceMethod ⟨"PlaceRules$Kind", "hasSecond", "()Z"⟩ ∈ gts := gt_3 15 rfl rfl
theorem ko_KD_hasSecond : Cond.selects "PlaceRules$Kind" ⟨"PlaceRules$Kind", "hasSecond", "()Z"⟩ ⟨"PlaceRules$Kind", "hasSecond", "()Z"⟩ ∈ gts := gt_3 16 rfl rfl
theorem km_TX_78 : Cond.methodLink "PlaceRules$Text" 78 ⟨"PlaceRules$Kind", "leastSecond", "()I"⟩ ∈ gts := gt_3 18 rfl rfl
theorem ki_KD_leastSecond : Cond.instanceMethod ⟨"PlaceRules$Kind", "leastSecond", "()I"⟩ ∈ gts := gt_3 19 rfl rfl
theorem ko_KD_leastSecond : Cond.selects "PlaceRules$Kind" ⟨"PlaceRules$Kind", "leastSecond", "()I"⟩ ⟨"PlaceRules$Kind", "leastSecond", "()I"⟩ ∈ gts := gt_3 20 rfl rfl
theorem km_KD_70 : Cond.methodLink "PlaceRules$Kind" 70 ⟨"PlaceRules$Kind", "hasSecond", "()Z"⟩ ∈ gts := gt_3 22 rfl rfl
theorem km_TX_82 : Cond.methodLink "PlaceRules$Text" 82 ⟨"PlaceRules$Kind", "mostSecond", "()I"⟩ ∈ gts := gt_3 23 rfl rfl
theorem ki_KD_mostSecond : Cond.instanceMethod ⟨"PlaceRules$Kind", "mostSecond", "()I"⟩ ∈ gts := gt_3 24 rfl rfl
theorem ko_KD_mostSecond : Cond.selects "PlaceRules$Kind" ⟨"PlaceRules$Kind", "mostSecond", "()I"⟩ ⟨"PlaceRules$Kind", "mostSecond", "()I"⟩ ∈ gts := gt_3 25 rfl rfl
theorem km_PR_155 : Cond.methodLink "PlaceRules" 155 ⟨"PlaceRules$RuleBook", "addRule", "(ILPlaceRules$Kind;II)I"⟩ ∈ gts := gt_3 27 rfl rfl
theorem ki_RB_addRule : Cond.instanceMethod ⟨"PlaceRules$RuleBook", "addRule", "(ILPlaceRules$Kind;II)I"⟩ ∈ gts := gt_3 28 rfl rfl
theorem ko_RB_addRule : Cond.selects "PlaceRules$RuleBook" ⟨"PlaceRules$RuleBook", "addRule", "(ILPlaceRules$Kind;II)I"⟩ ⟨"PlaceRules$RuleBook", "addRule", "(ILPlaceRules$Kind;II)I"⟩ ∈ gts := gt_3 29 rfl rfl
theorem km_RB_45 : Cond.methodLink "PlaceRules$RuleBook" 45 ⟨"PlaceRules$RuleBook", "noteClashes", "(I)V"⟩ ∈ gts := gt_3 31 rfl rfl
theorem ki_RB_noteClashes : Cond.instanceMethod ⟨"PlaceRules$RuleBook", "noteClashes", "(I)V"⟩ ∈ gts := gt_3 33 rfl rfl
theorem km_RB_49 : Cond.methodLink "PlaceRules$RuleBook" 49 ⟨"PlaceRules$RuleBook", "insertInOrder", "(I)V"⟩ ∈ gts := gt_3 35 rfl rfl
theorem ki_RB_insertInOrder : Cond.instanceMethod ⟨"PlaceRules$RuleBook", "insertInOrder", "(I)V"⟩ ∈ gts := gt_3 37 rfl rfl
theorem km_PR_185 : Cond.methodLink "PlaceRules" 185 ⟨"PlaceRules$Text", "forget", "()V"⟩ ∈ gts := gt_3 39 rfl rfl
theorem ki_TX_forget : Cond.instanceMethod ⟨"PlaceRules$Text", "forget", "()V"⟩ ∈ gts := gt_3 40 rfl rfl
theorem ko_TX_forget : Cond.selects "PlaceRules$Text" ⟨"PlaceRules$Text", "forget", "()V"⟩ ⟨"PlaceRules$Text", "forget", "()V"⟩ ∈ gts := gt_3 41 rfl rfl
theorem km_LW_149 : Cond.methodLink "PlaceRulesLaw" 149 ⟨"PlaceRules", "count", "(I)I"⟩ ∈ gts := gt_3 43 rfl rfl
theorem ki_PR_count : Cond.instanceMethod ⟨"PlaceRules", "count", "(I)I"⟩ ∈ gts := gt_3 44 rfl rfl
theorem ko_PR_count : Cond.selects "PlaceRules" ⟨"PlaceRules", "count", "(I)I"⟩ ⟨"PlaceRules", "count", "(I)I"⟩ ∈ gts := gt_3 45 rfl rfl
theorem km_LW_78 : Cond.methodLink "PlaceRulesLaw" 78 ⟨"PlaceRulesLaw", "place", "(LPlaceRules;IIII)I"⟩ ∈ gts := gt_3 47 rfl rfl
theorem ks_LW_place : Cond.static ⟨"PlaceRulesLaw", "place", "(LPlaceRules;IIII)I"⟩ ∈ gts := gt_3 48 rfl rfl
theorem kk_LW_13 : Cond.classLink "PlaceRulesLaw" 13 "java/lang/IllegalArgumentException" ∈ gts := gt_3 50 rfl rfl
theorem km_LW_7 : Cond.methodLink "PlaceRulesLaw" 7 ⟨"PlaceRules", "place", "(IIII)V"⟩ ∈ gts := gt_3 51 rfl rfl
theorem ki_PR_place : Cond.instanceMethod ⟨"PlaceRules", "place", "(IIII)V"⟩ ∈ gts := gt_3 52 rfl rfl
theorem ko_PR_place : Cond.selects "PlaceRules" ⟨"PlaceRules", "place", "(IIII)V"⟩ ⟨"PlaceRules", "place", "(IIII)V"⟩ ∈ gts := gt_3 53 rfl rfl
theorem km_PR_62 : Cond.methodLink "PlaceRules" 62 ⟨"PlaceRules", "needPlace", "(I)V"⟩ ∈ gts := gt_3 55 rfl rfl
theorem ks_PR_needPlace : Cond.static ⟨"PlaceRules", "needPlace", "(I)V"⟩ ∈ gts := gt_3 56 rfl rfl
theorem km_PR_81 : Cond.methodLink "PlaceRules" 81 ⟨"PlaceRules", "needWithin", "(III)V"⟩ ∈ gts := gt_3 58 rfl rfl
theorem ks_PR_needWithin : Cond.static ⟨"PlaceRules", "needWithin", "(III)V"⟩ ∈ gts := gt_3 59 rfl rfl
theorem kk_PR_302 : Cond.classLink "PlaceRules" 302 "java/lang/IllegalArgumentException" ∈ gts := gt_3 61 rfl rfl
theorem kn_java_lang_IllegalArgumentException : Cond.instantiable "java/lang/IllegalArgumentException" 6 ∈ gts := gt_3 62 rfl rfl
theorem kf_java_lang_Throwable_198 : Cond.fieldLink "java/lang/Throwable" 198 "java/lang/Throwable" "backtrace" "Ljava/lang/Object;" ∈ gts := gt_3 82 rfl rfl
theorem ki_java_lang_Throwable_init : Cond.instanceMethod ⟨"java/lang/Throwable", "<init>", "()V"⟩ ∈ gts := gt_3 84 rfl rfl
theorem km_java_lang_Throwable_1 : Cond.methodLink "java/lang/Throwable" 1 ⟨"java/lang/Object", "<init>", "()V"⟩ ∈ gts := gt_3 86 rfl rfl
theorem kf_java_lang_Throwable_13 : Cond.fieldLink "java/lang/Throwable" 13 "java/lang/Throwable" "UNASSIGNED_STACK" "[Ljava/lang/StackTraceElement;" ∈ gts := gt_3 87 rfl rfl
theorem kf_java_lang_Throwable_20 : Cond.fieldLink "java/lang/Throwable" 20 "java/lang/Throwable" "SUPPRESSED_SENTINEL" "Ljava/util/List;" ∈ gts := gt_3 89 rfl rfl
theorem km_java_lang_Throwable_27 : Cond.methodLink "java/lang/Throwable" 27 ⟨"java/lang/Throwable", "fillInStackTrace", "()Ljava/lang/Throwable;"⟩ ∈ gts := gt_3 91 rfl rfl
theorem ki_java_lang_Throwable_fillInStackTrace : Cond.instanceMethod ⟨"java/lang/Throwable", "fillInStackTrace", "()Ljava/lang/Throwable;"⟩ ∈ gts := gt_3 92 rfl rfl
theorem km_java_lang_Throwable_202 : Cond.methodLink "java/lang/Throwable" 202 ⟨"java/lang/Throwable", "fillInStackTrace", "(I)Ljava/lang/Throwable;"⟩ ∈ gts := gt_3 98 rfl rfl
theorem ki_java_lang_Throwable_fillInStackTrace2 : Cond.instanceMethod ⟨"java/lang/Throwable", "fillInStackTrace", "(I)Ljava/lang/Throwable;"⟩ ∈ gts := gt_3 100 rfl rfl
theorem kn_java_lang_Throwable : Cond.instantiable "java/lang/Throwable" 6 ∈ gts := gt_3 101 rfl rfl
theorem km_PR_306 : Cond.methodLink "PlaceRules" 306 ⟨"java/lang/IllegalArgumentException", "<init>", "(Ljava/lang/String;)V"⟩ ∈ gts := gt_3 104 rfl rfl
theorem ki_java_lang_IllegalArgumentException_init : Cond.instanceMethod ⟨"java/lang/IllegalArgumentException", "<init>", "(Ljava/lang/String;)V"⟩ ∈ gts := gt_3 105 rfl rfl
theorem km_java_lang_IllegalArgumentException_7 : Cond.methodLink "java/lang/IllegalArgumentException" 7 ⟨"java/lang/RuntimeException", "<init>", "(Ljava/lang/String;)V"⟩ ∈ gts := gt_3 107 rfl rfl
theorem ki_java_lang_RuntimeException_init : Cond.instanceMethod ⟨"java/lang/RuntimeException", "<init>", "(Ljava/lang/String;)V"⟩ ∈ gts := gt_3 108 rfl rfl
theorem km_java_lang_RuntimeException_7 : Cond.methodLink "java/lang/RuntimeException" 7 ⟨"java/lang/Exception", "<init>", "(Ljava/lang/String;)V"⟩ ∈ gts := gt_3 110 rfl rfl
theorem ki_java_lang_Exception_init : Cond.instanceMethod ⟨"java/lang/Exception", "<init>", "(Ljava/lang/String;)V"⟩ ∈ gts := gt_3 111 rfl rfl
theorem km_java_lang_Exception_7 : Cond.methodLink "java/lang/Exception" 7 ⟨"java/lang/Throwable", "<init>", "(Ljava/lang/String;)V"⟩ ∈ gts := gt_3 113 rfl rfl
theorem ki_java_lang_Throwable_init2 : Cond.instanceMethod ⟨"java/lang/Throwable", "<init>", "(Ljava/lang/String;)V"⟩ ∈ gts := gt_3 114 rfl rfl
theorem kf_java_lang_Throwable_31 : Cond.fieldLink "java/lang/Throwable" 31 "java/lang/Throwable" "detailMessage" "Ljava/lang/String;" ∈ gts := gt_3 117 rfl rfl
theorem kf_java_lang_Throwable_7 : Cond.fieldLink "java/lang/Throwable" 7 "java/lang/Throwable" "cause" "Ljava/lang/Throwable;" ∈ gts := gt_3 118 rfl rfl
theorem kf_java_lang_Throwable_17 : Cond.fieldLink "java/lang/Throwable" 17 "java/lang/Throwable" "stackTrace" "[Ljava/lang/StackTraceElement;" ∈ gts := gt_3 119 rfl rfl
theorem kf_java_lang_Throwable_24 : Cond.fieldLink "java/lang/Throwable" 24 "java/lang/Throwable" "suppressedExceptions" "Ljava/util/List;" ∈ gts := gt_3 120 rfl rfl
theorem ka_byte : Cond.arrayClass .byte ∈ gts := gt_3 129 rfl rfl
theorem km_PR_66 : Cond.methodLink "PlaceRules" 66 ⟨"PlaceRules", "needLengths", "(III)V"⟩ ∈ gts := gt_3 130 rfl rfl
theorem ks_PR_needLengths : Cond.static ⟨"PlaceRules", "needLengths", "(III)V"⟩ ∈ gts := gt_3 131 rfl rfl
theorem km_LW_88 : Cond.methodLink "PlaceRulesLaw" 88 ⟨"PlaceRulesLaw", "limit", "(LPlaceRules;III)I"⟩ ∈ gts := gt_3 133 rfl rfl
theorem ks_LW_limit : Cond.static ⟨"PlaceRulesLaw", "limit", "(LPlaceRules;III)I"⟩ ∈ gts := gt_3 134 rfl rfl
theorem km_LW_15 : Cond.methodLink "PlaceRulesLaw" 15 ⟨"PlaceRules", "limit", "(III)V"⟩ ∈ gts := gt_3 136 rfl rfl
theorem ki_PR_limit : Cond.instanceMethod ⟨"PlaceRules", "limit", "(III)V"⟩ ∈ gts := gt_3 137 rfl rfl
theorem ko_PR_limit : Cond.selects "PlaceRules" ⟨"PlaceRules", "limit", "(III)V"⟩ ⟨"PlaceRules", "limit", "(III)V"⟩ ∈ gts := gt_3 138 rfl rfl
theorem kv_PR_80 : Cond.constant "PlaceRules" 80 (10000000) ∈ gts := gt_3 140 rfl rfl
theorem km_LW_92 : Cond.methodLink "PlaceRulesLaw" 92 ⟨"PlaceRulesLaw", "unit", "(LPlaceRules;III[J)I"⟩ ∈ gts := gt_3 141 rfl rfl
theorem ks_LW_unit : Cond.static ⟨"PlaceRulesLaw", "unit", "(LPlaceRules;III[J)I"⟩ ∈ gts := gt_3 142 rfl rfl
theorem kk_LW_23 : Cond.classLink "PlaceRulesLaw" 23 "java/lang/UnsupportedOperationException" ∈ gts := gt_3 144 rfl rfl
theorem km_LW_19 : Cond.methodLink "PlaceRulesLaw" 19 ⟨"PlaceRules", "unit", "(III)I"⟩ ∈ gts := gt_3 145 rfl rfl
theorem ki_PR_unit : Cond.instanceMethod ⟨"PlaceRules", "unit", "(III)I"⟩ ∈ gts := gt_3 146 rfl rfl
theorem ko_PR_unit : Cond.selects "PlaceRules" ⟨"PlaceRules", "unit", "(III)I"⟩ ⟨"PlaceRules", "unit", "(III)I"⟩ ∈ gts := gt_3 147 rfl rfl
theorem kk_PR_93 : Cond.classLink "PlaceRules" 93 "java/lang/UnsupportedOperationException" ∈ gts := gt_3 149 rfl rfl
theorem kn_java_lang_UnsupportedOperationException : Cond.instantiable "java/lang/UnsupportedOperationException" 6 ∈ gts := gt_3 150 rfl rfl
theorem km_PR_97 : Cond.methodLink "PlaceRules" 97 ⟨"java/lang/UnsupportedOperationException", "<init>", "(Ljava/lang/String;)V"⟩ ∈ gts := gt_3 159 rfl rfl
theorem ki_java_lang_UnsupportedOperationException_init : Cond.instanceMethod ⟨"java/lang/UnsupportedOperationException", "<init>", "(Ljava/lang/String;)V"⟩ ∈ gts := gt_3 160 rfl rfl
theorem km_java_lang_UnsupportedOperationException_7 : Cond.methodLink "java/lang/UnsupportedOperationException" 7 ⟨"java/lang/RuntimeException", "<init>", "(Ljava/lang/String;)V"⟩ ∈ gts := gt_3 162 rfl rfl
theorem km_LW_96 : Cond.methodLink "PlaceRulesLaw" 96 ⟨"PlaceRulesLaw", "size", "(LPlaceRules;IIIII)I"⟩ ∈ gts := gt_3 165 rfl rfl
theorem ks_LW_size : Cond.static ⟨"PlaceRulesLaw", "size", "(LPlaceRules;IIIII)I"⟩ ∈ gts := gt_3 166 rfl rfl
theorem kk_LW_29 : Cond.classLink "PlaceRulesLaw" 29 "java/util/NoSuchElementException" ∈ gts := gt_3 168 rfl rfl
theorem kk_LW_31 : Cond.classLink "PlaceRulesLaw" 31 "java/lang/IllegalStateException" ∈ gts := gt_3 169 rfl rfl
theorem km_LW_25 : Cond.methodLink "PlaceRulesLaw" 25 ⟨"PlaceRules", "size", "(IIIII)V"⟩ ∈ gts := gt_3 170 rfl rfl
theorem ki_PR_size : Cond.instanceMethod ⟨"PlaceRules", "size", "(IIIII)V"⟩ ∈ gts := gt_3 171 rfl rfl
theorem ko_PR_size : Cond.selects "PlaceRules" ⟨"PlaceRules", "size", "(IIIII)V"⟩ ⟨"PlaceRules", "size", "(IIIII)V"⟩ ∈ gts := gt_3 172 rfl rfl
theorem km_PR_109 : Cond.methodLink "PlaceRules" 109 ⟨"PlaceRules", "needUnit", "(I)V"⟩ ∈ gts := gt_3 174 rfl rfl
theorem ki_PR_needUnit : Cond.instanceMethod ⟨"PlaceRules", "needUnit", "(I)V"⟩ ∈ gts := gt_3 176 rfl rfl
theorem kk_PR_194 : Cond.classLink "PlaceRules" 194 "java/util/NoSuchElementException" ∈ gts := gt_3 178 rfl rfl
theorem kn_java_util_NoSuchElementException : Cond.instantiable "java/util/NoSuchElementException" 6 ∈ gts := gt_3 179 rfl rfl
theorem km_PR_198 : Cond.methodLink "PlaceRules" 198 ⟨"java/util/NoSuchElementException", "<init>", "(Ljava/lang/String;)V"⟩ ∈ gts := gt_3 188 rfl rfl
theorem ki_java_util_NoSuchElementException_init : Cond.instanceMethod ⟨"java/util/NoSuchElementException", "<init>", "(Ljava/lang/String;)V"⟩ ∈ gts := gt_3 189 rfl rfl
theorem km_java_util_NoSuchElementException_13 : Cond.methodLink "java/util/NoSuchElementException" 13 ⟨"java/lang/RuntimeException", "<init>", "(Ljava/lang/String;)V"⟩ ∈ gts := gt_3 191 rfl rfl
theorem kv_PR_112 : Cond.constant "PlaceRules" 112 (1000000) ∈ gts := gt_3 194 rfl rfl
theorem km_PR_113 : Cond.methodLink "PlaceRules" 113 ⟨"PlaceRules", "needNowhere", "(I)V"⟩ ∈ gts := gt_3 195 rfl rfl
theorem ki_PR_needNowhere : Cond.instanceMethod ⟨"PlaceRules", "needNowhere", "(I)V"⟩ ∈ gts := gt_3 197 rfl rfl
theorem kk_PR_237 : Cond.classLink "PlaceRules" 237 "java/lang/IllegalStateException" ∈ gts := gt_3 199 rfl rfl
theorem kn_java_lang_IllegalStateException : Cond.instantiable "java/lang/IllegalStateException" 6 ∈ gts := gt_3 200 rfl rfl
theorem km_PR_241 : Cond.methodLink "PlaceRules" 241 ⟨"java/lang/IllegalStateException", "<init>", "(Ljava/lang/String;)V"⟩ ∈ gts := gt_3 209 rfl rfl
theorem ki_java_lang_IllegalStateException_init : Cond.instanceMethod ⟨"java/lang/IllegalStateException", "<init>", "(Ljava/lang/String;)V"⟩ ∈ gts := gt_3 210 rfl rfl
theorem km_java_lang_IllegalStateException_7 : Cond.methodLink "java/lang/IllegalStateException" 7 ⟨"java/lang/RuntimeException", "<init>", "(Ljava/lang/String;)V"⟩ ∈ gts := gt_3 212 rfl rfl
theorem km_LW_100 : Cond.methodLink "PlaceRulesLaw" 100 ⟨"PlaceRulesLaw", "nature", "(LPlaceRules;IIII)I"⟩ ∈ gts := gt_3 215 rfl rfl
theorem ks_LW_nature : Cond.static ⟨"PlaceRulesLaw", "nature", "(LPlaceRules;IIII)I"⟩ ∈ gts := gt_3 216 rfl rfl
theorem km_LW_33 : Cond.methodLink "PlaceRulesLaw" 33 ⟨"PlaceRules", "nature", "(IIII)V"⟩ ∈ gts := gt_3 218 rfl rfl
theorem ki_PR_nature : Cond.instanceMethod ⟨"PlaceRules", "nature", "(IIII)V"⟩ ∈ gts := gt_3 219 rfl rfl
theorem ko_PR_nature : Cond.selects "PlaceRules" ⟨"PlaceRules", "nature", "(IIII)V"⟩ ⟨"PlaceRules", "nature", "(IIII)V"⟩ ∈ gts := gt_3 220 rfl rfl
theorem km_LW_103 : Cond.methodLink "PlaceRulesLaw" 103 ⟨"PlaceRulesLaw", "rule", "(LPlaceRules;IIII[J)I"⟩ ∈ gts := gt_3 222 rfl rfl
theorem ks_LW_rule : Cond.static ⟨"PlaceRulesLaw", "rule", "(LPlaceRules;IIII[J)I"⟩ ∈ gts := gt_3 223 rfl rfl
theorem km_LW_36 : Cond.methodLink "PlaceRulesLaw" 36 ⟨"PlaceRules", "rule", "(IIII)I"⟩ ∈ gts := gt_3 225 rfl rfl
theorem ki_PR_rule : Cond.instanceMethod ⟨"PlaceRules", "rule", "(IIII)I"⟩ ∈ gts := gt_3 226 rfl rfl
theorem ko_PR_rule : Cond.selects "PlaceRules" ⟨"PlaceRules", "rule", "(IIII)I"⟩ ⟨"PlaceRules", "rule", "(IIII)I"⟩ ∈ gts := gt_3 227 rfl rfl
theorem kf_PR_131 : Cond.fieldLink "PlaceRules" 131 "PlaceRules" "KINDS" "[LPlaceRules$Kind;" ∈ gts := gt_3 229 rfl rfl
theorem km_PR_143 : Cond.methodLink "PlaceRules" 143 ⟨"PlaceRules$Kind", "leastSecond", "()I"⟩ ∈ gts := gt_3 230 rfl rfl
theorem km_PR_147 : Cond.methodLink "PlaceRules" 147 ⟨"PlaceRules$Kind", "mostSecond", "()I"⟩ ∈ gts := gt_3 231 rfl rfl
theorem km_LW_115 : Cond.methodLink "PlaceRulesLaw" 115 ⟨"PlaceRulesLaw", "own", "(LPlaceRules;II)I"⟩ ∈ gts := gt_3 233 rfl rfl
theorem ks_LW_own : Cond.static ⟨"PlaceRulesLaw", "own", "(LPlaceRules;II)I"⟩ ∈ gts := gt_3 234 rfl rfl
theorem km_LW_40 : Cond.methodLink "PlaceRulesLaw" 40 ⟨"PlaceRules", "own", "(II)V"⟩ ∈ gts := gt_3 236 rfl rfl
theorem ki_PR_own : Cond.instanceMethod ⟨"PlaceRules", "own", "(II)V"⟩ ∈ gts := gt_3 237 rfl rfl
theorem ko_PR_own : Cond.selects "PlaceRules" ⟨"PlaceRules", "own", "(II)V"⟩ ⟨"PlaceRules", "own", "(II)V"⟩ ∈ gts := gt_3 238 rfl rfl
theorem km_LW_119 : Cond.methodLink "PlaceRulesLaw" 119 ⟨"PlaceRulesLaw", "except", "(LPlaceRules;IIII)I"⟩ ∈ gts := gt_4 0 rfl rfl
theorem ks_LW_except : Cond.static ⟨"PlaceRulesLaw", "except", "(LPlaceRules;IIII)I"⟩ ∈ gts := gt_4 1 rfl rfl
theorem km_LW_44 : Cond.methodLink "PlaceRulesLaw" 44 ⟨"PlaceRules", "except", "(IIII)V"⟩ ∈ gts := gt_4 3 rfl rfl
theorem ki_PR_except : Cond.instanceMethod ⟨"PlaceRules", "except", "(IIII)V"⟩ ∈ gts := gt_4 4 rfl rfl
theorem ko_PR_except : Cond.selects "PlaceRules" ⟨"PlaceRules", "except", "(IIII)V"⟩ ⟨"PlaceRules", "except", "(IIII)V"⟩ ∈ gts := gt_4 5 rfl rfl
theorem km_PR_199 : Cond.methodLink "PlaceRules" 199 ⟨"PlaceRules", "findWaiver", "(III)I"⟩ ∈ gts := gt_4 8 rfl rfl
theorem ki_PR_findWaiver : Cond.instanceMethod ⟨"PlaceRules", "findWaiver", "(III)I"⟩ ∈ gts := gt_4 10 rfl rfl
theorem km_PR_206 : Cond.methodLink "PlaceRules" 206 ⟨"java/lang/Math", "max", "(II)I"⟩ ∈ gts := gt_4 12 rfl rfl
theorem ks_java_lang_Math_max : Cond.static ⟨"java/lang/Math", "max", "(II)I"⟩ ∈ gts := gt_4 13 rfl rfl
theorem km_LW_122 : Cond.methodLink "PlaceRulesLaw" 122 ⟨"PlaceRulesLaw", "may", "(LPlaceRules;III[J)I"⟩ ∈ gts := gt_4 16 rfl rfl
theorem ks_LW_may : Cond.static ⟨"PlaceRulesLaw", "may", "(LPlaceRules;III[J)I"⟩ ∈ gts := gt_4 17 rfl rfl
theorem km_LW_47 : Cond.methodLink "PlaceRulesLaw" 47 ⟨"PlaceRules", "may", "(III)I"⟩ ∈ gts := gt_4 19 rfl rfl
theorem ki_PR_may : Cond.instanceMethod ⟨"PlaceRules", "may", "(III)I"⟩ ∈ gts := gt_4 20 rfl rfl
theorem ko_PR_may : Cond.selects "PlaceRules" ⟨"PlaceRules", "may", "(III)I"⟩ ⟨"PlaceRules", "may", "(III)I"⟩ ∈ gts := gt_4 21 rfl rfl
theorem km_PR_224 : Cond.methodLink "PlaceRules" 224 ⟨"PlaceRules", "needQuestion", "(III)V"⟩ ∈ gts := gt_4 23 rfl rfl
theorem ki_PR_needQuestion : Cond.instanceMethod ⟨"PlaceRules", "needQuestion", "(III)V"⟩ ∈ gts := gt_4 25 rfl rfl
theorem km_PR_227 : Cond.methodLink "PlaceRules" 227 ⟨"PlaceRules", "ask", "(III)I"⟩ ∈ gts := gt_4 27 rfl rfl
theorem ki_PR_ask : Cond.instanceMethod ⟨"PlaceRules", "ask", "(III)I"⟩ ∈ gts := gt_4 29 rfl rfl
theorem km_PR_266 : Cond.methodLink "PlaceRules" 266 ⟨"PlaceRules", "gather", "(III)V"⟩ ∈ gts := gt_4 31 rfl rfl
theorem ki_PR_gather : Cond.instanceMethod ⟨"PlaceRules", "gather", "(III)V"⟩ ∈ gts := gt_4 33 rfl rfl
theorem km_PR_287 : Cond.methodLink "PlaceRules" 287 ⟨"PlaceRules$Question", "begin", "(LPlaceRules$Unit;LPlaceRules$Place;I)V"⟩ ∈ gts := gt_4 35 rfl rfl
theorem ki_QU_begin : Cond.instanceMethod ⟨"PlaceRules$Question", "begin", "(LPlaceRules$Unit;LPlaceRules$Place;I)V"⟩ ∈ gts := gt_4 36 rfl rfl
theorem ko_QU_begin : Cond.selects "PlaceRules$Question" ⟨"PlaceRules$Question", "begin", "(LPlaceRules$Unit;LPlaceRules$Place;I)V"⟩ ⟨"PlaceRules$Question", "begin", "(LPlaceRules$Unit;LPlaceRules$Place;I)V"⟩ ∈ gts := gt_4 37 rfl rfl
theorem km_QU_31 : Cond.methodLink "PlaceRules$Question" 31 ⟨"PlaceRules$Place", "fits", "(LPlaceRules$Unit;I)Z"⟩ ∈ gts := gt_4 39 rfl rfl
theorem ki_PL_fits : Cond.instanceMethod ⟨"PlaceRules$Place", "fits", "(LPlaceRules$Unit;I)Z"⟩ ∈ gts := gt_4 40 rfl rfl
theorem ko_PL_fits : Cond.selects "PlaceRules$Place" ⟨"PlaceRules$Place", "fits", "(LPlaceRules$Unit;I)Z"⟩ ⟨"PlaceRules$Place", "fits", "(LPlaceRules$Unit;I)Z"⟩ ∈ gts := gt_4 41 rfl rfl
theorem km_PL_34 : Cond.methodLink "PlaceRules$Place" 34 ⟨"PlaceRules$Place", "holds", "(III)Z"⟩ ∈ gts := gt_4 43 rfl rfl
theorem ki_PL_holds : Cond.instanceMethod ⟨"PlaceRules$Place", "holds", "(III)Z"⟩ ∈ gts := gt_4 45 rfl rfl
theorem km_QU_41 : Cond.methodLink "PlaceRules$Question" 41 ⟨"PlaceRules$Place", "firstWayFor", "(LPlaceRules$Unit;)I"⟩ ∈ gts := gt_4 47 rfl rfl
theorem ki_PL_firstWayFor : Cond.instanceMethod ⟨"PlaceRules$Place", "firstWayFor", "(LPlaceRules$Unit;)I"⟩ ∈ gts := gt_4 48 rfl rfl
theorem ko_PL_firstWayFor : Cond.selects "PlaceRules$Place" ⟨"PlaceRules$Place", "firstWayFor", "(LPlaceRules$Unit;)I"⟩ ⟨"PlaceRules$Place", "firstWayFor", "(LPlaceRules$Unit;)I"⟩ ∈ gts := gt_4 49 rfl rfl
theorem km_PL_25 : Cond.methodLink "PlaceRules$Place" 25 ⟨"PlaceRules$Place", "fits", "(LPlaceRules$Unit;I)Z"⟩ ∈ gts := gt_4 51 rfl rfl
theorem km_QU_90 : Cond.methodLink "PlaceRules$Question" 90 ⟨"PlaceRules$NumberSet", "holdOnly", "(I)V"⟩ ∈ gts := gt_4 52 rfl rfl
theorem ki_NS_holdOnly : Cond.instanceMethod ⟨"PlaceRules$NumberSet", "holdOnly", "(I)V"⟩ ∈ gts := gt_4 53 rfl rfl
theorem ko_NS_holdOnly : Cond.selects "PlaceRules$NumberSet" ⟨"PlaceRules$NumberSet", "holdOnly", "(I)V"⟩ ⟨"PlaceRules$NumberSet", "holdOnly", "(I)V"⟩ ∈ gts := gt_4 54 rfl rfl
theorem km_NS_16 : Cond.methodLink "PlaceRules$NumberSet" 16 ⟨"PlaceRules$NumberSet", "clear", "()V"⟩ ∈ gts := gt_4 56 rfl rfl
theorem ki_NS_clear : Cond.instanceMethod ⟨"PlaceRules$NumberSet", "clear", "()V"⟩ ∈ gts := gt_4 57 rfl rfl
theorem ko_NS_clear : Cond.selects "PlaceRules$NumberSet" ⟨"PlaceRules$NumberSet", "clear", "()V"⟩ ⟨"PlaceRules$NumberSet", "clear", "()V"⟩ ∈ gts := gt_4 58 rfl rfl
theorem km_NS_19 : Cond.methodLink "PlaceRules$NumberSet" 19 ⟨"PlaceRules$NumberSet", "add", "(I)V"⟩ ∈ gts := gt_4 60 rfl rfl
theorem ki_NS_add : Cond.instanceMethod ⟨"PlaceRules$NumberSet", "add", "(I)V"⟩ ∈ gts := gt_4 61 rfl rfl
theorem ko_NS_add : Cond.selects "PlaceRules$NumberSet" ⟨"PlaceRules$NumberSet", "add", "(I)V"⟩ ⟨"PlaceRules$NumberSet", "add", "(I)V"⟩ ∈ gts := gt_4 62 rfl rfl
theorem km_QU_100 : Cond.methodLink "PlaceRules$Question" 100 ⟨"PlaceRules$NumberSet", "clear", "()V"⟩ ∈ gts := gt_4 64 rfl rfl
theorem km_PR_291 : Cond.methodLink "PlaceRules" 291 ⟨"PlaceRules$Question", "addOther", "(LPlaceRules$Unit;)V"⟩ ∈ gts := gt_4 65 rfl rfl
theorem ki_QU_addOther : Cond.instanceMethod ⟨"PlaceRules$Question", "addOther", "(LPlaceRules$Unit;)V"⟩ ∈ gts := gt_4 66 rfl rfl
theorem ko_QU_addOther : Cond.selects "PlaceRules$Question" ⟨"PlaceRules$Question", "addOther", "(LPlaceRules$Unit;)V"⟩ ⟨"PlaceRules$Question", "addOther", "(LPlaceRules$Unit;)V"⟩ ∈ gts := gt_4 67 rfl rfl
theorem km_QU_103 : Cond.methodLink "PlaceRules$Question" 103 ⟨"java/lang/Math", "min", "(II)I"⟩ ∈ gts := gt_4 69 rfl rfl
theorem ks_java_lang_Math_min : Cond.static ⟨"java/lang/Math", "min", "(II)I"⟩ ∈ gts := gt_4 70 rfl rfl
theorem km_QU_109 : Cond.methodLink "PlaceRules$Question" 109 ⟨"java/lang/Math", "max", "(II)I"⟩ ∈ gts := gt_4 72 rfl rfl
theorem km_QU_112 : Cond.methodLink "PlaceRules$Question" 112 ⟨"PlaceRules$NumberSet", "add", "(I)V"⟩ ∈ gts := gt_4 73 rfl rfl
theorem km_PR_275 : Cond.methodLink "PlaceRules" 275 ⟨"PlaceRules", "isWaived", "(IIII)Z"⟩ ∈ gts := gt_4 74 rfl rfl
theorem ki_PR_isWaived : Cond.instanceMethod ⟨"PlaceRules", "isWaived", "(IIII)Z"⟩ ∈ gts := gt_4 76 rfl rfl
theorem km_PR_295 : Cond.methodLink "PlaceRules" 295 ⟨"PlaceRules$Waiver", "covers", "(IIII)Z"⟩ ∈ gts := gt_4 78 rfl rfl
theorem ki_WV_covers : Cond.instanceMethod ⟨"PlaceRules$Waiver", "covers", "(IIII)Z"⟩ ∈ gts := gt_4 79 rfl rfl
theorem ko_WV_covers : Cond.selects "PlaceRules$Waiver" ⟨"PlaceRules$Waiver", "covers", "(IIII)Z"⟩ ⟨"PlaceRules$Waiver", "covers", "(IIII)Z"⟩ ∈ gts := gt_4 80 rfl rfl
theorem km_PR_279 : Cond.methodLink "PlaceRules" 279 ⟨"PlaceRules$Rule", "refuses", "(LPlaceRules$Question;LPlaceRules$OwnRules;)Z"⟩ ∈ gts := gt_4 82 rfl rfl
theorem ki_RU_refuses : Cond.instanceMethod ⟨"PlaceRules$Rule", "refuses", "(LPlaceRules$Question;LPlaceRules$OwnRules;)Z"⟩ ∈ gts := gt_4 83 rfl rfl
theorem ko_RU_refuses : Cond.selects "PlaceRules$Rule" ⟨"PlaceRules$Rule", "refuses", "(LPlaceRules$Question;LPlaceRules$OwnRules;)Z"⟩ ⟨"PlaceRules$Rule", "refuses", "(LPlaceRules$Question;LPlaceRules$OwnRules;)Z"⟩ ∈ gts := gt_4 84 rfl rfl
theorem kf_RU_18 : Cond.fieldLink "PlaceRules$Rule" 18 "PlaceRules$1" "$SwitchMap$PlaceRules$Kind" "[I" ∈ gts := gt_4 86 rfl rfl
theorem km_RU_24 : Cond.methodLink "PlaceRules$Rule" 24 ⟨"PlaceRules$Kind", "ordinal", "()I"⟩ ∈ gts := gt_4 88 rfl rfl
theorem ki_java_lang_Enum_ordinal : Cond.instanceMethod ⟨"java/lang/Enum", "ordinal", "()I"⟩ ∈ gts := gt_4 92 rfl rfl
theorem km_RU_54 : Cond.methodLink "PlaceRules$Rule" 54 ⟨"PlaceRules$NumberSet", "howMany", "()I"⟩ ∈ gts := gt_4 94 rfl rfl
theorem ki_NS_howMany : Cond.instanceMethod ⟨"PlaceRules$NumberSet", "howMany", "()I"⟩ ∈ gts := gt_4 95 rfl rfl
theorem ko_NS_howMany : Cond.selects "PlaceRules$NumberSet" ⟨"PlaceRules$NumberSet", "howMany", "()I"⟩ ⟨"PlaceRules$NumberSet", "howMany", "()I"⟩ ∈ gts := gt_4 96 rfl rfl
theorem km_NS_23 : Cond.methodLink "PlaceRules$NumberSet" 23 ⟨"java/lang/Long", "bitCount", "(J)I"⟩ ∈ gts := gt_4 98 rfl rfl
theorem ks_java_lang_Long_bitCount : Cond.static ⟨"java/lang/Long", "bitCount", "(J)I"⟩ ∈ gts := gt_4 99 rfl rfl
theorem kv_java_lang_Long_314 : Cond.constantLong "java/lang/Long" 314 (6148914691236517205) ∈ gts := gt_4 101 rfl rfl
theorem kv_java_lang_Long_316 : Cond.constantLong "java/lang/Long" 316 (3689348814741910323) ∈ gts := gt_4 102 rfl rfl
theorem kv_java_lang_Long_318 : Cond.constantLong "java/lang/Long" 318 (1085102592571150095) ∈ gts := gt_4 103 rfl rfl
theorem km_RU_68 : Cond.methodLink "PlaceRules$Rule" 68 ⟨"PlaceRules$Question", "meetsHazards", "(II)Z"⟩ ∈ gts := gt_4 104 rfl rfl
theorem ki_QU_meetsHazards : Cond.instanceMethod ⟨"PlaceRules$Question", "meetsHazards", "(II)Z"⟩ ∈ gts := gt_4 105 rfl rfl
theorem ko_QU_meetsHazards : Cond.selects "PlaceRules$Question" ⟨"PlaceRules$Question", "meetsHazards", "(II)Z"⟩ ⟨"PlaceRules$Question", "meetsHazards", "(II)Z"⟩ ∈ gts := gt_4 106 rfl rfl
theorem km_QU_115 : Cond.methodLink "PlaceRules$Question" 115 ⟨"PlaceRules$NumberSet", "has", "(I)Z"⟩ ∈ gts := gt_4 108 rfl rfl
theorem ki_NS_has : Cond.instanceMethod ⟨"PlaceRules$NumberSet", "has", "(I)Z"⟩ ∈ gts := gt_4 109 rfl rfl
theorem ko_NS_has : Cond.selects "PlaceRules$NumberSet" ⟨"PlaceRules$NumberSet", "has", "(I)Z"⟩ ⟨"PlaceRules$NumberSet", "has", "(I)Z"⟩ ∈ gts := gt_4 110 rfl rfl
theorem km_RU_93 : Cond.methodLink "PlaceRules$Rule" 93 ⟨"PlaceRules$OwnRules", "refuse", "(ILPlaceRules$Question;)Z"⟩ ∈ gts := gt_4 112 rfl rfl
theorem ki_OW_refuse : Cond.instanceMethod ⟨"PlaceRules$OwnRules", "refuse", "(ILPlaceRules$Question;)Z"⟩ ∈ gts := gt_4 113 rfl rfl
theorem ko_OW_refuse : Cond.selects "PlaceRules$OwnRules" ⟨"PlaceRules$OwnRules", "refuse", "(ILPlaceRules$Question;)Z"⟩ ⟨"PlaceRules$OwnRules", "refuse", "(ILPlaceRules$Question;)Z"⟩ ∈ gts := gt_4 114 rfl rfl
theorem km_LW_125 : Cond.methodLink "PlaceRulesLaw" 125 ⟨"PlaceRulesLaw", "explain", "(LPlaceRules;I[J)I"⟩ ∈ gts := gt_4 116 rfl rfl
theorem ks_LW_explain : Cond.static ⟨"PlaceRulesLaw", "explain", "(LPlaceRules;I[J)I"⟩ ∈ gts := gt_4 117 rfl rfl
theorem km_LW_50 : Cond.methodLink "PlaceRulesLaw" 50 ⟨"PlaceRules", "explain", "(I)I"⟩ ∈ gts := gt_4 119 rfl rfl
theorem ki_PR_explain : Cond.instanceMethod ⟨"PlaceRules", "explain", "(I)I"⟩ ∈ gts := gt_4 120 rfl rfl
theorem ko_PR_explain : Cond.selects "PlaceRules" ⟨"PlaceRules", "explain", "(I)I"⟩ ⟨"PlaceRules", "explain", "(I)I"⟩ ∈ gts := gt_4 121 rfl rfl
theorem km_PR_230 : Cond.methodLink "PlaceRules" 230 ⟨"PlaceRules", "needIndex", "(I)V"⟩ ∈ gts := gt_4 123 rfl rfl
theorem ks_PR_needIndex : Cond.static ⟨"PlaceRules", "needIndex", "(I)V"⟩ ∈ gts := gt_4 124 rfl rfl
theorem km_LW_129 : Cond.methodLink "PlaceRulesLaw" 129 ⟨"PlaceRulesLaw", "put", "(LPlaceRules;III[J)I"⟩ ∈ gts := gt_4 127 rfl rfl
theorem ks_LW_put : Cond.static ⟨"PlaceRulesLaw", "put", "(LPlaceRules;III[J)I"⟩ ∈ gts := gt_4 128 rfl rfl
theorem km_LW_54 : Cond.methodLink "PlaceRulesLaw" 54 ⟨"PlaceRules", "put", "(III)I"⟩ ∈ gts := gt_4 130 rfl rfl
theorem ki_PR_put : Cond.instanceMethod ⟨"PlaceRules", "put", "(III)I"⟩ ∈ gts := gt_4 131 rfl rfl
theorem ko_PR_put : Cond.selects "PlaceRules" ⟨"PlaceRules", "put", "(III)I"⟩ ⟨"PlaceRules", "put", "(III)I"⟩ ∈ gts := gt_4 132 rfl rfl
theorem km_LW_132 : Cond.methodLink "PlaceRulesLaw" 132 ⟨"PlaceRulesLaw", "take", "(LPlaceRules;I)I"⟩ ∈ gts := gt_4 135 rfl rfl
theorem ks_LW_take : Cond.static ⟨"PlaceRulesLaw", "take", "(LPlaceRules;I)I"⟩ ∈ gts := gt_4 136 rfl rfl
theorem km_LW_57 : Cond.methodLink "PlaceRulesLaw" 57 ⟨"PlaceRules", "take", "(I)V"⟩ ∈ gts := gt_4 138 rfl rfl
theorem ki_PR_take : Cond.instanceMethod ⟨"PlaceRules", "take", "(I)V"⟩ ∈ gts := gt_4 139 rfl rfl
theorem ko_PR_take : Cond.selects "PlaceRules" ⟨"PlaceRules", "take", "(I)V"⟩ ⟨"PlaceRules", "take", "(I)V"⟩ ∈ gts := gt_4 140 rfl rfl
theorem km_LW_136 : Cond.methodLink "PlaceRulesLaw" 136 ⟨"PlaceRulesLaw", "turned", "(LPlaceRules;II[J)I"⟩ ∈ gts := gt_4 143 rfl rfl
theorem ks_LW_turned : Cond.static ⟨"PlaceRulesLaw", "turned", "(LPlaceRules;II[J)I"⟩ ∈ gts := gt_4 144 rfl rfl
theorem km_LW_61 : Cond.methodLink "PlaceRulesLaw" 61 ⟨"PlaceRules", "turned", "(II)I"⟩ ∈ gts := gt_4 146 rfl rfl
theorem ki_PR_turned : Cond.instanceMethod ⟨"PlaceRules", "turned", "(II)I"⟩ ∈ gts := gt_4 147 rfl rfl
theorem ko_PR_turned : Cond.selects "PlaceRules" ⟨"PlaceRules", "turned", "(II)I"⟩ ⟨"PlaceRules", "turned", "(II)I"⟩ ∈ gts := gt_4 148 rfl rfl
theorem km_PR_244 : Cond.methodLink "PlaceRules" 244 ⟨"PlaceRules$Place", "firstWayFor", "(LPlaceRules$Unit;)I"⟩ ∈ gts := gt_4 150 rfl rfl
theorem km_LW_140 : Cond.methodLink "PlaceRulesLaw" 140 ⟨"PlaceRulesLaw", "never", "(LPlaceRules;I[J)I"⟩ ∈ gts := gt_4 151 rfl rfl
theorem ks_LW_never : Cond.static ⟨"PlaceRulesLaw", "never", "(LPlaceRules;I[J)I"⟩ ∈ gts := gt_4 152 rfl rfl
theorem km_LW_65 : Cond.methodLink "PlaceRulesLaw" 65 ⟨"PlaceRules", "never", "(I)I"⟩ ∈ gts := gt_4 154 rfl rfl
theorem ki_PR_never : Cond.instanceMethod ⟨"PlaceRules", "never", "(I)I"⟩ ∈ gts := gt_4 155 rfl rfl
theorem ko_PR_never : Cond.selects "PlaceRules" ⟨"PlaceRules", "never", "(I)I"⟩ ⟨"PlaceRules", "never", "(I)I"⟩ ∈ gts := gt_4 156 rfl rfl
theorem km_PR_248 : Cond.methodLink "PlaceRules" 248 ⟨"PlaceRules$RuleBook", "neverRefused", "(I)I"⟩ ∈ gts := gt_4 158 rfl rfl
theorem ki_RB_neverRefused : Cond.instanceMethod ⟨"PlaceRules$RuleBook", "neverRefused", "(I)I"⟩ ∈ gts := gt_4 159 rfl rfl
theorem ko_RB_neverRefused : Cond.selects "PlaceRules$RuleBook" ⟨"PlaceRules$RuleBook", "neverRefused", "(I)I"⟩ ⟨"PlaceRules$RuleBook", "neverRefused", "(I)I"⟩ ∈ gts := gt_4 160 rfl rfl
theorem km_LW_143 : Cond.methodLink "PlaceRulesLaw" 143 ⟨"PlaceRulesLaw", "clash", "(LPlaceRules;II[J)I"⟩ ∈ gts := gt_4 162 rfl rfl
theorem ks_LW_clash : Cond.static ⟨"PlaceRulesLaw", "clash", "(LPlaceRules;II[J)I"⟩ ∈ gts := gt_4 163 rfl rfl
theorem km_LW_68 : Cond.methodLink "PlaceRulesLaw" 68 ⟨"PlaceRules", "clash", "(II)I"⟩ ∈ gts := gt_4 165 rfl rfl
theorem ki_PR_clash : Cond.instanceMethod ⟨"PlaceRules", "clash", "(II)I"⟩ ∈ gts := gt_4 166 rfl rfl
theorem ko_PR_clash : Cond.selects "PlaceRules" ⟨"PlaceRules", "clash", "(II)I"⟩ ⟨"PlaceRules", "clash", "(II)I"⟩ ∈ gts := gt_4 167 rfl rfl
theorem km_LW_146 : Cond.methodLink "PlaceRulesLaw" 146 ⟨"PlaceRulesLaw", "at", "(LPlaceRules;II[J)I"⟩ ∈ gts := gt_4 169 rfl rfl
theorem ks_LW_at : Cond.static ⟨"PlaceRulesLaw", "at", "(LPlaceRules;II[J)I"⟩ ∈ gts := gt_4 170 rfl rfl
theorem km_LW_71 : Cond.methodLink "PlaceRulesLaw" 71 ⟨"PlaceRules", "at", "(II)I"⟩ ∈ gts := gt_4 172 rfl rfl
theorem ki_PR_at : Cond.instanceMethod ⟨"PlaceRules", "at", "(II)I"⟩ ∈ gts := gt_4 173 rfl rfl
theorem ko_PR_at : Cond.selects "PlaceRules" ⟨"PlaceRules", "at", "(II)I"⟩ ⟨"PlaceRules", "at", "(II)I"⟩ ∈ gts := gt_4 174 rfl rfl
theorem kk_LW_75 : Cond.classLink "PlaceRulesLaw" 75 "PlaceRulesModel" ∈ gts := gt_4 176 rfl rfl
theorem kn_MD : Cond.instantiable "PlaceRulesModel" 28 ∈ gts := gt_4 177 rfl rfl
theorem km_LW_77 : Cond.methodLink "PlaceRulesLaw" 77 ⟨"PlaceRulesModel", "<init>", "()V"⟩ ∈ gts := gt_4 178 rfl rfl
theorem ki_MD_init : Cond.instanceMethod ⟨"PlaceRulesModel", "<init>", "()V"⟩ ∈ gts := gt_4 179 rfl rfl
theorem km_MD_1 : Cond.methodLink "PlaceRulesModel" 1 ⟨"java/lang/Object", "<init>", "()V"⟩ ∈ gts := gt_4 181 rfl rfl
theorem kv_MD_62 : Cond.constant "PlaceRulesModel" 62 (100000) ∈ gts := gt_4 182 rfl rfl
theorem kf_MD_63 : Cond.fieldLink "PlaceRulesModel" 63 "PlaceRulesModel" "thrown" "I" ∈ gts := gt_4 183 rfl rfl
theorem kf_MD_7 : Cond.fieldLink "PlaceRulesModel" 7 "PlaceRulesModel" "places" "[I" ∈ gts := gt_4 184 rfl rfl
theorem kf_MD_83 : Cond.fieldLink "PlaceRulesModel" 83 "PlaceRulesModel" "units" "I" ∈ gts := gt_4 185 rfl rfl
theorem kf_MD_13 : Cond.fieldLink "PlaceRulesModel" 13 "PlaceRulesModel" "things" "[I" ∈ gts := gt_4 186 rfl rfl
theorem kf_MD_16 : Cond.fieldLink "PlaceRulesModel" 16 "PlaceRulesModel" "stands" "[I" ∈ gts := gt_4 187 rfl rfl
theorem kf_MD_94 : Cond.fieldLink "PlaceRulesModel" 94 "PlaceRulesModel" "rules" "I" ∈ gts := gt_4 188 rfl rfl
theorem kf_MD_19 : Cond.fieldLink "PlaceRulesModel" 19 "PlaceRulesModel" "ranks" "[I" ∈ gts := gt_4 189 rfl rfl
theorem kf_MD_22 : Cond.fieldLink "PlaceRulesModel" 22 "PlaceRulesModel" "kinds" "[I" ∈ gts := gt_4 190 rfl rfl
theorem kf_MD_25 : Cond.fieldLink "PlaceRulesModel" 25 "PlaceRulesModel" "firsts" "[I" ∈ gts := gt_4 191 rfl rfl
theorem kf_MD_28 : Cond.fieldLink "PlaceRulesModel" 28 "PlaceRulesModel" "seconds" "[I" ∈ gts := gt_4 192 rfl rfl
theorem kf_MD_31 : Cond.fieldLink "PlaceRulesModel" 31 "PlaceRulesModel" "refused" "[Z" ∈ gts := gt_4 193 rfl rfl
theorem kf_MD_156 : Cond.fieldLink "PlaceRulesModel" 156 "PlaceRulesModel" "exceptions" "I" ∈ gts := gt_4 194 rfl rfl
theorem kf_MD_35 : Cond.fieldLink "PlaceRulesModel" 35 "PlaceRulesModel" "rulesOf" "[I" ∈ gts := gt_4 195 rfl rfl
theorem kf_MD_38 : Cond.fieldLink "PlaceRulesModel" 38 "PlaceRulesModel" "placesOf" "[I" ∈ gts := gt_4 196 rfl rfl
theorem kf_MD_41 : Cond.fieldLink "PlaceRulesModel" 41 "PlaceRulesModel" "ownersOf" "[I" ∈ gts := gt_4 197 rfl rfl
theorem kf_MD_44 : Cond.fieldLink "PlaceRulesModel" 44 "PlaceRulesModel" "untils" "[I" ∈ gts := gt_4 198 rfl rfl
theorem kf_MD_47 : Cond.fieldLink "PlaceRulesModel" 47 "PlaceRulesModel" "says" "[I" ∈ gts := gt_4 199 rfl rfl
theorem kf_MD_165 : Cond.fieldLink "PlaceRulesModel" 165 "PlaceRulesModel" "failures" "I" ∈ gts := gt_4 200 rfl rfl
theorem kf_MD_97 : Cond.fieldLink "PlaceRulesModel" 97 "PlaceRulesModel" "clashes" "I" ∈ gts := gt_4 201 rfl rfl
theorem kf_MD_50 : Cond.fieldLink "PlaceRulesModel" 50 "PlaceRulesModel" "clashing" "[I" ∈ gts := gt_4 202 rfl rfl
theorem kf_MD_190 : Cond.fieldLink "PlaceRulesModel" 190 "PlaceRulesModel" "told" "I" ∈ gts := gt_4 203 rfl rfl
theorem kf_MD_53 : Cond.fieldLink "PlaceRulesModel" 53 "PlaceRulesModel" "tells" "[I" ∈ gts := gt_4 204 rfl rfl
theorem kf_MD_111 : Cond.fieldLink "PlaceRulesModel" 111 "PlaceRulesModel" "signs" "I" ∈ gts := gt_4 205 rfl rfl
theorem kf_MD_56 : Cond.fieldLink "PlaceRulesModel" 56 "PlaceRulesModel" "text" "[I" ∈ gts := gt_4 206 rfl rfl
theorem kf_MD_114 : Cond.fieldLink "PlaceRulesModel" 114 "PlaceRulesModel" "at" "I" ∈ gts := gt_4 207 rfl rfl
theorem kf_MD_117 : Cond.fieldLink "PlaceRulesModel" 117 "PlaceRulesModel" "wrong" "I" ∈ gts := gt_4 208 rfl rfl
theorem kf_MD_128 : Cond.fieldLink "PlaceRulesModel" 128 "PlaceRulesModel" "number" "I" ∈ gts := gt_4 209 rfl rfl
theorem kf_MD_59 : Cond.fieldLink "PlaceRulesModel" 59 "PlaceRulesModel" "names" "[I" ∈ gts := gt_4 210 rfl rfl
theorem ka_boolean : Cond.arrayClass .boolean ∈ gts := gt_5 28 rfl rfl
theorem km_LW_84 : Cond.methodLink "PlaceRulesLaw" 84 ⟨"PlaceRulesModel", "thrown", "()I"⟩ ∈ gts := gt_5 29 rfl rfl
theorem ki_MD_thrown : Cond.instanceMethod ⟨"PlaceRulesModel", "thrown", "()I"⟩ ∈ gts := gt_5 30 rfl rfl
theorem ko_MD_thrown : Cond.selects "PlaceRulesModel" ⟨"PlaceRulesModel", "thrown", "()I"⟩ ⟨"PlaceRulesModel", "thrown", "()I"⟩ ∈ gts := gt_5 31 rfl rfl
theorem km_LW_83 : Cond.methodLink "PlaceRulesLaw" 83 ⟨"PlaceRulesModel", "place", "(IIII)V"⟩ ∈ gts := gt_5 33 rfl rfl
theorem ki_MD_place : Cond.instanceMethod ⟨"PlaceRulesModel", "place", "(IIII)V"⟩ ∈ gts := gt_5 34 rfl rfl
theorem ko_MD_place : Cond.selects "PlaceRulesModel" ⟨"PlaceRulesModel", "place", "(IIII)V"⟩ ⟨"PlaceRulesModel", "place", "(IIII)V"⟩ ∈ gts := gt_5 35 rfl rfl
theorem km_MD_71 : Cond.methodLink "PlaceRulesModel" 71 ⟨"PlaceRulesModel", "isPlace", "(I)Z"⟩ ∈ gts := gt_5 37 rfl rfl
theorem ks_MD_isPlace : Cond.static ⟨"PlaceRulesModel", "isPlace", "(I)Z"⟩ ∈ gts := gt_5 38 rfl rfl
theorem km_MD_67 : Cond.methodLink "PlaceRulesModel" 67 ⟨"PlaceRulesModel", "in", "(III)Z"⟩ ∈ gts := gt_5 40 rfl rfl
theorem ks_MD_in : Cond.static ⟨"PlaceRulesModel", "in", "(III)Z"⟩ ∈ gts := gt_5 41 rfl rfl
theorem km_MD_75 : Cond.methodLink "PlaceRulesModel" 75 ⟨"PlaceRulesModel", "isSize", "(III)Z"⟩ ∈ gts := gt_5 43 rfl rfl
theorem ks_MD_isSize : Cond.static ⟨"PlaceRulesModel", "isSize", "(III)Z"⟩ ∈ gts := gt_5 44 rfl rfl
theorem km_MD_78 : Cond.methodLink "PlaceRulesModel" 78 ⟨"PlaceRulesModel", "fails", "(ZZZ)Z"⟩ ∈ gts := gt_5 46 rfl rfl
theorem ki_MD_fails : Cond.instanceMethod ⟨"PlaceRulesModel", "fails", "(ZZZ)Z"⟩ ∈ gts := gt_5 48 rfl rfl
theorem km_LW_91 : Cond.methodLink "PlaceRulesLaw" 91 ⟨"PlaceRulesModel", "limit", "(III)V"⟩ ∈ gts := gt_5 50 rfl rfl
theorem ki_MD_limit : Cond.instanceMethod ⟨"PlaceRulesModel", "limit", "(III)V"⟩ ∈ gts := gt_5 51 rfl rfl
theorem ko_MD_limit : Cond.selects "PlaceRulesModel" ⟨"PlaceRulesModel", "limit", "(III)V"⟩ ⟨"PlaceRulesModel", "limit", "(III)V"⟩ ∈ gts := gt_5 52 rfl rfl
theorem kv_MD_82 : Cond.constant "PlaceRulesModel" 82 (10000000) ∈ gts := gt_5 54 rfl rfl
theorem km_LW_95 : Cond.methodLink "PlaceRulesLaw" 95 ⟨"PlaceRulesModel", "unit", "(III)I"⟩ ∈ gts := gt_5 55 rfl rfl
theorem ki_MD_unit : Cond.instanceMethod ⟨"PlaceRulesModel", "unit", "(III)I"⟩ ∈ gts := gt_5 56 rfl rfl
theorem ko_MD_unit : Cond.selects "PlaceRulesModel" ⟨"PlaceRulesModel", "unit", "(III)I"⟩ ⟨"PlaceRulesModel", "unit", "(III)I"⟩ ∈ gts := gt_5 57 rfl rfl
theorem km_MD_86 : Cond.methodLink "PlaceRulesModel" 86 ⟨"PlaceRulesModel", "lay", "(IIIII)V"⟩ ∈ gts := gt_5 59 rfl rfl
theorem ki_MD_lay : Cond.instanceMethod ⟨"PlaceRulesModel", "lay", "(IIIII)V"⟩ ∈ gts := gt_5 61 rfl rfl
theorem km_LW_99 : Cond.methodLink "PlaceRulesLaw" 99 ⟨"PlaceRulesModel", "size", "(IIIII)V"⟩ ∈ gts := gt_5 63 rfl rfl
theorem ki_MD_size : Cond.instanceMethod ⟨"PlaceRulesModel", "size", "(IIIII)V"⟩ ∈ gts := gt_5 64 rfl rfl
theorem ko_MD_size : Cond.selects "PlaceRulesModel" ⟨"PlaceRulesModel", "size", "(IIIII)V"⟩ ⟨"PlaceRulesModel", "size", "(IIIII)V"⟩ ∈ gts := gt_5 65 rfl rfl
theorem kv_MD_90 : Cond.constant "PlaceRulesModel" 90 (1000000) ∈ gts := gt_5 67 rfl rfl
theorem km_MD_91 : Cond.methodLink "PlaceRulesModel" 91 ⟨"PlaceRulesModel", "isUnit", "(I)Z"⟩ ∈ gts := gt_5 68 rfl rfl
theorem ki_MD_isUnit : Cond.instanceMethod ⟨"PlaceRulesModel", "isUnit", "(I)Z"⟩ ∈ gts := gt_5 70 rfl rfl
theorem km_LW_102 : Cond.methodLink "PlaceRulesLaw" 102 ⟨"PlaceRulesModel", "nature", "(IIII)V"⟩ ∈ gts := gt_5 72 rfl rfl
theorem ki_MD_nature : Cond.instanceMethod ⟨"PlaceRulesModel", "nature", "(IIII)V"⟩ ∈ gts := gt_5 73 rfl rfl
theorem ko_MD_nature : Cond.selects "PlaceRulesModel" ⟨"PlaceRulesModel", "nature", "(IIII)V"⟩ ⟨"PlaceRulesModel", "nature", "(IIII)V"⟩ ∈ gts := gt_5 74 rfl rfl
theorem km_LW_106 : Cond.methodLink "PlaceRulesLaw" 106 ⟨"PlaceRulesModel", "rule", "(IIII)I"⟩ ∈ gts := gt_5 76 rfl rfl
theorem ki_MD_rule : Cond.instanceMethod ⟨"PlaceRulesModel", "rule", "(IIII)I"⟩ ∈ gts := gt_5 77 rfl rfl
theorem ko_MD_rule : Cond.selects "PlaceRulesModel" ⟨"PlaceRulesModel", "rule", "(IIII)I"⟩ ⟨"PlaceRulesModel", "rule", "(IIII)I"⟩ ∈ gts := gt_5 78 rfl rfl
theorem km_MD_100 : Cond.methodLink "PlaceRulesModel" 100 ⟨"PlaceRulesModel", "isA", "(II)Z"⟩ ∈ gts := gt_5 80 rfl rfl
theorem ks_MD_isA : Cond.static ⟨"PlaceRulesModel", "isA", "(II)Z"⟩ ∈ gts := gt_5 81 rfl rfl
theorem km_MD_104 : Cond.methodLink "PlaceRulesModel" 104 ⟨"PlaceRulesModel", "isTwo", "(I)Z"⟩ ∈ gts := gt_5 83 rfl rfl
theorem ks_MD_isTwo : Cond.static ⟨"PlaceRulesModel", "isTwo", "(I)Z"⟩ ∈ gts := gt_5 84 rfl rfl
theorem km_MD_107 : Cond.methodLink "PlaceRulesModel" 107 ⟨"PlaceRulesModel", "comes", "(IIII)V"⟩ ∈ gts := gt_5 86 rfl rfl
theorem ki_MD_comes : Cond.instanceMethod ⟨"PlaceRulesModel", "comes", "(IIII)V"⟩ ∈ gts := gt_5 88 rfl rfl
theorem km_LW_110 : Cond.methodLink "PlaceRulesLaw" 110 ⟨"PlaceRulesModel", "sign", "(I)I"⟩ ∈ gts := gt_5 90 rfl rfl
theorem ki_MD_sign : Cond.instanceMethod ⟨"PlaceRulesModel", "sign", "(I)I"⟩ ∈ gts := gt_5 91 rfl rfl
theorem ko_MD_sign : Cond.selects "PlaceRulesModel" ⟨"PlaceRulesModel", "sign", "(I)I"⟩ ⟨"PlaceRulesModel", "sign", "(I)I"⟩ ∈ gts := gt_5 92 rfl rfl
theorem km_LW_114 : Cond.methodLink "PlaceRulesLaw" 114 ⟨"PlaceRulesModel", "read", "()I"⟩ ∈ gts := gt_5 94 rfl rfl
theorem ki_MD_read : Cond.instanceMethod ⟨"PlaceRulesModel", "read", "()I"⟩ ∈ gts := gt_5 95 rfl rfl
theorem ko_MD_read : Cond.selects "PlaceRulesModel" ⟨"PlaceRulesModel", "read", "()I"⟩ ⟨"PlaceRulesModel", "read", "()I"⟩ ∈ gts := gt_5 96 rfl rfl
theorem km_MD_124 : Cond.methodLink "PlaceRulesModel" 124 ⟨"PlaceRulesModel", "fault", "(I)V"⟩ ∈ gts := gt_5 98 rfl rfl
theorem ki_MD_fault : Cond.instanceMethod ⟨"PlaceRulesModel", "fault", "(I)V"⟩ ∈ gts := gt_5 100 rfl rfl
theorem km_MD_152 : Cond.methodLink "PlaceRulesModel" 152 ⟨"PlaceRulesModel", "line", "(Z)V"⟩ ∈ gts := gt_5 102 rfl rfl
theorem ki_MD_line : Cond.instanceMethod ⟨"PlaceRulesModel", "line", "(Z)V"⟩ ∈ gts := gt_5 104 rfl rfl
theorem km_MD_143 : Cond.methodLink "PlaceRulesModel" 143 ⟨"PlaceRulesModel", "digits", "()I"⟩ ∈ gts := gt_5 106 rfl rfl
theorem ki_MD_digits : Cond.instanceMethod ⟨"PlaceRulesModel", "digits", "()I"⟩ ∈ gts := gt_5 108 rfl rfl
theorem km_MD_131 : Cond.methodLink "PlaceRulesModel" 131 ⟨"PlaceRulesModel", "isDigit", "()Z"⟩ ∈ gts := gt_5 110 rfl rfl
theorem ki_MD_isDigit : Cond.instanceMethod ⟨"PlaceRulesModel", "isDigit", "()Z"⟩ ∈ gts := gt_5 112 rfl rfl
theorem km_MD_120 : Cond.methodLink "PlaceRulesModel" 120 ⟨"PlaceRulesModel", "now", "()I"⟩ ∈ gts := gt_5 114 rfl rfl
theorem ki_MD_now : Cond.instanceMethod ⟨"PlaceRulesModel", "now", "()I"⟩ ∈ gts := gt_5 116 rfl rfl
theorem km_MD_146 : Cond.methodLink "PlaceRulesModel" 146 ⟨"PlaceRulesModel", "pass", "(I)V"⟩ ∈ gts := gt_5 118 rfl rfl
theorem ki_MD_pass : Cond.instanceMethod ⟨"PlaceRulesModel", "pass", "(I)V"⟩ ∈ gts := gt_5 120 rfl rfl
theorem km_MD_149 : Cond.methodLink "PlaceRulesModel" 149 ⟨"PlaceRulesModel", "kind", "()I"⟩ ∈ gts := gt_5 122 rfl rfl
theorem ki_MD_kind : Cond.instanceMethod ⟨"PlaceRulesModel", "kind", "()I"⟩ ∈ gts := gt_5 124 rfl rfl
theorem km_MD_135 : Cond.methodLink "PlaceRulesModel" 135 ⟨"PlaceRulesModel", "match", "(II)I"⟩ ∈ gts := gt_5 126 rfl rfl
theorem ki_MD_match : Cond.instanceMethod ⟨"PlaceRulesModel", "match", "(II)I"⟩ ∈ gts := gt_5 128 rfl rfl
theorem km_MD_139 : Cond.methodLink "PlaceRulesModel" 139 ⟨"PlaceRulesModel", "lengthOf", "(I)I"⟩ ∈ gts := gt_5 130 rfl rfl
theorem ki_MD_lengthOf : Cond.instanceMethod ⟨"PlaceRulesModel", "lengthOf", "(I)I"⟩ ∈ gts := gt_5 132 rfl rfl
theorem km_LW_118 : Cond.methodLink "PlaceRulesLaw" 118 ⟨"PlaceRulesModel", "own", "(II)V"⟩ ∈ gts := gt_5 134 rfl rfl
theorem ki_MD_own : Cond.instanceMethod ⟨"PlaceRulesModel", "own", "(II)V"⟩ ∈ gts := gt_5 135 rfl rfl
theorem ko_MD_own : Cond.selects "PlaceRulesModel" ⟨"PlaceRulesModel", "own", "(II)V"⟩ ⟨"PlaceRulesModel", "own", "(II)V"⟩ ∈ gts := gt_5 136 rfl rfl
theorem km_LW_121 : Cond.methodLink "PlaceRulesLaw" 121 ⟨"PlaceRulesModel", "except", "(IIII)V"⟩ ∈ gts := gt_5 138 rfl rfl
theorem ki_MD_except : Cond.instanceMethod ⟨"PlaceRulesModel", "except", "(IIII)V"⟩ ∈ gts := gt_5 139 rfl rfl
theorem ko_MD_except : Cond.selects "PlaceRulesModel" ⟨"PlaceRulesModel", "except", "(IIII)V"⟩ ⟨"PlaceRulesModel", "except", "(IIII)V"⟩ ∈ gts := gt_5 140 rfl rfl
theorem km_LW_124 : Cond.methodLink "PlaceRulesLaw" 124 ⟨"PlaceRulesModel", "may", "(III)I"⟩ ∈ gts := gt_5 142 rfl rfl
theorem ki_MD_may : Cond.instanceMethod ⟨"PlaceRulesModel", "may", "(III)I"⟩ ∈ gts := gt_5 143 rfl rfl
theorem ko_MD_may : Cond.selects "PlaceRulesModel" ⟨"PlaceRulesModel", "may", "(III)I"⟩ ⟨"PlaceRulesModel", "may", "(III)I"⟩ ∈ gts := gt_5 144 rfl rfl
theorem km_MD_200 : Cond.methodLink "PlaceRulesModel" 200 ⟨"PlaceRulesModel", "ask", "(III)I"⟩ ∈ gts := gt_5 146 rfl rfl
theorem ki_MD_ask : Cond.instanceMethod ⟨"PlaceRulesModel", "ask", "(III)I"⟩ ∈ gts := gt_5 148 rfl rfl
theorem km_MD_193 : Cond.methodLink "PlaceRulesModel" 193 ⟨"PlaceRulesModel", "isExcepted", "(IIII)Z"⟩ ∈ gts := gt_5 150 rfl rfl
theorem ki_MD_isExcepted : Cond.instanceMethod ⟨"PlaceRulesModel", "isExcepted", "(IIII)Z"⟩ ∈ gts := gt_5 152 rfl rfl
theorem km_MD_197 : Cond.methodLink "PlaceRulesModel" 197 ⟨"PlaceRulesModel", "refuses", "(IIII)Z"⟩ ∈ gts := gt_5 154 rfl rfl
theorem ki_MD_refuses : Cond.instanceMethod ⟨"PlaceRulesModel", "refuses", "(IIII)Z"⟩ ∈ gts := gt_5 156 rfl rfl
theorem km_MD_171 : Cond.methodLink "PlaceRulesModel" 171 ⟨"PlaceRulesModel", "isSized", "(III)Z"⟩ ∈ gts := gt_5 158 rfl rfl
theorem ki_MD_isSized : Cond.instanceMethod ⟨"PlaceRulesModel", "isSized", "(III)Z"⟩ ∈ gts := gt_5 160 rfl rfl
theorem km_MD_162 : Cond.methodLink "PlaceRulesModel" 162 ⟨"PlaceRulesModel", "fits", "(III)Z"⟩ ∈ gts := gt_5 162 rfl rfl
theorem ki_MD_fits : Cond.instanceMethod ⟨"PlaceRulesModel", "fits", "(III)Z"⟩ ∈ gts := gt_5 164 rfl rfl
theorem km_MD_168 : Cond.methodLink "PlaceRulesModel" 168 ⟨"PlaceRulesModel", "others", "(II)I"⟩ ∈ gts := gt_5 166 rfl rfl
theorem ki_MD_others : Cond.instanceMethod ⟨"PlaceRulesModel", "others", "(II)I"⟩ ∈ gts := gt_5 168 rfl rfl
theorem km_MD_174 : Cond.methodLink "PlaceRulesModel" 174 ⟨"PlaceRulesModel", "unlike", "(III)I"⟩ ∈ gts := gt_5 170 rfl rfl
theorem ki_MD_unlike : Cond.instanceMethod ⟨"PlaceRulesModel", "unlike", "(III)I"⟩ ∈ gts := gt_5 172 rfl rfl
theorem km_MD_159 : Cond.methodLink "PlaceRulesModel" 159 ⟨"PlaceRulesModel", "isThere", "(III)Z"⟩ ∈ gts := gt_5 174 rfl rfl
theorem ki_MD_isThere : Cond.instanceMethod ⟨"PlaceRulesModel", "isThere", "(III)Z"⟩ ∈ gts := gt_5 176 rfl rfl
theorem km_MD_178 : Cond.methodLink "PlaceRulesModel" 178 ⟨"PlaceRulesModel", "meets", "(III)Z"⟩ ∈ gts := gt_5 178 rfl rfl
theorem ki_MD_meets : Cond.instanceMethod ⟨"PlaceRulesModel", "meets", "(III)Z"⟩ ∈ gts := gt_5 180 rfl rfl
theorem km_MD_181 : Cond.methodLink "PlaceRulesModel" 181 ⟨"PlaceRulesModel", "many", "(II)I"⟩ ∈ gts := gt_5 182 rfl rfl
theorem ki_MD_many : Cond.instanceMethod ⟨"PlaceRulesModel", "many", "(II)I"⟩ ∈ gts := gt_5 184 rfl rfl
theorem km_MD_184 : Cond.methodLink "PlaceRulesModel" 184 ⟨"PlaceRulesModel", "span", "(II)I"⟩ ∈ gts := gt_5 186 rfl rfl
theorem ki_MD_span : Cond.instanceMethod ⟨"PlaceRulesModel", "span", "(II)I"⟩ ∈ gts := gt_5 188 rfl rfl
theorem km_MD_187 : Cond.methodLink "PlaceRulesModel" 187 ⟨"PlaceRulesModel", "ownRefuses", "(III)Z"⟩ ∈ gts := gt_5 190 rfl rfl
theorem ki_MD_ownRefuses : Cond.instanceMethod ⟨"PlaceRulesModel", "ownRefuses", "(III)Z"⟩ ∈ gts := gt_5 192 rfl rfl
theorem km_LW_128 : Cond.methodLink "PlaceRulesLaw" 128 ⟨"PlaceRulesModel", "explain", "(I)I"⟩ ∈ gts := gt_5 194 rfl rfl
theorem ki_MD_explain : Cond.instanceMethod ⟨"PlaceRulesModel", "explain", "(I)I"⟩ ∈ gts := gt_5 195 rfl rfl
theorem ko_MD_explain : Cond.selects "PlaceRulesModel" ⟨"PlaceRulesModel", "explain", "(I)I"⟩ ⟨"PlaceRulesModel", "explain", "(I)I"⟩ ∈ gts := gt_5 196 rfl rfl
theorem km_LW_131 : Cond.methodLink "PlaceRulesLaw" 131 ⟨"PlaceRulesModel", "put", "(III)I"⟩ ∈ gts := gt_5 198 rfl rfl
theorem ki_MD_put : Cond.instanceMethod ⟨"PlaceRulesModel", "put", "(III)I"⟩ ∈ gts := gt_5 199 rfl rfl
theorem ko_MD_put : Cond.selects "PlaceRulesModel" ⟨"PlaceRulesModel", "put", "(III)I"⟩ ⟨"PlaceRulesModel", "put", "(III)I"⟩ ∈ gts := gt_5 200 rfl rfl
theorem km_LW_135 : Cond.methodLink "PlaceRulesLaw" 135 ⟨"PlaceRulesModel", "take", "(I)V"⟩ ∈ gts := gt_5 202 rfl rfl
theorem ki_MD_take : Cond.instanceMethod ⟨"PlaceRulesModel", "take", "(I)V"⟩ ∈ gts := gt_5 203 rfl rfl
theorem ko_MD_take : Cond.selects "PlaceRulesModel" ⟨"PlaceRulesModel", "take", "(I)V"⟩ ⟨"PlaceRulesModel", "take", "(I)V"⟩ ∈ gts := gt_5 204 rfl rfl
theorem km_LW_139 : Cond.methodLink "PlaceRulesLaw" 139 ⟨"PlaceRulesModel", "turned", "(II)I"⟩ ∈ gts := gt_5 206 rfl rfl
theorem ki_MD_turned : Cond.instanceMethod ⟨"PlaceRulesModel", "turned", "(II)I"⟩ ∈ gts := gt_5 207 rfl rfl
theorem ko_MD_turned : Cond.selects "PlaceRulesModel" ⟨"PlaceRulesModel", "turned", "(II)I"⟩ ⟨"PlaceRulesModel", "turned", "(II)I"⟩ ∈ gts := gt_5 208 rfl rfl
theorem km_LW_142 : Cond.methodLink "PlaceRulesLaw" 142 ⟨"PlaceRulesModel", "never", "(I)I"⟩ ∈ gts := gt_5 210 rfl rfl
theorem ki_MD_never : Cond.instanceMethod ⟨"PlaceRulesModel", "never", "(I)I"⟩ ∈ gts := gt_5 211 rfl rfl
theorem ko_MD_never : Cond.selects "PlaceRulesModel" ⟨"PlaceRulesModel", "never", "(I)I"⟩ ⟨"PlaceRulesModel", "never", "(I)I"⟩ ∈ gts := gt_5 212 rfl rfl
theorem km_LW_145 : Cond.methodLink "PlaceRulesLaw" 145 ⟨"PlaceRulesModel", "clash", "(II)I"⟩ ∈ gts := gt_5 214 rfl rfl
theorem ki_MD_clash : Cond.instanceMethod ⟨"PlaceRulesModel", "clash", "(II)I"⟩ ∈ gts := gt_5 215 rfl rfl
theorem ko_MD_clash : Cond.selects "PlaceRulesModel" ⟨"PlaceRulesModel", "clash", "(II)I"⟩ ⟨"PlaceRulesModel", "clash", "(II)I"⟩ ∈ gts := gt_5 216 rfl rfl
theorem km_LW_148 : Cond.methodLink "PlaceRulesLaw" 148 ⟨"PlaceRulesModel", "at", "(II)I"⟩ ∈ gts := gt_5 218 rfl rfl
theorem ki_MD_at : Cond.instanceMethod ⟨"PlaceRulesModel", "at", "(II)I"⟩ ∈ gts := gt_5 219 rfl rfl
theorem ko_MD_at : Cond.selects "PlaceRulesModel" ⟨"PlaceRulesModel", "at", "(II)I"⟩ ⟨"PlaceRulesModel", "at", "(II)I"⟩ ∈ gts := gt_5 220 rfl rfl
theorem km_LW_152 : Cond.methodLink "PlaceRulesLaw" 152 ⟨"PlaceRulesModel", "count", "(I)I"⟩ ∈ gts := gt_5 222 rfl rfl
theorem ki_MD_count : Cond.instanceMethod ⟨"PlaceRulesModel", "count", "(I)I"⟩ ∈ gts := gt_5 223 rfl rfl
theorem ko_MD_count : Cond.selects "PlaceRulesModel" ⟨"PlaceRulesModel", "count", "(I)I"⟩ ⟨"PlaceRulesModel", "count", "(I)I"⟩ ∈ gts := gt_5 224 rfl rfl
theorem ka_long : Cond.arrayClass .long ∈ gts := gt_5 226 rfl rfl
theorem kf_PR_135 : Cond.fieldLink "PlaceRules" 135 "PlaceRules$Kind" "least" "I" ∈ gts := gt_5 228 rfl rfl
theorem kf_PR_140 : Cond.fieldLink "PlaceRules" 140 "PlaceRules$Kind" "most" "I" ∈ gts := gt_5 229 rfl rfl
theorem kf_KD_60 : Cond.fieldLink "PlaceRules$Kind" 60 "PlaceRules$Kind" "numbers" "I" ∈ gts := gt_5 230 rfl rfl
theorem kf_KD_64 : Cond.fieldLink "PlaceRules$Kind" 64 "PlaceRules$Kind" "least" "I" ∈ gts := gt_5 231 rfl rfl
theorem kf_KD_67 : Cond.fieldLink "PlaceRules$Kind" 67 "PlaceRules$Kind" "most" "I" ∈ gts := gt_5 232 rfl rfl
theorem kf_TX_102 : Cond.fieldLink "PlaceRules$Text" 102 "PlaceRules$Kind" "word" "Ljava/lang/String;" ∈ gts := gt_5 233 rfl rfl
theorem kf_java_lang_String_9 : Cond.fieldLink "java/lang/String" 9 "java/lang/String" "value" "[B" ∈ gts := gt_5 234 rfl rfl
theorem kf_java_lang_String_15 : Cond.fieldLink "java/lang/String" 15 "java/lang/String" "coder" "B" ∈ gts := gt_5 235 rfl rfl
theorem kf_TX_63 : Cond.fieldLink "PlaceRules$Text" 63 "PlaceRules$Kind" "least" "I" ∈ gts := gt_5 236 rfl rfl
theorem kf_TX_66 : Cond.fieldLink "PlaceRules$Text" 66 "PlaceRules$Kind" "most" "I" ∈ gts := gt_5 237 rfl rfl
theorem kf_java_lang_Enum_7 : Cond.fieldLink "java/lang/Enum" 7 "java/lang/Enum" "ordinal" "I" ∈ gts := gt_5 238 rfl rfl
theorem ko_TX_readLine : Cond.selects "PlaceRules$Text" ⟨"PlaceRules$Text", "readLine", "(LPlaceRules$Rule;)Z"⟩ ⟨"PlaceRules$Text", "readLine", "(LPlaceRules$Rule;)Z"⟩ ∈ gts := gt_0 0 rfl rfl
theorem ko_TX_readNumber : Cond.selects "PlaceRules$Text" ⟨"PlaceRules$Text", "readNumber", "(II)Z"⟩ ⟨"PlaceRules$Text", "readNumber", "(II)Z"⟩ ∈ gts := gt_0 1 rfl rfl
theorem ko_TX_nextSign : Cond.selects "PlaceRules$Text" ⟨"PlaceRules$Text", "nextSign", "()I"⟩ ⟨"PlaceRules$Text", "nextSign", "()I"⟩ ∈ gts := gt_0 2 rfl rfl
theorem ko_TX_fail : Cond.selects "PlaceRules$Text" ⟨"PlaceRules$Text", "fail", "(I)Z"⟩ ⟨"PlaceRules$Text", "fail", "(I)Z"⟩ ∈ gts := gt_0 3 rfl rfl
theorem ko_TX_readBlank : Cond.selects "PlaceRules$Text" ⟨"PlaceRules$Text", "readBlank", "()Z"⟩ ⟨"PlaceRules$Text", "readBlank", "()Z"⟩ ∈ gts := gt_0 4 rfl rfl
theorem ko_TX_readSign : Cond.selects "PlaceRules$Text" ⟨"PlaceRules$Text", "readSign", "(I)Z"⟩ ⟨"PlaceRules$Text", "readSign", "(I)Z"⟩ ∈ gts := gt_0 5 rfl rfl
theorem ko_TX_readKind : Cond.selects "PlaceRules$Text" ⟨"PlaceRules$Text", "readKind", "()Z"⟩ ⟨"PlaceRules$Text", "readKind", "()Z"⟩ ∈ gts := gt_0 6 rfl rfl
theorem ko_TX_sharedSigns : Cond.selects "PlaceRules$Text" ⟨"PlaceRules$Text", "sharedSigns", "(Ljava/lang/String;)I"⟩ ⟨"PlaceRules$Text", "sharedSigns", "(Ljava/lang/String;)I"⟩ ∈ gts := gt_0 7 rfl rfl
theorem ko_RB_noteClashes : Cond.selects "PlaceRules$RuleBook" ⟨"PlaceRules$RuleBook", "noteClashes", "(I)V"⟩ ⟨"PlaceRules$RuleBook", "noteClashes", "(I)V"⟩ ∈ gts := gt_0 8 rfl rfl
theorem ko_RB_insertInOrder : Cond.selects "PlaceRules$RuleBook" ⟨"PlaceRules$RuleBook", "insertInOrder", "(I)V"⟩ ⟨"PlaceRules$RuleBook", "insertInOrder", "(I)V"⟩ ∈ gts := gt_0 9 rfl rfl
theorem ko_java_lang_Throwable_fillInStackTrace2 : Cond.selects "java/lang/Throwable" ⟨"java/lang/Throwable", "fillInStackTrace", "(I)Ljava/lang/Throwable;"⟩ ⟨"java/lang/Throwable", "fillInStackTrace", "(I)Ljava/lang/Throwable;"⟩ ∈ gts := gt_0 10 rfl rfl
theorem ko_PR_needUnit : Cond.selects "PlaceRules" ⟨"PlaceRules", "needUnit", "(I)V"⟩ ⟨"PlaceRules", "needUnit", "(I)V"⟩ ∈ gts := gt_0 11 rfl rfl
theorem ko_PR_needNowhere : Cond.selects "PlaceRules" ⟨"PlaceRules", "needNowhere", "(I)V"⟩ ⟨"PlaceRules", "needNowhere", "(I)V"⟩ ∈ gts := gt_0 12 rfl rfl
theorem ko_PR_findWaiver : Cond.selects "PlaceRules" ⟨"PlaceRules", "findWaiver", "(III)I"⟩ ⟨"PlaceRules", "findWaiver", "(III)I"⟩ ∈ gts := gt_0 13 rfl rfl
theorem ko_PR_needQuestion : Cond.selects "PlaceRules" ⟨"PlaceRules", "needQuestion", "(III)V"⟩ ⟨"PlaceRules", "needQuestion", "(III)V"⟩ ∈ gts := gt_0 14 rfl rfl
theorem ko_PR_ask : Cond.selects "PlaceRules" ⟨"PlaceRules", "ask", "(III)I"⟩ ⟨"PlaceRules", "ask", "(III)I"⟩ ∈ gts := gt_0 15 rfl rfl
theorem ko_PR_gather : Cond.selects "PlaceRules" ⟨"PlaceRules", "gather", "(III)V"⟩ ⟨"PlaceRules", "gather", "(III)V"⟩ ∈ gts := gt_0 16 rfl rfl
theorem ko_PL_holds : Cond.selects "PlaceRules$Place" ⟨"PlaceRules$Place", "holds", "(III)Z"⟩ ⟨"PlaceRules$Place", "holds", "(III)Z"⟩ ∈ gts := gt_0 17 rfl rfl
theorem ko_PR_isWaived : Cond.selects "PlaceRules" ⟨"PlaceRules", "isWaived", "(IIII)Z"⟩ ⟨"PlaceRules", "isWaived", "(IIII)Z"⟩ ∈ gts := gt_0 18 rfl rfl
theorem ko_MD_fails : Cond.selects "PlaceRulesModel" ⟨"PlaceRulesModel", "fails", "(ZZZ)Z"⟩ ⟨"PlaceRulesModel", "fails", "(ZZZ)Z"⟩ ∈ gts := gt_0 19 rfl rfl
theorem ko_MD_lay : Cond.selects "PlaceRulesModel" ⟨"PlaceRulesModel", "lay", "(IIIII)V"⟩ ⟨"PlaceRulesModel", "lay", "(IIIII)V"⟩ ∈ gts := gt_0 20 rfl rfl
theorem ko_MD_isUnit : Cond.selects "PlaceRulesModel" ⟨"PlaceRulesModel", "isUnit", "(I)Z"⟩ ⟨"PlaceRulesModel", "isUnit", "(I)Z"⟩ ∈ gts := gt_0 21 rfl rfl
theorem ko_MD_comes : Cond.selects "PlaceRulesModel" ⟨"PlaceRulesModel", "comes", "(IIII)V"⟩ ⟨"PlaceRulesModel", "comes", "(IIII)V"⟩ ∈ gts := gt_0 22 rfl rfl
theorem ko_MD_fault : Cond.selects "PlaceRulesModel" ⟨"PlaceRulesModel", "fault", "(I)V"⟩ ⟨"PlaceRulesModel", "fault", "(I)V"⟩ ∈ gts := gt_0 23 rfl rfl
theorem ko_MD_line : Cond.selects "PlaceRulesModel" ⟨"PlaceRulesModel", "line", "(Z)V"⟩ ⟨"PlaceRulesModel", "line", "(Z)V"⟩ ∈ gts := gt_0 24 rfl rfl
theorem ko_MD_digits : Cond.selects "PlaceRulesModel" ⟨"PlaceRulesModel", "digits", "()I"⟩ ⟨"PlaceRulesModel", "digits", "()I"⟩ ∈ gts := gt_0 25 rfl rfl
theorem ko_MD_isDigit : Cond.selects "PlaceRulesModel" ⟨"PlaceRulesModel", "isDigit", "()Z"⟩ ⟨"PlaceRulesModel", "isDigit", "()Z"⟩ ∈ gts := gt_0 26 rfl rfl
theorem ko_MD_now : Cond.selects "PlaceRulesModel" ⟨"PlaceRulesModel", "now", "()I"⟩ ⟨"PlaceRulesModel", "now", "()I"⟩ ∈ gts := gt_0 27 rfl rfl
theorem ko_MD_pass : Cond.selects "PlaceRulesModel" ⟨"PlaceRulesModel", "pass", "(I)V"⟩ ⟨"PlaceRulesModel", "pass", "(I)V"⟩ ∈ gts := gt_0 28 rfl rfl
theorem ko_MD_kind : Cond.selects "PlaceRulesModel" ⟨"PlaceRulesModel", "kind", "()I"⟩ ⟨"PlaceRulesModel", "kind", "()I"⟩ ∈ gts := gt_0 29 rfl rfl
theorem ko_MD_match : Cond.selects "PlaceRulesModel" ⟨"PlaceRulesModel", "match", "(II)I"⟩ ⟨"PlaceRulesModel", "match", "(II)I"⟩ ∈ gts := gt_0 30 rfl rfl
theorem ko_MD_lengthOf : Cond.selects "PlaceRulesModel" ⟨"PlaceRulesModel", "lengthOf", "(I)I"⟩ ⟨"PlaceRulesModel", "lengthOf", "(I)I"⟩ ∈ gts := gt_0 31 rfl rfl
theorem ko_MD_ask : Cond.selects "PlaceRulesModel" ⟨"PlaceRulesModel", "ask", "(III)I"⟩ ⟨"PlaceRulesModel", "ask", "(III)I"⟩ ∈ gts := gt_0 32 rfl rfl
theorem ko_MD_isExcepted : Cond.selects "PlaceRulesModel" ⟨"PlaceRulesModel", "isExcepted", "(IIII)Z"⟩ ⟨"PlaceRulesModel", "isExcepted", "(IIII)Z"⟩ ∈ gts := gt_0 33 rfl rfl
theorem ko_MD_refuses : Cond.selects "PlaceRulesModel" ⟨"PlaceRulesModel", "refuses", "(IIII)Z"⟩ ⟨"PlaceRulesModel", "refuses", "(IIII)Z"⟩ ∈ gts := gt_0 34 rfl rfl
theorem ko_MD_isSized : Cond.selects "PlaceRulesModel" ⟨"PlaceRulesModel", "isSized", "(III)Z"⟩ ⟨"PlaceRulesModel", "isSized", "(III)Z"⟩ ∈ gts := gt_0 35 rfl rfl
theorem ko_MD_fits : Cond.selects "PlaceRulesModel" ⟨"PlaceRulesModel", "fits", "(III)Z"⟩ ⟨"PlaceRulesModel", "fits", "(III)Z"⟩ ∈ gts := gt_0 36 rfl rfl
theorem ko_MD_others : Cond.selects "PlaceRulesModel" ⟨"PlaceRulesModel", "others", "(II)I"⟩ ⟨"PlaceRulesModel", "others", "(II)I"⟩ ∈ gts := gt_0 37 rfl rfl
theorem ko_MD_unlike : Cond.selects "PlaceRulesModel" ⟨"PlaceRulesModel", "unlike", "(III)I"⟩ ⟨"PlaceRulesModel", "unlike", "(III)I"⟩ ∈ gts := gt_0 38 rfl rfl
theorem ko_MD_isThere : Cond.selects "PlaceRulesModel" ⟨"PlaceRulesModel", "isThere", "(III)Z"⟩ ⟨"PlaceRulesModel", "isThere", "(III)Z"⟩ ∈ gts := gt_0 39 rfl rfl
theorem ko_MD_meets : Cond.selects "PlaceRulesModel" ⟨"PlaceRulesModel", "meets", "(III)Z"⟩ ⟨"PlaceRulesModel", "meets", "(III)Z"⟩ ∈ gts := gt_0 40 rfl rfl
theorem ko_MD_many : Cond.selects "PlaceRulesModel" ⟨"PlaceRulesModel", "many", "(II)I"⟩ ⟨"PlaceRulesModel", "many", "(II)I"⟩ ∈ gts := gt_0 41 rfl rfl
theorem ko_MD_span : Cond.selects "PlaceRulesModel" ⟨"PlaceRulesModel", "span", "(II)I"⟩ ⟨"PlaceRulesModel", "span", "(II)I"⟩ ∈ gts := gt_0 42 rfl rfl
theorem ko_MD_ownRefuses : Cond.selects "PlaceRulesModel" ⟨"PlaceRulesModel", "ownRefuses", "(III)Z"⟩ ⟨"PlaceRulesModel", "ownRefuses", "(III)Z"⟩ ∈ gts := gt_0 43 rfl rfl
end
section
/-! Each instruction of each method, decoded. Written by wip/tools/emit_names.py. -/
theorem d_PR_init_0 : decode c_PR_init 0 = .ok (.aload_n 0, 1) := by decide +kernel
theorem d_PR_init_1 : decode c_PR_init 1 = .ok (.invokespecial 1, 3) := by decide +kernel
theorem d_PR_init_4 : decode c_PR_init 4 = .ok (.aload_n 0, 1) := by decide +kernel
theorem d_PR_init_5 : decode c_PR_init 5 = .ok (.bipush 12, 2) := by decide +kernel
theorem d_PR_init_7 : decode c_PR_init 7 = .ok (.anewarray 9, 3) := by decide +kernel
theorem d_PR_init_10 : decode c_PR_init 10 = .ok (.putfield 11, 3) := by decide +kernel
theorem d_PR_init_13 : decode c_PR_init 13 = .ok (.aload_n 0, 1) := by decide +kernel
theorem d_PR_init_14 : decode c_PR_init 14 = .ok (.bipush 40, 2) := by decide +kernel
theorem d_PR_init_16 : decode c_PR_init 16 = .ok (.anewarray 15, 3) := by decide +kernel
theorem d_PR_init_19 : decode c_PR_init 19 = .ok (.putfield 17, 3) := by decide +kernel
theorem d_PR_init_22 : decode c_PR_init 22 = .ok (.aload_n 0, 1) := by decide +kernel
theorem d_PR_init_23 : decode c_PR_init 23 = .ok (.bipush 20, 2) := by decide +kernel
theorem d_PR_init_25 : decode c_PR_init 25 = .ok (.anewarray 21, 3) := by decide +kernel
theorem d_PR_init_28 : decode c_PR_init 28 = .ok (.putfield 23, 3) := by decide +kernel
theorem d_PR_init_31 : decode c_PR_init 31 = .ok (.aload_n 0, 1) := by decide +kernel
theorem d_PR_init_32 : decode c_PR_init 32 = .ok (.new 27, 3) := by decide +kernel
theorem d_PR_init_35 : decode c_PR_init 35 = .ok (.dup, 1) := by decide +kernel
theorem d_PR_init_36 : decode c_PR_init 36 = .ok (.invokespecial 29, 3) := by decide +kernel
theorem d_PR_init_39 : decode c_PR_init 39 = .ok (.putfield 30, 3) := by decide +kernel
theorem d_PR_init_42 : decode c_PR_init 42 = .ok (.aload_n 0, 1) := by decide +kernel
theorem d_PR_init_43 : decode c_PR_init 43 = .ok (.new 34, 3) := by decide +kernel
theorem d_PR_init_46 : decode c_PR_init 46 = .ok (.dup, 1) := by decide +kernel
theorem d_PR_init_47 : decode c_PR_init 47 = .ok (.invokespecial 36, 3) := by decide +kernel
theorem d_PR_init_50 : decode c_PR_init 50 = .ok (.putfield 37, 3) := by decide +kernel
theorem d_PR_init_53 : decode c_PR_init 53 = .ok (.aload_n 0, 1) := by decide +kernel
theorem d_PR_init_54 : decode c_PR_init 54 = .ok (.new 41, 3) := by decide +kernel
theorem d_PR_init_57 : decode c_PR_init 57 = .ok (.dup, 1) := by decide +kernel
theorem d_PR_init_58 : decode c_PR_init 58 = .ok (.invokespecial 43, 3) := by decide +kernel
theorem d_PR_init_61 : decode c_PR_init 61 = .ok (.putfield 44, 3) := by decide +kernel
theorem d_PR_init_64 : decode c_PR_init 64 = .ok (.aload_n 0, 1) := by decide +kernel
theorem d_PR_init_65 : decode c_PR_init 65 = .ok (.new 48, 3) := by decide +kernel
theorem d_PR_init_68 : decode c_PR_init 68 = .ok (.dup, 1) := by decide +kernel
theorem d_PR_init_69 : decode c_PR_init 69 = .ok (.invokespecial 50, 3) := by decide +kernel
theorem d_PR_init_72 : decode c_PR_init 72 = .ok (.putfield 51, 3) := by decide +kernel
theorem d_PR_init_75 : decode c_PR_init 75 = .ok (.aload_n 0, 1) := by decide +kernel
theorem d_PR_init_76 : decode c_PR_init 76 = .ok (.bipush 24, 2) := by decide +kernel
theorem d_PR_init_78 : decode c_PR_init 78 = .ok (.newarray .int, 2) := by decide +kernel
theorem d_PR_init_80 : decode c_PR_init 80 = .ok (.putfield 55, 3) := by decide +kernel
theorem d_PR_init_83 : decode c_PR_init 83 = .ok (.iconst 0, 1) := by decide +kernel
theorem d_PR_init_84 : decode c_PR_init 84 = .ok (.istore_n 1, 1) := by decide +kernel
theorem d_PR_init_85 : decode c_PR_init 85 = .ok (.iload_n 1, 1) := by decide +kernel
theorem d_PR_init_86 : decode c_PR_init 86 = .ok (.bipush 12, 2) := by decide +kernel
theorem d_PR_init_88 : decode c_PR_init 88 = .ok (.if_icmp .ge 22, 3) := by decide +kernel
theorem d_PR_init_91 : decode c_PR_init 91 = .ok (.aload_n 0, 1) := by decide +kernel
theorem d_PR_init_92 : decode c_PR_init 92 = .ok (.getfield 11, 3) := by decide +kernel
theorem d_PR_init_95 : decode c_PR_init 95 = .ok (.iload_n 1, 1) := by decide +kernel
theorem d_PR_init_96 : decode c_PR_init 96 = .ok (.new 9, 3) := by decide +kernel
theorem d_PR_init_99 : decode c_PR_init 99 = .ok (.dup, 1) := by decide +kernel
theorem d_PR_init_100 : decode c_PR_init 100 = .ok (.invokespecial 59, 3) := by decide +kernel
theorem d_PR_init_103 : decode c_PR_init 103 = .ok (.aastore, 1) := by decide +kernel
theorem d_PR_init_104 : decode c_PR_init 104 = .ok (.iinc 1 1, 3) := by decide +kernel
theorem d_PR_init_107 : decode c_PR_init 107 = .ok (.goto (-22), 3) := by decide +kernel
theorem d_PR_init_110 : decode c_PR_init 110 = .ok (.iconst 0, 1) := by decide +kernel
theorem d_PR_init_111 : decode c_PR_init 111 = .ok (.istore_n 1, 1) := by decide +kernel
theorem d_PR_init_112 : decode c_PR_init 112 = .ok (.iload_n 1, 1) := by decide +kernel
theorem d_PR_init_113 : decode c_PR_init 113 = .ok (.bipush 40, 2) := by decide +kernel
theorem d_PR_init_115 : decode c_PR_init 115 = .ok (.if_icmp .ge 22, 3) := by decide +kernel
theorem d_PR_init_118 : decode c_PR_init 118 = .ok (.aload_n 0, 1) := by decide +kernel
theorem d_PR_init_119 : decode c_PR_init 119 = .ok (.getfield 17, 3) := by decide +kernel
theorem d_PR_init_122 : decode c_PR_init 122 = .ok (.iload_n 1, 1) := by decide +kernel
theorem d_PR_init_123 : decode c_PR_init 123 = .ok (.new 15, 3) := by decide +kernel
theorem d_PR_init_126 : decode c_PR_init 126 = .ok (.dup, 1) := by decide +kernel
theorem d_PR_init_127 : decode c_PR_init 127 = .ok (.invokespecial 60, 3) := by decide +kernel
theorem d_PR_init_130 : decode c_PR_init 130 = .ok (.aastore, 1) := by decide +kernel
theorem d_PR_init_131 : decode c_PR_init 131 = .ok (.iinc 1 1, 3) := by decide +kernel
theorem d_PR_init_134 : decode c_PR_init 134 = .ok (.goto (-22), 3) := by decide +kernel
theorem d_PR_init_137 : decode c_PR_init 137 = .ok (.iconst 0, 1) := by decide +kernel
theorem d_PR_init_138 : decode c_PR_init 138 = .ok (.istore_n 1, 1) := by decide +kernel
theorem d_PR_init_139 : decode c_PR_init 139 = .ok (.iload_n 1, 1) := by decide +kernel
theorem d_PR_init_140 : decode c_PR_init 140 = .ok (.bipush 20, 2) := by decide +kernel
theorem d_PR_init_142 : decode c_PR_init 142 = .ok (.if_icmp .ge 22, 3) := by decide +kernel
theorem d_PR_init_145 : decode c_PR_init 145 = .ok (.aload_n 0, 1) := by decide +kernel
theorem d_PR_init_146 : decode c_PR_init 146 = .ok (.getfield 23, 3) := by decide +kernel
theorem d_PR_init_149 : decode c_PR_init 149 = .ok (.iload_n 1, 1) := by decide +kernel
theorem d_PR_init_150 : decode c_PR_init 150 = .ok (.new 21, 3) := by decide +kernel
theorem d_PR_init_153 : decode c_PR_init 153 = .ok (.dup, 1) := by decide +kernel
theorem d_PR_init_154 : decode c_PR_init 154 = .ok (.invokespecial 61, 3) := by decide +kernel
theorem d_PR_init_157 : decode c_PR_init 157 = .ok (.aastore, 1) := by decide +kernel
theorem d_PR_init_158 : decode c_PR_init 158 = .ok (.iinc 1 1, 3) := by decide +kernel
theorem d_PR_init_161 : decode c_PR_init 161 = .ok (.goto (-22), 3) := by decide +kernel
theorem d_PR_init_164 : decode c_PR_init 164 = .ok (.return_, 1) := by decide +kernel
theorem d_PR_place_0 : decode c_PR_place 0 = .ok (.iload_n 1, 1) := by decide +kernel
theorem d_PR_place_1 : decode c_PR_place 1 = .ok (.invokestatic 62, 3) := by decide +kernel
theorem d_PR_place_4 : decode c_PR_place 4 = .ok (.iload_n 2, 1) := by decide +kernel
theorem d_PR_place_5 : decode c_PR_place 5 = .ok (.iload_n 3, 1) := by decide +kernel
theorem d_PR_place_6 : decode c_PR_place 6 = .ok (.iload 4, 2) := by decide +kernel
theorem d_PR_place_8 : decode c_PR_place 8 = .ok (.invokestatic 66, 3) := by decide +kernel
theorem d_PR_place_11 : decode c_PR_place 11 = .ok (.aload_n 0, 1) := by decide +kernel
theorem d_PR_place_12 : decode c_PR_place 12 = .ok (.getfield 11, 3) := by decide +kernel
theorem d_PR_place_15 : decode c_PR_place 15 = .ok (.iload_n 1, 1) := by decide +kernel
theorem d_PR_place_16 : decode c_PR_place 16 = .ok (.aaload, 1) := by decide +kernel
theorem d_PR_place_17 : decode c_PR_place 17 = .ok (.astore 5, 2) := by decide +kernel
theorem d_PR_place_19 : decode c_PR_place 19 = .ok (.aload 5, 2) := by decide +kernel
theorem d_PR_place_21 : decode c_PR_place 21 = .ok (.iload_n 2, 1) := by decide +kernel
theorem d_PR_place_22 : decode c_PR_place 22 = .ok (.putfield 70, 3) := by decide +kernel
theorem d_PR_place_25 : decode c_PR_place 25 = .ok (.aload 5, 2) := by decide +kernel
theorem d_PR_place_27 : decode c_PR_place 27 = .ok (.iload_n 3, 1) := by decide +kernel
theorem d_PR_place_28 : decode c_PR_place 28 = .ok (.putfield 74, 3) := by decide +kernel
theorem d_PR_place_31 : decode c_PR_place 31 = .ok (.aload 5, 2) := by decide +kernel
theorem d_PR_place_33 : decode c_PR_place 33 = .ok (.iload 4, 2) := by decide +kernel
theorem d_PR_place_35 : decode c_PR_place 35 = .ok (.putfield 77, 3) := by decide +kernel
theorem d_PR_place_38 : decode c_PR_place 38 = .ok (.return_, 1) := by decide +kernel
theorem d_PR_limit_0 : decode c_PR_limit 0 = .ok (.iload_n 1, 1) := by decide +kernel
theorem d_PR_limit_1 : decode c_PR_limit 1 = .ok (.invokestatic 62, 3) := by decide +kernel
theorem d_PR_limit_4 : decode c_PR_limit 4 = .ok (.iload_n 2, 1) := by decide +kernel
theorem d_PR_limit_5 : decode c_PR_limit 5 = .ok (.iconst 0, 1) := by decide +kernel
theorem d_PR_limit_6 : decode c_PR_limit 6 = .ok (.ldc 80, 2) := by decide +kernel
theorem d_PR_limit_8 : decode c_PR_limit 8 = .ok (.invokestatic 81, 3) := by decide +kernel
theorem d_PR_limit_11 : decode c_PR_limit 11 = .ok (.iload_n 3, 1) := by decide +kernel
theorem d_PR_limit_12 : decode c_PR_limit 12 = .ok (.iconst 0, 1) := by decide +kernel
theorem d_PR_limit_13 : decode c_PR_limit 13 = .ok (.bipush 7, 2) := by decide +kernel
theorem d_PR_limit_15 : decode c_PR_limit 15 = .ok (.invokestatic 81, 3) := by decide +kernel
theorem d_PR_limit_18 : decode c_PR_limit 18 = .ok (.aload_n 0, 1) := by decide +kernel
theorem d_PR_limit_19 : decode c_PR_limit 19 = .ok (.getfield 11, 3) := by decide +kernel
theorem d_PR_limit_22 : decode c_PR_limit 22 = .ok (.iload_n 1, 1) := by decide +kernel
theorem d_PR_limit_23 : decode c_PR_limit 23 = .ok (.aaload, 1) := by decide +kernel
theorem d_PR_limit_24 : decode c_PR_limit 24 = .ok (.iload_n 2, 1) := by decide +kernel
theorem d_PR_limit_25 : decode c_PR_limit 25 = .ok (.putfield 84, 3) := by decide +kernel
theorem d_PR_limit_28 : decode c_PR_limit 28 = .ok (.aload_n 0, 1) := by decide +kernel
theorem d_PR_limit_29 : decode c_PR_limit 29 = .ok (.getfield 11, 3) := by decide +kernel
theorem d_PR_limit_32 : decode c_PR_limit 32 = .ok (.iload_n 1, 1) := by decide +kernel
theorem d_PR_limit_33 : decode c_PR_limit 33 = .ok (.aaload, 1) := by decide +kernel
theorem d_PR_limit_34 : decode c_PR_limit 34 = .ok (.iload_n 3, 1) := by decide +kernel
theorem d_PR_limit_35 : decode c_PR_limit 35 = .ok (.putfield 87, 3) := by decide +kernel
theorem d_PR_limit_38 : decode c_PR_limit 38 = .ok (.return_, 1) := by decide +kernel
theorem d_PR_unit_0 : decode c_PR_unit 0 = .ok (.iload_n 1, 1) := by decide +kernel
theorem d_PR_unit_1 : decode c_PR_unit 1 = .ok (.iconst 0, 1) := by decide +kernel
theorem d_PR_unit_2 : decode c_PR_unit 2 = .ok (.bipush 99, 2) := by decide +kernel
theorem d_PR_unit_4 : decode c_PR_unit 4 = .ok (.invokestatic 81, 3) := by decide +kernel
theorem d_PR_unit_7 : decode c_PR_unit 7 = .ok (.iload_n 2, 1) := by decide +kernel
theorem d_PR_unit_8 : decode c_PR_unit 8 = .ok (.iconst 0, 1) := by decide +kernel
theorem d_PR_unit_9 : decode c_PR_unit 9 = .ok (.bipush 99, 2) := by decide +kernel
theorem d_PR_unit_11 : decode c_PR_unit 11 = .ok (.invokestatic 81, 3) := by decide +kernel
theorem d_PR_unit_14 : decode c_PR_unit 14 = .ok (.iload_n 3, 1) := by decide +kernel
theorem d_PR_unit_15 : decode c_PR_unit 15 = .ok (.iconst 0, 1) := by decide +kernel
theorem d_PR_unit_16 : decode c_PR_unit 16 = .ok (.bipush 7, 2) := by decide +kernel
theorem d_PR_unit_18 : decode c_PR_unit 18 = .ok (.invokestatic 81, 3) := by decide +kernel
theorem d_PR_unit_21 : decode c_PR_unit 21 = .ok (.aload_n 0, 1) := by decide +kernel
theorem d_PR_unit_22 : decode c_PR_unit 22 = .ok (.getfield 90, 3) := by decide +kernel
theorem d_PR_unit_25 : decode c_PR_unit 25 = .ok (.bipush 40, 2) := by decide +kernel
theorem d_PR_unit_27 : decode c_PR_unit 27 = .ok (.if_icmp .lt 13, 3) := by decide +kernel
theorem d_PR_unit_30 : decode c_PR_unit 30 = .ok (.new 93, 3) := by decide +kernel
theorem d_PR_unit_33 : decode c_PR_unit 33 = .ok (.dup, 1) := by decide +kernel
theorem d_PR_unit_34 : decode c_PR_unit 34 = .ok (.ldc 95, 2) := by decide +kernel
theorem d_PR_unit_36 : decode c_PR_unit 36 = .ok (.invokespecial 97, 3) := by decide +kernel
theorem d_PR_unit_39 : decode c_PR_unit 39 = .ok (.athrow, 1) := by decide +kernel
theorem d_PR_unit_40 : decode c_PR_unit 40 = .ok (.aload_n 0, 1) := by decide +kernel
theorem d_PR_unit_41 : decode c_PR_unit 41 = .ok (.getfield 17, 3) := by decide +kernel
theorem d_PR_unit_44 : decode c_PR_unit 44 = .ok (.aload_n 0, 1) := by decide +kernel
theorem d_PR_unit_45 : decode c_PR_unit 45 = .ok (.getfield 90, 3) := by decide +kernel
theorem d_PR_unit_48 : decode c_PR_unit 48 = .ok (.aaload, 1) := by decide +kernel
theorem d_PR_unit_49 : decode c_PR_unit 49 = .ok (.astore 4, 2) := by decide +kernel
theorem d_PR_unit_51 : decode c_PR_unit 51 = .ok (.aload 4, 2) := by decide +kernel
theorem d_PR_unit_53 : decode c_PR_unit 53 = .ok (.iload_n 1, 1) := by decide +kernel
theorem d_PR_unit_54 : decode c_PR_unit 54 = .ok (.putfield 100, 3) := by decide +kernel
theorem d_PR_unit_57 : decode c_PR_unit 57 = .ok (.aload 4, 2) := by decide +kernel
theorem d_PR_unit_59 : decode c_PR_unit 59 = .ok (.iload_n 2, 1) := by decide +kernel
theorem d_PR_unit_60 : decode c_PR_unit 60 = .ok (.putfield 103, 3) := by decide +kernel
theorem d_PR_unit_63 : decode c_PR_unit 63 = .ok (.aload 4, 2) := by decide +kernel
theorem d_PR_unit_65 : decode c_PR_unit 65 = .ok (.iload_n 3, 1) := by decide +kernel
theorem d_PR_unit_66 : decode c_PR_unit 66 = .ok (.putfield 106, 3) := by decide +kernel
theorem d_PR_unit_69 : decode c_PR_unit 69 = .ok (.aload_n 0, 1) := by decide +kernel
theorem d_PR_unit_70 : decode c_PR_unit 70 = .ok (.dup, 1) := by decide +kernel
theorem d_PR_unit_71 : decode c_PR_unit 71 = .ok (.getfield 90, 3) := by decide +kernel
theorem d_PR_unit_74 : decode c_PR_unit 74 = .ok (.iconst 1, 1) := by decide +kernel
theorem d_PR_unit_75 : decode c_PR_unit 75 = .ok (.iadd, 1) := by decide +kernel
theorem d_PR_unit_76 : decode c_PR_unit 76 = .ok (.putfield 90, 3) := by decide +kernel
theorem d_PR_unit_79 : decode c_PR_unit 79 = .ok (.aload_n 0, 1) := by decide +kernel
theorem d_PR_unit_80 : decode c_PR_unit 80 = .ok (.getfield 90, 3) := by decide +kernel
theorem d_PR_unit_83 : decode c_PR_unit 83 = .ok (.iconst 1, 1) := by decide +kernel
theorem d_PR_unit_84 : decode c_PR_unit 84 = .ok (.isub, 1) := by decide +kernel
theorem d_PR_unit_85 : decode c_PR_unit 85 = .ok (.ireturn, 1) := by decide +kernel
theorem d_PR_size_0 : decode c_PR_size 0 = .ok (.aload_n 0, 1) := by decide +kernel
theorem d_PR_size_1 : decode c_PR_size 1 = .ok (.iload_n 1, 1) := by decide +kernel
theorem d_PR_size_2 : decode c_PR_size 2 = .ok (.invokevirtual 109, 3) := by decide +kernel
theorem d_PR_size_5 : decode c_PR_size 5 = .ok (.iload_n 2, 1) := by decide +kernel
theorem d_PR_size_6 : decode c_PR_size 6 = .ok (.iload_n 3, 1) := by decide +kernel
theorem d_PR_size_7 : decode c_PR_size 7 = .ok (.iload 4, 2) := by decide +kernel
theorem d_PR_size_9 : decode c_PR_size 9 = .ok (.invokestatic 66, 3) := by decide +kernel
theorem d_PR_size_12 : decode c_PR_size 12 = .ok (.iload 5, 2) := by decide +kernel
theorem d_PR_size_14 : decode c_PR_size 14 = .ok (.iconst 1, 1) := by decide +kernel
theorem d_PR_size_15 : decode c_PR_size 15 = .ok (.ldc 112, 2) := by decide +kernel
theorem d_PR_size_17 : decode c_PR_size 17 = .ok (.invokestatic 81, 3) := by decide +kernel
theorem d_PR_size_20 : decode c_PR_size 20 = .ok (.aload_n 0, 1) := by decide +kernel
theorem d_PR_size_21 : decode c_PR_size 21 = .ok (.iload_n 1, 1) := by decide +kernel
theorem d_PR_size_22 : decode c_PR_size 22 = .ok (.invokevirtual 113, 3) := by decide +kernel
theorem d_PR_size_25 : decode c_PR_size 25 = .ok (.aload_n 0, 1) := by decide +kernel
theorem d_PR_size_26 : decode c_PR_size 26 = .ok (.getfield 17, 3) := by decide +kernel
theorem d_PR_size_29 : decode c_PR_size 29 = .ok (.iload_n 1, 1) := by decide +kernel
theorem d_PR_size_30 : decode c_PR_size 30 = .ok (.aaload, 1) := by decide +kernel
theorem d_PR_size_31 : decode c_PR_size 31 = .ok (.astore 6, 2) := by decide +kernel
theorem d_PR_size_33 : decode c_PR_size 33 = .ok (.aload 6, 2) := by decide +kernel
theorem d_PR_size_35 : decode c_PR_size 35 = .ok (.iload_n 2, 1) := by decide +kernel
theorem d_PR_size_36 : decode c_PR_size 36 = .ok (.putfield 116, 3) := by decide +kernel
theorem d_PR_size_39 : decode c_PR_size 39 = .ok (.aload 6, 2) := by decide +kernel
theorem d_PR_size_41 : decode c_PR_size 41 = .ok (.iload_n 3, 1) := by decide +kernel
theorem d_PR_size_42 : decode c_PR_size 42 = .ok (.putfield 117, 3) := by decide +kernel
theorem d_PR_size_45 : decode c_PR_size 45 = .ok (.aload 6, 2) := by decide +kernel
theorem d_PR_size_47 : decode c_PR_size 47 = .ok (.iload 4, 2) := by decide +kernel
theorem d_PR_size_49 : decode c_PR_size 49 = .ok (.putfield 118, 3) := by decide +kernel
theorem d_PR_size_52 : decode c_PR_size 52 = .ok (.aload 6, 2) := by decide +kernel
theorem d_PR_size_54 : decode c_PR_size 54 = .ok (.iload 5, 2) := by decide +kernel
theorem d_PR_size_56 : decode c_PR_size 56 = .ok (.putfield 119, 3) := by decide +kernel
theorem d_PR_size_59 : decode c_PR_size 59 = .ok (.return_, 1) := by decide +kernel
theorem d_PR_nature_0 : decode c_PR_nature 0 = .ok (.aload_n 0, 1) := by decide +kernel
theorem d_PR_nature_1 : decode c_PR_nature 1 = .ok (.iload_n 1, 1) := by decide +kernel
theorem d_PR_nature_2 : decode c_PR_nature 2 = .ok (.invokevirtual 109, 3) := by decide +kernel
theorem d_PR_nature_5 : decode c_PR_nature 5 = .ok (.iload_n 2, 1) := by decide +kernel
theorem d_PR_nature_6 : decode c_PR_nature 6 = .ok (.iconst 0, 1) := by decide +kernel
theorem d_PR_nature_7 : decode c_PR_nature 7 = .ok (.bipush 7, 2) := by decide +kernel
theorem d_PR_nature_9 : decode c_PR_nature 9 = .ok (.invokestatic 81, 3) := by decide +kernel
theorem d_PR_nature_12 : decode c_PR_nature 12 = .ok (.iload_n 3, 1) := by decide +kernel
theorem d_PR_nature_13 : decode c_PR_nature 13 = .ok (.iconst 0, 1) := by decide +kernel
theorem d_PR_nature_14 : decode c_PR_nature 14 = .ok (.bipush 7, 2) := by decide +kernel
theorem d_PR_nature_16 : decode c_PR_nature 16 = .ok (.invokestatic 81, 3) := by decide +kernel
theorem d_PR_nature_19 : decode c_PR_nature 19 = .ok (.iload 4, 2) := by decide +kernel
theorem d_PR_nature_21 : decode c_PR_nature 21 = .ok (.iconst 0, 1) := by decide +kernel
theorem d_PR_nature_22 : decode c_PR_nature 22 = .ok (.sipush 1000, 3) := by decide +kernel
theorem d_PR_nature_25 : decode c_PR_nature 25 = .ok (.invokestatic 81, 3) := by decide +kernel
theorem d_PR_nature_28 : decode c_PR_nature 28 = .ok (.aload_n 0, 1) := by decide +kernel
theorem d_PR_nature_29 : decode c_PR_nature 29 = .ok (.iload_n 1, 1) := by decide +kernel
theorem d_PR_nature_30 : decode c_PR_nature 30 = .ok (.invokevirtual 113, 3) := by decide +kernel
theorem d_PR_nature_33 : decode c_PR_nature 33 = .ok (.aload_n 0, 1) := by decide +kernel
theorem d_PR_nature_34 : decode c_PR_nature 34 = .ok (.getfield 17, 3) := by decide +kernel
theorem d_PR_nature_37 : decode c_PR_nature 37 = .ok (.iload_n 1, 1) := by decide +kernel
theorem d_PR_nature_38 : decode c_PR_nature 38 = .ok (.aaload, 1) := by decide +kernel
theorem d_PR_nature_39 : decode c_PR_nature 39 = .ok (.astore 5, 2) := by decide +kernel
theorem d_PR_nature_41 : decode c_PR_nature 41 = .ok (.aload 5, 2) := by decide +kernel
theorem d_PR_nature_43 : decode c_PR_nature 43 = .ok (.iload_n 2, 1) := by decide +kernel
theorem d_PR_nature_44 : decode c_PR_nature 44 = .ok (.putfield 122, 3) := by decide +kernel
theorem d_PR_nature_47 : decode c_PR_nature 47 = .ok (.aload 5, 2) := by decide +kernel
theorem d_PR_nature_49 : decode c_PR_nature 49 = .ok (.iload_n 3, 1) := by decide +kernel
theorem d_PR_nature_50 : decode c_PR_nature 50 = .ok (.putfield 125, 3) := by decide +kernel
theorem d_PR_nature_53 : decode c_PR_nature 53 = .ok (.aload 5, 2) := by decide +kernel
theorem d_PR_nature_55 : decode c_PR_nature 55 = .ok (.iload 4, 2) := by decide +kernel
theorem d_PR_nature_57 : decode c_PR_nature 57 = .ok (.putfield 128, 3) := by decide +kernel
theorem d_PR_nature_60 : decode c_PR_nature 60 = .ok (.return_, 1) := by decide +kernel
theorem d_PR_rule_0 : decode c_PR_rule 0 = .ok (.iload_n 1, 1) := by decide +kernel
theorem d_PR_rule_1 : decode c_PR_rule 1 = .ok (.iconst 1, 1) := by decide +kernel
theorem d_PR_rule_2 : decode c_PR_rule 2 = .ok (.bipush 100, 2) := by decide +kernel
theorem d_PR_rule_4 : decode c_PR_rule 4 = .ok (.invokestatic 81, 3) := by decide +kernel
theorem d_PR_rule_7 : decode c_PR_rule 7 = .ok (.iload_n 2, 1) := by decide +kernel
theorem d_PR_rule_8 : decode c_PR_rule 8 = .ok (.iconst 0, 1) := by decide +kernel
theorem d_PR_rule_9 : decode c_PR_rule 9 = .ok (.getstatic 131, 3) := by decide +kernel
theorem d_PR_rule_12 : decode c_PR_rule 12 = .ok (.arraylength, 1) := by decide +kernel
theorem d_PR_rule_13 : decode c_PR_rule 13 = .ok (.iconst 1, 1) := by decide +kernel
theorem d_PR_rule_14 : decode c_PR_rule 14 = .ok (.isub, 1) := by decide +kernel
theorem d_PR_rule_15 : decode c_PR_rule 15 = .ok (.invokestatic 81, 3) := by decide +kernel
theorem d_PR_rule_18 : decode c_PR_rule 18 = .ok (.getstatic 131, 3) := by decide +kernel
theorem d_PR_rule_21 : decode c_PR_rule 21 = .ok (.iload_n 2, 1) := by decide +kernel
theorem d_PR_rule_22 : decode c_PR_rule 22 = .ok (.aaload, 1) := by decide +kernel
theorem d_PR_rule_23 : decode c_PR_rule 23 = .ok (.astore 5, 2) := by decide +kernel
theorem d_PR_rule_25 : decode c_PR_rule 25 = .ok (.iload_n 3, 1) := by decide +kernel
theorem d_PR_rule_26 : decode c_PR_rule 26 = .ok (.aload 5, 2) := by decide +kernel
theorem d_PR_rule_28 : decode c_PR_rule 28 = .ok (.getfield 135, 3) := by decide +kernel
theorem d_PR_rule_31 : decode c_PR_rule 31 = .ok (.aload 5, 2) := by decide +kernel
theorem d_PR_rule_33 : decode c_PR_rule 33 = .ok (.getfield 140, 3) := by decide +kernel
theorem d_PR_rule_36 : decode c_PR_rule 36 = .ok (.invokestatic 81, 3) := by decide +kernel
theorem d_PR_rule_39 : decode c_PR_rule 39 = .ok (.iload 4, 2) := by decide +kernel
theorem d_PR_rule_41 : decode c_PR_rule 41 = .ok (.aload 5, 2) := by decide +kernel
theorem d_PR_rule_43 : decode c_PR_rule 43 = .ok (.invokevirtual 143, 3) := by decide +kernel
theorem d_PR_rule_46 : decode c_PR_rule 46 = .ok (.aload 5, 2) := by decide +kernel
theorem d_PR_rule_48 : decode c_PR_rule 48 = .ok (.invokevirtual 147, 3) := by decide +kernel
theorem d_PR_rule_51 : decode c_PR_rule 51 = .ok (.invokestatic 81, 3) := by decide +kernel
theorem d_PR_rule_54 : decode c_PR_rule 54 = .ok (.aload_n 0, 1) := by decide +kernel
theorem d_PR_rule_55 : decode c_PR_rule 55 = .ok (.getfield 30, 3) := by decide +kernel
theorem d_PR_rule_58 : decode c_PR_rule 58 = .ok (.invokevirtual 150, 3) := by decide +kernel
theorem d_PR_rule_61 : decode c_PR_rule 61 = .ok (.ifCond .gt 13, 3) := by decide +kernel
theorem d_PR_rule_64 : decode c_PR_rule 64 = .ok (.new 93, 3) := by decide +kernel
theorem d_PR_rule_67 : decode c_PR_rule 67 = .ok (.dup, 1) := by decide +kernel
theorem d_PR_rule_68 : decode c_PR_rule 68 = .ok (.ldc 153, 2) := by decide +kernel
theorem d_PR_rule_70 : decode c_PR_rule 70 = .ok (.invokespecial 97, 3) := by decide +kernel
theorem d_PR_rule_73 : decode c_PR_rule 73 = .ok (.athrow, 1) := by decide +kernel
theorem d_PR_rule_74 : decode c_PR_rule 74 = .ok (.aload_n 0, 1) := by decide +kernel
theorem d_PR_rule_75 : decode c_PR_rule 75 = .ok (.getfield 30, 3) := by decide +kernel
theorem d_PR_rule_78 : decode c_PR_rule 78 = .ok (.iload_n 1, 1) := by decide +kernel
theorem d_PR_rule_79 : decode c_PR_rule 79 = .ok (.aload 5, 2) := by decide +kernel
theorem d_PR_rule_81 : decode c_PR_rule 81 = .ok (.iload_n 3, 1) := by decide +kernel
theorem d_PR_rule_82 : decode c_PR_rule 82 = .ok (.iload 4, 2) := by decide +kernel
theorem d_PR_rule_84 : decode c_PR_rule 84 = .ok (.invokevirtual 155, 3) := by decide +kernel
theorem d_PR_rule_87 : decode c_PR_rule 87 = .ok (.ireturn, 1) := by decide +kernel
theorem d_PR_sign_0 : decode c_PR_sign 0 = .ok (.aload_n 0, 1) := by decide +kernel
theorem d_PR_sign_1 : decode c_PR_sign 1 = .ok (.getfield 44, 3) := by decide +kernel
theorem d_PR_sign_4 : decode c_PR_sign 4 = .ok (.iload_n 1, 1) := by decide +kernel
theorem d_PR_sign_5 : decode c_PR_sign 5 = .ok (.sipush 255, 3) := by decide +kernel
theorem d_PR_sign_8 : decode c_PR_sign 8 = .ok (.iand, 1) := by decide +kernel
theorem d_PR_sign_9 : decode c_PR_sign 9 = .ok (.invokevirtual 159, 3) := by decide +kernel
theorem d_PR_sign_12 : decode c_PR_sign 12 = .ok (.ireturn, 1) := by decide +kernel
theorem d_PR_read_0 : decode c_PR_read 0 = .ok (.aload_n 0, 1) := by decide +kernel
theorem d_PR_read_1 : decode c_PR_read 1 = .ok (.getfield 44, 3) := by decide +kernel
theorem d_PR_read_4 : decode c_PR_read 4 = .ok (.aload_n 0, 1) := by decide +kernel
theorem d_PR_read_5 : decode c_PR_read 5 = .ok (.getfield 30, 3) := by decide +kernel
theorem d_PR_read_8 : decode c_PR_read 8 = .ok (.invokevirtual 150, 3) := by decide +kernel
theorem d_PR_read_11 : decode c_PR_read 11 = .ok (.invokevirtual 163, 3) := by decide +kernel
theorem d_PR_read_14 : decode c_PR_read 14 = .ok (.istore_n 1, 1) := by decide +kernel
theorem d_PR_read_15 : decode c_PR_read 15 = .ok (.iconst 0, 1) := by decide +kernel
theorem d_PR_read_16 : decode c_PR_read 16 = .ok (.istore_n 2, 1) := by decide +kernel
theorem d_PR_read_17 : decode c_PR_read 17 = .ok (.iload_n 2, 1) := by decide +kernel
theorem d_PR_read_18 : decode c_PR_read 18 = .ok (.iload_n 1, 1) := by decide +kernel
theorem d_PR_read_19 : decode c_PR_read 19 = .ok (.if_icmp .ge 49, 3) := by decide +kernel
theorem d_PR_read_22 : decode c_PR_read 22 = .ok (.iload_n 2, 1) := by decide +kernel
theorem d_PR_read_23 : decode c_PR_read 23 = .ok (.bipush 24, 2) := by decide +kernel
theorem d_PR_read_25 : decode c_PR_read 25 = .ok (.if_icmp .ge 43, 3) := by decide +kernel
theorem d_PR_read_28 : decode c_PR_read 28 = .ok (.aload_n 0, 1) := by decide +kernel
theorem d_PR_read_29 : decode c_PR_read 29 = .ok (.getfield 44, 3) := by decide +kernel
theorem d_PR_read_32 : decode c_PR_read 32 = .ok (.getfield 166, 3) := by decide +kernel
theorem d_PR_read_35 : decode c_PR_read 35 = .ok (.iload_n 2, 1) := by decide +kernel
theorem d_PR_read_36 : decode c_PR_read 36 = .ok (.aaload, 1) := by decide +kernel
theorem d_PR_read_37 : decode c_PR_read 37 = .ok (.astore_n 3, 1) := by decide +kernel
theorem d_PR_read_38 : decode c_PR_read 38 = .ok (.aload_n 0, 1) := by decide +kernel
theorem d_PR_read_39 : decode c_PR_read 39 = .ok (.getfield 30, 3) := by decide +kernel
theorem d_PR_read_42 : decode c_PR_read 42 = .ok (.aload_n 3, 1) := by decide +kernel
theorem d_PR_read_43 : decode c_PR_read 43 = .ok (.getfield 170, 3) := by decide +kernel
theorem d_PR_read_46 : decode c_PR_read 46 = .ok (.aload_n 3, 1) := by decide +kernel
theorem d_PR_read_47 : decode c_PR_read 47 = .ok (.getfield 175, 3) := by decide +kernel
theorem d_PR_read_50 : decode c_PR_read 50 = .ok (.aload_n 3, 1) := by decide +kernel
theorem d_PR_read_51 : decode c_PR_read 51 = .ok (.getfield 179, 3) := by decide +kernel
theorem d_PR_read_54 : decode c_PR_read 54 = .ok (.aload_n 3, 1) := by decide +kernel
theorem d_PR_read_55 : decode c_PR_read 55 = .ok (.getfield 182, 3) := by decide +kernel
theorem d_PR_read_58 : decode c_PR_read 58 = .ok (.invokevirtual 155, 3) := by decide +kernel
theorem d_PR_read_61 : decode c_PR_read 61 = .ok (.pop, 1) := by decide +kernel
theorem d_PR_read_62 : decode c_PR_read 62 = .ok (.iinc 2 1, 3) := by decide +kernel
theorem d_PR_read_65 : decode c_PR_read 65 = .ok (.goto (-48), 3) := by decide +kernel
theorem d_PR_read_68 : decode c_PR_read 68 = .ok (.aload_n 0, 1) := by decide +kernel
theorem d_PR_read_69 : decode c_PR_read 69 = .ok (.getfield 44, 3) := by decide +kernel
theorem d_PR_read_72 : decode c_PR_read 72 = .ok (.invokevirtual 185, 3) := by decide +kernel
theorem d_PR_read_75 : decode c_PR_read 75 = .ok (.iload_n 1, 1) := by decide +kernel
theorem d_PR_read_76 : decode c_PR_read 76 = .ok (.ireturn, 1) := by decide +kernel
theorem d_PR_own_0 : decode c_PR_own 0 = .ok (.iload_n 1, 1) := by decide +kernel
theorem d_PR_own_1 : decode c_PR_own 1 = .ok (.iconst 0, 1) := by decide +kernel
theorem d_PR_own_2 : decode c_PR_own 2 = .ok (.iconst 3, 1) := by decide +kernel
theorem d_PR_own_3 : decode c_PR_own 3 = .ok (.invokestatic 81, 3) := by decide +kernel
theorem d_PR_own_6 : decode c_PR_own 6 = .ok (.iload_n 2, 1) := by decide +kernel
theorem d_PR_own_7 : decode c_PR_own 7 = .ok (.iconst 0, 1) := by decide +kernel
theorem d_PR_own_8 : decode c_PR_own 8 = .ok (.iconst 3, 1) := by decide +kernel
theorem d_PR_own_9 : decode c_PR_own 9 = .ok (.invokestatic 81, 3) := by decide +kernel
theorem d_PR_own_12 : decode c_PR_own 12 = .ok (.aload_n 0, 1) := by decide +kernel
theorem d_PR_own_13 : decode c_PR_own 13 = .ok (.getfield 37, 3) := by decide +kernel
theorem d_PR_own_16 : decode c_PR_own 16 = .ok (.getfield 188, 3) := by decide +kernel
theorem d_PR_own_19 : decode c_PR_own 19 = .ok (.iload_n 1, 1) := by decide +kernel
theorem d_PR_own_20 : decode c_PR_own 20 = .ok (.iload_n 2, 1) := by decide +kernel
theorem d_PR_own_21 : decode c_PR_own 21 = .ok (.iastore, 1) := by decide +kernel
theorem d_PR_own_22 : decode c_PR_own 22 = .ok (.return_, 1) := by decide +kernel
theorem d_PR_except_0 : decode c_PR_except 0 = .ok (.iload_n 1, 1) := by decide +kernel
theorem d_PR_except_1 : decode c_PR_except 1 = .ok (.ifCond .lt 14, 3) := by decide +kernel
theorem d_PR_except_4 : decode c_PR_except 4 = .ok (.iload_n 1, 1) := by decide +kernel
theorem d_PR_except_5 : decode c_PR_except 5 = .ok (.aload_n 0, 1) := by decide +kernel
theorem d_PR_except_6 : decode c_PR_except 6 = .ok (.getfield 30, 3) := by decide +kernel
theorem d_PR_except_9 : decode c_PR_except 9 = .ok (.getfield 191, 3) := by decide +kernel
theorem d_PR_except_12 : decode c_PR_except 12 = .ok (.if_icmp .lt 13, 3) := by decide +kernel
theorem d_PR_except_15 : decode c_PR_except 15 = .ok (.new 194, 3) := by decide +kernel
theorem d_PR_except_18 : decode c_PR_except 18 = .ok (.dup, 1) := by decide +kernel
theorem d_PR_except_19 : decode c_PR_except 19 = .ok (.ldc 196, 2) := by decide +kernel
theorem d_PR_except_21 : decode c_PR_except 21 = .ok (.invokespecial 198, 3) := by decide +kernel
theorem d_PR_except_24 : decode c_PR_except 24 = .ok (.athrow, 1) := by decide +kernel
theorem d_PR_except_25 : decode c_PR_except 25 = .ok (.iload_n 2, 1) := by decide +kernel
theorem d_PR_except_26 : decode c_PR_except 26 = .ok (.iconst (-1), 1) := by decide +kernel
theorem d_PR_except_27 : decode c_PR_except 27 = .ok (.bipush 11, 2) := by decide +kernel
theorem d_PR_except_29 : decode c_PR_except 29 = .ok (.invokestatic 81, 3) := by decide +kernel
theorem d_PR_except_32 : decode c_PR_except 32 = .ok (.iload_n 3, 1) := by decide +kernel
theorem d_PR_except_33 : decode c_PR_except 33 = .ok (.iconst (-1), 1) := by decide +kernel
theorem d_PR_except_34 : decode c_PR_except 34 = .ok (.bipush 7, 2) := by decide +kernel
theorem d_PR_except_36 : decode c_PR_except 36 = .ok (.invokestatic 81, 3) := by decide +kernel
theorem d_PR_except_39 : decode c_PR_except 39 = .ok (.iload 4, 2) := by decide +kernel
theorem d_PR_except_41 : decode c_PR_except 41 = .ok (.iconst 0, 1) := by decide +kernel
theorem d_PR_except_42 : decode c_PR_except 42 = .ok (.sipush 1000, 3) := by decide +kernel
theorem d_PR_except_45 : decode c_PR_except 45 = .ok (.invokestatic 81, 3) := by decide +kernel
theorem d_PR_except_48 : decode c_PR_except 48 = .ok (.aload_n 0, 1) := by decide +kernel
theorem d_PR_except_49 : decode c_PR_except 49 = .ok (.iload_n 1, 1) := by decide +kernel
theorem d_PR_except_50 : decode c_PR_except 50 = .ok (.iload_n 2, 1) := by decide +kernel
theorem d_PR_except_51 : decode c_PR_except 51 = .ok (.iload_n 3, 1) := by decide +kernel
theorem d_PR_except_52 : decode c_PR_except 52 = .ok (.invokevirtual 199, 3) := by decide +kernel
theorem d_PR_except_55 : decode c_PR_except 55 = .ok (.istore 5, 2) := by decide +kernel
theorem d_PR_except_57 : decode c_PR_except 57 = .ok (.iload 5, 2) := by decide +kernel
theorem d_PR_except_59 : decode c_PR_except 59 = .ok (.iconst (-1), 1) := by decide +kernel
theorem d_PR_except_60 : decode c_PR_except 60 = .ok (.if_icmp .eq 29, 3) := by decide +kernel
theorem d_PR_except_63 : decode c_PR_except 63 = .ok (.aload_n 0, 1) := by decide +kernel
theorem d_PR_except_64 : decode c_PR_except 64 = .ok (.getfield 23, 3) := by decide +kernel
theorem d_PR_except_67 : decode c_PR_except 67 = .ok (.iload 5, 2) := by decide +kernel
theorem d_PR_except_69 : decode c_PR_except 69 = .ok (.aaload, 1) := by decide +kernel
theorem d_PR_except_70 : decode c_PR_except 70 = .ok (.aload_n 0, 1) := by decide +kernel
theorem d_PR_except_71 : decode c_PR_except 71 = .ok (.getfield 23, 3) := by decide +kernel
theorem d_PR_except_74 : decode c_PR_except 74 = .ok (.iload 5, 2) := by decide +kernel
theorem d_PR_except_76 : decode c_PR_except 76 = .ok (.aaload, 1) := by decide +kernel
theorem d_PR_except_77 : decode c_PR_except 77 = .ok (.getfield 203, 3) := by decide +kernel
theorem d_PR_except_80 : decode c_PR_except 80 = .ok (.iload 4, 2) := by decide +kernel
theorem d_PR_except_82 : decode c_PR_except 82 = .ok (.invokestatic 206, 3) := by decide +kernel
theorem d_PR_except_85 : decode c_PR_except 85 = .ok (.putfield 203, 3) := by decide +kernel
theorem d_PR_except_88 : decode c_PR_except 88 = .ok (.return_, 1) := by decide +kernel
theorem d_PR_except_89 : decode c_PR_except 89 = .ok (.aload_n 0, 1) := by decide +kernel
theorem d_PR_except_90 : decode c_PR_except 90 = .ok (.getfield 212, 3) := by decide +kernel
theorem d_PR_except_93 : decode c_PR_except 93 = .ok (.bipush 20, 2) := by decide +kernel
theorem d_PR_except_95 : decode c_PR_except 95 = .ok (.if_icmp .lt 13, 3) := by decide +kernel
theorem d_PR_except_98 : decode c_PR_except 98 = .ok (.new 93, 3) := by decide +kernel
theorem d_PR_except_101 : decode c_PR_except 101 = .ok (.dup, 1) := by decide +kernel
theorem d_PR_except_102 : decode c_PR_except 102 = .ok (.ldc 215, 2) := by decide +kernel
theorem d_PR_except_104 : decode c_PR_except 104 = .ok (.invokespecial 97, 3) := by decide +kernel
theorem d_PR_except_107 : decode c_PR_except 107 = .ok (.athrow, 1) := by decide +kernel
theorem d_PR_except_108 : decode c_PR_except 108 = .ok (.aload_n 0, 1) := by decide +kernel
theorem d_PR_except_109 : decode c_PR_except 109 = .ok (.getfield 23, 3) := by decide +kernel
theorem d_PR_except_112 : decode c_PR_except 112 = .ok (.aload_n 0, 1) := by decide +kernel
theorem d_PR_except_113 : decode c_PR_except 113 = .ok (.getfield 212, 3) := by decide +kernel
theorem d_PR_except_116 : decode c_PR_except 116 = .ok (.aaload, 1) := by decide +kernel
theorem d_PR_except_117 : decode c_PR_except 117 = .ok (.astore 6, 2) := by decide +kernel
theorem d_PR_except_119 : decode c_PR_except 119 = .ok (.aload 6, 2) := by decide +kernel
theorem d_PR_except_121 : decode c_PR_except 121 = .ok (.iload_n 1, 1) := by decide +kernel
theorem d_PR_except_122 : decode c_PR_except 122 = .ok (.putfield 217, 3) := by decide +kernel
theorem d_PR_except_125 : decode c_PR_except 125 = .ok (.aload 6, 2) := by decide +kernel
theorem d_PR_except_127 : decode c_PR_except 127 = .ok (.iload_n 2, 1) := by decide +kernel
theorem d_PR_except_128 : decode c_PR_except 128 = .ok (.putfield 220, 3) := by decide +kernel
theorem d_PR_except_131 : decode c_PR_except 131 = .ok (.aload 6, 2) := by decide +kernel
theorem d_PR_except_133 : decode c_PR_except 133 = .ok (.iload_n 3, 1) := by decide +kernel
theorem d_PR_except_134 : decode c_PR_except 134 = .ok (.putfield 223, 3) := by decide +kernel
theorem d_PR_except_137 : decode c_PR_except 137 = .ok (.aload 6, 2) := by decide +kernel
theorem d_PR_except_139 : decode c_PR_except 139 = .ok (.iload 4, 2) := by decide +kernel
theorem d_PR_except_141 : decode c_PR_except 141 = .ok (.putfield 203, 3) := by decide +kernel
theorem d_PR_except_144 : decode c_PR_except 144 = .ok (.aload_n 0, 1) := by decide +kernel
theorem d_PR_except_145 : decode c_PR_except 145 = .ok (.dup, 1) := by decide +kernel
theorem d_PR_except_146 : decode c_PR_except 146 = .ok (.getfield 212, 3) := by decide +kernel
theorem d_PR_except_149 : decode c_PR_except 149 = .ok (.iconst 1, 1) := by decide +kernel
theorem d_PR_except_150 : decode c_PR_except 150 = .ok (.iadd, 1) := by decide +kernel
theorem d_PR_except_151 : decode c_PR_except 151 = .ok (.putfield 212, 3) := by decide +kernel
theorem d_PR_except_154 : decode c_PR_except 154 = .ok (.return_, 1) := by decide +kernel
theorem d_PR_may_0 : decode c_PR_may 0 = .ok (.aload_n 0, 1) := by decide +kernel
theorem d_PR_may_1 : decode c_PR_may 1 = .ok (.iload_n 1, 1) := by decide +kernel
theorem d_PR_may_2 : decode c_PR_may 2 = .ok (.iload_n 2, 1) := by decide +kernel
theorem d_PR_may_3 : decode c_PR_may 3 = .ok (.iload_n 3, 1) := by decide +kernel
theorem d_PR_may_4 : decode c_PR_may 4 = .ok (.invokevirtual 224, 3) := by decide +kernel
theorem d_PR_may_7 : decode c_PR_may 7 = .ok (.aload_n 0, 1) := by decide +kernel
theorem d_PR_may_8 : decode c_PR_may 8 = .ok (.iload_n 1, 1) := by decide +kernel
theorem d_PR_may_9 : decode c_PR_may 9 = .ok (.iload_n 2, 1) := by decide +kernel
theorem d_PR_may_10 : decode c_PR_may 10 = .ok (.iload_n 3, 1) := by decide +kernel
theorem d_PR_may_11 : decode c_PR_may 11 = .ok (.invokevirtual 227, 3) := by decide +kernel
theorem d_PR_may_14 : decode c_PR_may 14 = .ok (.ireturn, 1) := by decide +kernel
theorem d_PR_explain_0 : decode c_PR_explain 0 = .ok (.iload_n 1, 1) := by decide +kernel
theorem d_PR_explain_1 : decode c_PR_explain 1 = .ok (.invokestatic 230, 3) := by decide +kernel
theorem d_PR_explain_4 : decode c_PR_explain 4 = .ok (.iload_n 1, 1) := by decide +kernel
theorem d_PR_explain_5 : decode c_PR_explain 5 = .ok (.aload_n 0, 1) := by decide +kernel
theorem d_PR_explain_6 : decode c_PR_explain 6 = .ok (.getfield 233, 3) := by decide +kernel
theorem d_PR_explain_9 : decode c_PR_explain 9 = .ok (.if_icmp .ge 12, 3) := by decide +kernel
theorem d_PR_explain_12 : decode c_PR_explain 12 = .ok (.aload_n 0, 1) := by decide +kernel
theorem d_PR_explain_13 : decode c_PR_explain 13 = .ok (.getfield 55, 3) := by decide +kernel
theorem d_PR_explain_16 : decode c_PR_explain 16 = .ok (.iload_n 1, 1) := by decide +kernel
theorem d_PR_explain_17 : decode c_PR_explain 17 = .ok (.iaload, 1) := by decide +kernel
theorem d_PR_explain_18 : decode c_PR_explain 18 = .ok (.goto 4, 3) := by decide +kernel
theorem d_PR_explain_21 : decode c_PR_explain 21 = .ok (.iconst (-1), 1) := by decide +kernel
theorem d_PR_explain_22 : decode c_PR_explain 22 = .ok (.ireturn, 1) := by decide +kernel
theorem d_PR_put_0 : decode c_PR_put 0 = .ok (.aload_n 0, 1) := by decide +kernel
theorem d_PR_put_1 : decode c_PR_put 1 = .ok (.iload_n 1, 1) := by decide +kernel
theorem d_PR_put_2 : decode c_PR_put 2 = .ok (.iload_n 2, 1) := by decide +kernel
theorem d_PR_put_3 : decode c_PR_put 3 = .ok (.iload_n 3, 1) := by decide +kernel
theorem d_PR_put_4 : decode c_PR_put 4 = .ok (.invokevirtual 224, 3) := by decide +kernel
theorem d_PR_put_7 : decode c_PR_put 7 = .ok (.aload_n 0, 1) := by decide +kernel
theorem d_PR_put_8 : decode c_PR_put 8 = .ok (.getfield 17, 3) := by decide +kernel
theorem d_PR_put_11 : decode c_PR_put 11 = .ok (.iload_n 1, 1) := by decide +kernel
theorem d_PR_put_12 : decode c_PR_put 12 = .ok (.aaload, 1) := by decide +kernel
theorem d_PR_put_13 : decode c_PR_put 13 = .ok (.getfield 236, 3) := by decide +kernel
theorem d_PR_put_16 : decode c_PR_put 16 = .ok (.iload_n 2, 1) := by decide +kernel
theorem d_PR_put_17 : decode c_PR_put 17 = .ok (.if_icmp .ne 13, 3) := by decide +kernel
theorem d_PR_put_20 : decode c_PR_put 20 = .ok (.new 237, 3) := by decide +kernel
theorem d_PR_put_23 : decode c_PR_put 23 = .ok (.dup, 1) := by decide +kernel
theorem d_PR_put_24 : decode c_PR_put 24 = .ok (.ldc 239, 2) := by decide +kernel
theorem d_PR_put_26 : decode c_PR_put 26 = .ok (.invokespecial 241, 3) := by decide +kernel
theorem d_PR_put_29 : decode c_PR_put 29 = .ok (.athrow, 1) := by decide +kernel
theorem d_PR_put_30 : decode c_PR_put 30 = .ok (.aload_n 0, 1) := by decide +kernel
theorem d_PR_put_31 : decode c_PR_put 31 = .ok (.iload_n 1, 1) := by decide +kernel
theorem d_PR_put_32 : decode c_PR_put 32 = .ok (.iload_n 2, 1) := by decide +kernel
theorem d_PR_put_33 : decode c_PR_put 33 = .ok (.iload_n 3, 1) := by decide +kernel
theorem d_PR_put_34 : decode c_PR_put 34 = .ok (.invokevirtual 227, 3) := by decide +kernel
theorem d_PR_put_37 : decode c_PR_put 37 = .ok (.istore 4, 2) := by decide +kernel
theorem d_PR_put_39 : decode c_PR_put 39 = .ok (.iload 4, 2) := by decide +kernel
theorem d_PR_put_41 : decode c_PR_put 41 = .ok (.ifCond .ne 13, 3) := by decide +kernel
theorem d_PR_put_44 : decode c_PR_put 44 = .ok (.aload_n 0, 1) := by decide +kernel
theorem d_PR_put_45 : decode c_PR_put 45 = .ok (.getfield 17, 3) := by decide +kernel
theorem d_PR_put_48 : decode c_PR_put 48 = .ok (.iload_n 1, 1) := by decide +kernel
theorem d_PR_put_49 : decode c_PR_put 49 = .ok (.aaload, 1) := by decide +kernel
theorem d_PR_put_50 : decode c_PR_put 50 = .ok (.iload_n 2, 1) := by decide +kernel
theorem d_PR_put_51 : decode c_PR_put 51 = .ok (.putfield 236, 3) := by decide +kernel
theorem d_PR_put_54 : decode c_PR_put 54 = .ok (.iload 4, 2) := by decide +kernel
theorem d_PR_put_56 : decode c_PR_put 56 = .ok (.ireturn, 1) := by decide +kernel
theorem d_PR_take_0 : decode c_PR_take 0 = .ok (.aload_n 0, 1) := by decide +kernel
theorem d_PR_take_1 : decode c_PR_take 1 = .ok (.iload_n 1, 1) := by decide +kernel
theorem d_PR_take_2 : decode c_PR_take 2 = .ok (.invokevirtual 109, 3) := by decide +kernel
theorem d_PR_take_5 : decode c_PR_take 5 = .ok (.aload_n 0, 1) := by decide +kernel
theorem d_PR_take_6 : decode c_PR_take 6 = .ok (.getfield 17, 3) := by decide +kernel
theorem d_PR_take_9 : decode c_PR_take 9 = .ok (.iload_n 1, 1) := by decide +kernel
theorem d_PR_take_10 : decode c_PR_take 10 = .ok (.aaload, 1) := by decide +kernel
theorem d_PR_take_11 : decode c_PR_take 11 = .ok (.getfield 236, 3) := by decide +kernel
theorem d_PR_take_14 : decode c_PR_take 14 = .ok (.iconst (-1), 1) := by decide +kernel
theorem d_PR_take_15 : decode c_PR_take 15 = .ok (.if_icmp .ne 13, 3) := by decide +kernel
theorem d_PR_take_18 : decode c_PR_take 18 = .ok (.new 237, 3) := by decide +kernel
theorem d_PR_take_21 : decode c_PR_take 21 = .ok (.dup, 1) := by decide +kernel
theorem d_PR_take_22 : decode c_PR_take 22 = .ok (.ldc 242, 2) := by decide +kernel
theorem d_PR_take_24 : decode c_PR_take 24 = .ok (.invokespecial 241, 3) := by decide +kernel
theorem d_PR_take_27 : decode c_PR_take 27 = .ok (.athrow, 1) := by decide +kernel
theorem d_PR_take_28 : decode c_PR_take 28 = .ok (.aload_n 0, 1) := by decide +kernel
theorem d_PR_take_29 : decode c_PR_take 29 = .ok (.getfield 17, 3) := by decide +kernel
theorem d_PR_take_32 : decode c_PR_take 32 = .ok (.iload_n 1, 1) := by decide +kernel
theorem d_PR_take_33 : decode c_PR_take 33 = .ok (.aaload, 1) := by decide +kernel
theorem d_PR_take_34 : decode c_PR_take 34 = .ok (.iconst (-1), 1) := by decide +kernel
theorem d_PR_take_35 : decode c_PR_take 35 = .ok (.putfield 236, 3) := by decide +kernel
theorem d_PR_take_38 : decode c_PR_take 38 = .ok (.return_, 1) := by decide +kernel
theorem d_PR_turned_0 : decode c_PR_turned 0 = .ok (.aload_n 0, 1) := by decide +kernel
theorem d_PR_turned_1 : decode c_PR_turned 1 = .ok (.iload_n 1, 1) := by decide +kernel
theorem d_PR_turned_2 : decode c_PR_turned 2 = .ok (.invokevirtual 109, 3) := by decide +kernel
theorem d_PR_turned_5 : decode c_PR_turned 5 = .ok (.iload_n 2, 1) := by decide +kernel
theorem d_PR_turned_6 : decode c_PR_turned 6 = .ok (.invokestatic 62, 3) := by decide +kernel
theorem d_PR_turned_9 : decode c_PR_turned 9 = .ok (.aload_n 0, 1) := by decide +kernel
theorem d_PR_turned_10 : decode c_PR_turned 10 = .ok (.getfield 11, 3) := by decide +kernel
theorem d_PR_turned_13 : decode c_PR_turned 13 = .ok (.iload_n 2, 1) := by decide +kernel
theorem d_PR_turned_14 : decode c_PR_turned 14 = .ok (.aaload, 1) := by decide +kernel
theorem d_PR_turned_15 : decode c_PR_turned 15 = .ok (.aload_n 0, 1) := by decide +kernel
theorem d_PR_turned_16 : decode c_PR_turned 16 = .ok (.getfield 17, 3) := by decide +kernel
theorem d_PR_turned_19 : decode c_PR_turned 19 = .ok (.iload_n 1, 1) := by decide +kernel
theorem d_PR_turned_20 : decode c_PR_turned 20 = .ok (.aaload, 1) := by decide +kernel
theorem d_PR_turned_21 : decode c_PR_turned 21 = .ok (.invokevirtual 244, 3) := by decide +kernel
theorem d_PR_turned_24 : decode c_PR_turned 24 = .ok (.ireturn, 1) := by decide +kernel
theorem d_PR_never_0 : decode c_PR_never 0 = .ok (.iload_n 1, 1) := by decide +kernel
theorem d_PR_never_1 : decode c_PR_never 1 = .ok (.invokestatic 230, 3) := by decide +kernel
theorem d_PR_never_4 : decode c_PR_never 4 = .ok (.aload_n 0, 1) := by decide +kernel
theorem d_PR_never_5 : decode c_PR_never 5 = .ok (.getfield 30, 3) := by decide +kernel
theorem d_PR_never_8 : decode c_PR_never 8 = .ok (.iload_n 1, 1) := by decide +kernel
theorem d_PR_never_9 : decode c_PR_never 9 = .ok (.invokevirtual 248, 3) := by decide +kernel
theorem d_PR_never_12 : decode c_PR_never 12 = .ok (.ireturn, 1) := by decide +kernel
theorem d_PR_clash_0 : decode c_PR_clash 0 = .ok (.iload_n 1, 1) := by decide +kernel
theorem d_PR_clash_1 : decode c_PR_clash 1 = .ok (.invokestatic 230, 3) := by decide +kernel
theorem d_PR_clash_4 : decode c_PR_clash 4 = .ok (.iload_n 2, 1) := by decide +kernel
theorem d_PR_clash_5 : decode c_PR_clash 5 = .ok (.iconst 0, 1) := by decide +kernel
theorem d_PR_clash_6 : decode c_PR_clash 6 = .ok (.iconst 1, 1) := by decide +kernel
theorem d_PR_clash_7 : decode c_PR_clash 7 = .ok (.invokestatic 81, 3) := by decide +kernel
theorem d_PR_clash_10 : decode c_PR_clash 10 = .ok (.iload_n 1, 1) := by decide +kernel
theorem d_PR_clash_11 : decode c_PR_clash 11 = .ok (.aload_n 0, 1) := by decide +kernel
theorem d_PR_clash_12 : decode c_PR_clash 12 = .ok (.getfield 30, 3) := by decide +kernel
theorem d_PR_clash_15 : decode c_PR_clash 15 = .ok (.getfield 251, 3) := by decide +kernel
theorem d_PR_clash_18 : decode c_PR_clash 18 = .ok (.if_icmp .lt 5, 3) := by decide +kernel
theorem d_PR_clash_21 : decode c_PR_clash 21 = .ok (.iconst (-1), 1) := by decide +kernel
theorem d_PR_clash_22 : decode c_PR_clash 22 = .ok (.ireturn, 1) := by decide +kernel
theorem d_PR_clash_23 : decode c_PR_clash 23 = .ok (.iload_n 2, 1) := by decide +kernel
theorem d_PR_clash_24 : decode c_PR_clash 24 = .ok (.ifCond .ne 15, 3) := by decide +kernel
theorem d_PR_clash_27 : decode c_PR_clash 27 = .ok (.aload_n 0, 1) := by decide +kernel
theorem d_PR_clash_28 : decode c_PR_clash 28 = .ok (.getfield 30, 3) := by decide +kernel
theorem d_PR_clash_31 : decode c_PR_clash 31 = .ok (.getfield 254, 3) := by decide +kernel
theorem d_PR_clash_34 : decode c_PR_clash 34 = .ok (.iload_n 1, 1) := by decide +kernel
theorem d_PR_clash_35 : decode c_PR_clash 35 = .ok (.iaload, 1) := by decide +kernel
theorem d_PR_clash_36 : decode c_PR_clash 36 = .ok (.goto 12, 3) := by decide +kernel
theorem d_PR_clash_39 : decode c_PR_clash 39 = .ok (.aload_n 0, 1) := by decide +kernel
theorem d_PR_clash_40 : decode c_PR_clash 40 = .ok (.getfield 30, 3) := by decide +kernel
theorem d_PR_clash_43 : decode c_PR_clash 43 = .ok (.getfield 257, 3) := by decide +kernel
theorem d_PR_clash_46 : decode c_PR_clash 46 = .ok (.iload_n 1, 1) := by decide +kernel
theorem d_PR_clash_47 : decode c_PR_clash 47 = .ok (.iaload, 1) := by decide +kernel
theorem d_PR_clash_48 : decode c_PR_clash 48 = .ok (.ireturn, 1) := by decide +kernel
theorem d_PR_at_0 : decode c_PR_at 0 = .ok (.iload_n 1, 1) := by decide +kernel
theorem d_PR_at_1 : decode c_PR_at 1 = .ok (.invokestatic 62, 3) := by decide +kernel
theorem d_PR_at_4 : decode c_PR_at 4 = .ok (.iload_n 2, 1) := by decide +kernel
theorem d_PR_at_5 : decode c_PR_at 5 = .ok (.invokestatic 230, 3) := by decide +kernel
theorem d_PR_at_8 : decode c_PR_at 8 = .ok (.iconst 0, 1) := by decide +kernel
theorem d_PR_at_9 : decode c_PR_at 9 = .ok (.istore_n 3, 1) := by decide +kernel
theorem d_PR_at_10 : decode c_PR_at 10 = .ok (.iconst 0, 1) := by decide +kernel
theorem d_PR_at_11 : decode c_PR_at 11 = .ok (.istore 4, 2) := by decide +kernel
theorem d_PR_at_13 : decode c_PR_at 13 = .ok (.iload 4, 2) := by decide +kernel
theorem d_PR_at_15 : decode c_PR_at 15 = .ok (.aload_n 0, 1) := by decide +kernel
theorem d_PR_at_16 : decode c_PR_at 16 = .ok (.getfield 90, 3) := by decide +kernel
theorem d_PR_at_19 : decode c_PR_at 19 = .ok (.if_icmp .ge 34, 3) := by decide +kernel
theorem d_PR_at_22 : decode c_PR_at 22 = .ok (.aload_n 0, 1) := by decide +kernel
theorem d_PR_at_23 : decode c_PR_at 23 = .ok (.getfield 17, 3) := by decide +kernel
theorem d_PR_at_26 : decode c_PR_at 26 = .ok (.iload 4, 2) := by decide +kernel
theorem d_PR_at_28 : decode c_PR_at 28 = .ok (.aaload, 1) := by decide +kernel
theorem d_PR_at_29 : decode c_PR_at 29 = .ok (.getfield 236, 3) := by decide +kernel
theorem d_PR_at_32 : decode c_PR_at 32 = .ok (.iload_n 1, 1) := by decide +kernel
theorem d_PR_at_33 : decode c_PR_at 33 = .ok (.if_icmp .ne 14, 3) := by decide +kernel
theorem d_PR_at_36 : decode c_PR_at 36 = .ok (.iload_n 3, 1) := by decide +kernel
theorem d_PR_at_37 : decode c_PR_at 37 = .ok (.iload_n 2, 1) := by decide +kernel
theorem d_PR_at_38 : decode c_PR_at 38 = .ok (.if_icmp .ne 6, 3) := by decide +kernel
theorem d_PR_at_41 : decode c_PR_at 41 = .ok (.iload 4, 2) := by decide +kernel
theorem d_PR_at_43 : decode c_PR_at 43 = .ok (.ireturn, 1) := by decide +kernel
theorem d_PR_at_44 : decode c_PR_at 44 = .ok (.iinc 3 1, 3) := by decide +kernel
theorem d_PR_at_47 : decode c_PR_at 47 = .ok (.iinc 4 1, 3) := by decide +kernel
theorem d_PR_at_50 : decode c_PR_at 50 = .ok (.goto (-37), 3) := by decide +kernel
theorem d_PR_at_53 : decode c_PR_at 53 = .ok (.iconst (-1), 1) := by decide +kernel
theorem d_PR_at_54 : decode c_PR_at 54 = .ok (.ireturn, 1) := by decide +kernel
theorem d_PR_count_0 : decode c_PR_count 0 = .ok (.iload_n 1, 1) := by decide +kernel
theorem d_PR_count_1 : decode c_PR_count 1 = .ok (.tableswitch 81 0 5 #[39, 47, 52, 57, 65, 73], 39) := by decide +kernel
theorem d_PR_count_40 : decode c_PR_count 40 = .ok (.aload_n 0, 1) := by decide +kernel
theorem d_PR_count_41 : decode c_PR_count 41 = .ok (.getfield 30, 3) := by decide +kernel
theorem d_PR_count_44 : decode c_PR_count 44 = .ok (.getfield 191, 3) := by decide +kernel
theorem d_PR_count_47 : decode c_PR_count 47 = .ok (.ireturn, 1) := by decide +kernel
theorem d_PR_count_48 : decode c_PR_count 48 = .ok (.aload_n 0, 1) := by decide +kernel
theorem d_PR_count_49 : decode c_PR_count 49 = .ok (.getfield 90, 3) := by decide +kernel
theorem d_PR_count_52 : decode c_PR_count 52 = .ok (.ireturn, 1) := by decide +kernel
theorem d_PR_count_53 : decode c_PR_count 53 = .ok (.aload_n 0, 1) := by decide +kernel
theorem d_PR_count_54 : decode c_PR_count 54 = .ok (.getfield 212, 3) := by decide +kernel
theorem d_PR_count_57 : decode c_PR_count 57 = .ok (.ireturn, 1) := by decide +kernel
theorem d_PR_count_58 : decode c_PR_count 58 = .ok (.aload_n 0, 1) := by decide +kernel
theorem d_PR_count_59 : decode c_PR_count 59 = .ok (.getfield 30, 3) := by decide +kernel
theorem d_PR_count_62 : decode c_PR_count 62 = .ok (.getfield 251, 3) := by decide +kernel
theorem d_PR_count_65 : decode c_PR_count 65 = .ok (.ireturn, 1) := by decide +kernel
theorem d_PR_count_66 : decode c_PR_count 66 = .ok (.aload_n 0, 1) := by decide +kernel
theorem d_PR_count_67 : decode c_PR_count 67 = .ok (.getfield 44, 3) := by decide +kernel
theorem d_PR_count_70 : decode c_PR_count 70 = .ok (.getfield 260, 3) := by decide +kernel
theorem d_PR_count_73 : decode c_PR_count 73 = .ok (.ireturn, 1) := by decide +kernel
theorem d_PR_count_74 : decode c_PR_count 74 = .ok (.aload_n 0, 1) := by decide +kernel
theorem d_PR_count_75 : decode c_PR_count 75 = .ok (.getfield 37, 3) := by decide +kernel
theorem d_PR_count_78 : decode c_PR_count 78 = .ok (.getfield 263, 3) := by decide +kernel
theorem d_PR_count_81 : decode c_PR_count 81 = .ok (.ireturn, 1) := by decide +kernel
theorem d_PR_count_82 : decode c_PR_count 82 = .ok (.iconst (-1), 1) := by decide +kernel
theorem d_PR_count_83 : decode c_PR_count 83 = .ok (.ireturn, 1) := by decide +kernel
theorem d_PR_ask_0 : decode c_PR_ask 0 = .ok (.aload_n 0, 1) := by decide +kernel
theorem d_PR_ask_1 : decode c_PR_ask 1 = .ok (.iload_n 1, 1) := by decide +kernel
theorem d_PR_ask_2 : decode c_PR_ask 2 = .ok (.iload_n 2, 1) := by decide +kernel
theorem d_PR_ask_3 : decode c_PR_ask 3 = .ok (.iload_n 3, 1) := by decide +kernel
theorem d_PR_ask_4 : decode c_PR_ask 4 = .ok (.invokevirtual 266, 3) := by decide +kernel
theorem d_PR_ask_7 : decode c_PR_ask 7 = .ok (.aload_n 0, 1) := by decide +kernel
theorem d_PR_ask_8 : decode c_PR_ask 8 = .ok (.getfield 17, 3) := by decide +kernel
theorem d_PR_ask_11 : decode c_PR_ask 11 = .ok (.iload_n 1, 1) := by decide +kernel
theorem d_PR_ask_12 : decode c_PR_ask 12 = .ok (.aaload, 1) := by decide +kernel
theorem d_PR_ask_13 : decode c_PR_ask 13 = .ok (.getfield 106, 3) := by decide +kernel
theorem d_PR_ask_16 : decode c_PR_ask 16 = .ok (.istore 4, 2) := by decide +kernel
theorem d_PR_ask_18 : decode c_PR_ask 18 = .ok (.aload_n 0, 1) := by decide +kernel
theorem d_PR_ask_19 : decode c_PR_ask 19 = .ok (.iconst 0, 1) := by decide +kernel
theorem d_PR_ask_20 : decode c_PR_ask 20 = .ok (.putfield 233, 3) := by decide +kernel
theorem d_PR_ask_23 : decode c_PR_ask 23 = .ok (.iconst 0, 1) := by decide +kernel
theorem d_PR_ask_24 : decode c_PR_ask 24 = .ok (.istore 5, 2) := by decide +kernel
theorem d_PR_ask_26 : decode c_PR_ask 26 = .ok (.iload 5, 2) := by decide +kernel
theorem d_PR_ask_28 : decode c_PR_ask 28 = .ok (.aload_n 0, 1) := by decide +kernel
theorem d_PR_ask_29 : decode c_PR_ask 29 = .ok (.getfield 30, 3) := by decide +kernel
theorem d_PR_ask_32 : decode c_PR_ask 32 = .ok (.getfield 191, 3) := by decide +kernel
theorem d_PR_ask_35 : decode c_PR_ask 35 = .ok (.if_icmp .ge 89, 3) := by decide +kernel
theorem d_PR_ask_38 : decode c_PR_ask 38 = .ok (.aload_n 0, 1) := by decide +kernel
theorem d_PR_ask_39 : decode c_PR_ask 39 = .ok (.getfield 30, 3) := by decide +kernel
theorem d_PR_ask_42 : decode c_PR_ask 42 = .ok (.getfield 269, 3) := by decide +kernel
theorem d_PR_ask_45 : decode c_PR_ask 45 = .ok (.iload 5, 2) := by decide +kernel
theorem d_PR_ask_47 : decode c_PR_ask 47 = .ok (.iaload, 1) := by decide +kernel
theorem d_PR_ask_48 : decode c_PR_ask 48 = .ok (.istore 6, 2) := by decide +kernel
theorem d_PR_ask_50 : decode c_PR_ask 50 = .ok (.aload_n 0, 1) := by decide +kernel
theorem d_PR_ask_51 : decode c_PR_ask 51 = .ok (.getfield 30, 3) := by decide +kernel
theorem d_PR_ask_54 : decode c_PR_ask 54 = .ok (.getfield 272, 3) := by decide +kernel
theorem d_PR_ask_57 : decode c_PR_ask 57 = .ok (.iload 6, 2) := by decide +kernel
theorem d_PR_ask_59 : decode c_PR_ask 59 = .ok (.aaload, 1) := by decide +kernel
theorem d_PR_ask_60 : decode c_PR_ask 60 = .ok (.astore 7, 2) := by decide +kernel
theorem d_PR_ask_62 : decode c_PR_ask 62 = .ok (.aload_n 0, 1) := by decide +kernel
theorem d_PR_ask_63 : decode c_PR_ask 63 = .ok (.iload 6, 2) := by decide +kernel
theorem d_PR_ask_65 : decode c_PR_ask 65 = .ok (.iload_n 2, 1) := by decide +kernel
theorem d_PR_ask_66 : decode c_PR_ask 66 = .ok (.iload 4, 2) := by decide +kernel
theorem d_PR_ask_68 : decode c_PR_ask 68 = .ok (.iload_n 3, 1) := by decide +kernel
theorem d_PR_ask_69 : decode c_PR_ask 69 = .ok (.invokevirtual 275, 3) := by decide +kernel
theorem d_PR_ask_72 : decode c_PR_ask 72 = .ok (.ifCond .ne 46, 3) := by decide +kernel
theorem d_PR_ask_75 : decode c_PR_ask 75 = .ok (.aload 7, 2) := by decide +kernel
theorem d_PR_ask_77 : decode c_PR_ask 77 = .ok (.aload_n 0, 1) := by decide +kernel
theorem d_PR_ask_78 : decode c_PR_ask 78 = .ok (.getfield 51, 3) := by decide +kernel
theorem d_PR_ask_81 : decode c_PR_ask 81 = .ok (.aload_n 0, 1) := by decide +kernel
theorem d_PR_ask_82 : decode c_PR_ask 82 = .ok (.getfield 37, 3) := by decide +kernel
theorem d_PR_ask_85 : decode c_PR_ask 85 = .ok (.invokevirtual 279, 3) := by decide +kernel
theorem d_PR_ask_88 : decode c_PR_ask 88 = .ok (.ifCond .eq 30, 3) := by decide +kernel
theorem d_PR_ask_91 : decode c_PR_ask 91 = .ok (.aload 7, 2) := by decide +kernel
theorem d_PR_ask_93 : decode c_PR_ask 93 = .ok (.iconst 1, 1) := by decide +kernel
theorem d_PR_ask_94 : decode c_PR_ask 94 = .ok (.putfield 283, 3) := by decide +kernel
theorem d_PR_ask_97 : decode c_PR_ask 97 = .ok (.aload_n 0, 1) := by decide +kernel
theorem d_PR_ask_98 : decode c_PR_ask 98 = .ok (.getfield 55, 3) := by decide +kernel
theorem d_PR_ask_101 : decode c_PR_ask 101 = .ok (.aload_n 0, 1) := by decide +kernel
theorem d_PR_ask_102 : decode c_PR_ask 102 = .ok (.getfield 233, 3) := by decide +kernel
theorem d_PR_ask_105 : decode c_PR_ask 105 = .ok (.iload 6, 2) := by decide +kernel
theorem d_PR_ask_107 : decode c_PR_ask 107 = .ok (.iastore, 1) := by decide +kernel
theorem d_PR_ask_108 : decode c_PR_ask 108 = .ok (.aload_n 0, 1) := by decide +kernel
theorem d_PR_ask_109 : decode c_PR_ask 109 = .ok (.dup, 1) := by decide +kernel
theorem d_PR_ask_110 : decode c_PR_ask 110 = .ok (.getfield 233, 3) := by decide +kernel
theorem d_PR_ask_113 : decode c_PR_ask 113 = .ok (.iconst 1, 1) := by decide +kernel
theorem d_PR_ask_114 : decode c_PR_ask 114 = .ok (.iadd, 1) := by decide +kernel
theorem d_PR_ask_115 : decode c_PR_ask 115 = .ok (.putfield 233, 3) := by decide +kernel
theorem d_PR_ask_118 : decode c_PR_ask 118 = .ok (.iinc 5 1, 3) := by decide +kernel
theorem d_PR_ask_121 : decode c_PR_ask 121 = .ok (.goto (-95), 3) := by decide +kernel
theorem d_PR_ask_124 : decode c_PR_ask 124 = .ok (.aload_n 0, 1) := by decide +kernel
theorem d_PR_ask_125 : decode c_PR_ask 125 = .ok (.getfield 233, 3) := by decide +kernel
theorem d_PR_ask_128 : decode c_PR_ask 128 = .ok (.ifCond .ne 7, 3) := by decide +kernel
theorem d_PR_ask_131 : decode c_PR_ask 131 = .ok (.iconst 0, 1) := by decide +kernel
theorem d_PR_ask_132 : decode c_PR_ask 132 = .ok (.goto 11, 3) := by decide +kernel
theorem d_PR_ask_135 : decode c_PR_ask 135 = .ok (.aload_n 0, 1) := by decide +kernel
theorem d_PR_ask_136 : decode c_PR_ask 136 = .ok (.getfield 55, 3) := by decide +kernel
theorem d_PR_ask_139 : decode c_PR_ask 139 = .ok (.iconst 0, 1) := by decide +kernel
theorem d_PR_ask_140 : decode c_PR_ask 140 = .ok (.iaload, 1) := by decide +kernel
theorem d_PR_ask_141 : decode c_PR_ask 141 = .ok (.iconst 1, 1) := by decide +kernel
theorem d_PR_ask_142 : decode c_PR_ask 142 = .ok (.iadd, 1) := by decide +kernel
theorem d_PR_ask_143 : decode c_PR_ask 143 = .ok (.ireturn, 1) := by decide +kernel
theorem d_PR_gather_0 : decode c_PR_gather 0 = .ok (.aload_n 0, 1) := by decide +kernel
theorem d_PR_gather_1 : decode c_PR_gather 1 = .ok (.getfield 51, 3) := by decide +kernel
theorem d_PR_gather_4 : decode c_PR_gather 4 = .ok (.aload_n 0, 1) := by decide +kernel
theorem d_PR_gather_5 : decode c_PR_gather 5 = .ok (.getfield 17, 3) := by decide +kernel
theorem d_PR_gather_8 : decode c_PR_gather 8 = .ok (.iload_n 1, 1) := by decide +kernel
theorem d_PR_gather_9 : decode c_PR_gather 9 = .ok (.aaload, 1) := by decide +kernel
theorem d_PR_gather_10 : decode c_PR_gather 10 = .ok (.aload_n 0, 1) := by decide +kernel
theorem d_PR_gather_11 : decode c_PR_gather 11 = .ok (.getfield 11, 3) := by decide +kernel
theorem d_PR_gather_14 : decode c_PR_gather 14 = .ok (.iload_n 2, 1) := by decide +kernel
theorem d_PR_gather_15 : decode c_PR_gather 15 = .ok (.aaload, 1) := by decide +kernel
theorem d_PR_gather_16 : decode c_PR_gather 16 = .ok (.iload_n 3, 1) := by decide +kernel
theorem d_PR_gather_17 : decode c_PR_gather 17 = .ok (.invokevirtual 287, 3) := by decide +kernel
theorem d_PR_gather_20 : decode c_PR_gather 20 = .ok (.iconst 0, 1) := by decide +kernel
theorem d_PR_gather_21 : decode c_PR_gather 21 = .ok (.istore 4, 2) := by decide +kernel
theorem d_PR_gather_23 : decode c_PR_gather 23 = .ok (.iload 4, 2) := by decide +kernel
theorem d_PR_gather_25 : decode c_PR_gather 25 = .ok (.aload_n 0, 1) := by decide +kernel
theorem d_PR_gather_26 : decode c_PR_gather 26 = .ok (.getfield 90, 3) := by decide +kernel
theorem d_PR_gather_29 : decode c_PR_gather 29 = .ok (.if_icmp .ge 43, 3) := by decide +kernel
theorem d_PR_gather_32 : decode c_PR_gather 32 = .ok (.iload 4, 2) := by decide +kernel
theorem d_PR_gather_34 : decode c_PR_gather 34 = .ok (.iload_n 1, 1) := by decide +kernel
theorem d_PR_gather_35 : decode c_PR_gather 35 = .ok (.if_icmp .eq 31, 3) := by decide +kernel
theorem d_PR_gather_38 : decode c_PR_gather 38 = .ok (.aload_n 0, 1) := by decide +kernel
theorem d_PR_gather_39 : decode c_PR_gather 39 = .ok (.getfield 17, 3) := by decide +kernel
theorem d_PR_gather_42 : decode c_PR_gather 42 = .ok (.iload 4, 2) := by decide +kernel
theorem d_PR_gather_44 : decode c_PR_gather 44 = .ok (.aaload, 1) := by decide +kernel
theorem d_PR_gather_45 : decode c_PR_gather 45 = .ok (.getfield 236, 3) := by decide +kernel
theorem d_PR_gather_48 : decode c_PR_gather 48 = .ok (.iload_n 2, 1) := by decide +kernel
theorem d_PR_gather_49 : decode c_PR_gather 49 = .ok (.if_icmp .ne 17, 3) := by decide +kernel
theorem d_PR_gather_52 : decode c_PR_gather 52 = .ok (.aload_n 0, 1) := by decide +kernel
theorem d_PR_gather_53 : decode c_PR_gather 53 = .ok (.getfield 51, 3) := by decide +kernel
theorem d_PR_gather_56 : decode c_PR_gather 56 = .ok (.aload_n 0, 1) := by decide +kernel
theorem d_PR_gather_57 : decode c_PR_gather 57 = .ok (.getfield 17, 3) := by decide +kernel
theorem d_PR_gather_60 : decode c_PR_gather 60 = .ok (.iload 4, 2) := by decide +kernel
theorem d_PR_gather_62 : decode c_PR_gather 62 = .ok (.aaload, 1) := by decide +kernel
theorem d_PR_gather_63 : decode c_PR_gather 63 = .ok (.invokevirtual 291, 3) := by decide +kernel
theorem d_PR_gather_66 : decode c_PR_gather 66 = .ok (.iinc 4 1, 3) := by decide +kernel
theorem d_PR_gather_69 : decode c_PR_gather 69 = .ok (.goto (-46), 3) := by decide +kernel
theorem d_PR_gather_72 : decode c_PR_gather 72 = .ok (.return_, 1) := by decide +kernel
theorem d_PR_isWaived_0 : decode c_PR_isWaived 0 = .ok (.iconst 0, 1) := by decide +kernel
theorem d_PR_isWaived_1 : decode c_PR_isWaived 1 = .ok (.istore 5, 2) := by decide +kernel
theorem d_PR_isWaived_3 : decode c_PR_isWaived 3 = .ok (.iload 5, 2) := by decide +kernel
theorem d_PR_isWaived_5 : decode c_PR_isWaived 5 = .ok (.aload_n 0, 1) := by decide +kernel
theorem d_PR_isWaived_6 : decode c_PR_isWaived 6 = .ok (.getfield 212, 3) := by decide +kernel
theorem d_PR_isWaived_9 : decode c_PR_isWaived 9 = .ok (.if_icmp .ge 29, 3) := by decide +kernel
theorem d_PR_isWaived_12 : decode c_PR_isWaived 12 = .ok (.aload_n 0, 1) := by decide +kernel
theorem d_PR_isWaived_13 : decode c_PR_isWaived 13 = .ok (.getfield 23, 3) := by decide +kernel
theorem d_PR_isWaived_16 : decode c_PR_isWaived 16 = .ok (.iload 5, 2) := by decide +kernel
theorem d_PR_isWaived_18 : decode c_PR_isWaived 18 = .ok (.aaload, 1) := by decide +kernel
theorem d_PR_isWaived_19 : decode c_PR_isWaived 19 = .ok (.iload_n 1, 1) := by decide +kernel
theorem d_PR_isWaived_20 : decode c_PR_isWaived 20 = .ok (.iload_n 2, 1) := by decide +kernel
theorem d_PR_isWaived_21 : decode c_PR_isWaived 21 = .ok (.iload_n 3, 1) := by decide +kernel
theorem d_PR_isWaived_22 : decode c_PR_isWaived 22 = .ok (.iload 4, 2) := by decide +kernel
theorem d_PR_isWaived_24 : decode c_PR_isWaived 24 = .ok (.invokevirtual 295, 3) := by decide +kernel
theorem d_PR_isWaived_27 : decode c_PR_isWaived 27 = .ok (.ifCond .eq 5, 3) := by decide +kernel
theorem d_PR_isWaived_30 : decode c_PR_isWaived 30 = .ok (.iconst 1, 1) := by decide +kernel
theorem d_PR_isWaived_31 : decode c_PR_isWaived 31 = .ok (.ireturn, 1) := by decide +kernel
theorem d_PR_isWaived_32 : decode c_PR_isWaived 32 = .ok (.iinc 5 1, 3) := by decide +kernel
theorem d_PR_isWaived_35 : decode c_PR_isWaived 35 = .ok (.goto (-32), 3) := by decide +kernel
theorem d_PR_isWaived_38 : decode c_PR_isWaived 38 = .ok (.iconst 0, 1) := by decide +kernel
theorem d_PR_isWaived_39 : decode c_PR_isWaived 39 = .ok (.ireturn, 1) := by decide +kernel
theorem d_PR_findWaiver_0 : decode c_PR_findWaiver 0 = .ok (.iconst 0, 1) := by decide +kernel
theorem d_PR_findWaiver_1 : decode c_PR_findWaiver 1 = .ok (.istore 4, 2) := by decide +kernel
theorem d_PR_findWaiver_3 : decode c_PR_findWaiver 3 = .ok (.iload 4, 2) := by decide +kernel
theorem d_PR_findWaiver_5 : decode c_PR_findWaiver 5 = .ok (.aload_n 0, 1) := by decide +kernel
theorem d_PR_findWaiver_6 : decode c_PR_findWaiver 6 = .ok (.getfield 212, 3) := by decide +kernel
theorem d_PR_findWaiver_9 : decode c_PR_findWaiver 9 = .ok (.if_icmp .ge 48, 3) := by decide +kernel
theorem d_PR_findWaiver_12 : decode c_PR_findWaiver 12 = .ok (.aload_n 0, 1) := by decide +kernel
theorem d_PR_findWaiver_13 : decode c_PR_findWaiver 13 = .ok (.getfield 23, 3) := by decide +kernel
theorem d_PR_findWaiver_16 : decode c_PR_findWaiver 16 = .ok (.iload 4, 2) := by decide +kernel
theorem d_PR_findWaiver_18 : decode c_PR_findWaiver 18 = .ok (.aaload, 1) := by decide +kernel
theorem d_PR_findWaiver_19 : decode c_PR_findWaiver 19 = .ok (.astore 5, 2) := by decide +kernel
theorem d_PR_findWaiver_21 : decode c_PR_findWaiver 21 = .ok (.aload 5, 2) := by decide +kernel
theorem d_PR_findWaiver_23 : decode c_PR_findWaiver 23 = .ok (.getfield 217, 3) := by decide +kernel
theorem d_PR_findWaiver_26 : decode c_PR_findWaiver 26 = .ok (.iload_n 1, 1) := by decide +kernel
theorem d_PR_findWaiver_27 : decode c_PR_findWaiver 27 = .ok (.if_icmp .ne 24, 3) := by decide +kernel
theorem d_PR_findWaiver_30 : decode c_PR_findWaiver 30 = .ok (.aload 5, 2) := by decide +kernel
theorem d_PR_findWaiver_32 : decode c_PR_findWaiver 32 = .ok (.getfield 220, 3) := by decide +kernel
theorem d_PR_findWaiver_35 : decode c_PR_findWaiver 35 = .ok (.iload_n 2, 1) := by decide +kernel
theorem d_PR_findWaiver_36 : decode c_PR_findWaiver 36 = .ok (.if_icmp .ne 15, 3) := by decide +kernel
theorem d_PR_findWaiver_39 : decode c_PR_findWaiver 39 = .ok (.aload 5, 2) := by decide +kernel
theorem d_PR_findWaiver_41 : decode c_PR_findWaiver 41 = .ok (.getfield 223, 3) := by decide +kernel
theorem d_PR_findWaiver_44 : decode c_PR_findWaiver 44 = .ok (.iload_n 3, 1) := by decide +kernel
theorem d_PR_findWaiver_45 : decode c_PR_findWaiver 45 = .ok (.if_icmp .ne 6, 3) := by decide +kernel
theorem d_PR_findWaiver_48 : decode c_PR_findWaiver 48 = .ok (.iload 4, 2) := by decide +kernel
theorem d_PR_findWaiver_50 : decode c_PR_findWaiver 50 = .ok (.ireturn, 1) := by decide +kernel
theorem d_PR_findWaiver_51 : decode c_PR_findWaiver 51 = .ok (.iinc 4 1, 3) := by decide +kernel
theorem d_PR_findWaiver_54 : decode c_PR_findWaiver 54 = .ok (.goto (-51), 3) := by decide +kernel
theorem d_PR_findWaiver_57 : decode c_PR_findWaiver 57 = .ok (.iconst (-1), 1) := by decide +kernel
theorem d_PR_findWaiver_58 : decode c_PR_findWaiver 58 = .ok (.ireturn, 1) := by decide +kernel
theorem d_PR_needQuestion_0 : decode c_PR_needQuestion 0 = .ok (.aload_n 0, 1) := by decide +kernel
theorem d_PR_needQuestion_1 : decode c_PR_needQuestion 1 = .ok (.iload_n 1, 1) := by decide +kernel
theorem d_PR_needQuestion_2 : decode c_PR_needQuestion 2 = .ok (.invokevirtual 109, 3) := by decide +kernel
theorem d_PR_needQuestion_5 : decode c_PR_needQuestion 5 = .ok (.iload_n 2, 1) := by decide +kernel
theorem d_PR_needQuestion_6 : decode c_PR_needQuestion 6 = .ok (.invokestatic 62, 3) := by decide +kernel
theorem d_PR_needQuestion_9 : decode c_PR_needQuestion 9 = .ok (.iload_n 3, 1) := by decide +kernel
theorem d_PR_needQuestion_10 : decode c_PR_needQuestion 10 = .ok (.iconst 0, 1) := by decide +kernel
theorem d_PR_needQuestion_11 : decode c_PR_needQuestion 11 = .ok (.sipush 1000, 3) := by decide +kernel
theorem d_PR_needQuestion_14 : decode c_PR_needQuestion 14 = .ok (.invokestatic 81, 3) := by decide +kernel
theorem d_PR_needQuestion_17 : decode c_PR_needQuestion 17 = .ok (.return_, 1) := by decide +kernel
theorem d_PR_needUnit_0 : decode c_PR_needUnit 0 = .ok (.iload_n 1, 1) := by decide +kernel
theorem d_PR_needUnit_1 : decode c_PR_needUnit 1 = .ok (.ifCond .lt 11, 3) := by decide +kernel
theorem d_PR_needUnit_4 : decode c_PR_needUnit 4 = .ok (.iload_n 1, 1) := by decide +kernel
theorem d_PR_needUnit_5 : decode c_PR_needUnit 5 = .ok (.aload_n 0, 1) := by decide +kernel
theorem d_PR_needUnit_6 : decode c_PR_needUnit 6 = .ok (.getfield 90, 3) := by decide +kernel
theorem d_PR_needUnit_9 : decode c_PR_needUnit 9 = .ok (.if_icmp .lt 14, 3) := by decide +kernel
theorem d_PR_needUnit_12 : decode c_PR_needUnit 12 = .ok (.new 194, 3) := by decide +kernel
theorem d_PR_needUnit_15 : decode c_PR_needUnit 15 = .ok (.dup, 1) := by decide +kernel
theorem d_PR_needUnit_16 : decode c_PR_needUnit 16 = .ok (.ldc_w 298, 3) := by decide +kernel
theorem d_PR_needUnit_19 : decode c_PR_needUnit 19 = .ok (.invokespecial 198, 3) := by decide +kernel
theorem d_PR_needUnit_22 : decode c_PR_needUnit 22 = .ok (.athrow, 1) := by decide +kernel
theorem d_PR_needUnit_23 : decode c_PR_needUnit 23 = .ok (.return_, 1) := by decide +kernel
theorem d_PR_needNowhere_0 : decode c_PR_needNowhere 0 = .ok (.aload_n 0, 1) := by decide +kernel
theorem d_PR_needNowhere_1 : decode c_PR_needNowhere 1 = .ok (.getfield 17, 3) := by decide +kernel
theorem d_PR_needNowhere_4 : decode c_PR_needNowhere 4 = .ok (.iload_n 1, 1) := by decide +kernel
theorem d_PR_needNowhere_5 : decode c_PR_needNowhere 5 = .ok (.aaload, 1) := by decide +kernel
theorem d_PR_needNowhere_6 : decode c_PR_needNowhere 6 = .ok (.getfield 236, 3) := by decide +kernel
theorem d_PR_needNowhere_9 : decode c_PR_needNowhere 9 = .ok (.iconst (-1), 1) := by decide +kernel
theorem d_PR_needNowhere_10 : decode c_PR_needNowhere 10 = .ok (.if_icmp .eq 14, 3) := by decide +kernel
theorem d_PR_needNowhere_13 : decode c_PR_needNowhere 13 = .ok (.new 237, 3) := by decide +kernel
theorem d_PR_needNowhere_16 : decode c_PR_needNowhere 16 = .ok (.dup, 1) := by decide +kernel
theorem d_PR_needNowhere_17 : decode c_PR_needNowhere 17 = .ok (.ldc_w 300, 3) := by decide +kernel
theorem d_PR_needNowhere_20 : decode c_PR_needNowhere 20 = .ok (.invokespecial 241, 3) := by decide +kernel
theorem d_PR_needNowhere_23 : decode c_PR_needNowhere 23 = .ok (.athrow, 1) := by decide +kernel
theorem d_PR_needNowhere_24 : decode c_PR_needNowhere 24 = .ok (.return_, 1) := by decide +kernel
theorem d_PR_needPlace_0 : decode c_PR_needPlace 0 = .ok (.iload_n 0, 1) := by decide +kernel
theorem d_PR_needPlace_1 : decode c_PR_needPlace 1 = .ok (.iconst 0, 1) := by decide +kernel
theorem d_PR_needPlace_2 : decode c_PR_needPlace 2 = .ok (.bipush 11, 2) := by decide +kernel
theorem d_PR_needPlace_4 : decode c_PR_needPlace 4 = .ok (.invokestatic 81, 3) := by decide +kernel
theorem d_PR_needPlace_7 : decode c_PR_needPlace 7 = .ok (.return_, 1) := by decide +kernel
theorem d_PR_needLengths_0 : decode c_PR_needLengths 0 = .ok (.iload_n 0, 1) := by decide +kernel
theorem d_PR_needLengths_1 : decode c_PR_needLengths 1 = .ok (.iconst 1, 1) := by decide +kernel
theorem d_PR_needLengths_2 : decode c_PR_needLengths 2 = .ok (.sipush 9999, 3) := by decide +kernel
theorem d_PR_needLengths_5 : decode c_PR_needLengths 5 = .ok (.invokestatic 81, 3) := by decide +kernel
theorem d_PR_needLengths_8 : decode c_PR_needLengths 8 = .ok (.iload_n 1, 1) := by decide +kernel
theorem d_PR_needLengths_9 : decode c_PR_needLengths 9 = .ok (.iconst 1, 1) := by decide +kernel
theorem d_PR_needLengths_10 : decode c_PR_needLengths 10 = .ok (.sipush 9999, 3) := by decide +kernel
theorem d_PR_needLengths_13 : decode c_PR_needLengths 13 = .ok (.invokestatic 81, 3) := by decide +kernel
theorem d_PR_needLengths_16 : decode c_PR_needLengths 16 = .ok (.iload_n 2, 1) := by decide +kernel
theorem d_PR_needLengths_17 : decode c_PR_needLengths 17 = .ok (.iconst 1, 1) := by decide +kernel
theorem d_PR_needLengths_18 : decode c_PR_needLengths 18 = .ok (.sipush 9999, 3) := by decide +kernel
theorem d_PR_needLengths_21 : decode c_PR_needLengths 21 = .ok (.invokestatic 81, 3) := by decide +kernel
theorem d_PR_needLengths_24 : decode c_PR_needLengths 24 = .ok (.return_, 1) := by decide +kernel
theorem d_PR_needIndex_0 : decode c_PR_needIndex 0 = .ok (.iload_n 0, 1) := by decide +kernel
theorem d_PR_needIndex_1 : decode c_PR_needIndex 1 = .ok (.ifCond .ge 14, 3) := by decide +kernel
theorem d_PR_needIndex_4 : decode c_PR_needIndex 4 = .ok (.new 302, 3) := by decide +kernel
theorem d_PR_needIndex_7 : decode c_PR_needIndex 7 = .ok (.dup, 1) := by decide +kernel
theorem d_PR_needIndex_8 : decode c_PR_needIndex 8 = .ok (.ldc_w 304, 3) := by decide +kernel
theorem d_PR_needIndex_11 : decode c_PR_needIndex 11 = .ok (.invokespecial 306, 3) := by decide +kernel
theorem d_PR_needIndex_14 : decode c_PR_needIndex 14 = .ok (.athrow, 1) := by decide +kernel
theorem d_PR_needIndex_15 : decode c_PR_needIndex 15 = .ok (.return_, 1) := by decide +kernel
theorem d_PR_needWithin_0 : decode c_PR_needWithin 0 = .ok (.iload_n 0, 1) := by decide +kernel
theorem d_PR_needWithin_1 : decode c_PR_needWithin 1 = .ok (.iload_n 1, 1) := by decide +kernel
theorem d_PR_needWithin_2 : decode c_PR_needWithin 2 = .ok (.if_icmp .lt 8, 3) := by decide +kernel
theorem d_PR_needWithin_5 : decode c_PR_needWithin 5 = .ok (.iload_n 0, 1) := by decide +kernel
theorem d_PR_needWithin_6 : decode c_PR_needWithin 6 = .ok (.iload_n 2, 1) := by decide +kernel
theorem d_PR_needWithin_7 : decode c_PR_needWithin 7 = .ok (.if_icmp .le 14, 3) := by decide +kernel
theorem d_PR_needWithin_10 : decode c_PR_needWithin 10 = .ok (.new 302, 3) := by decide +kernel
theorem d_PR_needWithin_13 : decode c_PR_needWithin 13 = .ok (.dup, 1) := by decide +kernel
theorem d_PR_needWithin_14 : decode c_PR_needWithin 14 = .ok (.ldc_w 307, 3) := by decide +kernel
theorem d_PR_needWithin_17 : decode c_PR_needWithin 17 = .ok (.invokespecial 306, 3) := by decide +kernel
theorem d_PR_needWithin_20 : decode c_PR_needWithin 20 = .ok (.athrow, 1) := by decide +kernel
theorem d_PR_needWithin_21 : decode c_PR_needWithin 21 = .ok (.return_, 1) := by decide +kernel
theorem d_KD_hasSecond_0 : decode c_KD_hasSecond 0 = .ok (.aload_n 0, 1) := by decide +kernel
theorem d_KD_hasSecond_1 : decode c_KD_hasSecond 1 = .ok (.getfield 60, 3) := by decide +kernel
theorem d_KD_hasSecond_4 : decode c_KD_hasSecond 4 = .ok (.iconst 2, 1) := by decide +kernel
theorem d_KD_hasSecond_5 : decode c_KD_hasSecond 5 = .ok (.if_icmp .ne 7, 3) := by decide +kernel
theorem d_KD_hasSecond_8 : decode c_KD_hasSecond 8 = .ok (.iconst 1, 1) := by decide +kernel
theorem d_KD_hasSecond_9 : decode c_KD_hasSecond 9 = .ok (.goto 4, 3) := by decide +kernel
theorem d_KD_hasSecond_12 : decode c_KD_hasSecond 12 = .ok (.iconst 0, 1) := by decide +kernel
theorem d_KD_hasSecond_13 : decode c_KD_hasSecond 13 = .ok (.ireturn, 1) := by decide +kernel
theorem d_KD_leastSecond_0 : decode c_KD_leastSecond 0 = .ok (.aload_n 0, 1) := by decide +kernel
theorem d_KD_leastSecond_1 : decode c_KD_leastSecond 1 = .ok (.invokevirtual 70, 3) := by decide +kernel
theorem d_KD_leastSecond_4 : decode c_KD_leastSecond 4 = .ok (.ifCond .eq 10, 3) := by decide +kernel
theorem d_KD_leastSecond_7 : decode c_KD_leastSecond 7 = .ok (.aload_n 0, 1) := by decide +kernel
theorem d_KD_leastSecond_8 : decode c_KD_leastSecond 8 = .ok (.getfield 64, 3) := by decide +kernel
theorem d_KD_leastSecond_11 : decode c_KD_leastSecond 11 = .ok (.goto 4, 3) := by decide +kernel
theorem d_KD_leastSecond_14 : decode c_KD_leastSecond 14 = .ok (.iconst 0, 1) := by decide +kernel
theorem d_KD_leastSecond_15 : decode c_KD_leastSecond 15 = .ok (.ireturn, 1) := by decide +kernel
theorem d_KD_mostSecond_0 : decode c_KD_mostSecond 0 = .ok (.aload_n 0, 1) := by decide +kernel
theorem d_KD_mostSecond_1 : decode c_KD_mostSecond 1 = .ok (.invokevirtual 70, 3) := by decide +kernel
theorem d_KD_mostSecond_4 : decode c_KD_mostSecond 4 = .ok (.ifCond .eq 10, 3) := by decide +kernel
theorem d_KD_mostSecond_7 : decode c_KD_mostSecond 7 = .ok (.aload_n 0, 1) := by decide +kernel
theorem d_KD_mostSecond_8 : decode c_KD_mostSecond 8 = .ok (.getfield 67, 3) := by decide +kernel
theorem d_KD_mostSecond_11 : decode c_KD_mostSecond 11 = .ok (.goto 4, 3) := by decide +kernel
theorem d_KD_mostSecond_14 : decode c_KD_mostSecond 14 = .ok (.iconst 0, 1) := by decide +kernel
theorem d_KD_mostSecond_15 : decode c_KD_mostSecond 15 = .ok (.ireturn, 1) := by decide +kernel
theorem d_NS_init_0 : decode c_NS_init 0 = .ok (.aload_n 0, 1) := by decide +kernel
theorem d_NS_init_1 : decode c_NS_init 1 = .ok (.invokespecial 1, 3) := by decide +kernel
theorem d_NS_init_4 : decode c_NS_init 4 = .ok (.return_, 1) := by decide +kernel
theorem d_NS_clear_0 : decode c_NS_clear 0 = .ok (.aload_n 0, 1) := by decide +kernel
theorem d_NS_clear_1 : decode c_NS_clear 1 = .ok (.lconst 0, 1) := by decide +kernel
theorem d_NS_clear_2 : decode c_NS_clear 2 = .ok (.putfield 7, 3) := by decide +kernel
theorem d_NS_clear_5 : decode c_NS_clear 5 = .ok (.aload_n 0, 1) := by decide +kernel
theorem d_NS_clear_6 : decode c_NS_clear 6 = .ok (.lconst 0, 1) := by decide +kernel
theorem d_NS_clear_7 : decode c_NS_clear 7 = .ok (.putfield 13, 3) := by decide +kernel
theorem d_NS_clear_10 : decode c_NS_clear 10 = .ok (.return_, 1) := by decide +kernel
theorem d_NS_holdOnly_0 : decode c_NS_holdOnly 0 = .ok (.aload_n 0, 1) := by decide +kernel
theorem d_NS_holdOnly_1 : decode c_NS_holdOnly 1 = .ok (.invokevirtual 16, 3) := by decide +kernel
theorem d_NS_holdOnly_4 : decode c_NS_holdOnly 4 = .ok (.aload_n 0, 1) := by decide +kernel
theorem d_NS_holdOnly_5 : decode c_NS_holdOnly 5 = .ok (.iload_n 1, 1) := by decide +kernel
theorem d_NS_holdOnly_6 : decode c_NS_holdOnly 6 = .ok (.invokevirtual 19, 3) := by decide +kernel
theorem d_NS_holdOnly_9 : decode c_NS_holdOnly 9 = .ok (.return_, 1) := by decide +kernel
theorem d_NS_add_0 : decode c_NS_add 0 = .ok (.iload_n 1, 1) := by decide +kernel
theorem d_NS_add_1 : decode c_NS_add 1 = .ok (.bipush 64, 2) := by decide +kernel
theorem d_NS_add_3 : decode c_NS_add 3 = .ok (.if_icmp .ge 18, 3) := by decide +kernel
theorem d_NS_add_6 : decode c_NS_add 6 = .ok (.aload_n 0, 1) := by decide +kernel
theorem d_NS_add_7 : decode c_NS_add 7 = .ok (.dup, 1) := by decide +kernel
theorem d_NS_add_8 : decode c_NS_add 8 = .ok (.getfield 7, 3) := by decide +kernel
theorem d_NS_add_11 : decode c_NS_add 11 = .ok (.lconst 1, 1) := by decide +kernel
theorem d_NS_add_12 : decode c_NS_add 12 = .ok (.iload_n 1, 1) := by decide +kernel
theorem d_NS_add_13 : decode c_NS_add 13 = .ok (.lshl, 1) := by decide +kernel
theorem d_NS_add_14 : decode c_NS_add 14 = .ok (.lor, 1) := by decide +kernel
theorem d_NS_add_15 : decode c_NS_add 15 = .ok (.putfield 7, 3) := by decide +kernel
theorem d_NS_add_18 : decode c_NS_add 18 = .ok (.goto 18, 3) := by decide +kernel
theorem d_NS_add_21 : decode c_NS_add 21 = .ok (.aload_n 0, 1) := by decide +kernel
theorem d_NS_add_22 : decode c_NS_add 22 = .ok (.dup, 1) := by decide +kernel
theorem d_NS_add_23 : decode c_NS_add 23 = .ok (.getfield 13, 3) := by decide +kernel
theorem d_NS_add_26 : decode c_NS_add 26 = .ok (.lconst 1, 1) := by decide +kernel
theorem d_NS_add_27 : decode c_NS_add 27 = .ok (.iload_n 1, 1) := by decide +kernel
theorem d_NS_add_28 : decode c_NS_add 28 = .ok (.bipush 64, 2) := by decide +kernel
theorem d_NS_add_30 : decode c_NS_add 30 = .ok (.isub, 1) := by decide +kernel
theorem d_NS_add_31 : decode c_NS_add 31 = .ok (.lshl, 1) := by decide +kernel
theorem d_NS_add_32 : decode c_NS_add 32 = .ok (.lor, 1) := by decide +kernel
theorem d_NS_add_33 : decode c_NS_add 33 = .ok (.putfield 13, 3) := by decide +kernel
theorem d_NS_add_36 : decode c_NS_add 36 = .ok (.return_, 1) := by decide +kernel
theorem d_NS_has_0 : decode c_NS_has 0 = .ok (.iload_n 1, 1) := by decide +kernel
theorem d_NS_has_1 : decode c_NS_has 1 = .ok (.bipush 64, 2) := by decide +kernel
theorem d_NS_has_3 : decode c_NS_has 3 = .ok (.if_icmp .ge 12, 3) := by decide +kernel
theorem d_NS_has_6 : decode c_NS_has 6 = .ok (.aload_n 0, 1) := by decide +kernel
theorem d_NS_has_7 : decode c_NS_has 7 = .ok (.getfield 7, 3) := by decide +kernel
theorem d_NS_has_10 : decode c_NS_has 10 = .ok (.iload_n 1, 1) := by decide +kernel
theorem d_NS_has_11 : decode c_NS_has 11 = .ok (.lushr, 1) := by decide +kernel
theorem d_NS_has_12 : decode c_NS_has 12 = .ok (.goto 12, 3) := by decide +kernel
theorem d_NS_has_15 : decode c_NS_has 15 = .ok (.aload_n 0, 1) := by decide +kernel
theorem d_NS_has_16 : decode c_NS_has 16 = .ok (.getfield 13, 3) := by decide +kernel
theorem d_NS_has_19 : decode c_NS_has 19 = .ok (.iload_n 1, 1) := by decide +kernel
theorem d_NS_has_20 : decode c_NS_has 20 = .ok (.bipush 64, 2) := by decide +kernel
theorem d_NS_has_22 : decode c_NS_has 22 = .ok (.isub, 1) := by decide +kernel
theorem d_NS_has_23 : decode c_NS_has 23 = .ok (.lushr, 1) := by decide +kernel
theorem d_NS_has_24 : decode c_NS_has 24 = .ok (.lstore_n 2, 1) := by decide +kernel
theorem d_NS_has_25 : decode c_NS_has 25 = .ok (.lload_n 2, 1) := by decide +kernel
theorem d_NS_has_26 : decode c_NS_has 26 = .ok (.lconst 1, 1) := by decide +kernel
theorem d_NS_has_27 : decode c_NS_has 27 = .ok (.land, 1) := by decide +kernel
theorem d_NS_has_28 : decode c_NS_has 28 = .ok (.lconst 0, 1) := by decide +kernel
theorem d_NS_has_29 : decode c_NS_has 29 = .ok (.lcmp, 1) := by decide +kernel
theorem d_NS_has_30 : decode c_NS_has 30 = .ok (.ifCond .eq 7, 3) := by decide +kernel
theorem d_NS_has_33 : decode c_NS_has 33 = .ok (.iconst 1, 1) := by decide +kernel
theorem d_NS_has_34 : decode c_NS_has 34 = .ok (.goto 4, 3) := by decide +kernel
theorem d_NS_has_37 : decode c_NS_has 37 = .ok (.iconst 0, 1) := by decide +kernel
theorem d_NS_has_38 : decode c_NS_has 38 = .ok (.ireturn, 1) := by decide +kernel
theorem d_NS_howMany_0 : decode c_NS_howMany 0 = .ok (.aload_n 0, 1) := by decide +kernel
theorem d_NS_howMany_1 : decode c_NS_howMany 1 = .ok (.getfield 7, 3) := by decide +kernel
theorem d_NS_howMany_4 : decode c_NS_howMany 4 = .ok (.invokestatic 23, 3) := by decide +kernel
theorem d_NS_howMany_7 : decode c_NS_howMany 7 = .ok (.aload_n 0, 1) := by decide +kernel
theorem d_NS_howMany_8 : decode c_NS_howMany 8 = .ok (.getfield 13, 3) := by decide +kernel
theorem d_NS_howMany_11 : decode c_NS_howMany 11 = .ok (.invokestatic 23, 3) := by decide +kernel
theorem d_NS_howMany_14 : decode c_NS_howMany 14 = .ok (.iadd, 1) := by decide +kernel
theorem d_NS_howMany_15 : decode c_NS_howMany 15 = .ok (.ireturn, 1) := by decide +kernel
theorem d_OW_init_0 : decode c_OW_init 0 = .ok (.aload_n 0, 1) := by decide +kernel
theorem d_OW_init_1 : decode c_OW_init 1 = .ok (.invokespecial 3, 3) := by decide +kernel
theorem d_OW_init_4 : decode c_OW_init 4 = .ok (.aload_n 0, 1) := by decide +kernel
theorem d_OW_init_5 : decode c_OW_init 5 = .ok (.iconst 4, 1) := by decide +kernel
theorem d_OW_init_6 : decode c_OW_init 6 = .ok (.newarray .int, 2) := by decide +kernel
theorem d_OW_init_8 : decode c_OW_init 8 = .ok (.putfield 9, 3) := by decide +kernel
theorem d_OW_init_11 : decode c_OW_init 11 = .ok (.return_, 1) := by decide +kernel
theorem d_OW_refuse_0 : decode c_OW_refuse 0 = .ok (.iload_n 1, 1) := by decide +kernel
theorem d_OW_refuse_1 : decode c_OW_refuse 1 = .ok (.ifCond .lt 8, 3) := by decide +kernel
theorem d_OW_refuse_4 : decode c_OW_refuse 4 = .ok (.iload_n 1, 1) := by decide +kernel
theorem d_OW_refuse_5 : decode c_OW_refuse 5 = .ok (.iconst 4, 1) := by decide +kernel
theorem d_OW_refuse_6 : decode c_OW_refuse 6 = .ok (.if_icmp .lt 5, 3) := by decide +kernel
theorem d_OW_refuse_9 : decode c_OW_refuse 9 = .ok (.iconst 0, 1) := by decide +kernel
theorem d_OW_refuse_10 : decode c_OW_refuse 10 = .ok (.ireturn, 1) := by decide +kernel
theorem d_OW_refuse_11 : decode c_OW_refuse 11 = .ok (.aload_n 0, 1) := by decide +kernel
theorem d_OW_refuse_12 : decode c_OW_refuse 12 = .ok (.getfield 9, 3) := by decide +kernel
theorem d_OW_refuse_15 : decode c_OW_refuse 15 = .ok (.iload_n 1, 1) := by decide +kernel
theorem d_OW_refuse_16 : decode c_OW_refuse 16 = .ok (.iaload, 1) := by decide +kernel
theorem d_OW_refuse_17 : decode c_OW_refuse 17 = .ok (.tableswitch 58 1 3 #[27, 29, 46], 27) := by decide +kernel
theorem d_OW_refuse_44 : decode c_OW_refuse 44 = .ok (.iconst 1, 1) := by decide +kernel
theorem d_OW_refuse_45 : decode c_OW_refuse 45 = .ok (.ireturn, 1) := by decide +kernel
theorem d_OW_refuse_46 : decode c_OW_refuse 46 = .ok (.aload_n 2, 1) := by decide +kernel
theorem d_OW_refuse_47 : decode c_OW_refuse 47 = .ok (.getfield 15, 3) := by decide +kernel
theorem d_OW_refuse_50 : decode c_OW_refuse 50 = .ok (.aload_n 2, 1) := by decide +kernel
theorem d_OW_refuse_51 : decode c_OW_refuse 51 = .ok (.getfield 21, 3) := by decide +kernel
theorem d_OW_refuse_54 : decode c_OW_refuse 54 = .ok (.if_icmp .le 7, 3) := by decide +kernel
theorem d_OW_refuse_57 : decode c_OW_refuse 57 = .ok (.iconst 1, 1) := by decide +kernel
theorem d_OW_refuse_58 : decode c_OW_refuse 58 = .ok (.goto 4, 3) := by decide +kernel
theorem d_OW_refuse_61 : decode c_OW_refuse 61 = .ok (.iconst 0, 1) := by decide +kernel
theorem d_OW_refuse_62 : decode c_OW_refuse 62 = .ok (.ireturn, 1) := by decide +kernel
theorem d_OW_refuse_63 : decode c_OW_refuse 63 = .ok (.aload_n 0, 1) := by decide +kernel
theorem d_OW_refuse_64 : decode c_OW_refuse 64 = .ok (.dup, 1) := by decide +kernel
theorem d_OW_refuse_65 : decode c_OW_refuse 65 = .ok (.getfield 24, 3) := by decide +kernel
theorem d_OW_refuse_68 : decode c_OW_refuse 68 = .ok (.iconst 1, 1) := by decide +kernel
theorem d_OW_refuse_69 : decode c_OW_refuse 69 = .ok (.iadd, 1) := by decide +kernel
theorem d_OW_refuse_70 : decode c_OW_refuse 70 = .ok (.putfield 24, 3) := by decide +kernel
theorem d_OW_refuse_73 : decode c_OW_refuse 73 = .ok (.iconst 1, 1) := by decide +kernel
theorem d_OW_refuse_74 : decode c_OW_refuse 74 = .ok (.ireturn, 1) := by decide +kernel
theorem d_OW_refuse_75 : decode c_OW_refuse 75 = .ok (.iconst 0, 1) := by decide +kernel
theorem d_OW_refuse_76 : decode c_OW_refuse 76 = .ok (.ireturn, 1) := by decide +kernel
theorem d_PL_init_0 : decode c_PL_init 0 = .ok (.aload_n 0, 1) := by decide +kernel
theorem d_PL_init_1 : decode c_PL_init 1 = .ok (.invokespecial 3, 3) := by decide +kernel
theorem d_PL_init_4 : decode c_PL_init 4 = .ok (.aload_n 0, 1) := by decide +kernel
theorem d_PL_init_5 : decode c_PL_init 5 = .ok (.sipush 1000, 3) := by decide +kernel
theorem d_PL_init_8 : decode c_PL_init 8 = .ok (.putfield 9, 3) := by decide +kernel
theorem d_PL_init_11 : decode c_PL_init 11 = .ok (.aload_n 0, 1) := by decide +kernel
theorem d_PL_init_12 : decode c_PL_init 12 = .ok (.sipush 1000, 3) := by decide +kernel
theorem d_PL_init_15 : decode c_PL_init 15 = .ok (.putfield 15, 3) := by decide +kernel
theorem d_PL_init_18 : decode c_PL_init 18 = .ok (.aload_n 0, 1) := by decide +kernel
theorem d_PL_init_19 : decode c_PL_init 19 = .ok (.sipush 1000, 3) := by decide +kernel
theorem d_PL_init_22 : decode c_PL_init 22 = .ok (.putfield 18, 3) := by decide +kernel
theorem d_PL_init_25 : decode c_PL_init 25 = .ok (.aload_n 0, 1) := by decide +kernel
theorem d_PL_init_26 : decode c_PL_init 26 = .ok (.ldc 21, 2) := by decide +kernel
theorem d_PL_init_28 : decode c_PL_init 28 = .ok (.putfield 22, 3) := by decide +kernel
theorem d_PL_init_31 : decode c_PL_init 31 = .ok (.return_, 1) := by decide +kernel
theorem d_PL_firstWayFor_0 : decode c_PL_firstWayFor 0 = .ok (.iconst 0, 1) := by decide +kernel
theorem d_PL_firstWayFor_1 : decode c_PL_firstWayFor 1 = .ok (.istore_n 2, 1) := by decide +kernel
theorem d_PL_firstWayFor_2 : decode c_PL_firstWayFor 2 = .ok (.iload_n 2, 1) := by decide +kernel
theorem d_PL_firstWayFor_3 : decode c_PL_firstWayFor 3 = .ok (.bipush 6, 2) := by decide +kernel
theorem d_PL_firstWayFor_5 : decode c_PL_firstWayFor 5 = .ok (.if_icmp .ge 20, 3) := by decide +kernel
theorem d_PL_firstWayFor_8 : decode c_PL_firstWayFor 8 = .ok (.aload_n 0, 1) := by decide +kernel
theorem d_PL_firstWayFor_9 : decode c_PL_firstWayFor 9 = .ok (.aload_n 1, 1) := by decide +kernel
theorem d_PL_firstWayFor_10 : decode c_PL_firstWayFor 10 = .ok (.iload_n 2, 1) := by decide +kernel
theorem d_PL_firstWayFor_11 : decode c_PL_firstWayFor 11 = .ok (.invokevirtual 25, 3) := by decide +kernel
theorem d_PL_firstWayFor_14 : decode c_PL_firstWayFor 14 = .ok (.ifCond .eq 5, 3) := by decide +kernel
theorem d_PL_firstWayFor_17 : decode c_PL_firstWayFor 17 = .ok (.iload_n 2, 1) := by decide +kernel
theorem d_PL_firstWayFor_18 : decode c_PL_firstWayFor 18 = .ok (.ireturn, 1) := by decide +kernel
theorem d_PL_firstWayFor_19 : decode c_PL_firstWayFor 19 = .ok (.iinc 2 1, 3) := by decide +kernel
theorem d_PL_firstWayFor_22 : decode c_PL_firstWayFor 22 = .ok (.goto (-20), 3) := by decide +kernel
theorem d_PL_firstWayFor_25 : decode c_PL_firstWayFor 25 = .ok (.iconst (-1), 1) := by decide +kernel
theorem d_PL_firstWayFor_26 : decode c_PL_firstWayFor 26 = .ok (.ireturn, 1) := by decide +kernel
theorem d_PL_fits_0 : decode c_PL_fits 0 = .ok (.iload_n 2, 1) := by decide +kernel
theorem d_PL_fits_1 : decode c_PL_fits 1 = .ok (.tableswitch 141 0 5 #[39, 56, 73, 90, 107, 124], 39) := by decide +kernel
theorem d_PL_fits_40 : decode c_PL_fits 40 = .ok (.aload_n 0, 1) := by decide +kernel
theorem d_PL_fits_41 : decode c_PL_fits 41 = .ok (.aload_n 1, 1) := by decide +kernel
theorem d_PL_fits_42 : decode c_PL_fits 42 = .ok (.getfield 29, 3) := by decide +kernel
theorem d_PL_fits_45 : decode c_PL_fits 45 = .ok (.aload_n 1, 1) := by decide +kernel
theorem d_PL_fits_46 : decode c_PL_fits 46 = .ok (.getfield 32, 3) := by decide +kernel
theorem d_PL_fits_49 : decode c_PL_fits 49 = .ok (.aload_n 1, 1) := by decide +kernel
theorem d_PL_fits_50 : decode c_PL_fits 50 = .ok (.getfield 33, 3) := by decide +kernel
theorem d_PL_fits_53 : decode c_PL_fits 53 = .ok (.invokevirtual 34, 3) := by decide +kernel
theorem d_PL_fits_56 : decode c_PL_fits 56 = .ok (.ireturn, 1) := by decide +kernel
theorem d_PL_fits_57 : decode c_PL_fits 57 = .ok (.aload_n 0, 1) := by decide +kernel
theorem d_PL_fits_58 : decode c_PL_fits 58 = .ok (.aload_n 1, 1) := by decide +kernel
theorem d_PL_fits_59 : decode c_PL_fits 59 = .ok (.getfield 29, 3) := by decide +kernel
theorem d_PL_fits_62 : decode c_PL_fits 62 = .ok (.aload_n 1, 1) := by decide +kernel
theorem d_PL_fits_63 : decode c_PL_fits 63 = .ok (.getfield 33, 3) := by decide +kernel
theorem d_PL_fits_66 : decode c_PL_fits 66 = .ok (.aload_n 1, 1) := by decide +kernel
theorem d_PL_fits_67 : decode c_PL_fits 67 = .ok (.getfield 32, 3) := by decide +kernel
theorem d_PL_fits_70 : decode c_PL_fits 70 = .ok (.invokevirtual 34, 3) := by decide +kernel
theorem d_PL_fits_73 : decode c_PL_fits 73 = .ok (.ireturn, 1) := by decide +kernel
theorem d_PL_fits_74 : decode c_PL_fits 74 = .ok (.aload_n 0, 1) := by decide +kernel
theorem d_PL_fits_75 : decode c_PL_fits 75 = .ok (.aload_n 1, 1) := by decide +kernel
theorem d_PL_fits_76 : decode c_PL_fits 76 = .ok (.getfield 32, 3) := by decide +kernel
theorem d_PL_fits_79 : decode c_PL_fits 79 = .ok (.aload_n 1, 1) := by decide +kernel
theorem d_PL_fits_80 : decode c_PL_fits 80 = .ok (.getfield 29, 3) := by decide +kernel
theorem d_PL_fits_83 : decode c_PL_fits 83 = .ok (.aload_n 1, 1) := by decide +kernel
theorem d_PL_fits_84 : decode c_PL_fits 84 = .ok (.getfield 33, 3) := by decide +kernel
theorem d_PL_fits_87 : decode c_PL_fits 87 = .ok (.invokevirtual 34, 3) := by decide +kernel
theorem d_PL_fits_90 : decode c_PL_fits 90 = .ok (.ireturn, 1) := by decide +kernel
theorem d_PL_fits_91 : decode c_PL_fits 91 = .ok (.aload_n 0, 1) := by decide +kernel
theorem d_PL_fits_92 : decode c_PL_fits 92 = .ok (.aload_n 1, 1) := by decide +kernel
theorem d_PL_fits_93 : decode c_PL_fits 93 = .ok (.getfield 32, 3) := by decide +kernel
theorem d_PL_fits_96 : decode c_PL_fits 96 = .ok (.aload_n 1, 1) := by decide +kernel
theorem d_PL_fits_97 : decode c_PL_fits 97 = .ok (.getfield 33, 3) := by decide +kernel
theorem d_PL_fits_100 : decode c_PL_fits 100 = .ok (.aload_n 1, 1) := by decide +kernel
theorem d_PL_fits_101 : decode c_PL_fits 101 = .ok (.getfield 29, 3) := by decide +kernel
theorem d_PL_fits_104 : decode c_PL_fits 104 = .ok (.invokevirtual 34, 3) := by decide +kernel
theorem d_PL_fits_107 : decode c_PL_fits 107 = .ok (.ireturn, 1) := by decide +kernel
theorem d_PL_fits_108 : decode c_PL_fits 108 = .ok (.aload_n 0, 1) := by decide +kernel
theorem d_PL_fits_109 : decode c_PL_fits 109 = .ok (.aload_n 1, 1) := by decide +kernel
theorem d_PL_fits_110 : decode c_PL_fits 110 = .ok (.getfield 33, 3) := by decide +kernel
theorem d_PL_fits_113 : decode c_PL_fits 113 = .ok (.aload_n 1, 1) := by decide +kernel
theorem d_PL_fits_114 : decode c_PL_fits 114 = .ok (.getfield 29, 3) := by decide +kernel
theorem d_PL_fits_117 : decode c_PL_fits 117 = .ok (.aload_n 1, 1) := by decide +kernel
theorem d_PL_fits_118 : decode c_PL_fits 118 = .ok (.getfield 32, 3) := by decide +kernel
theorem d_PL_fits_121 : decode c_PL_fits 121 = .ok (.invokevirtual 34, 3) := by decide +kernel
theorem d_PL_fits_124 : decode c_PL_fits 124 = .ok (.ireturn, 1) := by decide +kernel
theorem d_PL_fits_125 : decode c_PL_fits 125 = .ok (.aload_n 0, 1) := by decide +kernel
theorem d_PL_fits_126 : decode c_PL_fits 126 = .ok (.aload_n 1, 1) := by decide +kernel
theorem d_PL_fits_127 : decode c_PL_fits 127 = .ok (.getfield 33, 3) := by decide +kernel
theorem d_PL_fits_130 : decode c_PL_fits 130 = .ok (.aload_n 1, 1) := by decide +kernel
theorem d_PL_fits_131 : decode c_PL_fits 131 = .ok (.getfield 32, 3) := by decide +kernel
theorem d_PL_fits_134 : decode c_PL_fits 134 = .ok (.aload_n 1, 1) := by decide +kernel
theorem d_PL_fits_135 : decode c_PL_fits 135 = .ok (.getfield 29, 3) := by decide +kernel
theorem d_PL_fits_138 : decode c_PL_fits 138 = .ok (.invokevirtual 34, 3) := by decide +kernel
theorem d_PL_fits_141 : decode c_PL_fits 141 = .ok (.ireturn, 1) := by decide +kernel
theorem d_PL_fits_142 : decode c_PL_fits 142 = .ok (.iconst 0, 1) := by decide +kernel
theorem d_PL_fits_143 : decode c_PL_fits 143 = .ok (.ireturn, 1) := by decide +kernel
theorem d_PL_holds_0 : decode c_PL_holds 0 = .ok (.iload_n 1, 1) := by decide +kernel
theorem d_PL_holds_1 : decode c_PL_holds 1 = .ok (.aload_n 0, 1) := by decide +kernel
theorem d_PL_holds_2 : decode c_PL_holds 2 = .ok (.getfield 9, 3) := by decide +kernel
theorem d_PL_holds_5 : decode c_PL_holds 5 = .ok (.if_icmp .gt 23, 3) := by decide +kernel
theorem d_PL_holds_8 : decode c_PL_holds 8 = .ok (.iload_n 2, 1) := by decide +kernel
theorem d_PL_holds_9 : decode c_PL_holds 9 = .ok (.aload_n 0, 1) := by decide +kernel
theorem d_PL_holds_10 : decode c_PL_holds 10 = .ok (.getfield 15, 3) := by decide +kernel
theorem d_PL_holds_13 : decode c_PL_holds 13 = .ok (.if_icmp .gt 15, 3) := by decide +kernel
theorem d_PL_holds_16 : decode c_PL_holds 16 = .ok (.iload_n 3, 1) := by decide +kernel
theorem d_PL_holds_17 : decode c_PL_holds 17 = .ok (.aload_n 0, 1) := by decide +kernel
theorem d_PL_holds_18 : decode c_PL_holds 18 = .ok (.getfield 18, 3) := by decide +kernel
theorem d_PL_holds_21 : decode c_PL_holds 21 = .ok (.if_icmp .gt 7, 3) := by decide +kernel
theorem d_PL_holds_24 : decode c_PL_holds 24 = .ok (.iconst 1, 1) := by decide +kernel
theorem d_PL_holds_25 : decode c_PL_holds 25 = .ok (.goto 4, 3) := by decide +kernel
theorem d_PL_holds_28 : decode c_PL_holds 28 = .ok (.iconst 0, 1) := by decide +kernel
theorem d_PL_holds_29 : decode c_PL_holds 29 = .ok (.ireturn, 1) := by decide +kernel
theorem d_QU_init_0 : decode c_QU_init 0 = .ok (.aload_n 0, 1) := by decide +kernel
theorem d_QU_init_1 : decode c_QU_init 1 = .ok (.invokespecial 3, 3) := by decide +kernel
theorem d_QU_init_4 : decode c_QU_init 4 = .ok (.aload_n 0, 1) := by decide +kernel
theorem d_QU_init_5 : decode c_QU_init 5 = .ok (.new 9, 3) := by decide +kernel
theorem d_QU_init_8 : decode c_QU_init 8 = .ok (.dup, 1) := by decide +kernel
theorem d_QU_init_9 : decode c_QU_init 9 = .ok (.invokespecial 11, 3) := by decide +kernel
theorem d_QU_init_12 : decode c_QU_init 12 = .ok (.putfield 12, 3) := by decide +kernel
theorem d_QU_init_15 : decode c_QU_init 15 = .ok (.aload_n 0, 1) := by decide +kernel
theorem d_QU_init_16 : decode c_QU_init 16 = .ok (.new 9, 3) := by decide +kernel
theorem d_QU_init_19 : decode c_QU_init 19 = .ok (.dup, 1) := by decide +kernel
theorem d_QU_init_20 : decode c_QU_init 20 = .ok (.invokespecial 11, 3) := by decide +kernel
theorem d_QU_init_23 : decode c_QU_init 23 = .ok (.putfield 18, 3) := by decide +kernel
theorem d_QU_init_26 : decode c_QU_init 26 = .ok (.aload_n 0, 1) := by decide +kernel
theorem d_QU_init_27 : decode c_QU_init 27 = .ok (.new 9, 3) := by decide +kernel
theorem d_QU_init_30 : decode c_QU_init 30 = .ok (.dup, 1) := by decide +kernel
theorem d_QU_init_31 : decode c_QU_init 31 = .ok (.invokespecial 11, 3) := by decide +kernel
theorem d_QU_init_34 : decode c_QU_init 34 = .ok (.putfield 21, 3) := by decide +kernel
theorem d_QU_init_37 : decode c_QU_init 37 = .ok (.aload_n 0, 1) := by decide +kernel
theorem d_QU_init_38 : decode c_QU_init 38 = .ok (.new 9, 3) := by decide +kernel
theorem d_QU_init_41 : decode c_QU_init 41 = .ok (.dup, 1) := by decide +kernel
theorem d_QU_init_42 : decode c_QU_init 42 = .ok (.invokespecial 11, 3) := by decide +kernel
theorem d_QU_init_45 : decode c_QU_init 45 = .ok (.putfield 24, 3) := by decide +kernel
theorem d_QU_init_48 : decode c_QU_init 48 = .ok (.return_, 1) := by decide +kernel
theorem d_QU_begin_0 : decode c_QU_begin 0 = .ok (.aload_n 0, 1) := by decide +kernel
theorem d_QU_begin_1 : decode c_QU_begin 1 = .ok (.iload_n 3, 1) := by decide +kernel
theorem d_QU_begin_2 : decode c_QU_begin 2 = .ok (.putfield 27, 3) := by decide +kernel
theorem d_QU_begin_5 : decode c_QU_begin 5 = .ok (.aload_n 0, 1) := by decide +kernel
theorem d_QU_begin_6 : decode c_QU_begin 6 = .ok (.aload_n 2, 1) := by decide +kernel
theorem d_QU_begin_7 : decode c_QU_begin 7 = .ok (.aload_n 1, 1) := by decide +kernel
theorem d_QU_begin_8 : decode c_QU_begin 8 = .ok (.iconst 0, 1) := by decide +kernel
theorem d_QU_begin_9 : decode c_QU_begin 9 = .ok (.invokevirtual 31, 3) := by decide +kernel
theorem d_QU_begin_12 : decode c_QU_begin 12 = .ok (.ifCond .ne 12, 3) := by decide +kernel
theorem d_QU_begin_15 : decode c_QU_begin 15 = .ok (.aload_n 2, 1) := by decide +kernel
theorem d_QU_begin_16 : decode c_QU_begin 16 = .ok (.aload_n 1, 1) := by decide +kernel
theorem d_QU_begin_17 : decode c_QU_begin 17 = .ok (.iconst 2, 1) := by decide +kernel
theorem d_QU_begin_18 : decode c_QU_begin 18 = .ok (.invokevirtual 31, 3) := by decide +kernel
theorem d_QU_begin_21 : decode c_QU_begin 21 = .ok (.ifCond .eq 7, 3) := by decide +kernel
theorem d_QU_begin_24 : decode c_QU_begin 24 = .ok (.iconst 1, 1) := by decide +kernel
theorem d_QU_begin_25 : decode c_QU_begin 25 = .ok (.goto 4, 3) := by decide +kernel
theorem d_QU_begin_28 : decode c_QU_begin 28 = .ok (.iconst 0, 1) := by decide +kernel
theorem d_QU_begin_29 : decode c_QU_begin 29 = .ok (.putfield 37, 3) := by decide +kernel
theorem d_QU_begin_32 : decode c_QU_begin 32 = .ok (.aload_n 0, 1) := by decide +kernel
theorem d_QU_begin_33 : decode c_QU_begin 33 = .ok (.aload_n 2, 1) := by decide +kernel
theorem d_QU_begin_34 : decode c_QU_begin 34 = .ok (.aload_n 1, 1) := by decide +kernel
theorem d_QU_begin_35 : decode c_QU_begin 35 = .ok (.invokevirtual 41, 3) := by decide +kernel
theorem d_QU_begin_38 : decode c_QU_begin 38 = .ok (.iconst (-1), 1) := by decide +kernel
theorem d_QU_begin_39 : decode c_QU_begin 39 = .ok (.if_icmp .eq 7, 3) := by decide +kernel
theorem d_QU_begin_42 : decode c_QU_begin 42 = .ok (.iconst 1, 1) := by decide +kernel
theorem d_QU_begin_43 : decode c_QU_begin 43 = .ok (.goto 4, 3) := by decide +kernel
theorem d_QU_begin_46 : decode c_QU_begin 46 = .ok (.iconst 0, 1) := by decide +kernel
theorem d_QU_begin_47 : decode c_QU_begin 47 = .ok (.putfield 45, 3) := by decide +kernel
theorem d_QU_begin_50 : decode c_QU_begin 50 = .ok (.aload_n 0, 1) := by decide +kernel
theorem d_QU_begin_51 : decode c_QU_begin 51 = .ok (.aload_n 2, 1) := by decide +kernel
theorem d_QU_begin_52 : decode c_QU_begin 52 = .ok (.getfield 48, 3) := by decide +kernel
theorem d_QU_begin_55 : decode c_QU_begin 55 = .ok (.putfield 51, 3) := by decide +kernel
theorem d_QU_begin_58 : decode c_QU_begin 58 = .ok (.aload_n 0, 1) := by decide +kernel
theorem d_QU_begin_59 : decode c_QU_begin 59 = .ok (.aload_n 2, 1) := by decide +kernel
theorem d_QU_begin_60 : decode c_QU_begin 60 = .ok (.getfield 52, 3) := by decide +kernel
theorem d_QU_begin_63 : decode c_QU_begin 63 = .ok (.putfield 55, 3) := by decide +kernel
theorem d_QU_begin_66 : decode c_QU_begin 66 = .ok (.aload_n 0, 1) := by decide +kernel
theorem d_QU_begin_67 : decode c_QU_begin 67 = .ok (.aload_n 1, 1) := by decide +kernel
theorem d_QU_begin_68 : decode c_QU_begin 68 = .ok (.getfield 56, 3) := by decide +kernel
theorem d_QU_begin_71 : decode c_QU_begin 71 = .ok (.putfield 61, 3) := by decide +kernel
theorem d_QU_begin_74 : decode c_QU_begin 74 = .ok (.aload_n 0, 1) := by decide +kernel
theorem d_QU_begin_75 : decode c_QU_begin 75 = .ok (.aload_n 1, 1) := by decide +kernel
theorem d_QU_begin_76 : decode c_QU_begin 76 = .ok (.getfield 62, 3) := by decide +kernel
theorem d_QU_begin_79 : decode c_QU_begin 79 = .ok (.putfield 65, 3) := by decide +kernel
theorem d_QU_begin_82 : decode c_QU_begin 82 = .ok (.aload_n 0, 1) := by decide +kernel
theorem d_QU_begin_83 : decode c_QU_begin 83 = .ok (.aload_n 1, 1) := by decide +kernel
theorem d_QU_begin_84 : decode c_QU_begin 84 = .ok (.getfield 66, 3) := by decide +kernel
theorem d_QU_begin_87 : decode c_QU_begin 87 = .ok (.putfield 69, 3) := by decide +kernel
theorem d_QU_begin_90 : decode c_QU_begin 90 = .ok (.aload_n 0, 1) := by decide +kernel
theorem d_QU_begin_91 : decode c_QU_begin 91 = .ok (.aload_n 1, 1) := by decide +kernel
theorem d_QU_begin_92 : decode c_QU_begin 92 = .ok (.getfield 70, 3) := by decide +kernel
theorem d_QU_begin_95 : decode c_QU_begin 95 = .ok (.putfield 73, 3) := by decide +kernel
theorem d_QU_begin_98 : decode c_QU_begin 98 = .ok (.aload_n 0, 1) := by decide +kernel
theorem d_QU_begin_99 : decode c_QU_begin 99 = .ok (.aload_n 1, 1) := by decide +kernel
theorem d_QU_begin_100 : decode c_QU_begin 100 = .ok (.getfield 74, 3) := by decide +kernel
theorem d_QU_begin_103 : decode c_QU_begin 103 = .ok (.putfield 77, 3) := by decide +kernel
theorem d_QU_begin_106 : decode c_QU_begin 106 = .ok (.aload_n 0, 1) := by decide +kernel
theorem d_QU_begin_107 : decode c_QU_begin 107 = .ok (.iconst 1, 1) := by decide +kernel
theorem d_QU_begin_108 : decode c_QU_begin 108 = .ok (.putfield 78, 3) := by decide +kernel
theorem d_QU_begin_111 : decode c_QU_begin 111 = .ok (.aload_n 0, 1) := by decide +kernel
theorem d_QU_begin_112 : decode c_QU_begin 112 = .ok (.iconst 0, 1) := by decide +kernel
theorem d_QU_begin_113 : decode c_QU_begin 113 = .ok (.putfield 81, 3) := by decide +kernel
theorem d_QU_begin_116 : decode c_QU_begin 116 = .ok (.aload_n 0, 1) := by decide +kernel
theorem d_QU_begin_117 : decode c_QU_begin 117 = .ok (.aload_n 1, 1) := by decide +kernel
theorem d_QU_begin_118 : decode c_QU_begin 118 = .ok (.getfield 74, 3) := by decide +kernel
theorem d_QU_begin_121 : decode c_QU_begin 121 = .ok (.putfield 84, 3) := by decide +kernel
theorem d_QU_begin_124 : decode c_QU_begin 124 = .ok (.aload_n 0, 1) := by decide +kernel
theorem d_QU_begin_125 : decode c_QU_begin 125 = .ok (.aload_n 1, 1) := by decide +kernel
theorem d_QU_begin_126 : decode c_QU_begin 126 = .ok (.getfield 74, 3) := by decide +kernel
theorem d_QU_begin_129 : decode c_QU_begin 129 = .ok (.putfield 87, 3) := by decide +kernel
theorem d_QU_begin_132 : decode c_QU_begin 132 = .ok (.aload_n 0, 1) := by decide +kernel
theorem d_QU_begin_133 : decode c_QU_begin 133 = .ok (.getfield 12, 3) := by decide +kernel
theorem d_QU_begin_136 : decode c_QU_begin 136 = .ok (.aload_n 1, 1) := by decide +kernel
theorem d_QU_begin_137 : decode c_QU_begin 137 = .ok (.getfield 56, 3) := by decide +kernel
theorem d_QU_begin_140 : decode c_QU_begin 140 = .ok (.invokevirtual 90, 3) := by decide +kernel
theorem d_QU_begin_143 : decode c_QU_begin 143 = .ok (.aload_n 0, 1) := by decide +kernel
theorem d_QU_begin_144 : decode c_QU_begin 144 = .ok (.getfield 18, 3) := by decide +kernel
theorem d_QU_begin_147 : decode c_QU_begin 147 = .ok (.aload_n 1, 1) := by decide +kernel
theorem d_QU_begin_148 : decode c_QU_begin 148 = .ok (.getfield 94, 3) := by decide +kernel
theorem d_QU_begin_151 : decode c_QU_begin 151 = .ok (.invokevirtual 90, 3) := by decide +kernel
theorem d_QU_begin_154 : decode c_QU_begin 154 = .ok (.aload_n 0, 1) := by decide +kernel
theorem d_QU_begin_155 : decode c_QU_begin 155 = .ok (.getfield 21, 3) := by decide +kernel
theorem d_QU_begin_158 : decode c_QU_begin 158 = .ok (.aload_n 1, 1) := by decide +kernel
theorem d_QU_begin_159 : decode c_QU_begin 159 = .ok (.getfield 97, 3) := by decide +kernel
theorem d_QU_begin_162 : decode c_QU_begin 162 = .ok (.invokevirtual 90, 3) := by decide +kernel
theorem d_QU_begin_165 : decode c_QU_begin 165 = .ok (.aload_n 0, 1) := by decide +kernel
theorem d_QU_begin_166 : decode c_QU_begin 166 = .ok (.getfield 24, 3) := by decide +kernel
theorem d_QU_begin_169 : decode c_QU_begin 169 = .ok (.invokevirtual 100, 3) := by decide +kernel
theorem d_QU_begin_172 : decode c_QU_begin 172 = .ok (.return_, 1) := by decide +kernel
theorem d_QU_addOther_0 : decode c_QU_addOther 0 = .ok (.aload_n 0, 1) := by decide +kernel
theorem d_QU_addOther_1 : decode c_QU_addOther 1 = .ok (.dup, 1) := by decide +kernel
theorem d_QU_addOther_2 : decode c_QU_addOther 2 = .ok (.getfield 78, 3) := by decide +kernel
theorem d_QU_addOther_5 : decode c_QU_addOther 5 = .ok (.iconst 1, 1) := by decide +kernel
theorem d_QU_addOther_6 : decode c_QU_addOther 6 = .ok (.iadd, 1) := by decide +kernel
theorem d_QU_addOther_7 : decode c_QU_addOther 7 = .ok (.putfield 78, 3) := by decide +kernel
theorem d_QU_addOther_10 : decode c_QU_addOther 10 = .ok (.aload_n 0, 1) := by decide +kernel
theorem d_QU_addOther_11 : decode c_QU_addOther 11 = .ok (.dup, 1) := by decide +kernel
theorem d_QU_addOther_12 : decode c_QU_addOther 12 = .ok (.getfield 81, 3) := by decide +kernel
theorem d_QU_addOther_15 : decode c_QU_addOther 15 = .ok (.aload_n 1, 1) := by decide +kernel
theorem d_QU_addOther_16 : decode c_QU_addOther 16 = .ok (.getfield 62, 3) := by decide +kernel
theorem d_QU_addOther_19 : decode c_QU_addOther 19 = .ok (.iadd, 1) := by decide +kernel
theorem d_QU_addOther_20 : decode c_QU_addOther 20 = .ok (.putfield 81, 3) := by decide +kernel
theorem d_QU_addOther_23 : decode c_QU_addOther 23 = .ok (.aload_n 0, 1) := by decide +kernel
theorem d_QU_addOther_24 : decode c_QU_addOther 24 = .ok (.aload_n 0, 1) := by decide +kernel
theorem d_QU_addOther_25 : decode c_QU_addOther 25 = .ok (.getfield 84, 3) := by decide +kernel
theorem d_QU_addOther_28 : decode c_QU_addOther 28 = .ok (.aload_n 1, 1) := by decide +kernel
theorem d_QU_addOther_29 : decode c_QU_addOther 29 = .ok (.getfield 74, 3) := by decide +kernel
theorem d_QU_addOther_32 : decode c_QU_addOther 32 = .ok (.invokestatic 103, 3) := by decide +kernel
theorem d_QU_addOther_35 : decode c_QU_addOther 35 = .ok (.putfield 84, 3) := by decide +kernel
theorem d_QU_addOther_38 : decode c_QU_addOther 38 = .ok (.aload_n 0, 1) := by decide +kernel
theorem d_QU_addOther_39 : decode c_QU_addOther 39 = .ok (.aload_n 0, 1) := by decide +kernel
theorem d_QU_addOther_40 : decode c_QU_addOther 40 = .ok (.getfield 87, 3) := by decide +kernel
theorem d_QU_addOther_43 : decode c_QU_addOther 43 = .ok (.aload_n 1, 1) := by decide +kernel
theorem d_QU_addOther_44 : decode c_QU_addOther 44 = .ok (.getfield 74, 3) := by decide +kernel
theorem d_QU_addOther_47 : decode c_QU_addOther 47 = .ok (.invokestatic 109, 3) := by decide +kernel
theorem d_QU_addOther_50 : decode c_QU_addOther 50 = .ok (.putfield 87, 3) := by decide +kernel
theorem d_QU_addOther_53 : decode c_QU_addOther 53 = .ok (.aload_n 0, 1) := by decide +kernel
theorem d_QU_addOther_54 : decode c_QU_addOther 54 = .ok (.getfield 12, 3) := by decide +kernel
theorem d_QU_addOther_57 : decode c_QU_addOther 57 = .ok (.aload_n 1, 1) := by decide +kernel
theorem d_QU_addOther_58 : decode c_QU_addOther 58 = .ok (.getfield 56, 3) := by decide +kernel
theorem d_QU_addOther_61 : decode c_QU_addOther 61 = .ok (.invokevirtual 112, 3) := by decide +kernel
theorem d_QU_addOther_64 : decode c_QU_addOther 64 = .ok (.aload_n 1, 1) := by decide +kernel
theorem d_QU_addOther_65 : decode c_QU_addOther 65 = .ok (.getfield 56, 3) := by decide +kernel
theorem d_QU_addOther_68 : decode c_QU_addOther 68 = .ok (.aload_n 0, 1) := by decide +kernel
theorem d_QU_addOther_69 : decode c_QU_addOther 69 = .ok (.getfield 61, 3) := by decide +kernel
theorem d_QU_addOther_72 : decode c_QU_addOther 72 = .ok (.if_icmp .ne 14, 3) := by decide +kernel
theorem d_QU_addOther_75 : decode c_QU_addOther 75 = .ok (.aload_n 0, 1) := by decide +kernel
theorem d_QU_addOther_76 : decode c_QU_addOther 76 = .ok (.getfield 18, 3) := by decide +kernel
theorem d_QU_addOther_79 : decode c_QU_addOther 79 = .ok (.aload_n 1, 1) := by decide +kernel
theorem d_QU_addOther_80 : decode c_QU_addOther 80 = .ok (.getfield 94, 3) := by decide +kernel
theorem d_QU_addOther_83 : decode c_QU_addOther 83 = .ok (.invokevirtual 112, 3) := by decide +kernel
theorem d_QU_addOther_86 : decode c_QU_addOther 86 = .ok (.aload_n 0, 1) := by decide +kernel
theorem d_QU_addOther_87 : decode c_QU_addOther 87 = .ok (.getfield 21, 3) := by decide +kernel
theorem d_QU_addOther_90 : decode c_QU_addOther 90 = .ok (.aload_n 1, 1) := by decide +kernel
theorem d_QU_addOther_91 : decode c_QU_addOther 91 = .ok (.getfield 97, 3) := by decide +kernel
theorem d_QU_addOther_94 : decode c_QU_addOther 94 = .ok (.invokevirtual 112, 3) := by decide +kernel
theorem d_QU_addOther_97 : decode c_QU_addOther 97 = .ok (.aload_n 0, 1) := by decide +kernel
theorem d_QU_addOther_98 : decode c_QU_addOther 98 = .ok (.getfield 24, 3) := by decide +kernel
theorem d_QU_addOther_101 : decode c_QU_addOther 101 = .ok (.aload_n 1, 1) := by decide +kernel
theorem d_QU_addOther_102 : decode c_QU_addOther 102 = .ok (.getfield 66, 3) := by decide +kernel
theorem d_QU_addOther_105 : decode c_QU_addOther 105 = .ok (.invokevirtual 112, 3) := by decide +kernel
theorem d_QU_addOther_108 : decode c_QU_addOther 108 = .ok (.return_, 1) := by decide +kernel
theorem d_QU_meetsHazards_0 : decode c_QU_meetsHazards 0 = .ok (.aload_n 0, 1) := by decide +kernel
theorem d_QU_meetsHazards_1 : decode c_QU_meetsHazards 1 = .ok (.getfield 69, 3) := by decide +kernel
theorem d_QU_meetsHazards_4 : decode c_QU_meetsHazards 4 = .ok (.iload_n 1, 1) := by decide +kernel
theorem d_QU_meetsHazards_5 : decode c_QU_meetsHazards 5 = .ok (.if_icmp .ne 18, 3) := by decide +kernel
theorem d_QU_meetsHazards_8 : decode c_QU_meetsHazards 8 = .ok (.aload_n 0, 1) := by decide +kernel
theorem d_QU_meetsHazards_9 : decode c_QU_meetsHazards 9 = .ok (.getfield 24, 3) := by decide +kernel
theorem d_QU_meetsHazards_12 : decode c_QU_meetsHazards 12 = .ok (.iload_n 2, 1) := by decide +kernel
theorem d_QU_meetsHazards_13 : decode c_QU_meetsHazards 13 = .ok (.invokevirtual 115, 3) := by decide +kernel
theorem d_QU_meetsHazards_16 : decode c_QU_meetsHazards 16 = .ok (.ifCond .eq 7, 3) := by decide +kernel
theorem d_QU_meetsHazards_19 : decode c_QU_meetsHazards 19 = .ok (.iconst 1, 1) := by decide +kernel
theorem d_QU_meetsHazards_20 : decode c_QU_meetsHazards 20 = .ok (.goto 4, 3) := by decide +kernel
theorem d_QU_meetsHazards_23 : decode c_QU_meetsHazards 23 = .ok (.iconst 0, 1) := by decide +kernel
theorem d_QU_meetsHazards_24 : decode c_QU_meetsHazards 24 = .ok (.ireturn, 1) := by decide +kernel
theorem d_RU_init_0 : decode c_RU_init 0 = .ok (.aload_n 0, 1) := by decide +kernel
theorem d_RU_init_1 : decode c_RU_init 1 = .ok (.invokespecial 1, 3) := by decide +kernel
theorem d_RU_init_4 : decode c_RU_init 4 = .ok (.aload_n 0, 1) := by decide +kernel
theorem d_RU_init_5 : decode c_RU_init 5 = .ok (.getstatic 7, 3) := by decide +kernel
theorem d_RU_init_8 : decode c_RU_init 8 = .ok (.putfield 13, 3) := by decide +kernel
theorem d_RU_init_11 : decode c_RU_init 11 = .ok (.return_, 1) := by decide +kernel
theorem d_RU_refuses_0 : decode c_RU_refuses 0 = .ok (.getstatic 18, 3) := by decide +kernel
theorem d_RU_refuses_3 : decode c_RU_refuses 3 = .ok (.aload_n 0, 1) := by decide +kernel
theorem d_RU_refuses_4 : decode c_RU_refuses 4 = .ok (.getfield 13, 3) := by decide +kernel
theorem d_RU_refuses_7 : decode c_RU_refuses 7 = .ok (.invokevirtual 24, 3) := by decide +kernel
theorem d_RU_refuses_10 : decode c_RU_refuses 10 = .ok (.iaload, 1) := by decide +kernel
theorem d_RU_refuses_11 : decode c_RU_refuses 11 = .ok (.tableswitch 314 1 11 #[57, 92, 119, 139, 159, 179, 215, 243, 260, 282, 304], 57) := by decide +kernel
theorem d_RU_refuses_68 : decode c_RU_refuses 68 = .ok (.aload_n 0, 1) := by decide +kernel
theorem d_RU_refuses_69 : decode c_RU_refuses 69 = .ok (.getfield 28, 3) := by decide +kernel
theorem d_RU_refuses_72 : decode c_RU_refuses 72 = .ok (.ifCond .ne 18, 3) := by decide +kernel
theorem d_RU_refuses_75 : decode c_RU_refuses 75 = .ok (.aload_n 1, 1) := by decide +kernel
theorem d_RU_refuses_76 : decode c_RU_refuses 76 = .ok (.getfield 32, 3) := by decide +kernel
theorem d_RU_refuses_79 : decode c_RU_refuses 79 = .ok (.ifCond .ne 7, 3) := by decide +kernel
theorem d_RU_refuses_82 : decode c_RU_refuses 82 = .ok (.iconst 1, 1) := by decide +kernel
theorem d_RU_refuses_83 : decode c_RU_refuses 83 = .ok (.goto 19, 3) := by decide +kernel
theorem d_RU_refuses_86 : decode c_RU_refuses 86 = .ok (.iconst 0, 1) := by decide +kernel
theorem d_RU_refuses_87 : decode c_RU_refuses 87 = .ok (.goto 15, 3) := by decide +kernel
theorem d_RU_refuses_90 : decode c_RU_refuses 90 = .ok (.aload_n 1, 1) := by decide +kernel
theorem d_RU_refuses_91 : decode c_RU_refuses 91 = .ok (.getfield 38, 3) := by decide +kernel
theorem d_RU_refuses_94 : decode c_RU_refuses 94 = .ok (.ifCond .ne 7, 3) := by decide +kernel
theorem d_RU_refuses_97 : decode c_RU_refuses 97 = .ok (.iconst 1, 1) := by decide +kernel
theorem d_RU_refuses_98 : decode c_RU_refuses 98 = .ok (.goto 4, 3) := by decide +kernel
theorem d_RU_refuses_101 : decode c_RU_refuses 101 = .ok (.iconst 0, 1) := by decide +kernel
theorem d_RU_refuses_102 : decode c_RU_refuses 102 = .ok (.ireturn, 1) := by decide +kernel
theorem d_RU_refuses_103 : decode c_RU_refuses 103 = .ok (.aload_n 1, 1) := by decide +kernel
theorem d_RU_refuses_104 : decode c_RU_refuses 104 = .ok (.getfield 41, 3) := by decide +kernel
theorem d_RU_refuses_107 : decode c_RU_refuses 107 = .ok (.aload_n 1, 1) := by decide +kernel
theorem d_RU_refuses_108 : decode c_RU_refuses 108 = .ok (.getfield 44, 3) := by decide +kernel
theorem d_RU_refuses_111 : decode c_RU_refuses 111 = .ok (.iadd, 1) := by decide +kernel
theorem d_RU_refuses_112 : decode c_RU_refuses 112 = .ok (.aload_n 1, 1) := by decide +kernel
theorem d_RU_refuses_113 : decode c_RU_refuses 113 = .ok (.getfield 47, 3) := by decide +kernel
theorem d_RU_refuses_116 : decode c_RU_refuses 116 = .ok (.aload_n 0, 1) := by decide +kernel
theorem d_RU_refuses_117 : decode c_RU_refuses 117 = .ok (.getfield 28, 3) := by decide +kernel
theorem d_RU_refuses_120 : decode c_RU_refuses 120 = .ok (.isub, 1) := by decide +kernel
theorem d_RU_refuses_121 : decode c_RU_refuses 121 = .ok (.if_icmp .le 7, 3) := by decide +kernel
theorem d_RU_refuses_124 : decode c_RU_refuses 124 = .ok (.iconst 1, 1) := by decide +kernel
theorem d_RU_refuses_125 : decode c_RU_refuses 125 = .ok (.goto 4, 3) := by decide +kernel
theorem d_RU_refuses_128 : decode c_RU_refuses 128 = .ok (.iconst 0, 1) := by decide +kernel
theorem d_RU_refuses_129 : decode c_RU_refuses 129 = .ok (.ireturn, 1) := by decide +kernel
theorem d_RU_refuses_130 : decode c_RU_refuses 130 = .ok (.aload_n 1, 1) := by decide +kernel
theorem d_RU_refuses_131 : decode c_RU_refuses 131 = .ok (.getfield 50, 3) := by decide +kernel
theorem d_RU_refuses_134 : decode c_RU_refuses 134 = .ok (.invokevirtual 54, 3) := by decide +kernel
theorem d_RU_refuses_137 : decode c_RU_refuses 137 = .ok (.aload_n 0, 1) := by decide +kernel
theorem d_RU_refuses_138 : decode c_RU_refuses 138 = .ok (.getfield 28, 3) := by decide +kernel
theorem d_RU_refuses_141 : decode c_RU_refuses 141 = .ok (.if_icmp .le 7, 3) := by decide +kernel
theorem d_RU_refuses_144 : decode c_RU_refuses 144 = .ok (.iconst 1, 1) := by decide +kernel
theorem d_RU_refuses_145 : decode c_RU_refuses 145 = .ok (.goto 4, 3) := by decide +kernel
theorem d_RU_refuses_148 : decode c_RU_refuses 148 = .ok (.iconst 0, 1) := by decide +kernel
theorem d_RU_refuses_149 : decode c_RU_refuses 149 = .ok (.ireturn, 1) := by decide +kernel
theorem d_RU_refuses_150 : decode c_RU_refuses 150 = .ok (.aload_n 1, 1) := by decide +kernel
theorem d_RU_refuses_151 : decode c_RU_refuses 151 = .ok (.getfield 59, 3) := by decide +kernel
theorem d_RU_refuses_154 : decode c_RU_refuses 154 = .ok (.invokevirtual 54, 3) := by decide +kernel
theorem d_RU_refuses_157 : decode c_RU_refuses 157 = .ok (.aload_n 0, 1) := by decide +kernel
theorem d_RU_refuses_158 : decode c_RU_refuses 158 = .ok (.getfield 28, 3) := by decide +kernel
theorem d_RU_refuses_161 : decode c_RU_refuses 161 = .ok (.if_icmp .le 7, 3) := by decide +kernel
theorem d_RU_refuses_164 : decode c_RU_refuses 164 = .ok (.iconst 1, 1) := by decide +kernel
theorem d_RU_refuses_165 : decode c_RU_refuses 165 = .ok (.goto 4, 3) := by decide +kernel
theorem d_RU_refuses_168 : decode c_RU_refuses 168 = .ok (.iconst 0, 1) := by decide +kernel
theorem d_RU_refuses_169 : decode c_RU_refuses 169 = .ok (.ireturn, 1) := by decide +kernel
theorem d_RU_refuses_170 : decode c_RU_refuses 170 = .ok (.aload_n 1, 1) := by decide +kernel
theorem d_RU_refuses_171 : decode c_RU_refuses 171 = .ok (.getfield 62, 3) := by decide +kernel
theorem d_RU_refuses_174 : decode c_RU_refuses 174 = .ok (.invokevirtual 54, 3) := by decide +kernel
theorem d_RU_refuses_177 : decode c_RU_refuses 177 = .ok (.aload_n 0, 1) := by decide +kernel
theorem d_RU_refuses_178 : decode c_RU_refuses 178 = .ok (.getfield 28, 3) := by decide +kernel
theorem d_RU_refuses_181 : decode c_RU_refuses 181 = .ok (.if_icmp .le 7, 3) := by decide +kernel
theorem d_RU_refuses_184 : decode c_RU_refuses 184 = .ok (.iconst 1, 1) := by decide +kernel
theorem d_RU_refuses_185 : decode c_RU_refuses 185 = .ok (.goto 4, 3) := by decide +kernel
theorem d_RU_refuses_188 : decode c_RU_refuses 188 = .ok (.iconst 0, 1) := by decide +kernel
theorem d_RU_refuses_189 : decode c_RU_refuses 189 = .ok (.ireturn, 1) := by decide +kernel
theorem d_RU_refuses_190 : decode c_RU_refuses 190 = .ok (.aload_n 1, 1) := by decide +kernel
theorem d_RU_refuses_191 : decode c_RU_refuses 191 = .ok (.aload_n 0, 1) := by decide +kernel
theorem d_RU_refuses_192 : decode c_RU_refuses 192 = .ok (.getfield 28, 3) := by decide +kernel
theorem d_RU_refuses_195 : decode c_RU_refuses 195 = .ok (.aload_n 0, 1) := by decide +kernel
theorem d_RU_refuses_196 : decode c_RU_refuses 196 = .ok (.getfield 65, 3) := by decide +kernel
theorem d_RU_refuses_199 : decode c_RU_refuses 199 = .ok (.invokevirtual 68, 3) := by decide +kernel
theorem d_RU_refuses_202 : decode c_RU_refuses 202 = .ok (.ifCond .ne 18, 3) := by decide +kernel
theorem d_RU_refuses_205 : decode c_RU_refuses 205 = .ok (.aload_n 1, 1) := by decide +kernel
theorem d_RU_refuses_206 : decode c_RU_refuses 206 = .ok (.aload_n 0, 1) := by decide +kernel
theorem d_RU_refuses_207 : decode c_RU_refuses 207 = .ok (.getfield 65, 3) := by decide +kernel
theorem d_RU_refuses_210 : decode c_RU_refuses 210 = .ok (.aload_n 0, 1) := by decide +kernel
theorem d_RU_refuses_211 : decode c_RU_refuses 211 = .ok (.getfield 28, 3) := by decide +kernel
theorem d_RU_refuses_214 : decode c_RU_refuses 214 = .ok (.invokevirtual 68, 3) := by decide +kernel
theorem d_RU_refuses_217 : decode c_RU_refuses 217 = .ok (.ifCond .eq 7, 3) := by decide +kernel
theorem d_RU_refuses_220 : decode c_RU_refuses 220 = .ok (.iconst 1, 1) := by decide +kernel
theorem d_RU_refuses_221 : decode c_RU_refuses 221 = .ok (.goto 4, 3) := by decide +kernel
theorem d_RU_refuses_224 : decode c_RU_refuses 224 = .ok (.iconst 0, 1) := by decide +kernel
theorem d_RU_refuses_225 : decode c_RU_refuses 225 = .ok (.ireturn, 1) := by decide +kernel
theorem d_RU_refuses_226 : decode c_RU_refuses 226 = .ok (.aload_n 1, 1) := by decide +kernel
theorem d_RU_refuses_227 : decode c_RU_refuses 227 = .ok (.getfield 72, 3) := by decide +kernel
theorem d_RU_refuses_230 : decode c_RU_refuses 230 = .ok (.aload_n 0, 1) := by decide +kernel
theorem d_RU_refuses_231 : decode c_RU_refuses 231 = .ok (.getfield 28, 3) := by decide +kernel
theorem d_RU_refuses_234 : decode c_RU_refuses 234 = .ok (.if_icmp .ne 18, 3) := by decide +kernel
theorem d_RU_refuses_237 : decode c_RU_refuses 237 = .ok (.aload_n 1, 1) := by decide +kernel
theorem d_RU_refuses_238 : decode c_RU_refuses 238 = .ok (.getfield 75, 3) := by decide +kernel
theorem d_RU_refuses_241 : decode c_RU_refuses 241 = .ok (.aload_n 0, 1) := by decide +kernel
theorem d_RU_refuses_242 : decode c_RU_refuses 242 = .ok (.getfield 65, 3) := by decide +kernel
theorem d_RU_refuses_245 : decode c_RU_refuses 245 = .ok (.if_icmp .eq 7, 3) := by decide +kernel
theorem d_RU_refuses_248 : decode c_RU_refuses 248 = .ok (.iconst 1, 1) := by decide +kernel
theorem d_RU_refuses_249 : decode c_RU_refuses 249 = .ok (.goto 4, 3) := by decide +kernel
theorem d_RU_refuses_252 : decode c_RU_refuses 252 = .ok (.iconst 0, 1) := by decide +kernel
theorem d_RU_refuses_253 : decode c_RU_refuses 253 = .ok (.ireturn, 1) := by decide +kernel
theorem d_RU_refuses_254 : decode c_RU_refuses 254 = .ok (.aload_n 1, 1) := by decide +kernel
theorem d_RU_refuses_255 : decode c_RU_refuses 255 = .ok (.getfield 78, 3) := by decide +kernel
theorem d_RU_refuses_258 : decode c_RU_refuses 258 = .ok (.aload_n 0, 1) := by decide +kernel
theorem d_RU_refuses_259 : decode c_RU_refuses 259 = .ok (.getfield 28, 3) := by decide +kernel
theorem d_RU_refuses_262 : decode c_RU_refuses 262 = .ok (.if_icmp .le 7, 3) := by decide +kernel
theorem d_RU_refuses_265 : decode c_RU_refuses 265 = .ok (.iconst 1, 1) := by decide +kernel
theorem d_RU_refuses_266 : decode c_RU_refuses 266 = .ok (.goto 4, 3) := by decide +kernel
theorem d_RU_refuses_269 : decode c_RU_refuses 269 = .ok (.iconst 0, 1) := by decide +kernel
theorem d_RU_refuses_270 : decode c_RU_refuses 270 = .ok (.ireturn, 1) := by decide +kernel
theorem d_RU_refuses_271 : decode c_RU_refuses 271 = .ok (.aload_n 1, 1) := by decide +kernel
theorem d_RU_refuses_272 : decode c_RU_refuses 272 = .ok (.getfield 81, 3) := by decide +kernel
theorem d_RU_refuses_275 : decode c_RU_refuses 275 = .ok (.aload_n 1, 1) := by decide +kernel
theorem d_RU_refuses_276 : decode c_RU_refuses 276 = .ok (.getfield 84, 3) := by decide +kernel
theorem d_RU_refuses_279 : decode c_RU_refuses 279 = .ok (.isub, 1) := by decide +kernel
theorem d_RU_refuses_280 : decode c_RU_refuses 280 = .ok (.aload_n 0, 1) := by decide +kernel
theorem d_RU_refuses_281 : decode c_RU_refuses 281 = .ok (.getfield 28, 3) := by decide +kernel
theorem d_RU_refuses_284 : decode c_RU_refuses 284 = .ok (.if_icmp .le 7, 3) := by decide +kernel
theorem d_RU_refuses_287 : decode c_RU_refuses 287 = .ok (.iconst 1, 1) := by decide +kernel
theorem d_RU_refuses_288 : decode c_RU_refuses 288 = .ok (.goto 4, 3) := by decide +kernel
theorem d_RU_refuses_291 : decode c_RU_refuses 291 = .ok (.iconst 0, 1) := by decide +kernel
theorem d_RU_refuses_292 : decode c_RU_refuses 292 = .ok (.ireturn, 1) := by decide +kernel
theorem d_RU_refuses_293 : decode c_RU_refuses 293 = .ok (.aload_n 1, 1) := by decide +kernel
theorem d_RU_refuses_294 : decode c_RU_refuses 294 = .ok (.getfield 87, 3) := by decide +kernel
theorem d_RU_refuses_297 : decode c_RU_refuses 297 = .ok (.aload_n 1, 1) := by decide +kernel
theorem d_RU_refuses_298 : decode c_RU_refuses 298 = .ok (.getfield 90, 3) := by decide +kernel
theorem d_RU_refuses_301 : decode c_RU_refuses 301 = .ok (.isub, 1) := by decide +kernel
theorem d_RU_refuses_302 : decode c_RU_refuses 302 = .ok (.aload_n 0, 1) := by decide +kernel
theorem d_RU_refuses_303 : decode c_RU_refuses 303 = .ok (.getfield 28, 3) := by decide +kernel
theorem d_RU_refuses_306 : decode c_RU_refuses 306 = .ok (.if_icmp .ge 7, 3) := by decide +kernel
theorem d_RU_refuses_309 : decode c_RU_refuses 309 = .ok (.iconst 1, 1) := by decide +kernel
theorem d_RU_refuses_310 : decode c_RU_refuses 310 = .ok (.goto 4, 3) := by decide +kernel
theorem d_RU_refuses_313 : decode c_RU_refuses 313 = .ok (.iconst 0, 1) := by decide +kernel
theorem d_RU_refuses_314 : decode c_RU_refuses 314 = .ok (.ireturn, 1) := by decide +kernel
theorem d_RU_refuses_315 : decode c_RU_refuses 315 = .ok (.aload_n 2, 1) := by decide +kernel
theorem d_RU_refuses_316 : decode c_RU_refuses 316 = .ok (.aload_n 0, 1) := by decide +kernel
theorem d_RU_refuses_317 : decode c_RU_refuses 317 = .ok (.getfield 28, 3) := by decide +kernel
theorem d_RU_refuses_320 : decode c_RU_refuses 320 = .ok (.aload_n 1, 1) := by decide +kernel
theorem d_RU_refuses_321 : decode c_RU_refuses 321 = .ok (.invokevirtual 93, 3) := by decide +kernel
theorem d_RU_refuses_324 : decode c_RU_refuses 324 = .ok (.ireturn, 1) := by decide +kernel
theorem d_RU_refuses_325 : decode c_RU_refuses 325 = .ok (.iconst 0, 1) := by decide +kernel
theorem d_RU_refuses_326 : decode c_RU_refuses 326 = .ok (.ireturn, 1) := by decide +kernel
theorem d_RB_init_0 : decode c_RB_init 0 = .ok (.aload_n 0, 1) := by decide +kernel
theorem d_RB_init_1 : decode c_RB_init 1 = .ok (.invokespecial 3, 3) := by decide +kernel
theorem d_RB_init_4 : decode c_RB_init 4 = .ok (.aload_n 0, 1) := by decide +kernel
theorem d_RB_init_5 : decode c_RB_init 5 = .ok (.bipush 24, 2) := by decide +kernel
theorem d_RB_init_7 : decode c_RB_init 7 = .ok (.anewarray 9, 3) := by decide +kernel
theorem d_RB_init_10 : decode c_RB_init 10 = .ok (.putfield 11, 3) := by decide +kernel
theorem d_RB_init_13 : decode c_RB_init 13 = .ok (.aload_n 0, 1) := by decide +kernel
theorem d_RB_init_14 : decode c_RB_init 14 = .ok (.bipush 24, 2) := by decide +kernel
theorem d_RB_init_16 : decode c_RB_init 16 = .ok (.newarray .int, 2) := by decide +kernel
theorem d_RB_init_18 : decode c_RB_init 18 = .ok (.putfield 17, 3) := by decide +kernel
theorem d_RB_init_21 : decode c_RB_init 21 = .ok (.aload_n 0, 1) := by decide +kernel
theorem d_RB_init_22 : decode c_RB_init 22 = .ok (.sipush 276, 3) := by decide +kernel
theorem d_RB_init_25 : decode c_RB_init 25 = .ok (.newarray .int, 2) := by decide +kernel
theorem d_RB_init_27 : decode c_RB_init 27 = .ok (.putfield 21, 3) := by decide +kernel
theorem d_RB_init_30 : decode c_RB_init 30 = .ok (.aload_n 0, 1) := by decide +kernel
theorem d_RB_init_31 : decode c_RB_init 31 = .ok (.sipush 276, 3) := by decide +kernel
theorem d_RB_init_34 : decode c_RB_init 34 = .ok (.newarray .int, 2) := by decide +kernel
theorem d_RB_init_36 : decode c_RB_init 36 = .ok (.putfield 24, 3) := by decide +kernel
theorem d_RB_init_39 : decode c_RB_init 39 = .ok (.iconst 0, 1) := by decide +kernel
theorem d_RB_init_40 : decode c_RB_init 40 = .ok (.istore_n 1, 1) := by decide +kernel
theorem d_RB_init_41 : decode c_RB_init 41 = .ok (.iload_n 1, 1) := by decide +kernel
theorem d_RB_init_42 : decode c_RB_init 42 = .ok (.bipush 24, 2) := by decide +kernel
theorem d_RB_init_44 : decode c_RB_init 44 = .ok (.if_icmp .ge 22, 3) := by decide +kernel
theorem d_RB_init_47 : decode c_RB_init 47 = .ok (.aload_n 0, 1) := by decide +kernel
theorem d_RB_init_48 : decode c_RB_init 48 = .ok (.getfield 11, 3) := by decide +kernel
theorem d_RB_init_51 : decode c_RB_init 51 = .ok (.iload_n 1, 1) := by decide +kernel
theorem d_RB_init_52 : decode c_RB_init 52 = .ok (.new 9, 3) := by decide +kernel
theorem d_RB_init_55 : decode c_RB_init 55 = .ok (.dup, 1) := by decide +kernel
theorem d_RB_init_56 : decode c_RB_init 56 = .ok (.invokespecial 27, 3) := by decide +kernel
theorem d_RB_init_59 : decode c_RB_init 59 = .ok (.aastore, 1) := by decide +kernel
theorem d_RB_init_60 : decode c_RB_init 60 = .ok (.iinc 1 1, 3) := by decide +kernel
theorem d_RB_init_63 : decode c_RB_init 63 = .ok (.goto (-22), 3) := by decide +kernel
theorem d_RB_init_66 : decode c_RB_init 66 = .ok (.return_, 1) := by decide +kernel
theorem d_RB_room_0 : decode c_RB_room 0 = .ok (.bipush 24, 2) := by decide +kernel
theorem d_RB_room_2 : decode c_RB_room 2 = .ok (.aload_n 0, 1) := by decide +kernel
theorem d_RB_room_3 : decode c_RB_room 3 = .ok (.getfield 28, 3) := by decide +kernel
theorem d_RB_room_6 : decode c_RB_room 6 = .ok (.isub, 1) := by decide +kernel
theorem d_RB_room_7 : decode c_RB_room 7 = .ok (.ireturn, 1) := by decide +kernel
theorem d_RB_addRule_0 : decode c_RB_addRule 0 = .ok (.aload_n 0, 1) := by decide +kernel
theorem d_RB_addRule_1 : decode c_RB_addRule 1 = .ok (.getfield 28, 3) := by decide +kernel
theorem d_RB_addRule_4 : decode c_RB_addRule 4 = .ok (.istore 5, 2) := by decide +kernel
theorem d_RB_addRule_6 : decode c_RB_addRule 6 = .ok (.iload 5, 2) := by decide +kernel
theorem d_RB_addRule_8 : decode c_RB_addRule 8 = .ok (.bipush 24, 2) := by decide +kernel
theorem d_RB_addRule_10 : decode c_RB_addRule 10 = .ok (.if_icmp .lt 5, 3) := by decide +kernel
theorem d_RB_addRule_13 : decode c_RB_addRule 13 = .ok (.iconst (-1), 1) := by decide +kernel
theorem d_RB_addRule_14 : decode c_RB_addRule 14 = .ok (.ireturn, 1) := by decide +kernel
theorem d_RB_addRule_15 : decode c_RB_addRule 15 = .ok (.aload_n 0, 1) := by decide +kernel
theorem d_RB_addRule_16 : decode c_RB_addRule 16 = .ok (.getfield 11, 3) := by decide +kernel
theorem d_RB_addRule_19 : decode c_RB_addRule 19 = .ok (.iload 5, 2) := by decide +kernel
theorem d_RB_addRule_21 : decode c_RB_addRule 21 = .ok (.aaload, 1) := by decide +kernel
theorem d_RB_addRule_22 : decode c_RB_addRule 22 = .ok (.astore 6, 2) := by decide +kernel
theorem d_RB_addRule_24 : decode c_RB_addRule 24 = .ok (.aload 6, 2) := by decide +kernel
theorem d_RB_addRule_26 : decode c_RB_addRule 26 = .ok (.iload_n 1, 1) := by decide +kernel
theorem d_RB_addRule_27 : decode c_RB_addRule 27 = .ok (.putfield 32, 3) := by decide +kernel
theorem d_RB_addRule_30 : decode c_RB_addRule 30 = .ok (.aload 6, 2) := by decide +kernel
theorem d_RB_addRule_32 : decode c_RB_addRule 32 = .ok (.aload_n 2, 1) := by decide +kernel
theorem d_RB_addRule_33 : decode c_RB_addRule 33 = .ok (.putfield 35, 3) := by decide +kernel
theorem d_RB_addRule_36 : decode c_RB_addRule 36 = .ok (.aload 6, 2) := by decide +kernel
theorem d_RB_addRule_38 : decode c_RB_addRule 38 = .ok (.iload_n 3, 1) := by decide +kernel
theorem d_RB_addRule_39 : decode c_RB_addRule 39 = .ok (.putfield 39, 3) := by decide +kernel
theorem d_RB_addRule_42 : decode c_RB_addRule 42 = .ok (.aload 6, 2) := by decide +kernel
theorem d_RB_addRule_44 : decode c_RB_addRule 44 = .ok (.iload 4, 2) := by decide +kernel
theorem d_RB_addRule_46 : decode c_RB_addRule 46 = .ok (.putfield 42, 3) := by decide +kernel
theorem d_RB_addRule_49 : decode c_RB_addRule 49 = .ok (.aload_n 0, 1) := by decide +kernel
theorem d_RB_addRule_50 : decode c_RB_addRule 50 = .ok (.iload 5, 2) := by decide +kernel
theorem d_RB_addRule_52 : decode c_RB_addRule 52 = .ok (.invokevirtual 45, 3) := by decide +kernel
theorem d_RB_addRule_55 : decode c_RB_addRule 55 = .ok (.aload_n 0, 1) := by decide +kernel
theorem d_RB_addRule_56 : decode c_RB_addRule 56 = .ok (.iload 5, 2) := by decide +kernel
theorem d_RB_addRule_58 : decode c_RB_addRule 58 = .ok (.invokevirtual 49, 3) := by decide +kernel
theorem d_RB_addRule_61 : decode c_RB_addRule 61 = .ok (.aload_n 0, 1) := by decide +kernel
theorem d_RB_addRule_62 : decode c_RB_addRule 62 = .ok (.dup, 1) := by decide +kernel
theorem d_RB_addRule_63 : decode c_RB_addRule 63 = .ok (.getfield 28, 3) := by decide +kernel
theorem d_RB_addRule_66 : decode c_RB_addRule 66 = .ok (.iconst 1, 1) := by decide +kernel
theorem d_RB_addRule_67 : decode c_RB_addRule 67 = .ok (.iadd, 1) := by decide +kernel
theorem d_RB_addRule_68 : decode c_RB_addRule 68 = .ok (.putfield 28, 3) := by decide +kernel
theorem d_RB_addRule_71 : decode c_RB_addRule 71 = .ok (.iload 5, 2) := by decide +kernel
theorem d_RB_addRule_73 : decode c_RB_addRule 73 = .ok (.ireturn, 1) := by decide +kernel
theorem d_RB_neverRefused_0 : decode c_RB_neverRefused 0 = .ok (.iconst 0, 1) := by decide +kernel
theorem d_RB_neverRefused_1 : decode c_RB_neverRefused 1 = .ok (.istore_n 2, 1) := by decide +kernel
theorem d_RB_neverRefused_2 : decode c_RB_neverRefused 2 = .ok (.iconst 0, 1) := by decide +kernel
theorem d_RB_neverRefused_3 : decode c_RB_neverRefused 3 = .ok (.istore_n 3, 1) := by decide +kernel
theorem d_RB_neverRefused_4 : decode c_RB_neverRefused 4 = .ok (.iload_n 3, 1) := by decide +kernel
theorem d_RB_neverRefused_5 : decode c_RB_neverRefused 5 = .ok (.aload_n 0, 1) := by decide +kernel
theorem d_RB_neverRefused_6 : decode c_RB_neverRefused 6 = .ok (.getfield 28, 3) := by decide +kernel
theorem d_RB_neverRefused_9 : decode c_RB_neverRefused 9 = .ok (.if_icmp .ge 31, 3) := by decide +kernel
theorem d_RB_neverRefused_12 : decode c_RB_neverRefused 12 = .ok (.aload_n 0, 1) := by decide +kernel
theorem d_RB_neverRefused_13 : decode c_RB_neverRefused 13 = .ok (.getfield 11, 3) := by decide +kernel
theorem d_RB_neverRefused_16 : decode c_RB_neverRefused 16 = .ok (.iload_n 3, 1) := by decide +kernel
theorem d_RB_neverRefused_17 : decode c_RB_neverRefused 17 = .ok (.aaload, 1) := by decide +kernel
theorem d_RB_neverRefused_18 : decode c_RB_neverRefused 18 = .ok (.getfield 52, 3) := by decide +kernel
theorem d_RB_neverRefused_21 : decode c_RB_neverRefused 21 = .ok (.ifCond .ne 13, 3) := by decide +kernel
theorem d_RB_neverRefused_24 : decode c_RB_neverRefused 24 = .ok (.iload_n 2, 1) := by decide +kernel
theorem d_RB_neverRefused_25 : decode c_RB_neverRefused 25 = .ok (.iload_n 1, 1) := by decide +kernel
theorem d_RB_neverRefused_26 : decode c_RB_neverRefused 26 = .ok (.if_icmp .ne 5, 3) := by decide +kernel
theorem d_RB_neverRefused_29 : decode c_RB_neverRefused 29 = .ok (.iload_n 3, 1) := by decide +kernel
theorem d_RB_neverRefused_30 : decode c_RB_neverRefused 30 = .ok (.ireturn, 1) := by decide +kernel
theorem d_RB_neverRefused_31 : decode c_RB_neverRefused 31 = .ok (.iinc 2 1, 3) := by decide +kernel
theorem d_RB_neverRefused_34 : decode c_RB_neverRefused 34 = .ok (.iinc 3 1, 3) := by decide +kernel
theorem d_RB_neverRefused_37 : decode c_RB_neverRefused 37 = .ok (.goto (-33), 3) := by decide +kernel
theorem d_RB_neverRefused_40 : decode c_RB_neverRefused 40 = .ok (.iconst (-1), 1) := by decide +kernel
theorem d_RB_neverRefused_41 : decode c_RB_neverRefused 41 = .ok (.ireturn, 1) := by decide +kernel
theorem d_RB_noteClashes_0 : decode c_RB_noteClashes 0 = .ok (.aload_n 0, 1) := by decide +kernel
theorem d_RB_noteClashes_1 : decode c_RB_noteClashes 1 = .ok (.getfield 11, 3) := by decide +kernel
theorem d_RB_noteClashes_4 : decode c_RB_noteClashes 4 = .ok (.iload_n 1, 1) := by decide +kernel
theorem d_RB_noteClashes_5 : decode c_RB_noteClashes 5 = .ok (.aaload, 1) := by decide +kernel
theorem d_RB_noteClashes_6 : decode c_RB_noteClashes 6 = .ok (.astore_n 2, 1) := by decide +kernel
theorem d_RB_noteClashes_7 : decode c_RB_noteClashes 7 = .ok (.iconst 0, 1) := by decide +kernel
theorem d_RB_noteClashes_8 : decode c_RB_noteClashes 8 = .ok (.istore_n 3, 1) := by decide +kernel
theorem d_RB_noteClashes_9 : decode c_RB_noteClashes 9 = .ok (.iload_n 3, 1) := by decide +kernel
theorem d_RB_noteClashes_10 : decode c_RB_noteClashes 10 = .ok (.iload_n 1, 1) := by decide +kernel
theorem d_RB_noteClashes_11 : decode c_RB_noteClashes 11 = .ok (.if_icmp .ge 81, 3) := by decide +kernel
theorem d_RB_noteClashes_14 : decode c_RB_noteClashes 14 = .ok (.aload_n 0, 1) := by decide +kernel
theorem d_RB_noteClashes_15 : decode c_RB_noteClashes 15 = .ok (.getfield 56, 3) := by decide +kernel
theorem d_RB_noteClashes_18 : decode c_RB_noteClashes 18 = .ok (.sipush 276, 3) := by decide +kernel
theorem d_RB_noteClashes_21 : decode c_RB_noteClashes 21 = .ok (.if_icmp .ge 71, 3) := by decide +kernel
theorem d_RB_noteClashes_24 : decode c_RB_noteClashes 24 = .ok (.aload_n 0, 1) := by decide +kernel
theorem d_RB_noteClashes_25 : decode c_RB_noteClashes 25 = .ok (.getfield 11, 3) := by decide +kernel
theorem d_RB_noteClashes_28 : decode c_RB_noteClashes 28 = .ok (.iload_n 3, 1) := by decide +kernel
theorem d_RB_noteClashes_29 : decode c_RB_noteClashes 29 = .ok (.aaload, 1) := by decide +kernel
theorem d_RB_noteClashes_30 : decode c_RB_noteClashes 30 = .ok (.getfield 32, 3) := by decide +kernel
theorem d_RB_noteClashes_33 : decode c_RB_noteClashes 33 = .ok (.aload_n 2, 1) := by decide +kernel
theorem d_RB_noteClashes_34 : decode c_RB_noteClashes 34 = .ok (.getfield 32, 3) := by decide +kernel
theorem d_RB_noteClashes_37 : decode c_RB_noteClashes 37 = .ok (.if_icmp .ne 49, 3) := by decide +kernel
theorem d_RB_noteClashes_40 : decode c_RB_noteClashes 40 = .ok (.aload_n 0, 1) := by decide +kernel
theorem d_RB_noteClashes_41 : decode c_RB_noteClashes 41 = .ok (.getfield 11, 3) := by decide +kernel
theorem d_RB_noteClashes_44 : decode c_RB_noteClashes 44 = .ok (.iload_n 3, 1) := by decide +kernel
theorem d_RB_noteClashes_45 : decode c_RB_noteClashes 45 = .ok (.aaload, 1) := by decide +kernel
theorem d_RB_noteClashes_46 : decode c_RB_noteClashes 46 = .ok (.getfield 35, 3) := by decide +kernel
theorem d_RB_noteClashes_49 : decode c_RB_noteClashes 49 = .ok (.aload_n 2, 1) := by decide +kernel
theorem d_RB_noteClashes_50 : decode c_RB_noteClashes 50 = .ok (.getfield 35, 3) := by decide +kernel
theorem d_RB_noteClashes_53 : decode c_RB_noteClashes 53 = .ok (.if_acmp .ne 33, 3) := by decide +kernel
theorem d_RB_noteClashes_56 : decode c_RB_noteClashes 56 = .ok (.aload_n 0, 1) := by decide +kernel
theorem d_RB_noteClashes_57 : decode c_RB_noteClashes 57 = .ok (.getfield 21, 3) := by decide +kernel
theorem d_RB_noteClashes_60 : decode c_RB_noteClashes 60 = .ok (.aload_n 0, 1) := by decide +kernel
theorem d_RB_noteClashes_61 : decode c_RB_noteClashes 61 = .ok (.getfield 56, 3) := by decide +kernel
theorem d_RB_noteClashes_64 : decode c_RB_noteClashes 64 = .ok (.iload_n 3, 1) := by decide +kernel
theorem d_RB_noteClashes_65 : decode c_RB_noteClashes 65 = .ok (.iastore, 1) := by decide +kernel
theorem d_RB_noteClashes_66 : decode c_RB_noteClashes 66 = .ok (.aload_n 0, 1) := by decide +kernel
theorem d_RB_noteClashes_67 : decode c_RB_noteClashes 67 = .ok (.getfield 24, 3) := by decide +kernel
theorem d_RB_noteClashes_70 : decode c_RB_noteClashes 70 = .ok (.aload_n 0, 1) := by decide +kernel
theorem d_RB_noteClashes_71 : decode c_RB_noteClashes 71 = .ok (.getfield 56, 3) := by decide +kernel
theorem d_RB_noteClashes_74 : decode c_RB_noteClashes 74 = .ok (.iload_n 1, 1) := by decide +kernel
theorem d_RB_noteClashes_75 : decode c_RB_noteClashes 75 = .ok (.iastore, 1) := by decide +kernel
theorem d_RB_noteClashes_76 : decode c_RB_noteClashes 76 = .ok (.aload_n 0, 1) := by decide +kernel
theorem d_RB_noteClashes_77 : decode c_RB_noteClashes 77 = .ok (.dup, 1) := by decide +kernel
theorem d_RB_noteClashes_78 : decode c_RB_noteClashes 78 = .ok (.getfield 56, 3) := by decide +kernel
theorem d_RB_noteClashes_81 : decode c_RB_noteClashes 81 = .ok (.iconst 1, 1) := by decide +kernel
theorem d_RB_noteClashes_82 : decode c_RB_noteClashes 82 = .ok (.iadd, 1) := by decide +kernel
theorem d_RB_noteClashes_83 : decode c_RB_noteClashes 83 = .ok (.putfield 56, 3) := by decide +kernel
theorem d_RB_noteClashes_86 : decode c_RB_noteClashes 86 = .ok (.iinc 3 1, 3) := by decide +kernel
theorem d_RB_noteClashes_89 : decode c_RB_noteClashes 89 = .ok (.goto (-80), 3) := by decide +kernel
theorem d_RB_noteClashes_92 : decode c_RB_noteClashes 92 = .ok (.return_, 1) := by decide +kernel
theorem d_RB_insertInOrder_0 : decode c_RB_insertInOrder 0 = .ok (.iload_n 1, 1) := by decide +kernel
theorem d_RB_insertInOrder_1 : decode c_RB_insertInOrder 1 = .ok (.istore_n 2, 1) := by decide +kernel
theorem d_RB_insertInOrder_2 : decode c_RB_insertInOrder 2 = .ok (.iload_n 2, 1) := by decide +kernel
theorem d_RB_insertInOrder_3 : decode c_RB_insertInOrder 3 = .ok (.ifCond .le 51, 3) := by decide +kernel
theorem d_RB_insertInOrder_6 : decode c_RB_insertInOrder 6 = .ok (.aload_n 0, 1) := by decide +kernel
theorem d_RB_insertInOrder_7 : decode c_RB_insertInOrder 7 = .ok (.getfield 11, 3) := by decide +kernel
theorem d_RB_insertInOrder_10 : decode c_RB_insertInOrder 10 = .ok (.aload_n 0, 1) := by decide +kernel
theorem d_RB_insertInOrder_11 : decode c_RB_insertInOrder 11 = .ok (.getfield 17, 3) := by decide +kernel
theorem d_RB_insertInOrder_14 : decode c_RB_insertInOrder 14 = .ok (.iload_n 2, 1) := by decide +kernel
theorem d_RB_insertInOrder_15 : decode c_RB_insertInOrder 15 = .ok (.iconst 1, 1) := by decide +kernel
theorem d_RB_insertInOrder_16 : decode c_RB_insertInOrder 16 = .ok (.isub, 1) := by decide +kernel
theorem d_RB_insertInOrder_17 : decode c_RB_insertInOrder 17 = .ok (.iaload, 1) := by decide +kernel
theorem d_RB_insertInOrder_18 : decode c_RB_insertInOrder 18 = .ok (.aaload, 1) := by decide +kernel
theorem d_RB_insertInOrder_19 : decode c_RB_insertInOrder 19 = .ok (.getfield 32, 3) := by decide +kernel
theorem d_RB_insertInOrder_22 : decode c_RB_insertInOrder 22 = .ok (.aload_n 0, 1) := by decide +kernel
theorem d_RB_insertInOrder_23 : decode c_RB_insertInOrder 23 = .ok (.getfield 11, 3) := by decide +kernel
theorem d_RB_insertInOrder_26 : decode c_RB_insertInOrder 26 = .ok (.iload_n 1, 1) := by decide +kernel
theorem d_RB_insertInOrder_27 : decode c_RB_insertInOrder 27 = .ok (.aaload, 1) := by decide +kernel
theorem d_RB_insertInOrder_28 : decode c_RB_insertInOrder 28 = .ok (.getfield 32, 3) := by decide +kernel
theorem d_RB_insertInOrder_31 : decode c_RB_insertInOrder 31 = .ok (.if_icmp .le 23, 3) := by decide +kernel
theorem d_RB_insertInOrder_34 : decode c_RB_insertInOrder 34 = .ok (.aload_n 0, 1) := by decide +kernel
theorem d_RB_insertInOrder_35 : decode c_RB_insertInOrder 35 = .ok (.getfield 17, 3) := by decide +kernel
theorem d_RB_insertInOrder_38 : decode c_RB_insertInOrder 38 = .ok (.iload_n 2, 1) := by decide +kernel
theorem d_RB_insertInOrder_39 : decode c_RB_insertInOrder 39 = .ok (.aload_n 0, 1) := by decide +kernel
theorem d_RB_insertInOrder_40 : decode c_RB_insertInOrder 40 = .ok (.getfield 17, 3) := by decide +kernel
theorem d_RB_insertInOrder_43 : decode c_RB_insertInOrder 43 = .ok (.iload_n 2, 1) := by decide +kernel
theorem d_RB_insertInOrder_44 : decode c_RB_insertInOrder 44 = .ok (.iconst 1, 1) := by decide +kernel
theorem d_RB_insertInOrder_45 : decode c_RB_insertInOrder 45 = .ok (.isub, 1) := by decide +kernel
theorem d_RB_insertInOrder_46 : decode c_RB_insertInOrder 46 = .ok (.iaload, 1) := by decide +kernel
theorem d_RB_insertInOrder_47 : decode c_RB_insertInOrder 47 = .ok (.iastore, 1) := by decide +kernel
theorem d_RB_insertInOrder_48 : decode c_RB_insertInOrder 48 = .ok (.iinc 2 (-1), 3) := by decide +kernel
theorem d_RB_insertInOrder_51 : decode c_RB_insertInOrder 51 = .ok (.goto (-49), 3) := by decide +kernel
theorem d_RB_insertInOrder_54 : decode c_RB_insertInOrder 54 = .ok (.aload_n 0, 1) := by decide +kernel
theorem d_RB_insertInOrder_55 : decode c_RB_insertInOrder 55 = .ok (.getfield 17, 3) := by decide +kernel
theorem d_RB_insertInOrder_58 : decode c_RB_insertInOrder 58 = .ok (.iload_n 2, 1) := by decide +kernel
theorem d_RB_insertInOrder_59 : decode c_RB_insertInOrder 59 = .ok (.iload_n 1, 1) := by decide +kernel
theorem d_RB_insertInOrder_60 : decode c_RB_insertInOrder 60 = .ok (.iastore, 1) := by decide +kernel
theorem d_RB_insertInOrder_61 : decode c_RB_insertInOrder 61 = .ok (.return_, 1) := by decide +kernel
theorem d_TX_init_0 : decode c_TX_init 0 = .ok (.aload_n 0, 1) := by decide +kernel
theorem d_TX_init_1 : decode c_TX_init 1 = .ok (.invokespecial 3, 3) := by decide +kernel
theorem d_TX_init_4 : decode c_TX_init 4 = .ok (.aload_n 0, 1) := by decide +kernel
theorem d_TX_init_5 : decode c_TX_init 5 = .ok (.sipush 400, 3) := by decide +kernel
theorem d_TX_init_8 : decode c_TX_init 8 = .ok (.newarray .int, 2) := by decide +kernel
theorem d_TX_init_10 : decode c_TX_init 10 = .ok (.putfield 9, 3) := by decide +kernel
theorem d_TX_init_13 : decode c_TX_init 13 = .ok (.aload_n 0, 1) := by decide +kernel
theorem d_TX_init_14 : decode c_TX_init 14 = .ok (.bipush 24, 2) := by decide +kernel
theorem d_TX_init_16 : decode c_TX_init 16 = .ok (.anewarray 15, 3) := by decide +kernel
theorem d_TX_init_19 : decode c_TX_init 19 = .ok (.putfield 17, 3) := by decide +kernel
theorem d_TX_init_22 : decode c_TX_init 22 = .ok (.aload_n 0, 1) := by decide +kernel
theorem d_TX_init_23 : decode c_TX_init 23 = .ok (.getstatic 21, 3) := by decide +kernel
theorem d_TX_init_26 : decode c_TX_init 26 = .ok (.putfield 27, 3) := by decide +kernel
theorem d_TX_init_29 : decode c_TX_init 29 = .ok (.iconst 0, 1) := by decide +kernel
theorem d_TX_init_30 : decode c_TX_init 30 = .ok (.istore_n 1, 1) := by decide +kernel
theorem d_TX_init_31 : decode c_TX_init 31 = .ok (.iload_n 1, 1) := by decide +kernel
theorem d_TX_init_32 : decode c_TX_init 32 = .ok (.bipush 24, 2) := by decide +kernel
theorem d_TX_init_34 : decode c_TX_init 34 = .ok (.if_icmp .ge 22, 3) := by decide +kernel
theorem d_TX_init_37 : decode c_TX_init 37 = .ok (.aload_n 0, 1) := by decide +kernel
theorem d_TX_init_38 : decode c_TX_init 38 = .ok (.getfield 17, 3) := by decide +kernel
theorem d_TX_init_41 : decode c_TX_init 41 = .ok (.iload_n 1, 1) := by decide +kernel
theorem d_TX_init_42 : decode c_TX_init 42 = .ok (.new 15, 3) := by decide +kernel
theorem d_TX_init_45 : decode c_TX_init 45 = .ok (.dup, 1) := by decide +kernel
theorem d_TX_init_46 : decode c_TX_init 46 = .ok (.invokespecial 30, 3) := by decide +kernel
theorem d_TX_init_49 : decode c_TX_init 49 = .ok (.aastore, 1) := by decide +kernel
theorem d_TX_init_50 : decode c_TX_init 50 = .ok (.iinc 1 1, 3) := by decide +kernel
theorem d_TX_init_53 : decode c_TX_init 53 = .ok (.goto (-22), 3) := by decide +kernel
theorem d_TX_init_56 : decode c_TX_init 56 = .ok (.return_, 1) := by decide +kernel
theorem d_TX_collect_0 : decode c_TX_collect 0 = .ok (.aload_n 0, 1) := by decide +kernel
theorem d_TX_collect_1 : decode c_TX_collect 1 = .ok (.getfield 31, 3) := by decide +kernel
theorem d_TX_collect_4 : decode c_TX_collect 4 = .ok (.sipush 400, 3) := by decide +kernel
theorem d_TX_collect_7 : decode c_TX_collect 7 = .ok (.if_icmp .lt 5, 3) := by decide +kernel
theorem d_TX_collect_10 : decode c_TX_collect 10 = .ok (.iconst (-1), 1) := by decide +kernel
theorem d_TX_collect_11 : decode c_TX_collect 11 = .ok (.ireturn, 1) := by decide +kernel
theorem d_TX_collect_12 : decode c_TX_collect 12 = .ok (.aload_n 0, 1) := by decide +kernel
theorem d_TX_collect_13 : decode c_TX_collect 13 = .ok (.getfield 9, 3) := by decide +kernel
theorem d_TX_collect_16 : decode c_TX_collect 16 = .ok (.aload_n 0, 1) := by decide +kernel
theorem d_TX_collect_17 : decode c_TX_collect 17 = .ok (.getfield 31, 3) := by decide +kernel
theorem d_TX_collect_20 : decode c_TX_collect 20 = .ok (.iload_n 1, 1) := by decide +kernel
theorem d_TX_collect_21 : decode c_TX_collect 21 = .ok (.iastore, 1) := by decide +kernel
theorem d_TX_collect_22 : decode c_TX_collect 22 = .ok (.aload_n 0, 1) := by decide +kernel
theorem d_TX_collect_23 : decode c_TX_collect 23 = .ok (.dup, 1) := by decide +kernel
theorem d_TX_collect_24 : decode c_TX_collect 24 = .ok (.getfield 31, 3) := by decide +kernel
theorem d_TX_collect_27 : decode c_TX_collect 27 = .ok (.iconst 1, 1) := by decide +kernel
theorem d_TX_collect_28 : decode c_TX_collect 28 = .ok (.iadd, 1) := by decide +kernel
theorem d_TX_collect_29 : decode c_TX_collect 29 = .ok (.putfield 31, 3) := by decide +kernel
theorem d_TX_collect_32 : decode c_TX_collect 32 = .ok (.aload_n 0, 1) := by decide +kernel
theorem d_TX_collect_33 : decode c_TX_collect 33 = .ok (.getfield 31, 3) := by decide +kernel
theorem d_TX_collect_36 : decode c_TX_collect 36 = .ok (.ireturn, 1) := by decide +kernel
theorem d_TX_forget_0 : decode c_TX_forget 0 = .ok (.aload_n 0, 1) := by decide +kernel
theorem d_TX_forget_1 : decode c_TX_forget 1 = .ok (.iconst 0, 1) := by decide +kernel
theorem d_TX_forget_2 : decode c_TX_forget 2 = .ok (.putfield 31, 3) := by decide +kernel
theorem d_TX_forget_5 : decode c_TX_forget 5 = .ok (.return_, 1) := by decide +kernel
theorem d_TX_readLines_0 : decode c_TX_readLines 0 = .ok (.aload_n 0, 1) := by decide +kernel
theorem d_TX_readLines_1 : decode c_TX_readLines 1 = .ok (.iconst 0, 1) := by decide +kernel
theorem d_TX_readLines_2 : decode c_TX_readLines 2 = .ok (.putfield 35, 3) := by decide +kernel
theorem d_TX_readLines_5 : decode c_TX_readLines 5 = .ok (.iconst 0, 1) := by decide +kernel
theorem d_TX_readLines_6 : decode c_TX_readLines 6 = .ok (.istore_n 2, 1) := by decide +kernel
theorem d_TX_readLines_7 : decode c_TX_readLines 7 = .ok (.iload_n 2, 1) := by decide +kernel
theorem d_TX_readLines_8 : decode c_TX_readLines 8 = .ok (.iload_n 1, 1) := by decide +kernel
theorem d_TX_readLines_9 : decode c_TX_readLines 9 = .ok (.if_icmp .ge 46, 3) := by decide +kernel
theorem d_TX_readLines_12 : decode c_TX_readLines 12 = .ok (.iload_n 2, 1) := by decide +kernel
theorem d_TX_readLines_13 : decode c_TX_readLines 13 = .ok (.bipush 24, 2) := by decide +kernel
theorem d_TX_readLines_15 : decode c_TX_readLines 15 = .ok (.if_icmp .ge 40, 3) := by decide +kernel
theorem d_TX_readLines_18 : decode c_TX_readLines 18 = .ok (.aload_n 0, 1) := by decide +kernel
theorem d_TX_readLines_19 : decode c_TX_readLines 19 = .ok (.getfield 35, 3) := by decide +kernel
theorem d_TX_readLines_22 : decode c_TX_readLines 22 = .ok (.aload_n 0, 1) := by decide +kernel
theorem d_TX_readLines_23 : decode c_TX_readLines 23 = .ok (.getfield 31, 3) := by decide +kernel
theorem d_TX_readLines_26 : decode c_TX_readLines 26 = .ok (.if_icmp .ge 29, 3) := by decide +kernel
theorem d_TX_readLines_29 : decode c_TX_readLines 29 = .ok (.aload_n 0, 1) := by decide +kernel
theorem d_TX_readLines_30 : decode c_TX_readLines 30 = .ok (.aload_n 0, 1) := by decide +kernel
theorem d_TX_readLines_31 : decode c_TX_readLines 31 = .ok (.getfield 17, 3) := by decide +kernel
theorem d_TX_readLines_34 : decode c_TX_readLines 34 = .ok (.iload_n 2, 1) := by decide +kernel
theorem d_TX_readLines_35 : decode c_TX_readLines 35 = .ok (.aaload, 1) := by decide +kernel
theorem d_TX_readLines_36 : decode c_TX_readLines 36 = .ok (.invokevirtual 38, 3) := by decide +kernel
theorem d_TX_readLines_39 : decode c_TX_readLines 39 = .ok (.ifCond .ne 10, 3) := by decide +kernel
theorem d_TX_readLines_42 : decode c_TX_readLines 42 = .ok (.iconst (-1), 1) := by decide +kernel
theorem d_TX_readLines_43 : decode c_TX_readLines 43 = .ok (.aload_n 0, 1) := by decide +kernel
theorem d_TX_readLines_44 : decode c_TX_readLines 44 = .ok (.getfield 42, 3) := by decide +kernel
theorem d_TX_readLines_47 : decode c_TX_readLines 47 = .ok (.isub, 1) := by decide +kernel
theorem d_TX_readLines_48 : decode c_TX_readLines 48 = .ok (.ireturn, 1) := by decide +kernel
theorem d_TX_readLines_49 : decode c_TX_readLines 49 = .ok (.iinc 2 1, 3) := by decide +kernel
theorem d_TX_readLines_52 : decode c_TX_readLines 52 = .ok (.goto (-45), 3) := by decide +kernel
theorem d_TX_readLines_55 : decode c_TX_readLines 55 = .ok (.aload_n 0, 1) := by decide +kernel
theorem d_TX_readLines_56 : decode c_TX_readLines 56 = .ok (.getfield 35, 3) := by decide +kernel
theorem d_TX_readLines_59 : decode c_TX_readLines 59 = .ok (.aload_n 0, 1) := by decide +kernel
theorem d_TX_readLines_60 : decode c_TX_readLines 60 = .ok (.getfield 31, 3) := by decide +kernel
theorem d_TX_readLines_63 : decode c_TX_readLines 63 = .ok (.if_icmp .ge 12, 3) := by decide +kernel
theorem d_TX_readLines_66 : decode c_TX_readLines 66 = .ok (.iconst (-1), 1) := by decide +kernel
theorem d_TX_readLines_67 : decode c_TX_readLines 67 = .ok (.aload_n 0, 1) := by decide +kernel
theorem d_TX_readLines_68 : decode c_TX_readLines 68 = .ok (.getfield 35, 3) := by decide +kernel
theorem d_TX_readLines_71 : decode c_TX_readLines 71 = .ok (.isub, 1) := by decide +kernel
theorem d_TX_readLines_72 : decode c_TX_readLines 72 = .ok (.goto 4, 3) := by decide +kernel
theorem d_TX_readLines_75 : decode c_TX_readLines 75 = .ok (.iload_n 2, 1) := by decide +kernel
theorem d_TX_readLines_76 : decode c_TX_readLines 76 = .ok (.ireturn, 1) := by decide +kernel
theorem d_TX_readLine_0 : decode c_TX_readLine 0 = .ok (.aload_n 0, 1) := by decide +kernel
theorem d_TX_readLine_1 : decode c_TX_readLine 1 = .ok (.iconst 1, 1) := by decide +kernel
theorem d_TX_readLine_2 : decode c_TX_readLine 2 = .ok (.bipush 100, 2) := by decide +kernel
theorem d_TX_readLine_4 : decode c_TX_readLine 4 = .ok (.invokevirtual 45, 3) := by decide +kernel
theorem d_TX_readLine_7 : decode c_TX_readLine 7 = .ok (.ifCond .ne 5, 3) := by decide +kernel
theorem d_TX_readLine_10 : decode c_TX_readLine 10 = .ok (.iconst 0, 1) := by decide +kernel
theorem d_TX_readLine_11 : decode c_TX_readLine 11 = .ok (.ireturn, 1) := by decide +kernel
theorem d_TX_readLine_12 : decode c_TX_readLine 12 = .ok (.aload_n 1, 1) := by decide +kernel
theorem d_TX_readLine_13 : decode c_TX_readLine 13 = .ok (.aload_n 0, 1) := by decide +kernel
theorem d_TX_readLine_14 : decode c_TX_readLine 14 = .ok (.getfield 49, 3) := by decide +kernel
theorem d_TX_readLine_17 : decode c_TX_readLine 17 = .ok (.putfield 52, 3) := by decide +kernel
theorem d_TX_readLine_20 : decode c_TX_readLine 20 = .ok (.aload_n 0, 1) := by decide +kernel
theorem d_TX_readLine_21 : decode c_TX_readLine 21 = .ok (.invokevirtual 55, 3) := by decide +kernel
theorem d_TX_readLine_24 : decode c_TX_readLine 24 = .ok (.ifCond .eq 10, 3) := by decide +kernel
theorem d_TX_readLine_27 : decode c_TX_readLine 27 = .ok (.aload_n 0, 1) := by decide +kernel
theorem d_TX_readLine_28 : decode c_TX_readLine 28 = .ok (.invokevirtual 59, 3) := by decide +kernel
theorem d_TX_readLine_31 : decode c_TX_readLine 31 = .ok (.ifCond .ne 5, 3) := by decide +kernel
theorem d_TX_readLine_34 : decode c_TX_readLine 34 = .ok (.iconst 0, 1) := by decide +kernel
theorem d_TX_readLine_35 : decode c_TX_readLine 35 = .ok (.ireturn, 1) := by decide +kernel
theorem d_TX_readLine_36 : decode c_TX_readLine 36 = .ok (.aload_n 1, 1) := by decide +kernel
theorem d_TX_readLine_37 : decode c_TX_readLine 37 = .ok (.aload_n 0, 1) := by decide +kernel
theorem d_TX_readLine_38 : decode c_TX_readLine 38 = .ok (.getfield 27, 3) := by decide +kernel
theorem d_TX_readLine_41 : decode c_TX_readLine 41 = .ok (.putfield 62, 3) := by decide +kernel
theorem d_TX_readLine_44 : decode c_TX_readLine 44 = .ok (.aload_n 0, 1) := by decide +kernel
theorem d_TX_readLine_45 : decode c_TX_readLine 45 = .ok (.invokevirtual 55, 3) := by decide +kernel
theorem d_TX_readLine_48 : decode c_TX_readLine 48 = .ok (.ifCond .eq 24, 3) := by decide +kernel
theorem d_TX_readLine_51 : decode c_TX_readLine 51 = .ok (.aload_n 0, 1) := by decide +kernel
theorem d_TX_readLine_52 : decode c_TX_readLine 52 = .ok (.aload_n 0, 1) := by decide +kernel
theorem d_TX_readLine_53 : decode c_TX_readLine 53 = .ok (.getfield 27, 3) := by decide +kernel
theorem d_TX_readLine_56 : decode c_TX_readLine 56 = .ok (.getfield 63, 3) := by decide +kernel
theorem d_TX_readLine_59 : decode c_TX_readLine 59 = .ok (.aload_n 0, 1) := by decide +kernel
theorem d_TX_readLine_60 : decode c_TX_readLine 60 = .ok (.getfield 27, 3) := by decide +kernel
theorem d_TX_readLine_63 : decode c_TX_readLine 63 = .ok (.getfield 66, 3) := by decide +kernel
theorem d_TX_readLine_66 : decode c_TX_readLine 66 = .ok (.invokevirtual 45, 3) := by decide +kernel
theorem d_TX_readLine_69 : decode c_TX_readLine 69 = .ok (.ifCond .ne 5, 3) := by decide +kernel
theorem d_TX_readLine_72 : decode c_TX_readLine 72 = .ok (.iconst 0, 1) := by decide +kernel
theorem d_TX_readLine_73 : decode c_TX_readLine 73 = .ok (.ireturn, 1) := by decide +kernel
theorem d_TX_readLine_74 : decode c_TX_readLine 74 = .ok (.aload_n 1, 1) := by decide +kernel
theorem d_TX_readLine_75 : decode c_TX_readLine 75 = .ok (.aload_n 0, 1) := by decide +kernel
theorem d_TX_readLine_76 : decode c_TX_readLine 76 = .ok (.getfield 49, 3) := by decide +kernel
theorem d_TX_readLine_79 : decode c_TX_readLine 79 = .ok (.putfield 69, 3) := by decide +kernel
theorem d_TX_readLine_82 : decode c_TX_readLine 82 = .ok (.aload_n 1, 1) := by decide +kernel
theorem d_TX_readLine_83 : decode c_TX_readLine 83 = .ok (.iconst 0, 1) := by decide +kernel
theorem d_TX_readLine_84 : decode c_TX_readLine 84 = .ok (.putfield 72, 3) := by decide +kernel
theorem d_TX_readLine_87 : decode c_TX_readLine 87 = .ok (.aload_n 0, 1) := by decide +kernel
theorem d_TX_readLine_88 : decode c_TX_readLine 88 = .ok (.getfield 27, 3) := by decide +kernel
theorem d_TX_readLine_91 : decode c_TX_readLine 91 = .ok (.invokevirtual 75, 3) := by decide +kernel
theorem d_TX_readLine_94 : decode c_TX_readLine 94 = .ok (.ifCond .eq 41, 3) := by decide +kernel
theorem d_TX_readLine_97 : decode c_TX_readLine 97 = .ok (.aload_n 0, 1) := by decide +kernel
theorem d_TX_readLine_98 : decode c_TX_readLine 98 = .ok (.invokevirtual 55, 3) := by decide +kernel
theorem d_TX_readLine_101 : decode c_TX_readLine 101 = .ok (.ifCond .eq 24, 3) := by decide +kernel
theorem d_TX_readLine_104 : decode c_TX_readLine 104 = .ok (.aload_n 0, 1) := by decide +kernel
theorem d_TX_readLine_105 : decode c_TX_readLine 105 = .ok (.aload_n 0, 1) := by decide +kernel
theorem d_TX_readLine_106 : decode c_TX_readLine 106 = .ok (.getfield 27, 3) := by decide +kernel
theorem d_TX_readLine_109 : decode c_TX_readLine 109 = .ok (.invokevirtual 78, 3) := by decide +kernel
theorem d_TX_readLine_112 : decode c_TX_readLine 112 = .ok (.aload_n 0, 1) := by decide +kernel
theorem d_TX_readLine_113 : decode c_TX_readLine 113 = .ok (.getfield 27, 3) := by decide +kernel
theorem d_TX_readLine_116 : decode c_TX_readLine 116 = .ok (.invokevirtual 82, 3) := by decide +kernel
theorem d_TX_readLine_119 : decode c_TX_readLine 119 = .ok (.invokevirtual 45, 3) := by decide +kernel
theorem d_TX_readLine_122 : decode c_TX_readLine 122 = .ok (.ifCond .ne 5, 3) := by decide +kernel
theorem d_TX_readLine_125 : decode c_TX_readLine 125 = .ok (.iconst 0, 1) := by decide +kernel
theorem d_TX_readLine_126 : decode c_TX_readLine 126 = .ok (.ireturn, 1) := by decide +kernel
theorem d_TX_readLine_127 : decode c_TX_readLine 127 = .ok (.aload_n 1, 1) := by decide +kernel
theorem d_TX_readLine_128 : decode c_TX_readLine 128 = .ok (.aload_n 0, 1) := by decide +kernel
theorem d_TX_readLine_129 : decode c_TX_readLine 129 = .ok (.getfield 49, 3) := by decide +kernel
theorem d_TX_readLine_132 : decode c_TX_readLine 132 = .ok (.putfield 72, 3) := by decide +kernel
theorem d_TX_readLine_135 : decode c_TX_readLine 135 = .ok (.aload_n 0, 1) := by decide +kernel
theorem d_TX_readLine_136 : decode c_TX_readLine 136 = .ok (.getfield 35, 3) := by decide +kernel
theorem d_TX_readLine_139 : decode c_TX_readLine 139 = .ok (.aload_n 0, 1) := by decide +kernel
theorem d_TX_readLine_140 : decode c_TX_readLine 140 = .ok (.getfield 31, 3) := by decide +kernel
theorem d_TX_readLine_143 : decode c_TX_readLine 143 = .ok (.if_icmp .ge 12, 3) := by decide +kernel
theorem d_TX_readLine_146 : decode c_TX_readLine 146 = .ok (.aload_n 0, 1) := by decide +kernel
theorem d_TX_readLine_147 : decode c_TX_readLine 147 = .ok (.bipush 10, 2) := by decide +kernel
theorem d_TX_readLine_149 : decode c_TX_readLine 149 = .ok (.invokevirtual 85, 3) := by decide +kernel
theorem d_TX_readLine_152 : decode c_TX_readLine 152 = .ok (.ifCond .eq 7, 3) := by decide +kernel
theorem d_TX_readLine_155 : decode c_TX_readLine 155 = .ok (.iconst 1, 1) := by decide +kernel
theorem d_TX_readLine_156 : decode c_TX_readLine 156 = .ok (.goto 4, 3) := by decide +kernel
theorem d_TX_readLine_159 : decode c_TX_readLine 159 = .ok (.iconst 0, 1) := by decide +kernel
theorem d_TX_readLine_160 : decode c_TX_readLine 160 = .ok (.ireturn, 1) := by decide +kernel
theorem d_TX_readNumber_0 : decode c_TX_readNumber 0 = .ok (.aload_n 0, 1) := by decide +kernel
theorem d_TX_readNumber_1 : decode c_TX_readNumber 1 = .ok (.getfield 35, 3) := by decide +kernel
theorem d_TX_readNumber_4 : decode c_TX_readNumber 4 = .ok (.istore_n 3, 1) := by decide +kernel
theorem d_TX_readNumber_5 : decode c_TX_readNumber 5 = .ok (.aload_n 0, 1) := by decide +kernel
theorem d_TX_readNumber_6 : decode c_TX_readNumber 6 = .ok (.iconst 0, 1) := by decide +kernel
theorem d_TX_readNumber_7 : decode c_TX_readNumber 7 = .ok (.putfield 49, 3) := by decide +kernel
theorem d_TX_readNumber_10 : decode c_TX_readNumber 10 = .ok (.iconst 0, 1) := by decide +kernel
theorem d_TX_readNumber_11 : decode c_TX_readNumber 11 = .ok (.istore 4, 2) := by decide +kernel
theorem d_TX_readNumber_13 : decode c_TX_readNumber 13 = .ok (.iload 4, 2) := by decide +kernel
theorem d_TX_readNumber_15 : decode c_TX_readNumber 15 = .ok (.bipush 6, 2) := by decide +kernel
theorem d_TX_readNumber_17 : decode c_TX_readNumber 17 = .ok (.if_icmp .gt 88, 3) := by decide +kernel
theorem d_TX_readNumber_20 : decode c_TX_readNumber 20 = .ok (.aload_n 0, 1) := by decide +kernel
theorem d_TX_readNumber_21 : decode c_TX_readNumber 21 = .ok (.invokevirtual 89, 3) := by decide +kernel
theorem d_TX_readNumber_24 : decode c_TX_readNumber 24 = .ok (.invokestatic 92, 3) := by decide +kernel
theorem d_TX_readNumber_27 : decode c_TX_readNumber 27 = .ok (.ifCond .eq 78, 3) := by decide +kernel
theorem d_TX_readNumber_30 : decode c_TX_readNumber 30 = .ok (.iload 4, 2) := by decide +kernel
theorem d_TX_readNumber_32 : decode c_TX_readNumber 32 = .ok (.ifCond .le 14, 3) := by decide +kernel
theorem d_TX_readNumber_35 : decode c_TX_readNumber 35 = .ok (.aload_n 0, 1) := by decide +kernel
theorem d_TX_readNumber_36 : decode c_TX_readNumber 36 = .ok (.getfield 49, 3) := by decide +kernel
theorem d_TX_readNumber_39 : decode c_TX_readNumber 39 = .ok (.ifCond .ne 7, 3) := by decide +kernel
theorem d_TX_readNumber_42 : decode c_TX_readNumber 42 = .ok (.iconst 1, 1) := by decide +kernel
theorem d_TX_readNumber_43 : decode c_TX_readNumber 43 = .ok (.goto 4, 3) := by decide +kernel
theorem d_TX_readNumber_46 : decode c_TX_readNumber 46 = .ok (.iconst 0, 1) := by decide +kernel
theorem d_TX_readNumber_47 : decode c_TX_readNumber 47 = .ok (.istore 5, 2) := by decide +kernel
theorem d_TX_readNumber_49 : decode c_TX_readNumber 49 = .ok (.iload 5, 2) := by decide +kernel
theorem d_TX_readNumber_51 : decode c_TX_readNumber 51 = .ok (.ifCond .ne 10, 3) := by decide +kernel
theorem d_TX_readNumber_54 : decode c_TX_readNumber 54 = .ok (.iload 4, 2) := by decide +kernel
theorem d_TX_readNumber_56 : decode c_TX_readNumber 56 = .ok (.bipush 6, 2) := by decide +kernel
theorem d_TX_readNumber_58 : decode c_TX_readNumber 58 = .ok (.if_icmp .ne 12, 3) := by decide +kernel
theorem d_TX_readNumber_61 : decode c_TX_readNumber 61 = .ok (.aload_n 0, 1) := by decide +kernel
theorem d_TX_readNumber_62 : decode c_TX_readNumber 62 = .ok (.aload_n 0, 1) := by decide +kernel
theorem d_TX_readNumber_63 : decode c_TX_readNumber 63 = .ok (.getfield 35, 3) := by decide +kernel
theorem d_TX_readNumber_66 : decode c_TX_readNumber 66 = .ok (.invokevirtual 95, 3) := by decide +kernel
theorem d_TX_readNumber_69 : decode c_TX_readNumber 69 = .ok (.ireturn, 1) := by decide +kernel
theorem d_TX_readNumber_70 : decode c_TX_readNumber 70 = .ok (.aload_n 0, 1) := by decide +kernel
theorem d_TX_readNumber_71 : decode c_TX_readNumber 71 = .ok (.aload_n 0, 1) := by decide +kernel
theorem d_TX_readNumber_72 : decode c_TX_readNumber 72 = .ok (.getfield 49, 3) := by decide +kernel
theorem d_TX_readNumber_75 : decode c_TX_readNumber 75 = .ok (.bipush 10, 2) := by decide +kernel
theorem d_TX_readNumber_77 : decode c_TX_readNumber 77 = .ok (.imul, 1) := by decide +kernel
theorem d_TX_readNumber_78 : decode c_TX_readNumber 78 = .ok (.aload_n 0, 1) := by decide +kernel
theorem d_TX_readNumber_79 : decode c_TX_readNumber 79 = .ok (.invokevirtual 89, 3) := by decide +kernel
theorem d_TX_readNumber_82 : decode c_TX_readNumber 82 = .ok (.iadd, 1) := by decide +kernel
theorem d_TX_readNumber_83 : decode c_TX_readNumber 83 = .ok (.bipush 48, 2) := by decide +kernel
theorem d_TX_readNumber_85 : decode c_TX_readNumber 85 = .ok (.isub, 1) := by decide +kernel
theorem d_TX_readNumber_86 : decode c_TX_readNumber 86 = .ok (.putfield 49, 3) := by decide +kernel
theorem d_TX_readNumber_89 : decode c_TX_readNumber 89 = .ok (.aload_n 0, 1) := by decide +kernel
theorem d_TX_readNumber_90 : decode c_TX_readNumber 90 = .ok (.dup, 1) := by decide +kernel
theorem d_TX_readNumber_91 : decode c_TX_readNumber 91 = .ok (.getfield 35, 3) := by decide +kernel
theorem d_TX_readNumber_94 : decode c_TX_readNumber 94 = .ok (.iconst 1, 1) := by decide +kernel
theorem d_TX_readNumber_95 : decode c_TX_readNumber 95 = .ok (.iadd, 1) := by decide +kernel
theorem d_TX_readNumber_96 : decode c_TX_readNumber 96 = .ok (.putfield 35, 3) := by decide +kernel
theorem d_TX_readNumber_99 : decode c_TX_readNumber 99 = .ok (.iinc 4 1, 3) := by decide +kernel
theorem d_TX_readNumber_102 : decode c_TX_readNumber 102 = .ok (.goto (-89), 3) := by decide +kernel
theorem d_TX_readNumber_105 : decode c_TX_readNumber 105 = .ok (.aload_n 0, 1) := by decide +kernel
theorem d_TX_readNumber_106 : decode c_TX_readNumber 106 = .ok (.getfield 35, 3) := by decide +kernel
theorem d_TX_readNumber_109 : decode c_TX_readNumber 109 = .ok (.iload_n 3, 1) := by decide +kernel
theorem d_TX_readNumber_110 : decode c_TX_readNumber 110 = .ok (.if_icmp .ne 12, 3) := by decide +kernel
theorem d_TX_readNumber_113 : decode c_TX_readNumber 113 = .ok (.aload_n 0, 1) := by decide +kernel
theorem d_TX_readNumber_114 : decode c_TX_readNumber 114 = .ok (.aload_n 0, 1) := by decide +kernel
theorem d_TX_readNumber_115 : decode c_TX_readNumber 115 = .ok (.getfield 35, 3) := by decide +kernel
theorem d_TX_readNumber_118 : decode c_TX_readNumber 118 = .ok (.invokevirtual 95, 3) := by decide +kernel
theorem d_TX_readNumber_121 : decode c_TX_readNumber 121 = .ok (.ireturn, 1) := by decide +kernel
theorem d_TX_readNumber_122 : decode c_TX_readNumber 122 = .ok (.aload_n 0, 1) := by decide +kernel
theorem d_TX_readNumber_123 : decode c_TX_readNumber 123 = .ok (.getfield 49, 3) := by decide +kernel
theorem d_TX_readNumber_126 : decode c_TX_readNumber 126 = .ok (.iload_n 1, 1) := by decide +kernel
theorem d_TX_readNumber_127 : decode c_TX_readNumber 127 = .ok (.if_icmp .lt 11, 3) := by decide +kernel
theorem d_TX_readNumber_130 : decode c_TX_readNumber 130 = .ok (.aload_n 0, 1) := by decide +kernel
theorem d_TX_readNumber_131 : decode c_TX_readNumber 131 = .ok (.getfield 49, 3) := by decide +kernel
theorem d_TX_readNumber_134 : decode c_TX_readNumber 134 = .ok (.iload_n 2, 1) := by decide +kernel
theorem d_TX_readNumber_135 : decode c_TX_readNumber 135 = .ok (.if_icmp .le 11, 3) := by decide +kernel
theorem d_TX_readNumber_138 : decode c_TX_readNumber 138 = .ok (.aload_n 0, 1) := by decide +kernel
theorem d_TX_readNumber_139 : decode c_TX_readNumber 139 = .ok (.iload_n 3, 1) := by decide +kernel
theorem d_TX_readNumber_140 : decode c_TX_readNumber 140 = .ok (.invokevirtual 95, 3) := by decide +kernel
theorem d_TX_readNumber_143 : decode c_TX_readNumber 143 = .ok (.ifCond .eq 7, 3) := by decide +kernel
theorem d_TX_readNumber_146 : decode c_TX_readNumber 146 = .ok (.iconst 1, 1) := by decide +kernel
theorem d_TX_readNumber_147 : decode c_TX_readNumber 147 = .ok (.goto 4, 3) := by decide +kernel
theorem d_TX_readNumber_150 : decode c_TX_readNumber 150 = .ok (.iconst 0, 1) := by decide +kernel
theorem d_TX_readNumber_151 : decode c_TX_readNumber 151 = .ok (.ireturn, 1) := by decide +kernel
theorem d_TX_readKind_0 : decode c_TX_readKind 0 = .ok (.iconst (-1), 1) := by decide +kernel
theorem d_TX_readKind_1 : decode c_TX_readKind 1 = .ok (.istore_n 1, 1) := by decide +kernel
theorem d_TX_readKind_2 : decode c_TX_readKind 2 = .ok (.iconst 0, 1) := by decide +kernel
theorem d_TX_readKind_3 : decode c_TX_readKind 3 = .ok (.istore_n 2, 1) := by decide +kernel
theorem d_TX_readKind_4 : decode c_TX_readKind 4 = .ok (.iload_n 2, 1) := by decide +kernel
theorem d_TX_readKind_5 : decode c_TX_readKind 5 = .ok (.getstatic 98, 3) := by decide +kernel
theorem d_TX_readKind_8 : decode c_TX_readKind 8 = .ok (.arraylength, 1) := by decide +kernel
theorem d_TX_readKind_9 : decode c_TX_readKind 9 = .ok (.if_icmp .ge 58, 3) := by decide +kernel
theorem d_TX_readKind_12 : decode c_TX_readKind 12 = .ok (.aload_n 0, 1) := by decide +kernel
theorem d_TX_readKind_13 : decode c_TX_readKind 13 = .ok (.getstatic 98, 3) := by decide +kernel
theorem d_TX_readKind_16 : decode c_TX_readKind 16 = .ok (.iload_n 2, 1) := by decide +kernel
theorem d_TX_readKind_17 : decode c_TX_readKind 17 = .ok (.aaload, 1) := by decide +kernel
theorem d_TX_readKind_18 : decode c_TX_readKind 18 = .ok (.getfield 102, 3) := by decide +kernel
theorem d_TX_readKind_21 : decode c_TX_readKind 21 = .ok (.invokevirtual 106, 3) := by decide +kernel
theorem d_TX_readKind_24 : decode c_TX_readKind 24 = .ok (.istore_n 3, 1) := by decide +kernel
theorem d_TX_readKind_25 : decode c_TX_readKind 25 = .ok (.iload_n 3, 1) := by decide +kernel
theorem d_TX_readKind_26 : decode c_TX_readKind 26 = .ok (.iload_n 1, 1) := by decide +kernel
theorem d_TX_readKind_27 : decode c_TX_readKind 27 = .ok (.if_icmp .gt 23, 3) := by decide +kernel
theorem d_TX_readKind_30 : decode c_TX_readKind 30 = .ok (.iload_n 3, 1) := by decide +kernel
theorem d_TX_readKind_31 : decode c_TX_readKind 31 = .ok (.iload_n 1, 1) := by decide +kernel
theorem d_TX_readKind_32 : decode c_TX_readKind 32 = .ok (.if_icmp .ne 29, 3) := by decide +kernel
theorem d_TX_readKind_35 : decode c_TX_readKind 35 = .ok (.iload_n 3, 1) := by decide +kernel
theorem d_TX_readKind_36 : decode c_TX_readKind 36 = .ok (.getstatic 98, 3) := by decide +kernel
theorem d_TX_readKind_39 : decode c_TX_readKind 39 = .ok (.iload_n 2, 1) := by decide +kernel
theorem d_TX_readKind_40 : decode c_TX_readKind 40 = .ok (.aaload, 1) := by decide +kernel
theorem d_TX_readKind_41 : decode c_TX_readKind 41 = .ok (.getfield 102, 3) := by decide +kernel
theorem d_TX_readKind_44 : decode c_TX_readKind 44 = .ok (.invokevirtual 110, 3) := by decide +kernel
theorem d_TX_readKind_47 : decode c_TX_readKind 47 = .ok (.if_icmp .ne 14, 3) := by decide +kernel
theorem d_TX_readKind_50 : decode c_TX_readKind 50 = .ok (.iload_n 3, 1) := by decide +kernel
theorem d_TX_readKind_51 : decode c_TX_readKind 51 = .ok (.istore_n 1, 1) := by decide +kernel
theorem d_TX_readKind_52 : decode c_TX_readKind 52 = .ok (.aload_n 0, 1) := by decide +kernel
theorem d_TX_readKind_53 : decode c_TX_readKind 53 = .ok (.getstatic 98, 3) := by decide +kernel
theorem d_TX_readKind_56 : decode c_TX_readKind 56 = .ok (.iload_n 2, 1) := by decide +kernel
theorem d_TX_readKind_57 : decode c_TX_readKind 57 = .ok (.aaload, 1) := by decide +kernel
theorem d_TX_readKind_58 : decode c_TX_readKind 58 = .ok (.putfield 27, 3) := by decide +kernel
theorem d_TX_readKind_61 : decode c_TX_readKind 61 = .ok (.iinc 2 1, 3) := by decide +kernel
theorem d_TX_readKind_64 : decode c_TX_readKind 64 = .ok (.goto (-60), 3) := by decide +kernel
theorem d_TX_readKind_67 : decode c_TX_readKind 67 = .ok (.aload_n 0, 1) := by decide +kernel
theorem d_TX_readKind_68 : decode c_TX_readKind 68 = .ok (.dup, 1) := by decide +kernel
theorem d_TX_readKind_69 : decode c_TX_readKind 69 = .ok (.getfield 35, 3) := by decide +kernel
theorem d_TX_readKind_72 : decode c_TX_readKind 72 = .ok (.iload_n 1, 1) := by decide +kernel
theorem d_TX_readKind_73 : decode c_TX_readKind 73 = .ok (.iadd, 1) := by decide +kernel
theorem d_TX_readKind_74 : decode c_TX_readKind 74 = .ok (.putfield 35, 3) := by decide +kernel
theorem d_TX_readKind_77 : decode c_TX_readKind 77 = .ok (.iload_n 1, 1) := by decide +kernel
theorem d_TX_readKind_78 : decode c_TX_readKind 78 = .ok (.aload_n 0, 1) := by decide +kernel
theorem d_TX_readKind_79 : decode c_TX_readKind 79 = .ok (.getfield 27, 3) := by decide +kernel
theorem d_TX_readKind_82 : decode c_TX_readKind 82 = .ok (.getfield 102, 3) := by decide +kernel
theorem d_TX_readKind_85 : decode c_TX_readKind 85 = .ok (.invokevirtual 110, 3) := by decide +kernel
theorem d_TX_readKind_88 : decode c_TX_readKind 88 = .ok (.if_icmp .eq 14, 3) := by decide +kernel
theorem d_TX_readKind_91 : decode c_TX_readKind 91 = .ok (.aload_n 0, 1) := by decide +kernel
theorem d_TX_readKind_92 : decode c_TX_readKind 92 = .ok (.aload_n 0, 1) := by decide +kernel
theorem d_TX_readKind_93 : decode c_TX_readKind 93 = .ok (.getfield 35, 3) := by decide +kernel
theorem d_TX_readKind_96 : decode c_TX_readKind 96 = .ok (.invokevirtual 95, 3) := by decide +kernel
theorem d_TX_readKind_99 : decode c_TX_readKind 99 = .ok (.ifCond .eq 7, 3) := by decide +kernel
theorem d_TX_readKind_102 : decode c_TX_readKind 102 = .ok (.iconst 1, 1) := by decide +kernel
theorem d_TX_readKind_103 : decode c_TX_readKind 103 = .ok (.goto 4, 3) := by decide +kernel
theorem d_TX_readKind_106 : decode c_TX_readKind 106 = .ok (.iconst 0, 1) := by decide +kernel
theorem d_TX_readKind_107 : decode c_TX_readKind 107 = .ok (.ireturn, 1) := by decide +kernel
theorem d_TX_sharedSigns_0 : decode c_TX_sharedSigns 0 = .ok (.iconst 0, 1) := by decide +kernel
theorem d_TX_sharedSigns_1 : decode c_TX_sharedSigns 1 = .ok (.istore_n 2, 1) := by decide +kernel
theorem d_TX_sharedSigns_2 : decode c_TX_sharedSigns 2 = .ok (.iload_n 2, 1) := by decide +kernel
theorem d_TX_sharedSigns_3 : decode c_TX_sharedSigns 3 = .ok (.aload_n 1, 1) := by decide +kernel
theorem d_TX_sharedSigns_4 : decode c_TX_sharedSigns 4 = .ok (.invokevirtual 110, 3) := by decide +kernel
theorem d_TX_sharedSigns_7 : decode c_TX_sharedSigns 7 = .ok (.if_icmp .ge 41, 3) := by decide +kernel
theorem d_TX_sharedSigns_10 : decode c_TX_sharedSigns 10 = .ok (.aload_n 0, 1) := by decide +kernel
theorem d_TX_sharedSigns_11 : decode c_TX_sharedSigns 11 = .ok (.getfield 35, 3) := by decide +kernel
theorem d_TX_sharedSigns_14 : decode c_TX_sharedSigns 14 = .ok (.iload_n 2, 1) := by decide +kernel
theorem d_TX_sharedSigns_15 : decode c_TX_sharedSigns 15 = .ok (.iadd, 1) := by decide +kernel
theorem d_TX_sharedSigns_16 : decode c_TX_sharedSigns 16 = .ok (.aload_n 0, 1) := by decide +kernel
theorem d_TX_sharedSigns_17 : decode c_TX_sharedSigns 17 = .ok (.getfield 31, 3) := by decide +kernel
theorem d_TX_sharedSigns_20 : decode c_TX_sharedSigns 20 = .ok (.if_icmp .ge 28, 3) := by decide +kernel
theorem d_TX_sharedSigns_23 : decode c_TX_sharedSigns 23 = .ok (.aload_n 0, 1) := by decide +kernel
theorem d_TX_sharedSigns_24 : decode c_TX_sharedSigns 24 = .ok (.getfield 9, 3) := by decide +kernel
theorem d_TX_sharedSigns_27 : decode c_TX_sharedSigns 27 = .ok (.aload_n 0, 1) := by decide +kernel
theorem d_TX_sharedSigns_28 : decode c_TX_sharedSigns 28 = .ok (.getfield 35, 3) := by decide +kernel
theorem d_TX_sharedSigns_31 : decode c_TX_sharedSigns 31 = .ok (.iload_n 2, 1) := by decide +kernel
theorem d_TX_sharedSigns_32 : decode c_TX_sharedSigns 32 = .ok (.iadd, 1) := by decide +kernel
theorem d_TX_sharedSigns_33 : decode c_TX_sharedSigns 33 = .ok (.iaload, 1) := by decide +kernel
theorem d_TX_sharedSigns_34 : decode c_TX_sharedSigns 34 = .ok (.aload_n 1, 1) := by decide +kernel
theorem d_TX_sharedSigns_35 : decode c_TX_sharedSigns 35 = .ok (.iload_n 2, 1) := by decide +kernel
theorem d_TX_sharedSigns_36 : decode c_TX_sharedSigns 36 = .ok (.invokevirtual 115, 3) := by decide +kernel
theorem d_TX_sharedSigns_39 : decode c_TX_sharedSigns 39 = .ok (.if_icmp .ne 9, 3) := by decide +kernel
theorem d_TX_sharedSigns_42 : decode c_TX_sharedSigns 42 = .ok (.iinc 2 1, 3) := by decide +kernel
theorem d_TX_sharedSigns_45 : decode c_TX_sharedSigns 45 = .ok (.goto (-43), 3) := by decide +kernel
theorem d_TX_sharedSigns_48 : decode c_TX_sharedSigns 48 = .ok (.iload_n 2, 1) := by decide +kernel
theorem d_TX_sharedSigns_49 : decode c_TX_sharedSigns 49 = .ok (.ireturn, 1) := by decide +kernel
theorem d_TX_readBlank_0 : decode c_TX_readBlank 0 = .ok (.aload_n 0, 1) := by decide +kernel
theorem d_TX_readBlank_1 : decode c_TX_readBlank 1 = .ok (.bipush 32, 2) := by decide +kernel
theorem d_TX_readBlank_3 : decode c_TX_readBlank 3 = .ok (.invokevirtual 85, 3) := by decide +kernel
theorem d_TX_readBlank_6 : decode c_TX_readBlank 6 = .ok (.ireturn, 1) := by decide +kernel
theorem d_TX_readSign_0 : decode c_TX_readSign 0 = .ok (.aload_n 0, 1) := by decide +kernel
theorem d_TX_readSign_1 : decode c_TX_readSign 1 = .ok (.invokevirtual 89, 3) := by decide +kernel
theorem d_TX_readSign_4 : decode c_TX_readSign 4 = .ok (.iload_n 1, 1) := by decide +kernel
theorem d_TX_readSign_5 : decode c_TX_readSign 5 = .ok (.if_icmp .eq 12, 3) := by decide +kernel
theorem d_TX_readSign_8 : decode c_TX_readSign 8 = .ok (.aload_n 0, 1) := by decide +kernel
theorem d_TX_readSign_9 : decode c_TX_readSign 9 = .ok (.aload_n 0, 1) := by decide +kernel
theorem d_TX_readSign_10 : decode c_TX_readSign 10 = .ok (.getfield 35, 3) := by decide +kernel
theorem d_TX_readSign_13 : decode c_TX_readSign 13 = .ok (.invokevirtual 95, 3) := by decide +kernel
theorem d_TX_readSign_16 : decode c_TX_readSign 16 = .ok (.ireturn, 1) := by decide +kernel
theorem d_TX_readSign_17 : decode c_TX_readSign 17 = .ok (.aload_n 0, 1) := by decide +kernel
theorem d_TX_readSign_18 : decode c_TX_readSign 18 = .ok (.dup, 1) := by decide +kernel
theorem d_TX_readSign_19 : decode c_TX_readSign 19 = .ok (.getfield 35, 3) := by decide +kernel
theorem d_TX_readSign_22 : decode c_TX_readSign 22 = .ok (.iconst 1, 1) := by decide +kernel
theorem d_TX_readSign_23 : decode c_TX_readSign 23 = .ok (.iadd, 1) := by decide +kernel
theorem d_TX_readSign_24 : decode c_TX_readSign 24 = .ok (.putfield 35, 3) := by decide +kernel
theorem d_TX_readSign_27 : decode c_TX_readSign 27 = .ok (.iconst 1, 1) := by decide +kernel
theorem d_TX_readSign_28 : decode c_TX_readSign 28 = .ok (.ireturn, 1) := by decide +kernel
theorem d_TX_nextSign_0 : decode c_TX_nextSign 0 = .ok (.aload_n 0, 1) := by decide +kernel
theorem d_TX_nextSign_1 : decode c_TX_nextSign 1 = .ok (.getfield 35, 3) := by decide +kernel
theorem d_TX_nextSign_4 : decode c_TX_nextSign 4 = .ok (.aload_n 0, 1) := by decide +kernel
theorem d_TX_nextSign_5 : decode c_TX_nextSign 5 = .ok (.getfield 31, 3) := by decide +kernel
theorem d_TX_nextSign_8 : decode c_TX_nextSign 8 = .ok (.if_icmp .ge 15, 3) := by decide +kernel
theorem d_TX_nextSign_11 : decode c_TX_nextSign 11 = .ok (.aload_n 0, 1) := by decide +kernel
theorem d_TX_nextSign_12 : decode c_TX_nextSign 12 = .ok (.getfield 9, 3) := by decide +kernel
theorem d_TX_nextSign_15 : decode c_TX_nextSign 15 = .ok (.aload_n 0, 1) := by decide +kernel
theorem d_TX_nextSign_16 : decode c_TX_nextSign 16 = .ok (.getfield 35, 3) := by decide +kernel
theorem d_TX_nextSign_19 : decode c_TX_nextSign 19 = .ok (.iaload, 1) := by decide +kernel
theorem d_TX_nextSign_20 : decode c_TX_nextSign 20 = .ok (.goto 4, 3) := by decide +kernel
theorem d_TX_nextSign_23 : decode c_TX_nextSign 23 = .ok (.iconst (-1), 1) := by decide +kernel
theorem d_TX_nextSign_24 : decode c_TX_nextSign 24 = .ok (.ireturn, 1) := by decide +kernel
theorem d_TX_isDigit_0 : decode c_TX_isDigit 0 = .ok (.iload_n 0, 1) := by decide +kernel
theorem d_TX_isDigit_1 : decode c_TX_isDigit 1 = .ok (.bipush 48, 2) := by decide +kernel
theorem d_TX_isDigit_3 : decode c_TX_isDigit 3 = .ok (.if_icmp .lt 13, 3) := by decide +kernel
theorem d_TX_isDigit_6 : decode c_TX_isDigit 6 = .ok (.iload_n 0, 1) := by decide +kernel
theorem d_TX_isDigit_7 : decode c_TX_isDigit 7 = .ok (.bipush 57, 2) := by decide +kernel
theorem d_TX_isDigit_9 : decode c_TX_isDigit 9 = .ok (.if_icmp .gt 7, 3) := by decide +kernel
theorem d_TX_isDigit_12 : decode c_TX_isDigit 12 = .ok (.iconst 1, 1) := by decide +kernel
theorem d_TX_isDigit_13 : decode c_TX_isDigit 13 = .ok (.goto 4, 3) := by decide +kernel
theorem d_TX_isDigit_16 : decode c_TX_isDigit 16 = .ok (.iconst 0, 1) := by decide +kernel
theorem d_TX_isDigit_17 : decode c_TX_isDigit 17 = .ok (.ireturn, 1) := by decide +kernel
theorem d_TX_fail_0 : decode c_TX_fail 0 = .ok (.aload_n 0, 1) := by decide +kernel
theorem d_TX_fail_1 : decode c_TX_fail 1 = .ok (.iload_n 1, 1) := by decide +kernel
theorem d_TX_fail_2 : decode c_TX_fail 2 = .ok (.putfield 42, 3) := by decide +kernel
theorem d_TX_fail_5 : decode c_TX_fail 5 = .ok (.iconst 0, 1) := by decide +kernel
theorem d_TX_fail_6 : decode c_TX_fail 6 = .ok (.ireturn, 1) := by decide +kernel
theorem d_UN_init_0 : decode c_UN_init 0 = .ok (.aload_n 0, 1) := by decide +kernel
theorem d_UN_init_1 : decode c_UN_init 1 = .ok (.invokespecial 3, 3) := by decide +kernel
theorem d_UN_init_4 : decode c_UN_init 4 = .ok (.aload_n 0, 1) := by decide +kernel
theorem d_UN_init_5 : decode c_UN_init 5 = .ok (.bipush 100, 2) := by decide +kernel
theorem d_UN_init_7 : decode c_UN_init 7 = .ok (.putfield 9, 3) := by decide +kernel
theorem d_UN_init_10 : decode c_UN_init 10 = .ok (.aload_n 0, 1) := by decide +kernel
theorem d_UN_init_11 : decode c_UN_init 11 = .ok (.bipush 100, 2) := by decide +kernel
theorem d_UN_init_13 : decode c_UN_init 13 = .ok (.putfield 15, 3) := by decide +kernel
theorem d_UN_init_16 : decode c_UN_init 16 = .ok (.aload_n 0, 1) := by decide +kernel
theorem d_UN_init_17 : decode c_UN_init 17 = .ok (.bipush 100, 2) := by decide +kernel
theorem d_UN_init_19 : decode c_UN_init 19 = .ok (.putfield 18, 3) := by decide +kernel
theorem d_UN_init_22 : decode c_UN_init 22 = .ok (.aload_n 0, 1) := by decide +kernel
theorem d_UN_init_23 : decode c_UN_init 23 = .ok (.sipush 1000, 3) := by decide +kernel
theorem d_UN_init_26 : decode c_UN_init 26 = .ok (.putfield 21, 3) := by decide +kernel
theorem d_UN_init_29 : decode c_UN_init 29 = .ok (.aload_n 0, 1) := by decide +kernel
theorem d_UN_init_30 : decode c_UN_init 30 = .ok (.sipush 1000, 3) := by decide +kernel
theorem d_UN_init_33 : decode c_UN_init 33 = .ok (.putfield 24, 3) := by decide +kernel
theorem d_UN_init_36 : decode c_UN_init 36 = .ok (.aload_n 0, 1) := by decide +kernel
theorem d_UN_init_37 : decode c_UN_init 37 = .ok (.iconst (-1), 1) := by decide +kernel
theorem d_UN_init_38 : decode c_UN_init 38 = .ok (.putfield 27, 3) := by decide +kernel
theorem d_UN_init_41 : decode c_UN_init 41 = .ok (.return_, 1) := by decide +kernel
theorem d_WV_init_0 : decode c_WV_init 0 = .ok (.aload_n 0, 1) := by decide +kernel
theorem d_WV_init_1 : decode c_WV_init 1 = .ok (.invokespecial 3, 3) := by decide +kernel
theorem d_WV_init_4 : decode c_WV_init 4 = .ok (.return_, 1) := by decide +kernel
theorem d_WV_covers_0 : decode c_WV_covers 0 = .ok (.aload_n 0, 1) := by decide +kernel
theorem d_WV_covers_1 : decode c_WV_covers 1 = .ok (.getfield 9, 3) := by decide +kernel
theorem d_WV_covers_4 : decode c_WV_covers 4 = .ok (.iload_n 1, 1) := by decide +kernel
theorem d_WV_covers_5 : decode c_WV_covers 5 = .ok (.if_icmp .ne 48, 3) := by decide +kernel
theorem d_WV_covers_8 : decode c_WV_covers 8 = .ok (.aload_n 0, 1) := by decide +kernel
theorem d_WV_covers_9 : decode c_WV_covers 9 = .ok (.getfield 15, 3) := by decide +kernel
theorem d_WV_covers_12 : decode c_WV_covers 12 = .ok (.iconst (-1), 1) := by decide +kernel
theorem d_WV_covers_13 : decode c_WV_covers 13 = .ok (.if_icmp .eq 11, 3) := by decide +kernel
theorem d_WV_covers_16 : decode c_WV_covers 16 = .ok (.aload_n 0, 1) := by decide +kernel
theorem d_WV_covers_17 : decode c_WV_covers 17 = .ok (.getfield 15, 3) := by decide +kernel
theorem d_WV_covers_20 : decode c_WV_covers 20 = .ok (.iload_n 2, 1) := by decide +kernel
theorem d_WV_covers_21 : decode c_WV_covers 21 = .ok (.if_icmp .ne 32, 3) := by decide +kernel
theorem d_WV_covers_24 : decode c_WV_covers 24 = .ok (.aload_n 0, 1) := by decide +kernel
theorem d_WV_covers_25 : decode c_WV_covers 25 = .ok (.getfield 18, 3) := by decide +kernel
theorem d_WV_covers_28 : decode c_WV_covers 28 = .ok (.iconst (-1), 1) := by decide +kernel
theorem d_WV_covers_29 : decode c_WV_covers 29 = .ok (.if_icmp .eq 11, 3) := by decide +kernel
theorem d_WV_covers_32 : decode c_WV_covers 32 = .ok (.aload_n 0, 1) := by decide +kernel
theorem d_WV_covers_33 : decode c_WV_covers 33 = .ok (.getfield 18, 3) := by decide +kernel
theorem d_WV_covers_36 : decode c_WV_covers 36 = .ok (.iload_n 3, 1) := by decide +kernel
theorem d_WV_covers_37 : decode c_WV_covers 37 = .ok (.if_icmp .ne 16, 3) := by decide +kernel
theorem d_WV_covers_40 : decode c_WV_covers 40 = .ok (.iload 4, 2) := by decide +kernel
theorem d_WV_covers_42 : decode c_WV_covers 42 = .ok (.aload_n 0, 1) := by decide +kernel
theorem d_WV_covers_43 : decode c_WV_covers 43 = .ok (.getfield 21, 3) := by decide +kernel
theorem d_WV_covers_46 : decode c_WV_covers 46 = .ok (.if_icmp .gt 7, 3) := by decide +kernel
theorem d_WV_covers_49 : decode c_WV_covers 49 = .ok (.iconst 1, 1) := by decide +kernel
theorem d_WV_covers_50 : decode c_WV_covers 50 = .ok (.goto 4, 3) := by decide +kernel
theorem d_WV_covers_53 : decode c_WV_covers 53 = .ok (.iconst 0, 1) := by decide +kernel
theorem d_WV_covers_54 : decode c_WV_covers 54 = .ok (.ireturn, 1) := by decide +kernel
end
section
/-! Each instruction of each method, decoded. Written by wip/tools/emit_names.py. -/
theorem d_MD_init_0 : decode c_MD_init 0 = .ok (.aload_n 0, 1) := by decide +kernel
theorem d_MD_init_1 : decode c_MD_init 1 = .ok (.invokespecial 1, 3) := by decide +kernel
theorem d_MD_init_4 : decode c_MD_init 4 = .ok (.aload_n 0, 1) := by decide +kernel
theorem d_MD_init_5 : decode c_MD_init 5 = .ok (.bipush 60, 2) := by decide +kernel
theorem d_MD_init_7 : decode c_MD_init 7 = .ok (.newarray .int, 2) := by decide +kernel
theorem d_MD_init_9 : decode c_MD_init 9 = .ok (.putfield 7, 3) := by decide +kernel
theorem d_MD_init_12 : decode c_MD_init 12 = .ok (.aload_n 0, 1) := by decide +kernel
theorem d_MD_init_13 : decode c_MD_init 13 = .ok (.sipush 400, 3) := by decide +kernel
theorem d_MD_init_16 : decode c_MD_init 16 = .ok (.newarray .int, 2) := by decide +kernel
theorem d_MD_init_18 : decode c_MD_init 18 = .ok (.putfield 13, 3) := by decide +kernel
theorem d_MD_init_21 : decode c_MD_init 21 = .ok (.aload_n 0, 1) := by decide +kernel
theorem d_MD_init_22 : decode c_MD_init 22 = .ok (.bipush 40, 2) := by decide +kernel
theorem d_MD_init_24 : decode c_MD_init 24 = .ok (.newarray .int, 2) := by decide +kernel
theorem d_MD_init_26 : decode c_MD_init 26 = .ok (.putfield 16, 3) := by decide +kernel
theorem d_MD_init_29 : decode c_MD_init 29 = .ok (.aload_n 0, 1) := by decide +kernel
theorem d_MD_init_30 : decode c_MD_init 30 = .ok (.bipush 24, 2) := by decide +kernel
theorem d_MD_init_32 : decode c_MD_init 32 = .ok (.newarray .int, 2) := by decide +kernel
theorem d_MD_init_34 : decode c_MD_init 34 = .ok (.putfield 19, 3) := by decide +kernel
theorem d_MD_init_37 : decode c_MD_init 37 = .ok (.aload_n 0, 1) := by decide +kernel
theorem d_MD_init_38 : decode c_MD_init 38 = .ok (.bipush 24, 2) := by decide +kernel
theorem d_MD_init_40 : decode c_MD_init 40 = .ok (.newarray .int, 2) := by decide +kernel
theorem d_MD_init_42 : decode c_MD_init 42 = .ok (.putfield 22, 3) := by decide +kernel
theorem d_MD_init_45 : decode c_MD_init 45 = .ok (.aload_n 0, 1) := by decide +kernel
theorem d_MD_init_46 : decode c_MD_init 46 = .ok (.bipush 24, 2) := by decide +kernel
theorem d_MD_init_48 : decode c_MD_init 48 = .ok (.newarray .int, 2) := by decide +kernel
theorem d_MD_init_50 : decode c_MD_init 50 = .ok (.putfield 25, 3) := by decide +kernel
theorem d_MD_init_53 : decode c_MD_init 53 = .ok (.aload_n 0, 1) := by decide +kernel
theorem d_MD_init_54 : decode c_MD_init 54 = .ok (.bipush 24, 2) := by decide +kernel
theorem d_MD_init_56 : decode c_MD_init 56 = .ok (.newarray .int, 2) := by decide +kernel
theorem d_MD_init_58 : decode c_MD_init 58 = .ok (.putfield 28, 3) := by decide +kernel
theorem d_MD_init_61 : decode c_MD_init 61 = .ok (.aload_n 0, 1) := by decide +kernel
theorem d_MD_init_62 : decode c_MD_init 62 = .ok (.bipush 24, 2) := by decide +kernel
theorem d_MD_init_64 : decode c_MD_init 64 = .ok (.newarray .boolean, 2) := by decide +kernel
theorem d_MD_init_66 : decode c_MD_init 66 = .ok (.putfield 31, 3) := by decide +kernel
theorem d_MD_init_69 : decode c_MD_init 69 = .ok (.aload_n 0, 1) := by decide +kernel
theorem d_MD_init_70 : decode c_MD_init 70 = .ok (.bipush 20, 2) := by decide +kernel
theorem d_MD_init_72 : decode c_MD_init 72 = .ok (.newarray .int, 2) := by decide +kernel
theorem d_MD_init_74 : decode c_MD_init 74 = .ok (.putfield 35, 3) := by decide +kernel
theorem d_MD_init_77 : decode c_MD_init 77 = .ok (.aload_n 0, 1) := by decide +kernel
theorem d_MD_init_78 : decode c_MD_init 78 = .ok (.bipush 20, 2) := by decide +kernel
theorem d_MD_init_80 : decode c_MD_init 80 = .ok (.newarray .int, 2) := by decide +kernel
theorem d_MD_init_82 : decode c_MD_init 82 = .ok (.putfield 38, 3) := by decide +kernel
theorem d_MD_init_85 : decode c_MD_init 85 = .ok (.aload_n 0, 1) := by decide +kernel
theorem d_MD_init_86 : decode c_MD_init 86 = .ok (.bipush 20, 2) := by decide +kernel
theorem d_MD_init_88 : decode c_MD_init 88 = .ok (.newarray .int, 2) := by decide +kernel
theorem d_MD_init_90 : decode c_MD_init 90 = .ok (.putfield 41, 3) := by decide +kernel
theorem d_MD_init_93 : decode c_MD_init 93 = .ok (.aload_n 0, 1) := by decide +kernel
theorem d_MD_init_94 : decode c_MD_init 94 = .ok (.bipush 20, 2) := by decide +kernel
theorem d_MD_init_96 : decode c_MD_init 96 = .ok (.newarray .int, 2) := by decide +kernel
theorem d_MD_init_98 : decode c_MD_init 98 = .ok (.putfield 44, 3) := by decide +kernel
theorem d_MD_init_101 : decode c_MD_init 101 = .ok (.aload_n 0, 1) := by decide +kernel
theorem d_MD_init_102 : decode c_MD_init 102 = .ok (.iconst 4, 1) := by decide +kernel
theorem d_MD_init_103 : decode c_MD_init 103 = .ok (.newarray .int, 2) := by decide +kernel
theorem d_MD_init_105 : decode c_MD_init 105 = .ok (.putfield 47, 3) := by decide +kernel
theorem d_MD_init_108 : decode c_MD_init 108 = .ok (.aload_n 0, 1) := by decide +kernel
theorem d_MD_init_109 : decode c_MD_init 109 = .ok (.sipush 552, 3) := by decide +kernel
theorem d_MD_init_112 : decode c_MD_init 112 = .ok (.newarray .int, 2) := by decide +kernel
theorem d_MD_init_114 : decode c_MD_init 114 = .ok (.putfield 50, 3) := by decide +kernel
theorem d_MD_init_117 : decode c_MD_init 117 = .ok (.aload_n 0, 1) := by decide +kernel
theorem d_MD_init_118 : decode c_MD_init 118 = .ok (.bipush 24, 2) := by decide +kernel
theorem d_MD_init_120 : decode c_MD_init 120 = .ok (.newarray .int, 2) := by decide +kernel
theorem d_MD_init_122 : decode c_MD_init 122 = .ok (.putfield 53, 3) := by decide +kernel
theorem d_MD_init_125 : decode c_MD_init 125 = .ok (.aload_n 0, 1) := by decide +kernel
theorem d_MD_init_126 : decode c_MD_init 126 = .ok (.sipush 400, 3) := by decide +kernel
theorem d_MD_init_129 : decode c_MD_init 129 = .ok (.newarray .int, 2) := by decide +kernel
theorem d_MD_init_131 : decode c_MD_init 131 = .ok (.putfield 56, 3) := by decide +kernel
theorem d_MD_init_134 : decode c_MD_init 134 = .ok (.aload_n 0, 1) := by decide +kernel
theorem d_MD_init_135 : decode c_MD_init 135 = .ok (.bipush 88, 2) := by decide +kernel
theorem d_MD_init_137 : decode c_MD_init 137 = .ok (.newarray .int, 2) := by decide +kernel
theorem d_MD_init_139 : decode c_MD_init 139 = .ok (.dup, 1) := by decide +kernel
theorem d_MD_init_140 : decode c_MD_init 140 = .ok (.iconst 0, 1) := by decide +kernel
theorem d_MD_init_141 : decode c_MD_init 141 = .ok (.bipush 115, 2) := by decide +kernel
theorem d_MD_init_143 : decode c_MD_init 143 = .ok (.iastore, 1) := by decide +kernel
theorem d_MD_init_144 : decode c_MD_init 144 = .ok (.dup, 1) := by decide +kernel
theorem d_MD_init_145 : decode c_MD_init 145 = .ok (.iconst 1, 1) := by decide +kernel
theorem d_MD_init_146 : decode c_MD_init 146 = .ok (.bipush 105, 2) := by decide +kernel
theorem d_MD_init_148 : decode c_MD_init 148 = .ok (.iastore, 1) := by decide +kernel
theorem d_MD_init_149 : decode c_MD_init 149 = .ok (.dup, 1) := by decide +kernel
theorem d_MD_init_150 : decode c_MD_init 150 = .ok (.iconst 2, 1) := by decide +kernel
theorem d_MD_init_151 : decode c_MD_init 151 = .ok (.bipush 122, 2) := by decide +kernel
theorem d_MD_init_153 : decode c_MD_init 153 = .ok (.iastore, 1) := by decide +kernel
theorem d_MD_init_154 : decode c_MD_init 154 = .ok (.dup, 1) := by decide +kernel
theorem d_MD_init_155 : decode c_MD_init 155 = .ok (.iconst 3, 1) := by decide +kernel
theorem d_MD_init_156 : decode c_MD_init 156 = .ok (.bipush 101, 2) := by decide +kernel
theorem d_MD_init_158 : decode c_MD_init 158 = .ok (.iastore, 1) := by decide +kernel
theorem d_MD_init_159 : decode c_MD_init 159 = .ok (.dup, 1) := by decide +kernel
theorem d_MD_init_160 : decode c_MD_init 160 = .ok (.iconst 4, 1) := by decide +kernel
theorem d_MD_init_161 : decode c_MD_init 161 = .ok (.iconst 0, 1) := by decide +kernel
theorem d_MD_init_162 : decode c_MD_init 162 = .ok (.iastore, 1) := by decide +kernel
theorem d_MD_init_163 : decode c_MD_init 163 = .ok (.dup, 1) := by decide +kernel
theorem d_MD_init_164 : decode c_MD_init 164 = .ok (.iconst 5, 1) := by decide +kernel
theorem d_MD_init_165 : decode c_MD_init 165 = .ok (.iconst 0, 1) := by decide +kernel
theorem d_MD_init_166 : decode c_MD_init 166 = .ok (.iastore, 1) := by decide +kernel
theorem d_MD_init_167 : decode c_MD_init 167 = .ok (.dup, 1) := by decide +kernel
theorem d_MD_init_168 : decode c_MD_init 168 = .ok (.bipush 6, 2) := by decide +kernel
theorem d_MD_init_170 : decode c_MD_init 170 = .ok (.iconst 0, 1) := by decide +kernel
theorem d_MD_init_171 : decode c_MD_init 171 = .ok (.iastore, 1) := by decide +kernel
theorem d_MD_init_172 : decode c_MD_init 172 = .ok (.dup, 1) := by decide +kernel
theorem d_MD_init_173 : decode c_MD_init 173 = .ok (.bipush 7, 2) := by decide +kernel
theorem d_MD_init_175 : decode c_MD_init 175 = .ok (.iconst 0, 1) := by decide +kernel
theorem d_MD_init_176 : decode c_MD_init 176 = .ok (.iastore, 1) := by decide +kernel
theorem d_MD_init_177 : decode c_MD_init 177 = .ok (.dup, 1) := by decide +kernel
theorem d_MD_init_178 : decode c_MD_init 178 = .ok (.bipush 8, 2) := by decide +kernel
theorem d_MD_init_180 : decode c_MD_init 180 = .ok (.bipush 119, 2) := by decide +kernel
theorem d_MD_init_182 : decode c_MD_init 182 = .ok (.iastore, 1) := by decide +kernel
theorem d_MD_init_183 : decode c_MD_init 183 = .ok (.dup, 1) := by decide +kernel
theorem d_MD_init_184 : decode c_MD_init 184 = .ok (.bipush 9, 2) := by decide +kernel
theorem d_MD_init_186 : decode c_MD_init 186 = .ok (.bipush 101, 2) := by decide +kernel
theorem d_MD_init_188 : decode c_MD_init 188 = .ok (.iastore, 1) := by decide +kernel
theorem d_MD_init_189 : decode c_MD_init 189 = .ok (.dup, 1) := by decide +kernel
theorem d_MD_init_190 : decode c_MD_init 190 = .ok (.bipush 10, 2) := by decide +kernel
theorem d_MD_init_192 : decode c_MD_init 192 = .ok (.bipush 105, 2) := by decide +kernel
theorem d_MD_init_194 : decode c_MD_init 194 = .ok (.iastore, 1) := by decide +kernel
theorem d_MD_init_195 : decode c_MD_init 195 = .ok (.dup, 1) := by decide +kernel
theorem d_MD_init_196 : decode c_MD_init 196 = .ok (.bipush 11, 2) := by decide +kernel
theorem d_MD_init_198 : decode c_MD_init 198 = .ok (.bipush 103, 2) := by decide +kernel
theorem d_MD_init_200 : decode c_MD_init 200 = .ok (.iastore, 1) := by decide +kernel
theorem d_MD_init_201 : decode c_MD_init 201 = .ok (.dup, 1) := by decide +kernel
theorem d_MD_init_202 : decode c_MD_init 202 = .ok (.bipush 12, 2) := by decide +kernel
theorem d_MD_init_204 : decode c_MD_init 204 = .ok (.bipush 104, 2) := by decide +kernel
theorem d_MD_init_206 : decode c_MD_init 206 = .ok (.iastore, 1) := by decide +kernel
theorem d_MD_init_207 : decode c_MD_init 207 = .ok (.dup, 1) := by decide +kernel
theorem d_MD_init_208 : decode c_MD_init 208 = .ok (.bipush 13, 2) := by decide +kernel
theorem d_MD_init_210 : decode c_MD_init 210 = .ok (.bipush 116, 2) := by decide +kernel
theorem d_MD_init_212 : decode c_MD_init 212 = .ok (.iastore, 1) := by decide +kernel
theorem d_MD_init_213 : decode c_MD_init 213 = .ok (.dup, 1) := by decide +kernel
theorem d_MD_init_214 : decode c_MD_init 214 = .ok (.bipush 14, 2) := by decide +kernel
theorem d_MD_init_216 : decode c_MD_init 216 = .ok (.iconst 0, 1) := by decide +kernel
theorem d_MD_init_217 : decode c_MD_init 217 = .ok (.iastore, 1) := by decide +kernel
theorem d_MD_init_218 : decode c_MD_init 218 = .ok (.dup, 1) := by decide +kernel
theorem d_MD_init_219 : decode c_MD_init 219 = .ok (.bipush 15, 2) := by decide +kernel
theorem d_MD_init_221 : decode c_MD_init 221 = .ok (.iconst 0, 1) := by decide +kernel
theorem d_MD_init_222 : decode c_MD_init 222 = .ok (.iastore, 1) := by decide +kernel
theorem d_MD_init_223 : decode c_MD_init 223 = .ok (.dup, 1) := by decide +kernel
theorem d_MD_init_224 : decode c_MD_init 224 = .ok (.bipush 16, 2) := by decide +kernel
theorem d_MD_init_226 : decode c_MD_init 226 = .ok (.bipush 103, 2) := by decide +kernel
theorem d_MD_init_228 : decode c_MD_init 228 = .ok (.iastore, 1) := by decide +kernel
theorem d_MD_init_229 : decode c_MD_init 229 = .ok (.dup, 1) := by decide +kernel
theorem d_MD_init_230 : decode c_MD_init 230 = .ok (.bipush 17, 2) := by decide +kernel
theorem d_MD_init_232 : decode c_MD_init 232 = .ok (.bipush 111, 2) := by decide +kernel
theorem d_MD_init_234 : decode c_MD_init 234 = .ok (.iastore, 1) := by decide +kernel
theorem d_MD_init_235 : decode c_MD_init 235 = .ok (.dup, 1) := by decide +kernel
theorem d_MD_init_236 : decode c_MD_init 236 = .ok (.bipush 18, 2) := by decide +kernel
theorem d_MD_init_238 : decode c_MD_init 238 = .ok (.bipush 111, 2) := by decide +kernel
theorem d_MD_init_240 : decode c_MD_init 240 = .ok (.iastore, 1) := by decide +kernel
theorem d_MD_init_241 : decode c_MD_init 241 = .ok (.dup, 1) := by decide +kernel
theorem d_MD_init_242 : decode c_MD_init 242 = .ok (.bipush 19, 2) := by decide +kernel
theorem d_MD_init_244 : decode c_MD_init 244 = .ok (.bipush 100, 2) := by decide +kernel
theorem d_MD_init_246 : decode c_MD_init 246 = .ok (.iastore, 1) := by decide +kernel
theorem d_MD_init_247 : decode c_MD_init 247 = .ok (.dup, 1) := by decide +kernel
theorem d_MD_init_248 : decode c_MD_init 248 = .ok (.bipush 20, 2) := by decide +kernel
theorem d_MD_init_250 : decode c_MD_init 250 = .ok (.bipush 115, 2) := by decide +kernel
theorem d_MD_init_252 : decode c_MD_init 252 = .ok (.iastore, 1) := by decide +kernel
theorem d_MD_init_253 : decode c_MD_init 253 = .ok (.dup, 1) := by decide +kernel
theorem d_MD_init_254 : decode c_MD_init 254 = .ok (.bipush 21, 2) := by decide +kernel
theorem d_MD_init_256 : decode c_MD_init 256 = .ok (.iconst 0, 1) := by decide +kernel
theorem d_MD_init_257 : decode c_MD_init 257 = .ok (.iastore, 1) := by decide +kernel
theorem d_MD_init_258 : decode c_MD_init 258 = .ok (.dup, 1) := by decide +kernel
theorem d_MD_init_259 : decode c_MD_init 259 = .ok (.bipush 22, 2) := by decide +kernel
theorem d_MD_init_261 : decode c_MD_init 261 = .ok (.iconst 0, 1) := by decide +kernel
theorem d_MD_init_262 : decode c_MD_init 262 = .ok (.iastore, 1) := by decide +kernel
theorem d_MD_init_263 : decode c_MD_init 263 = .ok (.dup, 1) := by decide +kernel
theorem d_MD_init_264 : decode c_MD_init 264 = .ok (.bipush 23, 2) := by decide +kernel
theorem d_MD_init_266 : decode c_MD_init 266 = .ok (.iconst 0, 1) := by decide +kernel
theorem d_MD_init_267 : decode c_MD_init 267 = .ok (.iastore, 1) := by decide +kernel
theorem d_MD_init_268 : decode c_MD_init 268 = .ok (.dup, 1) := by decide +kernel
theorem d_MD_init_269 : decode c_MD_init 269 = .ok (.bipush 24, 2) := by decide +kernel
theorem d_MD_init_271 : decode c_MD_init 271 = .ok (.bipush 108, 2) := by decide +kernel
theorem d_MD_init_273 : decode c_MD_init 273 = .ok (.iastore, 1) := by decide +kernel
theorem d_MD_init_274 : decode c_MD_init 274 = .ok (.dup, 1) := by decide +kernel
theorem d_MD_init_275 : decode c_MD_init 275 = .ok (.bipush 25, 2) := by decide +kernel
theorem d_MD_init_277 : decode c_MD_init 277 = .ok (.bipush 111, 2) := by decide +kernel
theorem d_MD_init_279 : decode c_MD_init 279 = .ok (.iastore, 1) := by decide +kernel
theorem d_MD_init_280 : decode c_MD_init 280 = .ok (.dup, 1) := by decide +kernel
theorem d_MD_init_281 : decode c_MD_init 281 = .ok (.bipush 26, 2) := by decide +kernel
theorem d_MD_init_283 : decode c_MD_init 283 = .ok (.bipush 116, 2) := by decide +kernel
theorem d_MD_init_285 : decode c_MD_init 285 = .ok (.iastore, 1) := by decide +kernel
theorem d_MD_init_286 : decode c_MD_init 286 = .ok (.dup, 1) := by decide +kernel
theorem d_MD_init_287 : decode c_MD_init 287 = .ok (.bipush 27, 2) := by decide +kernel
theorem d_MD_init_289 : decode c_MD_init 289 = .ok (.bipush 115, 2) := by decide +kernel
theorem d_MD_init_291 : decode c_MD_init 291 = .ok (.iastore, 1) := by decide +kernel
theorem d_MD_init_292 : decode c_MD_init 292 = .ok (.dup, 1) := by decide +kernel
theorem d_MD_init_293 : decode c_MD_init 293 = .ok (.bipush 28, 2) := by decide +kernel
theorem d_MD_init_295 : decode c_MD_init 295 = .ok (.iconst 0, 1) := by decide +kernel
theorem d_MD_init_296 : decode c_MD_init 296 = .ok (.iastore, 1) := by decide +kernel
theorem d_MD_init_297 : decode c_MD_init 297 = .ok (.dup, 1) := by decide +kernel
theorem d_MD_init_298 : decode c_MD_init 298 = .ok (.bipush 29, 2) := by decide +kernel
theorem d_MD_init_300 : decode c_MD_init 300 = .ok (.iconst 0, 1) := by decide +kernel
theorem d_MD_init_301 : decode c_MD_init 301 = .ok (.iastore, 1) := by decide +kernel
theorem d_MD_init_302 : decode c_MD_init 302 = .ok (.dup, 1) := by decide +kernel
theorem d_MD_init_303 : decode c_MD_init 303 = .ok (.bipush 30, 2) := by decide +kernel
theorem d_MD_init_305 : decode c_MD_init 305 = .ok (.iconst 0, 1) := by decide +kernel
theorem d_MD_init_306 : decode c_MD_init 306 = .ok (.iastore, 1) := by decide +kernel
theorem d_MD_init_307 : decode c_MD_init 307 = .ok (.dup, 1) := by decide +kernel
theorem d_MD_init_308 : decode c_MD_init 308 = .ok (.bipush 31, 2) := by decide +kernel
theorem d_MD_init_310 : decode c_MD_init 310 = .ok (.iconst 0, 1) := by decide +kernel
theorem d_MD_init_311 : decode c_MD_init 311 = .ok (.iastore, 1) := by decide +kernel
theorem d_MD_init_312 : decode c_MD_init 312 = .ok (.dup, 1) := by decide +kernel
theorem d_MD_init_313 : decode c_MD_init 313 = .ok (.bipush 32, 2) := by decide +kernel
theorem d_MD_init_315 : decode c_MD_init 315 = .ok (.bipush 111, 2) := by decide +kernel
theorem d_MD_init_317 : decode c_MD_init 317 = .ok (.iastore, 1) := by decide +kernel
theorem d_MD_init_318 : decode c_MD_init 318 = .ok (.dup, 1) := by decide +kernel
theorem d_MD_init_319 : decode c_MD_init 319 = .ok (.bipush 33, 2) := by decide +kernel
theorem d_MD_init_321 : decode c_MD_init 321 = .ok (.bipush 119, 2) := by decide +kernel
theorem d_MD_init_323 : decode c_MD_init 323 = .ok (.iastore, 1) := by decide +kernel
theorem d_MD_init_324 : decode c_MD_init 324 = .ok (.dup, 1) := by decide +kernel
theorem d_MD_init_325 : decode c_MD_init 325 = .ok (.bipush 34, 2) := by decide +kernel
theorem d_MD_init_327 : decode c_MD_init 327 = .ok (.bipush 110, 2) := by decide +kernel
theorem d_MD_init_329 : decode c_MD_init 329 = .ok (.iastore, 1) := by decide +kernel
theorem d_MD_init_330 : decode c_MD_init 330 = .ok (.dup, 1) := by decide +kernel
theorem d_MD_init_331 : decode c_MD_init 331 = .ok (.bipush 35, 2) := by decide +kernel
theorem d_MD_init_333 : decode c_MD_init 333 = .ok (.bipush 101, 2) := by decide +kernel
theorem d_MD_init_335 : decode c_MD_init 335 = .ok (.iastore, 1) := by decide +kernel
theorem d_MD_init_336 : decode c_MD_init 336 = .ok (.dup, 1) := by decide +kernel
theorem d_MD_init_337 : decode c_MD_init 337 = .ok (.bipush 36, 2) := by decide +kernel
theorem d_MD_init_339 : decode c_MD_init 339 = .ok (.bipush 114, 2) := by decide +kernel
theorem d_MD_init_341 : decode c_MD_init 341 = .ok (.iastore, 1) := by decide +kernel
theorem d_MD_init_342 : decode c_MD_init 342 = .ok (.dup, 1) := by decide +kernel
theorem d_MD_init_343 : decode c_MD_init 343 = .ok (.bipush 37, 2) := by decide +kernel
theorem d_MD_init_345 : decode c_MD_init 345 = .ok (.bipush 115, 2) := by decide +kernel
theorem d_MD_init_347 : decode c_MD_init 347 = .ok (.iastore, 1) := by decide +kernel
theorem d_MD_init_348 : decode c_MD_init 348 = .ok (.dup, 1) := by decide +kernel
theorem d_MD_init_349 : decode c_MD_init 349 = .ok (.bipush 38, 2) := by decide +kernel
theorem d_MD_init_351 : decode c_MD_init 351 = .ok (.iconst 0, 1) := by decide +kernel
theorem d_MD_init_352 : decode c_MD_init 352 = .ok (.iastore, 1) := by decide +kernel
theorem d_MD_init_353 : decode c_MD_init 353 = .ok (.dup, 1) := by decide +kernel
theorem d_MD_init_354 : decode c_MD_init 354 = .ok (.bipush 39, 2) := by decide +kernel
theorem d_MD_init_356 : decode c_MD_init 356 = .ok (.iconst 0, 1) := by decide +kernel
theorem d_MD_init_357 : decode c_MD_init 357 = .ok (.iastore, 1) := by decide +kernel
theorem d_MD_init_358 : decode c_MD_init 358 = .ok (.dup, 1) := by decide +kernel
theorem d_MD_init_359 : decode c_MD_init 359 = .ok (.bipush 40, 2) := by decide +kernel
theorem d_MD_init_361 : decode c_MD_init 361 = .ok (.bipush 104, 2) := by decide +kernel
theorem d_MD_init_363 : decode c_MD_init 363 = .ok (.iastore, 1) := by decide +kernel
theorem d_MD_init_364 : decode c_MD_init 364 = .ok (.dup, 1) := by decide +kernel
theorem d_MD_init_365 : decode c_MD_init 365 = .ok (.bipush 41, 2) := by decide +kernel
theorem d_MD_init_367 : decode c_MD_init 367 = .ok (.bipush 97, 2) := by decide +kernel
theorem d_MD_init_369 : decode c_MD_init 369 = .ok (.iastore, 1) := by decide +kernel
theorem d_MD_init_370 : decode c_MD_init 370 = .ok (.dup, 1) := by decide +kernel
theorem d_MD_init_371 : decode c_MD_init 371 = .ok (.bipush 42, 2) := by decide +kernel
theorem d_MD_init_373 : decode c_MD_init 373 = .ok (.bipush 122, 2) := by decide +kernel
theorem d_MD_init_375 : decode c_MD_init 375 = .ok (.iastore, 1) := by decide +kernel
theorem d_MD_init_376 : decode c_MD_init 376 = .ok (.dup, 1) := by decide +kernel
theorem d_MD_init_377 : decode c_MD_init 377 = .ok (.bipush 43, 2) := by decide +kernel
theorem d_MD_init_379 : decode c_MD_init 379 = .ok (.bipush 97, 2) := by decide +kernel
theorem d_MD_init_381 : decode c_MD_init 381 = .ok (.iastore, 1) := by decide +kernel
theorem d_MD_init_382 : decode c_MD_init 382 = .ok (.dup, 1) := by decide +kernel
theorem d_MD_init_383 : decode c_MD_init 383 = .ok (.bipush 44, 2) := by decide +kernel
theorem d_MD_init_385 : decode c_MD_init 385 = .ok (.bipush 114, 2) := by decide +kernel
theorem d_MD_init_387 : decode c_MD_init 387 = .ok (.iastore, 1) := by decide +kernel
theorem d_MD_init_388 : decode c_MD_init 388 = .ok (.dup, 1) := by decide +kernel
theorem d_MD_init_389 : decode c_MD_init 389 = .ok (.bipush 45, 2) := by decide +kernel
theorem d_MD_init_391 : decode c_MD_init 391 = .ok (.bipush 100, 2) := by decide +kernel
theorem d_MD_init_393 : decode c_MD_init 393 = .ok (.iastore, 1) := by decide +kernel
theorem d_MD_init_394 : decode c_MD_init 394 = .ok (.dup, 1) := by decide +kernel
theorem d_MD_init_395 : decode c_MD_init 395 = .ok (.bipush 46, 2) := by decide +kernel
theorem d_MD_init_397 : decode c_MD_init 397 = .ok (.iconst 0, 1) := by decide +kernel
theorem d_MD_init_398 : decode c_MD_init 398 = .ok (.iastore, 1) := by decide +kernel
theorem d_MD_init_399 : decode c_MD_init 399 = .ok (.dup, 1) := by decide +kernel
theorem d_MD_init_400 : decode c_MD_init 400 = .ok (.bipush 47, 2) := by decide +kernel
theorem d_MD_init_402 : decode c_MD_init 402 = .ok (.iconst 0, 1) := by decide +kernel
theorem d_MD_init_403 : decode c_MD_init 403 = .ok (.iastore, 1) := by decide +kernel
theorem d_MD_init_404 : decode c_MD_init 404 = .ok (.dup, 1) := by decide +kernel
theorem d_MD_init_405 : decode c_MD_init 405 = .ok (.bipush 48, 2) := by decide +kernel
theorem d_MD_init_407 : decode c_MD_init 407 = .ok (.bipush 122, 2) := by decide +kernel
theorem d_MD_init_409 : decode c_MD_init 409 = .ok (.iastore, 1) := by decide +kernel
theorem d_MD_init_410 : decode c_MD_init 410 = .ok (.dup, 1) := by decide +kernel
theorem d_MD_init_411 : decode c_MD_init 411 = .ok (.bipush 49, 2) := by decide +kernel
theorem d_MD_init_413 : decode c_MD_init 413 = .ok (.bipush 111, 2) := by decide +kernel
theorem d_MD_init_415 : decode c_MD_init 415 = .ok (.iastore, 1) := by decide +kernel
theorem d_MD_init_416 : decode c_MD_init 416 = .ok (.dup, 1) := by decide +kernel
theorem d_MD_init_417 : decode c_MD_init 417 = .ok (.bipush 50, 2) := by decide +kernel
theorem d_MD_init_419 : decode c_MD_init 419 = .ok (.bipush 110, 2) := by decide +kernel
theorem d_MD_init_421 : decode c_MD_init 421 = .ok (.iastore, 1) := by decide +kernel
theorem d_MD_init_422 : decode c_MD_init 422 = .ok (.dup, 1) := by decide +kernel
theorem d_MD_init_423 : decode c_MD_init 423 = .ok (.bipush 51, 2) := by decide +kernel
theorem d_MD_init_425 : decode c_MD_init 425 = .ok (.bipush 101, 2) := by decide +kernel
theorem d_MD_init_427 : decode c_MD_init 427 = .ok (.iastore, 1) := by decide +kernel
theorem d_MD_init_428 : decode c_MD_init 428 = .ok (.dup, 1) := by decide +kernel
theorem d_MD_init_429 : decode c_MD_init 429 = .ok (.bipush 52, 2) := by decide +kernel
theorem d_MD_init_431 : decode c_MD_init 431 = .ok (.iconst 0, 1) := by decide +kernel
theorem d_MD_init_432 : decode c_MD_init 432 = .ok (.iastore, 1) := by decide +kernel
theorem d_MD_init_433 : decode c_MD_init 433 = .ok (.dup, 1) := by decide +kernel
theorem d_MD_init_434 : decode c_MD_init 434 = .ok (.bipush 53, 2) := by decide +kernel
theorem d_MD_init_436 : decode c_MD_init 436 = .ok (.iconst 0, 1) := by decide +kernel
theorem d_MD_init_437 : decode c_MD_init 437 = .ok (.iastore, 1) := by decide +kernel
theorem d_MD_init_438 : decode c_MD_init 438 = .ok (.dup, 1) := by decide +kernel
theorem d_MD_init_439 : decode c_MD_init 439 = .ok (.bipush 54, 2) := by decide +kernel
theorem d_MD_init_441 : decode c_MD_init 441 = .ok (.iconst 0, 1) := by decide +kernel
theorem d_MD_init_442 : decode c_MD_init 442 = .ok (.iastore, 1) := by decide +kernel
theorem d_MD_init_443 : decode c_MD_init 443 = .ok (.dup, 1) := by decide +kernel
theorem d_MD_init_444 : decode c_MD_init 444 = .ok (.bipush 55, 2) := by decide +kernel
theorem d_MD_init_446 : decode c_MD_init 446 = .ok (.iconst 0, 1) := by decide +kernel
theorem d_MD_init_447 : decode c_MD_init 447 = .ok (.iastore, 1) := by decide +kernel
theorem d_MD_init_448 : decode c_MD_init 448 = .ok (.dup, 1) := by decide +kernel
theorem d_MD_init_449 : decode c_MD_init 449 = .ok (.bipush 56, 2) := by decide +kernel
theorem d_MD_init_451 : decode c_MD_init 451 = .ok (.bipush 117, 2) := by decide +kernel
theorem d_MD_init_453 : decode c_MD_init 453 = .ok (.iastore, 1) := by decide +kernel
theorem d_MD_init_454 : decode c_MD_init 454 = .ok (.dup, 1) := by decide +kernel
theorem d_MD_init_455 : decode c_MD_init 455 = .ok (.bipush 57, 2) := by decide +kernel
theorem d_MD_init_457 : decode c_MD_init 457 = .ok (.bipush 110, 2) := by decide +kernel
theorem d_MD_init_459 : decode c_MD_init 459 = .ok (.iastore, 1) := by decide +kernel
theorem d_MD_init_460 : decode c_MD_init 460 = .ok (.dup, 1) := by decide +kernel
theorem d_MD_init_461 : decode c_MD_init 461 = .ok (.bipush 58, 2) := by decide +kernel
theorem d_MD_init_463 : decode c_MD_init 463 = .ok (.bipush 105, 2) := by decide +kernel
theorem d_MD_init_465 : decode c_MD_init 465 = .ok (.iastore, 1) := by decide +kernel
theorem d_MD_init_466 : decode c_MD_init 466 = .ok (.dup, 1) := by decide +kernel
theorem d_MD_init_467 : decode c_MD_init 467 = .ok (.bipush 59, 2) := by decide +kernel
theorem d_MD_init_469 : decode c_MD_init 469 = .ok (.bipush 116, 2) := by decide +kernel
theorem d_MD_init_471 : decode c_MD_init 471 = .ok (.iastore, 1) := by decide +kernel
theorem d_MD_init_472 : decode c_MD_init 472 = .ok (.dup, 1) := by decide +kernel
theorem d_MD_init_473 : decode c_MD_init 473 = .ok (.bipush 60, 2) := by decide +kernel
theorem d_MD_init_475 : decode c_MD_init 475 = .ok (.bipush 115, 2) := by decide +kernel
theorem d_MD_init_477 : decode c_MD_init 477 = .ok (.iastore, 1) := by decide +kernel
theorem d_MD_init_478 : decode c_MD_init 478 = .ok (.dup, 1) := by decide +kernel
theorem d_MD_init_479 : decode c_MD_init 479 = .ok (.bipush 61, 2) := by decide +kernel
theorem d_MD_init_481 : decode c_MD_init 481 = .ok (.iconst 0, 1) := by decide +kernel
theorem d_MD_init_482 : decode c_MD_init 482 = .ok (.iastore, 1) := by decide +kernel
theorem d_MD_init_483 : decode c_MD_init 483 = .ok (.dup, 1) := by decide +kernel
theorem d_MD_init_484 : decode c_MD_init 484 = .ok (.bipush 62, 2) := by decide +kernel
theorem d_MD_init_486 : decode c_MD_init 486 = .ok (.iconst 0, 1) := by decide +kernel
theorem d_MD_init_487 : decode c_MD_init 487 = .ok (.iastore, 1) := by decide +kernel
theorem d_MD_init_488 : decode c_MD_init 488 = .ok (.dup, 1) := by decide +kernel
theorem d_MD_init_489 : decode c_MD_init 489 = .ok (.bipush 63, 2) := by decide +kernel
theorem d_MD_init_491 : decode c_MD_init 491 = .ok (.iconst 0, 1) := by decide +kernel
theorem d_MD_init_492 : decode c_MD_init 492 = .ok (.iastore, 1) := by decide +kernel
theorem d_MD_init_493 : decode c_MD_init 493 = .ok (.dup, 1) := by decide +kernel
theorem d_MD_init_494 : decode c_MD_init 494 = .ok (.bipush 64, 2) := by decide +kernel
theorem d_MD_init_496 : decode c_MD_init 496 = .ok (.bipush 100, 2) := by decide +kernel
theorem d_MD_init_498 : decode c_MD_init 498 = .ok (.iastore, 1) := by decide +kernel
theorem d_MD_init_499 : decode c_MD_init 499 = .ok (.dup, 1) := by decide +kernel
theorem d_MD_init_500 : decode c_MD_init 500 = .ok (.bipush 65, 2) := by decide +kernel
theorem d_MD_init_502 : decode c_MD_init 502 = .ok (.bipush 97, 2) := by decide +kernel
theorem d_MD_init_504 : decode c_MD_init 504 = .ok (.iastore, 1) := by decide +kernel
theorem d_MD_init_505 : decode c_MD_init 505 = .ok (.dup, 1) := by decide +kernel
theorem d_MD_init_506 : decode c_MD_init 506 = .ok (.bipush 66, 2) := by decide +kernel
theorem d_MD_init_508 : decode c_MD_init 508 = .ok (.bipush 116, 2) := by decide +kernel
theorem d_MD_init_510 : decode c_MD_init 510 = .ok (.iastore, 1) := by decide +kernel
theorem d_MD_init_511 : decode c_MD_init 511 = .ok (.dup, 1) := by decide +kernel
theorem d_MD_init_512 : decode c_MD_init 512 = .ok (.bipush 67, 2) := by decide +kernel
theorem d_MD_init_514 : decode c_MD_init 514 = .ok (.bipush 101, 2) := by decide +kernel
theorem d_MD_init_516 : decode c_MD_init 516 = .ok (.iastore, 1) := by decide +kernel
theorem d_MD_init_517 : decode c_MD_init 517 = .ok (.dup, 1) := by decide +kernel
theorem d_MD_init_518 : decode c_MD_init 518 = .ok (.bipush 68, 2) := by decide +kernel
theorem d_MD_init_520 : decode c_MD_init 520 = .ok (.bipush 115, 2) := by decide +kernel
theorem d_MD_init_522 : decode c_MD_init 522 = .ok (.iastore, 1) := by decide +kernel
theorem d_MD_init_523 : decode c_MD_init 523 = .ok (.dup, 1) := by decide +kernel
theorem d_MD_init_524 : decode c_MD_init 524 = .ok (.bipush 69, 2) := by decide +kernel
theorem d_MD_init_526 : decode c_MD_init 526 = .ok (.iconst 0, 1) := by decide +kernel
theorem d_MD_init_527 : decode c_MD_init 527 = .ok (.iastore, 1) := by decide +kernel
theorem d_MD_init_528 : decode c_MD_init 528 = .ok (.dup, 1) := by decide +kernel
theorem d_MD_init_529 : decode c_MD_init 529 = .ok (.bipush 70, 2) := by decide +kernel
theorem d_MD_init_531 : decode c_MD_init 531 = .ok (.iconst 0, 1) := by decide +kernel
theorem d_MD_init_532 : decode c_MD_init 532 = .ok (.iastore, 1) := by decide +kernel
theorem d_MD_init_533 : decode c_MD_init 533 = .ok (.dup, 1) := by decide +kernel
theorem d_MD_init_534 : decode c_MD_init 534 = .ok (.bipush 71, 2) := by decide +kernel
theorem d_MD_init_536 : decode c_MD_init 536 = .ok (.iconst 0, 1) := by decide +kernel
theorem d_MD_init_537 : decode c_MD_init 537 = .ok (.iastore, 1) := by decide +kernel
theorem d_MD_init_538 : decode c_MD_init 538 = .ok (.dup, 1) := by decide +kernel
theorem d_MD_init_539 : decode c_MD_init 539 = .ok (.bipush 72, 2) := by decide +kernel
theorem d_MD_init_541 : decode c_MD_init 541 = .ok (.bipush 100, 2) := by decide +kernel
theorem d_MD_init_543 : decode c_MD_init 543 = .ok (.iastore, 1) := by decide +kernel
theorem d_MD_init_544 : decode c_MD_init 544 = .ok (.dup, 1) := by decide +kernel
theorem d_MD_init_545 : decode c_MD_init 545 = .ok (.bipush 73, 2) := by decide +kernel
theorem d_MD_init_547 : decode c_MD_init 547 = .ok (.bipush 97, 2) := by decide +kernel
theorem d_MD_init_549 : decode c_MD_init 549 = .ok (.iastore, 1) := by decide +kernel
theorem d_MD_init_550 : decode c_MD_init 550 = .ok (.dup, 1) := by decide +kernel
theorem d_MD_init_551 : decode c_MD_init 551 = .ok (.bipush 74, 2) := by decide +kernel
theorem d_MD_init_553 : decode c_MD_init 553 = .ok (.bipush 121, 2) := by decide +kernel
theorem d_MD_init_555 : decode c_MD_init 555 = .ok (.iastore, 1) := by decide +kernel
theorem d_MD_init_556 : decode c_MD_init 556 = .ok (.dup, 1) := by decide +kernel
theorem d_MD_init_557 : decode c_MD_init 557 = .ok (.bipush 75, 2) := by decide +kernel
theorem d_MD_init_559 : decode c_MD_init 559 = .ok (.bipush 115, 2) := by decide +kernel
theorem d_MD_init_561 : decode c_MD_init 561 = .ok (.iastore, 1) := by decide +kernel
theorem d_MD_init_562 : decode c_MD_init 562 = .ok (.dup, 1) := by decide +kernel
theorem d_MD_init_563 : decode c_MD_init 563 = .ok (.bipush 76, 2) := by decide +kernel
theorem d_MD_init_565 : decode c_MD_init 565 = .ok (.iconst 0, 1) := by decide +kernel
theorem d_MD_init_566 : decode c_MD_init 566 = .ok (.iastore, 1) := by decide +kernel
theorem d_MD_init_567 : decode c_MD_init 567 = .ok (.dup, 1) := by decide +kernel
theorem d_MD_init_568 : decode c_MD_init 568 = .ok (.bipush 77, 2) := by decide +kernel
theorem d_MD_init_570 : decode c_MD_init 570 = .ok (.iconst 0, 1) := by decide +kernel
theorem d_MD_init_571 : decode c_MD_init 571 = .ok (.iastore, 1) := by decide +kernel
theorem d_MD_init_572 : decode c_MD_init 572 = .ok (.dup, 1) := by decide +kernel
theorem d_MD_init_573 : decode c_MD_init 573 = .ok (.bipush 78, 2) := by decide +kernel
theorem d_MD_init_575 : decode c_MD_init 575 = .ok (.iconst 0, 1) := by decide +kernel
theorem d_MD_init_576 : decode c_MD_init 576 = .ok (.iastore, 1) := by decide +kernel
theorem d_MD_init_577 : decode c_MD_init 577 = .ok (.dup, 1) := by decide +kernel
theorem d_MD_init_578 : decode c_MD_init 578 = .ok (.bipush 79, 2) := by decide +kernel
theorem d_MD_init_580 : decode c_MD_init 580 = .ok (.iconst 0, 1) := by decide +kernel
theorem d_MD_init_581 : decode c_MD_init 581 = .ok (.iastore, 1) := by decide +kernel
theorem d_MD_init_582 : decode c_MD_init 582 = .ok (.dup, 1) := by decide +kernel
theorem d_MD_init_583 : decode c_MD_init 583 = .ok (.bipush 80, 2) := by decide +kernel
theorem d_MD_init_585 : decode c_MD_init 585 = .ok (.bipush 111, 2) := by decide +kernel
theorem d_MD_init_587 : decode c_MD_init 587 = .ok (.iastore, 1) := by decide +kernel
theorem d_MD_init_588 : decode c_MD_init 588 = .ok (.dup, 1) := by decide +kernel
theorem d_MD_init_589 : decode c_MD_init 589 = .ok (.bipush 81, 2) := by decide +kernel
theorem d_MD_init_591 : decode c_MD_init 591 = .ok (.bipush 119, 2) := by decide +kernel
theorem d_MD_init_593 : decode c_MD_init 593 = .ok (.iastore, 1) := by decide +kernel
theorem d_MD_init_594 : decode c_MD_init 594 = .ok (.dup, 1) := by decide +kernel
theorem d_MD_init_595 : decode c_MD_init 595 = .ok (.bipush 82, 2) := by decide +kernel
theorem d_MD_init_597 : decode c_MD_init 597 = .ok (.bipush 110, 2) := by decide +kernel
theorem d_MD_init_599 : decode c_MD_init 599 = .ok (.iastore, 1) := by decide +kernel
theorem d_MD_init_600 : decode c_MD_init 600 = .ok (.dup, 1) := by decide +kernel
theorem d_MD_init_601 : decode c_MD_init 601 = .ok (.bipush 83, 2) := by decide +kernel
theorem d_MD_init_603 : decode c_MD_init 603 = .ok (.iconst 0, 1) := by decide +kernel
theorem d_MD_init_604 : decode c_MD_init 604 = .ok (.iastore, 1) := by decide +kernel
theorem d_MD_init_605 : decode c_MD_init 605 = .ok (.dup, 1) := by decide +kernel
theorem d_MD_init_606 : decode c_MD_init 606 = .ok (.bipush 84, 2) := by decide +kernel
theorem d_MD_init_608 : decode c_MD_init 608 = .ok (.iconst 0, 1) := by decide +kernel
theorem d_MD_init_609 : decode c_MD_init 609 = .ok (.iastore, 1) := by decide +kernel
theorem d_MD_init_610 : decode c_MD_init 610 = .ok (.dup, 1) := by decide +kernel
theorem d_MD_init_611 : decode c_MD_init 611 = .ok (.bipush 85, 2) := by decide +kernel
theorem d_MD_init_613 : decode c_MD_init 613 = .ok (.iconst 0, 1) := by decide +kernel
theorem d_MD_init_614 : decode c_MD_init 614 = .ok (.iastore, 1) := by decide +kernel
theorem d_MD_init_615 : decode c_MD_init 615 = .ok (.dup, 1) := by decide +kernel
theorem d_MD_init_616 : decode c_MD_init 616 = .ok (.bipush 86, 2) := by decide +kernel
theorem d_MD_init_618 : decode c_MD_init 618 = .ok (.iconst 0, 1) := by decide +kernel
theorem d_MD_init_619 : decode c_MD_init 619 = .ok (.iastore, 1) := by decide +kernel
theorem d_MD_init_620 : decode c_MD_init 620 = .ok (.dup, 1) := by decide +kernel
theorem d_MD_init_621 : decode c_MD_init 621 = .ok (.bipush 87, 2) := by decide +kernel
theorem d_MD_init_623 : decode c_MD_init 623 = .ok (.iconst 0, 1) := by decide +kernel
theorem d_MD_init_624 : decode c_MD_init 624 = .ok (.iastore, 1) := by decide +kernel
theorem d_MD_init_625 : decode c_MD_init 625 = .ok (.putfield 59, 3) := by decide +kernel
theorem d_MD_init_628 : decode c_MD_init 628 = .ok (.iconst 0, 1) := by decide +kernel
theorem d_MD_init_629 : decode c_MD_init 629 = .ok (.istore_n 1, 1) := by decide +kernel
theorem d_MD_init_630 : decode c_MD_init 630 = .ok (.iload_n 1, 1) := by decide +kernel
theorem d_MD_init_631 : decode c_MD_init 631 = .ok (.bipush 12, 2) := by decide +kernel
theorem d_MD_init_633 : decode c_MD_init 633 = .ok (.if_icmp .ge 58, 3) := by decide +kernel
theorem d_MD_init_636 : decode c_MD_init 636 = .ok (.aload_n 0, 1) := by decide +kernel
theorem d_MD_init_637 : decode c_MD_init 637 = .ok (.getfield 7, 3) := by decide +kernel
theorem d_MD_init_640 : decode c_MD_init 640 = .ok (.iconst 5, 1) := by decide +kernel
theorem d_MD_init_641 : decode c_MD_init 641 = .ok (.iload_n 1, 1) := by decide +kernel
theorem d_MD_init_642 : decode c_MD_init 642 = .ok (.imul, 1) := by decide +kernel
theorem d_MD_init_643 : decode c_MD_init 643 = .ok (.sipush 1000, 3) := by decide +kernel
theorem d_MD_init_646 : decode c_MD_init 646 = .ok (.iastore, 1) := by decide +kernel
theorem d_MD_init_647 : decode c_MD_init 647 = .ok (.aload_n 0, 1) := by decide +kernel
theorem d_MD_init_648 : decode c_MD_init 648 = .ok (.getfield 7, 3) := by decide +kernel
theorem d_MD_init_651 : decode c_MD_init 651 = .ok (.iconst 5, 1) := by decide +kernel
theorem d_MD_init_652 : decode c_MD_init 652 = .ok (.iload_n 1, 1) := by decide +kernel
theorem d_MD_init_653 : decode c_MD_init 653 = .ok (.imul, 1) := by decide +kernel
theorem d_MD_init_654 : decode c_MD_init 654 = .ok (.iconst 1, 1) := by decide +kernel
theorem d_MD_init_655 : decode c_MD_init 655 = .ok (.iadd, 1) := by decide +kernel
theorem d_MD_init_656 : decode c_MD_init 656 = .ok (.sipush 1000, 3) := by decide +kernel
theorem d_MD_init_659 : decode c_MD_init 659 = .ok (.iastore, 1) := by decide +kernel
theorem d_MD_init_660 : decode c_MD_init 660 = .ok (.aload_n 0, 1) := by decide +kernel
theorem d_MD_init_661 : decode c_MD_init 661 = .ok (.getfield 7, 3) := by decide +kernel
theorem d_MD_init_664 : decode c_MD_init 664 = .ok (.iconst 5, 1) := by decide +kernel
theorem d_MD_init_665 : decode c_MD_init 665 = .ok (.iload_n 1, 1) := by decide +kernel
theorem d_MD_init_666 : decode c_MD_init 666 = .ok (.imul, 1) := by decide +kernel
theorem d_MD_init_667 : decode c_MD_init 667 = .ok (.iconst 2, 1) := by decide +kernel
theorem d_MD_init_668 : decode c_MD_init 668 = .ok (.iadd, 1) := by decide +kernel
theorem d_MD_init_669 : decode c_MD_init 669 = .ok (.sipush 1000, 3) := by decide +kernel
theorem d_MD_init_672 : decode c_MD_init 672 = .ok (.iastore, 1) := by decide +kernel
theorem d_MD_init_673 : decode c_MD_init 673 = .ok (.aload_n 0, 1) := by decide +kernel
theorem d_MD_init_674 : decode c_MD_init 674 = .ok (.getfield 7, 3) := by decide +kernel
theorem d_MD_init_677 : decode c_MD_init 677 = .ok (.iconst 5, 1) := by decide +kernel
theorem d_MD_init_678 : decode c_MD_init 678 = .ok (.iload_n 1, 1) := by decide +kernel
theorem d_MD_init_679 : decode c_MD_init 679 = .ok (.imul, 1) := by decide +kernel
theorem d_MD_init_680 : decode c_MD_init 680 = .ok (.iconst 3, 1) := by decide +kernel
theorem d_MD_init_681 : decode c_MD_init 681 = .ok (.iadd, 1) := by decide +kernel
theorem d_MD_init_682 : decode c_MD_init 682 = .ok (.ldc 62, 2) := by decide +kernel
theorem d_MD_init_684 : decode c_MD_init 684 = .ok (.iastore, 1) := by decide +kernel
theorem d_MD_init_685 : decode c_MD_init 685 = .ok (.iinc 1 1, 3) := by decide +kernel
theorem d_MD_init_688 : decode c_MD_init 688 = .ok (.goto (-58), 3) := by decide +kernel
theorem d_MD_init_691 : decode c_MD_init 691 = .ok (.return_, 1) := by decide +kernel
theorem d_MD_thrown_0 : decode c_MD_thrown 0 = .ok (.aload_n 0, 1) := by decide +kernel
theorem d_MD_thrown_1 : decode c_MD_thrown 1 = .ok (.getfield 63, 3) := by decide +kernel
theorem d_MD_thrown_4 : decode c_MD_thrown 4 = .ok (.ireturn, 1) := by decide +kernel
theorem d_MD_in_0 : decode c_MD_in 0 = .ok (.iload_n 0, 1) := by decide +kernel
theorem d_MD_in_1 : decode c_MD_in 1 = .ok (.iload_n 1, 1) := by decide +kernel
theorem d_MD_in_2 : decode c_MD_in 2 = .ok (.if_icmp .lt 12, 3) := by decide +kernel
theorem d_MD_in_5 : decode c_MD_in 5 = .ok (.iload_n 0, 1) := by decide +kernel
theorem d_MD_in_6 : decode c_MD_in 6 = .ok (.iload_n 2, 1) := by decide +kernel
theorem d_MD_in_7 : decode c_MD_in 7 = .ok (.if_icmp .gt 7, 3) := by decide +kernel
theorem d_MD_in_10 : decode c_MD_in 10 = .ok (.iconst 1, 1) := by decide +kernel
theorem d_MD_in_11 : decode c_MD_in 11 = .ok (.goto 4, 3) := by decide +kernel
theorem d_MD_in_14 : decode c_MD_in 14 = .ok (.iconst 0, 1) := by decide +kernel
theorem d_MD_in_15 : decode c_MD_in 15 = .ok (.ireturn, 1) := by decide +kernel
theorem d_MD_fails_0 : decode c_MD_fails 0 = .ok (.aload_n 0, 1) := by decide +kernel
theorem d_MD_fails_1 : decode c_MD_fails 1 = .ok (.iload_n 1, 1) := by decide +kernel
theorem d_MD_fails_2 : decode c_MD_fails 2 = .ok (.ifCond .eq 7, 3) := by decide +kernel
theorem d_MD_fails_5 : decode c_MD_fails 5 = .ok (.iconst 1, 1) := by decide +kernel
theorem d_MD_fails_6 : decode c_MD_fails 6 = .ok (.goto 20, 3) := by decide +kernel
theorem d_MD_fails_9 : decode c_MD_fails 9 = .ok (.iload_n 2, 1) := by decide +kernel
theorem d_MD_fails_10 : decode c_MD_fails 10 = .ok (.ifCond .eq 7, 3) := by decide +kernel
theorem d_MD_fails_13 : decode c_MD_fails 13 = .ok (.iconst 2, 1) := by decide +kernel
theorem d_MD_fails_14 : decode c_MD_fails 14 = .ok (.goto 12, 3) := by decide +kernel
theorem d_MD_fails_17 : decode c_MD_fails 17 = .ok (.iload_n 3, 1) := by decide +kernel
theorem d_MD_fails_18 : decode c_MD_fails 18 = .ok (.ifCond .eq 7, 3) := by decide +kernel
theorem d_MD_fails_21 : decode c_MD_fails 21 = .ok (.iconst 3, 1) := by decide +kernel
theorem d_MD_fails_22 : decode c_MD_fails 22 = .ok (.goto 4, 3) := by decide +kernel
theorem d_MD_fails_25 : decode c_MD_fails 25 = .ok (.iconst 0, 1) := by decide +kernel
theorem d_MD_fails_26 : decode c_MD_fails 26 = .ok (.putfield 63, 3) := by decide +kernel
theorem d_MD_fails_29 : decode c_MD_fails 29 = .ok (.aload_n 0, 1) := by decide +kernel
theorem d_MD_fails_30 : decode c_MD_fails 30 = .ok (.getfield 63, 3) := by decide +kernel
theorem d_MD_fails_33 : decode c_MD_fails 33 = .ok (.ifCond .le 7, 3) := by decide +kernel
theorem d_MD_fails_36 : decode c_MD_fails 36 = .ok (.iconst 1, 1) := by decide +kernel
theorem d_MD_fails_37 : decode c_MD_fails 37 = .ok (.goto 4, 3) := by decide +kernel
theorem d_MD_fails_40 : decode c_MD_fails 40 = .ok (.iconst 0, 1) := by decide +kernel
theorem d_MD_fails_41 : decode c_MD_fails 41 = .ok (.ireturn, 1) := by decide +kernel
theorem d_MD_isSize_0 : decode c_MD_isSize 0 = .ok (.iload_n 0, 1) := by decide +kernel
theorem d_MD_isSize_1 : decode c_MD_isSize 1 = .ok (.iconst 1, 1) := by decide +kernel
theorem d_MD_isSize_2 : decode c_MD_isSize 2 = .ok (.sipush 9999, 3) := by decide +kernel
theorem d_MD_isSize_5 : decode c_MD_isSize 5 = .ok (.invokestatic 67, 3) := by decide +kernel
theorem d_MD_isSize_8 : decode c_MD_isSize 8 = .ok (.ifCond .eq 29, 3) := by decide +kernel
theorem d_MD_isSize_11 : decode c_MD_isSize 11 = .ok (.iload_n 1, 1) := by decide +kernel
theorem d_MD_isSize_12 : decode c_MD_isSize 12 = .ok (.iconst 1, 1) := by decide +kernel
theorem d_MD_isSize_13 : decode c_MD_isSize 13 = .ok (.sipush 9999, 3) := by decide +kernel
theorem d_MD_isSize_16 : decode c_MD_isSize 16 = .ok (.invokestatic 67, 3) := by decide +kernel
theorem d_MD_isSize_19 : decode c_MD_isSize 19 = .ok (.ifCond .eq 18, 3) := by decide +kernel
theorem d_MD_isSize_22 : decode c_MD_isSize 22 = .ok (.iload_n 2, 1) := by decide +kernel
theorem d_MD_isSize_23 : decode c_MD_isSize 23 = .ok (.iconst 1, 1) := by decide +kernel
theorem d_MD_isSize_24 : decode c_MD_isSize 24 = .ok (.sipush 9999, 3) := by decide +kernel
theorem d_MD_isSize_27 : decode c_MD_isSize 27 = .ok (.invokestatic 67, 3) := by decide +kernel
theorem d_MD_isSize_30 : decode c_MD_isSize 30 = .ok (.ifCond .eq 7, 3) := by decide +kernel
theorem d_MD_isSize_33 : decode c_MD_isSize 33 = .ok (.iconst 1, 1) := by decide +kernel
theorem d_MD_isSize_34 : decode c_MD_isSize 34 = .ok (.goto 4, 3) := by decide +kernel
theorem d_MD_isSize_37 : decode c_MD_isSize 37 = .ok (.iconst 0, 1) := by decide +kernel
theorem d_MD_isSize_38 : decode c_MD_isSize 38 = .ok (.ireturn, 1) := by decide +kernel
theorem d_MD_isPlace_0 : decode c_MD_isPlace 0 = .ok (.iload_n 0, 1) := by decide +kernel
theorem d_MD_isPlace_1 : decode c_MD_isPlace 1 = .ok (.iconst 0, 1) := by decide +kernel
theorem d_MD_isPlace_2 : decode c_MD_isPlace 2 = .ok (.bipush 11, 2) := by decide +kernel
theorem d_MD_isPlace_4 : decode c_MD_isPlace 4 = .ok (.invokestatic 67, 3) := by decide +kernel
theorem d_MD_isPlace_7 : decode c_MD_isPlace 7 = .ok (.ireturn, 1) := by decide +kernel
theorem d_MD_place_0 : decode c_MD_place 0 = .ok (.aload_n 0, 1) := by decide +kernel
theorem d_MD_place_1 : decode c_MD_place 1 = .ok (.iload_n 1, 1) := by decide +kernel
theorem d_MD_place_2 : decode c_MD_place 2 = .ok (.invokestatic 71, 3) := by decide +kernel
theorem d_MD_place_5 : decode c_MD_place 5 = .ok (.ifCond .eq 13, 3) := by decide +kernel
theorem d_MD_place_8 : decode c_MD_place 8 = .ok (.iload_n 2, 1) := by decide +kernel
theorem d_MD_place_9 : decode c_MD_place 9 = .ok (.iload_n 3, 1) := by decide +kernel
theorem d_MD_place_10 : decode c_MD_place 10 = .ok (.iload 4, 2) := by decide +kernel
theorem d_MD_place_12 : decode c_MD_place 12 = .ok (.invokestatic 75, 3) := by decide +kernel
theorem d_MD_place_15 : decode c_MD_place 15 = .ok (.ifCond .ne 7, 3) := by decide +kernel
theorem d_MD_place_18 : decode c_MD_place 18 = .ok (.iconst 1, 1) := by decide +kernel
theorem d_MD_place_19 : decode c_MD_place 19 = .ok (.goto 4, 3) := by decide +kernel
theorem d_MD_place_22 : decode c_MD_place 22 = .ok (.iconst 0, 1) := by decide +kernel
theorem d_MD_place_23 : decode c_MD_place 23 = .ok (.iconst 0, 1) := by decide +kernel
theorem d_MD_place_24 : decode c_MD_place 24 = .ok (.iconst 0, 1) := by decide +kernel
theorem d_MD_place_25 : decode c_MD_place 25 = .ok (.invokevirtual 78, 3) := by decide +kernel
theorem d_MD_place_28 : decode c_MD_place 28 = .ok (.ifCond .ne 35, 3) := by decide +kernel
theorem d_MD_place_31 : decode c_MD_place 31 = .ok (.aload_n 0, 1) := by decide +kernel
theorem d_MD_place_32 : decode c_MD_place 32 = .ok (.getfield 7, 3) := by decide +kernel
theorem d_MD_place_35 : decode c_MD_place 35 = .ok (.iconst 5, 1) := by decide +kernel
theorem d_MD_place_36 : decode c_MD_place 36 = .ok (.iload_n 1, 1) := by decide +kernel
theorem d_MD_place_37 : decode c_MD_place 37 = .ok (.imul, 1) := by decide +kernel
theorem d_MD_place_38 : decode c_MD_place 38 = .ok (.iload_n 2, 1) := by decide +kernel
theorem d_MD_place_39 : decode c_MD_place 39 = .ok (.iastore, 1) := by decide +kernel
theorem d_MD_place_40 : decode c_MD_place 40 = .ok (.aload_n 0, 1) := by decide +kernel
theorem d_MD_place_41 : decode c_MD_place 41 = .ok (.getfield 7, 3) := by decide +kernel
theorem d_MD_place_44 : decode c_MD_place 44 = .ok (.iconst 5, 1) := by decide +kernel
theorem d_MD_place_45 : decode c_MD_place 45 = .ok (.iload_n 1, 1) := by decide +kernel
theorem d_MD_place_46 : decode c_MD_place 46 = .ok (.imul, 1) := by decide +kernel
theorem d_MD_place_47 : decode c_MD_place 47 = .ok (.iconst 1, 1) := by decide +kernel
theorem d_MD_place_48 : decode c_MD_place 48 = .ok (.iadd, 1) := by decide +kernel
theorem d_MD_place_49 : decode c_MD_place 49 = .ok (.iload_n 3, 1) := by decide +kernel
theorem d_MD_place_50 : decode c_MD_place 50 = .ok (.iastore, 1) := by decide +kernel
theorem d_MD_place_51 : decode c_MD_place 51 = .ok (.aload_n 0, 1) := by decide +kernel
theorem d_MD_place_52 : decode c_MD_place 52 = .ok (.getfield 7, 3) := by decide +kernel
theorem d_MD_place_55 : decode c_MD_place 55 = .ok (.iconst 5, 1) := by decide +kernel
theorem d_MD_place_56 : decode c_MD_place 56 = .ok (.iload_n 1, 1) := by decide +kernel
theorem d_MD_place_57 : decode c_MD_place 57 = .ok (.imul, 1) := by decide +kernel
theorem d_MD_place_58 : decode c_MD_place 58 = .ok (.iconst 2, 1) := by decide +kernel
theorem d_MD_place_59 : decode c_MD_place 59 = .ok (.iadd, 1) := by decide +kernel
theorem d_MD_place_60 : decode c_MD_place 60 = .ok (.iload 4, 2) := by decide +kernel
theorem d_MD_place_62 : decode c_MD_place 62 = .ok (.iastore, 1) := by decide +kernel
theorem d_MD_place_63 : decode c_MD_place 63 = .ok (.return_, 1) := by decide +kernel
theorem d_MD_limit_0 : decode c_MD_limit 0 = .ok (.aload_n 0, 1) := by decide +kernel
theorem d_MD_limit_1 : decode c_MD_limit 1 = .ok (.iload_n 1, 1) := by decide +kernel
theorem d_MD_limit_2 : decode c_MD_limit 2 = .ok (.invokestatic 71, 3) := by decide +kernel
theorem d_MD_limit_5 : decode c_MD_limit 5 = .ok (.ifCond .eq 23, 3) := by decide +kernel
theorem d_MD_limit_8 : decode c_MD_limit 8 = .ok (.iload_n 2, 1) := by decide +kernel
theorem d_MD_limit_9 : decode c_MD_limit 9 = .ok (.iconst 0, 1) := by decide +kernel
theorem d_MD_limit_10 : decode c_MD_limit 10 = .ok (.ldc 82, 2) := by decide +kernel
theorem d_MD_limit_12 : decode c_MD_limit 12 = .ok (.invokestatic 67, 3) := by decide +kernel
theorem d_MD_limit_15 : decode c_MD_limit 15 = .ok (.ifCond .eq 13, 3) := by decide +kernel
theorem d_MD_limit_18 : decode c_MD_limit 18 = .ok (.iload_n 3, 1) := by decide +kernel
theorem d_MD_limit_19 : decode c_MD_limit 19 = .ok (.iconst 0, 1) := by decide +kernel
theorem d_MD_limit_20 : decode c_MD_limit 20 = .ok (.bipush 7, 2) := by decide +kernel
theorem d_MD_limit_22 : decode c_MD_limit 22 = .ok (.invokestatic 67, 3) := by decide +kernel
theorem d_MD_limit_25 : decode c_MD_limit 25 = .ok (.ifCond .ne 7, 3) := by decide +kernel
theorem d_MD_limit_28 : decode c_MD_limit 28 = .ok (.iconst 1, 1) := by decide +kernel
theorem d_MD_limit_29 : decode c_MD_limit 29 = .ok (.goto 4, 3) := by decide +kernel
theorem d_MD_limit_32 : decode c_MD_limit 32 = .ok (.iconst 0, 1) := by decide +kernel
theorem d_MD_limit_33 : decode c_MD_limit 33 = .ok (.iconst 0, 1) := by decide +kernel
theorem d_MD_limit_34 : decode c_MD_limit 34 = .ok (.iconst 0, 1) := by decide +kernel
theorem d_MD_limit_35 : decode c_MD_limit 35 = .ok (.invokevirtual 78, 3) := by decide +kernel
theorem d_MD_limit_38 : decode c_MD_limit 38 = .ok (.ifCond .ne 25, 3) := by decide +kernel
theorem d_MD_limit_41 : decode c_MD_limit 41 = .ok (.aload_n 0, 1) := by decide +kernel
theorem d_MD_limit_42 : decode c_MD_limit 42 = .ok (.getfield 7, 3) := by decide +kernel
theorem d_MD_limit_45 : decode c_MD_limit 45 = .ok (.iconst 5, 1) := by decide +kernel
theorem d_MD_limit_46 : decode c_MD_limit 46 = .ok (.iload_n 1, 1) := by decide +kernel
theorem d_MD_limit_47 : decode c_MD_limit 47 = .ok (.imul, 1) := by decide +kernel
theorem d_MD_limit_48 : decode c_MD_limit 48 = .ok (.iconst 3, 1) := by decide +kernel
theorem d_MD_limit_49 : decode c_MD_limit 49 = .ok (.iadd, 1) := by decide +kernel
theorem d_MD_limit_50 : decode c_MD_limit 50 = .ok (.iload_n 2, 1) := by decide +kernel
theorem d_MD_limit_51 : decode c_MD_limit 51 = .ok (.iastore, 1) := by decide +kernel
theorem d_MD_limit_52 : decode c_MD_limit 52 = .ok (.aload_n 0, 1) := by decide +kernel
theorem d_MD_limit_53 : decode c_MD_limit 53 = .ok (.getfield 7, 3) := by decide +kernel
theorem d_MD_limit_56 : decode c_MD_limit 56 = .ok (.iconst 5, 1) := by decide +kernel
theorem d_MD_limit_57 : decode c_MD_limit 57 = .ok (.iload_n 1, 1) := by decide +kernel
theorem d_MD_limit_58 : decode c_MD_limit 58 = .ok (.imul, 1) := by decide +kernel
theorem d_MD_limit_59 : decode c_MD_limit 59 = .ok (.iconst 4, 1) := by decide +kernel
theorem d_MD_limit_60 : decode c_MD_limit 60 = .ok (.iadd, 1) := by decide +kernel
theorem d_MD_limit_61 : decode c_MD_limit 61 = .ok (.iload_n 3, 1) := by decide +kernel
theorem d_MD_limit_62 : decode c_MD_limit 62 = .ok (.iastore, 1) := by decide +kernel
theorem d_MD_limit_63 : decode c_MD_limit 63 = .ok (.return_, 1) := by decide +kernel
theorem d_MD_lay_0 : decode c_MD_lay 0 = .ok (.aload_n 0, 1) := by decide +kernel
theorem d_MD_lay_1 : decode c_MD_lay 1 = .ok (.getfield 13, 3) := by decide +kernel
theorem d_MD_lay_4 : decode c_MD_lay 4 = .ok (.bipush 10, 2) := by decide +kernel
theorem d_MD_lay_6 : decode c_MD_lay 6 = .ok (.iload_n 1, 1) := by decide +kernel
theorem d_MD_lay_7 : decode c_MD_lay 7 = .ok (.imul, 1) := by decide +kernel
theorem d_MD_lay_8 : decode c_MD_lay 8 = .ok (.iload_n 2, 1) := by decide +kernel
theorem d_MD_lay_9 : decode c_MD_lay 9 = .ok (.iadd, 1) := by decide +kernel
theorem d_MD_lay_10 : decode c_MD_lay 10 = .ok (.iload_n 3, 1) := by decide +kernel
theorem d_MD_lay_11 : decode c_MD_lay 11 = .ok (.iastore, 1) := by decide +kernel
theorem d_MD_lay_12 : decode c_MD_lay 12 = .ok (.aload_n 0, 1) := by decide +kernel
theorem d_MD_lay_13 : decode c_MD_lay 13 = .ok (.getfield 13, 3) := by decide +kernel
theorem d_MD_lay_16 : decode c_MD_lay 16 = .ok (.bipush 10, 2) := by decide +kernel
theorem d_MD_lay_18 : decode c_MD_lay 18 = .ok (.iload_n 1, 1) := by decide +kernel
theorem d_MD_lay_19 : decode c_MD_lay 19 = .ok (.imul, 1) := by decide +kernel
theorem d_MD_lay_20 : decode c_MD_lay 20 = .ok (.iload_n 2, 1) := by decide +kernel
theorem d_MD_lay_21 : decode c_MD_lay 21 = .ok (.iadd, 1) := by decide +kernel
theorem d_MD_lay_22 : decode c_MD_lay 22 = .ok (.iconst 1, 1) := by decide +kernel
theorem d_MD_lay_23 : decode c_MD_lay 23 = .ok (.iadd, 1) := by decide +kernel
theorem d_MD_lay_24 : decode c_MD_lay 24 = .ok (.iload 4, 2) := by decide +kernel
theorem d_MD_lay_26 : decode c_MD_lay 26 = .ok (.iastore, 1) := by decide +kernel
theorem d_MD_lay_27 : decode c_MD_lay 27 = .ok (.aload_n 0, 1) := by decide +kernel
theorem d_MD_lay_28 : decode c_MD_lay 28 = .ok (.getfield 13, 3) := by decide +kernel
theorem d_MD_lay_31 : decode c_MD_lay 31 = .ok (.bipush 10, 2) := by decide +kernel
theorem d_MD_lay_33 : decode c_MD_lay 33 = .ok (.iload_n 1, 1) := by decide +kernel
theorem d_MD_lay_34 : decode c_MD_lay 34 = .ok (.imul, 1) := by decide +kernel
theorem d_MD_lay_35 : decode c_MD_lay 35 = .ok (.iload_n 2, 1) := by decide +kernel
theorem d_MD_lay_36 : decode c_MD_lay 36 = .ok (.iadd, 1) := by decide +kernel
theorem d_MD_lay_37 : decode c_MD_lay 37 = .ok (.iconst 2, 1) := by decide +kernel
theorem d_MD_lay_38 : decode c_MD_lay 38 = .ok (.iadd, 1) := by decide +kernel
theorem d_MD_lay_39 : decode c_MD_lay 39 = .ok (.iload 5, 2) := by decide +kernel
theorem d_MD_lay_41 : decode c_MD_lay 41 = .ok (.iastore, 1) := by decide +kernel
theorem d_MD_lay_42 : decode c_MD_lay 42 = .ok (.return_, 1) := by decide +kernel
theorem d_MD_unit_0 : decode c_MD_unit 0 = .ok (.aload_n 0, 1) := by decide +kernel
theorem d_MD_unit_1 : decode c_MD_unit 1 = .ok (.iload_n 1, 1) := by decide +kernel
theorem d_MD_unit_2 : decode c_MD_unit 2 = .ok (.iconst 0, 1) := by decide +kernel
theorem d_MD_unit_3 : decode c_MD_unit 3 = .ok (.bipush 99, 2) := by decide +kernel
theorem d_MD_unit_5 : decode c_MD_unit 5 = .ok (.invokestatic 67, 3) := by decide +kernel
theorem d_MD_unit_8 : decode c_MD_unit 8 = .ok (.ifCond .eq 23, 3) := by decide +kernel
theorem d_MD_unit_11 : decode c_MD_unit 11 = .ok (.iload_n 2, 1) := by decide +kernel
theorem d_MD_unit_12 : decode c_MD_unit 12 = .ok (.iconst 0, 1) := by decide +kernel
theorem d_MD_unit_13 : decode c_MD_unit 13 = .ok (.bipush 99, 2) := by decide +kernel
theorem d_MD_unit_15 : decode c_MD_unit 15 = .ok (.invokestatic 67, 3) := by decide +kernel
theorem d_MD_unit_18 : decode c_MD_unit 18 = .ok (.ifCond .eq 13, 3) := by decide +kernel
theorem d_MD_unit_21 : decode c_MD_unit 21 = .ok (.iload_n 3, 1) := by decide +kernel
theorem d_MD_unit_22 : decode c_MD_unit 22 = .ok (.iconst 0, 1) := by decide +kernel
theorem d_MD_unit_23 : decode c_MD_unit 23 = .ok (.bipush 7, 2) := by decide +kernel
theorem d_MD_unit_25 : decode c_MD_unit 25 = .ok (.invokestatic 67, 3) := by decide +kernel
theorem d_MD_unit_28 : decode c_MD_unit 28 = .ok (.ifCond .ne 7, 3) := by decide +kernel
theorem d_MD_unit_31 : decode c_MD_unit 31 = .ok (.iconst 1, 1) := by decide +kernel
theorem d_MD_unit_32 : decode c_MD_unit 32 = .ok (.goto 4, 3) := by decide +kernel
theorem d_MD_unit_35 : decode c_MD_unit 35 = .ok (.iconst 0, 1) := by decide +kernel
theorem d_MD_unit_36 : decode c_MD_unit 36 = .ok (.aload_n 0, 1) := by decide +kernel
theorem d_MD_unit_37 : decode c_MD_unit 37 = .ok (.getfield 83, 3) := by decide +kernel
theorem d_MD_unit_40 : decode c_MD_unit 40 = .ok (.bipush 40, 2) := by decide +kernel
theorem d_MD_unit_42 : decode c_MD_unit 42 = .ok (.if_icmp .ne 7, 3) := by decide +kernel
theorem d_MD_unit_45 : decode c_MD_unit 45 = .ok (.iconst 1, 1) := by decide +kernel
theorem d_MD_unit_46 : decode c_MD_unit 46 = .ok (.goto 4, 3) := by decide +kernel
theorem d_MD_unit_49 : decode c_MD_unit 49 = .ok (.iconst 0, 1) := by decide +kernel
theorem d_MD_unit_50 : decode c_MD_unit 50 = .ok (.iconst 0, 1) := by decide +kernel
theorem d_MD_unit_51 : decode c_MD_unit 51 = .ok (.invokevirtual 78, 3) := by decide +kernel
theorem d_MD_unit_54 : decode c_MD_unit 54 = .ok (.ifCond .eq 5, 3) := by decide +kernel
theorem d_MD_unit_57 : decode c_MD_unit 57 = .ok (.iconst 0, 1) := by decide +kernel
theorem d_MD_unit_58 : decode c_MD_unit 58 = .ok (.ireturn, 1) := by decide +kernel
theorem d_MD_unit_59 : decode c_MD_unit 59 = .ok (.aload_n 0, 1) := by decide +kernel
theorem d_MD_unit_60 : decode c_MD_unit 60 = .ok (.aload_n 0, 1) := by decide +kernel
theorem d_MD_unit_61 : decode c_MD_unit 61 = .ok (.getfield 83, 3) := by decide +kernel
theorem d_MD_unit_64 : decode c_MD_unit 64 = .ok (.iconst 0, 1) := by decide +kernel
theorem d_MD_unit_65 : decode c_MD_unit 65 = .ok (.iload_n 1, 1) := by decide +kernel
theorem d_MD_unit_66 : decode c_MD_unit 66 = .ok (.iload_n 2, 1) := by decide +kernel
theorem d_MD_unit_67 : decode c_MD_unit 67 = .ok (.iload_n 3, 1) := by decide +kernel
theorem d_MD_unit_68 : decode c_MD_unit 68 = .ok (.invokevirtual 86, 3) := by decide +kernel
theorem d_MD_unit_71 : decode c_MD_unit 71 = .ok (.aload_n 0, 1) := by decide +kernel
theorem d_MD_unit_72 : decode c_MD_unit 72 = .ok (.aload_n 0, 1) := by decide +kernel
theorem d_MD_unit_73 : decode c_MD_unit 73 = .ok (.getfield 83, 3) := by decide +kernel
theorem d_MD_unit_76 : decode c_MD_unit 76 = .ok (.iconst 3, 1) := by decide +kernel
theorem d_MD_unit_77 : decode c_MD_unit 77 = .ok (.bipush 100, 2) := by decide +kernel
theorem d_MD_unit_79 : decode c_MD_unit 79 = .ok (.bipush 100, 2) := by decide +kernel
theorem d_MD_unit_81 : decode c_MD_unit 81 = .ok (.bipush 100, 2) := by decide +kernel
theorem d_MD_unit_83 : decode c_MD_unit 83 = .ok (.invokevirtual 86, 3) := by decide +kernel
theorem d_MD_unit_86 : decode c_MD_unit 86 = .ok (.aload_n 0, 1) := by decide +kernel
theorem d_MD_unit_87 : decode c_MD_unit 87 = .ok (.getfield 13, 3) := by decide +kernel
theorem d_MD_unit_90 : decode c_MD_unit 90 = .ok (.bipush 10, 2) := by decide +kernel
theorem d_MD_unit_92 : decode c_MD_unit 92 = .ok (.aload_n 0, 1) := by decide +kernel
theorem d_MD_unit_93 : decode c_MD_unit 93 = .ok (.getfield 83, 3) := by decide +kernel
theorem d_MD_unit_96 : decode c_MD_unit 96 = .ok (.imul, 1) := by decide +kernel
theorem d_MD_unit_97 : decode c_MD_unit 97 = .ok (.bipush 6, 2) := by decide +kernel
theorem d_MD_unit_99 : decode c_MD_unit 99 = .ok (.iadd, 1) := by decide +kernel
theorem d_MD_unit_100 : decode c_MD_unit 100 = .ok (.sipush 1000, 3) := by decide +kernel
theorem d_MD_unit_103 : decode c_MD_unit 103 = .ok (.iastore, 1) := by decide +kernel
theorem d_MD_unit_104 : decode c_MD_unit 104 = .ok (.aload_n 0, 1) := by decide +kernel
theorem d_MD_unit_105 : decode c_MD_unit 105 = .ok (.aload_n 0, 1) := by decide +kernel
theorem d_MD_unit_106 : decode c_MD_unit 106 = .ok (.getfield 83, 3) := by decide +kernel
theorem d_MD_unit_109 : decode c_MD_unit 109 = .ok (.bipush 7, 2) := by decide +kernel
theorem d_MD_unit_111 : decode c_MD_unit 111 = .ok (.iconst 0, 1) := by decide +kernel
theorem d_MD_unit_112 : decode c_MD_unit 112 = .ok (.iconst 0, 1) := by decide +kernel
theorem d_MD_unit_113 : decode c_MD_unit 113 = .ok (.sipush 1000, 3) := by decide +kernel
theorem d_MD_unit_116 : decode c_MD_unit 116 = .ok (.invokevirtual 86, 3) := by decide +kernel
theorem d_MD_unit_119 : decode c_MD_unit 119 = .ok (.aload_n 0, 1) := by decide +kernel
theorem d_MD_unit_120 : decode c_MD_unit 120 = .ok (.getfield 16, 3) := by decide +kernel
theorem d_MD_unit_123 : decode c_MD_unit 123 = .ok (.aload_n 0, 1) := by decide +kernel
theorem d_MD_unit_124 : decode c_MD_unit 124 = .ok (.getfield 83, 3) := by decide +kernel
theorem d_MD_unit_127 : decode c_MD_unit 127 = .ok (.iconst (-1), 1) := by decide +kernel
theorem d_MD_unit_128 : decode c_MD_unit 128 = .ok (.iastore, 1) := by decide +kernel
theorem d_MD_unit_129 : decode c_MD_unit 129 = .ok (.aload_n 0, 1) := by decide +kernel
theorem d_MD_unit_130 : decode c_MD_unit 130 = .ok (.dup, 1) := by decide +kernel
theorem d_MD_unit_131 : decode c_MD_unit 131 = .ok (.getfield 83, 3) := by decide +kernel
theorem d_MD_unit_134 : decode c_MD_unit 134 = .ok (.iconst 1, 1) := by decide +kernel
theorem d_MD_unit_135 : decode c_MD_unit 135 = .ok (.iadd, 1) := by decide +kernel
theorem d_MD_unit_136 : decode c_MD_unit 136 = .ok (.putfield 83, 3) := by decide +kernel
theorem d_MD_unit_139 : decode c_MD_unit 139 = .ok (.aload_n 0, 1) := by decide +kernel
theorem d_MD_unit_140 : decode c_MD_unit 140 = .ok (.getfield 83, 3) := by decide +kernel
theorem d_MD_unit_143 : decode c_MD_unit 143 = .ok (.iconst 1, 1) := by decide +kernel
theorem d_MD_unit_144 : decode c_MD_unit 144 = .ok (.isub, 1) := by decide +kernel
theorem d_MD_unit_145 : decode c_MD_unit 145 = .ok (.ireturn, 1) := by decide +kernel
theorem d_MD_isUnit_0 : decode c_MD_isUnit 0 = .ok (.iload_n 1, 1) := by decide +kernel
theorem d_MD_isUnit_1 : decode c_MD_isUnit 1 = .ok (.iconst 0, 1) := by decide +kernel
theorem d_MD_isUnit_2 : decode c_MD_isUnit 2 = .ok (.aload_n 0, 1) := by decide +kernel
theorem d_MD_isUnit_3 : decode c_MD_isUnit 3 = .ok (.getfield 83, 3) := by decide +kernel
theorem d_MD_isUnit_6 : decode c_MD_isUnit 6 = .ok (.iconst 1, 1) := by decide +kernel
theorem d_MD_isUnit_7 : decode c_MD_isUnit 7 = .ok (.isub, 1) := by decide +kernel
theorem d_MD_isUnit_8 : decode c_MD_isUnit 8 = .ok (.invokestatic 67, 3) := by decide +kernel
theorem d_MD_isUnit_11 : decode c_MD_isUnit 11 = .ok (.ireturn, 1) := by decide +kernel
theorem d_MD_size_0 : decode c_MD_size 0 = .ok (.iload_n 2, 1) := by decide +kernel
theorem d_MD_size_1 : decode c_MD_size 1 = .ok (.iload_n 3, 1) := by decide +kernel
theorem d_MD_size_2 : decode c_MD_size 2 = .ok (.iload 4, 2) := by decide +kernel
theorem d_MD_size_4 : decode c_MD_size 4 = .ok (.invokestatic 75, 3) := by decide +kernel
theorem d_MD_size_7 : decode c_MD_size 7 = .ok (.ifCond .eq 14, 3) := by decide +kernel
theorem d_MD_size_10 : decode c_MD_size 10 = .ok (.iload 5, 2) := by decide +kernel
theorem d_MD_size_12 : decode c_MD_size 12 = .ok (.iconst 1, 1) := by decide +kernel
theorem d_MD_size_13 : decode c_MD_size 13 = .ok (.ldc 90, 2) := by decide +kernel
theorem d_MD_size_15 : decode c_MD_size 15 = .ok (.invokestatic 67, 3) := by decide +kernel
theorem d_MD_size_18 : decode c_MD_size 18 = .ok (.ifCond .ne 7, 3) := by decide +kernel
theorem d_MD_size_21 : decode c_MD_size 21 = .ok (.iconst 1, 1) := by decide +kernel
theorem d_MD_size_22 : decode c_MD_size 22 = .ok (.goto 4, 3) := by decide +kernel
theorem d_MD_size_25 : decode c_MD_size 25 = .ok (.iconst 0, 1) := by decide +kernel
theorem d_MD_size_26 : decode c_MD_size 26 = .ok (.istore 6, 2) := by decide +kernel
theorem d_MD_size_28 : decode c_MD_size 28 = .ok (.aload_n 0, 1) := by decide +kernel
theorem d_MD_size_29 : decode c_MD_size 29 = .ok (.aload_n 0, 1) := by decide +kernel
theorem d_MD_size_30 : decode c_MD_size 30 = .ok (.iload_n 1, 1) := by decide +kernel
theorem d_MD_size_31 : decode c_MD_size 31 = .ok (.invokevirtual 91, 3) := by decide +kernel
theorem d_MD_size_34 : decode c_MD_size 34 = .ok (.ifCond .ne 7, 3) := by decide +kernel
theorem d_MD_size_37 : decode c_MD_size 37 = .ok (.iconst 1, 1) := by decide +kernel
theorem d_MD_size_38 : decode c_MD_size 38 = .ok (.goto 4, 3) := by decide +kernel
theorem d_MD_size_41 : decode c_MD_size 41 = .ok (.iconst 0, 1) := by decide +kernel
theorem d_MD_size_42 : decode c_MD_size 42 = .ok (.iload 6, 2) := by decide +kernel
theorem d_MD_size_44 : decode c_MD_size 44 = .ok (.aload_n 0, 1) := by decide +kernel
theorem d_MD_size_45 : decode c_MD_size 45 = .ok (.iload_n 1, 1) := by decide +kernel
theorem d_MD_size_46 : decode c_MD_size 46 = .ok (.invokevirtual 91, 3) := by decide +kernel
theorem d_MD_size_49 : decode c_MD_size 49 = .ok (.ifCond .eq 16, 3) := by decide +kernel
theorem d_MD_size_52 : decode c_MD_size 52 = .ok (.aload_n 0, 1) := by decide +kernel
theorem d_MD_size_53 : decode c_MD_size 53 = .ok (.getfield 16, 3) := by decide +kernel
theorem d_MD_size_56 : decode c_MD_size 56 = .ok (.iload_n 1, 1) := by decide +kernel
theorem d_MD_size_57 : decode c_MD_size 57 = .ok (.iaload, 1) := by decide +kernel
theorem d_MD_size_58 : decode c_MD_size 58 = .ok (.ifCond .lt 7, 3) := by decide +kernel
theorem d_MD_size_61 : decode c_MD_size 61 = .ok (.iconst 1, 1) := by decide +kernel
theorem d_MD_size_62 : decode c_MD_size 62 = .ok (.goto 4, 3) := by decide +kernel
theorem d_MD_size_65 : decode c_MD_size 65 = .ok (.iconst 0, 1) := by decide +kernel
theorem d_MD_size_66 : decode c_MD_size 66 = .ok (.invokevirtual 78, 3) := by decide +kernel
theorem d_MD_size_69 : decode c_MD_size 69 = .ok (.ifCond .ne 27, 3) := by decide +kernel
theorem d_MD_size_72 : decode c_MD_size 72 = .ok (.aload_n 0, 1) := by decide +kernel
theorem d_MD_size_73 : decode c_MD_size 73 = .ok (.iload_n 1, 1) := by decide +kernel
theorem d_MD_size_74 : decode c_MD_size 74 = .ok (.iconst 3, 1) := by decide +kernel
theorem d_MD_size_75 : decode c_MD_size 75 = .ok (.iload_n 2, 1) := by decide +kernel
theorem d_MD_size_76 : decode c_MD_size 76 = .ok (.iload_n 3, 1) := by decide +kernel
theorem d_MD_size_77 : decode c_MD_size 77 = .ok (.iload 4, 2) := by decide +kernel
theorem d_MD_size_79 : decode c_MD_size 79 = .ok (.invokevirtual 86, 3) := by decide +kernel
theorem d_MD_size_82 : decode c_MD_size 82 = .ok (.aload_n 0, 1) := by decide +kernel
theorem d_MD_size_83 : decode c_MD_size 83 = .ok (.getfield 13, 3) := by decide +kernel
theorem d_MD_size_86 : decode c_MD_size 86 = .ok (.bipush 10, 2) := by decide +kernel
theorem d_MD_size_88 : decode c_MD_size 88 = .ok (.iload_n 1, 1) := by decide +kernel
theorem d_MD_size_89 : decode c_MD_size 89 = .ok (.imul, 1) := by decide +kernel
theorem d_MD_size_90 : decode c_MD_size 90 = .ok (.bipush 6, 2) := by decide +kernel
theorem d_MD_size_92 : decode c_MD_size 92 = .ok (.iadd, 1) := by decide +kernel
theorem d_MD_size_93 : decode c_MD_size 93 = .ok (.iload 5, 2) := by decide +kernel
theorem d_MD_size_95 : decode c_MD_size 95 = .ok (.iastore, 1) := by decide +kernel
theorem d_MD_size_96 : decode c_MD_size 96 = .ok (.return_, 1) := by decide +kernel
theorem d_MD_nature_0 : decode c_MD_nature 0 = .ok (.iload_n 2, 1) := by decide +kernel
theorem d_MD_nature_1 : decode c_MD_nature 1 = .ok (.iconst 0, 1) := by decide +kernel
theorem d_MD_nature_2 : decode c_MD_nature 2 = .ok (.bipush 7, 2) := by decide +kernel
theorem d_MD_nature_4 : decode c_MD_nature 4 = .ok (.invokestatic 67, 3) := by decide +kernel
theorem d_MD_nature_7 : decode c_MD_nature 7 = .ok (.ifCond .eq 25, 3) := by decide +kernel
theorem d_MD_nature_10 : decode c_MD_nature 10 = .ok (.iload_n 3, 1) := by decide +kernel
theorem d_MD_nature_11 : decode c_MD_nature 11 = .ok (.iconst 0, 1) := by decide +kernel
theorem d_MD_nature_12 : decode c_MD_nature 12 = .ok (.bipush 7, 2) := by decide +kernel
theorem d_MD_nature_14 : decode c_MD_nature 14 = .ok (.invokestatic 67, 3) := by decide +kernel
theorem d_MD_nature_17 : decode c_MD_nature 17 = .ok (.ifCond .eq 15, 3) := by decide +kernel
theorem d_MD_nature_20 : decode c_MD_nature 20 = .ok (.iload 4, 2) := by decide +kernel
theorem d_MD_nature_22 : decode c_MD_nature 22 = .ok (.iconst 0, 1) := by decide +kernel
theorem d_MD_nature_23 : decode c_MD_nature 23 = .ok (.sipush 1000, 3) := by decide +kernel
theorem d_MD_nature_26 : decode c_MD_nature 26 = .ok (.invokestatic 67, 3) := by decide +kernel
theorem d_MD_nature_29 : decode c_MD_nature 29 = .ok (.ifCond .ne 7, 3) := by decide +kernel
theorem d_MD_nature_32 : decode c_MD_nature 32 = .ok (.iconst 1, 1) := by decide +kernel
theorem d_MD_nature_33 : decode c_MD_nature 33 = .ok (.goto 4, 3) := by decide +kernel
theorem d_MD_nature_36 : decode c_MD_nature 36 = .ok (.iconst 0, 1) := by decide +kernel
theorem d_MD_nature_37 : decode c_MD_nature 37 = .ok (.istore 5, 2) := by decide +kernel
theorem d_MD_nature_39 : decode c_MD_nature 39 = .ok (.aload_n 0, 1) := by decide +kernel
theorem d_MD_nature_40 : decode c_MD_nature 40 = .ok (.aload_n 0, 1) := by decide +kernel
theorem d_MD_nature_41 : decode c_MD_nature 41 = .ok (.iload_n 1, 1) := by decide +kernel
theorem d_MD_nature_42 : decode c_MD_nature 42 = .ok (.invokevirtual 91, 3) := by decide +kernel
theorem d_MD_nature_45 : decode c_MD_nature 45 = .ok (.ifCond .ne 7, 3) := by decide +kernel
theorem d_MD_nature_48 : decode c_MD_nature 48 = .ok (.iconst 1, 1) := by decide +kernel
theorem d_MD_nature_49 : decode c_MD_nature 49 = .ok (.goto 4, 3) := by decide +kernel
theorem d_MD_nature_52 : decode c_MD_nature 52 = .ok (.iconst 0, 1) := by decide +kernel
theorem d_MD_nature_53 : decode c_MD_nature 53 = .ok (.iload 5, 2) := by decide +kernel
theorem d_MD_nature_55 : decode c_MD_nature 55 = .ok (.aload_n 0, 1) := by decide +kernel
theorem d_MD_nature_56 : decode c_MD_nature 56 = .ok (.iload_n 1, 1) := by decide +kernel
theorem d_MD_nature_57 : decode c_MD_nature 57 = .ok (.invokevirtual 91, 3) := by decide +kernel
theorem d_MD_nature_60 : decode c_MD_nature 60 = .ok (.ifCond .eq 16, 3) := by decide +kernel
theorem d_MD_nature_63 : decode c_MD_nature 63 = .ok (.aload_n 0, 1) := by decide +kernel
theorem d_MD_nature_64 : decode c_MD_nature 64 = .ok (.getfield 16, 3) := by decide +kernel
theorem d_MD_nature_67 : decode c_MD_nature 67 = .ok (.iload_n 1, 1) := by decide +kernel
theorem d_MD_nature_68 : decode c_MD_nature 68 = .ok (.iaload, 1) := by decide +kernel
theorem d_MD_nature_69 : decode c_MD_nature 69 = .ok (.ifCond .lt 7, 3) := by decide +kernel
theorem d_MD_nature_72 : decode c_MD_nature 72 = .ok (.iconst 1, 1) := by decide +kernel
theorem d_MD_nature_73 : decode c_MD_nature 73 = .ok (.goto 4, 3) := by decide +kernel
theorem d_MD_nature_76 : decode c_MD_nature 76 = .ok (.iconst 0, 1) := by decide +kernel
theorem d_MD_nature_77 : decode c_MD_nature 77 = .ok (.invokevirtual 78, 3) := by decide +kernel
theorem d_MD_nature_80 : decode c_MD_nature 80 = .ok (.ifCond .ne 14, 3) := by decide +kernel
theorem d_MD_nature_83 : decode c_MD_nature 83 = .ok (.aload_n 0, 1) := by decide +kernel
theorem d_MD_nature_84 : decode c_MD_nature 84 = .ok (.iload_n 1, 1) := by decide +kernel
theorem d_MD_nature_85 : decode c_MD_nature 85 = .ok (.bipush 7, 2) := by decide +kernel
theorem d_MD_nature_87 : decode c_MD_nature 87 = .ok (.iload_n 2, 1) := by decide +kernel
theorem d_MD_nature_88 : decode c_MD_nature 88 = .ok (.iload_n 3, 1) := by decide +kernel
theorem d_MD_nature_89 : decode c_MD_nature 89 = .ok (.iload 4, 2) := by decide +kernel
theorem d_MD_nature_91 : decode c_MD_nature 91 = .ok (.invokevirtual 86, 3) := by decide +kernel
theorem d_MD_nature_94 : decode c_MD_nature 94 = .ok (.return_, 1) := by decide +kernel
theorem d_MD_isA_0 : decode c_MD_isA 0 = .ok (.iload_n 0, 1) := by decide +kernel
theorem d_MD_isA_1 : decode c_MD_isA 1 = .ok (.tableswitch 114 0 10 #[59, 66, 74, 74, 74, 82, 82, 90, 98, 98, 107], 59) := by decide +kernel
theorem d_MD_isA_60 : decode c_MD_isA 60 = .ok (.iload_n 1, 1) := by decide +kernel
theorem d_MD_isA_61 : decode c_MD_isA 61 = .ok (.iconst 0, 1) := by decide +kernel
theorem d_MD_isA_62 : decode c_MD_isA 62 = .ok (.iconst 1, 1) := by decide +kernel
theorem d_MD_isA_63 : decode c_MD_isA 63 = .ok (.invokestatic 67, 3) := by decide +kernel
theorem d_MD_isA_66 : decode c_MD_isA 66 = .ok (.ireturn, 1) := by decide +kernel
theorem d_MD_isA_67 : decode c_MD_isA 67 = .ok (.iload_n 1, 1) := by decide +kernel
theorem d_MD_isA_68 : decode c_MD_isA 68 = .ok (.iconst 0, 1) := by decide +kernel
theorem d_MD_isA_69 : decode c_MD_isA 69 = .ok (.ldc 62, 2) := by decide +kernel
theorem d_MD_isA_71 : decode c_MD_isA 71 = .ok (.invokestatic 67, 3) := by decide +kernel
theorem d_MD_isA_74 : decode c_MD_isA 74 = .ok (.ireturn, 1) := by decide +kernel
theorem d_MD_isA_75 : decode c_MD_isA 75 = .ok (.iload_n 1, 1) := by decide +kernel
theorem d_MD_isA_76 : decode c_MD_isA 76 = .ok (.iconst 1, 1) := by decide +kernel
theorem d_MD_isA_77 : decode c_MD_isA 77 = .ok (.bipush 20, 2) := by decide +kernel
theorem d_MD_isA_79 : decode c_MD_isA 79 = .ok (.invokestatic 67, 3) := by decide +kernel
theorem d_MD_isA_82 : decode c_MD_isA 82 = .ok (.ireturn, 1) := by decide +kernel
theorem d_MD_isA_83 : decode c_MD_isA 83 = .ok (.iload_n 1, 1) := by decide +kernel
theorem d_MD_isA_84 : decode c_MD_isA 84 = .ok (.iconst 0, 1) := by decide +kernel
theorem d_MD_isA_85 : decode c_MD_isA 85 = .ok (.bipush 7, 2) := by decide +kernel
theorem d_MD_isA_87 : decode c_MD_isA 87 = .ok (.invokestatic 67, 3) := by decide +kernel
theorem d_MD_isA_90 : decode c_MD_isA 90 = .ok (.ireturn, 1) := by decide +kernel
theorem d_MD_isA_91 : decode c_MD_isA 91 = .ok (.iload_n 1, 1) := by decide +kernel
theorem d_MD_isA_92 : decode c_MD_isA 92 = .ok (.iconst 1, 1) := by decide +kernel
theorem d_MD_isA_93 : decode c_MD_isA 93 = .ok (.bipush 40, 2) := by decide +kernel
theorem d_MD_isA_95 : decode c_MD_isA 95 = .ok (.invokestatic 67, 3) := by decide +kernel
theorem d_MD_isA_98 : decode c_MD_isA 98 = .ok (.ireturn, 1) := by decide +kernel
theorem d_MD_isA_99 : decode c_MD_isA 99 = .ok (.iload_n 1, 1) := by decide +kernel
theorem d_MD_isA_100 : decode c_MD_isA 100 = .ok (.iconst 0, 1) := by decide +kernel
theorem d_MD_isA_101 : decode c_MD_isA 101 = .ok (.sipush 1000, 3) := by decide +kernel
theorem d_MD_isA_104 : decode c_MD_isA 104 = .ok (.invokestatic 67, 3) := by decide +kernel
theorem d_MD_isA_107 : decode c_MD_isA 107 = .ok (.ireturn, 1) := by decide +kernel
theorem d_MD_isA_108 : decode c_MD_isA 108 = .ok (.iload_n 1, 1) := by decide +kernel
theorem d_MD_isA_109 : decode c_MD_isA 109 = .ok (.iconst 0, 1) := by decide +kernel
theorem d_MD_isA_110 : decode c_MD_isA 110 = .ok (.iconst 3, 1) := by decide +kernel
theorem d_MD_isA_111 : decode c_MD_isA 111 = .ok (.invokestatic 67, 3) := by decide +kernel
theorem d_MD_isA_114 : decode c_MD_isA 114 = .ok (.ireturn, 1) := by decide +kernel
theorem d_MD_isA_115 : decode c_MD_isA 115 = .ok (.iconst 0, 1) := by decide +kernel
theorem d_MD_isA_116 : decode c_MD_isA 116 = .ok (.ireturn, 1) := by decide +kernel
theorem d_MD_isTwo_0 : decode c_MD_isTwo 0 = .ok (.iload_n 0, 1) := by decide +kernel
theorem d_MD_isTwo_1 : decode c_MD_isTwo 1 = .ok (.iconst 5, 1) := by decide +kernel
theorem d_MD_isTwo_2 : decode c_MD_isTwo 2 = .ok (.if_icmp .eq 9, 3) := by decide +kernel
theorem d_MD_isTwo_5 : decode c_MD_isTwo 5 = .ok (.iload_n 0, 1) := by decide +kernel
theorem d_MD_isTwo_6 : decode c_MD_isTwo 6 = .ok (.bipush 6, 2) := by decide +kernel
theorem d_MD_isTwo_8 : decode c_MD_isTwo 8 = .ok (.if_icmp .ne 7, 3) := by decide +kernel
theorem d_MD_isTwo_11 : decode c_MD_isTwo 11 = .ok (.iconst 1, 1) := by decide +kernel
theorem d_MD_isTwo_12 : decode c_MD_isTwo 12 = .ok (.goto 4, 3) := by decide +kernel
theorem d_MD_isTwo_15 : decode c_MD_isTwo 15 = .ok (.iconst 0, 1) := by decide +kernel
theorem d_MD_isTwo_16 : decode c_MD_isTwo 16 = .ok (.ireturn, 1) := by decide +kernel
theorem d_MD_comes_0 : decode c_MD_comes 0 = .ok (.iconst 0, 1) := by decide +kernel
theorem d_MD_comes_1 : decode c_MD_comes 1 = .ok (.istore 5, 2) := by decide +kernel
theorem d_MD_comes_3 : decode c_MD_comes 3 = .ok (.iload 5, 2) := by decide +kernel
theorem d_MD_comes_5 : decode c_MD_comes 5 = .ok (.aload_n 0, 1) := by decide +kernel
theorem d_MD_comes_6 : decode c_MD_comes 6 = .ok (.getfield 94, 3) := by decide +kernel
theorem d_MD_comes_9 : decode c_MD_comes 9 = .ok (.if_icmp .ge 71, 3) := by decide +kernel
theorem d_MD_comes_12 : decode c_MD_comes 12 = .ok (.aload_n 0, 1) := by decide +kernel
theorem d_MD_comes_13 : decode c_MD_comes 13 = .ok (.getfield 19, 3) := by decide +kernel
theorem d_MD_comes_16 : decode c_MD_comes 16 = .ok (.iload 5, 2) := by decide +kernel
theorem d_MD_comes_18 : decode c_MD_comes 18 = .ok (.iaload, 1) := by decide +kernel
theorem d_MD_comes_19 : decode c_MD_comes 19 = .ok (.iload_n 1, 1) := by decide +kernel
theorem d_MD_comes_20 : decode c_MD_comes 20 = .ok (.if_icmp .ne 54, 3) := by decide +kernel
theorem d_MD_comes_23 : decode c_MD_comes 23 = .ok (.aload_n 0, 1) := by decide +kernel
theorem d_MD_comes_24 : decode c_MD_comes 24 = .ok (.getfield 22, 3) := by decide +kernel
theorem d_MD_comes_27 : decode c_MD_comes 27 = .ok (.iload 5, 2) := by decide +kernel
theorem d_MD_comes_29 : decode c_MD_comes 29 = .ok (.iaload, 1) := by decide +kernel
theorem d_MD_comes_30 : decode c_MD_comes 30 = .ok (.iload_n 2, 1) := by decide +kernel
theorem d_MD_comes_31 : decode c_MD_comes 31 = .ok (.if_icmp .ne 43, 3) := by decide +kernel
theorem d_MD_comes_34 : decode c_MD_comes 34 = .ok (.aload_n 0, 1) := by decide +kernel
theorem d_MD_comes_35 : decode c_MD_comes 35 = .ok (.getfield 50, 3) := by decide +kernel
theorem d_MD_comes_38 : decode c_MD_comes 38 = .ok (.iconst 2, 1) := by decide +kernel
theorem d_MD_comes_39 : decode c_MD_comes 39 = .ok (.aload_n 0, 1) := by decide +kernel
theorem d_MD_comes_40 : decode c_MD_comes 40 = .ok (.getfield 97, 3) := by decide +kernel
theorem d_MD_comes_43 : decode c_MD_comes 43 = .ok (.imul, 1) := by decide +kernel
theorem d_MD_comes_44 : decode c_MD_comes 44 = .ok (.iload 5, 2) := by decide +kernel
theorem d_MD_comes_46 : decode c_MD_comes 46 = .ok (.iastore, 1) := by decide +kernel
theorem d_MD_comes_47 : decode c_MD_comes 47 = .ok (.aload_n 0, 1) := by decide +kernel
theorem d_MD_comes_48 : decode c_MD_comes 48 = .ok (.getfield 50, 3) := by decide +kernel
theorem d_MD_comes_51 : decode c_MD_comes 51 = .ok (.iconst 2, 1) := by decide +kernel
theorem d_MD_comes_52 : decode c_MD_comes 52 = .ok (.aload_n 0, 1) := by decide +kernel
theorem d_MD_comes_53 : decode c_MD_comes 53 = .ok (.getfield 97, 3) := by decide +kernel
theorem d_MD_comes_56 : decode c_MD_comes 56 = .ok (.imul, 1) := by decide +kernel
theorem d_MD_comes_57 : decode c_MD_comes 57 = .ok (.iconst 1, 1) := by decide +kernel
theorem d_MD_comes_58 : decode c_MD_comes 58 = .ok (.iadd, 1) := by decide +kernel
theorem d_MD_comes_59 : decode c_MD_comes 59 = .ok (.aload_n 0, 1) := by decide +kernel
theorem d_MD_comes_60 : decode c_MD_comes 60 = .ok (.getfield 94, 3) := by decide +kernel
theorem d_MD_comes_63 : decode c_MD_comes 63 = .ok (.iastore, 1) := by decide +kernel
theorem d_MD_comes_64 : decode c_MD_comes 64 = .ok (.aload_n 0, 1) := by decide +kernel
theorem d_MD_comes_65 : decode c_MD_comes 65 = .ok (.dup, 1) := by decide +kernel
theorem d_MD_comes_66 : decode c_MD_comes 66 = .ok (.getfield 97, 3) := by decide +kernel
theorem d_MD_comes_69 : decode c_MD_comes 69 = .ok (.iconst 1, 1) := by decide +kernel
theorem d_MD_comes_70 : decode c_MD_comes 70 = .ok (.iadd, 1) := by decide +kernel
theorem d_MD_comes_71 : decode c_MD_comes 71 = .ok (.putfield 97, 3) := by decide +kernel
theorem d_MD_comes_74 : decode c_MD_comes 74 = .ok (.iinc 5 1, 3) := by decide +kernel
theorem d_MD_comes_77 : decode c_MD_comes 77 = .ok (.goto (-74), 3) := by decide +kernel
theorem d_MD_comes_80 : decode c_MD_comes 80 = .ok (.aload_n 0, 1) := by decide +kernel
theorem d_MD_comes_81 : decode c_MD_comes 81 = .ok (.getfield 19, 3) := by decide +kernel
theorem d_MD_comes_84 : decode c_MD_comes 84 = .ok (.aload_n 0, 1) := by decide +kernel
theorem d_MD_comes_85 : decode c_MD_comes 85 = .ok (.getfield 94, 3) := by decide +kernel
theorem d_MD_comes_88 : decode c_MD_comes 88 = .ok (.iload_n 1, 1) := by decide +kernel
theorem d_MD_comes_89 : decode c_MD_comes 89 = .ok (.iastore, 1) := by decide +kernel
theorem d_MD_comes_90 : decode c_MD_comes 90 = .ok (.aload_n 0, 1) := by decide +kernel
theorem d_MD_comes_91 : decode c_MD_comes 91 = .ok (.getfield 22, 3) := by decide +kernel
theorem d_MD_comes_94 : decode c_MD_comes 94 = .ok (.aload_n 0, 1) := by decide +kernel
theorem d_MD_comes_95 : decode c_MD_comes 95 = .ok (.getfield 94, 3) := by decide +kernel
theorem d_MD_comes_98 : decode c_MD_comes 98 = .ok (.iload_n 2, 1) := by decide +kernel
theorem d_MD_comes_99 : decode c_MD_comes 99 = .ok (.iastore, 1) := by decide +kernel
theorem d_MD_comes_100 : decode c_MD_comes 100 = .ok (.aload_n 0, 1) := by decide +kernel
theorem d_MD_comes_101 : decode c_MD_comes 101 = .ok (.getfield 25, 3) := by decide +kernel
theorem d_MD_comes_104 : decode c_MD_comes 104 = .ok (.aload_n 0, 1) := by decide +kernel
theorem d_MD_comes_105 : decode c_MD_comes 105 = .ok (.getfield 94, 3) := by decide +kernel
theorem d_MD_comes_108 : decode c_MD_comes 108 = .ok (.iload_n 3, 1) := by decide +kernel
theorem d_MD_comes_109 : decode c_MD_comes 109 = .ok (.iastore, 1) := by decide +kernel
theorem d_MD_comes_110 : decode c_MD_comes 110 = .ok (.aload_n 0, 1) := by decide +kernel
theorem d_MD_comes_111 : decode c_MD_comes 111 = .ok (.getfield 28, 3) := by decide +kernel
theorem d_MD_comes_114 : decode c_MD_comes 114 = .ok (.aload_n 0, 1) := by decide +kernel
theorem d_MD_comes_115 : decode c_MD_comes 115 = .ok (.getfield 94, 3) := by decide +kernel
theorem d_MD_comes_118 : decode c_MD_comes 118 = .ok (.iload 4, 2) := by decide +kernel
theorem d_MD_comes_120 : decode c_MD_comes 120 = .ok (.iastore, 1) := by decide +kernel
theorem d_MD_comes_121 : decode c_MD_comes 121 = .ok (.aload_n 0, 1) := by decide +kernel
theorem d_MD_comes_122 : decode c_MD_comes 122 = .ok (.getfield 31, 3) := by decide +kernel
theorem d_MD_comes_125 : decode c_MD_comes 125 = .ok (.aload_n 0, 1) := by decide +kernel
theorem d_MD_comes_126 : decode c_MD_comes 126 = .ok (.getfield 94, 3) := by decide +kernel
theorem d_MD_comes_129 : decode c_MD_comes 129 = .ok (.iconst 0, 1) := by decide +kernel
theorem d_MD_comes_130 : decode c_MD_comes 130 = .ok (.bastore, 1) := by decide +kernel
theorem d_MD_comes_131 : decode c_MD_comes 131 = .ok (.aload_n 0, 1) := by decide +kernel
theorem d_MD_comes_132 : decode c_MD_comes 132 = .ok (.dup, 1) := by decide +kernel
theorem d_MD_comes_133 : decode c_MD_comes 133 = .ok (.getfield 94, 3) := by decide +kernel
theorem d_MD_comes_136 : decode c_MD_comes 136 = .ok (.iconst 1, 1) := by decide +kernel
theorem d_MD_comes_137 : decode c_MD_comes 137 = .ok (.iadd, 1) := by decide +kernel
theorem d_MD_comes_138 : decode c_MD_comes 138 = .ok (.putfield 94, 3) := by decide +kernel
theorem d_MD_comes_141 : decode c_MD_comes 141 = .ok (.return_, 1) := by decide +kernel
theorem d_MD_rule_0 : decode c_MD_rule 0 = .ok (.iload_n 1, 1) := by decide +kernel
theorem d_MD_rule_1 : decode c_MD_rule 1 = .ok (.iconst 1, 1) := by decide +kernel
theorem d_MD_rule_2 : decode c_MD_rule 2 = .ok (.bipush 100, 2) := by decide +kernel
theorem d_MD_rule_4 : decode c_MD_rule 4 = .ok (.invokestatic 67, 3) := by decide +kernel
theorem d_MD_rule_7 : decode c_MD_rule 7 = .ok (.ifCond .eq 47, 3) := by decide +kernel
theorem d_MD_rule_10 : decode c_MD_rule 10 = .ok (.iload_n 2, 1) := by decide +kernel
theorem d_MD_rule_11 : decode c_MD_rule 11 = .ok (.iconst 0, 1) := by decide +kernel
theorem d_MD_rule_12 : decode c_MD_rule 12 = .ok (.bipush 10, 2) := by decide +kernel
theorem d_MD_rule_14 : decode c_MD_rule 14 = .ok (.invokestatic 67, 3) := by decide +kernel
theorem d_MD_rule_17 : decode c_MD_rule 17 = .ok (.ifCond .eq 37, 3) := by decide +kernel
theorem d_MD_rule_20 : decode c_MD_rule 20 = .ok (.iload_n 2, 1) := by decide +kernel
theorem d_MD_rule_21 : decode c_MD_rule 21 = .ok (.iload_n 3, 1) := by decide +kernel
theorem d_MD_rule_22 : decode c_MD_rule 22 = .ok (.invokestatic 100, 3) := by decide +kernel
theorem d_MD_rule_25 : decode c_MD_rule 25 = .ok (.ifCond .eq 29, 3) := by decide +kernel
theorem d_MD_rule_28 : decode c_MD_rule 28 = .ok (.iload 4, 2) := by decide +kernel
theorem d_MD_rule_30 : decode c_MD_rule 30 = .ok (.iconst 0, 1) := by decide +kernel
theorem d_MD_rule_31 : decode c_MD_rule 31 = .ok (.iload_n 2, 1) := by decide +kernel
theorem d_MD_rule_32 : decode c_MD_rule 32 = .ok (.invokestatic 104, 3) := by decide +kernel
theorem d_MD_rule_35 : decode c_MD_rule 35 = .ok (.ifCond .eq 8, 3) := by decide +kernel
theorem d_MD_rule_38 : decode c_MD_rule 38 = .ok (.bipush 7, 2) := by decide +kernel
theorem d_MD_rule_40 : decode c_MD_rule 40 = .ok (.goto 4, 3) := by decide +kernel
theorem d_MD_rule_43 : decode c_MD_rule 43 = .ok (.iconst 0, 1) := by decide +kernel
theorem d_MD_rule_44 : decode c_MD_rule 44 = .ok (.invokestatic 67, 3) := by decide +kernel
theorem d_MD_rule_47 : decode c_MD_rule 47 = .ok (.ifCond .eq 7, 3) := by decide +kernel
theorem d_MD_rule_50 : decode c_MD_rule 50 = .ok (.iconst 1, 1) := by decide +kernel
theorem d_MD_rule_51 : decode c_MD_rule 51 = .ok (.goto 4, 3) := by decide +kernel
theorem d_MD_rule_54 : decode c_MD_rule 54 = .ok (.iconst 0, 1) := by decide +kernel
theorem d_MD_rule_55 : decode c_MD_rule 55 = .ok (.istore 5, 2) := by decide +kernel
theorem d_MD_rule_57 : decode c_MD_rule 57 = .ok (.aload_n 0, 1) := by decide +kernel
theorem d_MD_rule_58 : decode c_MD_rule 58 = .ok (.iload 5, 2) := by decide +kernel
theorem d_MD_rule_60 : decode c_MD_rule 60 = .ok (.ifCond .ne 7, 3) := by decide +kernel
theorem d_MD_rule_63 : decode c_MD_rule 63 = .ok (.iconst 1, 1) := by decide +kernel
theorem d_MD_rule_64 : decode c_MD_rule 64 = .ok (.goto 4, 3) := by decide +kernel
theorem d_MD_rule_67 : decode c_MD_rule 67 = .ok (.iconst 0, 1) := by decide +kernel
theorem d_MD_rule_68 : decode c_MD_rule 68 = .ok (.aload_n 0, 1) := by decide +kernel
theorem d_MD_rule_69 : decode c_MD_rule 69 = .ok (.getfield 94, 3) := by decide +kernel
theorem d_MD_rule_72 : decode c_MD_rule 72 = .ok (.bipush 24, 2) := by decide +kernel
theorem d_MD_rule_74 : decode c_MD_rule 74 = .ok (.if_icmp .ne 7, 3) := by decide +kernel
theorem d_MD_rule_77 : decode c_MD_rule 77 = .ok (.iconst 1, 1) := by decide +kernel
theorem d_MD_rule_78 : decode c_MD_rule 78 = .ok (.goto 4, 3) := by decide +kernel
theorem d_MD_rule_81 : decode c_MD_rule 81 = .ok (.iconst 0, 1) := by decide +kernel
theorem d_MD_rule_82 : decode c_MD_rule 82 = .ok (.iconst 0, 1) := by decide +kernel
theorem d_MD_rule_83 : decode c_MD_rule 83 = .ok (.invokevirtual 78, 3) := by decide +kernel
theorem d_MD_rule_86 : decode c_MD_rule 86 = .ok (.ifCond .eq 5, 3) := by decide +kernel
theorem d_MD_rule_89 : decode c_MD_rule 89 = .ok (.iconst 0, 1) := by decide +kernel
theorem d_MD_rule_90 : decode c_MD_rule 90 = .ok (.ireturn, 1) := by decide +kernel
theorem d_MD_rule_91 : decode c_MD_rule 91 = .ok (.aload_n 0, 1) := by decide +kernel
theorem d_MD_rule_92 : decode c_MD_rule 92 = .ok (.iload_n 1, 1) := by decide +kernel
theorem d_MD_rule_93 : decode c_MD_rule 93 = .ok (.iload_n 2, 1) := by decide +kernel
theorem d_MD_rule_94 : decode c_MD_rule 94 = .ok (.iload_n 3, 1) := by decide +kernel
theorem d_MD_rule_95 : decode c_MD_rule 95 = .ok (.iload 4, 2) := by decide +kernel
theorem d_MD_rule_97 : decode c_MD_rule 97 = .ok (.invokevirtual 107, 3) := by decide +kernel
theorem d_MD_rule_100 : decode c_MD_rule 100 = .ok (.aload_n 0, 1) := by decide +kernel
theorem d_MD_rule_101 : decode c_MD_rule 101 = .ok (.getfield 94, 3) := by decide +kernel
theorem d_MD_rule_104 : decode c_MD_rule 104 = .ok (.iconst 1, 1) := by decide +kernel
theorem d_MD_rule_105 : decode c_MD_rule 105 = .ok (.isub, 1) := by decide +kernel
theorem d_MD_rule_106 : decode c_MD_rule 106 = .ok (.ireturn, 1) := by decide +kernel
theorem d_MD_sign_0 : decode c_MD_sign 0 = .ok (.aload_n 0, 1) := by decide +kernel
theorem d_MD_sign_1 : decode c_MD_sign 1 = .ok (.iconst 0, 1) := by decide +kernel
theorem d_MD_sign_2 : decode c_MD_sign 2 = .ok (.putfield 63, 3) := by decide +kernel
theorem d_MD_sign_5 : decode c_MD_sign 5 = .ok (.aload_n 0, 1) := by decide +kernel
theorem d_MD_sign_6 : decode c_MD_sign 6 = .ok (.getfield 111, 3) := by decide +kernel
theorem d_MD_sign_9 : decode c_MD_sign 9 = .ok (.sipush 400, 3) := by decide +kernel
theorem d_MD_sign_12 : decode c_MD_sign 12 = .ok (.if_icmp .ne 5, 3) := by decide +kernel
theorem d_MD_sign_15 : decode c_MD_sign 15 = .ok (.iconst (-1), 1) := by decide +kernel
theorem d_MD_sign_16 : decode c_MD_sign 16 = .ok (.ireturn, 1) := by decide +kernel
theorem d_MD_sign_17 : decode c_MD_sign 17 = .ok (.aload_n 0, 1) := by decide +kernel
theorem d_MD_sign_18 : decode c_MD_sign 18 = .ok (.getfield 56, 3) := by decide +kernel
theorem d_MD_sign_21 : decode c_MD_sign 21 = .ok (.aload_n 0, 1) := by decide +kernel
theorem d_MD_sign_22 : decode c_MD_sign 22 = .ok (.getfield 111, 3) := by decide +kernel
theorem d_MD_sign_25 : decode c_MD_sign 25 = .ok (.iload_n 1, 1) := by decide +kernel
theorem d_MD_sign_26 : decode c_MD_sign 26 = .ok (.sipush 255, 3) := by decide +kernel
theorem d_MD_sign_29 : decode c_MD_sign 29 = .ok (.iand, 1) := by decide +kernel
theorem d_MD_sign_30 : decode c_MD_sign 30 = .ok (.iastore, 1) := by decide +kernel
theorem d_MD_sign_31 : decode c_MD_sign 31 = .ok (.aload_n 0, 1) := by decide +kernel
theorem d_MD_sign_32 : decode c_MD_sign 32 = .ok (.dup, 1) := by decide +kernel
theorem d_MD_sign_33 : decode c_MD_sign 33 = .ok (.getfield 111, 3) := by decide +kernel
theorem d_MD_sign_36 : decode c_MD_sign 36 = .ok (.iconst 1, 1) := by decide +kernel
theorem d_MD_sign_37 : decode c_MD_sign 37 = .ok (.iadd, 1) := by decide +kernel
theorem d_MD_sign_38 : decode c_MD_sign 38 = .ok (.putfield 111, 3) := by decide +kernel
theorem d_MD_sign_41 : decode c_MD_sign 41 = .ok (.aload_n 0, 1) := by decide +kernel
theorem d_MD_sign_42 : decode c_MD_sign 42 = .ok (.getfield 111, 3) := by decide +kernel
theorem d_MD_sign_45 : decode c_MD_sign 45 = .ok (.ireturn, 1) := by decide +kernel
theorem d_MD_now_0 : decode c_MD_now 0 = .ok (.aload_n 0, 1) := by decide +kernel
theorem d_MD_now_1 : decode c_MD_now 1 = .ok (.getfield 114, 3) := by decide +kernel
theorem d_MD_now_4 : decode c_MD_now 4 = .ok (.aload_n 0, 1) := by decide +kernel
theorem d_MD_now_5 : decode c_MD_now 5 = .ok (.getfield 111, 3) := by decide +kernel
theorem d_MD_now_8 : decode c_MD_now 8 = .ok (.if_icmp .ge 15, 3) := by decide +kernel
theorem d_MD_now_11 : decode c_MD_now 11 = .ok (.aload_n 0, 1) := by decide +kernel
theorem d_MD_now_12 : decode c_MD_now 12 = .ok (.getfield 56, 3) := by decide +kernel
theorem d_MD_now_15 : decode c_MD_now 15 = .ok (.aload_n 0, 1) := by decide +kernel
theorem d_MD_now_16 : decode c_MD_now 16 = .ok (.getfield 114, 3) := by decide +kernel
theorem d_MD_now_19 : decode c_MD_now 19 = .ok (.iaload, 1) := by decide +kernel
theorem d_MD_now_20 : decode c_MD_now 20 = .ok (.goto 4, 3) := by decide +kernel
theorem d_MD_now_23 : decode c_MD_now 23 = .ok (.iconst (-1), 1) := by decide +kernel
theorem d_MD_now_24 : decode c_MD_now 24 = .ok (.ireturn, 1) := by decide +kernel
theorem d_MD_fault_0 : decode c_MD_fault 0 = .ok (.aload_n 0, 1) := by decide +kernel
theorem d_MD_fault_1 : decode c_MD_fault 1 = .ok (.aload_n 0, 1) := by decide +kernel
theorem d_MD_fault_2 : decode c_MD_fault 2 = .ok (.getfield 117, 3) := by decide +kernel
theorem d_MD_fault_5 : decode c_MD_fault 5 = .ok (.ifCond .ge 7, 3) := by decide +kernel
theorem d_MD_fault_8 : decode c_MD_fault 8 = .ok (.iload_n 1, 1) := by decide +kernel
theorem d_MD_fault_9 : decode c_MD_fault 9 = .ok (.goto 7, 3) := by decide +kernel
theorem d_MD_fault_12 : decode c_MD_fault 12 = .ok (.aload_n 0, 1) := by decide +kernel
theorem d_MD_fault_13 : decode c_MD_fault 13 = .ok (.getfield 117, 3) := by decide +kernel
theorem d_MD_fault_16 : decode c_MD_fault 16 = .ok (.putfield 117, 3) := by decide +kernel
theorem d_MD_fault_19 : decode c_MD_fault 19 = .ok (.return_, 1) := by decide +kernel
theorem d_MD_pass_0 : decode c_MD_pass 0 = .ok (.aload_n 0, 1) := by decide +kernel
theorem d_MD_pass_1 : decode c_MD_pass 1 = .ok (.invokevirtual 120, 3) := by decide +kernel
theorem d_MD_pass_4 : decode c_MD_pass 4 = .ok (.iload_n 1, 1) := by decide +kernel
theorem d_MD_pass_5 : decode c_MD_pass 5 = .ok (.if_icmp .eq 11, 3) := by decide +kernel
theorem d_MD_pass_8 : decode c_MD_pass 8 = .ok (.aload_n 0, 1) := by decide +kernel
theorem d_MD_pass_9 : decode c_MD_pass 9 = .ok (.aload_n 0, 1) := by decide +kernel
theorem d_MD_pass_10 : decode c_MD_pass 10 = .ok (.getfield 114, 3) := by decide +kernel
theorem d_MD_pass_13 : decode c_MD_pass 13 = .ok (.invokevirtual 124, 3) := by decide +kernel
theorem d_MD_pass_16 : decode c_MD_pass 16 = .ok (.aload_n 0, 1) := by decide +kernel
theorem d_MD_pass_17 : decode c_MD_pass 17 = .ok (.dup, 1) := by decide +kernel
theorem d_MD_pass_18 : decode c_MD_pass 18 = .ok (.getfield 114, 3) := by decide +kernel
theorem d_MD_pass_21 : decode c_MD_pass 21 = .ok (.iconst 1, 1) := by decide +kernel
theorem d_MD_pass_22 : decode c_MD_pass 22 = .ok (.iadd, 1) := by decide +kernel
theorem d_MD_pass_23 : decode c_MD_pass 23 = .ok (.putfield 114, 3) := by decide +kernel
theorem d_MD_pass_26 : decode c_MD_pass 26 = .ok (.return_, 1) := by decide +kernel
theorem d_MD_isDigit_0 : decode c_MD_isDigit 0 = .ok (.aload_n 0, 1) := by decide +kernel
theorem d_MD_isDigit_1 : decode c_MD_isDigit 1 = .ok (.invokevirtual 120, 3) := by decide +kernel
theorem d_MD_isDigit_4 : decode c_MD_isDigit 4 = .ok (.bipush 48, 2) := by decide +kernel
theorem d_MD_isDigit_6 : decode c_MD_isDigit 6 = .ok (.bipush 57, 2) := by decide +kernel
theorem d_MD_isDigit_8 : decode c_MD_isDigit 8 = .ok (.invokestatic 67, 3) := by decide +kernel
theorem d_MD_isDigit_11 : decode c_MD_isDigit 11 = .ok (.ireturn, 1) := by decide +kernel
theorem d_MD_digits_0 : decode c_MD_digits 0 = .ok (.aload_n 0, 1) := by decide +kernel
theorem d_MD_digits_1 : decode c_MD_digits 1 = .ok (.getfield 114, 3) := by decide +kernel
theorem d_MD_digits_4 : decode c_MD_digits 4 = .ok (.istore_n 1, 1) := by decide +kernel
theorem d_MD_digits_5 : decode c_MD_digits 5 = .ok (.aload_n 0, 1) := by decide +kernel
theorem d_MD_digits_6 : decode c_MD_digits 6 = .ok (.iconst 0, 1) := by decide +kernel
theorem d_MD_digits_7 : decode c_MD_digits 7 = .ok (.putfield 128, 3) := by decide +kernel
theorem d_MD_digits_10 : decode c_MD_digits 10 = .ok (.aload_n 0, 1) := by decide +kernel
theorem d_MD_digits_11 : decode c_MD_digits 11 = .ok (.invokevirtual 131, 3) := by decide +kernel
theorem d_MD_digits_14 : decode c_MD_digits 14 = .ok (.ifCond .ne 11, 3) := by decide +kernel
theorem d_MD_digits_17 : decode c_MD_digits 17 = .ok (.aload_n 0, 1) := by decide +kernel
theorem d_MD_digits_18 : decode c_MD_digits 18 = .ok (.aload_n 0, 1) := by decide +kernel
theorem d_MD_digits_19 : decode c_MD_digits 19 = .ok (.getfield 114, 3) := by decide +kernel
theorem d_MD_digits_22 : decode c_MD_digits 22 = .ok (.invokevirtual 124, 3) := by decide +kernel
theorem d_MD_digits_25 : decode c_MD_digits 25 = .ok (.aload_n 0, 1) := by decide +kernel
theorem d_MD_digits_26 : decode c_MD_digits 26 = .ok (.invokevirtual 131, 3) := by decide +kernel
theorem d_MD_digits_29 : decode c_MD_digits 29 = .ok (.ifCond .eq 76, 3) := by decide +kernel
theorem d_MD_digits_32 : decode c_MD_digits 32 = .ok (.aload_n 0, 1) := by decide +kernel
theorem d_MD_digits_33 : decode c_MD_digits 33 = .ok (.getfield 117, 3) := by decide +kernel
theorem d_MD_digits_36 : decode c_MD_digits 36 = .ok (.ifCond .ge 69, 3) := by decide +kernel
theorem d_MD_digits_39 : decode c_MD_digits 39 = .ok (.aload_n 0, 1) := by decide +kernel
theorem d_MD_digits_40 : decode c_MD_digits 40 = .ok (.getfield 114, 3) := by decide +kernel
theorem d_MD_digits_43 : decode c_MD_digits 43 = .ok (.iload_n 1, 1) := by decide +kernel
theorem d_MD_digits_44 : decode c_MD_digits 44 = .ok (.if_icmp .le 10, 3) := by decide +kernel
theorem d_MD_digits_47 : decode c_MD_digits 47 = .ok (.aload_n 0, 1) := by decide +kernel
theorem d_MD_digits_48 : decode c_MD_digits 48 = .ok (.getfield 128, 3) := by decide +kernel
theorem d_MD_digits_51 : decode c_MD_digits 51 = .ok (.ifCond .eq 14, 3) := by decide +kernel
theorem d_MD_digits_54 : decode c_MD_digits 54 = .ok (.aload_n 0, 1) := by decide +kernel
theorem d_MD_digits_55 : decode c_MD_digits 55 = .ok (.getfield 114, 3) := by decide +kernel
theorem d_MD_digits_58 : decode c_MD_digits 58 = .ok (.iload_n 1, 1) := by decide +kernel
theorem d_MD_digits_59 : decode c_MD_digits 59 = .ok (.bipush 6, 2) := by decide +kernel
theorem d_MD_digits_61 : decode c_MD_digits 61 = .ok (.iadd, 1) := by decide +kernel
theorem d_MD_digits_62 : decode c_MD_digits 62 = .ok (.if_icmp .ne 11, 3) := by decide +kernel
theorem d_MD_digits_65 : decode c_MD_digits 65 = .ok (.aload_n 0, 1) := by decide +kernel
theorem d_MD_digits_66 : decode c_MD_digits 66 = .ok (.aload_n 0, 1) := by decide +kernel
theorem d_MD_digits_67 : decode c_MD_digits 67 = .ok (.getfield 114, 3) := by decide +kernel
theorem d_MD_digits_70 : decode c_MD_digits 70 = .ok (.invokevirtual 124, 3) := by decide +kernel
theorem d_MD_digits_73 : decode c_MD_digits 73 = .ok (.aload_n 0, 1) := by decide +kernel
theorem d_MD_digits_74 : decode c_MD_digits 74 = .ok (.bipush 10, 2) := by decide +kernel
theorem d_MD_digits_76 : decode c_MD_digits 76 = .ok (.aload_n 0, 1) := by decide +kernel
theorem d_MD_digits_77 : decode c_MD_digits 77 = .ok (.getfield 128, 3) := by decide +kernel
theorem d_MD_digits_80 : decode c_MD_digits 80 = .ok (.imul, 1) := by decide +kernel
theorem d_MD_digits_81 : decode c_MD_digits 81 = .ok (.aload_n 0, 1) := by decide +kernel
theorem d_MD_digits_82 : decode c_MD_digits 82 = .ok (.invokevirtual 120, 3) := by decide +kernel
theorem d_MD_digits_85 : decode c_MD_digits 85 = .ok (.iadd, 1) := by decide +kernel
theorem d_MD_digits_86 : decode c_MD_digits 86 = .ok (.bipush 48, 2) := by decide +kernel
theorem d_MD_digits_88 : decode c_MD_digits 88 = .ok (.isub, 1) := by decide +kernel
theorem d_MD_digits_89 : decode c_MD_digits 89 = .ok (.putfield 128, 3) := by decide +kernel
theorem d_MD_digits_92 : decode c_MD_digits 92 = .ok (.aload_n 0, 1) := by decide +kernel
theorem d_MD_digits_93 : decode c_MD_digits 93 = .ok (.dup, 1) := by decide +kernel
theorem d_MD_digits_94 : decode c_MD_digits 94 = .ok (.getfield 114, 3) := by decide +kernel
theorem d_MD_digits_97 : decode c_MD_digits 97 = .ok (.iconst 1, 1) := by decide +kernel
theorem d_MD_digits_98 : decode c_MD_digits 98 = .ok (.iadd, 1) := by decide +kernel
theorem d_MD_digits_99 : decode c_MD_digits 99 = .ok (.putfield 114, 3) := by decide +kernel
theorem d_MD_digits_102 : decode c_MD_digits 102 = .ok (.goto (-77), 3) := by decide +kernel
theorem d_MD_digits_105 : decode c_MD_digits 105 = .ok (.iload_n 1, 1) := by decide +kernel
theorem d_MD_digits_106 : decode c_MD_digits 106 = .ok (.ireturn, 1) := by decide +kernel
theorem d_MD_match_0 : decode c_MD_match 0 = .ok (.iconst 0, 1) := by decide +kernel
theorem d_MD_match_1 : decode c_MD_match 1 = .ok (.istore_n 3, 1) := by decide +kernel
theorem d_MD_match_2 : decode c_MD_match 2 = .ok (.iload_n 3, 1) := by decide +kernel
theorem d_MD_match_3 : decode c_MD_match 3 = .ok (.bipush 8, 2) := by decide +kernel
theorem d_MD_match_5 : decode c_MD_match 5 = .ok (.if_icmp .ge 55, 3) := by decide +kernel
theorem d_MD_match_8 : decode c_MD_match 8 = .ok (.aload_n 0, 1) := by decide +kernel
theorem d_MD_match_9 : decode c_MD_match 9 = .ok (.getfield 59, 3) := by decide +kernel
theorem d_MD_match_12 : decode c_MD_match 12 = .ok (.bipush 8, 2) := by decide +kernel
theorem d_MD_match_14 : decode c_MD_match 14 = .ok (.iload_n 1, 1) := by decide +kernel
theorem d_MD_match_15 : decode c_MD_match 15 = .ok (.imul, 1) := by decide +kernel
theorem d_MD_match_16 : decode c_MD_match 16 = .ok (.iload_n 3, 1) := by decide +kernel
theorem d_MD_match_17 : decode c_MD_match 17 = .ok (.iadd, 1) := by decide +kernel
theorem d_MD_match_18 : decode c_MD_match 18 = .ok (.iaload, 1) := by decide +kernel
theorem d_MD_match_19 : decode c_MD_match 19 = .ok (.ifCond .eq 41, 3) := by decide +kernel
theorem d_MD_match_22 : decode c_MD_match 22 = .ok (.iload_n 2, 1) := by decide +kernel
theorem d_MD_match_23 : decode c_MD_match 23 = .ok (.iload_n 3, 1) := by decide +kernel
theorem d_MD_match_24 : decode c_MD_match 24 = .ok (.iadd, 1) := by decide +kernel
theorem d_MD_match_25 : decode c_MD_match 25 = .ok (.aload_n 0, 1) := by decide +kernel
theorem d_MD_match_26 : decode c_MD_match 26 = .ok (.getfield 111, 3) := by decide +kernel
theorem d_MD_match_29 : decode c_MD_match 29 = .ok (.if_icmp .ge 31, 3) := by decide +kernel
theorem d_MD_match_32 : decode c_MD_match 32 = .ok (.aload_n 0, 1) := by decide +kernel
theorem d_MD_match_33 : decode c_MD_match 33 = .ok (.getfield 56, 3) := by decide +kernel
theorem d_MD_match_36 : decode c_MD_match 36 = .ok (.iload_n 2, 1) := by decide +kernel
theorem d_MD_match_37 : decode c_MD_match 37 = .ok (.iload_n 3, 1) := by decide +kernel
theorem d_MD_match_38 : decode c_MD_match 38 = .ok (.iadd, 1) := by decide +kernel
theorem d_MD_match_39 : decode c_MD_match 39 = .ok (.iaload, 1) := by decide +kernel
theorem d_MD_match_40 : decode c_MD_match 40 = .ok (.aload_n 0, 1) := by decide +kernel
theorem d_MD_match_41 : decode c_MD_match 41 = .ok (.getfield 59, 3) := by decide +kernel
theorem d_MD_match_44 : decode c_MD_match 44 = .ok (.bipush 8, 2) := by decide +kernel
theorem d_MD_match_46 : decode c_MD_match 46 = .ok (.iload_n 1, 1) := by decide +kernel
theorem d_MD_match_47 : decode c_MD_match 47 = .ok (.imul, 1) := by decide +kernel
theorem d_MD_match_48 : decode c_MD_match 48 = .ok (.iload_n 3, 1) := by decide +kernel
theorem d_MD_match_49 : decode c_MD_match 49 = .ok (.iadd, 1) := by decide +kernel
theorem d_MD_match_50 : decode c_MD_match 50 = .ok (.iaload, 1) := by decide +kernel
theorem d_MD_match_51 : decode c_MD_match 51 = .ok (.if_icmp .ne 9, 3) := by decide +kernel
theorem d_MD_match_54 : decode c_MD_match 54 = .ok (.iinc 3 1, 3) := by decide +kernel
theorem d_MD_match_57 : decode c_MD_match 57 = .ok (.goto (-55), 3) := by decide +kernel
theorem d_MD_match_60 : decode c_MD_match 60 = .ok (.iload_n 3, 1) := by decide +kernel
theorem d_MD_match_61 : decode c_MD_match 61 = .ok (.ireturn, 1) := by decide +kernel
theorem d_MD_lengthOf_0 : decode c_MD_lengthOf 0 = .ok (.iconst 0, 1) := by decide +kernel
theorem d_MD_lengthOf_1 : decode c_MD_lengthOf 1 = .ok (.istore_n 2, 1) := by decide +kernel
theorem d_MD_lengthOf_2 : decode c_MD_lengthOf 2 = .ok (.aload_n 0, 1) := by decide +kernel
theorem d_MD_lengthOf_3 : decode c_MD_lengthOf 3 = .ok (.getfield 59, 3) := by decide +kernel
theorem d_MD_lengthOf_6 : decode c_MD_lengthOf 6 = .ok (.bipush 8, 2) := by decide +kernel
theorem d_MD_lengthOf_8 : decode c_MD_lengthOf 8 = .ok (.iload_n 1, 1) := by decide +kernel
theorem d_MD_lengthOf_9 : decode c_MD_lengthOf 9 = .ok (.imul, 1) := by decide +kernel
theorem d_MD_lengthOf_10 : decode c_MD_lengthOf 10 = .ok (.iload_n 2, 1) := by decide +kernel
theorem d_MD_lengthOf_11 : decode c_MD_lengthOf 11 = .ok (.iadd, 1) := by decide +kernel
theorem d_MD_lengthOf_12 : decode c_MD_lengthOf 12 = .ok (.iaload, 1) := by decide +kernel
theorem d_MD_lengthOf_13 : decode c_MD_lengthOf 13 = .ok (.ifCond .eq 9, 3) := by decide +kernel
theorem d_MD_lengthOf_16 : decode c_MD_lengthOf 16 = .ok (.iinc 2 1, 3) := by decide +kernel
theorem d_MD_lengthOf_19 : decode c_MD_lengthOf 19 = .ok (.goto (-17), 3) := by decide +kernel
theorem d_MD_lengthOf_22 : decode c_MD_lengthOf 22 = .ok (.iload_n 2, 1) := by decide +kernel
theorem d_MD_lengthOf_23 : decode c_MD_lengthOf 23 = .ok (.ireturn, 1) := by decide +kernel
theorem d_MD_kind_0 : decode c_MD_kind 0 = .ok (.iconst 0, 1) := by decide +kernel
theorem d_MD_kind_1 : decode c_MD_kind 1 = .ok (.istore_n 1, 1) := by decide +kernel
theorem d_MD_kind_2 : decode c_MD_kind 2 = .ok (.iconst (-1), 1) := by decide +kernel
theorem d_MD_kind_3 : decode c_MD_kind 3 = .ok (.istore_n 2, 1) := by decide +kernel
theorem d_MD_kind_4 : decode c_MD_kind 4 = .ok (.iconst 0, 1) := by decide +kernel
theorem d_MD_kind_5 : decode c_MD_kind 5 = .ok (.istore_n 3, 1) := by decide +kernel
theorem d_MD_kind_6 : decode c_MD_kind 6 = .ok (.iload_n 3, 1) := by decide +kernel
theorem d_MD_kind_7 : decode c_MD_kind 7 = .ok (.bipush 11, 2) := by decide +kernel
theorem d_MD_kind_9 : decode c_MD_kind 9 = .ok (.if_icmp .ge 92, 3) := by decide +kernel
theorem d_MD_kind_12 : decode c_MD_kind 12 = .ok (.aload_n 0, 1) := by decide +kernel
theorem d_MD_kind_13 : decode c_MD_kind 13 = .ok (.iload_n 3, 1) := by decide +kernel
theorem d_MD_kind_14 : decode c_MD_kind 14 = .ok (.aload_n 0, 1) := by decide +kernel
theorem d_MD_kind_15 : decode c_MD_kind 15 = .ok (.getfield 114, 3) := by decide +kernel
theorem d_MD_kind_18 : decode c_MD_kind 18 = .ok (.invokevirtual 135, 3) := by decide +kernel
theorem d_MD_kind_21 : decode c_MD_kind 21 = .ok (.istore 4, 2) := by decide +kernel
theorem d_MD_kind_23 : decode c_MD_kind 23 = .ok (.iload 4, 2) := by decide +kernel
theorem d_MD_kind_25 : decode c_MD_kind 25 = .ok (.aload_n 0, 1) := by decide +kernel
theorem d_MD_kind_26 : decode c_MD_kind 26 = .ok (.iload_n 3, 1) := by decide +kernel
theorem d_MD_kind_27 : decode c_MD_kind 27 = .ok (.invokevirtual 139, 3) := by decide +kernel
theorem d_MD_kind_30 : decode c_MD_kind 30 = .ok (.if_icmp .ne 38, 3) := by decide +kernel
theorem d_MD_kind_33 : decode c_MD_kind 33 = .ok (.aload_n 0, 1) := by decide +kernel
theorem d_MD_kind_34 : decode c_MD_kind 34 = .ok (.getfield 114, 3) := by decide +kernel
theorem d_MD_kind_37 : decode c_MD_kind 37 = .ok (.iload 4, 2) := by decide +kernel
theorem d_MD_kind_39 : decode c_MD_kind 39 = .ok (.iadd, 1) := by decide +kernel
theorem d_MD_kind_40 : decode c_MD_kind 40 = .ok (.aload_n 0, 1) := by decide +kernel
theorem d_MD_kind_41 : decode c_MD_kind 41 = .ok (.getfield 111, 3) := by decide +kernel
theorem d_MD_kind_44 : decode c_MD_kind 44 = .ok (.if_icmp .ge 24, 3) := by decide +kernel
theorem d_MD_kind_47 : decode c_MD_kind 47 = .ok (.aload_n 0, 1) := by decide +kernel
theorem d_MD_kind_48 : decode c_MD_kind 48 = .ok (.getfield 56, 3) := by decide +kernel
theorem d_MD_kind_51 : decode c_MD_kind 51 = .ok (.aload_n 0, 1) := by decide +kernel
theorem d_MD_kind_52 : decode c_MD_kind 52 = .ok (.getfield 114, 3) := by decide +kernel
theorem d_MD_kind_55 : decode c_MD_kind 55 = .ok (.iload 4, 2) := by decide +kernel
theorem d_MD_kind_57 : decode c_MD_kind 57 = .ok (.iadd, 1) := by decide +kernel
theorem d_MD_kind_58 : decode c_MD_kind 58 = .ok (.iaload, 1) := by decide +kernel
theorem d_MD_kind_59 : decode c_MD_kind 59 = .ok (.bipush 32, 2) := by decide +kernel
theorem d_MD_kind_61 : decode c_MD_kind 61 = .ok (.if_icmp .ne 7, 3) := by decide +kernel
theorem d_MD_kind_64 : decode c_MD_kind 64 = .ok (.iconst 1, 1) := by decide +kernel
theorem d_MD_kind_65 : decode c_MD_kind 65 = .ok (.goto 4, 3) := by decide +kernel
theorem d_MD_kind_68 : decode c_MD_kind 68 = .ok (.iconst 0, 1) := by decide +kernel
theorem d_MD_kind_69 : decode c_MD_kind 69 = .ok (.istore 5, 2) := by decide +kernel
theorem d_MD_kind_71 : decode c_MD_kind 71 = .ok (.iload 5, 2) := by decide +kernel
theorem d_MD_kind_73 : decode c_MD_kind 73 = .ok (.ifCond .eq 7, 3) := by decide +kernel
theorem d_MD_kind_76 : decode c_MD_kind 76 = .ok (.iload_n 3, 1) := by decide +kernel
theorem d_MD_kind_77 : decode c_MD_kind 77 = .ok (.goto 4, 3) := by decide +kernel
theorem d_MD_kind_80 : decode c_MD_kind 80 = .ok (.iload_n 2, 1) := by decide +kernel
theorem d_MD_kind_81 : decode c_MD_kind 81 = .ok (.istore_n 2, 1) := by decide +kernel
theorem d_MD_kind_82 : decode c_MD_kind 82 = .ok (.iload 4, 2) := by decide +kernel
theorem d_MD_kind_84 : decode c_MD_kind 84 = .ok (.iload_n 1, 1) := by decide +kernel
theorem d_MD_kind_85 : decode c_MD_kind 85 = .ok (.if_icmp .le 8, 3) := by decide +kernel
theorem d_MD_kind_88 : decode c_MD_kind 88 = .ok (.iload 4, 2) := by decide +kernel
theorem d_MD_kind_90 : decode c_MD_kind 90 = .ok (.goto 4, 3) := by decide +kernel
theorem d_MD_kind_93 : decode c_MD_kind 93 = .ok (.iload_n 1, 1) := by decide +kernel
theorem d_MD_kind_94 : decode c_MD_kind 94 = .ok (.istore_n 1, 1) := by decide +kernel
theorem d_MD_kind_95 : decode c_MD_kind 95 = .ok (.iinc 3 1, 3) := by decide +kernel
theorem d_MD_kind_98 : decode c_MD_kind 98 = .ok (.goto (-92), 3) := by decide +kernel
theorem d_MD_kind_101 : decode c_MD_kind 101 = .ok (.iload_n 2, 1) := by decide +kernel
theorem d_MD_kind_102 : decode c_MD_kind 102 = .ok (.ifCond .ge 15, 3) := by decide +kernel
theorem d_MD_kind_105 : decode c_MD_kind 105 = .ok (.aload_n 0, 1) := by decide +kernel
theorem d_MD_kind_106 : decode c_MD_kind 106 = .ok (.aload_n 0, 1) := by decide +kernel
theorem d_MD_kind_107 : decode c_MD_kind 107 = .ok (.getfield 114, 3) := by decide +kernel
theorem d_MD_kind_110 : decode c_MD_kind 110 = .ok (.iload_n 1, 1) := by decide +kernel
theorem d_MD_kind_111 : decode c_MD_kind 111 = .ok (.iadd, 1) := by decide +kernel
theorem d_MD_kind_112 : decode c_MD_kind 112 = .ok (.invokevirtual 124, 3) := by decide +kernel
theorem d_MD_kind_115 : decode c_MD_kind 115 = .ok (.iconst 0, 1) := by decide +kernel
theorem d_MD_kind_116 : decode c_MD_kind 116 = .ok (.ireturn, 1) := by decide +kernel
theorem d_MD_kind_117 : decode c_MD_kind 117 = .ok (.aload_n 0, 1) := by decide +kernel
theorem d_MD_kind_118 : decode c_MD_kind 118 = .ok (.dup, 1) := by decide +kernel
theorem d_MD_kind_119 : decode c_MD_kind 119 = .ok (.getfield 114, 3) := by decide +kernel
theorem d_MD_kind_122 : decode c_MD_kind 122 = .ok (.aload_n 0, 1) := by decide +kernel
theorem d_MD_kind_123 : decode c_MD_kind 123 = .ok (.iload_n 2, 1) := by decide +kernel
theorem d_MD_kind_124 : decode c_MD_kind 124 = .ok (.invokevirtual 139, 3) := by decide +kernel
theorem d_MD_kind_127 : decode c_MD_kind 127 = .ok (.iadd, 1) := by decide +kernel
theorem d_MD_kind_128 : decode c_MD_kind 128 = .ok (.putfield 114, 3) := by decide +kernel
theorem d_MD_kind_131 : decode c_MD_kind 131 = .ok (.iload_n 2, 1) := by decide +kernel
theorem d_MD_kind_132 : decode c_MD_kind 132 = .ok (.ireturn, 1) := by decide +kernel
theorem d_MD_line_0 : decode c_MD_line 0 = .ok (.aload_n 0, 1) := by decide +kernel
theorem d_MD_line_1 : decode c_MD_line 1 = .ok (.invokevirtual 143, 3) := by decide +kernel
theorem d_MD_line_4 : decode c_MD_line 4 = .ok (.istore_n 2, 1) := by decide +kernel
theorem d_MD_line_5 : decode c_MD_line 5 = .ok (.aload_n 0, 1) := by decide +kernel
theorem d_MD_line_6 : decode c_MD_line 6 = .ok (.getfield 128, 3) := by decide +kernel
theorem d_MD_line_9 : decode c_MD_line 9 = .ok (.istore_n 3, 1) := by decide +kernel
theorem d_MD_line_10 : decode c_MD_line 10 = .ok (.aload_n 0, 1) := by decide +kernel
theorem d_MD_line_11 : decode c_MD_line 11 = .ok (.getfield 117, 3) := by decide +kernel
theorem d_MD_line_14 : decode c_MD_line 14 = .ok (.ifCond .ge 18, 3) := by decide +kernel
theorem d_MD_line_17 : decode c_MD_line 17 = .ok (.iload_n 3, 1) := by decide +kernel
theorem d_MD_line_18 : decode c_MD_line 18 = .ok (.iconst 1, 1) := by decide +kernel
theorem d_MD_line_19 : decode c_MD_line 19 = .ok (.bipush 100, 2) := by decide +kernel
theorem d_MD_line_21 : decode c_MD_line 21 = .ok (.invokestatic 67, 3) := by decide +kernel
theorem d_MD_line_24 : decode c_MD_line 24 = .ok (.ifCond .ne 8, 3) := by decide +kernel
theorem d_MD_line_27 : decode c_MD_line 27 = .ok (.aload_n 0, 1) := by decide +kernel
theorem d_MD_line_28 : decode c_MD_line 28 = .ok (.iload_n 2, 1) := by decide +kernel
theorem d_MD_line_29 : decode c_MD_line 29 = .ok (.invokevirtual 124, 3) := by decide +kernel
theorem d_MD_line_32 : decode c_MD_line 32 = .ok (.aload_n 0, 1) := by decide +kernel
theorem d_MD_line_33 : decode c_MD_line 33 = .ok (.getfield 117, 3) := by decide +kernel
theorem d_MD_line_36 : decode c_MD_line 36 = .ok (.ifCond .ge 9, 3) := by decide +kernel
theorem d_MD_line_39 : decode c_MD_line 39 = .ok (.aload_n 0, 1) := by decide +kernel
theorem d_MD_line_40 : decode c_MD_line 40 = .ok (.bipush 32, 2) := by decide +kernel
theorem d_MD_line_42 : decode c_MD_line 42 = .ok (.invokevirtual 146, 3) := by decide +kernel
theorem d_MD_line_45 : decode c_MD_line 45 = .ok (.aload_n 0, 1) := by decide +kernel
theorem d_MD_line_46 : decode c_MD_line 46 = .ok (.getfield 117, 3) := by decide +kernel
theorem d_MD_line_49 : decode c_MD_line 49 = .ok (.ifCond .ge 10, 3) := by decide +kernel
theorem d_MD_line_52 : decode c_MD_line 52 = .ok (.aload_n 0, 1) := by decide +kernel
theorem d_MD_line_53 : decode c_MD_line 53 = .ok (.invokevirtual 149, 3) := by decide +kernel
theorem d_MD_line_56 : decode c_MD_line 56 = .ok (.goto 4, 3) := by decide +kernel
theorem d_MD_line_59 : decode c_MD_line 59 = .ok (.iconst 0, 1) := by decide +kernel
theorem d_MD_line_60 : decode c_MD_line 60 = .ok (.istore 4, 2) := by decide +kernel
theorem d_MD_line_62 : decode c_MD_line 62 = .ok (.aload_n 0, 1) := by decide +kernel
theorem d_MD_line_63 : decode c_MD_line 63 = .ok (.getfield 117, 3) := by decide +kernel
theorem d_MD_line_66 : decode c_MD_line 66 = .ok (.ifCond .lt 4, 3) := by decide +kernel
theorem d_MD_line_69 : decode c_MD_line 69 = .ok (.return_, 1) := by decide +kernel
theorem d_MD_line_70 : decode c_MD_line 70 = .ok (.aload_n 0, 1) := by decide +kernel
theorem d_MD_line_71 : decode c_MD_line 71 = .ok (.bipush 32, 2) := by decide +kernel
theorem d_MD_line_73 : decode c_MD_line 73 = .ok (.invokevirtual 146, 3) := by decide +kernel
theorem d_MD_line_76 : decode c_MD_line 76 = .ok (.aload_n 0, 1) := by decide +kernel
theorem d_MD_line_77 : decode c_MD_line 77 = .ok (.invokevirtual 143, 3) := by decide +kernel
theorem d_MD_line_80 : decode c_MD_line 80 = .ok (.istore_n 2, 1) := by decide +kernel
theorem d_MD_line_81 : decode c_MD_line 81 = .ok (.aload_n 0, 1) := by decide +kernel
theorem d_MD_line_82 : decode c_MD_line 82 = .ok (.getfield 128, 3) := by decide +kernel
theorem d_MD_line_85 : decode c_MD_line 85 = .ok (.istore 5, 2) := by decide +kernel
theorem d_MD_line_87 : decode c_MD_line 87 = .ok (.aload_n 0, 1) := by decide +kernel
theorem d_MD_line_88 : decode c_MD_line 88 = .ok (.getfield 117, 3) := by decide +kernel
theorem d_MD_line_91 : decode c_MD_line 91 = .ok (.ifCond .ge 18, 3) := by decide +kernel
theorem d_MD_line_94 : decode c_MD_line 94 = .ok (.iload 4, 2) := by decide +kernel
theorem d_MD_line_96 : decode c_MD_line 96 = .ok (.iload 5, 2) := by decide +kernel
theorem d_MD_line_98 : decode c_MD_line 98 = .ok (.invokestatic 100, 3) := by decide +kernel
theorem d_MD_line_101 : decode c_MD_line 101 = .ok (.ifCond .ne 8, 3) := by decide +kernel
theorem d_MD_line_104 : decode c_MD_line 104 = .ok (.aload_n 0, 1) := by decide +kernel
theorem d_MD_line_105 : decode c_MD_line 105 = .ok (.iload_n 2, 1) := by decide +kernel
theorem d_MD_line_106 : decode c_MD_line 106 = .ok (.invokevirtual 124, 3) := by decide +kernel
theorem d_MD_line_109 : decode c_MD_line 109 = .ok (.aload_n 0, 1) := by decide +kernel
theorem d_MD_line_110 : decode c_MD_line 110 = .ok (.getfield 117, 3) := by decide +kernel
theorem d_MD_line_113 : decode c_MD_line 113 = .ok (.ifCond .ge 61, 3) := by decide +kernel
theorem d_MD_line_116 : decode c_MD_line 116 = .ok (.iload 4, 2) := by decide +kernel
theorem d_MD_line_118 : decode c_MD_line 118 = .ok (.invokestatic 104, 3) := by decide +kernel
theorem d_MD_line_121 : decode c_MD_line 121 = .ok (.ifCond .eq 53, 3) := by decide +kernel
theorem d_MD_line_124 : decode c_MD_line 124 = .ok (.aload_n 0, 1) := by decide +kernel
theorem d_MD_line_125 : decode c_MD_line 125 = .ok (.bipush 32, 2) := by decide +kernel
theorem d_MD_line_127 : decode c_MD_line 127 = .ok (.invokevirtual 146, 3) := by decide +kernel
theorem d_MD_line_130 : decode c_MD_line 130 = .ok (.aload_n 0, 1) := by decide +kernel
theorem d_MD_line_131 : decode c_MD_line 131 = .ok (.getfield 117, 3) := by decide +kernel
theorem d_MD_line_134 : decode c_MD_line 134 = .ok (.ifCond .ge 10, 3) := by decide +kernel
theorem d_MD_line_137 : decode c_MD_line 137 = .ok (.aload_n 0, 1) := by decide +kernel
theorem d_MD_line_138 : decode c_MD_line 138 = .ok (.invokevirtual 143, 3) := by decide +kernel
theorem d_MD_line_141 : decode c_MD_line 141 = .ok (.goto 7, 3) := by decide +kernel
theorem d_MD_line_144 : decode c_MD_line 144 = .ok (.aload_n 0, 1) := by decide +kernel
theorem d_MD_line_145 : decode c_MD_line 145 = .ok (.getfield 114, 3) := by decide +kernel
theorem d_MD_line_148 : decode c_MD_line 148 = .ok (.istore_n 2, 1) := by decide +kernel
theorem d_MD_line_149 : decode c_MD_line 149 = .ok (.aload_n 0, 1) := by decide +kernel
theorem d_MD_line_150 : decode c_MD_line 150 = .ok (.getfield 117, 3) := by decide +kernel
theorem d_MD_line_153 : decode c_MD_line 153 = .ok (.ifCond .ge 21, 3) := by decide +kernel
theorem d_MD_line_156 : decode c_MD_line 156 = .ok (.aload_n 0, 1) := by decide +kernel
theorem d_MD_line_157 : decode c_MD_line 157 = .ok (.getfield 128, 3) := by decide +kernel
theorem d_MD_line_160 : decode c_MD_line 160 = .ok (.iconst 0, 1) := by decide +kernel
theorem d_MD_line_161 : decode c_MD_line 161 = .ok (.bipush 7, 2) := by decide +kernel
theorem d_MD_line_163 : decode c_MD_line 163 = .ok (.invokestatic 67, 3) := by decide +kernel
theorem d_MD_line_166 : decode c_MD_line 166 = .ok (.ifCond .ne 8, 3) := by decide +kernel
theorem d_MD_line_169 : decode c_MD_line 169 = .ok (.aload_n 0, 1) := by decide +kernel
theorem d_MD_line_170 : decode c_MD_line 170 = .ok (.iload_n 2, 1) := by decide +kernel
theorem d_MD_line_171 : decode c_MD_line 171 = .ok (.invokevirtual 124, 3) := by decide +kernel
theorem d_MD_line_174 : decode c_MD_line 174 = .ok (.aload_n 0, 1) := by decide +kernel
theorem d_MD_line_175 : decode c_MD_line 175 = .ok (.getfield 117, 3) := by decide +kernel
theorem d_MD_line_178 : decode c_MD_line 178 = .ok (.ifCond .ge 20, 3) := by decide +kernel
theorem d_MD_line_181 : decode c_MD_line 181 = .ok (.aload_n 0, 1) := by decide +kernel
theorem d_MD_line_182 : decode c_MD_line 182 = .ok (.getfield 114, 3) := by decide +kernel
theorem d_MD_line_185 : decode c_MD_line 185 = .ok (.aload_n 0, 1) := by decide +kernel
theorem d_MD_line_186 : decode c_MD_line 186 = .ok (.getfield 111, 3) := by decide +kernel
theorem d_MD_line_189 : decode c_MD_line 189 = .ok (.if_icmp .ge 9, 3) := by decide +kernel
theorem d_MD_line_192 : decode c_MD_line 192 = .ok (.aload_n 0, 1) := by decide +kernel
theorem d_MD_line_193 : decode c_MD_line 193 = .ok (.bipush 10, 2) := by decide +kernel
theorem d_MD_line_195 : decode c_MD_line 195 = .ok (.invokevirtual 146, 3) := by decide +kernel
theorem d_MD_line_198 : decode c_MD_line 198 = .ok (.iload_n 1, 1) := by decide +kernel
theorem d_MD_line_199 : decode c_MD_line 199 = .ok (.ifCond .eq 35, 3) := by decide +kernel
theorem d_MD_line_202 : decode c_MD_line 202 = .ok (.aload_n 0, 1) := by decide +kernel
theorem d_MD_line_203 : decode c_MD_line 203 = .ok (.getfield 117, 3) := by decide +kernel
theorem d_MD_line_206 : decode c_MD_line 206 = .ok (.ifCond .ge 28, 3) := by decide +kernel
theorem d_MD_line_209 : decode c_MD_line 209 = .ok (.aload_n 0, 1) := by decide +kernel
theorem d_MD_line_210 : decode c_MD_line 210 = .ok (.iload_n 3, 1) := by decide +kernel
theorem d_MD_line_211 : decode c_MD_line 211 = .ok (.iload 4, 2) := by decide +kernel
theorem d_MD_line_213 : decode c_MD_line 213 = .ok (.iload 5, 2) := by decide +kernel
theorem d_MD_line_215 : decode c_MD_line 215 = .ok (.iload 4, 2) := by decide +kernel
theorem d_MD_line_217 : decode c_MD_line 217 = .ok (.invokestatic 104, 3) := by decide +kernel
theorem d_MD_line_220 : decode c_MD_line 220 = .ok (.ifCond .eq 10, 3) := by decide +kernel
theorem d_MD_line_223 : decode c_MD_line 223 = .ok (.aload_n 0, 1) := by decide +kernel
theorem d_MD_line_224 : decode c_MD_line 224 = .ok (.getfield 128, 3) := by decide +kernel
theorem d_MD_line_227 : decode c_MD_line 227 = .ok (.goto 4, 3) := by decide +kernel
theorem d_MD_line_230 : decode c_MD_line 230 = .ok (.iconst 0, 1) := by decide +kernel
theorem d_MD_line_231 : decode c_MD_line 231 = .ok (.invokevirtual 107, 3) := by decide +kernel
theorem d_MD_line_234 : decode c_MD_line 234 = .ok (.return_, 1) := by decide +kernel
theorem d_MD_read_0 : decode c_MD_read 0 = .ok (.aload_n 0, 1) := by decide +kernel
theorem d_MD_read_1 : decode c_MD_read 1 = .ok (.iconst 0, 1) := by decide +kernel
theorem d_MD_read_2 : decode c_MD_read 2 = .ok (.putfield 63, 3) := by decide +kernel
theorem d_MD_read_5 : decode c_MD_read 5 = .ok (.aload_n 0, 1) := by decide +kernel
theorem d_MD_read_6 : decode c_MD_read 6 = .ok (.iconst (-1), 1) := by decide +kernel
theorem d_MD_read_7 : decode c_MD_read 7 = .ok (.putfield 117, 3) := by decide +kernel
theorem d_MD_read_10 : decode c_MD_read 10 = .ok (.iconst 0, 1) := by decide +kernel
theorem d_MD_read_11 : decode c_MD_read 11 = .ok (.istore_n 1, 1) := by decide +kernel
theorem d_MD_read_12 : decode c_MD_read 12 = .ok (.aload_n 0, 1) := by decide +kernel
theorem d_MD_read_13 : decode c_MD_read 13 = .ok (.iconst 0, 1) := by decide +kernel
theorem d_MD_read_14 : decode c_MD_read 14 = .ok (.putfield 114, 3) := by decide +kernel
theorem d_MD_read_17 : decode c_MD_read 17 = .ok (.aload_n 0, 1) := by decide +kernel
theorem d_MD_read_18 : decode c_MD_read 18 = .ok (.getfield 114, 3) := by decide +kernel
theorem d_MD_read_21 : decode c_MD_read 21 = .ok (.aload_n 0, 1) := by decide +kernel
theorem d_MD_read_22 : decode c_MD_read 22 = .ok (.getfield 111, 3) := by decide +kernel
theorem d_MD_read_25 : decode c_MD_read 25 = .ok (.if_icmp .ge 43, 3) := by decide +kernel
theorem d_MD_read_28 : decode c_MD_read 28 = .ok (.aload_n 0, 1) := by decide +kernel
theorem d_MD_read_29 : decode c_MD_read 29 = .ok (.getfield 117, 3) := by decide +kernel
theorem d_MD_read_32 : decode c_MD_read 32 = .ok (.ifCond .ge 36, 3) := by decide +kernel
theorem d_MD_read_35 : decode c_MD_read 35 = .ok (.aload_n 0, 1) := by decide +kernel
theorem d_MD_read_36 : decode c_MD_read 36 = .ok (.getfield 94, 3) := by decide +kernel
theorem d_MD_read_39 : decode c_MD_read 39 = .ok (.iload_n 1, 1) := by decide +kernel
theorem d_MD_read_40 : decode c_MD_read 40 = .ok (.iadd, 1) := by decide +kernel
theorem d_MD_read_41 : decode c_MD_read 41 = .ok (.bipush 24, 2) := by decide +kernel
theorem d_MD_read_43 : decode c_MD_read 43 = .ok (.if_icmp .ne 14, 3) := by decide +kernel
theorem d_MD_read_46 : decode c_MD_read 46 = .ok (.aload_n 0, 1) := by decide +kernel
theorem d_MD_read_47 : decode c_MD_read 47 = .ok (.aload_n 0, 1) := by decide +kernel
theorem d_MD_read_48 : decode c_MD_read 48 = .ok (.getfield 114, 3) := by decide +kernel
theorem d_MD_read_51 : decode c_MD_read 51 = .ok (.invokevirtual 124, 3) := by decide +kernel
theorem d_MD_read_54 : decode c_MD_read 54 = .ok (.goto (-37), 3) := by decide +kernel
theorem d_MD_read_57 : decode c_MD_read 57 = .ok (.aload_n 0, 1) := by decide +kernel
theorem d_MD_read_58 : decode c_MD_read 58 = .ok (.iconst 0, 1) := by decide +kernel
theorem d_MD_read_59 : decode c_MD_read 59 = .ok (.invokevirtual 152, 3) := by decide +kernel
theorem d_MD_read_62 : decode c_MD_read 62 = .ok (.iinc 1 1, 3) := by decide +kernel
theorem d_MD_read_65 : decode c_MD_read 65 = .ok (.goto (-48), 3) := by decide +kernel
theorem d_MD_read_68 : decode c_MD_read 68 = .ok (.aload_n 0, 1) := by decide +kernel
theorem d_MD_read_69 : decode c_MD_read 69 = .ok (.iconst 0, 1) := by decide +kernel
theorem d_MD_read_70 : decode c_MD_read 70 = .ok (.putfield 114, 3) := by decide +kernel
theorem d_MD_read_73 : decode c_MD_read 73 = .ok (.aload_n 0, 1) := by decide +kernel
theorem d_MD_read_74 : decode c_MD_read 74 = .ok (.getfield 114, 3) := by decide +kernel
theorem d_MD_read_77 : decode c_MD_read 77 = .ok (.aload_n 0, 1) := by decide +kernel
theorem d_MD_read_78 : decode c_MD_read 78 = .ok (.getfield 111, 3) := by decide +kernel
theorem d_MD_read_81 : decode c_MD_read 81 = .ok (.if_icmp .ge 18, 3) := by decide +kernel
theorem d_MD_read_84 : decode c_MD_read 84 = .ok (.aload_n 0, 1) := by decide +kernel
theorem d_MD_read_85 : decode c_MD_read 85 = .ok (.getfield 117, 3) := by decide +kernel
theorem d_MD_read_88 : decode c_MD_read 88 = .ok (.ifCond .ge 11, 3) := by decide +kernel
theorem d_MD_read_91 : decode c_MD_read 91 = .ok (.aload_n 0, 1) := by decide +kernel
theorem d_MD_read_92 : decode c_MD_read 92 = .ok (.iconst 1, 1) := by decide +kernel
theorem d_MD_read_93 : decode c_MD_read 93 = .ok (.invokevirtual 152, 3) := by decide +kernel
theorem d_MD_read_96 : decode c_MD_read 96 = .ok (.goto (-23), 3) := by decide +kernel
theorem d_MD_read_99 : decode c_MD_read 99 = .ok (.aload_n 0, 1) := by decide +kernel
theorem d_MD_read_100 : decode c_MD_read 100 = .ok (.iconst 0, 1) := by decide +kernel
theorem d_MD_read_101 : decode c_MD_read 101 = .ok (.putfield 111, 3) := by decide +kernel
theorem d_MD_read_104 : decode c_MD_read 104 = .ok (.aload_n 0, 1) := by decide +kernel
theorem d_MD_read_105 : decode c_MD_read 105 = .ok (.getfield 117, 3) := by decide +kernel
theorem d_MD_read_108 : decode c_MD_read 108 = .ok (.ifCond .lt 12, 3) := by decide +kernel
theorem d_MD_read_111 : decode c_MD_read 111 = .ok (.iconst (-1), 1) := by decide +kernel
theorem d_MD_read_112 : decode c_MD_read 112 = .ok (.aload_n 0, 1) := by decide +kernel
theorem d_MD_read_113 : decode c_MD_read 113 = .ok (.getfield 117, 3) := by decide +kernel
theorem d_MD_read_116 : decode c_MD_read 116 = .ok (.isub, 1) := by decide +kernel
theorem d_MD_read_117 : decode c_MD_read 117 = .ok (.goto 4, 3) := by decide +kernel
theorem d_MD_read_120 : decode c_MD_read 120 = .ok (.iload_n 1, 1) := by decide +kernel
theorem d_MD_read_121 : decode c_MD_read 121 = .ok (.ireturn, 1) := by decide +kernel
theorem d_MD_own_0 : decode c_MD_own 0 = .ok (.aload_n 0, 1) := by decide +kernel
theorem d_MD_own_1 : decode c_MD_own 1 = .ok (.iload_n 1, 1) := by decide +kernel
theorem d_MD_own_2 : decode c_MD_own 2 = .ok (.iconst 0, 1) := by decide +kernel
theorem d_MD_own_3 : decode c_MD_own 3 = .ok (.iconst 3, 1) := by decide +kernel
theorem d_MD_own_4 : decode c_MD_own 4 = .ok (.invokestatic 67, 3) := by decide +kernel
theorem d_MD_own_7 : decode c_MD_own 7 = .ok (.ifCond .eq 12, 3) := by decide +kernel
theorem d_MD_own_10 : decode c_MD_own 10 = .ok (.iload_n 2, 1) := by decide +kernel
theorem d_MD_own_11 : decode c_MD_own 11 = .ok (.iconst 0, 1) := by decide +kernel
theorem d_MD_own_12 : decode c_MD_own 12 = .ok (.iconst 3, 1) := by decide +kernel
theorem d_MD_own_13 : decode c_MD_own 13 = .ok (.invokestatic 67, 3) := by decide +kernel
theorem d_MD_own_16 : decode c_MD_own 16 = .ok (.ifCond .ne 7, 3) := by decide +kernel
theorem d_MD_own_19 : decode c_MD_own 19 = .ok (.iconst 1, 1) := by decide +kernel
theorem d_MD_own_20 : decode c_MD_own 20 = .ok (.goto 4, 3) := by decide +kernel
theorem d_MD_own_23 : decode c_MD_own 23 = .ok (.iconst 0, 1) := by decide +kernel
theorem d_MD_own_24 : decode c_MD_own 24 = .ok (.iconst 0, 1) := by decide +kernel
theorem d_MD_own_25 : decode c_MD_own 25 = .ok (.iconst 0, 1) := by decide +kernel
theorem d_MD_own_26 : decode c_MD_own 26 = .ok (.invokevirtual 78, 3) := by decide +kernel
theorem d_MD_own_29 : decode c_MD_own 29 = .ok (.ifCond .ne 10, 3) := by decide +kernel
theorem d_MD_own_32 : decode c_MD_own 32 = .ok (.aload_n 0, 1) := by decide +kernel
theorem d_MD_own_33 : decode c_MD_own 33 = .ok (.getfield 47, 3) := by decide +kernel
theorem d_MD_own_36 : decode c_MD_own 36 = .ok (.iload_n 1, 1) := by decide +kernel
theorem d_MD_own_37 : decode c_MD_own 37 = .ok (.iload_n 2, 1) := by decide +kernel
theorem d_MD_own_38 : decode c_MD_own 38 = .ok (.iastore, 1) := by decide +kernel
theorem d_MD_own_39 : decode c_MD_own 39 = .ok (.return_, 1) := by decide +kernel
theorem d_MD_except_0 : decode c_MD_except 0 = .ok (.iconst (-1), 1) := by decide +kernel
theorem d_MD_except_1 : decode c_MD_except 1 = .ok (.istore 5, 2) := by decide +kernel
theorem d_MD_except_3 : decode c_MD_except 3 = .ok (.iconst 0, 1) := by decide +kernel
theorem d_MD_except_4 : decode c_MD_except 4 = .ok (.istore 6, 2) := by decide +kernel
theorem d_MD_except_6 : decode c_MD_except 6 = .ok (.iload 6, 2) := by decide +kernel
theorem d_MD_except_8 : decode c_MD_except 8 = .ok (.aload_n 0, 1) := by decide +kernel
theorem d_MD_except_9 : decode c_MD_except 9 = .ok (.getfield 156, 3) := by decide +kernel
theorem d_MD_except_12 : decode c_MD_except 12 = .ok (.if_icmp .ge 51, 3) := by decide +kernel
theorem d_MD_except_15 : decode c_MD_except 15 = .ok (.aload_n 0, 1) := by decide +kernel
theorem d_MD_except_16 : decode c_MD_except 16 = .ok (.getfield 35, 3) := by decide +kernel
theorem d_MD_except_19 : decode c_MD_except 19 = .ok (.iload 6, 2) := by decide +kernel
theorem d_MD_except_21 : decode c_MD_except 21 = .ok (.iaload, 1) := by decide +kernel
theorem d_MD_except_22 : decode c_MD_except 22 = .ok (.iload_n 1, 1) := by decide +kernel
theorem d_MD_except_23 : decode c_MD_except 23 = .ok (.if_icmp .ne 30, 3) := by decide +kernel
theorem d_MD_except_26 : decode c_MD_except 26 = .ok (.aload_n 0, 1) := by decide +kernel
theorem d_MD_except_27 : decode c_MD_except 27 = .ok (.getfield 38, 3) := by decide +kernel
theorem d_MD_except_30 : decode c_MD_except 30 = .ok (.iload 6, 2) := by decide +kernel
theorem d_MD_except_32 : decode c_MD_except 32 = .ok (.iaload, 1) := by decide +kernel
theorem d_MD_except_33 : decode c_MD_except 33 = .ok (.iload_n 2, 1) := by decide +kernel
theorem d_MD_except_34 : decode c_MD_except 34 = .ok (.if_icmp .ne 19, 3) := by decide +kernel
theorem d_MD_except_37 : decode c_MD_except 37 = .ok (.aload_n 0, 1) := by decide +kernel
theorem d_MD_except_38 : decode c_MD_except 38 = .ok (.getfield 41, 3) := by decide +kernel
theorem d_MD_except_41 : decode c_MD_except 41 = .ok (.iload 6, 2) := by decide +kernel
theorem d_MD_except_43 : decode c_MD_except 43 = .ok (.iaload, 1) := by decide +kernel
theorem d_MD_except_44 : decode c_MD_except 44 = .ok (.iload_n 3, 1) := by decide +kernel
theorem d_MD_except_45 : decode c_MD_except 45 = .ok (.if_icmp .ne 8, 3) := by decide +kernel
theorem d_MD_except_48 : decode c_MD_except 48 = .ok (.iload 6, 2) := by decide +kernel
theorem d_MD_except_50 : decode c_MD_except 50 = .ok (.goto 5, 3) := by decide +kernel
theorem d_MD_except_53 : decode c_MD_except 53 = .ok (.iload 5, 2) := by decide +kernel
theorem d_MD_except_55 : decode c_MD_except 55 = .ok (.istore 5, 2) := by decide +kernel
theorem d_MD_except_57 : decode c_MD_except 57 = .ok (.iinc 6 1, 3) := by decide +kernel
theorem d_MD_except_60 : decode c_MD_except 60 = .ok (.goto (-54), 3) := by decide +kernel
theorem d_MD_except_63 : decode c_MD_except 63 = .ok (.iload_n 2, 1) := by decide +kernel
theorem d_MD_except_64 : decode c_MD_except 64 = .ok (.iconst (-1), 1) := by decide +kernel
theorem d_MD_except_65 : decode c_MD_except 65 = .ok (.bipush 11, 2) := by decide +kernel
theorem d_MD_except_67 : decode c_MD_except 67 = .ok (.invokestatic 67, 3) := by decide +kernel
theorem d_MD_except_70 : decode c_MD_except 70 = .ok (.ifCond .eq 25, 3) := by decide +kernel
theorem d_MD_except_73 : decode c_MD_except 73 = .ok (.iload_n 3, 1) := by decide +kernel
theorem d_MD_except_74 : decode c_MD_except 74 = .ok (.iconst (-1), 1) := by decide +kernel
theorem d_MD_except_75 : decode c_MD_except 75 = .ok (.bipush 7, 2) := by decide +kernel
theorem d_MD_except_77 : decode c_MD_except 77 = .ok (.invokestatic 67, 3) := by decide +kernel
theorem d_MD_except_80 : decode c_MD_except 80 = .ok (.ifCond .eq 15, 3) := by decide +kernel
theorem d_MD_except_83 : decode c_MD_except 83 = .ok (.iload 4, 2) := by decide +kernel
theorem d_MD_except_85 : decode c_MD_except 85 = .ok (.iconst 0, 1) := by decide +kernel
theorem d_MD_except_86 : decode c_MD_except 86 = .ok (.sipush 1000, 3) := by decide +kernel
theorem d_MD_except_89 : decode c_MD_except 89 = .ok (.invokestatic 67, 3) := by decide +kernel
theorem d_MD_except_92 : decode c_MD_except 92 = .ok (.ifCond .ne 7, 3) := by decide +kernel
theorem d_MD_except_95 : decode c_MD_except 95 = .ok (.iconst 1, 1) := by decide +kernel
theorem d_MD_except_96 : decode c_MD_except 96 = .ok (.goto 4, 3) := by decide +kernel
theorem d_MD_except_99 : decode c_MD_except 99 = .ok (.iconst 0, 1) := by decide +kernel
theorem d_MD_except_100 : decode c_MD_except 100 = .ok (.istore 6, 2) := by decide +kernel
theorem d_MD_except_102 : decode c_MD_except 102 = .ok (.aload_n 0, 1) := by decide +kernel
theorem d_MD_except_103 : decode c_MD_except 103 = .ok (.iload_n 1, 1) := by decide +kernel
theorem d_MD_except_104 : decode c_MD_except 104 = .ok (.iconst 0, 1) := by decide +kernel
theorem d_MD_except_105 : decode c_MD_except 105 = .ok (.aload_n 0, 1) := by decide +kernel
theorem d_MD_except_106 : decode c_MD_except 106 = .ok (.getfield 94, 3) := by decide +kernel
theorem d_MD_except_109 : decode c_MD_except 109 = .ok (.iconst 1, 1) := by decide +kernel
theorem d_MD_except_110 : decode c_MD_except 110 = .ok (.isub, 1) := by decide +kernel
theorem d_MD_except_111 : decode c_MD_except 111 = .ok (.invokestatic 67, 3) := by decide +kernel
theorem d_MD_except_114 : decode c_MD_except 114 = .ok (.ifCond .ne 7, 3) := by decide +kernel
theorem d_MD_except_117 : decode c_MD_except 117 = .ok (.iconst 1, 1) := by decide +kernel
theorem d_MD_except_118 : decode c_MD_except 118 = .ok (.goto 4, 3) := by decide +kernel
theorem d_MD_except_121 : decode c_MD_except 121 = .ok (.iconst 0, 1) := by decide +kernel
theorem d_MD_except_122 : decode c_MD_except 122 = .ok (.iload 6, 2) := by decide +kernel
theorem d_MD_except_124 : decode c_MD_except 124 = .ok (.iload 5, 2) := by decide +kernel
theorem d_MD_except_126 : decode c_MD_except 126 = .ok (.ifCond .ge 16, 3) := by decide +kernel
theorem d_MD_except_129 : decode c_MD_except 129 = .ok (.aload_n 0, 1) := by decide +kernel
theorem d_MD_except_130 : decode c_MD_except 130 = .ok (.getfield 156, 3) := by decide +kernel
theorem d_MD_except_133 : decode c_MD_except 133 = .ok (.bipush 20, 2) := by decide +kernel
theorem d_MD_except_135 : decode c_MD_except 135 = .ok (.if_icmp .ne 7, 3) := by decide +kernel
theorem d_MD_except_138 : decode c_MD_except 138 = .ok (.iconst 1, 1) := by decide +kernel
theorem d_MD_except_139 : decode c_MD_except 139 = .ok (.goto 4, 3) := by decide +kernel
theorem d_MD_except_142 : decode c_MD_except 142 = .ok (.iconst 0, 1) := by decide +kernel
theorem d_MD_except_143 : decode c_MD_except 143 = .ok (.invokevirtual 78, 3) := by decide +kernel
theorem d_MD_except_146 : decode c_MD_except 146 = .ok (.ifCond .eq 4, 3) := by decide +kernel
theorem d_MD_except_149 : decode c_MD_except 149 = .ok (.return_, 1) := by decide +kernel
theorem d_MD_except_150 : decode c_MD_except 150 = .ok (.iload 5, 2) := by decide +kernel
theorem d_MD_except_152 : decode c_MD_except 152 = .ok (.ifCond .lt 35, 3) := by decide +kernel
theorem d_MD_except_155 : decode c_MD_except 155 = .ok (.aload_n 0, 1) := by decide +kernel
theorem d_MD_except_156 : decode c_MD_except 156 = .ok (.getfield 44, 3) := by decide +kernel
theorem d_MD_except_159 : decode c_MD_except 159 = .ok (.iload 5, 2) := by decide +kernel
theorem d_MD_except_161 : decode c_MD_except 161 = .ok (.iload 4, 2) := by decide +kernel
theorem d_MD_except_163 : decode c_MD_except 163 = .ok (.aload_n 0, 1) := by decide +kernel
theorem d_MD_except_164 : decode c_MD_except 164 = .ok (.getfield 44, 3) := by decide +kernel
theorem d_MD_except_167 : decode c_MD_except 167 = .ok (.iload 5, 2) := by decide +kernel
theorem d_MD_except_169 : decode c_MD_except 169 = .ok (.iaload, 1) := by decide +kernel
theorem d_MD_except_170 : decode c_MD_except 170 = .ok (.if_icmp .le 8, 3) := by decide +kernel
theorem d_MD_except_173 : decode c_MD_except 173 = .ok (.iload 4, 2) := by decide +kernel
theorem d_MD_except_175 : decode c_MD_except 175 = .ok (.goto 10, 3) := by decide +kernel
theorem d_MD_except_178 : decode c_MD_except 178 = .ok (.aload_n 0, 1) := by decide +kernel
theorem d_MD_except_179 : decode c_MD_except 179 = .ok (.getfield 44, 3) := by decide +kernel
theorem d_MD_except_182 : decode c_MD_except 182 = .ok (.iload 5, 2) := by decide +kernel
theorem d_MD_except_184 : decode c_MD_except 184 = .ok (.iaload, 1) := by decide +kernel
theorem d_MD_except_185 : decode c_MD_except 185 = .ok (.iastore, 1) := by decide +kernel
theorem d_MD_except_186 : decode c_MD_except 186 = .ok (.return_, 1) := by decide +kernel
theorem d_MD_except_187 : decode c_MD_except 187 = .ok (.aload_n 0, 1) := by decide +kernel
theorem d_MD_except_188 : decode c_MD_except 188 = .ok (.getfield 35, 3) := by decide +kernel
theorem d_MD_except_191 : decode c_MD_except 191 = .ok (.aload_n 0, 1) := by decide +kernel
theorem d_MD_except_192 : decode c_MD_except 192 = .ok (.getfield 156, 3) := by decide +kernel
theorem d_MD_except_195 : decode c_MD_except 195 = .ok (.iload_n 1, 1) := by decide +kernel
theorem d_MD_except_196 : decode c_MD_except 196 = .ok (.iastore, 1) := by decide +kernel
theorem d_MD_except_197 : decode c_MD_except 197 = .ok (.aload_n 0, 1) := by decide +kernel
theorem d_MD_except_198 : decode c_MD_except 198 = .ok (.getfield 38, 3) := by decide +kernel
theorem d_MD_except_201 : decode c_MD_except 201 = .ok (.aload_n 0, 1) := by decide +kernel
theorem d_MD_except_202 : decode c_MD_except 202 = .ok (.getfield 156, 3) := by decide +kernel
theorem d_MD_except_205 : decode c_MD_except 205 = .ok (.iload_n 2, 1) := by decide +kernel
theorem d_MD_except_206 : decode c_MD_except 206 = .ok (.iastore, 1) := by decide +kernel
theorem d_MD_except_207 : decode c_MD_except 207 = .ok (.aload_n 0, 1) := by decide +kernel
theorem d_MD_except_208 : decode c_MD_except 208 = .ok (.getfield 41, 3) := by decide +kernel
theorem d_MD_except_211 : decode c_MD_except 211 = .ok (.aload_n 0, 1) := by decide +kernel
theorem d_MD_except_212 : decode c_MD_except 212 = .ok (.getfield 156, 3) := by decide +kernel
theorem d_MD_except_215 : decode c_MD_except 215 = .ok (.iload_n 3, 1) := by decide +kernel
theorem d_MD_except_216 : decode c_MD_except 216 = .ok (.iastore, 1) := by decide +kernel
theorem d_MD_except_217 : decode c_MD_except 217 = .ok (.aload_n 0, 1) := by decide +kernel
theorem d_MD_except_218 : decode c_MD_except 218 = .ok (.getfield 44, 3) := by decide +kernel
theorem d_MD_except_221 : decode c_MD_except 221 = .ok (.aload_n 0, 1) := by decide +kernel
theorem d_MD_except_222 : decode c_MD_except 222 = .ok (.getfield 156, 3) := by decide +kernel
theorem d_MD_except_225 : decode c_MD_except 225 = .ok (.iload 4, 2) := by decide +kernel
theorem d_MD_except_227 : decode c_MD_except 227 = .ok (.iastore, 1) := by decide +kernel
theorem d_MD_except_228 : decode c_MD_except 228 = .ok (.aload_n 0, 1) := by decide +kernel
theorem d_MD_except_229 : decode c_MD_except 229 = .ok (.dup, 1) := by decide +kernel
theorem d_MD_except_230 : decode c_MD_except 230 = .ok (.getfield 156, 3) := by decide +kernel
theorem d_MD_except_233 : decode c_MD_except 233 = .ok (.iconst 1, 1) := by decide +kernel
theorem d_MD_except_234 : decode c_MD_except 234 = .ok (.iadd, 1) := by decide +kernel
theorem d_MD_except_235 : decode c_MD_except 235 = .ok (.putfield 156, 3) := by decide +kernel
theorem d_MD_except_238 : decode c_MD_except 238 = .ok (.return_, 1) := by decide +kernel
theorem d_MD_isExcepted_0 : decode c_MD_isExcepted 0 = .ok (.iconst 0, 1) := by decide +kernel
theorem d_MD_isExcepted_1 : decode c_MD_isExcepted 1 = .ok (.istore 5, 2) := by decide +kernel
theorem d_MD_isExcepted_3 : decode c_MD_isExcepted 3 = .ok (.iconst 0, 1) := by decide +kernel
theorem d_MD_isExcepted_4 : decode c_MD_isExcepted 4 = .ok (.istore 6, 2) := by decide +kernel
theorem d_MD_isExcepted_6 : decode c_MD_isExcepted 6 = .ok (.iload 6, 2) := by decide +kernel
theorem d_MD_isExcepted_8 : decode c_MD_isExcepted 8 = .ok (.aload_n 0, 1) := by decide +kernel
theorem d_MD_isExcepted_9 : decode c_MD_isExcepted 9 = .ok (.getfield 156, 3) := by decide +kernel
theorem d_MD_isExcepted_12 : decode c_MD_isExcepted 12 = .ok (.if_icmp .ge 120, 3) := by decide +kernel
theorem d_MD_isExcepted_15 : decode c_MD_isExcepted 15 = .ok (.aload_n 0, 1) := by decide +kernel
theorem d_MD_isExcepted_16 : decode c_MD_isExcepted 16 = .ok (.getfield 38, 3) := by decide +kernel
theorem d_MD_isExcepted_19 : decode c_MD_isExcepted 19 = .ok (.iload 6, 2) := by decide +kernel
theorem d_MD_isExcepted_21 : decode c_MD_isExcepted 21 = .ok (.iaload, 1) := by decide +kernel
theorem d_MD_isExcepted_22 : decode c_MD_isExcepted 22 = .ok (.ifCond .lt 14, 3) := by decide +kernel
theorem d_MD_isExcepted_25 : decode c_MD_isExcepted 25 = .ok (.aload_n 0, 1) := by decide +kernel
theorem d_MD_isExcepted_26 : decode c_MD_isExcepted 26 = .ok (.getfield 38, 3) := by decide +kernel
theorem d_MD_isExcepted_29 : decode c_MD_isExcepted 29 = .ok (.iload 6, 2) := by decide +kernel
theorem d_MD_isExcepted_31 : decode c_MD_isExcepted 31 = .ok (.iaload, 1) := by decide +kernel
theorem d_MD_isExcepted_32 : decode c_MD_isExcepted 32 = .ok (.iload_n 3, 1) := by decide +kernel
theorem d_MD_isExcepted_33 : decode c_MD_isExcepted 33 = .ok (.if_icmp .ne 7, 3) := by decide +kernel
theorem d_MD_isExcepted_36 : decode c_MD_isExcepted 36 = .ok (.iconst 1, 1) := by decide +kernel
theorem d_MD_isExcepted_37 : decode c_MD_isExcepted 37 = .ok (.goto 4, 3) := by decide +kernel
theorem d_MD_isExcepted_40 : decode c_MD_isExcepted 40 = .ok (.iconst 0, 1) := by decide +kernel
theorem d_MD_isExcepted_41 : decode c_MD_isExcepted 41 = .ok (.istore 7, 2) := by decide +kernel
theorem d_MD_isExcepted_43 : decode c_MD_isExcepted 43 = .ok (.aload_n 0, 1) := by decide +kernel
theorem d_MD_isExcepted_44 : decode c_MD_isExcepted 44 = .ok (.getfield 41, 3) := by decide +kernel
theorem d_MD_isExcepted_47 : decode c_MD_isExcepted 47 = .ok (.iload 6, 2) := by decide +kernel
theorem d_MD_isExcepted_49 : decode c_MD_isExcepted 49 = .ok (.iaload, 1) := by decide +kernel
theorem d_MD_isExcepted_50 : decode c_MD_isExcepted 50 = .ok (.ifCond .lt 24, 3) := by decide +kernel
theorem d_MD_isExcepted_53 : decode c_MD_isExcepted 53 = .ok (.aload_n 0, 1) := by decide +kernel
theorem d_MD_isExcepted_54 : decode c_MD_isExcepted 54 = .ok (.getfield 41, 3) := by decide +kernel
theorem d_MD_isExcepted_57 : decode c_MD_isExcepted 57 = .ok (.iload 6, 2) := by decide +kernel
theorem d_MD_isExcepted_59 : decode c_MD_isExcepted 59 = .ok (.iaload, 1) := by decide +kernel
theorem d_MD_isExcepted_60 : decode c_MD_isExcepted 60 = .ok (.aload_n 0, 1) := by decide +kernel
theorem d_MD_isExcepted_61 : decode c_MD_isExcepted 61 = .ok (.getfield 13, 3) := by decide +kernel
theorem d_MD_isExcepted_64 : decode c_MD_isExcepted 64 = .ok (.bipush 10, 2) := by decide +kernel
theorem d_MD_isExcepted_66 : decode c_MD_isExcepted 66 = .ok (.iload_n 2, 1) := by decide +kernel
theorem d_MD_isExcepted_67 : decode c_MD_isExcepted 67 = .ok (.imul, 1) := by decide +kernel
theorem d_MD_isExcepted_68 : decode c_MD_isExcepted 68 = .ok (.iconst 2, 1) := by decide +kernel
theorem d_MD_isExcepted_69 : decode c_MD_isExcepted 69 = .ok (.iadd, 1) := by decide +kernel
theorem d_MD_isExcepted_70 : decode c_MD_isExcepted 70 = .ok (.iaload, 1) := by decide +kernel
theorem d_MD_isExcepted_71 : decode c_MD_isExcepted 71 = .ok (.if_icmp .ne 7, 3) := by decide +kernel
theorem d_MD_isExcepted_74 : decode c_MD_isExcepted 74 = .ok (.iconst 1, 1) := by decide +kernel
theorem d_MD_isExcepted_75 : decode c_MD_isExcepted 75 = .ok (.goto 4, 3) := by decide +kernel
theorem d_MD_isExcepted_78 : decode c_MD_isExcepted 78 = .ok (.iconst 0, 1) := by decide +kernel
theorem d_MD_isExcepted_79 : decode c_MD_isExcepted 79 = .ok (.istore 8, 2) := by decide +kernel
theorem d_MD_isExcepted_81 : decode c_MD_isExcepted 81 = .ok (.iload 5, 2) := by decide +kernel
theorem d_MD_isExcepted_83 : decode c_MD_isExcepted 83 = .ok (.ifCond .ne 36, 3) := by decide +kernel
theorem d_MD_isExcepted_86 : decode c_MD_isExcepted 86 = .ok (.aload_n 0, 1) := by decide +kernel
theorem d_MD_isExcepted_87 : decode c_MD_isExcepted 87 = .ok (.getfield 35, 3) := by decide +kernel
theorem d_MD_isExcepted_90 : decode c_MD_isExcepted 90 = .ok (.iload 6, 2) := by decide +kernel
theorem d_MD_isExcepted_92 : decode c_MD_isExcepted 92 = .ok (.iaload, 1) := by decide +kernel
theorem d_MD_isExcepted_93 : decode c_MD_isExcepted 93 = .ok (.iload_n 1, 1) := by decide +kernel
theorem d_MD_isExcepted_94 : decode c_MD_isExcepted 94 = .ok (.if_icmp .ne 29, 3) := by decide +kernel
theorem d_MD_isExcepted_97 : decode c_MD_isExcepted 97 = .ok (.iload 7, 2) := by decide +kernel
theorem d_MD_isExcepted_99 : decode c_MD_isExcepted 99 = .ok (.ifCond .eq 24, 3) := by decide +kernel
theorem d_MD_isExcepted_102 : decode c_MD_isExcepted 102 = .ok (.iload 8, 2) := by decide +kernel
theorem d_MD_isExcepted_104 : decode c_MD_isExcepted 104 = .ok (.ifCond .eq 19, 3) := by decide +kernel
theorem d_MD_isExcepted_107 : decode c_MD_isExcepted 107 = .ok (.iload 4, 2) := by decide +kernel
theorem d_MD_isExcepted_109 : decode c_MD_isExcepted 109 = .ok (.aload_n 0, 1) := by decide +kernel
theorem d_MD_isExcepted_110 : decode c_MD_isExcepted 110 = .ok (.getfield 44, 3) := by decide +kernel
theorem d_MD_isExcepted_113 : decode c_MD_isExcepted 113 = .ok (.iload 6, 2) := by decide +kernel
theorem d_MD_isExcepted_115 : decode c_MD_isExcepted 115 = .ok (.iaload, 1) := by decide +kernel
theorem d_MD_isExcepted_116 : decode c_MD_isExcepted 116 = .ok (.if_icmp .gt 7, 3) := by decide +kernel
theorem d_MD_isExcepted_119 : decode c_MD_isExcepted 119 = .ok (.iconst 1, 1) := by decide +kernel
theorem d_MD_isExcepted_120 : decode c_MD_isExcepted 120 = .ok (.goto 4, 3) := by decide +kernel
theorem d_MD_isExcepted_123 : decode c_MD_isExcepted 123 = .ok (.iconst 0, 1) := by decide +kernel
theorem d_MD_isExcepted_124 : decode c_MD_isExcepted 124 = .ok (.istore 5, 2) := by decide +kernel
theorem d_MD_isExcepted_126 : decode c_MD_isExcepted 126 = .ok (.iinc 6 1, 3) := by decide +kernel
theorem d_MD_isExcepted_129 : decode c_MD_isExcepted 129 = .ok (.goto (-123), 3) := by decide +kernel
theorem d_MD_isExcepted_132 : decode c_MD_isExcepted 132 = .ok (.iload 5, 2) := by decide +kernel
theorem d_MD_isExcepted_134 : decode c_MD_isExcepted 134 = .ok (.ireturn, 1) := by decide +kernel
theorem d_MD_isThere_0 : decode c_MD_isThere 0 = .ok (.iload_n 1, 1) := by decide +kernel
theorem d_MD_isThere_1 : decode c_MD_isThere 1 = .ok (.iload_n 2, 1) := by decide +kernel
theorem d_MD_isThere_2 : decode c_MD_isThere 2 = .ok (.if_icmp .eq 13, 3) := by decide +kernel
theorem d_MD_isThere_5 : decode c_MD_isThere 5 = .ok (.aload_n 0, 1) := by decide +kernel
theorem d_MD_isThere_6 : decode c_MD_isThere 6 = .ok (.getfield 16, 3) := by decide +kernel
theorem d_MD_isThere_9 : decode c_MD_isThere 9 = .ok (.iload_n 1, 1) := by decide +kernel
theorem d_MD_isThere_10 : decode c_MD_isThere 10 = .ok (.iaload, 1) := by decide +kernel
theorem d_MD_isThere_11 : decode c_MD_isThere 11 = .ok (.iload_n 3, 1) := by decide +kernel
theorem d_MD_isThere_12 : decode c_MD_isThere 12 = .ok (.if_icmp .ne 7, 3) := by decide +kernel
theorem d_MD_isThere_15 : decode c_MD_isThere 15 = .ok (.iconst 1, 1) := by decide +kernel
theorem d_MD_isThere_16 : decode c_MD_isThere 16 = .ok (.goto 4, 3) := by decide +kernel
theorem d_MD_isThere_19 : decode c_MD_isThere 19 = .ok (.iconst 0, 1) := by decide +kernel
theorem d_MD_isThere_20 : decode c_MD_isThere 20 = .ok (.ireturn, 1) := by decide +kernel
theorem d_MD_unlike_0 : decode c_MD_unlike 0 = .ok (.iconst 0, 1) := by decide +kernel
theorem d_MD_unlike_1 : decode c_MD_unlike 1 = .ok (.istore 4, 2) := by decide +kernel
theorem d_MD_unlike_3 : decode c_MD_unlike 3 = .ok (.iconst 0, 1) := by decide +kernel
theorem d_MD_unlike_4 : decode c_MD_unlike 4 = .ok (.istore 5, 2) := by decide +kernel
theorem d_MD_unlike_6 : decode c_MD_unlike 6 = .ok (.iload 5, 2) := by decide +kernel
theorem d_MD_unlike_8 : decode c_MD_unlike 8 = .ok (.aload_n 0, 1) := by decide +kernel
theorem d_MD_unlike_9 : decode c_MD_unlike 9 = .ok (.getfield 83, 3) := by decide +kernel
theorem d_MD_unlike_12 : decode c_MD_unlike 12 = .ok (.if_icmp .ge 174, 3) := by decide +kernel
theorem d_MD_unlike_15 : decode c_MD_unlike 15 = .ok (.aload_n 0, 1) := by decide +kernel
theorem d_MD_unlike_16 : decode c_MD_unlike 16 = .ok (.iload 5, 2) := by decide +kernel
theorem d_MD_unlike_18 : decode c_MD_unlike 18 = .ok (.iload_n 1, 1) := by decide +kernel
theorem d_MD_unlike_19 : decode c_MD_unlike 19 = .ok (.iload_n 2, 1) := by decide +kernel
theorem d_MD_unlike_20 : decode c_MD_unlike 20 = .ok (.invokevirtual 159, 3) := by decide +kernel
theorem d_MD_unlike_23 : decode c_MD_unlike 23 = .ok (.ifCond .eq 34, 3) := by decide +kernel
theorem d_MD_unlike_26 : decode c_MD_unlike 26 = .ok (.iload_n 3, 1) := by decide +kernel
theorem d_MD_unlike_27 : decode c_MD_unlike 27 = .ok (.iconst 1, 1) := by decide +kernel
theorem d_MD_unlike_28 : decode c_MD_unlike 28 = .ok (.if_icmp .ne 25, 3) := by decide +kernel
theorem d_MD_unlike_31 : decode c_MD_unlike 31 = .ok (.aload_n 0, 1) := by decide +kernel
theorem d_MD_unlike_32 : decode c_MD_unlike 32 = .ok (.getfield 13, 3) := by decide +kernel
theorem d_MD_unlike_35 : decode c_MD_unlike 35 = .ok (.bipush 10, 2) := by decide +kernel
theorem d_MD_unlike_37 : decode c_MD_unlike 37 = .ok (.iload 5, 2) := by decide +kernel
theorem d_MD_unlike_39 : decode c_MD_unlike 39 = .ok (.imul, 1) := by decide +kernel
theorem d_MD_unlike_40 : decode c_MD_unlike 40 = .ok (.iaload, 1) := by decide +kernel
theorem d_MD_unlike_41 : decode c_MD_unlike 41 = .ok (.aload_n 0, 1) := by decide +kernel
theorem d_MD_unlike_42 : decode c_MD_unlike 42 = .ok (.getfield 13, 3) := by decide +kernel
theorem d_MD_unlike_45 : decode c_MD_unlike 45 = .ok (.bipush 10, 2) := by decide +kernel
theorem d_MD_unlike_47 : decode c_MD_unlike 47 = .ok (.iload_n 1, 1) := by decide +kernel
theorem d_MD_unlike_48 : decode c_MD_unlike 48 = .ok (.imul, 1) := by decide +kernel
theorem d_MD_unlike_49 : decode c_MD_unlike 49 = .ok (.iaload, 1) := by decide +kernel
theorem d_MD_unlike_50 : decode c_MD_unlike 50 = .ok (.if_icmp .ne 7, 3) := by decide +kernel
theorem d_MD_unlike_53 : decode c_MD_unlike 53 = .ok (.iconst 1, 1) := by decide +kernel
theorem d_MD_unlike_54 : decode c_MD_unlike 54 = .ok (.goto 4, 3) := by decide +kernel
theorem d_MD_unlike_57 : decode c_MD_unlike 57 = .ok (.iconst 0, 1) := by decide +kernel
theorem d_MD_unlike_58 : decode c_MD_unlike 58 = .ok (.istore 6, 2) := by decide +kernel
theorem d_MD_unlike_60 : decode c_MD_unlike 60 = .ok (.iconst 0, 1) := by decide +kernel
theorem d_MD_unlike_61 : decode c_MD_unlike 61 = .ok (.istore 7, 2) := by decide +kernel
theorem d_MD_unlike_63 : decode c_MD_unlike 63 = .ok (.iload 7, 2) := by decide +kernel
theorem d_MD_unlike_65 : decode c_MD_unlike 65 = .ok (.iload 5, 2) := by decide +kernel
theorem d_MD_unlike_67 : decode c_MD_unlike 67 = .ok (.if_icmp .ge 98, 3) := by decide +kernel
theorem d_MD_unlike_70 : decode c_MD_unlike 70 = .ok (.iload 6, 2) := by decide +kernel
theorem d_MD_unlike_72 : decode c_MD_unlike 72 = .ok (.ifCond .eq 93, 3) := by decide +kernel
theorem d_MD_unlike_75 : decode c_MD_unlike 75 = .ok (.aload_n 0, 1) := by decide +kernel
theorem d_MD_unlike_76 : decode c_MD_unlike 76 = .ok (.iload 7, 2) := by decide +kernel
theorem d_MD_unlike_78 : decode c_MD_unlike 78 = .ok (.iload_n 1, 1) := by decide +kernel
theorem d_MD_unlike_79 : decode c_MD_unlike 79 = .ok (.iload_n 2, 1) := by decide +kernel
theorem d_MD_unlike_80 : decode c_MD_unlike 80 = .ok (.invokevirtual 159, 3) := by decide +kernel
theorem d_MD_unlike_83 : decode c_MD_unlike 83 = .ok (.ifCond .eq 34, 3) := by decide +kernel
theorem d_MD_unlike_86 : decode c_MD_unlike 86 = .ok (.iload_n 3, 1) := by decide +kernel
theorem d_MD_unlike_87 : decode c_MD_unlike 87 = .ok (.iconst 1, 1) := by decide +kernel
theorem d_MD_unlike_88 : decode c_MD_unlike 88 = .ok (.if_icmp .ne 25, 3) := by decide +kernel
theorem d_MD_unlike_91 : decode c_MD_unlike 91 = .ok (.aload_n 0, 1) := by decide +kernel
theorem d_MD_unlike_92 : decode c_MD_unlike 92 = .ok (.getfield 13, 3) := by decide +kernel
theorem d_MD_unlike_95 : decode c_MD_unlike 95 = .ok (.bipush 10, 2) := by decide +kernel
theorem d_MD_unlike_97 : decode c_MD_unlike 97 = .ok (.iload 7, 2) := by decide +kernel
theorem d_MD_unlike_99 : decode c_MD_unlike 99 = .ok (.imul, 1) := by decide +kernel
theorem d_MD_unlike_100 : decode c_MD_unlike 100 = .ok (.iaload, 1) := by decide +kernel
theorem d_MD_unlike_101 : decode c_MD_unlike 101 = .ok (.aload_n 0, 1) := by decide +kernel
theorem d_MD_unlike_102 : decode c_MD_unlike 102 = .ok (.getfield 13, 3) := by decide +kernel
theorem d_MD_unlike_105 : decode c_MD_unlike 105 = .ok (.bipush 10, 2) := by decide +kernel
theorem d_MD_unlike_107 : decode c_MD_unlike 107 = .ok (.iload_n 1, 1) := by decide +kernel
theorem d_MD_unlike_108 : decode c_MD_unlike 108 = .ok (.imul, 1) := by decide +kernel
theorem d_MD_unlike_109 : decode c_MD_unlike 109 = .ok (.iaload, 1) := by decide +kernel
theorem d_MD_unlike_110 : decode c_MD_unlike 110 = .ok (.if_icmp .ne 7, 3) := by decide +kernel
theorem d_MD_unlike_113 : decode c_MD_unlike 113 = .ok (.iconst 1, 1) := by decide +kernel
theorem d_MD_unlike_114 : decode c_MD_unlike 114 = .ok (.goto 4, 3) := by decide +kernel
theorem d_MD_unlike_117 : decode c_MD_unlike 117 = .ok (.iconst 0, 1) := by decide +kernel
theorem d_MD_unlike_118 : decode c_MD_unlike 118 = .ok (.istore 8, 2) := by decide +kernel
theorem d_MD_unlike_120 : decode c_MD_unlike 120 = .ok (.iload 8, 2) := by decide +kernel
theorem d_MD_unlike_122 : decode c_MD_unlike 122 = .ok (.ifCond .eq 30, 3) := by decide +kernel
theorem d_MD_unlike_125 : decode c_MD_unlike 125 = .ok (.aload_n 0, 1) := by decide +kernel
theorem d_MD_unlike_126 : decode c_MD_unlike 126 = .ok (.getfield 13, 3) := by decide +kernel
theorem d_MD_unlike_129 : decode c_MD_unlike 129 = .ok (.bipush 10, 2) := by decide +kernel
theorem d_MD_unlike_131 : decode c_MD_unlike 131 = .ok (.iload 7, 2) := by decide +kernel
theorem d_MD_unlike_133 : decode c_MD_unlike 133 = .ok (.imul, 1) := by decide +kernel
theorem d_MD_unlike_134 : decode c_MD_unlike 134 = .ok (.iload_n 3, 1) := by decide +kernel
theorem d_MD_unlike_135 : decode c_MD_unlike 135 = .ok (.iadd, 1) := by decide +kernel
theorem d_MD_unlike_136 : decode c_MD_unlike 136 = .ok (.iaload, 1) := by decide +kernel
theorem d_MD_unlike_137 : decode c_MD_unlike 137 = .ok (.aload_n 0, 1) := by decide +kernel
theorem d_MD_unlike_138 : decode c_MD_unlike 138 = .ok (.getfield 13, 3) := by decide +kernel
theorem d_MD_unlike_141 : decode c_MD_unlike 141 = .ok (.bipush 10, 2) := by decide +kernel
theorem d_MD_unlike_143 : decode c_MD_unlike 143 = .ok (.iload 5, 2) := by decide +kernel
theorem d_MD_unlike_145 : decode c_MD_unlike 145 = .ok (.imul, 1) := by decide +kernel
theorem d_MD_unlike_146 : decode c_MD_unlike 146 = .ok (.iload_n 3, 1) := by decide +kernel
theorem d_MD_unlike_147 : decode c_MD_unlike 147 = .ok (.iadd, 1) := by decide +kernel
theorem d_MD_unlike_148 : decode c_MD_unlike 148 = .ok (.iaload, 1) := by decide +kernel
theorem d_MD_unlike_149 : decode c_MD_unlike 149 = .ok (.if_icmp .eq 7, 3) := by decide +kernel
theorem d_MD_unlike_152 : decode c_MD_unlike 152 = .ok (.iconst 1, 1) := by decide +kernel
theorem d_MD_unlike_153 : decode c_MD_unlike 153 = .ok (.goto 4, 3) := by decide +kernel
theorem d_MD_unlike_156 : decode c_MD_unlike 156 = .ok (.iconst 0, 1) := by decide +kernel
theorem d_MD_unlike_157 : decode c_MD_unlike 157 = .ok (.istore 6, 2) := by decide +kernel
theorem d_MD_unlike_159 : decode c_MD_unlike 159 = .ok (.iinc 7 1, 3) := by decide +kernel
theorem d_MD_unlike_162 : decode c_MD_unlike 162 = .ok (.goto (-99), 3) := by decide +kernel
theorem d_MD_unlike_165 : decode c_MD_unlike 165 = .ok (.iload 4, 2) := by decide +kernel
theorem d_MD_unlike_167 : decode c_MD_unlike 167 = .ok (.iload 6, 2) := by decide +kernel
theorem d_MD_unlike_169 : decode c_MD_unlike 169 = .ok (.ifCond .eq 7, 3) := by decide +kernel
theorem d_MD_unlike_172 : decode c_MD_unlike 172 = .ok (.iconst 1, 1) := by decide +kernel
theorem d_MD_unlike_173 : decode c_MD_unlike 173 = .ok (.goto 4, 3) := by decide +kernel
theorem d_MD_unlike_176 : decode c_MD_unlike 176 = .ok (.iconst 0, 1) := by decide +kernel
theorem d_MD_unlike_177 : decode c_MD_unlike 177 = .ok (.iadd, 1) := by decide +kernel
theorem d_MD_unlike_178 : decode c_MD_unlike 178 = .ok (.istore 4, 2) := by decide +kernel
theorem d_MD_unlike_180 : decode c_MD_unlike 180 = .ok (.iinc 5 1, 3) := by decide +kernel
theorem d_MD_unlike_183 : decode c_MD_unlike 183 = .ok (.goto (-177), 3) := by decide +kernel
theorem d_MD_unlike_186 : decode c_MD_unlike 186 = .ok (.iload 4, 2) := by decide +kernel
theorem d_MD_unlike_188 : decode c_MD_unlike 188 = .ok (.ireturn, 1) := by decide +kernel
theorem d_MD_others_0 : decode c_MD_others 0 = .ok (.iconst 0, 1) := by decide +kernel
theorem d_MD_others_1 : decode c_MD_others 1 = .ok (.istore_n 3, 1) := by decide +kernel
theorem d_MD_others_2 : decode c_MD_others 2 = .ok (.iconst 0, 1) := by decide +kernel
theorem d_MD_others_3 : decode c_MD_others 3 = .ok (.istore 4, 2) := by decide +kernel
theorem d_MD_others_5 : decode c_MD_others 5 = .ok (.iload 4, 2) := by decide +kernel
theorem d_MD_others_7 : decode c_MD_others 7 = .ok (.aload_n 0, 1) := by decide +kernel
theorem d_MD_others_8 : decode c_MD_others 8 = .ok (.getfield 83, 3) := by decide +kernel
theorem d_MD_others_11 : decode c_MD_others 11 = .ok (.if_icmp .ge 46, 3) := by decide +kernel
theorem d_MD_others_14 : decode c_MD_others 14 = .ok (.iload_n 3, 1) := by decide +kernel
theorem d_MD_others_15 : decode c_MD_others 15 = .ok (.iload 4, 2) := by decide +kernel
theorem d_MD_others_17 : decode c_MD_others 17 = .ok (.iload_n 1, 1) := by decide +kernel
theorem d_MD_others_18 : decode c_MD_others 18 = .ok (.if_icmp .eq 30, 3) := by decide +kernel
theorem d_MD_others_21 : decode c_MD_others 21 = .ok (.aload_n 0, 1) := by decide +kernel
theorem d_MD_others_22 : decode c_MD_others 22 = .ok (.getfield 16, 3) := by decide +kernel
theorem d_MD_others_25 : decode c_MD_others 25 = .ok (.iload 4, 2) := by decide +kernel
theorem d_MD_others_27 : decode c_MD_others 27 = .ok (.iaload, 1) := by decide +kernel
theorem d_MD_others_28 : decode c_MD_others 28 = .ok (.iload_n 2, 1) := by decide +kernel
theorem d_MD_others_29 : decode c_MD_others 29 = .ok (.if_icmp .ne 19, 3) := by decide +kernel
theorem d_MD_others_32 : decode c_MD_others 32 = .ok (.aload_n 0, 1) := by decide +kernel
theorem d_MD_others_33 : decode c_MD_others 33 = .ok (.getfield 13, 3) := by decide +kernel
theorem d_MD_others_36 : decode c_MD_others 36 = .ok (.bipush 10, 2) := by decide +kernel
theorem d_MD_others_38 : decode c_MD_others 38 = .ok (.iload 4, 2) := by decide +kernel
theorem d_MD_others_40 : decode c_MD_others 40 = .ok (.imul, 1) := by decide +kernel
theorem d_MD_others_41 : decode c_MD_others 41 = .ok (.bipush 6, 2) := by decide +kernel
theorem d_MD_others_43 : decode c_MD_others 43 = .ok (.iadd, 1) := by decide +kernel
theorem d_MD_others_44 : decode c_MD_others 44 = .ok (.iaload, 1) := by decide +kernel
theorem d_MD_others_45 : decode c_MD_others 45 = .ok (.goto 4, 3) := by decide +kernel
theorem d_MD_others_48 : decode c_MD_others 48 = .ok (.iconst 0, 1) := by decide +kernel
theorem d_MD_others_49 : decode c_MD_others 49 = .ok (.iadd, 1) := by decide +kernel
theorem d_MD_others_50 : decode c_MD_others 50 = .ok (.istore_n 3, 1) := by decide +kernel
theorem d_MD_others_51 : decode c_MD_others 51 = .ok (.iinc 4 1, 3) := by decide +kernel
theorem d_MD_others_54 : decode c_MD_others 54 = .ok (.goto (-49), 3) := by decide +kernel
theorem d_MD_others_57 : decode c_MD_others 57 = .ok (.iload_n 3, 1) := by decide +kernel
theorem d_MD_others_58 : decode c_MD_others 58 = .ok (.ireturn, 1) := by decide +kernel
theorem d_MD_meets_0 : decode c_MD_meets 0 = .ok (.iconst 0, 1) := by decide +kernel
theorem d_MD_meets_1 : decode c_MD_meets 1 = .ok (.istore 4, 2) := by decide +kernel
theorem d_MD_meets_3 : decode c_MD_meets 3 = .ok (.iconst 0, 1) := by decide +kernel
theorem d_MD_meets_4 : decode c_MD_meets 4 = .ok (.istore 5, 2) := by decide +kernel
theorem d_MD_meets_6 : decode c_MD_meets 6 = .ok (.iload 5, 2) := by decide +kernel
theorem d_MD_meets_8 : decode c_MD_meets 8 = .ok (.aload_n 0, 1) := by decide +kernel
theorem d_MD_meets_9 : decode c_MD_meets 9 = .ok (.getfield 83, 3) := by decide +kernel
theorem d_MD_meets_12 : decode c_MD_meets 12 = .ok (.if_icmp .ge 55, 3) := by decide +kernel
theorem d_MD_meets_15 : decode c_MD_meets 15 = .ok (.iload 4, 2) := by decide +kernel
theorem d_MD_meets_17 : decode c_MD_meets 17 = .ok (.ifCond .ne 37, 3) := by decide +kernel
theorem d_MD_meets_20 : decode c_MD_meets 20 = .ok (.iload 5, 2) := by decide +kernel
theorem d_MD_meets_22 : decode c_MD_meets 22 = .ok (.iload_n 1, 1) := by decide +kernel
theorem d_MD_meets_23 : decode c_MD_meets 23 = .ok (.if_icmp .eq 35, 3) := by decide +kernel
theorem d_MD_meets_26 : decode c_MD_meets 26 = .ok (.aload_n 0, 1) := by decide +kernel
theorem d_MD_meets_27 : decode c_MD_meets 27 = .ok (.getfield 16, 3) := by decide +kernel
theorem d_MD_meets_30 : decode c_MD_meets 30 = .ok (.iload 5, 2) := by decide +kernel
theorem d_MD_meets_32 : decode c_MD_meets 32 = .ok (.iaload, 1) := by decide +kernel
theorem d_MD_meets_33 : decode c_MD_meets 33 = .ok (.iload_n 2, 1) := by decide +kernel
theorem d_MD_meets_34 : decode c_MD_meets 34 = .ok (.if_icmp .ne 24, 3) := by decide +kernel
theorem d_MD_meets_37 : decode c_MD_meets 37 = .ok (.aload_n 0, 1) := by decide +kernel
theorem d_MD_meets_38 : decode c_MD_meets 38 = .ok (.getfield 13, 3) := by decide +kernel
theorem d_MD_meets_41 : decode c_MD_meets 41 = .ok (.bipush 10, 2) := by decide +kernel
theorem d_MD_meets_43 : decode c_MD_meets 43 = .ok (.iload 5, 2) := by decide +kernel
theorem d_MD_meets_45 : decode c_MD_meets 45 = .ok (.imul, 1) := by decide +kernel
theorem d_MD_meets_46 : decode c_MD_meets 46 = .ok (.bipush 7, 2) := by decide +kernel
theorem d_MD_meets_48 : decode c_MD_meets 48 = .ok (.iadd, 1) := by decide +kernel
theorem d_MD_meets_49 : decode c_MD_meets 49 = .ok (.iaload, 1) := by decide +kernel
theorem d_MD_meets_50 : decode c_MD_meets 50 = .ok (.iload_n 3, 1) := by decide +kernel
theorem d_MD_meets_51 : decode c_MD_meets 51 = .ok (.if_icmp .ne 7, 3) := by decide +kernel
theorem d_MD_meets_54 : decode c_MD_meets 54 = .ok (.iconst 1, 1) := by decide +kernel
theorem d_MD_meets_55 : decode c_MD_meets 55 = .ok (.goto 4, 3) := by decide +kernel
theorem d_MD_meets_58 : decode c_MD_meets 58 = .ok (.iconst 0, 1) := by decide +kernel
theorem d_MD_meets_59 : decode c_MD_meets 59 = .ok (.istore 4, 2) := by decide +kernel
theorem d_MD_meets_61 : decode c_MD_meets 61 = .ok (.iinc 5 1, 3) := by decide +kernel
theorem d_MD_meets_64 : decode c_MD_meets 64 = .ok (.goto (-58), 3) := by decide +kernel
theorem d_MD_meets_67 : decode c_MD_meets 67 = .ok (.iload 4, 2) := by decide +kernel
theorem d_MD_meets_69 : decode c_MD_meets 69 = .ok (.ireturn, 1) := by decide +kernel
theorem d_MD_fits_0 : decode c_MD_fits 0 = .ok (.aload_n 0, 1) := by decide +kernel
theorem d_MD_fits_1 : decode c_MD_fits 1 = .ok (.getfield 13, 3) := by decide +kernel
theorem d_MD_fits_4 : decode c_MD_fits 4 = .ok (.bipush 10, 2) := by decide +kernel
theorem d_MD_fits_6 : decode c_MD_fits 6 = .ok (.iload_n 1, 1) := by decide +kernel
theorem d_MD_fits_7 : decode c_MD_fits 7 = .ok (.imul, 1) := by decide +kernel
theorem d_MD_fits_8 : decode c_MD_fits 8 = .ok (.iconst 3, 1) := by decide +kernel
theorem d_MD_fits_9 : decode c_MD_fits 9 = .ok (.iadd, 1) := by decide +kernel
theorem d_MD_fits_10 : decode c_MD_fits 10 = .ok (.iaload, 1) := by decide +kernel
theorem d_MD_fits_11 : decode c_MD_fits 11 = .ok (.istore 4, 2) := by decide +kernel
theorem d_MD_fits_13 : decode c_MD_fits 13 = .ok (.aload_n 0, 1) := by decide +kernel
theorem d_MD_fits_14 : decode c_MD_fits 14 = .ok (.getfield 13, 3) := by decide +kernel
theorem d_MD_fits_17 : decode c_MD_fits 17 = .ok (.bipush 10, 2) := by decide +kernel
theorem d_MD_fits_19 : decode c_MD_fits 19 = .ok (.iload_n 1, 1) := by decide +kernel
theorem d_MD_fits_20 : decode c_MD_fits 20 = .ok (.imul, 1) := by decide +kernel
theorem d_MD_fits_21 : decode c_MD_fits 21 = .ok (.iconst 4, 1) := by decide +kernel
theorem d_MD_fits_22 : decode c_MD_fits 22 = .ok (.iadd, 1) := by decide +kernel
theorem d_MD_fits_23 : decode c_MD_fits 23 = .ok (.iaload, 1) := by decide +kernel
theorem d_MD_fits_24 : decode c_MD_fits 24 = .ok (.istore 5, 2) := by decide +kernel
theorem d_MD_fits_26 : decode c_MD_fits 26 = .ok (.aload_n 0, 1) := by decide +kernel
theorem d_MD_fits_27 : decode c_MD_fits 27 = .ok (.getfield 13, 3) := by decide +kernel
theorem d_MD_fits_30 : decode c_MD_fits 30 = .ok (.bipush 10, 2) := by decide +kernel
theorem d_MD_fits_32 : decode c_MD_fits 32 = .ok (.iload_n 1, 1) := by decide +kernel
theorem d_MD_fits_33 : decode c_MD_fits 33 = .ok (.imul, 1) := by decide +kernel
theorem d_MD_fits_34 : decode c_MD_fits 34 = .ok (.iconst 5, 1) := by decide +kernel
theorem d_MD_fits_35 : decode c_MD_fits 35 = .ok (.iadd, 1) := by decide +kernel
theorem d_MD_fits_36 : decode c_MD_fits 36 = .ok (.iaload, 1) := by decide +kernel
theorem d_MD_fits_37 : decode c_MD_fits 37 = .ok (.istore 6, 2) := by decide +kernel
theorem d_MD_fits_39 : decode c_MD_fits 39 = .ok (.iload_n 3, 1) := by decide +kernel
theorem d_MD_fits_40 : decode c_MD_fits 40 = .ok (.iconst 2, 1) := by decide +kernel
theorem d_MD_fits_41 : decode c_MD_fits 41 = .ok (.if_icmp .ge 8, 3) := by decide +kernel
theorem d_MD_fits_44 : decode c_MD_fits 44 = .ok (.iload 4, 2) := by decide +kernel
theorem d_MD_fits_46 : decode c_MD_fits 46 = .ok (.goto 15, 3) := by decide +kernel
theorem d_MD_fits_49 : decode c_MD_fits 49 = .ok (.iload_n 3, 1) := by decide +kernel
theorem d_MD_fits_50 : decode c_MD_fits 50 = .ok (.iconst 4, 1) := by decide +kernel
theorem d_MD_fits_51 : decode c_MD_fits 51 = .ok (.if_icmp .ge 8, 3) := by decide +kernel
theorem d_MD_fits_54 : decode c_MD_fits 54 = .ok (.iload 5, 2) := by decide +kernel
theorem d_MD_fits_56 : decode c_MD_fits 56 = .ok (.goto 5, 3) := by decide +kernel
theorem d_MD_fits_59 : decode c_MD_fits 59 = .ok (.iload 6, 2) := by decide +kernel
theorem d_MD_fits_61 : decode c_MD_fits 61 = .ok (.istore 7, 2) := by decide +kernel
theorem d_MD_fits_63 : decode c_MD_fits 63 = .ok (.iload_n 3, 1) := by decide +kernel
theorem d_MD_fits_64 : decode c_MD_fits 64 = .ok (.ifCond .eq 8, 3) := by decide +kernel
theorem d_MD_fits_67 : decode c_MD_fits 67 = .ok (.iload_n 3, 1) := by decide +kernel
theorem d_MD_fits_68 : decode c_MD_fits 68 = .ok (.iconst 5, 1) := by decide +kernel
theorem d_MD_fits_69 : decode c_MD_fits 69 = .ok (.if_icmp .ne 8, 3) := by decide +kernel
theorem d_MD_fits_72 : decode c_MD_fits 72 = .ok (.iload 5, 2) := by decide +kernel
theorem d_MD_fits_74 : decode c_MD_fits 74 = .ok (.goto 20, 3) := by decide +kernel
theorem d_MD_fits_77 : decode c_MD_fits 77 = .ok (.iload_n 3, 1) := by decide +kernel
theorem d_MD_fits_78 : decode c_MD_fits 78 = .ok (.iconst 1, 1) := by decide +kernel
theorem d_MD_fits_79 : decode c_MD_fits 79 = .ok (.if_icmp .eq 8, 3) := by decide +kernel
theorem d_MD_fits_82 : decode c_MD_fits 82 = .ok (.iload_n 3, 1) := by decide +kernel
theorem d_MD_fits_83 : decode c_MD_fits 83 = .ok (.iconst 3, 1) := by decide +kernel
theorem d_MD_fits_84 : decode c_MD_fits 84 = .ok (.if_icmp .ne 8, 3) := by decide +kernel
theorem d_MD_fits_87 : decode c_MD_fits 87 = .ok (.iload 6, 2) := by decide +kernel
theorem d_MD_fits_89 : decode c_MD_fits 89 = .ok (.goto 5, 3) := by decide +kernel
theorem d_MD_fits_92 : decode c_MD_fits 92 = .ok (.iload 4, 2) := by decide +kernel
theorem d_MD_fits_94 : decode c_MD_fits 94 = .ok (.istore 8, 2) := by decide +kernel
theorem d_MD_fits_96 : decode c_MD_fits 96 = .ok (.iload 7, 2) := by decide +kernel
theorem d_MD_fits_98 : decode c_MD_fits 98 = .ok (.aload_n 0, 1) := by decide +kernel
theorem d_MD_fits_99 : decode c_MD_fits 99 = .ok (.getfield 7, 3) := by decide +kernel
theorem d_MD_fits_102 : decode c_MD_fits 102 = .ok (.iconst 5, 1) := by decide +kernel
theorem d_MD_fits_103 : decode c_MD_fits 103 = .ok (.iload_n 2, 1) := by decide +kernel
theorem d_MD_fits_104 : decode c_MD_fits 104 = .ok (.imul, 1) := by decide +kernel
theorem d_MD_fits_105 : decode c_MD_fits 105 = .ok (.iaload, 1) := by decide +kernel
theorem d_MD_fits_106 : decode c_MD_fits 106 = .ok (.if_icmp .gt 49, 3) := by decide +kernel
theorem d_MD_fits_109 : decode c_MD_fits 109 = .ok (.iload 8, 2) := by decide +kernel
theorem d_MD_fits_111 : decode c_MD_fits 111 = .ok (.aload_n 0, 1) := by decide +kernel
theorem d_MD_fits_112 : decode c_MD_fits 112 = .ok (.getfield 7, 3) := by decide +kernel
theorem d_MD_fits_115 : decode c_MD_fits 115 = .ok (.iconst 5, 1) := by decide +kernel
theorem d_MD_fits_116 : decode c_MD_fits 116 = .ok (.iload_n 2, 1) := by decide +kernel
theorem d_MD_fits_117 : decode c_MD_fits 117 = .ok (.imul, 1) := by decide +kernel
theorem d_MD_fits_118 : decode c_MD_fits 118 = .ok (.iconst 1, 1) := by decide +kernel
theorem d_MD_fits_119 : decode c_MD_fits 119 = .ok (.iadd, 1) := by decide +kernel
theorem d_MD_fits_120 : decode c_MD_fits 120 = .ok (.iaload, 1) := by decide +kernel
theorem d_MD_fits_121 : decode c_MD_fits 121 = .ok (.if_icmp .gt 34, 3) := by decide +kernel
theorem d_MD_fits_124 : decode c_MD_fits 124 = .ok (.iload 4, 2) := by decide +kernel
theorem d_MD_fits_126 : decode c_MD_fits 126 = .ok (.iload 5, 2) := by decide +kernel
theorem d_MD_fits_128 : decode c_MD_fits 128 = .ok (.iadd, 1) := by decide +kernel
theorem d_MD_fits_129 : decode c_MD_fits 129 = .ok (.iload 6, 2) := by decide +kernel
theorem d_MD_fits_131 : decode c_MD_fits 131 = .ok (.iadd, 1) := by decide +kernel
theorem d_MD_fits_132 : decode c_MD_fits 132 = .ok (.iload 7, 2) := by decide +kernel
theorem d_MD_fits_134 : decode c_MD_fits 134 = .ok (.isub, 1) := by decide +kernel
theorem d_MD_fits_135 : decode c_MD_fits 135 = .ok (.iload 8, 2) := by decide +kernel
theorem d_MD_fits_137 : decode c_MD_fits 137 = .ok (.isub, 1) := by decide +kernel
theorem d_MD_fits_138 : decode c_MD_fits 138 = .ok (.aload_n 0, 1) := by decide +kernel
theorem d_MD_fits_139 : decode c_MD_fits 139 = .ok (.getfield 7, 3) := by decide +kernel
theorem d_MD_fits_142 : decode c_MD_fits 142 = .ok (.iconst 5, 1) := by decide +kernel
theorem d_MD_fits_143 : decode c_MD_fits 143 = .ok (.iload_n 2, 1) := by decide +kernel
theorem d_MD_fits_144 : decode c_MD_fits 144 = .ok (.imul, 1) := by decide +kernel
theorem d_MD_fits_145 : decode c_MD_fits 145 = .ok (.iconst 2, 1) := by decide +kernel
theorem d_MD_fits_146 : decode c_MD_fits 146 = .ok (.iadd, 1) := by decide +kernel
theorem d_MD_fits_147 : decode c_MD_fits 147 = .ok (.iaload, 1) := by decide +kernel
theorem d_MD_fits_148 : decode c_MD_fits 148 = .ok (.if_icmp .gt 7, 3) := by decide +kernel
theorem d_MD_fits_151 : decode c_MD_fits 151 = .ok (.iconst 1, 1) := by decide +kernel
theorem d_MD_fits_152 : decode c_MD_fits 152 = .ok (.goto 4, 3) := by decide +kernel
theorem d_MD_fits_155 : decode c_MD_fits 155 = .ok (.iconst 0, 1) := by decide +kernel
theorem d_MD_fits_156 : decode c_MD_fits 156 = .ok (.ireturn, 1) := by decide +kernel
theorem d_MD_span_0 : decode c_MD_span 0 = .ok (.aload_n 0, 1) := by decide +kernel
theorem d_MD_span_1 : decode c_MD_span 1 = .ok (.getfield 13, 3) := by decide +kernel
theorem d_MD_span_4 : decode c_MD_span 4 = .ok (.bipush 10, 2) := by decide +kernel
theorem d_MD_span_6 : decode c_MD_span 6 = .ok (.iload_n 1, 1) := by decide +kernel
theorem d_MD_span_7 : decode c_MD_span 7 = .ok (.imul, 1) := by decide +kernel
theorem d_MD_span_8 : decode c_MD_span 8 = .ok (.bipush 9, 2) := by decide +kernel
theorem d_MD_span_10 : decode c_MD_span 10 = .ok (.iadd, 1) := by decide +kernel
theorem d_MD_span_11 : decode c_MD_span 11 = .ok (.iaload, 1) := by decide +kernel
theorem d_MD_span_12 : decode c_MD_span 12 = .ok (.istore_n 3, 1) := by decide +kernel
theorem d_MD_span_13 : decode c_MD_span 13 = .ok (.iload_n 3, 1) := by decide +kernel
theorem d_MD_span_14 : decode c_MD_span 14 = .ok (.istore 4, 2) := by decide +kernel
theorem d_MD_span_16 : decode c_MD_span 16 = .ok (.iconst 0, 1) := by decide +kernel
theorem d_MD_span_17 : decode c_MD_span 17 = .ok (.istore 5, 2) := by decide +kernel
theorem d_MD_span_19 : decode c_MD_span 19 = .ok (.iload 5, 2) := by decide +kernel
theorem d_MD_span_21 : decode c_MD_span 21 = .ok (.aload_n 0, 1) := by decide +kernel
theorem d_MD_span_22 : decode c_MD_span 22 = .ok (.getfield 83, 3) := by decide +kernel
theorem d_MD_span_25 : decode c_MD_span 25 = .ok (.if_icmp .ge 73, 3) := by decide +kernel
theorem d_MD_span_28 : decode c_MD_span 28 = .ok (.aload_n 0, 1) := by decide +kernel
theorem d_MD_span_29 : decode c_MD_span 29 = .ok (.getfield 13, 3) := by decide +kernel
theorem d_MD_span_32 : decode c_MD_span 32 = .ok (.bipush 10, 2) := by decide +kernel
theorem d_MD_span_34 : decode c_MD_span 34 = .ok (.iload 5, 2) := by decide +kernel
theorem d_MD_span_36 : decode c_MD_span 36 = .ok (.imul, 1) := by decide +kernel
theorem d_MD_span_37 : decode c_MD_span 37 = .ok (.bipush 9, 2) := by decide +kernel
theorem d_MD_span_39 : decode c_MD_span 39 = .ok (.iadd, 1) := by decide +kernel
theorem d_MD_span_40 : decode c_MD_span 40 = .ok (.iaload, 1) := by decide +kernel
theorem d_MD_span_41 : decode c_MD_span 41 = .ok (.istore 6, 2) := by decide +kernel
theorem d_MD_span_43 : decode c_MD_span 43 = .ok (.aload_n 0, 1) := by decide +kernel
theorem d_MD_span_44 : decode c_MD_span 44 = .ok (.iload 5, 2) := by decide +kernel
theorem d_MD_span_46 : decode c_MD_span 46 = .ok (.iload_n 1, 1) := by decide +kernel
theorem d_MD_span_47 : decode c_MD_span 47 = .ok (.iload_n 2, 1) := by decide +kernel
theorem d_MD_span_48 : decode c_MD_span 48 = .ok (.invokevirtual 159, 3) := by decide +kernel
theorem d_MD_span_51 : decode c_MD_span 51 = .ok (.istore 7, 2) := by decide +kernel
theorem d_MD_span_53 : decode c_MD_span 53 = .ok (.iload 7, 2) := by decide +kernel
theorem d_MD_span_55 : decode c_MD_span 55 = .ok (.ifCond .eq 14, 3) := by decide +kernel
theorem d_MD_span_58 : decode c_MD_span 58 = .ok (.iload 6, 2) := by decide +kernel
theorem d_MD_span_60 : decode c_MD_span 60 = .ok (.iload_n 3, 1) := by decide +kernel
theorem d_MD_span_61 : decode c_MD_span 61 = .ok (.if_icmp .ge 8, 3) := by decide +kernel
theorem d_MD_span_64 : decode c_MD_span 64 = .ok (.iload 6, 2) := by decide +kernel
theorem d_MD_span_66 : decode c_MD_span 66 = .ok (.goto 4, 3) := by decide +kernel
theorem d_MD_span_69 : decode c_MD_span 69 = .ok (.iload_n 3, 1) := by decide +kernel
theorem d_MD_span_70 : decode c_MD_span 70 = .ok (.istore_n 3, 1) := by decide +kernel
theorem d_MD_span_71 : decode c_MD_span 71 = .ok (.iload 7, 2) := by decide +kernel
theorem d_MD_span_73 : decode c_MD_span 73 = .ok (.ifCond .eq 15, 3) := by decide +kernel
theorem d_MD_span_76 : decode c_MD_span 76 = .ok (.iload 6, 2) := by decide +kernel
theorem d_MD_span_78 : decode c_MD_span 78 = .ok (.iload 4, 2) := by decide +kernel
theorem d_MD_span_80 : decode c_MD_span 80 = .ok (.if_icmp .le 8, 3) := by decide +kernel
theorem d_MD_span_83 : decode c_MD_span 83 = .ok (.iload 6, 2) := by decide +kernel
theorem d_MD_span_85 : decode c_MD_span 85 = .ok (.goto 5, 3) := by decide +kernel
theorem d_MD_span_88 : decode c_MD_span 88 = .ok (.iload 4, 2) := by decide +kernel
theorem d_MD_span_90 : decode c_MD_span 90 = .ok (.istore 4, 2) := by decide +kernel
theorem d_MD_span_92 : decode c_MD_span 92 = .ok (.iinc 5 1, 3) := by decide +kernel
theorem d_MD_span_95 : decode c_MD_span 95 = .ok (.goto (-76), 3) := by decide +kernel
theorem d_MD_span_98 : decode c_MD_span 98 = .ok (.iload 4, 2) := by decide +kernel
theorem d_MD_span_100 : decode c_MD_span 100 = .ok (.iload_n 3, 1) := by decide +kernel
theorem d_MD_span_101 : decode c_MD_span 101 = .ok (.isub, 1) := by decide +kernel
theorem d_MD_span_102 : decode c_MD_span 102 = .ok (.ireturn, 1) := by decide +kernel
theorem d_MD_many_0 : decode c_MD_many 0 = .ok (.iconst 0, 1) := by decide +kernel
theorem d_MD_many_1 : decode c_MD_many 1 = .ok (.istore_n 3, 1) := by decide +kernel
theorem d_MD_many_2 : decode c_MD_many 2 = .ok (.iconst 0, 1) := by decide +kernel
theorem d_MD_many_3 : decode c_MD_many 3 = .ok (.istore 4, 2) := by decide +kernel
theorem d_MD_many_5 : decode c_MD_many 5 = .ok (.iload 4, 2) := by decide +kernel
theorem d_MD_many_7 : decode c_MD_many 7 = .ok (.aload_n 0, 1) := by decide +kernel
theorem d_MD_many_8 : decode c_MD_many 8 = .ok (.getfield 83, 3) := by decide +kernel
theorem d_MD_many_11 : decode c_MD_many 11 = .ok (.if_icmp .ge 28, 3) := by decide +kernel
theorem d_MD_many_14 : decode c_MD_many 14 = .ok (.iload_n 3, 1) := by decide +kernel
theorem d_MD_many_15 : decode c_MD_many 15 = .ok (.aload_n 0, 1) := by decide +kernel
theorem d_MD_many_16 : decode c_MD_many 16 = .ok (.iload 4, 2) := by decide +kernel
theorem d_MD_many_18 : decode c_MD_many 18 = .ok (.iload_n 1, 1) := by decide +kernel
theorem d_MD_many_19 : decode c_MD_many 19 = .ok (.iload_n 2, 1) := by decide +kernel
theorem d_MD_many_20 : decode c_MD_many 20 = .ok (.invokevirtual 159, 3) := by decide +kernel
theorem d_MD_many_23 : decode c_MD_many 23 = .ok (.ifCond .eq 7, 3) := by decide +kernel
theorem d_MD_many_26 : decode c_MD_many 26 = .ok (.iconst 1, 1) := by decide +kernel
theorem d_MD_many_27 : decode c_MD_many 27 = .ok (.goto 4, 3) := by decide +kernel
theorem d_MD_many_30 : decode c_MD_many 30 = .ok (.iconst 0, 1) := by decide +kernel
theorem d_MD_many_31 : decode c_MD_many 31 = .ok (.iadd, 1) := by decide +kernel
theorem d_MD_many_32 : decode c_MD_many 32 = .ok (.istore_n 3, 1) := by decide +kernel
theorem d_MD_many_33 : decode c_MD_many 33 = .ok (.iinc 4 1, 3) := by decide +kernel
theorem d_MD_many_36 : decode c_MD_many 36 = .ok (.goto (-31), 3) := by decide +kernel
theorem d_MD_many_39 : decode c_MD_many 39 = .ok (.iload_n 3, 1) := by decide +kernel
theorem d_MD_many_40 : decode c_MD_many 40 = .ok (.ireturn, 1) := by decide +kernel
theorem d_MD_isSized_0 : decode c_MD_isSized 0 = .ok (.aload_n 0, 1) := by decide +kernel
theorem d_MD_isSized_1 : decode c_MD_isSized 1 = .ok (.iload_n 1, 1) := by decide +kernel
theorem d_MD_isSized_2 : decode c_MD_isSized 2 = .ok (.iload_n 2, 1) := by decide +kernel
theorem d_MD_isSized_3 : decode c_MD_isSized 3 = .ok (.iconst 0, 1) := by decide +kernel
theorem d_MD_isSized_4 : decode c_MD_isSized 4 = .ok (.invokevirtual 162, 3) := by decide +kernel
theorem d_MD_isSized_7 : decode c_MD_isSized 7 = .ok (.ifCond .ne 13, 3) := by decide +kernel
theorem d_MD_isSized_10 : decode c_MD_isSized 10 = .ok (.aload_n 0, 1) := by decide +kernel
theorem d_MD_isSized_11 : decode c_MD_isSized 11 = .ok (.iload_n 1, 1) := by decide +kernel
theorem d_MD_isSized_12 : decode c_MD_isSized 12 = .ok (.iload_n 2, 1) := by decide +kernel
theorem d_MD_isSized_13 : decode c_MD_isSized 13 = .ok (.iconst 2, 1) := by decide +kernel
theorem d_MD_isSized_14 : decode c_MD_isSized 14 = .ok (.invokevirtual 162, 3) := by decide +kernel
theorem d_MD_isSized_17 : decode c_MD_isSized 17 = .ok (.ifCond .eq 7, 3) := by decide +kernel
theorem d_MD_isSized_20 : decode c_MD_isSized 20 = .ok (.iconst 1, 1) := by decide +kernel
theorem d_MD_isSized_21 : decode c_MD_isSized 21 = .ok (.goto 4, 3) := by decide +kernel
theorem d_MD_isSized_24 : decode c_MD_isSized 24 = .ok (.iconst 0, 1) := by decide +kernel
theorem d_MD_isSized_25 : decode c_MD_isSized 25 = .ok (.istore 4, 2) := by decide +kernel
theorem d_MD_isSized_27 : decode c_MD_isSized 27 = .ok (.iconst 0, 1) := by decide +kernel
theorem d_MD_isSized_28 : decode c_MD_isSized 28 = .ok (.istore 5, 2) := by decide +kernel
theorem d_MD_isSized_30 : decode c_MD_isSized 30 = .ok (.iload 5, 2) := by decide +kernel
theorem d_MD_isSized_32 : decode c_MD_isSized 32 = .ok (.bipush 6, 2) := by decide +kernel
theorem d_MD_isSized_34 : decode c_MD_isSized 34 = .ok (.if_icmp .ge 37, 3) := by decide +kernel
theorem d_MD_isSized_37 : decode c_MD_isSized 37 = .ok (.iload_n 3, 1) := by decide +kernel
theorem d_MD_isSized_38 : decode c_MD_isSized 38 = .ok (.iconst 1, 1) := by decide +kernel
theorem d_MD_isSized_39 : decode c_MD_isSized 39 = .ok (.if_icmp .ne 32, 3) := by decide +kernel
theorem d_MD_isSized_42 : decode c_MD_isSized 42 = .ok (.iload 4, 2) := by decide +kernel
theorem d_MD_isSized_44 : decode c_MD_isSized 44 = .ok (.ifCond .ne 14, 3) := by decide +kernel
theorem d_MD_isSized_47 : decode c_MD_isSized 47 = .ok (.aload_n 0, 1) := by decide +kernel
theorem d_MD_isSized_48 : decode c_MD_isSized 48 = .ok (.iload_n 1, 1) := by decide +kernel
theorem d_MD_isSized_49 : decode c_MD_isSized 49 = .ok (.iload_n 2, 1) := by decide +kernel
theorem d_MD_isSized_50 : decode c_MD_isSized 50 = .ok (.iload 5, 2) := by decide +kernel
theorem d_MD_isSized_52 : decode c_MD_isSized 52 = .ok (.invokevirtual 162, 3) := by decide +kernel
theorem d_MD_isSized_55 : decode c_MD_isSized 55 = .ok (.ifCond .eq 7, 3) := by decide +kernel
theorem d_MD_isSized_58 : decode c_MD_isSized 58 = .ok (.iconst 1, 1) := by decide +kernel
theorem d_MD_isSized_59 : decode c_MD_isSized 59 = .ok (.goto 4, 3) := by decide +kernel
theorem d_MD_isSized_62 : decode c_MD_isSized 62 = .ok (.iconst 0, 1) := by decide +kernel
theorem d_MD_isSized_63 : decode c_MD_isSized 63 = .ok (.istore 4, 2) := by decide +kernel
theorem d_MD_isSized_65 : decode c_MD_isSized 65 = .ok (.iinc 5 1, 3) := by decide +kernel
theorem d_MD_isSized_68 : decode c_MD_isSized 68 = .ok (.goto (-38), 3) := by decide +kernel
theorem d_MD_isSized_71 : decode c_MD_isSized 71 = .ok (.iload 4, 2) := by decide +kernel
theorem d_MD_isSized_73 : decode c_MD_isSized 73 = .ok (.ireturn, 1) := by decide +kernel
theorem d_MD_ownRefuses_0 : decode c_MD_ownRefuses 0 = .ok (.aload_n 0, 1) := by decide +kernel
theorem d_MD_ownRefuses_1 : decode c_MD_ownRefuses 1 = .ok (.dup, 1) := by decide +kernel
theorem d_MD_ownRefuses_2 : decode c_MD_ownRefuses 2 = .ok (.getfield 165, 3) := by decide +kernel
theorem d_MD_ownRefuses_5 : decode c_MD_ownRefuses 5 = .ok (.aload_n 0, 1) := by decide +kernel
theorem d_MD_ownRefuses_6 : decode c_MD_ownRefuses 6 = .ok (.getfield 47, 3) := by decide +kernel
theorem d_MD_ownRefuses_9 : decode c_MD_ownRefuses 9 = .ok (.iload_n 1, 1) := by decide +kernel
theorem d_MD_ownRefuses_10 : decode c_MD_ownRefuses 10 = .ok (.iaload, 1) := by decide +kernel
theorem d_MD_ownRefuses_11 : decode c_MD_ownRefuses 11 = .ok (.iconst 3, 1) := by decide +kernel
theorem d_MD_ownRefuses_12 : decode c_MD_ownRefuses 12 = .ok (.if_icmp .ne 7, 3) := by decide +kernel
theorem d_MD_ownRefuses_15 : decode c_MD_ownRefuses 15 = .ok (.iconst 1, 1) := by decide +kernel
theorem d_MD_ownRefuses_16 : decode c_MD_ownRefuses 16 = .ok (.goto 4, 3) := by decide +kernel
theorem d_MD_ownRefuses_19 : decode c_MD_ownRefuses 19 = .ok (.iconst 0, 1) := by decide +kernel
theorem d_MD_ownRefuses_20 : decode c_MD_ownRefuses 20 = .ok (.iadd, 1) := by decide +kernel
theorem d_MD_ownRefuses_21 : decode c_MD_ownRefuses 21 = .ok (.putfield 165, 3) := by decide +kernel
theorem d_MD_ownRefuses_24 : decode c_MD_ownRefuses 24 = .ok (.aload_n 0, 1) := by decide +kernel
theorem d_MD_ownRefuses_25 : decode c_MD_ownRefuses 25 = .ok (.getfield 47, 3) := by decide +kernel
theorem d_MD_ownRefuses_28 : decode c_MD_ownRefuses 28 = .ok (.iload_n 1, 1) := by decide +kernel
theorem d_MD_ownRefuses_29 : decode c_MD_ownRefuses 29 = .ok (.iaload, 1) := by decide +kernel
theorem d_MD_ownRefuses_30 : decode c_MD_ownRefuses 30 = .ok (.iconst 1, 1) := by decide +kernel
theorem d_MD_ownRefuses_31 : decode c_MD_ownRefuses 31 = .ok (.if_icmp .eq 44, 3) := by decide +kernel
theorem d_MD_ownRefuses_34 : decode c_MD_ownRefuses 34 = .ok (.aload_n 0, 1) := by decide +kernel
theorem d_MD_ownRefuses_35 : decode c_MD_ownRefuses 35 = .ok (.getfield 47, 3) := by decide +kernel
theorem d_MD_ownRefuses_38 : decode c_MD_ownRefuses 38 = .ok (.iload_n 1, 1) := by decide +kernel
theorem d_MD_ownRefuses_39 : decode c_MD_ownRefuses 39 = .ok (.iaload, 1) := by decide +kernel
theorem d_MD_ownRefuses_40 : decode c_MD_ownRefuses 40 = .ok (.iconst 3, 1) := by decide +kernel
theorem d_MD_ownRefuses_41 : decode c_MD_ownRefuses 41 = .ok (.if_icmp .eq 34, 3) := by decide +kernel
theorem d_MD_ownRefuses_44 : decode c_MD_ownRefuses 44 = .ok (.aload_n 0, 1) := by decide +kernel
theorem d_MD_ownRefuses_45 : decode c_MD_ownRefuses 45 = .ok (.getfield 47, 3) := by decide +kernel
theorem d_MD_ownRefuses_48 : decode c_MD_ownRefuses 48 = .ok (.iload_n 1, 1) := by decide +kernel
theorem d_MD_ownRefuses_49 : decode c_MD_ownRefuses 49 = .ok (.iaload, 1) := by decide +kernel
theorem d_MD_ownRefuses_50 : decode c_MD_ownRefuses 50 = .ok (.iconst 2, 1) := by decide +kernel
theorem d_MD_ownRefuses_51 : decode c_MD_ownRefuses 51 = .ok (.if_icmp .ne 28, 3) := by decide +kernel
theorem d_MD_ownRefuses_54 : decode c_MD_ownRefuses 54 = .ok (.aload_n 0, 1) := by decide +kernel
theorem d_MD_ownRefuses_55 : decode c_MD_ownRefuses 55 = .ok (.getfield 13, 3) := by decide +kernel
theorem d_MD_ownRefuses_58 : decode c_MD_ownRefuses 58 = .ok (.bipush 10, 2) := by decide +kernel
theorem d_MD_ownRefuses_60 : decode c_MD_ownRefuses 60 = .ok (.iload_n 2, 1) := by decide +kernel
theorem d_MD_ownRefuses_61 : decode c_MD_ownRefuses 61 = .ok (.imul, 1) := by decide +kernel
theorem d_MD_ownRefuses_62 : decode c_MD_ownRefuses 62 = .ok (.bipush 6, 2) := by decide +kernel
theorem d_MD_ownRefuses_64 : decode c_MD_ownRefuses 64 = .ok (.iadd, 1) := by decide +kernel
theorem d_MD_ownRefuses_65 : decode c_MD_ownRefuses 65 = .ok (.iaload, 1) := by decide +kernel
theorem d_MD_ownRefuses_66 : decode c_MD_ownRefuses 66 = .ok (.aload_n 0, 1) := by decide +kernel
theorem d_MD_ownRefuses_67 : decode c_MD_ownRefuses 67 = .ok (.iload_n 2, 1) := by decide +kernel
theorem d_MD_ownRefuses_68 : decode c_MD_ownRefuses 68 = .ok (.iload_n 3, 1) := by decide +kernel
theorem d_MD_ownRefuses_69 : decode c_MD_ownRefuses 69 = .ok (.invokevirtual 168, 3) := by decide +kernel
theorem d_MD_ownRefuses_72 : decode c_MD_ownRefuses 72 = .ok (.if_icmp .le 7, 3) := by decide +kernel
theorem d_MD_ownRefuses_75 : decode c_MD_ownRefuses 75 = .ok (.iconst 1, 1) := by decide +kernel
theorem d_MD_ownRefuses_76 : decode c_MD_ownRefuses 76 = .ok (.goto 4, 3) := by decide +kernel
theorem d_MD_ownRefuses_79 : decode c_MD_ownRefuses 79 = .ok (.iconst 0, 1) := by decide +kernel
theorem d_MD_ownRefuses_80 : decode c_MD_ownRefuses 80 = .ok (.ireturn, 1) := by decide +kernel
theorem d_MD_refuses_0 : decode c_MD_refuses 0 = .ok (.aload_n 0, 1) := by decide +kernel
theorem d_MD_refuses_1 : decode c_MD_refuses 1 = .ok (.getfield 25, 3) := by decide +kernel
theorem d_MD_refuses_4 : decode c_MD_refuses 4 = .ok (.iload_n 1, 1) := by decide +kernel
theorem d_MD_refuses_5 : decode c_MD_refuses 5 = .ok (.iaload, 1) := by decide +kernel
theorem d_MD_refuses_6 : decode c_MD_refuses 6 = .ok (.istore 5, 2) := by decide +kernel
theorem d_MD_refuses_8 : decode c_MD_refuses 8 = .ok (.aload_n 0, 1) := by decide +kernel
theorem d_MD_refuses_9 : decode c_MD_refuses 9 = .ok (.getfield 28, 3) := by decide +kernel
theorem d_MD_refuses_12 : decode c_MD_refuses 12 = .ok (.iload_n 1, 1) := by decide +kernel
theorem d_MD_refuses_13 : decode c_MD_refuses 13 = .ok (.iaload, 1) := by decide +kernel
theorem d_MD_refuses_14 : decode c_MD_refuses 14 = .ok (.istore 6, 2) := by decide +kernel
theorem d_MD_refuses_16 : decode c_MD_refuses 16 = .ok (.aload_n 0, 1) := by decide +kernel
theorem d_MD_refuses_17 : decode c_MD_refuses 17 = .ok (.getfield 22, 3) := by decide +kernel
theorem d_MD_refuses_20 : decode c_MD_refuses 20 = .ok (.iload_n 1, 1) := by decide +kernel
theorem d_MD_refuses_21 : decode c_MD_refuses 21 = .ok (.iaload, 1) := by decide +kernel
theorem d_MD_refuses_22 : decode c_MD_refuses 22 = .ok (.tableswitch 291 0 9 #[54, 71, 112, 112, 112, 137, 193, 231, 248, 265], 54) := by decide +kernel
theorem d_MD_refuses_76 : decode c_MD_refuses 76 = .ok (.aload_n 0, 1) := by decide +kernel
theorem d_MD_refuses_77 : decode c_MD_refuses 77 = .ok (.iload_n 2, 1) := by decide +kernel
theorem d_MD_refuses_78 : decode c_MD_refuses 78 = .ok (.iload_n 3, 1) := by decide +kernel
theorem d_MD_refuses_79 : decode c_MD_refuses 79 = .ok (.iload 5, 2) := by decide +kernel
theorem d_MD_refuses_81 : decode c_MD_refuses 81 = .ok (.invokevirtual 171, 3) := by decide +kernel
theorem d_MD_refuses_84 : decode c_MD_refuses 84 = .ok (.ifCond .ne 7, 3) := by decide +kernel
theorem d_MD_refuses_87 : decode c_MD_refuses 87 = .ok (.iconst 1, 1) := by decide +kernel
theorem d_MD_refuses_88 : decode c_MD_refuses 88 = .ok (.goto 4, 3) := by decide +kernel
theorem d_MD_refuses_91 : decode c_MD_refuses 91 = .ok (.iconst 0, 1) := by decide +kernel
theorem d_MD_refuses_92 : decode c_MD_refuses 92 = .ok (.ireturn, 1) := by decide +kernel
theorem d_MD_refuses_93 : decode c_MD_refuses 93 = .ok (.aload_n 0, 1) := by decide +kernel
theorem d_MD_refuses_94 : decode c_MD_refuses 94 = .ok (.getfield 13, 3) := by decide +kernel
theorem d_MD_refuses_97 : decode c_MD_refuses 97 = .ok (.bipush 10, 2) := by decide +kernel
theorem d_MD_refuses_99 : decode c_MD_refuses 99 = .ok (.iload_n 2, 1) := by decide +kernel
theorem d_MD_refuses_100 : decode c_MD_refuses 100 = .ok (.imul, 1) := by decide +kernel
theorem d_MD_refuses_101 : decode c_MD_refuses 101 = .ok (.bipush 6, 2) := by decide +kernel
theorem d_MD_refuses_103 : decode c_MD_refuses 103 = .ok (.iadd, 1) := by decide +kernel
theorem d_MD_refuses_104 : decode c_MD_refuses 104 = .ok (.iaload, 1) := by decide +kernel
theorem d_MD_refuses_105 : decode c_MD_refuses 105 = .ok (.aload_n 0, 1) := by decide +kernel
theorem d_MD_refuses_106 : decode c_MD_refuses 106 = .ok (.iload_n 2, 1) := by decide +kernel
theorem d_MD_refuses_107 : decode c_MD_refuses 107 = .ok (.iload_n 3, 1) := by decide +kernel
theorem d_MD_refuses_108 : decode c_MD_refuses 108 = .ok (.invokevirtual 168, 3) := by decide +kernel
theorem d_MD_refuses_111 : decode c_MD_refuses 111 = .ok (.iadd, 1) := by decide +kernel
theorem d_MD_refuses_112 : decode c_MD_refuses 112 = .ok (.aload_n 0, 1) := by decide +kernel
theorem d_MD_refuses_113 : decode c_MD_refuses 113 = .ok (.getfield 7, 3) := by decide +kernel
theorem d_MD_refuses_116 : decode c_MD_refuses 116 = .ok (.iconst 5, 1) := by decide +kernel
theorem d_MD_refuses_117 : decode c_MD_refuses 117 = .ok (.iload_n 3, 1) := by decide +kernel
theorem d_MD_refuses_118 : decode c_MD_refuses 118 = .ok (.imul, 1) := by decide +kernel
theorem d_MD_refuses_119 : decode c_MD_refuses 119 = .ok (.iconst 3, 1) := by decide +kernel
theorem d_MD_refuses_120 : decode c_MD_refuses 120 = .ok (.iadd, 1) := by decide +kernel
theorem d_MD_refuses_121 : decode c_MD_refuses 121 = .ok (.iaload, 1) := by decide +kernel
theorem d_MD_refuses_122 : decode c_MD_refuses 122 = .ok (.iload 5, 2) := by decide +kernel
theorem d_MD_refuses_124 : decode c_MD_refuses 124 = .ok (.isub, 1) := by decide +kernel
theorem d_MD_refuses_125 : decode c_MD_refuses 125 = .ok (.if_icmp .le 7, 3) := by decide +kernel
theorem d_MD_refuses_128 : decode c_MD_refuses 128 = .ok (.iconst 1, 1) := by decide +kernel
theorem d_MD_refuses_129 : decode c_MD_refuses 129 = .ok (.goto 4, 3) := by decide +kernel
theorem d_MD_refuses_132 : decode c_MD_refuses 132 = .ok (.iconst 0, 1) := by decide +kernel
theorem d_MD_refuses_133 : decode c_MD_refuses 133 = .ok (.ireturn, 1) := by decide +kernel
theorem d_MD_refuses_134 : decode c_MD_refuses 134 = .ok (.aload_n 0, 1) := by decide +kernel
theorem d_MD_refuses_135 : decode c_MD_refuses 135 = .ok (.iload_n 2, 1) := by decide +kernel
theorem d_MD_refuses_136 : decode c_MD_refuses 136 = .ok (.iload_n 3, 1) := by decide +kernel
theorem d_MD_refuses_137 : decode c_MD_refuses 137 = .ok (.aload_n 0, 1) := by decide +kernel
theorem d_MD_refuses_138 : decode c_MD_refuses 138 = .ok (.getfield 22, 3) := by decide +kernel
theorem d_MD_refuses_141 : decode c_MD_refuses 141 = .ok (.iload_n 1, 1) := by decide +kernel
theorem d_MD_refuses_142 : decode c_MD_refuses 142 = .ok (.iaload, 1) := by decide +kernel
theorem d_MD_refuses_143 : decode c_MD_refuses 143 = .ok (.iconst 2, 1) := by decide +kernel
theorem d_MD_refuses_144 : decode c_MD_refuses 144 = .ok (.isub, 1) := by decide +kernel
theorem d_MD_refuses_145 : decode c_MD_refuses 145 = .ok (.invokevirtual 174, 3) := by decide +kernel
theorem d_MD_refuses_148 : decode c_MD_refuses 148 = .ok (.iload 5, 2) := by decide +kernel
theorem d_MD_refuses_150 : decode c_MD_refuses 150 = .ok (.if_icmp .le 7, 3) := by decide +kernel
theorem d_MD_refuses_153 : decode c_MD_refuses 153 = .ok (.iconst 1, 1) := by decide +kernel
theorem d_MD_refuses_154 : decode c_MD_refuses 154 = .ok (.goto 4, 3) := by decide +kernel
theorem d_MD_refuses_157 : decode c_MD_refuses 157 = .ok (.iconst 0, 1) := by decide +kernel
theorem d_MD_refuses_158 : decode c_MD_refuses 158 = .ok (.ireturn, 1) := by decide +kernel
theorem d_MD_refuses_159 : decode c_MD_refuses 159 = .ok (.aload_n 0, 1) := by decide +kernel
theorem d_MD_refuses_160 : decode c_MD_refuses 160 = .ok (.getfield 13, 3) := by decide +kernel
theorem d_MD_refuses_163 : decode c_MD_refuses 163 = .ok (.bipush 10, 2) := by decide +kernel
theorem d_MD_refuses_165 : decode c_MD_refuses 165 = .ok (.iload_n 2, 1) := by decide +kernel
theorem d_MD_refuses_166 : decode c_MD_refuses 166 = .ok (.imul, 1) := by decide +kernel
theorem d_MD_refuses_167 : decode c_MD_refuses 167 = .ok (.bipush 7, 2) := by decide +kernel
theorem d_MD_refuses_169 : decode c_MD_refuses 169 = .ok (.iadd, 1) := by decide +kernel
theorem d_MD_refuses_170 : decode c_MD_refuses 170 = .ok (.iaload, 1) := by decide +kernel
theorem d_MD_refuses_171 : decode c_MD_refuses 171 = .ok (.istore 7, 2) := by decide +kernel
theorem d_MD_refuses_173 : decode c_MD_refuses 173 = .ok (.iload 7, 2) := by decide +kernel
theorem d_MD_refuses_175 : decode c_MD_refuses 175 = .ok (.iload 5, 2) := by decide +kernel
theorem d_MD_refuses_177 : decode c_MD_refuses 177 = .ok (.if_icmp .ne 14, 3) := by decide +kernel
theorem d_MD_refuses_180 : decode c_MD_refuses 180 = .ok (.aload_n 0, 1) := by decide +kernel
theorem d_MD_refuses_181 : decode c_MD_refuses 181 = .ok (.iload_n 2, 1) := by decide +kernel
theorem d_MD_refuses_182 : decode c_MD_refuses 182 = .ok (.iload_n 3, 1) := by decide +kernel
theorem d_MD_refuses_183 : decode c_MD_refuses 183 = .ok (.iload 6, 2) := by decide +kernel
theorem d_MD_refuses_185 : decode c_MD_refuses 185 = .ok (.invokevirtual 178, 3) := by decide +kernel
theorem d_MD_refuses_188 : decode c_MD_refuses 188 = .ok (.ifCond .ne 21, 3) := by decide +kernel
theorem d_MD_refuses_191 : decode c_MD_refuses 191 = .ok (.iload 7, 2) := by decide +kernel
theorem d_MD_refuses_193 : decode c_MD_refuses 193 = .ok (.iload 6, 2) := by decide +kernel
theorem d_MD_refuses_195 : decode c_MD_refuses 195 = .ok (.if_icmp .ne 18, 3) := by decide +kernel
theorem d_MD_refuses_198 : decode c_MD_refuses 198 = .ok (.aload_n 0, 1) := by decide +kernel
theorem d_MD_refuses_199 : decode c_MD_refuses 199 = .ok (.iload_n 2, 1) := by decide +kernel
theorem d_MD_refuses_200 : decode c_MD_refuses 200 = .ok (.iload_n 3, 1) := by decide +kernel
theorem d_MD_refuses_201 : decode c_MD_refuses 201 = .ok (.iload 5, 2) := by decide +kernel
theorem d_MD_refuses_203 : decode c_MD_refuses 203 = .ok (.invokevirtual 178, 3) := by decide +kernel
theorem d_MD_refuses_206 : decode c_MD_refuses 206 = .ok (.ifCond .eq 7, 3) := by decide +kernel
theorem d_MD_refuses_209 : decode c_MD_refuses 209 = .ok (.iconst 1, 1) := by decide +kernel
theorem d_MD_refuses_210 : decode c_MD_refuses 210 = .ok (.goto 4, 3) := by decide +kernel
theorem d_MD_refuses_213 : decode c_MD_refuses 213 = .ok (.iconst 0, 1) := by decide +kernel
theorem d_MD_refuses_214 : decode c_MD_refuses 214 = .ok (.ireturn, 1) := by decide +kernel
theorem d_MD_refuses_215 : decode c_MD_refuses 215 = .ok (.aload_n 0, 1) := by decide +kernel
theorem d_MD_refuses_216 : decode c_MD_refuses 216 = .ok (.getfield 13, 3) := by decide +kernel
theorem d_MD_refuses_219 : decode c_MD_refuses 219 = .ok (.bipush 10, 2) := by decide +kernel
theorem d_MD_refuses_221 : decode c_MD_refuses 221 = .ok (.iload_n 2, 1) := by decide +kernel
theorem d_MD_refuses_222 : decode c_MD_refuses 222 = .ok (.imul, 1) := by decide +kernel
theorem d_MD_refuses_223 : decode c_MD_refuses 223 = .ok (.bipush 8, 2) := by decide +kernel
theorem d_MD_refuses_225 : decode c_MD_refuses 225 = .ok (.iadd, 1) := by decide +kernel
theorem d_MD_refuses_226 : decode c_MD_refuses 226 = .ok (.iaload, 1) := by decide +kernel
theorem d_MD_refuses_227 : decode c_MD_refuses 227 = .ok (.iload 5, 2) := by decide +kernel
theorem d_MD_refuses_229 : decode c_MD_refuses 229 = .ok (.if_icmp .ne 22, 3) := by decide +kernel
theorem d_MD_refuses_232 : decode c_MD_refuses 232 = .ok (.aload_n 0, 1) := by decide +kernel
theorem d_MD_refuses_233 : decode c_MD_refuses 233 = .ok (.getfield 7, 3) := by decide +kernel
theorem d_MD_refuses_236 : decode c_MD_refuses 236 = .ok (.iconst 5, 1) := by decide +kernel
theorem d_MD_refuses_237 : decode c_MD_refuses 237 = .ok (.iload_n 3, 1) := by decide +kernel
theorem d_MD_refuses_238 : decode c_MD_refuses 238 = .ok (.imul, 1) := by decide +kernel
theorem d_MD_refuses_239 : decode c_MD_refuses 239 = .ok (.iconst 4, 1) := by decide +kernel
theorem d_MD_refuses_240 : decode c_MD_refuses 240 = .ok (.iadd, 1) := by decide +kernel
theorem d_MD_refuses_241 : decode c_MD_refuses 241 = .ok (.iaload, 1) := by decide +kernel
theorem d_MD_refuses_242 : decode c_MD_refuses 242 = .ok (.iload 6, 2) := by decide +kernel
theorem d_MD_refuses_244 : decode c_MD_refuses 244 = .ok (.if_icmp .eq 7, 3) := by decide +kernel
theorem d_MD_refuses_247 : decode c_MD_refuses 247 = .ok (.iconst 1, 1) := by decide +kernel
theorem d_MD_refuses_248 : decode c_MD_refuses 248 = .ok (.goto 4, 3) := by decide +kernel
theorem d_MD_refuses_251 : decode c_MD_refuses 251 = .ok (.iconst 0, 1) := by decide +kernel
theorem d_MD_refuses_252 : decode c_MD_refuses 252 = .ok (.ireturn, 1) := by decide +kernel
theorem d_MD_refuses_253 : decode c_MD_refuses 253 = .ok (.aload_n 0, 1) := by decide +kernel
theorem d_MD_refuses_254 : decode c_MD_refuses 254 = .ok (.iload_n 2, 1) := by decide +kernel
theorem d_MD_refuses_255 : decode c_MD_refuses 255 = .ok (.iload_n 3, 1) := by decide +kernel
theorem d_MD_refuses_256 : decode c_MD_refuses 256 = .ok (.invokevirtual 181, 3) := by decide +kernel
theorem d_MD_refuses_259 : decode c_MD_refuses 259 = .ok (.iload 5, 2) := by decide +kernel
theorem d_MD_refuses_261 : decode c_MD_refuses 261 = .ok (.if_icmp .le 7, 3) := by decide +kernel
theorem d_MD_refuses_264 : decode c_MD_refuses 264 = .ok (.iconst 1, 1) := by decide +kernel
theorem d_MD_refuses_265 : decode c_MD_refuses 265 = .ok (.goto 4, 3) := by decide +kernel
theorem d_MD_refuses_268 : decode c_MD_refuses 268 = .ok (.iconst 0, 1) := by decide +kernel
theorem d_MD_refuses_269 : decode c_MD_refuses 269 = .ok (.ireturn, 1) := by decide +kernel
theorem d_MD_refuses_270 : decode c_MD_refuses 270 = .ok (.aload_n 0, 1) := by decide +kernel
theorem d_MD_refuses_271 : decode c_MD_refuses 271 = .ok (.iload_n 2, 1) := by decide +kernel
theorem d_MD_refuses_272 : decode c_MD_refuses 272 = .ok (.iload_n 3, 1) := by decide +kernel
theorem d_MD_refuses_273 : decode c_MD_refuses 273 = .ok (.invokevirtual 184, 3) := by decide +kernel
theorem d_MD_refuses_276 : decode c_MD_refuses 276 = .ok (.iload 5, 2) := by decide +kernel
theorem d_MD_refuses_278 : decode c_MD_refuses 278 = .ok (.if_icmp .le 7, 3) := by decide +kernel
theorem d_MD_refuses_281 : decode c_MD_refuses 281 = .ok (.iconst 1, 1) := by decide +kernel
theorem d_MD_refuses_282 : decode c_MD_refuses 282 = .ok (.goto 4, 3) := by decide +kernel
theorem d_MD_refuses_285 : decode c_MD_refuses 285 = .ok (.iconst 0, 1) := by decide +kernel
theorem d_MD_refuses_286 : decode c_MD_refuses 286 = .ok (.ireturn, 1) := by decide +kernel
theorem d_MD_refuses_287 : decode c_MD_refuses 287 = .ok (.aload_n 0, 1) := by decide +kernel
theorem d_MD_refuses_288 : decode c_MD_refuses 288 = .ok (.getfield 13, 3) := by decide +kernel
theorem d_MD_refuses_291 : decode c_MD_refuses 291 = .ok (.bipush 10, 2) := by decide +kernel
theorem d_MD_refuses_293 : decode c_MD_refuses 293 = .ok (.iload_n 2, 1) := by decide +kernel
theorem d_MD_refuses_294 : decode c_MD_refuses 294 = .ok (.imul, 1) := by decide +kernel
theorem d_MD_refuses_295 : decode c_MD_refuses 295 = .ok (.bipush 9, 2) := by decide +kernel
theorem d_MD_refuses_297 : decode c_MD_refuses 297 = .ok (.iadd, 1) := by decide +kernel
theorem d_MD_refuses_298 : decode c_MD_refuses 298 = .ok (.iaload, 1) := by decide +kernel
theorem d_MD_refuses_299 : decode c_MD_refuses 299 = .ok (.iload 4, 2) := by decide +kernel
theorem d_MD_refuses_301 : decode c_MD_refuses 301 = .ok (.isub, 1) := by decide +kernel
theorem d_MD_refuses_302 : decode c_MD_refuses 302 = .ok (.iload 5, 2) := by decide +kernel
theorem d_MD_refuses_304 : decode c_MD_refuses 304 = .ok (.if_icmp .ge 7, 3) := by decide +kernel
theorem d_MD_refuses_307 : decode c_MD_refuses 307 = .ok (.iconst 1, 1) := by decide +kernel
theorem d_MD_refuses_308 : decode c_MD_refuses 308 = .ok (.goto 4, 3) := by decide +kernel
theorem d_MD_refuses_311 : decode c_MD_refuses 311 = .ok (.iconst 0, 1) := by decide +kernel
theorem d_MD_refuses_312 : decode c_MD_refuses 312 = .ok (.ireturn, 1) := by decide +kernel
theorem d_MD_refuses_313 : decode c_MD_refuses 313 = .ok (.aload_n 0, 1) := by decide +kernel
theorem d_MD_refuses_314 : decode c_MD_refuses 314 = .ok (.iload 5, 2) := by decide +kernel
theorem d_MD_refuses_316 : decode c_MD_refuses 316 = .ok (.iload_n 2, 1) := by decide +kernel
theorem d_MD_refuses_317 : decode c_MD_refuses 317 = .ok (.iload_n 3, 1) := by decide +kernel
theorem d_MD_refuses_318 : decode c_MD_refuses 318 = .ok (.invokevirtual 187, 3) := by decide +kernel
theorem d_MD_refuses_321 : decode c_MD_refuses 321 = .ok (.ireturn, 1) := by decide +kernel
theorem d_MD_ask_0 : decode c_MD_ask 0 = .ok (.aload_n 0, 1) := by decide +kernel
theorem d_MD_ask_1 : decode c_MD_ask 1 = .ok (.iconst 0, 1) := by decide +kernel
theorem d_MD_ask_2 : decode c_MD_ask 2 = .ok (.putfield 190, 3) := by decide +kernel
theorem d_MD_ask_5 : decode c_MD_ask 5 = .ok (.iconst 1, 1) := by decide +kernel
theorem d_MD_ask_6 : decode c_MD_ask 6 = .ok (.istore 4, 2) := by decide +kernel
theorem d_MD_ask_8 : decode c_MD_ask 8 = .ok (.iload 4, 2) := by decide +kernel
theorem d_MD_ask_10 : decode c_MD_ask 10 = .ok (.bipush 100, 2) := by decide +kernel
theorem d_MD_ask_12 : decode c_MD_ask 12 = .ok (.if_icmp .gt 92, 3) := by decide +kernel
theorem d_MD_ask_15 : decode c_MD_ask 15 = .ok (.iconst 0, 1) := by decide +kernel
theorem d_MD_ask_16 : decode c_MD_ask 16 = .ok (.istore 5, 2) := by decide +kernel
theorem d_MD_ask_18 : decode c_MD_ask 18 = .ok (.iload 5, 2) := by decide +kernel
theorem d_MD_ask_20 : decode c_MD_ask 20 = .ok (.aload_n 0, 1) := by decide +kernel
theorem d_MD_ask_21 : decode c_MD_ask 21 = .ok (.getfield 94, 3) := by decide +kernel
theorem d_MD_ask_24 : decode c_MD_ask 24 = .ok (.if_icmp .ge 74, 3) := by decide +kernel
theorem d_MD_ask_27 : decode c_MD_ask 27 = .ok (.aload_n 0, 1) := by decide +kernel
theorem d_MD_ask_28 : decode c_MD_ask 28 = .ok (.getfield 19, 3) := by decide +kernel
theorem d_MD_ask_31 : decode c_MD_ask 31 = .ok (.iload 5, 2) := by decide +kernel
theorem d_MD_ask_33 : decode c_MD_ask 33 = .ok (.iaload, 1) := by decide +kernel
theorem d_MD_ask_34 : decode c_MD_ask 34 = .ok (.iload 4, 2) := by decide +kernel
theorem d_MD_ask_36 : decode c_MD_ask 36 = .ok (.if_icmp .ne 56, 3) := by decide +kernel
theorem d_MD_ask_39 : decode c_MD_ask 39 = .ok (.aload_n 0, 1) := by decide +kernel
theorem d_MD_ask_40 : decode c_MD_ask 40 = .ok (.iload 5, 2) := by decide +kernel
theorem d_MD_ask_42 : decode c_MD_ask 42 = .ok (.iload_n 1, 1) := by decide +kernel
theorem d_MD_ask_43 : decode c_MD_ask 43 = .ok (.iload_n 2, 1) := by decide +kernel
theorem d_MD_ask_44 : decode c_MD_ask 44 = .ok (.iload_n 3, 1) := by decide +kernel
theorem d_MD_ask_45 : decode c_MD_ask 45 = .ok (.invokevirtual 193, 3) := by decide +kernel
theorem d_MD_ask_48 : decode c_MD_ask 48 = .ok (.ifCond .ne 44, 3) := by decide +kernel
theorem d_MD_ask_51 : decode c_MD_ask 51 = .ok (.aload_n 0, 1) := by decide +kernel
theorem d_MD_ask_52 : decode c_MD_ask 52 = .ok (.iload 5, 2) := by decide +kernel
theorem d_MD_ask_54 : decode c_MD_ask 54 = .ok (.iload_n 1, 1) := by decide +kernel
theorem d_MD_ask_55 : decode c_MD_ask 55 = .ok (.iload_n 2, 1) := by decide +kernel
theorem d_MD_ask_56 : decode c_MD_ask 56 = .ok (.iload_n 3, 1) := by decide +kernel
theorem d_MD_ask_57 : decode c_MD_ask 57 = .ok (.invokevirtual 197, 3) := by decide +kernel
theorem d_MD_ask_60 : decode c_MD_ask 60 = .ok (.ifCond .eq 32, 3) := by decide +kernel
theorem d_MD_ask_63 : decode c_MD_ask 63 = .ok (.aload_n 0, 1) := by decide +kernel
theorem d_MD_ask_64 : decode c_MD_ask 64 = .ok (.getfield 31, 3) := by decide +kernel
theorem d_MD_ask_67 : decode c_MD_ask 67 = .ok (.iload 5, 2) := by decide +kernel
theorem d_MD_ask_69 : decode c_MD_ask 69 = .ok (.iconst 1, 1) := by decide +kernel
theorem d_MD_ask_70 : decode c_MD_ask 70 = .ok (.bastore, 1) := by decide +kernel
theorem d_MD_ask_71 : decode c_MD_ask 71 = .ok (.aload_n 0, 1) := by decide +kernel
theorem d_MD_ask_72 : decode c_MD_ask 72 = .ok (.getfield 53, 3) := by decide +kernel
theorem d_MD_ask_75 : decode c_MD_ask 75 = .ok (.aload_n 0, 1) := by decide +kernel
theorem d_MD_ask_76 : decode c_MD_ask 76 = .ok (.getfield 190, 3) := by decide +kernel
theorem d_MD_ask_79 : decode c_MD_ask 79 = .ok (.iload 5, 2) := by decide +kernel
theorem d_MD_ask_81 : decode c_MD_ask 81 = .ok (.iastore, 1) := by decide +kernel
theorem d_MD_ask_82 : decode c_MD_ask 82 = .ok (.aload_n 0, 1) := by decide +kernel
theorem d_MD_ask_83 : decode c_MD_ask 83 = .ok (.dup, 1) := by decide +kernel
theorem d_MD_ask_84 : decode c_MD_ask 84 = .ok (.getfield 190, 3) := by decide +kernel
theorem d_MD_ask_87 : decode c_MD_ask 87 = .ok (.iconst 1, 1) := by decide +kernel
theorem d_MD_ask_88 : decode c_MD_ask 88 = .ok (.iadd, 1) := by decide +kernel
theorem d_MD_ask_89 : decode c_MD_ask 89 = .ok (.putfield 190, 3) := by decide +kernel
theorem d_MD_ask_92 : decode c_MD_ask 92 = .ok (.iinc 5 1, 3) := by decide +kernel
theorem d_MD_ask_95 : decode c_MD_ask 95 = .ok (.goto (-77), 3) := by decide +kernel
theorem d_MD_ask_98 : decode c_MD_ask 98 = .ok (.iinc 4 1, 3) := by decide +kernel
theorem d_MD_ask_101 : decode c_MD_ask 101 = .ok (.goto (-93), 3) := by decide +kernel
theorem d_MD_ask_104 : decode c_MD_ask 104 = .ok (.aload_n 0, 1) := by decide +kernel
theorem d_MD_ask_105 : decode c_MD_ask 105 = .ok (.getfield 190, 3) := by decide +kernel
theorem d_MD_ask_108 : decode c_MD_ask 108 = .ok (.ifCond .le 14, 3) := by decide +kernel
theorem d_MD_ask_111 : decode c_MD_ask 111 = .ok (.aload_n 0, 1) := by decide +kernel
theorem d_MD_ask_112 : decode c_MD_ask 112 = .ok (.getfield 53, 3) := by decide +kernel
theorem d_MD_ask_115 : decode c_MD_ask 115 = .ok (.iconst 0, 1) := by decide +kernel
theorem d_MD_ask_116 : decode c_MD_ask 116 = .ok (.iaload, 1) := by decide +kernel
theorem d_MD_ask_117 : decode c_MD_ask 117 = .ok (.iconst 1, 1) := by decide +kernel
theorem d_MD_ask_118 : decode c_MD_ask 118 = .ok (.iadd, 1) := by decide +kernel
theorem d_MD_ask_119 : decode c_MD_ask 119 = .ok (.goto 4, 3) := by decide +kernel
theorem d_MD_ask_122 : decode c_MD_ask 122 = .ok (.iconst 0, 1) := by decide +kernel
theorem d_MD_ask_123 : decode c_MD_ask 123 = .ok (.ireturn, 1) := by decide +kernel
theorem d_MD_may_0 : decode c_MD_may 0 = .ok (.aload_n 0, 1) := by decide +kernel
theorem d_MD_may_1 : decode c_MD_may 1 = .ok (.aload_n 0, 1) := by decide +kernel
theorem d_MD_may_2 : decode c_MD_may 2 = .ok (.iload_n 1, 1) := by decide +kernel
theorem d_MD_may_3 : decode c_MD_may 3 = .ok (.invokevirtual 91, 3) := by decide +kernel
theorem d_MD_may_6 : decode c_MD_may 6 = .ok (.ifCond .ne 7, 3) := by decide +kernel
theorem d_MD_may_9 : decode c_MD_may 9 = .ok (.iconst 1, 1) := by decide +kernel
theorem d_MD_may_10 : decode c_MD_may 10 = .ok (.goto 4, 3) := by decide +kernel
theorem d_MD_may_13 : decode c_MD_may 13 = .ok (.iconst 0, 1) := by decide +kernel
theorem d_MD_may_14 : decode c_MD_may 14 = .ok (.iload_n 2, 1) := by decide +kernel
theorem d_MD_may_15 : decode c_MD_may 15 = .ok (.invokestatic 71, 3) := by decide +kernel
theorem d_MD_may_18 : decode c_MD_may 18 = .ok (.ifCond .eq 14, 3) := by decide +kernel
theorem d_MD_may_21 : decode c_MD_may 21 = .ok (.iload_n 3, 1) := by decide +kernel
theorem d_MD_may_22 : decode c_MD_may 22 = .ok (.iconst 0, 1) := by decide +kernel
theorem d_MD_may_23 : decode c_MD_may 23 = .ok (.sipush 1000, 3) := by decide +kernel
theorem d_MD_may_26 : decode c_MD_may 26 = .ok (.invokestatic 67, 3) := by decide +kernel
theorem d_MD_may_29 : decode c_MD_may 29 = .ok (.ifCond .ne 7, 3) := by decide +kernel
theorem d_MD_may_32 : decode c_MD_may 32 = .ok (.iconst 1, 1) := by decide +kernel
theorem d_MD_may_33 : decode c_MD_may 33 = .ok (.goto 4, 3) := by decide +kernel
theorem d_MD_may_36 : decode c_MD_may 36 = .ok (.iconst 0, 1) := by decide +kernel
theorem d_MD_may_37 : decode c_MD_may 37 = .ok (.iconst 0, 1) := by decide +kernel
theorem d_MD_may_38 : decode c_MD_may 38 = .ok (.invokevirtual 78, 3) := by decide +kernel
theorem d_MD_may_41 : decode c_MD_may 41 = .ok (.ifCond .eq 7, 3) := by decide +kernel
theorem d_MD_may_44 : decode c_MD_may 44 = .ok (.iconst 0, 1) := by decide +kernel
theorem d_MD_may_45 : decode c_MD_may 45 = .ok (.goto 10, 3) := by decide +kernel
theorem d_MD_may_48 : decode c_MD_may 48 = .ok (.aload_n 0, 1) := by decide +kernel
theorem d_MD_may_49 : decode c_MD_may 49 = .ok (.iload_n 1, 1) := by decide +kernel
theorem d_MD_may_50 : decode c_MD_may 50 = .ok (.iload_n 2, 1) := by decide +kernel
theorem d_MD_may_51 : decode c_MD_may 51 = .ok (.iload_n 3, 1) := by decide +kernel
theorem d_MD_may_52 : decode c_MD_may 52 = .ok (.invokevirtual 200, 3) := by decide +kernel
theorem d_MD_may_55 : decode c_MD_may 55 = .ok (.ireturn, 1) := by decide +kernel
theorem d_MD_explain_0 : decode c_MD_explain 0 = .ok (.aload_n 0, 1) := by decide +kernel
theorem d_MD_explain_1 : decode c_MD_explain 1 = .ok (.iload_n 1, 1) := by decide +kernel
theorem d_MD_explain_2 : decode c_MD_explain 2 = .ok (.ifCond .ge 7, 3) := by decide +kernel
theorem d_MD_explain_5 : decode c_MD_explain 5 = .ok (.iconst 1, 1) := by decide +kernel
theorem d_MD_explain_6 : decode c_MD_explain 6 = .ok (.goto 4, 3) := by decide +kernel
theorem d_MD_explain_9 : decode c_MD_explain 9 = .ok (.iconst 0, 1) := by decide +kernel
theorem d_MD_explain_10 : decode c_MD_explain 10 = .ok (.iconst 0, 1) := by decide +kernel
theorem d_MD_explain_11 : decode c_MD_explain 11 = .ok (.iconst 0, 1) := by decide +kernel
theorem d_MD_explain_12 : decode c_MD_explain 12 = .ok (.invokevirtual 78, 3) := by decide +kernel
theorem d_MD_explain_15 : decode c_MD_explain 15 = .ok (.ifCond .eq 7, 3) := by decide +kernel
theorem d_MD_explain_18 : decode c_MD_explain 18 = .ok (.iconst 0, 1) := by decide +kernel
theorem d_MD_explain_19 : decode c_MD_explain 19 = .ok (.goto 21, 3) := by decide +kernel
theorem d_MD_explain_22 : decode c_MD_explain 22 = .ok (.iload_n 1, 1) := by decide +kernel
theorem d_MD_explain_23 : decode c_MD_explain 23 = .ok (.aload_n 0, 1) := by decide +kernel
theorem d_MD_explain_24 : decode c_MD_explain 24 = .ok (.getfield 190, 3) := by decide +kernel
theorem d_MD_explain_27 : decode c_MD_explain 27 = .ok (.if_icmp .ge 12, 3) := by decide +kernel
theorem d_MD_explain_30 : decode c_MD_explain 30 = .ok (.aload_n 0, 1) := by decide +kernel
theorem d_MD_explain_31 : decode c_MD_explain 31 = .ok (.getfield 53, 3) := by decide +kernel
theorem d_MD_explain_34 : decode c_MD_explain 34 = .ok (.iload_n 1, 1) := by decide +kernel
theorem d_MD_explain_35 : decode c_MD_explain 35 = .ok (.iaload, 1) := by decide +kernel
theorem d_MD_explain_36 : decode c_MD_explain 36 = .ok (.goto 4, 3) := by decide +kernel
theorem d_MD_explain_39 : decode c_MD_explain 39 = .ok (.iconst (-1), 1) := by decide +kernel
theorem d_MD_explain_40 : decode c_MD_explain 40 = .ok (.ireturn, 1) := by decide +kernel
theorem d_MD_put_0 : decode c_MD_put 0 = .ok (.iload_n 2, 1) := by decide +kernel
theorem d_MD_put_1 : decode c_MD_put 1 = .ok (.invokestatic 71, 3) := by decide +kernel
theorem d_MD_put_4 : decode c_MD_put 4 = .ok (.ifCond .eq 14, 3) := by decide +kernel
theorem d_MD_put_7 : decode c_MD_put 7 = .ok (.iload_n 3, 1) := by decide +kernel
theorem d_MD_put_8 : decode c_MD_put 8 = .ok (.iconst 0, 1) := by decide +kernel
theorem d_MD_put_9 : decode c_MD_put 9 = .ok (.sipush 1000, 3) := by decide +kernel
theorem d_MD_put_12 : decode c_MD_put 12 = .ok (.invokestatic 67, 3) := by decide +kernel
theorem d_MD_put_15 : decode c_MD_put 15 = .ok (.ifCond .ne 7, 3) := by decide +kernel
theorem d_MD_put_18 : decode c_MD_put 18 = .ok (.iconst 1, 1) := by decide +kernel
theorem d_MD_put_19 : decode c_MD_put 19 = .ok (.goto 4, 3) := by decide +kernel
theorem d_MD_put_22 : decode c_MD_put 22 = .ok (.iconst 0, 1) := by decide +kernel
theorem d_MD_put_23 : decode c_MD_put 23 = .ok (.istore 4, 2) := by decide +kernel
theorem d_MD_put_25 : decode c_MD_put 25 = .ok (.aload_n 0, 1) := by decide +kernel
theorem d_MD_put_26 : decode c_MD_put 26 = .ok (.aload_n 0, 1) := by decide +kernel
theorem d_MD_put_27 : decode c_MD_put 27 = .ok (.iload_n 1, 1) := by decide +kernel
theorem d_MD_put_28 : decode c_MD_put 28 = .ok (.invokevirtual 91, 3) := by decide +kernel
theorem d_MD_put_31 : decode c_MD_put 31 = .ok (.ifCond .ne 7, 3) := by decide +kernel
theorem d_MD_put_34 : decode c_MD_put 34 = .ok (.iconst 1, 1) := by decide +kernel
theorem d_MD_put_35 : decode c_MD_put 35 = .ok (.goto 4, 3) := by decide +kernel
theorem d_MD_put_38 : decode c_MD_put 38 = .ok (.iconst 0, 1) := by decide +kernel
theorem d_MD_put_39 : decode c_MD_put 39 = .ok (.iload 4, 2) := by decide +kernel
theorem d_MD_put_41 : decode c_MD_put 41 = .ok (.aload_n 0, 1) := by decide +kernel
theorem d_MD_put_42 : decode c_MD_put 42 = .ok (.iload_n 1, 1) := by decide +kernel
theorem d_MD_put_43 : decode c_MD_put 43 = .ok (.invokevirtual 91, 3) := by decide +kernel
theorem d_MD_put_46 : decode c_MD_put 46 = .ok (.ifCond .eq 17, 3) := by decide +kernel
theorem d_MD_put_49 : decode c_MD_put 49 = .ok (.aload_n 0, 1) := by decide +kernel
theorem d_MD_put_50 : decode c_MD_put 50 = .ok (.getfield 16, 3) := by decide +kernel
theorem d_MD_put_53 : decode c_MD_put 53 = .ok (.iload_n 1, 1) := by decide +kernel
theorem d_MD_put_54 : decode c_MD_put 54 = .ok (.iaload, 1) := by decide +kernel
theorem d_MD_put_55 : decode c_MD_put 55 = .ok (.iload_n 2, 1) := by decide +kernel
theorem d_MD_put_56 : decode c_MD_put 56 = .ok (.if_icmp .ne 7, 3) := by decide +kernel
theorem d_MD_put_59 : decode c_MD_put 59 = .ok (.iconst 1, 1) := by decide +kernel
theorem d_MD_put_60 : decode c_MD_put 60 = .ok (.goto 4, 3) := by decide +kernel
theorem d_MD_put_63 : decode c_MD_put 63 = .ok (.iconst 0, 1) := by decide +kernel
theorem d_MD_put_64 : decode c_MD_put 64 = .ok (.invokevirtual 78, 3) := by decide +kernel
theorem d_MD_put_67 : decode c_MD_put 67 = .ok (.ifCond .eq 5, 3) := by decide +kernel
theorem d_MD_put_70 : decode c_MD_put 70 = .ok (.iconst 0, 1) := by decide +kernel
theorem d_MD_put_71 : decode c_MD_put 71 = .ok (.ireturn, 1) := by decide +kernel
theorem d_MD_put_72 : decode c_MD_put 72 = .ok (.aload_n 0, 1) := by decide +kernel
theorem d_MD_put_73 : decode c_MD_put 73 = .ok (.iload_n 1, 1) := by decide +kernel
theorem d_MD_put_74 : decode c_MD_put 74 = .ok (.iload_n 2, 1) := by decide +kernel
theorem d_MD_put_75 : decode c_MD_put 75 = .ok (.iload_n 3, 1) := by decide +kernel
theorem d_MD_put_76 : decode c_MD_put 76 = .ok (.invokevirtual 200, 3) := by decide +kernel
theorem d_MD_put_79 : decode c_MD_put 79 = .ok (.istore 5, 2) := by decide +kernel
theorem d_MD_put_81 : decode c_MD_put 81 = .ok (.aload_n 0, 1) := by decide +kernel
theorem d_MD_put_82 : decode c_MD_put 82 = .ok (.getfield 16, 3) := by decide +kernel
theorem d_MD_put_85 : decode c_MD_put 85 = .ok (.iload_n 1, 1) := by decide +kernel
theorem d_MD_put_86 : decode c_MD_put 86 = .ok (.iload 5, 2) := by decide +kernel
theorem d_MD_put_88 : decode c_MD_put 88 = .ok (.ifCond .ne 7, 3) := by decide +kernel
theorem d_MD_put_91 : decode c_MD_put 91 = .ok (.iload_n 2, 1) := by decide +kernel
theorem d_MD_put_92 : decode c_MD_put 92 = .ok (.goto 9, 3) := by decide +kernel
theorem d_MD_put_95 : decode c_MD_put 95 = .ok (.aload_n 0, 1) := by decide +kernel
theorem d_MD_put_96 : decode c_MD_put 96 = .ok (.getfield 16, 3) := by decide +kernel
theorem d_MD_put_99 : decode c_MD_put 99 = .ok (.iload_n 1, 1) := by decide +kernel
theorem d_MD_put_100 : decode c_MD_put 100 = .ok (.iaload, 1) := by decide +kernel
theorem d_MD_put_101 : decode c_MD_put 101 = .ok (.iastore, 1) := by decide +kernel
theorem d_MD_put_102 : decode c_MD_put 102 = .ok (.iload 5, 2) := by decide +kernel
theorem d_MD_put_104 : decode c_MD_put 104 = .ok (.ireturn, 1) := by decide +kernel
theorem d_MD_take_0 : decode c_MD_take 0 = .ok (.aload_n 0, 1) := by decide +kernel
theorem d_MD_take_1 : decode c_MD_take 1 = .ok (.aload_n 0, 1) := by decide +kernel
theorem d_MD_take_2 : decode c_MD_take 2 = .ok (.iload_n 1, 1) := by decide +kernel
theorem d_MD_take_3 : decode c_MD_take 3 = .ok (.invokevirtual 91, 3) := by decide +kernel
theorem d_MD_take_6 : decode c_MD_take 6 = .ok (.ifCond .ne 7, 3) := by decide +kernel
theorem d_MD_take_9 : decode c_MD_take 9 = .ok (.iconst 1, 1) := by decide +kernel
theorem d_MD_take_10 : decode c_MD_take 10 = .ok (.goto 4, 3) := by decide +kernel
theorem d_MD_take_13 : decode c_MD_take 13 = .ok (.iconst 0, 1) := by decide +kernel
theorem d_MD_take_14 : decode c_MD_take 14 = .ok (.aload_n 0, 1) := by decide +kernel
theorem d_MD_take_15 : decode c_MD_take 15 = .ok (.iload_n 1, 1) := by decide +kernel
theorem d_MD_take_16 : decode c_MD_take 16 = .ok (.invokevirtual 91, 3) := by decide +kernel
theorem d_MD_take_19 : decode c_MD_take 19 = .ok (.ifCond .eq 16, 3) := by decide +kernel
theorem d_MD_take_22 : decode c_MD_take 22 = .ok (.aload_n 0, 1) := by decide +kernel
theorem d_MD_take_23 : decode c_MD_take 23 = .ok (.getfield 16, 3) := by decide +kernel
theorem d_MD_take_26 : decode c_MD_take 26 = .ok (.iload_n 1, 1) := by decide +kernel
theorem d_MD_take_27 : decode c_MD_take 27 = .ok (.iaload, 1) := by decide +kernel
theorem d_MD_take_28 : decode c_MD_take 28 = .ok (.ifCond .ge 7, 3) := by decide +kernel
theorem d_MD_take_31 : decode c_MD_take 31 = .ok (.iconst 1, 1) := by decide +kernel
theorem d_MD_take_32 : decode c_MD_take 32 = .ok (.goto 4, 3) := by decide +kernel
theorem d_MD_take_35 : decode c_MD_take 35 = .ok (.iconst 0, 1) := by decide +kernel
theorem d_MD_take_36 : decode c_MD_take 36 = .ok (.iconst 0, 1) := by decide +kernel
theorem d_MD_take_37 : decode c_MD_take 37 = .ok (.invokevirtual 78, 3) := by decide +kernel
theorem d_MD_take_40 : decode c_MD_take 40 = .ok (.ifCond .ne 10, 3) := by decide +kernel
theorem d_MD_take_43 : decode c_MD_take 43 = .ok (.aload_n 0, 1) := by decide +kernel
theorem d_MD_take_44 : decode c_MD_take 44 = .ok (.getfield 16, 3) := by decide +kernel
theorem d_MD_take_47 : decode c_MD_take 47 = .ok (.iload_n 1, 1) := by decide +kernel
theorem d_MD_take_48 : decode c_MD_take 48 = .ok (.iconst (-1), 1) := by decide +kernel
theorem d_MD_take_49 : decode c_MD_take 49 = .ok (.iastore, 1) := by decide +kernel
theorem d_MD_take_50 : decode c_MD_take 50 = .ok (.return_, 1) := by decide +kernel
theorem d_MD_turned_0 : decode c_MD_turned 0 = .ok (.aload_n 0, 1) := by decide +kernel
theorem d_MD_turned_1 : decode c_MD_turned 1 = .ok (.aload_n 0, 1) := by decide +kernel
theorem d_MD_turned_2 : decode c_MD_turned 2 = .ok (.iload_n 1, 1) := by decide +kernel
theorem d_MD_turned_3 : decode c_MD_turned 3 = .ok (.invokevirtual 91, 3) := by decide +kernel
theorem d_MD_turned_6 : decode c_MD_turned 6 = .ok (.ifCond .ne 7, 3) := by decide +kernel
theorem d_MD_turned_9 : decode c_MD_turned 9 = .ok (.iconst 1, 1) := by decide +kernel
theorem d_MD_turned_10 : decode c_MD_turned 10 = .ok (.goto 4, 3) := by decide +kernel
theorem d_MD_turned_13 : decode c_MD_turned 13 = .ok (.iconst 0, 1) := by decide +kernel
theorem d_MD_turned_14 : decode c_MD_turned 14 = .ok (.iload_n 2, 1) := by decide +kernel
theorem d_MD_turned_15 : decode c_MD_turned 15 = .ok (.invokestatic 71, 3) := by decide +kernel
theorem d_MD_turned_18 : decode c_MD_turned 18 = .ok (.ifCond .ne 7, 3) := by decide +kernel
theorem d_MD_turned_21 : decode c_MD_turned 21 = .ok (.iconst 1, 1) := by decide +kernel
theorem d_MD_turned_22 : decode c_MD_turned 22 = .ok (.goto 4, 3) := by decide +kernel
theorem d_MD_turned_25 : decode c_MD_turned 25 = .ok (.iconst 0, 1) := by decide +kernel
theorem d_MD_turned_26 : decode c_MD_turned 26 = .ok (.iconst 0, 1) := by decide +kernel
theorem d_MD_turned_27 : decode c_MD_turned 27 = .ok (.invokevirtual 78, 3) := by decide +kernel
theorem d_MD_turned_30 : decode c_MD_turned 30 = .ok (.ifCond .eq 5, 3) := by decide +kernel
theorem d_MD_turned_33 : decode c_MD_turned 33 = .ok (.iconst 0, 1) := by decide +kernel
theorem d_MD_turned_34 : decode c_MD_turned 34 = .ok (.ireturn, 1) := by decide +kernel
theorem d_MD_turned_35 : decode c_MD_turned 35 = .ok (.iconst 0, 1) := by decide +kernel
theorem d_MD_turned_36 : decode c_MD_turned 36 = .ok (.istore_n 3, 1) := by decide +kernel
theorem d_MD_turned_37 : decode c_MD_turned 37 = .ok (.iload_n 3, 1) := by decide +kernel
theorem d_MD_turned_38 : decode c_MD_turned 38 = .ok (.bipush 6, 2) := by decide +kernel
theorem d_MD_turned_40 : decode c_MD_turned 40 = .ok (.if_icmp .ge 19, 3) := by decide +kernel
theorem d_MD_turned_43 : decode c_MD_turned 43 = .ok (.aload_n 0, 1) := by decide +kernel
theorem d_MD_turned_44 : decode c_MD_turned 44 = .ok (.iload_n 1, 1) := by decide +kernel
theorem d_MD_turned_45 : decode c_MD_turned 45 = .ok (.iload_n 2, 1) := by decide +kernel
theorem d_MD_turned_46 : decode c_MD_turned 46 = .ok (.iload_n 3, 1) := by decide +kernel
theorem d_MD_turned_47 : decode c_MD_turned 47 = .ok (.invokevirtual 162, 3) := by decide +kernel
theorem d_MD_turned_50 : decode c_MD_turned 50 = .ok (.ifCond .ne 9, 3) := by decide +kernel
theorem d_MD_turned_53 : decode c_MD_turned 53 = .ok (.iinc 3 1, 3) := by decide +kernel
theorem d_MD_turned_56 : decode c_MD_turned 56 = .ok (.goto (-19), 3) := by decide +kernel
theorem d_MD_turned_59 : decode c_MD_turned 59 = .ok (.iload_n 3, 1) := by decide +kernel
theorem d_MD_turned_60 : decode c_MD_turned 60 = .ok (.bipush 6, 2) := by decide +kernel
theorem d_MD_turned_62 : decode c_MD_turned 62 = .ok (.if_icmp .ge 7, 3) := by decide +kernel
theorem d_MD_turned_65 : decode c_MD_turned 65 = .ok (.iload_n 3, 1) := by decide +kernel
theorem d_MD_turned_66 : decode c_MD_turned 66 = .ok (.goto 4, 3) := by decide +kernel
theorem d_MD_turned_69 : decode c_MD_turned 69 = .ok (.iconst (-1), 1) := by decide +kernel
theorem d_MD_turned_70 : decode c_MD_turned 70 = .ok (.ireturn, 1) := by decide +kernel
theorem d_MD_never_0 : decode c_MD_never 0 = .ok (.aload_n 0, 1) := by decide +kernel
theorem d_MD_never_1 : decode c_MD_never 1 = .ok (.iload_n 1, 1) := by decide +kernel
theorem d_MD_never_2 : decode c_MD_never 2 = .ok (.ifCond .ge 7, 3) := by decide +kernel
theorem d_MD_never_5 : decode c_MD_never 5 = .ok (.iconst 1, 1) := by decide +kernel
theorem d_MD_never_6 : decode c_MD_never 6 = .ok (.goto 4, 3) := by decide +kernel
theorem d_MD_never_9 : decode c_MD_never 9 = .ok (.iconst 0, 1) := by decide +kernel
theorem d_MD_never_10 : decode c_MD_never 10 = .ok (.iconst 0, 1) := by decide +kernel
theorem d_MD_never_11 : decode c_MD_never 11 = .ok (.iconst 0, 1) := by decide +kernel
theorem d_MD_never_12 : decode c_MD_never 12 = .ok (.invokevirtual 78, 3) := by decide +kernel
theorem d_MD_never_15 : decode c_MD_never 15 = .ok (.ifCond .eq 5, 3) := by decide +kernel
theorem d_MD_never_18 : decode c_MD_never 18 = .ok (.iconst 0, 1) := by decide +kernel
theorem d_MD_never_19 : decode c_MD_never 19 = .ok (.ireturn, 1) := by decide +kernel
theorem d_MD_never_20 : decode c_MD_never 20 = .ok (.iload_n 1, 1) := by decide +kernel
theorem d_MD_never_21 : decode c_MD_never 21 = .ok (.istore_n 2, 1) := by decide +kernel
theorem d_MD_never_22 : decode c_MD_never 22 = .ok (.iconst 0, 1) := by decide +kernel
theorem d_MD_never_23 : decode c_MD_never 23 = .ok (.istore_n 3, 1) := by decide +kernel
theorem d_MD_never_24 : decode c_MD_never 24 = .ok (.iload_n 3, 1) := by decide +kernel
theorem d_MD_never_25 : decode c_MD_never 25 = .ok (.aload_n 0, 1) := by decide +kernel
theorem d_MD_never_26 : decode c_MD_never 26 = .ok (.getfield 94, 3) := by decide +kernel
theorem d_MD_never_29 : decode c_MD_never 29 = .ok (.if_icmp .ge 27, 3) := by decide +kernel
theorem d_MD_never_32 : decode c_MD_never 32 = .ok (.aload_n 0, 1) := by decide +kernel
theorem d_MD_never_33 : decode c_MD_never 33 = .ok (.getfield 31, 3) := by decide +kernel
theorem d_MD_never_36 : decode c_MD_never 36 = .ok (.iload_n 3, 1) := by decide +kernel
theorem d_MD_never_37 : decode c_MD_never 37 = .ok (.baload, 1) := by decide +kernel
theorem d_MD_never_38 : decode c_MD_never 38 = .ok (.ifCond .ne 12, 3) := by decide +kernel
theorem d_MD_never_41 : decode c_MD_never 41 = .ok (.iload_n 2, 1) := by decide +kernel
theorem d_MD_never_42 : decode c_MD_never 42 = .ok (.ifCond .ne 5, 3) := by decide +kernel
theorem d_MD_never_45 : decode c_MD_never 45 = .ok (.iload_n 3, 1) := by decide +kernel
theorem d_MD_never_46 : decode c_MD_never 46 = .ok (.ireturn, 1) := by decide +kernel
theorem d_MD_never_47 : decode c_MD_never 47 = .ok (.iinc 2 (-1), 3) := by decide +kernel
theorem d_MD_never_50 : decode c_MD_never 50 = .ok (.iinc 3 1, 3) := by decide +kernel
theorem d_MD_never_53 : decode c_MD_never 53 = .ok (.goto (-29), 3) := by decide +kernel
theorem d_MD_never_56 : decode c_MD_never 56 = .ok (.iconst (-1), 1) := by decide +kernel
theorem d_MD_never_57 : decode c_MD_never 57 = .ok (.ireturn, 1) := by decide +kernel
theorem d_MD_clash_0 : decode c_MD_clash 0 = .ok (.aload_n 0, 1) := by decide +kernel
theorem d_MD_clash_1 : decode c_MD_clash 1 = .ok (.iload_n 1, 1) := by decide +kernel
theorem d_MD_clash_2 : decode c_MD_clash 2 = .ok (.ifCond .lt 12, 3) := by decide +kernel
theorem d_MD_clash_5 : decode c_MD_clash 5 = .ok (.iload_n 2, 1) := by decide +kernel
theorem d_MD_clash_6 : decode c_MD_clash 6 = .ok (.iconst 0, 1) := by decide +kernel
theorem d_MD_clash_7 : decode c_MD_clash 7 = .ok (.iconst 1, 1) := by decide +kernel
theorem d_MD_clash_8 : decode c_MD_clash 8 = .ok (.invokestatic 67, 3) := by decide +kernel
theorem d_MD_clash_11 : decode c_MD_clash 11 = .ok (.ifCond .ne 7, 3) := by decide +kernel
theorem d_MD_clash_14 : decode c_MD_clash 14 = .ok (.iconst 1, 1) := by decide +kernel
theorem d_MD_clash_15 : decode c_MD_clash 15 = .ok (.goto 4, 3) := by decide +kernel
theorem d_MD_clash_18 : decode c_MD_clash 18 = .ok (.iconst 0, 1) := by decide +kernel
theorem d_MD_clash_19 : decode c_MD_clash 19 = .ok (.iconst 0, 1) := by decide +kernel
theorem d_MD_clash_20 : decode c_MD_clash 20 = .ok (.iconst 0, 1) := by decide +kernel
theorem d_MD_clash_21 : decode c_MD_clash 21 = .ok (.invokevirtual 78, 3) := by decide +kernel
theorem d_MD_clash_24 : decode c_MD_clash 24 = .ok (.ifCond .eq 7, 3) := by decide +kernel
theorem d_MD_clash_27 : decode c_MD_clash 27 = .ok (.iconst 0, 1) := by decide +kernel
theorem d_MD_clash_28 : decode c_MD_clash 28 = .ok (.goto 25, 3) := by decide +kernel
theorem d_MD_clash_31 : decode c_MD_clash 31 = .ok (.iload_n 1, 1) := by decide +kernel
theorem d_MD_clash_32 : decode c_MD_clash 32 = .ok (.aload_n 0, 1) := by decide +kernel
theorem d_MD_clash_33 : decode c_MD_clash 33 = .ok (.getfield 97, 3) := by decide +kernel
theorem d_MD_clash_36 : decode c_MD_clash 36 = .ok (.if_icmp .ge 16, 3) := by decide +kernel
theorem d_MD_clash_39 : decode c_MD_clash 39 = .ok (.aload_n 0, 1) := by decide +kernel
theorem d_MD_clash_40 : decode c_MD_clash 40 = .ok (.getfield 50, 3) := by decide +kernel
theorem d_MD_clash_43 : decode c_MD_clash 43 = .ok (.iconst 2, 1) := by decide +kernel
theorem d_MD_clash_44 : decode c_MD_clash 44 = .ok (.iload_n 1, 1) := by decide +kernel
theorem d_MD_clash_45 : decode c_MD_clash 45 = .ok (.imul, 1) := by decide +kernel
theorem d_MD_clash_46 : decode c_MD_clash 46 = .ok (.iload_n 2, 1) := by decide +kernel
theorem d_MD_clash_47 : decode c_MD_clash 47 = .ok (.iadd, 1) := by decide +kernel
theorem d_MD_clash_48 : decode c_MD_clash 48 = .ok (.iaload, 1) := by decide +kernel
theorem d_MD_clash_49 : decode c_MD_clash 49 = .ok (.goto 4, 3) := by decide +kernel
theorem d_MD_clash_52 : decode c_MD_clash 52 = .ok (.iconst (-1), 1) := by decide +kernel
theorem d_MD_clash_53 : decode c_MD_clash 53 = .ok (.ireturn, 1) := by decide +kernel
theorem d_MD_at_0 : decode c_MD_at 0 = .ok (.aload_n 0, 1) := by decide +kernel
theorem d_MD_at_1 : decode c_MD_at 1 = .ok (.iload_n 1, 1) := by decide +kernel
theorem d_MD_at_2 : decode c_MD_at 2 = .ok (.invokestatic 71, 3) := by decide +kernel
theorem d_MD_at_5 : decode c_MD_at 5 = .ok (.ifCond .eq 7, 3) := by decide +kernel
theorem d_MD_at_8 : decode c_MD_at 8 = .ok (.iload_n 2, 1) := by decide +kernel
theorem d_MD_at_9 : decode c_MD_at 9 = .ok (.ifCond .ge 7, 3) := by decide +kernel
theorem d_MD_at_12 : decode c_MD_at 12 = .ok (.iconst 1, 1) := by decide +kernel
theorem d_MD_at_13 : decode c_MD_at 13 = .ok (.goto 4, 3) := by decide +kernel
theorem d_MD_at_16 : decode c_MD_at 16 = .ok (.iconst 0, 1) := by decide +kernel
theorem d_MD_at_17 : decode c_MD_at 17 = .ok (.iconst 0, 1) := by decide +kernel
theorem d_MD_at_18 : decode c_MD_at 18 = .ok (.iconst 0, 1) := by decide +kernel
theorem d_MD_at_19 : decode c_MD_at 19 = .ok (.invokevirtual 78, 3) := by decide +kernel
theorem d_MD_at_22 : decode c_MD_at 22 = .ok (.ifCond .eq 5, 3) := by decide +kernel
theorem d_MD_at_25 : decode c_MD_at 25 = .ok (.iconst 0, 1) := by decide +kernel
theorem d_MD_at_26 : decode c_MD_at 26 = .ok (.ireturn, 1) := by decide +kernel
theorem d_MD_at_27 : decode c_MD_at 27 = .ok (.iload_n 2, 1) := by decide +kernel
theorem d_MD_at_28 : decode c_MD_at 28 = .ok (.istore_n 3, 1) := by decide +kernel
theorem d_MD_at_29 : decode c_MD_at 29 = .ok (.iconst 0, 1) := by decide +kernel
theorem d_MD_at_30 : decode c_MD_at 30 = .ok (.istore 4, 2) := by decide +kernel
theorem d_MD_at_32 : decode c_MD_at 32 = .ok (.iload 4, 2) := by decide +kernel
theorem d_MD_at_34 : decode c_MD_at 34 = .ok (.aload_n 0, 1) := by decide +kernel
theorem d_MD_at_35 : decode c_MD_at 35 = .ok (.getfield 83, 3) := by decide +kernel
theorem d_MD_at_38 : decode c_MD_at 38 = .ok (.if_icmp .ge 30, 3) := by decide +kernel
theorem d_MD_at_41 : decode c_MD_at 41 = .ok (.aload_n 0, 1) := by decide +kernel
theorem d_MD_at_42 : decode c_MD_at 42 = .ok (.getfield 16, 3) := by decide +kernel
theorem d_MD_at_45 : decode c_MD_at 45 = .ok (.iload 4, 2) := by decide +kernel
theorem d_MD_at_47 : decode c_MD_at 47 = .ok (.iaload, 1) := by decide +kernel
theorem d_MD_at_48 : decode c_MD_at 48 = .ok (.iload_n 1, 1) := by decide +kernel
theorem d_MD_at_49 : decode c_MD_at 49 = .ok (.if_icmp .ne 13, 3) := by decide +kernel
theorem d_MD_at_52 : decode c_MD_at 52 = .ok (.iload_n 3, 1) := by decide +kernel
theorem d_MD_at_53 : decode c_MD_at 53 = .ok (.ifCond .ne 6, 3) := by decide +kernel
theorem d_MD_at_56 : decode c_MD_at 56 = .ok (.iload 4, 2) := by decide +kernel
theorem d_MD_at_58 : decode c_MD_at 58 = .ok (.ireturn, 1) := by decide +kernel
theorem d_MD_at_59 : decode c_MD_at 59 = .ok (.iinc 3 (-1), 3) := by decide +kernel
theorem d_MD_at_62 : decode c_MD_at 62 = .ok (.iinc 4 1, 3) := by decide +kernel
theorem d_MD_at_65 : decode c_MD_at 65 = .ok (.goto (-33), 3) := by decide +kernel
theorem d_MD_at_68 : decode c_MD_at 68 = .ok (.iconst (-1), 1) := by decide +kernel
theorem d_MD_at_69 : decode c_MD_at 69 = .ok (.ireturn, 1) := by decide +kernel
theorem d_MD_count_0 : decode c_MD_count 0 = .ok (.aload_n 0, 1) := by decide +kernel
theorem d_MD_count_1 : decode c_MD_count 1 = .ok (.iconst 0, 1) := by decide +kernel
theorem d_MD_count_2 : decode c_MD_count 2 = .ok (.putfield 63, 3) := by decide +kernel
theorem d_MD_count_5 : decode c_MD_count 5 = .ok (.iload_n 1, 1) := by decide +kernel
theorem d_MD_count_6 : decode c_MD_count 6 = .ok (.tableswitch 68 0 5 #[38, 43, 48, 53, 58, 63], 38) := by decide +kernel
theorem d_MD_count_44 : decode c_MD_count 44 = .ok (.aload_n 0, 1) := by decide +kernel
theorem d_MD_count_45 : decode c_MD_count 45 = .ok (.getfield 94, 3) := by decide +kernel
theorem d_MD_count_48 : decode c_MD_count 48 = .ok (.ireturn, 1) := by decide +kernel
theorem d_MD_count_49 : decode c_MD_count 49 = .ok (.aload_n 0, 1) := by decide +kernel
theorem d_MD_count_50 : decode c_MD_count 50 = .ok (.getfield 83, 3) := by decide +kernel
theorem d_MD_count_53 : decode c_MD_count 53 = .ok (.ireturn, 1) := by decide +kernel
theorem d_MD_count_54 : decode c_MD_count 54 = .ok (.aload_n 0, 1) := by decide +kernel
theorem d_MD_count_55 : decode c_MD_count 55 = .ok (.getfield 156, 3) := by decide +kernel
theorem d_MD_count_58 : decode c_MD_count 58 = .ok (.ireturn, 1) := by decide +kernel
theorem d_MD_count_59 : decode c_MD_count 59 = .ok (.aload_n 0, 1) := by decide +kernel
theorem d_MD_count_60 : decode c_MD_count 60 = .ok (.getfield 97, 3) := by decide +kernel
theorem d_MD_count_63 : decode c_MD_count 63 = .ok (.ireturn, 1) := by decide +kernel
theorem d_MD_count_64 : decode c_MD_count 64 = .ok (.aload_n 0, 1) := by decide +kernel
theorem d_MD_count_65 : decode c_MD_count 65 = .ok (.getfield 111, 3) := by decide +kernel
theorem d_MD_count_68 : decode c_MD_count 68 = .ok (.ireturn, 1) := by decide +kernel
theorem d_MD_count_69 : decode c_MD_count 69 = .ok (.aload_n 0, 1) := by decide +kernel
theorem d_MD_count_70 : decode c_MD_count 70 = .ok (.getfield 165, 3) := by decide +kernel
theorem d_MD_count_73 : decode c_MD_count 73 = .ok (.ireturn, 1) := by decide +kernel
theorem d_MD_count_74 : decode c_MD_count 74 = .ok (.iconst (-1), 1) := by decide +kernel
theorem d_MD_count_75 : decode c_MD_count 75 = .ok (.ireturn, 1) := by decide +kernel
end
section
/-! Each instruction of each method, decoded. Written by wip/tools/emit_names.py. -/
theorem d_LW_place_0 : decode c_LW_place 0 = .ok (.aload_n 0, 1) := by decide +kernel
theorem d_LW_place_1 : decode c_LW_place 1 = .ok (.iload_n 1, 1) := by decide +kernel
theorem d_LW_place_2 : decode c_LW_place 2 = .ok (.iload_n 2, 1) := by decide +kernel
theorem d_LW_place_3 : decode c_LW_place 3 = .ok (.iload_n 3, 1) := by decide +kernel
theorem d_LW_place_4 : decode c_LW_place 4 = .ok (.iload 4, 2) := by decide +kernel
theorem d_LW_place_6 : decode c_LW_place 6 = .ok (.invokevirtual 7, 3) := by decide +kernel
theorem d_LW_place_9 : decode c_LW_place 9 = .ok (.goto 7, 3) := by decide +kernel
theorem d_LW_place_12 : decode c_LW_place 12 = .ok (.astore 5, 2) := by decide +kernel
theorem d_LW_place_14 : decode c_LW_place 14 = .ok (.iconst 1, 1) := by decide +kernel
theorem d_LW_place_15 : decode c_LW_place 15 = .ok (.ireturn, 1) := by decide +kernel
theorem d_LW_place_16 : decode c_LW_place 16 = .ok (.iconst 0, 1) := by decide +kernel
theorem d_LW_place_17 : decode c_LW_place 17 = .ok (.ireturn, 1) := by decide +kernel
theorem d_LW_limit_0 : decode c_LW_limit 0 = .ok (.aload_n 0, 1) := by decide +kernel
theorem d_LW_limit_1 : decode c_LW_limit 1 = .ok (.iload_n 1, 1) := by decide +kernel
theorem d_LW_limit_2 : decode c_LW_limit 2 = .ok (.iload_n 2, 1) := by decide +kernel
theorem d_LW_limit_3 : decode c_LW_limit 3 = .ok (.iload_n 3, 1) := by decide +kernel
theorem d_LW_limit_4 : decode c_LW_limit 4 = .ok (.invokevirtual 15, 3) := by decide +kernel
theorem d_LW_limit_7 : decode c_LW_limit 7 = .ok (.goto 7, 3) := by decide +kernel
theorem d_LW_limit_10 : decode c_LW_limit 10 = .ok (.astore 4, 2) := by decide +kernel
theorem d_LW_limit_12 : decode c_LW_limit 12 = .ok (.iconst 1, 1) := by decide +kernel
theorem d_LW_limit_13 : decode c_LW_limit 13 = .ok (.ireturn, 1) := by decide +kernel
theorem d_LW_limit_14 : decode c_LW_limit 14 = .ok (.iconst 0, 1) := by decide +kernel
theorem d_LW_limit_15 : decode c_LW_limit 15 = .ok (.ireturn, 1) := by decide +kernel
theorem d_LW_unit_0 : decode c_LW_unit 0 = .ok (.aload 4, 2) := by decide +kernel
theorem d_LW_unit_2 : decode c_LW_unit 2 = .ok (.iconst 0, 1) := by decide +kernel
theorem d_LW_unit_3 : decode c_LW_unit 3 = .ok (.aload_n 0, 1) := by decide +kernel
theorem d_LW_unit_4 : decode c_LW_unit 4 = .ok (.iload_n 1, 1) := by decide +kernel
theorem d_LW_unit_5 : decode c_LW_unit 5 = .ok (.iload_n 2, 1) := by decide +kernel
theorem d_LW_unit_6 : decode c_LW_unit 6 = .ok (.iload_n 3, 1) := by decide +kernel
theorem d_LW_unit_7 : decode c_LW_unit 7 = .ok (.invokevirtual 19, 3) := by decide +kernel
theorem d_LW_unit_10 : decode c_LW_unit 10 = .ok (.i2l, 1) := by decide +kernel
theorem d_LW_unit_11 : decode c_LW_unit 11 = .ok (.lastore, 1) := by decide +kernel
theorem d_LW_unit_12 : decode c_LW_unit 12 = .ok (.goto 11, 3) := by decide +kernel
theorem d_LW_unit_15 : decode c_LW_unit 15 = .ok (.astore 5, 2) := by decide +kernel
theorem d_LW_unit_17 : decode c_LW_unit 17 = .ok (.iconst 1, 1) := by decide +kernel
theorem d_LW_unit_18 : decode c_LW_unit 18 = .ok (.ireturn, 1) := by decide +kernel
theorem d_LW_unit_19 : decode c_LW_unit 19 = .ok (.astore 5, 2) := by decide +kernel
theorem d_LW_unit_21 : decode c_LW_unit 21 = .ok (.iconst 2, 1) := by decide +kernel
theorem d_LW_unit_22 : decode c_LW_unit 22 = .ok (.ireturn, 1) := by decide +kernel
theorem d_LW_unit_23 : decode c_LW_unit 23 = .ok (.iconst 0, 1) := by decide +kernel
theorem d_LW_unit_24 : decode c_LW_unit 24 = .ok (.ireturn, 1) := by decide +kernel
theorem d_LW_size_0 : decode c_LW_size 0 = .ok (.aload_n 0, 1) := by decide +kernel
theorem d_LW_size_1 : decode c_LW_size 1 = .ok (.iload_n 1, 1) := by decide +kernel
theorem d_LW_size_2 : decode c_LW_size 2 = .ok (.iload_n 2, 1) := by decide +kernel
theorem d_LW_size_3 : decode c_LW_size 3 = .ok (.iload_n 3, 1) := by decide +kernel
theorem d_LW_size_4 : decode c_LW_size 4 = .ok (.iload 4, 2) := by decide +kernel
theorem d_LW_size_6 : decode c_LW_size 6 = .ok (.iload 5, 2) := by decide +kernel
theorem d_LW_size_8 : decode c_LW_size 8 = .ok (.invokevirtual 25, 3) := by decide +kernel
theorem d_LW_size_11 : decode c_LW_size 11 = .ok (.goto 15, 3) := by decide +kernel
theorem d_LW_size_14 : decode c_LW_size 14 = .ok (.astore 6, 2) := by decide +kernel
theorem d_LW_size_16 : decode c_LW_size 16 = .ok (.iconst 1, 1) := by decide +kernel
theorem d_LW_size_17 : decode c_LW_size 17 = .ok (.ireturn, 1) := by decide +kernel
theorem d_LW_size_18 : decode c_LW_size 18 = .ok (.astore 6, 2) := by decide +kernel
theorem d_LW_size_20 : decode c_LW_size 20 = .ok (.iconst 2, 1) := by decide +kernel
theorem d_LW_size_21 : decode c_LW_size 21 = .ok (.ireturn, 1) := by decide +kernel
theorem d_LW_size_22 : decode c_LW_size 22 = .ok (.astore 6, 2) := by decide +kernel
theorem d_LW_size_24 : decode c_LW_size 24 = .ok (.iconst 3, 1) := by decide +kernel
theorem d_LW_size_25 : decode c_LW_size 25 = .ok (.ireturn, 1) := by decide +kernel
theorem d_LW_size_26 : decode c_LW_size 26 = .ok (.iconst 0, 1) := by decide +kernel
theorem d_LW_size_27 : decode c_LW_size 27 = .ok (.ireturn, 1) := by decide +kernel
theorem d_LW_nature_0 : decode c_LW_nature 0 = .ok (.aload_n 0, 1) := by decide +kernel
theorem d_LW_nature_1 : decode c_LW_nature 1 = .ok (.iload_n 1, 1) := by decide +kernel
theorem d_LW_nature_2 : decode c_LW_nature 2 = .ok (.iload_n 2, 1) := by decide +kernel
theorem d_LW_nature_3 : decode c_LW_nature 3 = .ok (.iload_n 3, 1) := by decide +kernel
theorem d_LW_nature_4 : decode c_LW_nature 4 = .ok (.iload 4, 2) := by decide +kernel
theorem d_LW_nature_6 : decode c_LW_nature 6 = .ok (.invokevirtual 33, 3) := by decide +kernel
theorem d_LW_nature_9 : decode c_LW_nature 9 = .ok (.goto 15, 3) := by decide +kernel
theorem d_LW_nature_12 : decode c_LW_nature 12 = .ok (.astore 5, 2) := by decide +kernel
theorem d_LW_nature_14 : decode c_LW_nature 14 = .ok (.iconst 1, 1) := by decide +kernel
theorem d_LW_nature_15 : decode c_LW_nature 15 = .ok (.ireturn, 1) := by decide +kernel
theorem d_LW_nature_16 : decode c_LW_nature 16 = .ok (.astore 5, 2) := by decide +kernel
theorem d_LW_nature_18 : decode c_LW_nature 18 = .ok (.iconst 2, 1) := by decide +kernel
theorem d_LW_nature_19 : decode c_LW_nature 19 = .ok (.ireturn, 1) := by decide +kernel
theorem d_LW_nature_20 : decode c_LW_nature 20 = .ok (.astore 5, 2) := by decide +kernel
theorem d_LW_nature_22 : decode c_LW_nature 22 = .ok (.iconst 3, 1) := by decide +kernel
theorem d_LW_nature_23 : decode c_LW_nature 23 = .ok (.ireturn, 1) := by decide +kernel
theorem d_LW_nature_24 : decode c_LW_nature 24 = .ok (.iconst 0, 1) := by decide +kernel
theorem d_LW_nature_25 : decode c_LW_nature 25 = .ok (.ireturn, 1) := by decide +kernel
theorem d_LW_rule_0 : decode c_LW_rule 0 = .ok (.aload 5, 2) := by decide +kernel
theorem d_LW_rule_2 : decode c_LW_rule 2 = .ok (.iconst 0, 1) := by decide +kernel
theorem d_LW_rule_3 : decode c_LW_rule 3 = .ok (.aload_n 0, 1) := by decide +kernel
theorem d_LW_rule_4 : decode c_LW_rule 4 = .ok (.iload_n 1, 1) := by decide +kernel
theorem d_LW_rule_5 : decode c_LW_rule 5 = .ok (.iload_n 2, 1) := by decide +kernel
theorem d_LW_rule_6 : decode c_LW_rule 6 = .ok (.iload_n 3, 1) := by decide +kernel
theorem d_LW_rule_7 : decode c_LW_rule 7 = .ok (.iload 4, 2) := by decide +kernel
theorem d_LW_rule_9 : decode c_LW_rule 9 = .ok (.invokevirtual 36, 3) := by decide +kernel
theorem d_LW_rule_12 : decode c_LW_rule 12 = .ok (.i2l, 1) := by decide +kernel
theorem d_LW_rule_13 : decode c_LW_rule 13 = .ok (.lastore, 1) := by decide +kernel
theorem d_LW_rule_14 : decode c_LW_rule 14 = .ok (.goto 11, 3) := by decide +kernel
theorem d_LW_rule_17 : decode c_LW_rule 17 = .ok (.astore 6, 2) := by decide +kernel
theorem d_LW_rule_19 : decode c_LW_rule 19 = .ok (.iconst 1, 1) := by decide +kernel
theorem d_LW_rule_20 : decode c_LW_rule 20 = .ok (.ireturn, 1) := by decide +kernel
theorem d_LW_rule_21 : decode c_LW_rule 21 = .ok (.astore 6, 2) := by decide +kernel
theorem d_LW_rule_23 : decode c_LW_rule 23 = .ok (.iconst 2, 1) := by decide +kernel
theorem d_LW_rule_24 : decode c_LW_rule 24 = .ok (.ireturn, 1) := by decide +kernel
theorem d_LW_rule_25 : decode c_LW_rule 25 = .ok (.iconst 0, 1) := by decide +kernel
theorem d_LW_rule_26 : decode c_LW_rule 26 = .ok (.ireturn, 1) := by decide +kernel
theorem d_LW_own_0 : decode c_LW_own 0 = .ok (.aload_n 0, 1) := by decide +kernel
theorem d_LW_own_1 : decode c_LW_own 1 = .ok (.iload_n 1, 1) := by decide +kernel
theorem d_LW_own_2 : decode c_LW_own 2 = .ok (.iload_n 2, 1) := by decide +kernel
theorem d_LW_own_3 : decode c_LW_own 3 = .ok (.invokevirtual 40, 3) := by decide +kernel
theorem d_LW_own_6 : decode c_LW_own 6 = .ok (.goto 6, 3) := by decide +kernel
theorem d_LW_own_9 : decode c_LW_own 9 = .ok (.astore_n 3, 1) := by decide +kernel
theorem d_LW_own_10 : decode c_LW_own 10 = .ok (.iconst 1, 1) := by decide +kernel
theorem d_LW_own_11 : decode c_LW_own 11 = .ok (.ireturn, 1) := by decide +kernel
theorem d_LW_own_12 : decode c_LW_own 12 = .ok (.iconst 0, 1) := by decide +kernel
theorem d_LW_own_13 : decode c_LW_own 13 = .ok (.ireturn, 1) := by decide +kernel
theorem d_LW_except_0 : decode c_LW_except 0 = .ok (.aload_n 0, 1) := by decide +kernel
theorem d_LW_except_1 : decode c_LW_except 1 = .ok (.iload_n 1, 1) := by decide +kernel
theorem d_LW_except_2 : decode c_LW_except 2 = .ok (.iload_n 2, 1) := by decide +kernel
theorem d_LW_except_3 : decode c_LW_except 3 = .ok (.iload_n 3, 1) := by decide +kernel
theorem d_LW_except_4 : decode c_LW_except 4 = .ok (.iload 4, 2) := by decide +kernel
theorem d_LW_except_6 : decode c_LW_except 6 = .ok (.invokevirtual 44, 3) := by decide +kernel
theorem d_LW_except_9 : decode c_LW_except 9 = .ok (.goto 15, 3) := by decide +kernel
theorem d_LW_except_12 : decode c_LW_except 12 = .ok (.astore 5, 2) := by decide +kernel
theorem d_LW_except_14 : decode c_LW_except 14 = .ok (.iconst 1, 1) := by decide +kernel
theorem d_LW_except_15 : decode c_LW_except 15 = .ok (.ireturn, 1) := by decide +kernel
theorem d_LW_except_16 : decode c_LW_except 16 = .ok (.astore 5, 2) := by decide +kernel
theorem d_LW_except_18 : decode c_LW_except 18 = .ok (.iconst 2, 1) := by decide +kernel
theorem d_LW_except_19 : decode c_LW_except 19 = .ok (.ireturn, 1) := by decide +kernel
theorem d_LW_except_20 : decode c_LW_except 20 = .ok (.astore 5, 2) := by decide +kernel
theorem d_LW_except_22 : decode c_LW_except 22 = .ok (.iconst 3, 1) := by decide +kernel
theorem d_LW_except_23 : decode c_LW_except 23 = .ok (.ireturn, 1) := by decide +kernel
theorem d_LW_except_24 : decode c_LW_except 24 = .ok (.iconst 0, 1) := by decide +kernel
theorem d_LW_except_25 : decode c_LW_except 25 = .ok (.ireturn, 1) := by decide +kernel
theorem d_LW_may_0 : decode c_LW_may 0 = .ok (.aload 4, 2) := by decide +kernel
theorem d_LW_may_2 : decode c_LW_may 2 = .ok (.iconst 0, 1) := by decide +kernel
theorem d_LW_may_3 : decode c_LW_may 3 = .ok (.aload_n 0, 1) := by decide +kernel
theorem d_LW_may_4 : decode c_LW_may 4 = .ok (.iload_n 1, 1) := by decide +kernel
theorem d_LW_may_5 : decode c_LW_may 5 = .ok (.iload_n 2, 1) := by decide +kernel
theorem d_LW_may_6 : decode c_LW_may 6 = .ok (.iload_n 3, 1) := by decide +kernel
theorem d_LW_may_7 : decode c_LW_may 7 = .ok (.invokevirtual 47, 3) := by decide +kernel
theorem d_LW_may_10 : decode c_LW_may 10 = .ok (.i2l, 1) := by decide +kernel
theorem d_LW_may_11 : decode c_LW_may 11 = .ok (.lastore, 1) := by decide +kernel
theorem d_LW_may_12 : decode c_LW_may 12 = .ok (.goto 11, 3) := by decide +kernel
theorem d_LW_may_15 : decode c_LW_may 15 = .ok (.astore 5, 2) := by decide +kernel
theorem d_LW_may_17 : decode c_LW_may 17 = .ok (.iconst 1, 1) := by decide +kernel
theorem d_LW_may_18 : decode c_LW_may 18 = .ok (.ireturn, 1) := by decide +kernel
theorem d_LW_may_19 : decode c_LW_may 19 = .ok (.astore 5, 2) := by decide +kernel
theorem d_LW_may_21 : decode c_LW_may 21 = .ok (.iconst 2, 1) := by decide +kernel
theorem d_LW_may_22 : decode c_LW_may 22 = .ok (.ireturn, 1) := by decide +kernel
theorem d_LW_may_23 : decode c_LW_may 23 = .ok (.iconst 0, 1) := by decide +kernel
theorem d_LW_may_24 : decode c_LW_may 24 = .ok (.ireturn, 1) := by decide +kernel
theorem d_LW_explain_0 : decode c_LW_explain 0 = .ok (.aload_n 2, 1) := by decide +kernel
theorem d_LW_explain_1 : decode c_LW_explain 1 = .ok (.iconst 0, 1) := by decide +kernel
theorem d_LW_explain_2 : decode c_LW_explain 2 = .ok (.aload_n 0, 1) := by decide +kernel
theorem d_LW_explain_3 : decode c_LW_explain 3 = .ok (.iload_n 1, 1) := by decide +kernel
theorem d_LW_explain_4 : decode c_LW_explain 4 = .ok (.invokevirtual 50, 3) := by decide +kernel
theorem d_LW_explain_7 : decode c_LW_explain 7 = .ok (.i2l, 1) := by decide +kernel
theorem d_LW_explain_8 : decode c_LW_explain 8 = .ok (.lastore, 1) := by decide +kernel
theorem d_LW_explain_9 : decode c_LW_explain 9 = .ok (.goto 6, 3) := by decide +kernel
theorem d_LW_explain_12 : decode c_LW_explain 12 = .ok (.astore_n 3, 1) := by decide +kernel
theorem d_LW_explain_13 : decode c_LW_explain 13 = .ok (.iconst 1, 1) := by decide +kernel
theorem d_LW_explain_14 : decode c_LW_explain 14 = .ok (.ireturn, 1) := by decide +kernel
theorem d_LW_explain_15 : decode c_LW_explain 15 = .ok (.iconst 0, 1) := by decide +kernel
theorem d_LW_explain_16 : decode c_LW_explain 16 = .ok (.ireturn, 1) := by decide +kernel
theorem d_LW_put_0 : decode c_LW_put 0 = .ok (.aload 4, 2) := by decide +kernel
theorem d_LW_put_2 : decode c_LW_put 2 = .ok (.iconst 0, 1) := by decide +kernel
theorem d_LW_put_3 : decode c_LW_put 3 = .ok (.aload_n 0, 1) := by decide +kernel
theorem d_LW_put_4 : decode c_LW_put 4 = .ok (.iload_n 1, 1) := by decide +kernel
theorem d_LW_put_5 : decode c_LW_put 5 = .ok (.iload_n 2, 1) := by decide +kernel
theorem d_LW_put_6 : decode c_LW_put 6 = .ok (.iload_n 3, 1) := by decide +kernel
theorem d_LW_put_7 : decode c_LW_put 7 = .ok (.invokevirtual 54, 3) := by decide +kernel
theorem d_LW_put_10 : decode c_LW_put 10 = .ok (.i2l, 1) := by decide +kernel
theorem d_LW_put_11 : decode c_LW_put 11 = .ok (.lastore, 1) := by decide +kernel
theorem d_LW_put_12 : decode c_LW_put 12 = .ok (.goto 15, 3) := by decide +kernel
theorem d_LW_put_15 : decode c_LW_put 15 = .ok (.astore 5, 2) := by decide +kernel
theorem d_LW_put_17 : decode c_LW_put 17 = .ok (.iconst 1, 1) := by decide +kernel
theorem d_LW_put_18 : decode c_LW_put 18 = .ok (.ireturn, 1) := by decide +kernel
theorem d_LW_put_19 : decode c_LW_put 19 = .ok (.astore 5, 2) := by decide +kernel
theorem d_LW_put_21 : decode c_LW_put 21 = .ok (.iconst 2, 1) := by decide +kernel
theorem d_LW_put_22 : decode c_LW_put 22 = .ok (.ireturn, 1) := by decide +kernel
theorem d_LW_put_23 : decode c_LW_put 23 = .ok (.astore 5, 2) := by decide +kernel
theorem d_LW_put_25 : decode c_LW_put 25 = .ok (.iconst 3, 1) := by decide +kernel
theorem d_LW_put_26 : decode c_LW_put 26 = .ok (.ireturn, 1) := by decide +kernel
theorem d_LW_put_27 : decode c_LW_put 27 = .ok (.iconst 0, 1) := by decide +kernel
theorem d_LW_put_28 : decode c_LW_put 28 = .ok (.ireturn, 1) := by decide +kernel
theorem d_LW_take_0 : decode c_LW_take 0 = .ok (.aload_n 0, 1) := by decide +kernel
theorem d_LW_take_1 : decode c_LW_take 1 = .ok (.iload_n 1, 1) := by decide +kernel
theorem d_LW_take_2 : decode c_LW_take 2 = .ok (.invokevirtual 57, 3) := by decide +kernel
theorem d_LW_take_5 : decode c_LW_take 5 = .ok (.goto 9, 3) := by decide +kernel
theorem d_LW_take_8 : decode c_LW_take 8 = .ok (.astore_n 2, 1) := by decide +kernel
theorem d_LW_take_9 : decode c_LW_take 9 = .ok (.iconst 1, 1) := by decide +kernel
theorem d_LW_take_10 : decode c_LW_take 10 = .ok (.ireturn, 1) := by decide +kernel
theorem d_LW_take_11 : decode c_LW_take 11 = .ok (.astore_n 2, 1) := by decide +kernel
theorem d_LW_take_12 : decode c_LW_take 12 = .ok (.iconst 2, 1) := by decide +kernel
theorem d_LW_take_13 : decode c_LW_take 13 = .ok (.ireturn, 1) := by decide +kernel
theorem d_LW_take_14 : decode c_LW_take 14 = .ok (.iconst 0, 1) := by decide +kernel
theorem d_LW_take_15 : decode c_LW_take 15 = .ok (.ireturn, 1) := by decide +kernel
theorem d_LW_turned_0 : decode c_LW_turned 0 = .ok (.aload_n 3, 1) := by decide +kernel
theorem d_LW_turned_1 : decode c_LW_turned 1 = .ok (.iconst 0, 1) := by decide +kernel
theorem d_LW_turned_2 : decode c_LW_turned 2 = .ok (.aload_n 0, 1) := by decide +kernel
theorem d_LW_turned_3 : decode c_LW_turned 3 = .ok (.iload_n 1, 1) := by decide +kernel
theorem d_LW_turned_4 : decode c_LW_turned 4 = .ok (.iload_n 2, 1) := by decide +kernel
theorem d_LW_turned_5 : decode c_LW_turned 5 = .ok (.invokevirtual 61, 3) := by decide +kernel
theorem d_LW_turned_8 : decode c_LW_turned 8 = .ok (.i2l, 1) := by decide +kernel
theorem d_LW_turned_9 : decode c_LW_turned 9 = .ok (.lastore, 1) := by decide +kernel
theorem d_LW_turned_10 : decode c_LW_turned 10 = .ok (.goto 11, 3) := by decide +kernel
theorem d_LW_turned_13 : decode c_LW_turned 13 = .ok (.astore 4, 2) := by decide +kernel
theorem d_LW_turned_15 : decode c_LW_turned 15 = .ok (.iconst 1, 1) := by decide +kernel
theorem d_LW_turned_16 : decode c_LW_turned 16 = .ok (.ireturn, 1) := by decide +kernel
theorem d_LW_turned_17 : decode c_LW_turned 17 = .ok (.astore 4, 2) := by decide +kernel
theorem d_LW_turned_19 : decode c_LW_turned 19 = .ok (.iconst 2, 1) := by decide +kernel
theorem d_LW_turned_20 : decode c_LW_turned 20 = .ok (.ireturn, 1) := by decide +kernel
theorem d_LW_turned_21 : decode c_LW_turned 21 = .ok (.iconst 0, 1) := by decide +kernel
theorem d_LW_turned_22 : decode c_LW_turned 22 = .ok (.ireturn, 1) := by decide +kernel
theorem d_LW_never_0 : decode c_LW_never 0 = .ok (.aload_n 2, 1) := by decide +kernel
theorem d_LW_never_1 : decode c_LW_never 1 = .ok (.iconst 0, 1) := by decide +kernel
theorem d_LW_never_2 : decode c_LW_never 2 = .ok (.aload_n 0, 1) := by decide +kernel
theorem d_LW_never_3 : decode c_LW_never 3 = .ok (.iload_n 1, 1) := by decide +kernel
theorem d_LW_never_4 : decode c_LW_never 4 = .ok (.invokevirtual 65, 3) := by decide +kernel
theorem d_LW_never_7 : decode c_LW_never 7 = .ok (.i2l, 1) := by decide +kernel
theorem d_LW_never_8 : decode c_LW_never 8 = .ok (.lastore, 1) := by decide +kernel
theorem d_LW_never_9 : decode c_LW_never 9 = .ok (.goto 6, 3) := by decide +kernel
theorem d_LW_never_12 : decode c_LW_never 12 = .ok (.astore_n 3, 1) := by decide +kernel
theorem d_LW_never_13 : decode c_LW_never 13 = .ok (.iconst 1, 1) := by decide +kernel
theorem d_LW_never_14 : decode c_LW_never 14 = .ok (.ireturn, 1) := by decide +kernel
theorem d_LW_never_15 : decode c_LW_never 15 = .ok (.iconst 0, 1) := by decide +kernel
theorem d_LW_never_16 : decode c_LW_never 16 = .ok (.ireturn, 1) := by decide +kernel
theorem d_LW_clash_0 : decode c_LW_clash 0 = .ok (.aload_n 3, 1) := by decide +kernel
theorem d_LW_clash_1 : decode c_LW_clash 1 = .ok (.iconst 0, 1) := by decide +kernel
theorem d_LW_clash_2 : decode c_LW_clash 2 = .ok (.aload_n 0, 1) := by decide +kernel
theorem d_LW_clash_3 : decode c_LW_clash 3 = .ok (.iload_n 1, 1) := by decide +kernel
theorem d_LW_clash_4 : decode c_LW_clash 4 = .ok (.iload_n 2, 1) := by decide +kernel
theorem d_LW_clash_5 : decode c_LW_clash 5 = .ok (.invokevirtual 68, 3) := by decide +kernel
theorem d_LW_clash_8 : decode c_LW_clash 8 = .ok (.i2l, 1) := by decide +kernel
theorem d_LW_clash_9 : decode c_LW_clash 9 = .ok (.lastore, 1) := by decide +kernel
theorem d_LW_clash_10 : decode c_LW_clash 10 = .ok (.goto 7, 3) := by decide +kernel
theorem d_LW_clash_13 : decode c_LW_clash 13 = .ok (.astore 4, 2) := by decide +kernel
theorem d_LW_clash_15 : decode c_LW_clash 15 = .ok (.iconst 1, 1) := by decide +kernel
theorem d_LW_clash_16 : decode c_LW_clash 16 = .ok (.ireturn, 1) := by decide +kernel
theorem d_LW_clash_17 : decode c_LW_clash 17 = .ok (.iconst 0, 1) := by decide +kernel
theorem d_LW_clash_18 : decode c_LW_clash 18 = .ok (.ireturn, 1) := by decide +kernel
theorem d_LW_at_0 : decode c_LW_at 0 = .ok (.aload_n 3, 1) := by decide +kernel
theorem d_LW_at_1 : decode c_LW_at 1 = .ok (.iconst 0, 1) := by decide +kernel
theorem d_LW_at_2 : decode c_LW_at 2 = .ok (.aload_n 0, 1) := by decide +kernel
theorem d_LW_at_3 : decode c_LW_at 3 = .ok (.iload_n 1, 1) := by decide +kernel
theorem d_LW_at_4 : decode c_LW_at 4 = .ok (.iload_n 2, 1) := by decide +kernel
theorem d_LW_at_5 : decode c_LW_at 5 = .ok (.invokevirtual 71, 3) := by decide +kernel
theorem d_LW_at_8 : decode c_LW_at 8 = .ok (.i2l, 1) := by decide +kernel
theorem d_LW_at_9 : decode c_LW_at 9 = .ok (.lastore, 1) := by decide +kernel
theorem d_LW_at_10 : decode c_LW_at 10 = .ok (.goto 7, 3) := by decide +kernel
theorem d_LW_at_13 : decode c_LW_at 13 = .ok (.astore 4, 2) := by decide +kernel
theorem d_LW_at_15 : decode c_LW_at 15 = .ok (.iconst 1, 1) := by decide +kernel
theorem d_LW_at_16 : decode c_LW_at 16 = .ok (.ireturn, 1) := by decide +kernel
theorem d_LW_at_17 : decode c_LW_at 17 = .ok (.iconst 0, 1) := by decide +kernel
theorem d_LW_at_18 : decode c_LW_at 18 = .ok (.ireturn, 1) := by decide +kernel
theorem d_LW_law_0 : decode code 0 = .ok (.new 8, 3) := by decide +kernel
theorem d_LW_law_3 : decode code 3 = .ok (.dup, 1) := by decide +kernel
theorem d_LW_law_4 : decode code 4 = .ok (.invokespecial 74, 3) := by decide +kernel
theorem d_LW_law_7 : decode code 7 = .ok (.astore_n 1, 1) := by decide +kernel
theorem d_LW_law_8 : decode code 8 = .ok (.new 75, 3) := by decide +kernel
theorem d_LW_law_11 : decode code 11 = .ok (.dup, 1) := by decide +kernel
theorem d_LW_law_12 : decode code 12 = .ok (.invokespecial 77, 3) := by decide +kernel
theorem d_LW_law_15 : decode code 15 = .ok (.astore_n 2, 1) := by decide +kernel
theorem d_LW_law_16 : decode code 16 = .ok (.iconst 1, 1) := by decide +kernel
theorem d_LW_law_17 : decode code 17 = .ok (.newarray .long, 2) := by decide +kernel
theorem d_LW_law_19 : decode code 19 = .ok (.astore_n 3, 1) := by decide +kernel
theorem d_LW_law_20 : decode code 20 = .ok (.iconst 0, 1) := by decide +kernel
theorem d_LW_law_21 : decode code 21 = .ok (.istore 4, 2) := by decide +kernel
theorem d_LW_law_23 : decode code 23 = .ok (.iload 4, 2) := by decide +kernel
theorem d_LW_law_25 : decode code 25 = .ok (.aload_n 0, 1) := by decide +kernel
theorem d_LW_law_26 : decode code 26 = .ok (.arraylength, 1) := by decide +kernel
theorem d_LW_law_27 : decode code 27 = .ok (.bipush 6, 2) := by decide +kernel
theorem d_LW_law_29 : decode code 29 = .ok (.isub, 1) := by decide +kernel
theorem d_LW_law_30 : decode code 30 = .ok (.if_icmp .gt 1263, 3) := by decide +kernel
theorem d_LW_law_33 : decode code 33 = .ok (.aload_n 0, 1) := by decide +kernel
theorem d_LW_law_34 : decode code 34 = .ok (.iload 4, 2) := by decide +kernel
theorem d_LW_law_36 : decode code 36 = .ok (.iaload, 1) := by decide +kernel
theorem d_LW_law_37 : decode code 37 = .ok (.bipush 31, 2) := by decide +kernel
theorem d_LW_law_39 : decode code 39 = .ok (.iand, 1) := by decide +kernel
theorem d_LW_law_40 : decode code 40 = .ok (.tableswitch 1247 0 18 #[92, 164, 224, 304, 388, 460, 552, 577, 590, 638, 710, 790, 846, 926, 962, 1030, 1086, 1154, 1222], 92) := by decide +kernel
theorem d_LW_law_132 : decode code 132 = .ok (.aload_n 1, 1) := by decide +kernel
theorem d_LW_law_133 : decode code 133 = .ok (.aload_n 0, 1) := by decide +kernel
theorem d_LW_law_134 : decode code 134 = .ok (.iload 4, 2) := by decide +kernel
theorem d_LW_law_136 : decode code 136 = .ok (.iconst 1, 1) := by decide +kernel
theorem d_LW_law_137 : decode code 137 = .ok (.iadd, 1) := by decide +kernel
theorem d_LW_law_138 : decode code 138 = .ok (.iaload, 1) := by decide +kernel
theorem d_LW_law_139 : decode code 139 = .ok (.aload_n 0, 1) := by decide +kernel
theorem d_LW_law_140 : decode code 140 = .ok (.iload 4, 2) := by decide +kernel
theorem d_LW_law_142 : decode code 142 = .ok (.iconst 2, 1) := by decide +kernel
theorem d_LW_law_143 : decode code 143 = .ok (.iadd, 1) := by decide +kernel
theorem d_LW_law_144 : decode code 144 = .ok (.iaload, 1) := by decide +kernel
theorem d_LW_law_145 : decode code 145 = .ok (.aload_n 0, 1) := by decide +kernel
theorem d_LW_law_146 : decode code 146 = .ok (.iload 4, 2) := by decide +kernel
theorem d_LW_law_148 : decode code 148 = .ok (.iconst 3, 1) := by decide +kernel
theorem d_LW_law_149 : decode code 149 = .ok (.iadd, 1) := by decide +kernel
theorem d_LW_law_150 : decode code 150 = .ok (.iaload, 1) := by decide +kernel
theorem d_LW_law_151 : decode code 151 = .ok (.aload_n 0, 1) := by decide +kernel
theorem d_LW_law_152 : decode code 152 = .ok (.iload 4, 2) := by decide +kernel
theorem d_LW_law_154 : decode code 154 = .ok (.iconst 4, 1) := by decide +kernel
theorem d_LW_law_155 : decode code 155 = .ok (.iadd, 1) := by decide +kernel
theorem d_LW_law_156 : decode code 156 = .ok (.iaload, 1) := by decide +kernel
theorem d_LW_law_157 : decode code 157 = .ok (.invokestatic 78, 3) := by decide +kernel
theorem d_LW_law_160 : decode code 160 = .ok (.istore 5, 2) := by decide +kernel
theorem d_LW_law_162 : decode code 162 = .ok (.aload_n 2, 1) := by decide +kernel
theorem d_LW_law_163 : decode code 163 = .ok (.aload_n 0, 1) := by decide +kernel
theorem d_LW_law_164 : decode code 164 = .ok (.iload 4, 2) := by decide +kernel
theorem d_LW_law_166 : decode code 166 = .ok (.iconst 1, 1) := by decide +kernel
theorem d_LW_law_167 : decode code 167 = .ok (.iadd, 1) := by decide +kernel
theorem d_LW_law_168 : decode code 168 = .ok (.iaload, 1) := by decide +kernel
theorem d_LW_law_169 : decode code 169 = .ok (.aload_n 0, 1) := by decide +kernel
theorem d_LW_law_170 : decode code 170 = .ok (.iload 4, 2) := by decide +kernel
theorem d_LW_law_172 : decode code 172 = .ok (.iconst 2, 1) := by decide +kernel
theorem d_LW_law_173 : decode code 173 = .ok (.iadd, 1) := by decide +kernel
theorem d_LW_law_174 : decode code 174 = .ok (.iaload, 1) := by decide +kernel
theorem d_LW_law_175 : decode code 175 = .ok (.aload_n 0, 1) := by decide +kernel
theorem d_LW_law_176 : decode code 176 = .ok (.iload 4, 2) := by decide +kernel
theorem d_LW_law_178 : decode code 178 = .ok (.iconst 3, 1) := by decide +kernel
theorem d_LW_law_179 : decode code 179 = .ok (.iadd, 1) := by decide +kernel
theorem d_LW_law_180 : decode code 180 = .ok (.iaload, 1) := by decide +kernel
theorem d_LW_law_181 : decode code 181 = .ok (.aload_n 0, 1) := by decide +kernel
theorem d_LW_law_182 : decode code 182 = .ok (.iload 4, 2) := by decide +kernel
theorem d_LW_law_184 : decode code 184 = .ok (.iconst 4, 1) := by decide +kernel
theorem d_LW_law_185 : decode code 185 = .ok (.iadd, 1) := by decide +kernel
theorem d_LW_law_186 : decode code 186 = .ok (.iaload, 1) := by decide +kernel
theorem d_LW_law_187 : decode code 187 = .ok (.invokevirtual 83, 3) := by decide +kernel
theorem d_LW_law_190 : decode code 190 = .ok (.aload_n 2, 1) := by decide +kernel
theorem d_LW_law_191 : decode code 191 = .ok (.invokevirtual 84, 3) := by decide +kernel
theorem d_LW_law_194 : decode code 194 = .ok (.iload 5, 2) := by decide +kernel
theorem d_LW_law_196 : decode code 196 = .ok (.if_icmp .eq 5, 3) := by decide +kernel
theorem d_LW_law_199 : decode code 199 = .ok (.iconst 0, 1) := by decide +kernel
theorem d_LW_law_200 : decode code 200 = .ok (.ireturn, 1) := by decide +kernel
theorem d_LW_law_201 : decode code 201 = .ok (.goto 1086, 3) := by decide +kernel
theorem d_LW_law_204 : decode code 204 = .ok (.aload_n 1, 1) := by decide +kernel
theorem d_LW_law_205 : decode code 205 = .ok (.aload_n 0, 1) := by decide +kernel
theorem d_LW_law_206 : decode code 206 = .ok (.iload 4, 2) := by decide +kernel
theorem d_LW_law_208 : decode code 208 = .ok (.iconst 1, 1) := by decide +kernel
theorem d_LW_law_209 : decode code 209 = .ok (.iadd, 1) := by decide +kernel
theorem d_LW_law_210 : decode code 210 = .ok (.iaload, 1) := by decide +kernel
theorem d_LW_law_211 : decode code 211 = .ok (.aload_n 0, 1) := by decide +kernel
theorem d_LW_law_212 : decode code 212 = .ok (.iload 4, 2) := by decide +kernel
theorem d_LW_law_214 : decode code 214 = .ok (.iconst 2, 1) := by decide +kernel
theorem d_LW_law_215 : decode code 215 = .ok (.iadd, 1) := by decide +kernel
theorem d_LW_law_216 : decode code 216 = .ok (.iaload, 1) := by decide +kernel
theorem d_LW_law_217 : decode code 217 = .ok (.aload_n 0, 1) := by decide +kernel
theorem d_LW_law_218 : decode code 218 = .ok (.iload 4, 2) := by decide +kernel
theorem d_LW_law_220 : decode code 220 = .ok (.iconst 3, 1) := by decide +kernel
theorem d_LW_law_221 : decode code 221 = .ok (.iadd, 1) := by decide +kernel
theorem d_LW_law_222 : decode code 222 = .ok (.iaload, 1) := by decide +kernel
theorem d_LW_law_223 : decode code 223 = .ok (.invokestatic 88, 3) := by decide +kernel
theorem d_LW_law_226 : decode code 226 = .ok (.istore 5, 2) := by decide +kernel
theorem d_LW_law_228 : decode code 228 = .ok (.aload_n 2, 1) := by decide +kernel
theorem d_LW_law_229 : decode code 229 = .ok (.aload_n 0, 1) := by decide +kernel
theorem d_LW_law_230 : decode code 230 = .ok (.iload 4, 2) := by decide +kernel
theorem d_LW_law_232 : decode code 232 = .ok (.iconst 1, 1) := by decide +kernel
theorem d_LW_law_233 : decode code 233 = .ok (.iadd, 1) := by decide +kernel
theorem d_LW_law_234 : decode code 234 = .ok (.iaload, 1) := by decide +kernel
theorem d_LW_law_235 : decode code 235 = .ok (.aload_n 0, 1) := by decide +kernel
theorem d_LW_law_236 : decode code 236 = .ok (.iload 4, 2) := by decide +kernel
theorem d_LW_law_238 : decode code 238 = .ok (.iconst 2, 1) := by decide +kernel
theorem d_LW_law_239 : decode code 239 = .ok (.iadd, 1) := by decide +kernel
theorem d_LW_law_240 : decode code 240 = .ok (.iaload, 1) := by decide +kernel
theorem d_LW_law_241 : decode code 241 = .ok (.aload_n 0, 1) := by decide +kernel
theorem d_LW_law_242 : decode code 242 = .ok (.iload 4, 2) := by decide +kernel
theorem d_LW_law_244 : decode code 244 = .ok (.iconst 3, 1) := by decide +kernel
theorem d_LW_law_245 : decode code 245 = .ok (.iadd, 1) := by decide +kernel
theorem d_LW_law_246 : decode code 246 = .ok (.iaload, 1) := by decide +kernel
theorem d_LW_law_247 : decode code 247 = .ok (.invokevirtual 91, 3) := by decide +kernel
theorem d_LW_law_250 : decode code 250 = .ok (.aload_n 2, 1) := by decide +kernel
theorem d_LW_law_251 : decode code 251 = .ok (.invokevirtual 84, 3) := by decide +kernel
theorem d_LW_law_254 : decode code 254 = .ok (.iload 5, 2) := by decide +kernel
theorem d_LW_law_256 : decode code 256 = .ok (.if_icmp .eq 5, 3) := by decide +kernel
theorem d_LW_law_259 : decode code 259 = .ok (.iconst 0, 1) := by decide +kernel
theorem d_LW_law_260 : decode code 260 = .ok (.ireturn, 1) := by decide +kernel
theorem d_LW_law_261 : decode code 261 = .ok (.goto 1026, 3) := by decide +kernel
theorem d_LW_law_264 : decode code 264 = .ok (.aload_n 1, 1) := by decide +kernel
theorem d_LW_law_265 : decode code 265 = .ok (.aload_n 0, 1) := by decide +kernel
theorem d_LW_law_266 : decode code 266 = .ok (.iload 4, 2) := by decide +kernel
theorem d_LW_law_268 : decode code 268 = .ok (.iconst 1, 1) := by decide +kernel
theorem d_LW_law_269 : decode code 269 = .ok (.iadd, 1) := by decide +kernel
theorem d_LW_law_270 : decode code 270 = .ok (.iaload, 1) := by decide +kernel
theorem d_LW_law_271 : decode code 271 = .ok (.aload_n 0, 1) := by decide +kernel
theorem d_LW_law_272 : decode code 272 = .ok (.iload 4, 2) := by decide +kernel
theorem d_LW_law_274 : decode code 274 = .ok (.iconst 2, 1) := by decide +kernel
theorem d_LW_law_275 : decode code 275 = .ok (.iadd, 1) := by decide +kernel
theorem d_LW_law_276 : decode code 276 = .ok (.iaload, 1) := by decide +kernel
theorem d_LW_law_277 : decode code 277 = .ok (.aload_n 0, 1) := by decide +kernel
theorem d_LW_law_278 : decode code 278 = .ok (.iload 4, 2) := by decide +kernel
theorem d_LW_law_280 : decode code 280 = .ok (.iconst 3, 1) := by decide +kernel
theorem d_LW_law_281 : decode code 281 = .ok (.iadd, 1) := by decide +kernel
theorem d_LW_law_282 : decode code 282 = .ok (.iaload, 1) := by decide +kernel
theorem d_LW_law_283 : decode code 283 = .ok (.aload_n 3, 1) := by decide +kernel
theorem d_LW_law_284 : decode code 284 = .ok (.invokestatic 92, 3) := by decide +kernel
theorem d_LW_law_287 : decode code 287 = .ok (.istore 5, 2) := by decide +kernel
theorem d_LW_law_289 : decode code 289 = .ok (.aload_n 2, 1) := by decide +kernel
theorem d_LW_law_290 : decode code 290 = .ok (.aload_n 0, 1) := by decide +kernel
theorem d_LW_law_291 : decode code 291 = .ok (.iload 4, 2) := by decide +kernel
theorem d_LW_law_293 : decode code 293 = .ok (.iconst 1, 1) := by decide +kernel
theorem d_LW_law_294 : decode code 294 = .ok (.iadd, 1) := by decide +kernel
theorem d_LW_law_295 : decode code 295 = .ok (.iaload, 1) := by decide +kernel
theorem d_LW_law_296 : decode code 296 = .ok (.aload_n 0, 1) := by decide +kernel
theorem d_LW_law_297 : decode code 297 = .ok (.iload 4, 2) := by decide +kernel
theorem d_LW_law_299 : decode code 299 = .ok (.iconst 2, 1) := by decide +kernel
theorem d_LW_law_300 : decode code 300 = .ok (.iadd, 1) := by decide +kernel
theorem d_LW_law_301 : decode code 301 = .ok (.iaload, 1) := by decide +kernel
theorem d_LW_law_302 : decode code 302 = .ok (.aload_n 0, 1) := by decide +kernel
theorem d_LW_law_303 : decode code 303 = .ok (.iload 4, 2) := by decide +kernel
theorem d_LW_law_305 : decode code 305 = .ok (.iconst 3, 1) := by decide +kernel
theorem d_LW_law_306 : decode code 306 = .ok (.iadd, 1) := by decide +kernel
theorem d_LW_law_307 : decode code 307 = .ok (.iaload, 1) := by decide +kernel
theorem d_LW_law_308 : decode code 308 = .ok (.invokevirtual 95, 3) := by decide +kernel
theorem d_LW_law_311 : decode code 311 = .ok (.istore 6, 2) := by decide +kernel
theorem d_LW_law_313 : decode code 313 = .ok (.aload_n 2, 1) := by decide +kernel
theorem d_LW_law_314 : decode code 314 = .ok (.invokevirtual 84, 3) := by decide +kernel
theorem d_LW_law_317 : decode code 317 = .ok (.iload 5, 2) := by decide +kernel
theorem d_LW_law_319 : decode code 319 = .ok (.if_icmp .eq 5, 3) := by decide +kernel
theorem d_LW_law_322 : decode code 322 = .ok (.iconst 0, 1) := by decide +kernel
theorem d_LW_law_323 : decode code 323 = .ok (.ireturn, 1) := by decide +kernel
theorem d_LW_law_324 : decode code 324 = .ok (.iload 5, 2) := by decide +kernel
theorem d_LW_law_326 : decode code 326 = .ok (.ifCond .ne 15, 3) := by decide +kernel
theorem d_LW_law_329 : decode code 329 = .ok (.aload_n 3, 1) := by decide +kernel
theorem d_LW_law_330 : decode code 330 = .ok (.iconst 0, 1) := by decide +kernel
theorem d_LW_law_331 : decode code 331 = .ok (.laload, 1) := by decide +kernel
theorem d_LW_law_332 : decode code 332 = .ok (.iload 6, 2) := by decide +kernel
theorem d_LW_law_334 : decode code 334 = .ok (.i2l, 1) := by decide +kernel
theorem d_LW_law_335 : decode code 335 = .ok (.lcmp, 1) := by decide +kernel
theorem d_LW_law_336 : decode code 336 = .ok (.ifCond .eq 5, 3) := by decide +kernel
theorem d_LW_law_339 : decode code 339 = .ok (.iconst 0, 1) := by decide +kernel
theorem d_LW_law_340 : decode code 340 = .ok (.ireturn, 1) := by decide +kernel
theorem d_LW_law_341 : decode code 341 = .ok (.goto 946, 3) := by decide +kernel
theorem d_LW_law_344 : decode code 344 = .ok (.aload_n 1, 1) := by decide +kernel
theorem d_LW_law_345 : decode code 345 = .ok (.aload_n 0, 1) := by decide +kernel
theorem d_LW_law_346 : decode code 346 = .ok (.iload 4, 2) := by decide +kernel
theorem d_LW_law_348 : decode code 348 = .ok (.iconst 1, 1) := by decide +kernel
theorem d_LW_law_349 : decode code 349 = .ok (.iadd, 1) := by decide +kernel
theorem d_LW_law_350 : decode code 350 = .ok (.iaload, 1) := by decide +kernel
theorem d_LW_law_351 : decode code 351 = .ok (.aload_n 0, 1) := by decide +kernel
theorem d_LW_law_352 : decode code 352 = .ok (.iload 4, 2) := by decide +kernel
theorem d_LW_law_354 : decode code 354 = .ok (.iconst 2, 1) := by decide +kernel
theorem d_LW_law_355 : decode code 355 = .ok (.iadd, 1) := by decide +kernel
theorem d_LW_law_356 : decode code 356 = .ok (.iaload, 1) := by decide +kernel
theorem d_LW_law_357 : decode code 357 = .ok (.aload_n 0, 1) := by decide +kernel
theorem d_LW_law_358 : decode code 358 = .ok (.iload 4, 2) := by decide +kernel
theorem d_LW_law_360 : decode code 360 = .ok (.iconst 3, 1) := by decide +kernel
theorem d_LW_law_361 : decode code 361 = .ok (.iadd, 1) := by decide +kernel
theorem d_LW_law_362 : decode code 362 = .ok (.iaload, 1) := by decide +kernel
theorem d_LW_law_363 : decode code 363 = .ok (.aload_n 0, 1) := by decide +kernel
theorem d_LW_law_364 : decode code 364 = .ok (.iload 4, 2) := by decide +kernel
theorem d_LW_law_366 : decode code 366 = .ok (.iconst 4, 1) := by decide +kernel
theorem d_LW_law_367 : decode code 367 = .ok (.iadd, 1) := by decide +kernel
theorem d_LW_law_368 : decode code 368 = .ok (.iaload, 1) := by decide +kernel
theorem d_LW_law_369 : decode code 369 = .ok (.aload_n 0, 1) := by decide +kernel
theorem d_LW_law_370 : decode code 370 = .ok (.iload 4, 2) := by decide +kernel
theorem d_LW_law_372 : decode code 372 = .ok (.iconst 5, 1) := by decide +kernel
theorem d_LW_law_373 : decode code 373 = .ok (.iadd, 1) := by decide +kernel
theorem d_LW_law_374 : decode code 374 = .ok (.iaload, 1) := by decide +kernel
theorem d_LW_law_375 : decode code 375 = .ok (.invokestatic 96, 3) := by decide +kernel
theorem d_LW_law_378 : decode code 378 = .ok (.istore 5, 2) := by decide +kernel
theorem d_LW_law_380 : decode code 380 = .ok (.aload_n 2, 1) := by decide +kernel
theorem d_LW_law_381 : decode code 381 = .ok (.aload_n 0, 1) := by decide +kernel
theorem d_LW_law_382 : decode code 382 = .ok (.iload 4, 2) := by decide +kernel
theorem d_LW_law_384 : decode code 384 = .ok (.iconst 1, 1) := by decide +kernel
theorem d_LW_law_385 : decode code 385 = .ok (.iadd, 1) := by decide +kernel
theorem d_LW_law_386 : decode code 386 = .ok (.iaload, 1) := by decide +kernel
theorem d_LW_law_387 : decode code 387 = .ok (.aload_n 0, 1) := by decide +kernel
theorem d_LW_law_388 : decode code 388 = .ok (.iload 4, 2) := by decide +kernel
theorem d_LW_law_390 : decode code 390 = .ok (.iconst 2, 1) := by decide +kernel
theorem d_LW_law_391 : decode code 391 = .ok (.iadd, 1) := by decide +kernel
theorem d_LW_law_392 : decode code 392 = .ok (.iaload, 1) := by decide +kernel
theorem d_LW_law_393 : decode code 393 = .ok (.aload_n 0, 1) := by decide +kernel
theorem d_LW_law_394 : decode code 394 = .ok (.iload 4, 2) := by decide +kernel
theorem d_LW_law_396 : decode code 396 = .ok (.iconst 3, 1) := by decide +kernel
theorem d_LW_law_397 : decode code 397 = .ok (.iadd, 1) := by decide +kernel
theorem d_LW_law_398 : decode code 398 = .ok (.iaload, 1) := by decide +kernel
theorem d_LW_law_399 : decode code 399 = .ok (.aload_n 0, 1) := by decide +kernel
theorem d_LW_law_400 : decode code 400 = .ok (.iload 4, 2) := by decide +kernel
theorem d_LW_law_402 : decode code 402 = .ok (.iconst 4, 1) := by decide +kernel
theorem d_LW_law_403 : decode code 403 = .ok (.iadd, 1) := by decide +kernel
theorem d_LW_law_404 : decode code 404 = .ok (.iaload, 1) := by decide +kernel
theorem d_LW_law_405 : decode code 405 = .ok (.aload_n 0, 1) := by decide +kernel
theorem d_LW_law_406 : decode code 406 = .ok (.iload 4, 2) := by decide +kernel
theorem d_LW_law_408 : decode code 408 = .ok (.iconst 5, 1) := by decide +kernel
theorem d_LW_law_409 : decode code 409 = .ok (.iadd, 1) := by decide +kernel
theorem d_LW_law_410 : decode code 410 = .ok (.iaload, 1) := by decide +kernel
theorem d_LW_law_411 : decode code 411 = .ok (.invokevirtual 99, 3) := by decide +kernel
theorem d_LW_law_414 : decode code 414 = .ok (.aload_n 2, 1) := by decide +kernel
theorem d_LW_law_415 : decode code 415 = .ok (.invokevirtual 84, 3) := by decide +kernel
theorem d_LW_law_418 : decode code 418 = .ok (.iload 5, 2) := by decide +kernel
theorem d_LW_law_420 : decode code 420 = .ok (.if_icmp .eq 5, 3) := by decide +kernel
theorem d_LW_law_423 : decode code 423 = .ok (.iconst 0, 1) := by decide +kernel
theorem d_LW_law_424 : decode code 424 = .ok (.ireturn, 1) := by decide +kernel
theorem d_LW_law_425 : decode code 425 = .ok (.goto 862, 3) := by decide +kernel
theorem d_LW_law_428 : decode code 428 = .ok (.aload_n 1, 1) := by decide +kernel
theorem d_LW_law_429 : decode code 429 = .ok (.aload_n 0, 1) := by decide +kernel
theorem d_LW_law_430 : decode code 430 = .ok (.iload 4, 2) := by decide +kernel
theorem d_LW_law_432 : decode code 432 = .ok (.iconst 1, 1) := by decide +kernel
theorem d_LW_law_433 : decode code 433 = .ok (.iadd, 1) := by decide +kernel
theorem d_LW_law_434 : decode code 434 = .ok (.iaload, 1) := by decide +kernel
theorem d_LW_law_435 : decode code 435 = .ok (.aload_n 0, 1) := by decide +kernel
theorem d_LW_law_436 : decode code 436 = .ok (.iload 4, 2) := by decide +kernel
theorem d_LW_law_438 : decode code 438 = .ok (.iconst 2, 1) := by decide +kernel
theorem d_LW_law_439 : decode code 439 = .ok (.iadd, 1) := by decide +kernel
theorem d_LW_law_440 : decode code 440 = .ok (.iaload, 1) := by decide +kernel
theorem d_LW_law_441 : decode code 441 = .ok (.aload_n 0, 1) := by decide +kernel
theorem d_LW_law_442 : decode code 442 = .ok (.iload 4, 2) := by decide +kernel
theorem d_LW_law_444 : decode code 444 = .ok (.iconst 3, 1) := by decide +kernel
theorem d_LW_law_445 : decode code 445 = .ok (.iadd, 1) := by decide +kernel
theorem d_LW_law_446 : decode code 446 = .ok (.iaload, 1) := by decide +kernel
theorem d_LW_law_447 : decode code 447 = .ok (.aload_n 0, 1) := by decide +kernel
theorem d_LW_law_448 : decode code 448 = .ok (.iload 4, 2) := by decide +kernel
theorem d_LW_law_450 : decode code 450 = .ok (.iconst 4, 1) := by decide +kernel
theorem d_LW_law_451 : decode code 451 = .ok (.iadd, 1) := by decide +kernel
theorem d_LW_law_452 : decode code 452 = .ok (.iaload, 1) := by decide +kernel
theorem d_LW_law_453 : decode code 453 = .ok (.invokestatic 100, 3) := by decide +kernel
theorem d_LW_law_456 : decode code 456 = .ok (.istore 5, 2) := by decide +kernel
theorem d_LW_law_458 : decode code 458 = .ok (.aload_n 2, 1) := by decide +kernel
theorem d_LW_law_459 : decode code 459 = .ok (.aload_n 0, 1) := by decide +kernel
theorem d_LW_law_460 : decode code 460 = .ok (.iload 4, 2) := by decide +kernel
theorem d_LW_law_462 : decode code 462 = .ok (.iconst 1, 1) := by decide +kernel
theorem d_LW_law_463 : decode code 463 = .ok (.iadd, 1) := by decide +kernel
theorem d_LW_law_464 : decode code 464 = .ok (.iaload, 1) := by decide +kernel
theorem d_LW_law_465 : decode code 465 = .ok (.aload_n 0, 1) := by decide +kernel
theorem d_LW_law_466 : decode code 466 = .ok (.iload 4, 2) := by decide +kernel
theorem d_LW_law_468 : decode code 468 = .ok (.iconst 2, 1) := by decide +kernel
theorem d_LW_law_469 : decode code 469 = .ok (.iadd, 1) := by decide +kernel
theorem d_LW_law_470 : decode code 470 = .ok (.iaload, 1) := by decide +kernel
theorem d_LW_law_471 : decode code 471 = .ok (.aload_n 0, 1) := by decide +kernel
theorem d_LW_law_472 : decode code 472 = .ok (.iload 4, 2) := by decide +kernel
theorem d_LW_law_474 : decode code 474 = .ok (.iconst 3, 1) := by decide +kernel
theorem d_LW_law_475 : decode code 475 = .ok (.iadd, 1) := by decide +kernel
theorem d_LW_law_476 : decode code 476 = .ok (.iaload, 1) := by decide +kernel
theorem d_LW_law_477 : decode code 477 = .ok (.aload_n 0, 1) := by decide +kernel
theorem d_LW_law_478 : decode code 478 = .ok (.iload 4, 2) := by decide +kernel
theorem d_LW_law_480 : decode code 480 = .ok (.iconst 4, 1) := by decide +kernel
theorem d_LW_law_481 : decode code 481 = .ok (.iadd, 1) := by decide +kernel
theorem d_LW_law_482 : decode code 482 = .ok (.iaload, 1) := by decide +kernel
theorem d_LW_law_483 : decode code 483 = .ok (.invokevirtual 102, 3) := by decide +kernel
theorem d_LW_law_486 : decode code 486 = .ok (.aload_n 2, 1) := by decide +kernel
theorem d_LW_law_487 : decode code 487 = .ok (.invokevirtual 84, 3) := by decide +kernel
theorem d_LW_law_490 : decode code 490 = .ok (.iload 5, 2) := by decide +kernel
theorem d_LW_law_492 : decode code 492 = .ok (.if_icmp .eq 5, 3) := by decide +kernel
theorem d_LW_law_495 : decode code 495 = .ok (.iconst 0, 1) := by decide +kernel
theorem d_LW_law_496 : decode code 496 = .ok (.ireturn, 1) := by decide +kernel
theorem d_LW_law_497 : decode code 497 = .ok (.goto 790, 3) := by decide +kernel
theorem d_LW_law_500 : decode code 500 = .ok (.aload_n 1, 1) := by decide +kernel
theorem d_LW_law_501 : decode code 501 = .ok (.aload_n 0, 1) := by decide +kernel
theorem d_LW_law_502 : decode code 502 = .ok (.iload 4, 2) := by decide +kernel
theorem d_LW_law_504 : decode code 504 = .ok (.iconst 1, 1) := by decide +kernel
theorem d_LW_law_505 : decode code 505 = .ok (.iadd, 1) := by decide +kernel
theorem d_LW_law_506 : decode code 506 = .ok (.iaload, 1) := by decide +kernel
theorem d_LW_law_507 : decode code 507 = .ok (.aload_n 0, 1) := by decide +kernel
theorem d_LW_law_508 : decode code 508 = .ok (.iload 4, 2) := by decide +kernel
theorem d_LW_law_510 : decode code 510 = .ok (.iconst 2, 1) := by decide +kernel
theorem d_LW_law_511 : decode code 511 = .ok (.iadd, 1) := by decide +kernel
theorem d_LW_law_512 : decode code 512 = .ok (.iaload, 1) := by decide +kernel
theorem d_LW_law_513 : decode code 513 = .ok (.aload_n 0, 1) := by decide +kernel
theorem d_LW_law_514 : decode code 514 = .ok (.iload 4, 2) := by decide +kernel
theorem d_LW_law_516 : decode code 516 = .ok (.iconst 3, 1) := by decide +kernel
theorem d_LW_law_517 : decode code 517 = .ok (.iadd, 1) := by decide +kernel
theorem d_LW_law_518 : decode code 518 = .ok (.iaload, 1) := by decide +kernel
theorem d_LW_law_519 : decode code 519 = .ok (.aload_n 0, 1) := by decide +kernel
theorem d_LW_law_520 : decode code 520 = .ok (.iload 4, 2) := by decide +kernel
theorem d_LW_law_522 : decode code 522 = .ok (.iconst 4, 1) := by decide +kernel
theorem d_LW_law_523 : decode code 523 = .ok (.iadd, 1) := by decide +kernel
theorem d_LW_law_524 : decode code 524 = .ok (.iaload, 1) := by decide +kernel
theorem d_LW_law_525 : decode code 525 = .ok (.aload_n 3, 1) := by decide +kernel
theorem d_LW_law_526 : decode code 526 = .ok (.invokestatic 103, 3) := by decide +kernel
theorem d_LW_law_529 : decode code 529 = .ok (.istore 5, 2) := by decide +kernel
theorem d_LW_law_531 : decode code 531 = .ok (.aload_n 2, 1) := by decide +kernel
theorem d_LW_law_532 : decode code 532 = .ok (.aload_n 0, 1) := by decide +kernel
theorem d_LW_law_533 : decode code 533 = .ok (.iload 4, 2) := by decide +kernel
theorem d_LW_law_535 : decode code 535 = .ok (.iconst 1, 1) := by decide +kernel
theorem d_LW_law_536 : decode code 536 = .ok (.iadd, 1) := by decide +kernel
theorem d_LW_law_537 : decode code 537 = .ok (.iaload, 1) := by decide +kernel
theorem d_LW_law_538 : decode code 538 = .ok (.aload_n 0, 1) := by decide +kernel
theorem d_LW_law_539 : decode code 539 = .ok (.iload 4, 2) := by decide +kernel
theorem d_LW_law_541 : decode code 541 = .ok (.iconst 2, 1) := by decide +kernel
theorem d_LW_law_542 : decode code 542 = .ok (.iadd, 1) := by decide +kernel
theorem d_LW_law_543 : decode code 543 = .ok (.iaload, 1) := by decide +kernel
theorem d_LW_law_544 : decode code 544 = .ok (.aload_n 0, 1) := by decide +kernel
theorem d_LW_law_545 : decode code 545 = .ok (.iload 4, 2) := by decide +kernel
theorem d_LW_law_547 : decode code 547 = .ok (.iconst 3, 1) := by decide +kernel
theorem d_LW_law_548 : decode code 548 = .ok (.iadd, 1) := by decide +kernel
theorem d_LW_law_549 : decode code 549 = .ok (.iaload, 1) := by decide +kernel
theorem d_LW_law_550 : decode code 550 = .ok (.aload_n 0, 1) := by decide +kernel
theorem d_LW_law_551 : decode code 551 = .ok (.iload 4, 2) := by decide +kernel
theorem d_LW_law_553 : decode code 553 = .ok (.iconst 4, 1) := by decide +kernel
theorem d_LW_law_554 : decode code 554 = .ok (.iadd, 1) := by decide +kernel
theorem d_LW_law_555 : decode code 555 = .ok (.iaload, 1) := by decide +kernel
theorem d_LW_law_556 : decode code 556 = .ok (.invokevirtual 106, 3) := by decide +kernel
theorem d_LW_law_559 : decode code 559 = .ok (.istore 6, 2) := by decide +kernel
theorem d_LW_law_561 : decode code 561 = .ok (.aload_n 2, 1) := by decide +kernel
theorem d_LW_law_562 : decode code 562 = .ok (.invokevirtual 84, 3) := by decide +kernel
theorem d_LW_law_565 : decode code 565 = .ok (.iload 5, 2) := by decide +kernel
theorem d_LW_law_567 : decode code 567 = .ok (.if_icmp .eq 5, 3) := by decide +kernel
theorem d_LW_law_570 : decode code 570 = .ok (.iconst 0, 1) := by decide +kernel
theorem d_LW_law_571 : decode code 571 = .ok (.ireturn, 1) := by decide +kernel
theorem d_LW_law_572 : decode code 572 = .ok (.iload 5, 2) := by decide +kernel
theorem d_LW_law_574 : decode code 574 = .ok (.ifCond .ne 15, 3) := by decide +kernel
theorem d_LW_law_577 : decode code 577 = .ok (.aload_n 3, 1) := by decide +kernel
theorem d_LW_law_578 : decode code 578 = .ok (.iconst 0, 1) := by decide +kernel
theorem d_LW_law_579 : decode code 579 = .ok (.laload, 1) := by decide +kernel
theorem d_LW_law_580 : decode code 580 = .ok (.iload 6, 2) := by decide +kernel
theorem d_LW_law_582 : decode code 582 = .ok (.i2l, 1) := by decide +kernel
theorem d_LW_law_583 : decode code 583 = .ok (.lcmp, 1) := by decide +kernel
theorem d_LW_law_584 : decode code 584 = .ok (.ifCond .eq 5, 3) := by decide +kernel
theorem d_LW_law_587 : decode code 587 = .ok (.iconst 0, 1) := by decide +kernel
theorem d_LW_law_588 : decode code 588 = .ok (.ireturn, 1) := by decide +kernel
theorem d_LW_law_589 : decode code 589 = .ok (.goto 698, 3) := by decide +kernel
theorem d_LW_law_592 : decode code 592 = .ok (.aload_n 1, 1) := by decide +kernel
theorem d_LW_law_593 : decode code 593 = .ok (.aload_n 0, 1) := by decide +kernel
theorem d_LW_law_594 : decode code 594 = .ok (.iload 4, 2) := by decide +kernel
theorem d_LW_law_596 : decode code 596 = .ok (.iconst 1, 1) := by decide +kernel
theorem d_LW_law_597 : decode code 597 = .ok (.iadd, 1) := by decide +kernel
theorem d_LW_law_598 : decode code 598 = .ok (.iaload, 1) := by decide +kernel
theorem d_LW_law_599 : decode code 599 = .ok (.invokevirtual 107, 3) := by decide +kernel
theorem d_LW_law_602 : decode code 602 = .ok (.aload_n 2, 1) := by decide +kernel
theorem d_LW_law_603 : decode code 603 = .ok (.aload_n 0, 1) := by decide +kernel
theorem d_LW_law_604 : decode code 604 = .ok (.iload 4, 2) := by decide +kernel
theorem d_LW_law_606 : decode code 606 = .ok (.iconst 1, 1) := by decide +kernel
theorem d_LW_law_607 : decode code 607 = .ok (.iadd, 1) := by decide +kernel
theorem d_LW_law_608 : decode code 608 = .ok (.iaload, 1) := by decide +kernel
theorem d_LW_law_609 : decode code 609 = .ok (.invokevirtual 110, 3) := by decide +kernel
theorem d_LW_law_612 : decode code 612 = .ok (.if_icmp .eq 675, 3) := by decide +kernel
theorem d_LW_law_615 : decode code 615 = .ok (.iconst 0, 1) := by decide +kernel
theorem d_LW_law_616 : decode code 616 = .ok (.ireturn, 1) := by decide +kernel
theorem d_LW_law_617 : decode code 617 = .ok (.aload_n 1, 1) := by decide +kernel
theorem d_LW_law_618 : decode code 618 = .ok (.invokevirtual 111, 3) := by decide +kernel
theorem d_LW_law_621 : decode code 621 = .ok (.aload_n 2, 1) := by decide +kernel
theorem d_LW_law_622 : decode code 622 = .ok (.invokevirtual 114, 3) := by decide +kernel
theorem d_LW_law_625 : decode code 625 = .ok (.if_icmp .eq 662, 3) := by decide +kernel
theorem d_LW_law_628 : decode code 628 = .ok (.iconst 0, 1) := by decide +kernel
theorem d_LW_law_629 : decode code 629 = .ok (.ireturn, 1) := by decide +kernel
theorem d_LW_law_630 : decode code 630 = .ok (.aload_n 1, 1) := by decide +kernel
theorem d_LW_law_631 : decode code 631 = .ok (.aload_n 0, 1) := by decide +kernel
theorem d_LW_law_632 : decode code 632 = .ok (.iload 4, 2) := by decide +kernel
theorem d_LW_law_634 : decode code 634 = .ok (.iconst 1, 1) := by decide +kernel
theorem d_LW_law_635 : decode code 635 = .ok (.iadd, 1) := by decide +kernel
theorem d_LW_law_636 : decode code 636 = .ok (.iaload, 1) := by decide +kernel
theorem d_LW_law_637 : decode code 637 = .ok (.aload_n 0, 1) := by decide +kernel
theorem d_LW_law_638 : decode code 638 = .ok (.iload 4, 2) := by decide +kernel
theorem d_LW_law_640 : decode code 640 = .ok (.iconst 2, 1) := by decide +kernel
theorem d_LW_law_641 : decode code 641 = .ok (.iadd, 1) := by decide +kernel
theorem d_LW_law_642 : decode code 642 = .ok (.iaload, 1) := by decide +kernel
theorem d_LW_law_643 : decode code 643 = .ok (.invokestatic 115, 3) := by decide +kernel
theorem d_LW_law_646 : decode code 646 = .ok (.istore 5, 2) := by decide +kernel
theorem d_LW_law_648 : decode code 648 = .ok (.aload_n 2, 1) := by decide +kernel
theorem d_LW_law_649 : decode code 649 = .ok (.aload_n 0, 1) := by decide +kernel
theorem d_LW_law_650 : decode code 650 = .ok (.iload 4, 2) := by decide +kernel
theorem d_LW_law_652 : decode code 652 = .ok (.iconst 1, 1) := by decide +kernel
theorem d_LW_law_653 : decode code 653 = .ok (.iadd, 1) := by decide +kernel
theorem d_LW_law_654 : decode code 654 = .ok (.iaload, 1) := by decide +kernel
theorem d_LW_law_655 : decode code 655 = .ok (.aload_n 0, 1) := by decide +kernel
theorem d_LW_law_656 : decode code 656 = .ok (.iload 4, 2) := by decide +kernel
theorem d_LW_law_658 : decode code 658 = .ok (.iconst 2, 1) := by decide +kernel
theorem d_LW_law_659 : decode code 659 = .ok (.iadd, 1) := by decide +kernel
theorem d_LW_law_660 : decode code 660 = .ok (.iaload, 1) := by decide +kernel
theorem d_LW_law_661 : decode code 661 = .ok (.invokevirtual 118, 3) := by decide +kernel
theorem d_LW_law_664 : decode code 664 = .ok (.aload_n 2, 1) := by decide +kernel
theorem d_LW_law_665 : decode code 665 = .ok (.invokevirtual 84, 3) := by decide +kernel
theorem d_LW_law_668 : decode code 668 = .ok (.iload 5, 2) := by decide +kernel
theorem d_LW_law_670 : decode code 670 = .ok (.if_icmp .eq 5, 3) := by decide +kernel
theorem d_LW_law_673 : decode code 673 = .ok (.iconst 0, 1) := by decide +kernel
theorem d_LW_law_674 : decode code 674 = .ok (.ireturn, 1) := by decide +kernel
theorem d_LW_law_675 : decode code 675 = .ok (.goto 612, 3) := by decide +kernel
theorem d_LW_law_678 : decode code 678 = .ok (.aload_n 1, 1) := by decide +kernel
theorem d_LW_law_679 : decode code 679 = .ok (.aload_n 0, 1) := by decide +kernel
theorem d_LW_law_680 : decode code 680 = .ok (.iload 4, 2) := by decide +kernel
theorem d_LW_law_682 : decode code 682 = .ok (.iconst 1, 1) := by decide +kernel
theorem d_LW_law_683 : decode code 683 = .ok (.iadd, 1) := by decide +kernel
theorem d_LW_law_684 : decode code 684 = .ok (.iaload, 1) := by decide +kernel
theorem d_LW_law_685 : decode code 685 = .ok (.aload_n 0, 1) := by decide +kernel
theorem d_LW_law_686 : decode code 686 = .ok (.iload 4, 2) := by decide +kernel
theorem d_LW_law_688 : decode code 688 = .ok (.iconst 2, 1) := by decide +kernel
theorem d_LW_law_689 : decode code 689 = .ok (.iadd, 1) := by decide +kernel
theorem d_LW_law_690 : decode code 690 = .ok (.iaload, 1) := by decide +kernel
theorem d_LW_law_691 : decode code 691 = .ok (.aload_n 0, 1) := by decide +kernel
theorem d_LW_law_692 : decode code 692 = .ok (.iload 4, 2) := by decide +kernel
theorem d_LW_law_694 : decode code 694 = .ok (.iconst 3, 1) := by decide +kernel
theorem d_LW_law_695 : decode code 695 = .ok (.iadd, 1) := by decide +kernel
theorem d_LW_law_696 : decode code 696 = .ok (.iaload, 1) := by decide +kernel
theorem d_LW_law_697 : decode code 697 = .ok (.aload_n 0, 1) := by decide +kernel
theorem d_LW_law_698 : decode code 698 = .ok (.iload 4, 2) := by decide +kernel
theorem d_LW_law_700 : decode code 700 = .ok (.iconst 4, 1) := by decide +kernel
theorem d_LW_law_701 : decode code 701 = .ok (.iadd, 1) := by decide +kernel
theorem d_LW_law_702 : decode code 702 = .ok (.iaload, 1) := by decide +kernel
theorem d_LW_law_703 : decode code 703 = .ok (.invokestatic 119, 3) := by decide +kernel
theorem d_LW_law_706 : decode code 706 = .ok (.istore 5, 2) := by decide +kernel
theorem d_LW_law_708 : decode code 708 = .ok (.aload_n 2, 1) := by decide +kernel
theorem d_LW_law_709 : decode code 709 = .ok (.aload_n 0, 1) := by decide +kernel
theorem d_LW_law_710 : decode code 710 = .ok (.iload 4, 2) := by decide +kernel
theorem d_LW_law_712 : decode code 712 = .ok (.iconst 1, 1) := by decide +kernel
theorem d_LW_law_713 : decode code 713 = .ok (.iadd, 1) := by decide +kernel
theorem d_LW_law_714 : decode code 714 = .ok (.iaload, 1) := by decide +kernel
theorem d_LW_law_715 : decode code 715 = .ok (.aload_n 0, 1) := by decide +kernel
theorem d_LW_law_716 : decode code 716 = .ok (.iload 4, 2) := by decide +kernel
theorem d_LW_law_718 : decode code 718 = .ok (.iconst 2, 1) := by decide +kernel
theorem d_LW_law_719 : decode code 719 = .ok (.iadd, 1) := by decide +kernel
theorem d_LW_law_720 : decode code 720 = .ok (.iaload, 1) := by decide +kernel
theorem d_LW_law_721 : decode code 721 = .ok (.aload_n 0, 1) := by decide +kernel
theorem d_LW_law_722 : decode code 722 = .ok (.iload 4, 2) := by decide +kernel
theorem d_LW_law_724 : decode code 724 = .ok (.iconst 3, 1) := by decide +kernel
theorem d_LW_law_725 : decode code 725 = .ok (.iadd, 1) := by decide +kernel
theorem d_LW_law_726 : decode code 726 = .ok (.iaload, 1) := by decide +kernel
theorem d_LW_law_727 : decode code 727 = .ok (.aload_n 0, 1) := by decide +kernel
theorem d_LW_law_728 : decode code 728 = .ok (.iload 4, 2) := by decide +kernel
theorem d_LW_law_730 : decode code 730 = .ok (.iconst 4, 1) := by decide +kernel
theorem d_LW_law_731 : decode code 731 = .ok (.iadd, 1) := by decide +kernel
theorem d_LW_law_732 : decode code 732 = .ok (.iaload, 1) := by decide +kernel
theorem d_LW_law_733 : decode code 733 = .ok (.invokevirtual 121, 3) := by decide +kernel
theorem d_LW_law_736 : decode code 736 = .ok (.aload_n 2, 1) := by decide +kernel
theorem d_LW_law_737 : decode code 737 = .ok (.invokevirtual 84, 3) := by decide +kernel
theorem d_LW_law_740 : decode code 740 = .ok (.iload 5, 2) := by decide +kernel
theorem d_LW_law_742 : decode code 742 = .ok (.if_icmp .eq 5, 3) := by decide +kernel
theorem d_LW_law_745 : decode code 745 = .ok (.iconst 0, 1) := by decide +kernel
theorem d_LW_law_746 : decode code 746 = .ok (.ireturn, 1) := by decide +kernel
theorem d_LW_law_747 : decode code 747 = .ok (.goto 540, 3) := by decide +kernel
theorem d_LW_law_750 : decode code 750 = .ok (.aload_n 1, 1) := by decide +kernel
theorem d_LW_law_751 : decode code 751 = .ok (.aload_n 0, 1) := by decide +kernel
theorem d_LW_law_752 : decode code 752 = .ok (.iload 4, 2) := by decide +kernel
theorem d_LW_law_754 : decode code 754 = .ok (.iconst 1, 1) := by decide +kernel
theorem d_LW_law_755 : decode code 755 = .ok (.iadd, 1) := by decide +kernel
theorem d_LW_law_756 : decode code 756 = .ok (.iaload, 1) := by decide +kernel
theorem d_LW_law_757 : decode code 757 = .ok (.aload_n 0, 1) := by decide +kernel
theorem d_LW_law_758 : decode code 758 = .ok (.iload 4, 2) := by decide +kernel
theorem d_LW_law_760 : decode code 760 = .ok (.iconst 2, 1) := by decide +kernel
theorem d_LW_law_761 : decode code 761 = .ok (.iadd, 1) := by decide +kernel
theorem d_LW_law_762 : decode code 762 = .ok (.iaload, 1) := by decide +kernel
theorem d_LW_law_763 : decode code 763 = .ok (.aload_n 0, 1) := by decide +kernel
theorem d_LW_law_764 : decode code 764 = .ok (.iload 4, 2) := by decide +kernel
theorem d_LW_law_766 : decode code 766 = .ok (.iconst 3, 1) := by decide +kernel
theorem d_LW_law_767 : decode code 767 = .ok (.iadd, 1) := by decide +kernel
theorem d_LW_law_768 : decode code 768 = .ok (.iaload, 1) := by decide +kernel
theorem d_LW_law_769 : decode code 769 = .ok (.aload_n 3, 1) := by decide +kernel
theorem d_LW_law_770 : decode code 770 = .ok (.invokestatic 122, 3) := by decide +kernel
theorem d_LW_law_773 : decode code 773 = .ok (.istore 5, 2) := by decide +kernel
theorem d_LW_law_775 : decode code 775 = .ok (.aload_n 2, 1) := by decide +kernel
theorem d_LW_law_776 : decode code 776 = .ok (.aload_n 0, 1) := by decide +kernel
theorem d_LW_law_777 : decode code 777 = .ok (.iload 4, 2) := by decide +kernel
theorem d_LW_law_779 : decode code 779 = .ok (.iconst 1, 1) := by decide +kernel
theorem d_LW_law_780 : decode code 780 = .ok (.iadd, 1) := by decide +kernel
theorem d_LW_law_781 : decode code 781 = .ok (.iaload, 1) := by decide +kernel
theorem d_LW_law_782 : decode code 782 = .ok (.aload_n 0, 1) := by decide +kernel
theorem d_LW_law_783 : decode code 783 = .ok (.iload 4, 2) := by decide +kernel
theorem d_LW_law_785 : decode code 785 = .ok (.iconst 2, 1) := by decide +kernel
theorem d_LW_law_786 : decode code 786 = .ok (.iadd, 1) := by decide +kernel
theorem d_LW_law_787 : decode code 787 = .ok (.iaload, 1) := by decide +kernel
theorem d_LW_law_788 : decode code 788 = .ok (.aload_n 0, 1) := by decide +kernel
theorem d_LW_law_789 : decode code 789 = .ok (.iload 4, 2) := by decide +kernel
theorem d_LW_law_791 : decode code 791 = .ok (.iconst 3, 1) := by decide +kernel
theorem d_LW_law_792 : decode code 792 = .ok (.iadd, 1) := by decide +kernel
theorem d_LW_law_793 : decode code 793 = .ok (.iaload, 1) := by decide +kernel
theorem d_LW_law_794 : decode code 794 = .ok (.invokevirtual 124, 3) := by decide +kernel
theorem d_LW_law_797 : decode code 797 = .ok (.istore 6, 2) := by decide +kernel
theorem d_LW_law_799 : decode code 799 = .ok (.aload_n 2, 1) := by decide +kernel
theorem d_LW_law_800 : decode code 800 = .ok (.invokevirtual 84, 3) := by decide +kernel
theorem d_LW_law_803 : decode code 803 = .ok (.iload 5, 2) := by decide +kernel
theorem d_LW_law_805 : decode code 805 = .ok (.if_icmp .eq 5, 3) := by decide +kernel
theorem d_LW_law_808 : decode code 808 = .ok (.iconst 0, 1) := by decide +kernel
theorem d_LW_law_809 : decode code 809 = .ok (.ireturn, 1) := by decide +kernel
theorem d_LW_law_810 : decode code 810 = .ok (.iload 5, 2) := by decide +kernel
theorem d_LW_law_812 : decode code 812 = .ok (.ifCond .ne 15, 3) := by decide +kernel
theorem d_LW_law_815 : decode code 815 = .ok (.aload_n 3, 1) := by decide +kernel
theorem d_LW_law_816 : decode code 816 = .ok (.iconst 0, 1) := by decide +kernel
theorem d_LW_law_817 : decode code 817 = .ok (.laload, 1) := by decide +kernel
theorem d_LW_law_818 : decode code 818 = .ok (.iload 6, 2) := by decide +kernel
theorem d_LW_law_820 : decode code 820 = .ok (.i2l, 1) := by decide +kernel
theorem d_LW_law_821 : decode code 821 = .ok (.lcmp, 1) := by decide +kernel
theorem d_LW_law_822 : decode code 822 = .ok (.ifCond .eq 5, 3) := by decide +kernel
theorem d_LW_law_825 : decode code 825 = .ok (.iconst 0, 1) := by decide +kernel
theorem d_LW_law_826 : decode code 826 = .ok (.ireturn, 1) := by decide +kernel
theorem d_LW_law_827 : decode code 827 = .ok (.goto 460, 3) := by decide +kernel
theorem d_LW_law_830 : decode code 830 = .ok (.aload_n 1, 1) := by decide +kernel
theorem d_LW_law_831 : decode code 831 = .ok (.aload_n 0, 1) := by decide +kernel
theorem d_LW_law_832 : decode code 832 = .ok (.iload 4, 2) := by decide +kernel
theorem d_LW_law_834 : decode code 834 = .ok (.iconst 1, 1) := by decide +kernel
theorem d_LW_law_835 : decode code 835 = .ok (.iadd, 1) := by decide +kernel
theorem d_LW_law_836 : decode code 836 = .ok (.iaload, 1) := by decide +kernel
theorem d_LW_law_837 : decode code 837 = .ok (.aload_n 3, 1) := by decide +kernel
theorem d_LW_law_838 : decode code 838 = .ok (.invokestatic 125, 3) := by decide +kernel
theorem d_LW_law_841 : decode code 841 = .ok (.istore 5, 2) := by decide +kernel
theorem d_LW_law_843 : decode code 843 = .ok (.aload_n 2, 1) := by decide +kernel
theorem d_LW_law_844 : decode code 844 = .ok (.aload_n 0, 1) := by decide +kernel
theorem d_LW_law_845 : decode code 845 = .ok (.iload 4, 2) := by decide +kernel
theorem d_LW_law_847 : decode code 847 = .ok (.iconst 1, 1) := by decide +kernel
theorem d_LW_law_848 : decode code 848 = .ok (.iadd, 1) := by decide +kernel
theorem d_LW_law_849 : decode code 849 = .ok (.iaload, 1) := by decide +kernel
theorem d_LW_law_850 : decode code 850 = .ok (.invokevirtual 128, 3) := by decide +kernel
theorem d_LW_law_853 : decode code 853 = .ok (.istore 6, 2) := by decide +kernel
theorem d_LW_law_855 : decode code 855 = .ok (.aload_n 2, 1) := by decide +kernel
theorem d_LW_law_856 : decode code 856 = .ok (.invokevirtual 84, 3) := by decide +kernel
theorem d_LW_law_859 : decode code 859 = .ok (.iload 5, 2) := by decide +kernel
theorem d_LW_law_861 : decode code 861 = .ok (.if_icmp .eq 5, 3) := by decide +kernel
theorem d_LW_law_864 : decode code 864 = .ok (.iconst 0, 1) := by decide +kernel
theorem d_LW_law_865 : decode code 865 = .ok (.ireturn, 1) := by decide +kernel
theorem d_LW_law_866 : decode code 866 = .ok (.iload 5, 2) := by decide +kernel
theorem d_LW_law_868 : decode code 868 = .ok (.ifCond .ne 15, 3) := by decide +kernel
theorem d_LW_law_871 : decode code 871 = .ok (.aload_n 3, 1) := by decide +kernel
theorem d_LW_law_872 : decode code 872 = .ok (.iconst 0, 1) := by decide +kernel
theorem d_LW_law_873 : decode code 873 = .ok (.laload, 1) := by decide +kernel
theorem d_LW_law_874 : decode code 874 = .ok (.iload 6, 2) := by decide +kernel
theorem d_LW_law_876 : decode code 876 = .ok (.i2l, 1) := by decide +kernel
theorem d_LW_law_877 : decode code 877 = .ok (.lcmp, 1) := by decide +kernel
theorem d_LW_law_878 : decode code 878 = .ok (.ifCond .eq 5, 3) := by decide +kernel
theorem d_LW_law_881 : decode code 881 = .ok (.iconst 0, 1) := by decide +kernel
theorem d_LW_law_882 : decode code 882 = .ok (.ireturn, 1) := by decide +kernel
theorem d_LW_law_883 : decode code 883 = .ok (.goto 404, 3) := by decide +kernel
theorem d_LW_law_886 : decode code 886 = .ok (.aload_n 1, 1) := by decide +kernel
theorem d_LW_law_887 : decode code 887 = .ok (.aload_n 0, 1) := by decide +kernel
theorem d_LW_law_888 : decode code 888 = .ok (.iload 4, 2) := by decide +kernel
theorem d_LW_law_890 : decode code 890 = .ok (.iconst 1, 1) := by decide +kernel
theorem d_LW_law_891 : decode code 891 = .ok (.iadd, 1) := by decide +kernel
theorem d_LW_law_892 : decode code 892 = .ok (.iaload, 1) := by decide +kernel
theorem d_LW_law_893 : decode code 893 = .ok (.aload_n 0, 1) := by decide +kernel
theorem d_LW_law_894 : decode code 894 = .ok (.iload 4, 2) := by decide +kernel
theorem d_LW_law_896 : decode code 896 = .ok (.iconst 2, 1) := by decide +kernel
theorem d_LW_law_897 : decode code 897 = .ok (.iadd, 1) := by decide +kernel
theorem d_LW_law_898 : decode code 898 = .ok (.iaload, 1) := by decide +kernel
theorem d_LW_law_899 : decode code 899 = .ok (.aload_n 0, 1) := by decide +kernel
theorem d_LW_law_900 : decode code 900 = .ok (.iload 4, 2) := by decide +kernel
theorem d_LW_law_902 : decode code 902 = .ok (.iconst 3, 1) := by decide +kernel
theorem d_LW_law_903 : decode code 903 = .ok (.iadd, 1) := by decide +kernel
theorem d_LW_law_904 : decode code 904 = .ok (.iaload, 1) := by decide +kernel
theorem d_LW_law_905 : decode code 905 = .ok (.aload_n 3, 1) := by decide +kernel
theorem d_LW_law_906 : decode code 906 = .ok (.invokestatic 129, 3) := by decide +kernel
theorem d_LW_law_909 : decode code 909 = .ok (.istore 5, 2) := by decide +kernel
theorem d_LW_law_911 : decode code 911 = .ok (.aload_n 2, 1) := by decide +kernel
theorem d_LW_law_912 : decode code 912 = .ok (.aload_n 0, 1) := by decide +kernel
theorem d_LW_law_913 : decode code 913 = .ok (.iload 4, 2) := by decide +kernel
theorem d_LW_law_915 : decode code 915 = .ok (.iconst 1, 1) := by decide +kernel
theorem d_LW_law_916 : decode code 916 = .ok (.iadd, 1) := by decide +kernel
theorem d_LW_law_917 : decode code 917 = .ok (.iaload, 1) := by decide +kernel
theorem d_LW_law_918 : decode code 918 = .ok (.aload_n 0, 1) := by decide +kernel
theorem d_LW_law_919 : decode code 919 = .ok (.iload 4, 2) := by decide +kernel
theorem d_LW_law_921 : decode code 921 = .ok (.iconst 2, 1) := by decide +kernel
theorem d_LW_law_922 : decode code 922 = .ok (.iadd, 1) := by decide +kernel
theorem d_LW_law_923 : decode code 923 = .ok (.iaload, 1) := by decide +kernel
theorem d_LW_law_924 : decode code 924 = .ok (.aload_n 0, 1) := by decide +kernel
theorem d_LW_law_925 : decode code 925 = .ok (.iload 4, 2) := by decide +kernel
theorem d_LW_law_927 : decode code 927 = .ok (.iconst 3, 1) := by decide +kernel
theorem d_LW_law_928 : decode code 928 = .ok (.iadd, 1) := by decide +kernel
theorem d_LW_law_929 : decode code 929 = .ok (.iaload, 1) := by decide +kernel
theorem d_LW_law_930 : decode code 930 = .ok (.invokevirtual 131, 3) := by decide +kernel
theorem d_LW_law_933 : decode code 933 = .ok (.istore 6, 2) := by decide +kernel
theorem d_LW_law_935 : decode code 935 = .ok (.aload_n 2, 1) := by decide +kernel
theorem d_LW_law_936 : decode code 936 = .ok (.invokevirtual 84, 3) := by decide +kernel
theorem d_LW_law_939 : decode code 939 = .ok (.iload 5, 2) := by decide +kernel
theorem d_LW_law_941 : decode code 941 = .ok (.if_icmp .eq 5, 3) := by decide +kernel
theorem d_LW_law_944 : decode code 944 = .ok (.iconst 0, 1) := by decide +kernel
theorem d_LW_law_945 : decode code 945 = .ok (.ireturn, 1) := by decide +kernel
theorem d_LW_law_946 : decode code 946 = .ok (.iload 5, 2) := by decide +kernel
theorem d_LW_law_948 : decode code 948 = .ok (.ifCond .ne 15, 3) := by decide +kernel
theorem d_LW_law_951 : decode code 951 = .ok (.aload_n 3, 1) := by decide +kernel
theorem d_LW_law_952 : decode code 952 = .ok (.iconst 0, 1) := by decide +kernel
theorem d_LW_law_953 : decode code 953 = .ok (.laload, 1) := by decide +kernel
theorem d_LW_law_954 : decode code 954 = .ok (.iload 6, 2) := by decide +kernel
theorem d_LW_law_956 : decode code 956 = .ok (.i2l, 1) := by decide +kernel
theorem d_LW_law_957 : decode code 957 = .ok (.lcmp, 1) := by decide +kernel
theorem d_LW_law_958 : decode code 958 = .ok (.ifCond .eq 5, 3) := by decide +kernel
theorem d_LW_law_961 : decode code 961 = .ok (.iconst 0, 1) := by decide +kernel
theorem d_LW_law_962 : decode code 962 = .ok (.ireturn, 1) := by decide +kernel
theorem d_LW_law_963 : decode code 963 = .ok (.goto 324, 3) := by decide +kernel
theorem d_LW_law_966 : decode code 966 = .ok (.aload_n 1, 1) := by decide +kernel
theorem d_LW_law_967 : decode code 967 = .ok (.aload_n 0, 1) := by decide +kernel
theorem d_LW_law_968 : decode code 968 = .ok (.iload 4, 2) := by decide +kernel
theorem d_LW_law_970 : decode code 970 = .ok (.iconst 1, 1) := by decide +kernel
theorem d_LW_law_971 : decode code 971 = .ok (.iadd, 1) := by decide +kernel
theorem d_LW_law_972 : decode code 972 = .ok (.iaload, 1) := by decide +kernel
theorem d_LW_law_973 : decode code 973 = .ok (.invokestatic 132, 3) := by decide +kernel
theorem d_LW_law_976 : decode code 976 = .ok (.istore 5, 2) := by decide +kernel
theorem d_LW_law_978 : decode code 978 = .ok (.aload_n 2, 1) := by decide +kernel
theorem d_LW_law_979 : decode code 979 = .ok (.aload_n 0, 1) := by decide +kernel
theorem d_LW_law_980 : decode code 980 = .ok (.iload 4, 2) := by decide +kernel
theorem d_LW_law_982 : decode code 982 = .ok (.iconst 1, 1) := by decide +kernel
theorem d_LW_law_983 : decode code 983 = .ok (.iadd, 1) := by decide +kernel
theorem d_LW_law_984 : decode code 984 = .ok (.iaload, 1) := by decide +kernel
theorem d_LW_law_985 : decode code 985 = .ok (.invokevirtual 135, 3) := by decide +kernel
theorem d_LW_law_988 : decode code 988 = .ok (.aload_n 2, 1) := by decide +kernel
theorem d_LW_law_989 : decode code 989 = .ok (.invokevirtual 84, 3) := by decide +kernel
theorem d_LW_law_992 : decode code 992 = .ok (.iload 5, 2) := by decide +kernel
theorem d_LW_law_994 : decode code 994 = .ok (.if_icmp .eq 5, 3) := by decide +kernel
theorem d_LW_law_997 : decode code 997 = .ok (.iconst 0, 1) := by decide +kernel
theorem d_LW_law_998 : decode code 998 = .ok (.ireturn, 1) := by decide +kernel
theorem d_LW_law_999 : decode code 999 = .ok (.goto 288, 3) := by decide +kernel
theorem d_LW_law_1002 : decode code 1002 = .ok (.aload_n 1, 1) := by decide +kernel
theorem d_LW_law_1003 : decode code 1003 = .ok (.aload_n 0, 1) := by decide +kernel
theorem d_LW_law_1004 : decode code 1004 = .ok (.iload 4, 2) := by decide +kernel
theorem d_LW_law_1006 : decode code 1006 = .ok (.iconst 1, 1) := by decide +kernel
theorem d_LW_law_1007 : decode code 1007 = .ok (.iadd, 1) := by decide +kernel
theorem d_LW_law_1008 : decode code 1008 = .ok (.iaload, 1) := by decide +kernel
theorem d_LW_law_1009 : decode code 1009 = .ok (.aload_n 0, 1) := by decide +kernel
theorem d_LW_law_1010 : decode code 1010 = .ok (.iload 4, 2) := by decide +kernel
theorem d_LW_law_1012 : decode code 1012 = .ok (.iconst 2, 1) := by decide +kernel
theorem d_LW_law_1013 : decode code 1013 = .ok (.iadd, 1) := by decide +kernel
theorem d_LW_law_1014 : decode code 1014 = .ok (.iaload, 1) := by decide +kernel
theorem d_LW_law_1015 : decode code 1015 = .ok (.aload_n 3, 1) := by decide +kernel
theorem d_LW_law_1016 : decode code 1016 = .ok (.invokestatic 136, 3) := by decide +kernel
theorem d_LW_law_1019 : decode code 1019 = .ok (.istore 5, 2) := by decide +kernel
theorem d_LW_law_1021 : decode code 1021 = .ok (.aload_n 2, 1) := by decide +kernel
theorem d_LW_law_1022 : decode code 1022 = .ok (.aload_n 0, 1) := by decide +kernel
theorem d_LW_law_1023 : decode code 1023 = .ok (.iload 4, 2) := by decide +kernel
theorem d_LW_law_1025 : decode code 1025 = .ok (.iconst 1, 1) := by decide +kernel
theorem d_LW_law_1026 : decode code 1026 = .ok (.iadd, 1) := by decide +kernel
theorem d_LW_law_1027 : decode code 1027 = .ok (.iaload, 1) := by decide +kernel
theorem d_LW_law_1028 : decode code 1028 = .ok (.aload_n 0, 1) := by decide +kernel
theorem d_LW_law_1029 : decode code 1029 = .ok (.iload 4, 2) := by decide +kernel
theorem d_LW_law_1031 : decode code 1031 = .ok (.iconst 2, 1) := by decide +kernel
theorem d_LW_law_1032 : decode code 1032 = .ok (.iadd, 1) := by decide +kernel
theorem d_LW_law_1033 : decode code 1033 = .ok (.iaload, 1) := by decide +kernel
theorem d_LW_law_1034 : decode code 1034 = .ok (.invokevirtual 139, 3) := by decide +kernel
theorem d_LW_law_1037 : decode code 1037 = .ok (.istore 6, 2) := by decide +kernel
theorem d_LW_law_1039 : decode code 1039 = .ok (.aload_n 2, 1) := by decide +kernel
theorem d_LW_law_1040 : decode code 1040 = .ok (.invokevirtual 84, 3) := by decide +kernel
theorem d_LW_law_1043 : decode code 1043 = .ok (.iload 5, 2) := by decide +kernel
theorem d_LW_law_1045 : decode code 1045 = .ok (.if_icmp .eq 5, 3) := by decide +kernel
theorem d_LW_law_1048 : decode code 1048 = .ok (.iconst 0, 1) := by decide +kernel
theorem d_LW_law_1049 : decode code 1049 = .ok (.ireturn, 1) := by decide +kernel
theorem d_LW_law_1050 : decode code 1050 = .ok (.iload 5, 2) := by decide +kernel
theorem d_LW_law_1052 : decode code 1052 = .ok (.ifCond .ne 15, 3) := by decide +kernel
theorem d_LW_law_1055 : decode code 1055 = .ok (.aload_n 3, 1) := by decide +kernel
theorem d_LW_law_1056 : decode code 1056 = .ok (.iconst 0, 1) := by decide +kernel
theorem d_LW_law_1057 : decode code 1057 = .ok (.laload, 1) := by decide +kernel
theorem d_LW_law_1058 : decode code 1058 = .ok (.iload 6, 2) := by decide +kernel
theorem d_LW_law_1060 : decode code 1060 = .ok (.i2l, 1) := by decide +kernel
theorem d_LW_law_1061 : decode code 1061 = .ok (.lcmp, 1) := by decide +kernel
theorem d_LW_law_1062 : decode code 1062 = .ok (.ifCond .eq 5, 3) := by decide +kernel
theorem d_LW_law_1065 : decode code 1065 = .ok (.iconst 0, 1) := by decide +kernel
theorem d_LW_law_1066 : decode code 1066 = .ok (.ireturn, 1) := by decide +kernel
theorem d_LW_law_1067 : decode code 1067 = .ok (.goto 220, 3) := by decide +kernel
theorem d_LW_law_1070 : decode code 1070 = .ok (.aload_n 1, 1) := by decide +kernel
theorem d_LW_law_1071 : decode code 1071 = .ok (.aload_n 0, 1) := by decide +kernel
theorem d_LW_law_1072 : decode code 1072 = .ok (.iload 4, 2) := by decide +kernel
theorem d_LW_law_1074 : decode code 1074 = .ok (.iconst 1, 1) := by decide +kernel
theorem d_LW_law_1075 : decode code 1075 = .ok (.iadd, 1) := by decide +kernel
theorem d_LW_law_1076 : decode code 1076 = .ok (.iaload, 1) := by decide +kernel
theorem d_LW_law_1077 : decode code 1077 = .ok (.aload_n 3, 1) := by decide +kernel
theorem d_LW_law_1078 : decode code 1078 = .ok (.invokestatic 140, 3) := by decide +kernel
theorem d_LW_law_1081 : decode code 1081 = .ok (.istore 5, 2) := by decide +kernel
theorem d_LW_law_1083 : decode code 1083 = .ok (.aload_n 2, 1) := by decide +kernel
theorem d_LW_law_1084 : decode code 1084 = .ok (.aload_n 0, 1) := by decide +kernel
theorem d_LW_law_1085 : decode code 1085 = .ok (.iload 4, 2) := by decide +kernel
theorem d_LW_law_1087 : decode code 1087 = .ok (.iconst 1, 1) := by decide +kernel
theorem d_LW_law_1088 : decode code 1088 = .ok (.iadd, 1) := by decide +kernel
theorem d_LW_law_1089 : decode code 1089 = .ok (.iaload, 1) := by decide +kernel
theorem d_LW_law_1090 : decode code 1090 = .ok (.invokevirtual 142, 3) := by decide +kernel
theorem d_LW_law_1093 : decode code 1093 = .ok (.istore 6, 2) := by decide +kernel
theorem d_LW_law_1095 : decode code 1095 = .ok (.aload_n 2, 1) := by decide +kernel
theorem d_LW_law_1096 : decode code 1096 = .ok (.invokevirtual 84, 3) := by decide +kernel
theorem d_LW_law_1099 : decode code 1099 = .ok (.iload 5, 2) := by decide +kernel
theorem d_LW_law_1101 : decode code 1101 = .ok (.if_icmp .eq 5, 3) := by decide +kernel
theorem d_LW_law_1104 : decode code 1104 = .ok (.iconst 0, 1) := by decide +kernel
theorem d_LW_law_1105 : decode code 1105 = .ok (.ireturn, 1) := by decide +kernel
theorem d_LW_law_1106 : decode code 1106 = .ok (.iload 5, 2) := by decide +kernel
theorem d_LW_law_1108 : decode code 1108 = .ok (.ifCond .ne 15, 3) := by decide +kernel
theorem d_LW_law_1111 : decode code 1111 = .ok (.aload_n 3, 1) := by decide +kernel
theorem d_LW_law_1112 : decode code 1112 = .ok (.iconst 0, 1) := by decide +kernel
theorem d_LW_law_1113 : decode code 1113 = .ok (.laload, 1) := by decide +kernel
theorem d_LW_law_1114 : decode code 1114 = .ok (.iload 6, 2) := by decide +kernel
theorem d_LW_law_1116 : decode code 1116 = .ok (.i2l, 1) := by decide +kernel
theorem d_LW_law_1117 : decode code 1117 = .ok (.lcmp, 1) := by decide +kernel
theorem d_LW_law_1118 : decode code 1118 = .ok (.ifCond .eq 5, 3) := by decide +kernel
theorem d_LW_law_1121 : decode code 1121 = .ok (.iconst 0, 1) := by decide +kernel
theorem d_LW_law_1122 : decode code 1122 = .ok (.ireturn, 1) := by decide +kernel
theorem d_LW_law_1123 : decode code 1123 = .ok (.goto 164, 3) := by decide +kernel
theorem d_LW_law_1126 : decode code 1126 = .ok (.aload_n 1, 1) := by decide +kernel
theorem d_LW_law_1127 : decode code 1127 = .ok (.aload_n 0, 1) := by decide +kernel
theorem d_LW_law_1128 : decode code 1128 = .ok (.iload 4, 2) := by decide +kernel
theorem d_LW_law_1130 : decode code 1130 = .ok (.iconst 1, 1) := by decide +kernel
theorem d_LW_law_1131 : decode code 1131 = .ok (.iadd, 1) := by decide +kernel
theorem d_LW_law_1132 : decode code 1132 = .ok (.iaload, 1) := by decide +kernel
theorem d_LW_law_1133 : decode code 1133 = .ok (.aload_n 0, 1) := by decide +kernel
theorem d_LW_law_1134 : decode code 1134 = .ok (.iload 4, 2) := by decide +kernel
theorem d_LW_law_1136 : decode code 1136 = .ok (.iconst 2, 1) := by decide +kernel
theorem d_LW_law_1137 : decode code 1137 = .ok (.iadd, 1) := by decide +kernel
theorem d_LW_law_1138 : decode code 1138 = .ok (.iaload, 1) := by decide +kernel
theorem d_LW_law_1139 : decode code 1139 = .ok (.aload_n 3, 1) := by decide +kernel
theorem d_LW_law_1140 : decode code 1140 = .ok (.invokestatic 143, 3) := by decide +kernel
theorem d_LW_law_1143 : decode code 1143 = .ok (.istore 5, 2) := by decide +kernel
theorem d_LW_law_1145 : decode code 1145 = .ok (.aload_n 2, 1) := by decide +kernel
theorem d_LW_law_1146 : decode code 1146 = .ok (.aload_n 0, 1) := by decide +kernel
theorem d_LW_law_1147 : decode code 1147 = .ok (.iload 4, 2) := by decide +kernel
theorem d_LW_law_1149 : decode code 1149 = .ok (.iconst 1, 1) := by decide +kernel
theorem d_LW_law_1150 : decode code 1150 = .ok (.iadd, 1) := by decide +kernel
theorem d_LW_law_1151 : decode code 1151 = .ok (.iaload, 1) := by decide +kernel
theorem d_LW_law_1152 : decode code 1152 = .ok (.aload_n 0, 1) := by decide +kernel
theorem d_LW_law_1153 : decode code 1153 = .ok (.iload 4, 2) := by decide +kernel
theorem d_LW_law_1155 : decode code 1155 = .ok (.iconst 2, 1) := by decide +kernel
theorem d_LW_law_1156 : decode code 1156 = .ok (.iadd, 1) := by decide +kernel
theorem d_LW_law_1157 : decode code 1157 = .ok (.iaload, 1) := by decide +kernel
theorem d_LW_law_1158 : decode code 1158 = .ok (.invokevirtual 145, 3) := by decide +kernel
theorem d_LW_law_1161 : decode code 1161 = .ok (.istore 6, 2) := by decide +kernel
theorem d_LW_law_1163 : decode code 1163 = .ok (.aload_n 2, 1) := by decide +kernel
theorem d_LW_law_1164 : decode code 1164 = .ok (.invokevirtual 84, 3) := by decide +kernel
theorem d_LW_law_1167 : decode code 1167 = .ok (.iload 5, 2) := by decide +kernel
theorem d_LW_law_1169 : decode code 1169 = .ok (.if_icmp .eq 5, 3) := by decide +kernel
theorem d_LW_law_1172 : decode code 1172 = .ok (.iconst 0, 1) := by decide +kernel
theorem d_LW_law_1173 : decode code 1173 = .ok (.ireturn, 1) := by decide +kernel
theorem d_LW_law_1174 : decode code 1174 = .ok (.iload 5, 2) := by decide +kernel
theorem d_LW_law_1176 : decode code 1176 = .ok (.ifCond .ne 15, 3) := by decide +kernel
theorem d_LW_law_1179 : decode code 1179 = .ok (.aload_n 3, 1) := by decide +kernel
theorem d_LW_law_1180 : decode code 1180 = .ok (.iconst 0, 1) := by decide +kernel
theorem d_LW_law_1181 : decode code 1181 = .ok (.laload, 1) := by decide +kernel
theorem d_LW_law_1182 : decode code 1182 = .ok (.iload 6, 2) := by decide +kernel
theorem d_LW_law_1184 : decode code 1184 = .ok (.i2l, 1) := by decide +kernel
theorem d_LW_law_1185 : decode code 1185 = .ok (.lcmp, 1) := by decide +kernel
theorem d_LW_law_1186 : decode code 1186 = .ok (.ifCond .eq 5, 3) := by decide +kernel
theorem d_LW_law_1189 : decode code 1189 = .ok (.iconst 0, 1) := by decide +kernel
theorem d_LW_law_1190 : decode code 1190 = .ok (.ireturn, 1) := by decide +kernel
theorem d_LW_law_1191 : decode code 1191 = .ok (.goto 96, 3) := by decide +kernel
theorem d_LW_law_1194 : decode code 1194 = .ok (.aload_n 1, 1) := by decide +kernel
theorem d_LW_law_1195 : decode code 1195 = .ok (.aload_n 0, 1) := by decide +kernel
theorem d_LW_law_1196 : decode code 1196 = .ok (.iload 4, 2) := by decide +kernel
theorem d_LW_law_1198 : decode code 1198 = .ok (.iconst 1, 1) := by decide +kernel
theorem d_LW_law_1199 : decode code 1199 = .ok (.iadd, 1) := by decide +kernel
theorem d_LW_law_1200 : decode code 1200 = .ok (.iaload, 1) := by decide +kernel
theorem d_LW_law_1201 : decode code 1201 = .ok (.aload_n 0, 1) := by decide +kernel
theorem d_LW_law_1202 : decode code 1202 = .ok (.iload 4, 2) := by decide +kernel
theorem d_LW_law_1204 : decode code 1204 = .ok (.iconst 2, 1) := by decide +kernel
theorem d_LW_law_1205 : decode code 1205 = .ok (.iadd, 1) := by decide +kernel
theorem d_LW_law_1206 : decode code 1206 = .ok (.iaload, 1) := by decide +kernel
theorem d_LW_law_1207 : decode code 1207 = .ok (.aload_n 3, 1) := by decide +kernel
theorem d_LW_law_1208 : decode code 1208 = .ok (.invokestatic 146, 3) := by decide +kernel
theorem d_LW_law_1211 : decode code 1211 = .ok (.istore 5, 2) := by decide +kernel
theorem d_LW_law_1213 : decode code 1213 = .ok (.aload_n 2, 1) := by decide +kernel
theorem d_LW_law_1214 : decode code 1214 = .ok (.aload_n 0, 1) := by decide +kernel
theorem d_LW_law_1215 : decode code 1215 = .ok (.iload 4, 2) := by decide +kernel
theorem d_LW_law_1217 : decode code 1217 = .ok (.iconst 1, 1) := by decide +kernel
theorem d_LW_law_1218 : decode code 1218 = .ok (.iadd, 1) := by decide +kernel
theorem d_LW_law_1219 : decode code 1219 = .ok (.iaload, 1) := by decide +kernel
theorem d_LW_law_1220 : decode code 1220 = .ok (.aload_n 0, 1) := by decide +kernel
theorem d_LW_law_1221 : decode code 1221 = .ok (.iload 4, 2) := by decide +kernel
theorem d_LW_law_1223 : decode code 1223 = .ok (.iconst 2, 1) := by decide +kernel
theorem d_LW_law_1224 : decode code 1224 = .ok (.iadd, 1) := by decide +kernel
theorem d_LW_law_1225 : decode code 1225 = .ok (.iaload, 1) := by decide +kernel
theorem d_LW_law_1226 : decode code 1226 = .ok (.invokevirtual 148, 3) := by decide +kernel
theorem d_LW_law_1229 : decode code 1229 = .ok (.istore 6, 2) := by decide +kernel
theorem d_LW_law_1231 : decode code 1231 = .ok (.aload_n 2, 1) := by decide +kernel
theorem d_LW_law_1232 : decode code 1232 = .ok (.invokevirtual 84, 3) := by decide +kernel
theorem d_LW_law_1235 : decode code 1235 = .ok (.iload 5, 2) := by decide +kernel
theorem d_LW_law_1237 : decode code 1237 = .ok (.if_icmp .eq 5, 3) := by decide +kernel
theorem d_LW_law_1240 : decode code 1240 = .ok (.iconst 0, 1) := by decide +kernel
theorem d_LW_law_1241 : decode code 1241 = .ok (.ireturn, 1) := by decide +kernel
theorem d_LW_law_1242 : decode code 1242 = .ok (.iload 5, 2) := by decide +kernel
theorem d_LW_law_1244 : decode code 1244 = .ok (.ifCond .ne 15, 3) := by decide +kernel
theorem d_LW_law_1247 : decode code 1247 = .ok (.aload_n 3, 1) := by decide +kernel
theorem d_LW_law_1248 : decode code 1248 = .ok (.iconst 0, 1) := by decide +kernel
theorem d_LW_law_1249 : decode code 1249 = .ok (.laload, 1) := by decide +kernel
theorem d_LW_law_1250 : decode code 1250 = .ok (.iload 6, 2) := by decide +kernel
theorem d_LW_law_1252 : decode code 1252 = .ok (.i2l, 1) := by decide +kernel
theorem d_LW_law_1253 : decode code 1253 = .ok (.lcmp, 1) := by decide +kernel
theorem d_LW_law_1254 : decode code 1254 = .ok (.ifCond .eq 5, 3) := by decide +kernel
theorem d_LW_law_1257 : decode code 1257 = .ok (.iconst 0, 1) := by decide +kernel
theorem d_LW_law_1258 : decode code 1258 = .ok (.ireturn, 1) := by decide +kernel
theorem d_LW_law_1259 : decode code 1259 = .ok (.goto 28, 3) := by decide +kernel
theorem d_LW_law_1262 : decode code 1262 = .ok (.aload_n 1, 1) := by decide +kernel
theorem d_LW_law_1263 : decode code 1263 = .ok (.aload_n 0, 1) := by decide +kernel
theorem d_LW_law_1264 : decode code 1264 = .ok (.iload 4, 2) := by decide +kernel
theorem d_LW_law_1266 : decode code 1266 = .ok (.iconst 1, 1) := by decide +kernel
theorem d_LW_law_1267 : decode code 1267 = .ok (.iadd, 1) := by decide +kernel
theorem d_LW_law_1268 : decode code 1268 = .ok (.iaload, 1) := by decide +kernel
theorem d_LW_law_1269 : decode code 1269 = .ok (.invokevirtual 149, 3) := by decide +kernel
theorem d_LW_law_1272 : decode code 1272 = .ok (.aload_n 2, 1) := by decide +kernel
theorem d_LW_law_1273 : decode code 1273 = .ok (.aload_n 0, 1) := by decide +kernel
theorem d_LW_law_1274 : decode code 1274 = .ok (.iload 4, 2) := by decide +kernel
theorem d_LW_law_1276 : decode code 1276 = .ok (.iconst 1, 1) := by decide +kernel
theorem d_LW_law_1277 : decode code 1277 = .ok (.iadd, 1) := by decide +kernel
theorem d_LW_law_1278 : decode code 1278 = .ok (.iaload, 1) := by decide +kernel
theorem d_LW_law_1279 : decode code 1279 = .ok (.invokevirtual 152, 3) := by decide +kernel
theorem d_LW_law_1282 : decode code 1282 = .ok (.if_icmp .eq 5, 3) := by decide +kernel
theorem d_LW_law_1285 : decode code 1285 = .ok (.iconst 0, 1) := by decide +kernel
theorem d_LW_law_1286 : decode code 1286 = .ok (.ireturn, 1) := by decide +kernel
theorem d_LW_law_1287 : decode code 1287 = .ok (.iinc 4 6, 3) := by decide +kernel
theorem d_LW_law_1290 : decode code 1290 = .ok (.goto (-1267), 3) := by decide +kernel
theorem d_LW_law_1293 : decode code 1293 = .ok (.iconst 1, 1) := by decide +kernel
theorem d_LW_law_1294 : decode code 1294 = .ok (.ireturn, 1) := by decide +kernel
end
section
/-! Contracts of methods that may throw: what a call comes to; how a walk of a body gives a contract; how a call uses one. -/
section GQ
variable {p : Program} {l : Launch} {e : Env} {R : Room} {s : State} {m : MethodId} {args : Array Value} {below : List Frame} {meth : Method} {c : Code} {H : Heap} {locs : List Loc} {cells slots : Nat} {Q : State → Prop}
/-- the end of a call: what lies outside A stands as it stood, at most mc cells of ms slots are new; it came back with a value (Qv), or threw an object of a class (Qx) -/
def gQ (A : Nat → Prop) (mc ms : Nat) (Qv : Option Value → State → Prop) (Qx : String → State → Prop) : Array Value → State → Outcome → State → Prop := fun _ st o t =>
  va_F A st t ∧ st.WarmedH t.vm ∧ (∃ L, st.sameButNew ({ t with vm := st.vm } : State) L mc ms ∧ ∀ q ∈ L, A q.base) ∧
  ((∃ v, o = .returned v ∧ Qv v t) ∨ ∃ q X ce, o = .threw q ∧ Qx X t ∧ t.heap[q]? = some ce ∧ ce.vm = .none ∧ st.vm.findClass X = some ce.cls)
/-- a contract: w is the method's word of its code -/
def gK (l : Launch) (y : MethodName) (w : Cond) (rm : Room) (Pc : Array Value → State → Prop) (A : Nat → Prop) (mc ms : Nat) (Qv : Option Value → State → Prop) (Qx : String → State → Prop) : Prop :=
  MetFree l y (headSpec [w] rm) Pc (fun _ _ _ _ _ => True) (gQ A mc ms Qv Qx)
/-- what a body's walk owes -/
def gM (below : List Frame) (A : Nat → Prop) (mc ms : Nat) (Qv : Option Value → State → Prop) (Qx : String → State → Prop) (a : Array Value) (s : State) : State → Prop := fun t =>
  ∃ o, t.status = .running ∧ Ended t below o ∧ gQ A mc ms Qv Qx a s o t
theorem gK_of {y : MethodName} {cc : ByteArray} {maxL : Nat} {ret : Option FieldType} {rm : Room} {Pc : Array Value → State → Prop} {A : Nat → Prop} {mc ms : Nat} {Qv : Option Value → State → Prop} {Qx : String → State → Prop}
    (hy : plainName y.cls = true)
    (body : ∀ p e s m args below meth c s₁, BodyLoose p l y (headSpec [Cond.code y cc maxL ret] rm) cc maxL ret e s m args below meth c s₁ → c.maxLocals = maxL → Pc args s →
      W p l e rm s m args below meth c s.heap [] 0 0 (gM below A mc ms Qv Qx args s) (entryFrame m args maxL)) : gK l y (.code y cc maxL ret) rm Pc A mc ms Qv Qx := by
  refine MetFree.of_bodyS (code := cc) (maxLocals := maxL) (ret := ret) hy ?_ ?_
  · intro args s m h hn
    obtain ⟨meth, c, h1, h2, h3, h4, h5, h6, -, -⟩ := Cond.code_spec hn (atoms_spec (ws := [Cond.code y cc maxL ret]) h _ List.mem_cons_self)
    exact ⟨meth, c, h1, h2, h3, h4, h5, h6⟩
  · intro p e s m args below meth c s₁ B hml hP _
    have hh0 : s₁.heap = s.heap := by rw [B.state]; rfl
    obtain ⟨t, a1, o, b1, b2, b3⟩ := body p e s m args below meth c s₁ B hml hP s₁ hh0 (Stand.of_body B)
    exact ⟨t, o, a1, b1, b2, b3⟩
theorem gK_ofW {y : MethodName} {cc : ByteArray} {maxL : Nat} {ret : Option FieldType} {hh : List (Nat × Nat × Nat × Nat)} {rm : Room} {Pc : Array Value → State → Prop} {A : Nat → Prop} {mc ms : Nat} {Qv : Option Value → State → Prop} {Qx : String → State → Prop}
    (hy : plainName y.cls = true)
    (body : ∀ p e s m args below meth c s₁, BodyLoose p l y (headSpec [Cond.codeWith y cc maxL ret hh] rm) cc maxL ret e s m args below meth c s₁ → c.maxLocals = maxL → Pc args s →
      W p l e rm s m args below meth c s.heap [] 0 0 (gM below A mc ms Qv Qx args s) (entryFrame m args maxL)) : gK l y (.codeWith y cc maxL ret hh) rm Pc A mc ms Qv Qx := by
  refine MetFree.of_bodyS (code := cc) (maxLocals := maxL) (ret := ret) hy ?_ ?_
  · intro args s m h hn
    obtain ⟨m9, meth, c, hn9, h1, h2, h3, h4, -, h5, h6, -⟩ := Cond.codeWith_spec (atoms_spec (ws := [Cond.codeWith y cc maxL ret hh]) h _ List.mem_cons_self)
    cases hn.symm.trans hn9
    exact ⟨meth, c, h1, h2, h3, h4, h5, h6⟩
  · intro p e s m args below meth c s₁ B hml hP _
    have hh0 : s₁.heap = s.heap := by rw [B.state]; rfl
    obtain ⟨t, a1, o, b1, b2, b3⟩ := body p e s m args below meth c s₁ B hml hP s₁ hh0 (Stand.of_body B)
    exact ⟨t, o, a1, b1, b2, b3⟩
/-- a weaker promise -/
theorem gK_mono {y : MethodName} {w : Cond} {rm : Room} {Pc : Array Value → State → Prop} {A : Nat → Prop} {mc ms : Nat} {Qv Qv' : Option Value → State → Prop} {Qx Qx' : String → State → Prop}
    (h : gK l y w rm Pc A mc ms Qv Qx) (hv : ∀ v t, Qv v t → Qv' v t) (hx : ∀ X t, Qx X t → Qx' X t) : gK l y w rm Pc A mc ms Qv' Qx' := by
  intro p e ha hc hk s m args below hf happ hP hK
  obtain ⟨n, o, h1, h2, h3, f1, f2, f3, f4⟩ := h p e ha hc hk s m args below hf happ hP hK
  refine ⟨n, o, h1, h2, h3, f1, f2, f3, ?_⟩
  rcases f4 with ⟨v, e1, e2⟩ | ⟨q, X, ce, e1, e2, e3⟩
  · exact Or.inl ⟨v, e1, hv _ _ e2⟩
  · exact Or.inr ⟨q, X, ce, e1, hx _ _ e2, e3⟩
/-- the frame g of this method, an object thrown over it -/
def gX (p : Program) (l : Launch) (e : Env) (R : Room) (s : State) (m : MethodId) (args : Array Value) (below : List Frame) (meth : Method) (c : Code) (H : Heap) (locs : List Loc) (cells slots : Nat) (Q : State → Prop) (g : JFrame) (q : Addr) : Prop :=
  ∀ T : State, T.heap = H → Stand p l e R s m args below meth c T locs cells slots → ∃ t, Steps p.tables e below ((T.setTop g).pushFrame (.throwing q)) t ∧ Q t
/-- the callee's end, seen from the frame that called -/
theorem g_end {y : MethodName} {w : Cond} {rm : Room} {Pc : Array Value → State → Prop} {A : Nat → Prop} {mc ms : Nat} {Qv : Option Value → State → Prop} {Qx : String → State → Prop}
    (hM : gK l y w rm Pc A mc ms Qv Qx) {U : State} (X : Stand p l e R s m args below meth c U locs cells slots) {g : JFrame} (hg : g.method = m) (hsize : g.locals.size = c.maxLocals)
    {ig : Instr} (hdg : decode c.code g.pc = .ok (ig, 3)) {maxL : Nat} (hW : 2 * g.monitorRoom + (g.stack.map fun v => v.category).sum ≤ 8) (hfr : rm.frames + 1 ≤ R.frames) (hlo : 8 + (maxL + 11) + rm.locals ≤ R.locals)
    (hce : cells + rm.cells ≤ R.cells) (hsl : slots + rm.slots ≤ R.slots) {mk : MethodId} (hn : U.methodNamed? y = some mk) {a : Array Value}
    (hw : w.before a U = true) (hfact : ∃ (mY : Method) (cY : Code), U.vm.method? mk = some mY ∧ mY.code = some cY ∧ cY.maxLocals = maxL) (hini : (Cond.initialized y.cls).before a U = true) (hP : Pc a (U.calling g mk a)) :
    (∃ (v : Option Value) (t T' : State) (L : List Loc), Stand p l e R s m args below meth c T' (locs ++ L) (cells + mc) (slots + ms) ∧ (∀ q ∈ L, A q.base) ∧ T'.heap = t.heap ∧ va_F A U t ∧ Qv v t ∧
      Steps p.tables e below (doInvoke e (U.setTop g) [] mk a).1 (T'.setTop { g with pc := g.pc + 3, stack := v.toList ++ g.stack })) ∨
    (∃ (q : Addr) (x : String) (ce : Cell) (t T' : State) (L : List Loc), Stand p l e R s m args below meth c T' (locs ++ L) (cells + mc) (slots + ms) ∧ (∀ q ∈ L, A q.base) ∧ T'.heap = t.heap ∧ va_F A U t ∧ Qx x t ∧
      t.heap[q]? = some ce ∧ ce.vm = .none ∧ U.vm.findClass x = some ce.cls ∧ Steps p.tables e below (doInvoke e (U.setTop g) [] mk a).1 ((T'.setTop g).pushFrame (.throwing q))) := by
  obtain ⟨mY, cY, hmY, hcY, hlY⟩ := hfact
  obtain ⟨kY, hkY, -⟩ := className_of_methodNamed hn
  have hinitY : kY.init = .initialized := Cond.initialized_spec (findClass_of_methodNamed hn) hkY hini
  have h : At U g.method c below := by rw [hg]; exact X.here
  have hpre : (headSpec [w] rm).pre.before a U = true := atoms_intro fun z hz => by rw [List.mem_singleton.mp hz]; exact hw
  have happ : (headSpec [w] rm).appliesLoose y e.platform (U.calling g mk a) = true :=
    Spec.appliesLoose_calling (g := g) h hdg hn hkY hinitY
      (X.room_calling (g := g) (R' := rm) hsize hmY hcY hfr (by rw [hlY]; omega) hce hsl) hpre
  obtain ⟨mid, hmid⟩ := h.above
  have hf0 : (U.setTop g).frames = (.java g :: mid) ++ below := by rw [State.frames_setTop' g h.top, hmid]; rfl
  obtain ⟨o, t, hsteps, -, hend, hF, hWt, ⟨L, hsm, hL⟩, hq⟩ := Steps.callFree hM p X.admits X.cas X.clock (acts := []) hf0 happ hP trivial
  rw [State.frames_setTop' g h.top] at hend
  obtain ⟨g₀, hg0⟩ := Option.isSome_iff_exists.mp h.top
  obtain ⟨r, hr⟩ := State.topJava?_eq_some.mp hg0
  have hr' : (({ U with heap := t.heap, slotsUsed := t.slotsUsed } : State).setVm t.vm).frames = .java g₀ :: r := hr
  obtain ⟨e2, q2, q3, q4, q5, q6⟩ := id hsm
  have e3 : t = ({ (U.calling g mk a).setFrames t.frames with heap := t.heap, slotsUsed := t.slotsUsed } : State).setVm t.vm := by
    have e4 : t = ({ t with vm := (U.calling g mk a).vm } : State).setVm t.vm := rfl
    rw [show ({ t with vm := (U.calling g mk a).vm } : State) = _ from e2] at e4
    exact e4
  have hW' : U.WarmedH t.vm := hWt
  have hsame : U.sameButNew ({ U with heap := t.heap, slotsUsed := t.slotsUsed } : State) L mc ms := by
    refine ⟨?_, q2, q3, q4, q5, q6⟩
    obtain ⟨z, hz, -⟩ := State.frames_cons hr
    show ({ U with heap := t.heap, slotsUsed := t.slotsUsed } : State) = { U.setFrames U.frames with heap := t.heap, slotsUsed := t.slotsUsed }
    rw [State.setFrames_self hz]
  have X' : Stand p l e R s m args below meth c (({ U with heap := t.heap, slotsUsed := t.slotsUsed } : State).setVm t.vm) (locs ++ L) (cells + mc) (slots + ms) :=
    ⟨X.admits, X.cas, X.clock, X.frames, X.room, X.hears, X.method, X.code, (X.here.setHeapUsed t.heap t.slotsUsed).setVm hW'.alike, X.tail, State.WarmedH.trans X.warmed hW', X.limits, X.bytes, X.same.trans (hsame.setVm s.vm)⟩
  rcases hq with ⟨v, rfl, hv⟩ | ⟨q, x, ce, rfl, hx, hce', hcv, hcl⟩
  · obtain ⟨c₂, i₂, len₂, hc₂, hd₂, hf₂⟩ := hend
    have hcc : c₂ = c := by
      have h1 : t.code? g.method = U.code? g.method := by
        rw [State.code?_eq, State.code?_eq, hW'.alike.method?]
      exact Option.some.inj (hc₂.symm.trans (h1.trans h.code))
    subst hcc
    have hlen : len₂ = 3 := by rw [hdg] at hd₂; cases hd₂; rfl
    subst hlen
    have ht : t = (({ U with heap := t.heap, slotsUsed := t.slotsUsed } : State).setVm t.vm).setTop { g with pc := g.pc + 3, stack := v.toList ++ g.stack } := by
      refine e3.trans ?_
      rw [hf₂, State.calling_eq h.top, State.setFrames_setFrames, State.setTop_of_frames _ hr', hr]
      rfl
    refine Or.inl ⟨v, t, _, L, X', hL, rfl, hF, hv, ?_⟩
    rw [← ht]
    exact hsteps
  · have hf₂ : t.frames = .throwing q :: .java g :: U.frames.tail := hend
    have ht : t = ((({ U with heap := t.heap, slotsUsed := t.slotsUsed } : State).setVm t.vm).setTop g).pushFrame (.throwing q) := by
      refine e3.trans ?_
      rw [hf₂, State.calling_eq h.top, State.setFrames_setFrames, State.pushFrame, State.frames_setTop _ hr', State.setTop_of_frames _ hr', State.setFrames_setFrames, hr]
      rfl
    refine Or.inr ⟨q, x, ce, t, _, L, X', hL, rfl, hF, hx, hce', hcv, hcl, ?_⟩
    rw [← ht]
    exact hsteps
end GQ
section GC
variable {p : Program} {l : Launch} {e : Env} {R : Room} {s : State} {m : MethodId} {args : Array Value} {below : List Frame} {meth : Method} {c : Code} {H : Heap} {locs : List Loc} {cells slots : Nat} {Q : State → Prop}
variable {y : MethodName} {bytes cc : ByteArray} {maxL nL mc ms index pc : Nat} {ret : Option FieldType} {rm : Room} {Pc : Array Value → State → Prop} {A A1 : Nat → Prop} {Qv : Option Value → State → Prop} {Qx : String → State → Prop} {own : String} {b : Addr} {As rest : List Value} {ls : Array Slot}
theorem gts_at {a : Array Value} {U : State} (hts : ∀ w ∈ gts, w.before args s = true) (hW : s.WarmedH U.vm) {w : Cond} (hw : w ∈ gts) : w.before a U = true := word_at hW (good_of_word (List.mem_filter.mp hw).2) (hts w hw)
/-- what is left of the frame when a callee is back -/
theorem g_back {U t T' : State} {L : List Loc} (hU : U.heap = H) (hT' : T'.heap = t.heap) (hF : va_F A1 U t) (hL : ∀ q ∈ L, A1 q.base) (hS : va_S A s.heap H locs) (hA : ∀ q, A1 q → A q) :
    H.size ≤ T'.heap.size ∧ (∀ q : Nat, q < H.size → ¬ A1 q → T'.heap[q]? = H[q]?) ∧ va_S A s.heap T'.heap (locs ++ L) := by
  obtain ⟨z1, z2⟩ := hF
  rw [hU] at z1 z2
  rw [hT']
  refine ⟨z1, z2, Nat.le_trans hS.1 z1, fun q h1 h2 => ?_, fun q hq => ?_⟩
  · rw [z2 q (Nat.lt_of_lt_of_le h1 hS.1) (fun z => h2 (hA q z))]
    exact hS.2.1 q h1 h2
  · rcases List.mem_append.mp hq with h | h
    · exact hS.2.2 q h
    · exact hA _ (hL q h)
theorem g_none {L : List Loc} (h : ∀ q ∈ L, False) : L = [] := by
  cases L with
  | nil => rfl
  | cons a r => exact absurd (h a List.mem_cons_self) id
theorem g_code {a : Array Value} {U : State} {mk : MethodId} (hn : U.methodNamed? y = some mk) (h : (Cond.code y bytes maxL ret).before a U = true) : ∃ (mY : Method) (cY : Code), U.vm.method? mk = some mY ∧ mY.code = some cY ∧ cY.maxLocals = maxL := by
  obtain ⟨mY, cY, h1, h2, -, h4, -⟩ := Cond.code_spec hn h
  exact ⟨mY, cY, h1, h2, h4⟩
/-- invokevirtual of a method of the receiver's own class -/
theorem g_V (S : CallFix p m c cc nL s args gts own) (hM : gK l y (.code y bytes maxL ret) rm Pc A1 mc ms Qv Qx) (hl : Cond.methodLink own index y ∈ gts) (hi : Cond.instanceMethod y ∈ gts) (hs : Cond.selects y.cls y y ∈ gts) (ht : Cond.initialized y.cls ∈ gts) (hc : Cond.code y bytes maxL ret ∈ gts)
    (hy : y.cls ≠ "java/lang/invoke/MethodHandle" ∧ y.cls ≠ "java/lang/invoke/VarHandle") (hlen : (parseMethodDescriptor y.desc).map (fun d => d.parameters.length) = some As.length)
    (hb : ∃ cellB : Cell, H[b]? = some cellB ∧ cellB.vm.isStatics = false ∧ s.vm.findClass y.cls = some cellB.cls) (hbl : FrameBlind Pc) (hp : ∀ U : State, U.heap = H → s.WarmedH U.vm → Pc (Value.ref b :: As).toArray U)
    (hsz : ls.size = nL) (hrest : (rest.map fun v => v.category).sum ≤ 8) (hfr : rm.frames + 1 ≤ R.frames) (hlo : 8 + (maxL + 11) + rm.locals ≤ R.locals) (hce : cells + rm.cells ≤ R.cells) (hsl : slots + rm.slots ≤ R.slots)
    (hS : va_S A s.heap H locs) (hA : ∀ q, A1 q → A q) (hdg : decode cc pc = .ok (.invokevirtual index, 3))
    (kx : ∀ (q : Addr) (x : String) (ce : Cell) (t : State) (H1 : Heap) (L : List Loc), t.heap = H1 → Qx x t → H.size ≤ H1.size → (∀ q : Nat, q < H.size → ¬ A1 q → H1[q]? = H[q]?) → (∀ q ∈ L, A1 q.base) → va_S A s.heap H1 (locs ++ L) → H1[q]? = some ce → ce.vm = .none → s.vm.findClass x = some ce.cls → gX p l e R s m args below meth c H1 (locs ++ L) (cells + mc) (slots + ms) Q (F0 m pc ls rest) q)
    (kk : ∀ (v : Option Value) (t : State) (H1 : Heap) (L : List Loc), t.heap = H1 → Qv v t → H.size ≤ H1.size → (∀ q : Nat, q < H.size → ¬ A1 q → H1[q]? = H[q]?) → (∀ q ∈ L, A1 q.base) → va_S A s.heap H1 (locs ++ L) → W p l e R s m args below meth c H1 (locs ++ L) (cells + mc) (slots + ms) Q (F0 m (pc + 3) ls (v.toList ++ rest))) :
    W p l e R s m args below meth c H locs cells slots Q (F0 m pc ls (As.reverse ++ .ref b :: rest)) := by
  obtain ⟨hx, hbc, hml, hown, hts⟩ := S
  intro T hT X
  obtain ⟨cellB, hcell, hobj, hcls⟩ := hb
  obtain ⟨mk, methM, hnamed, hmethM, hstM, habM⟩ := Cond.instanceMethod_spec (hts _ hi)
  obtain ⟨methM', cM, hmethM', -, -, -, -, -, -, hsigM⟩ := Cond.code_spec hnamed (hts _ hc)
  cases hmethM.symm.trans hmethM'
  obtain ⟨c2, r2, m2, q1, q2, q3, q4, kP, hkP, hkPi⟩ := Cond.selects_spec (hts _ hs)
  cases hcls.symm.trans q1
  cases (State.methodFound?_of_named hnamed hy).symm.trans q2
  cases hnamed.symm.trans q3
  have hselP : selectMethod e.platform s.vm cellB.cls mk = .method mk := by rw [Launch.admits_selectMethod X.admits]; exact q4
  have hln : As.length = methM.sig.parameters.length := by
    rw [hsigM] at hlen
    exact (Option.some.inj hlen).symm
  obtain ⟨vm₁, X₁, hstep₁⟩ := X.invokevirtual hx hown (hts _ hl) hnamed hmethM hstM hkP hkPi hy (a := b) (cell := cellB) (by rw [hT]; exact hcell)
    (fun z h => by rw [h] at hobj; cases hobj) hselP hmethM habM hkP hkPi (g := F0 m pc ls (As.reverse ++ .ref b :: rest)) rfl (argsL := As) (rest := rest) hln rfl (by rw [hbc]; exact hdg)
  have hn1 : (T.setVm vm₁).methodNamed? y = some mk := X₁.named hnamed
  have hW1 : s.WarmedH (T.setVm vm₁).vm := X₁.warmed
  rcases g_end hM X₁ (g := F0 m pc ls rest) (ig := .invokevirtual index) (maxL := maxL) (mk := mk) (a := (Value.ref b :: As).toArray) rfl (hsz.trans hml.symm) (by rw [hbc]; exact hdg) (lv_room hrest) hfr hlo hce hsl hn1 (gts_at hts hW1 hc) (g_code hn1 (gts_at (a := #[]) hts hW1 hc)) (gts_at hts hW1 ht) (hbl _ _ _ _ (hp (T.setVm vm₁) hT hW1)) with
    ⟨v, t, T', L, X', hL, e1, hF, hv, st⟩ | ⟨q, x, ce, t, T', L, X', hL, e1, hF, hx9, hce9, hcv, hcl, st⟩
  · obtain ⟨k1, k2, k3⟩ := g_back (hT : (T.setVm vm₁).heap = H) e1 hF hL hS hA
    obtain ⟨t2, a1, b1⟩ := kk v t T'.heap L e1.symm hv k1 k2 hL k3 T' rfl X'
    exact ⟨t2, hstep₁ _ (fun acts => by rw [doInvoke_state]; exact st.trans a1), b1⟩
  · obtain ⟨k1, k2, k3⟩ := g_back (hT : (T.setVm vm₁).heap = H) e1 hF hL hS hA
    obtain ⟨t2, a1, b1⟩ := kx q x ce t T'.heap L e1.symm hx9 k1 k2 hL k3 (by rw [e1]; exact hce9) hcv (by rw [← hW1.alike.findClass]; exact hcl) T' rfl X'
    exact ⟨t2, hstep₁ _ (fun acts => by rw [doInvoke_state]; exact st.trans a1), b1⟩
/-- invokestatic -/
theorem g_S {w : Cond} (S : CallFix p m c cc nL s args gts own) (hM : gK l y w rm Pc A1 mc ms Qv Qx) (hl : Cond.methodLink own index y ∈ gts) (hs : Cond.static y ∈ gts) (ht : Cond.initialized y.cls ∈ gts) (hc : w ∈ gts) (hcf : ∀ (a : Array Value) (U : State), w.before a U = true → ∃ (mk : MethodId) (mY : Method) (cY : Code), U.methodNamed? y = some mk ∧ U.vm.method? mk = some mY ∧ mY.code = some cY ∧ cY.maxLocals = maxL ∧ parseMethodDescriptor y.desc = some mY.sig)
    (hy : y.cls ≠ "java/lang/invoke/MethodHandle" ∧ y.cls ≠ "java/lang/invoke/VarHandle") (hlen : (parseMethodDescriptor y.desc).map (fun d => d.parameters.length) = some As.length)
    (hbl : FrameBlind Pc) (hp : ∀ U : State, U.heap = H → s.WarmedH U.vm → Pc As.toArray U)
    (hsz : ls.size = nL) (hrest : (rest.map fun v => v.category).sum ≤ 8) (hfr : rm.frames + 1 ≤ R.frames) (hlo : 8 + (maxL + 11) + rm.locals ≤ R.locals) (hce : cells + rm.cells ≤ R.cells) (hsl : slots + rm.slots ≤ R.slots)
    (hS : va_S A s.heap H locs) (hA : ∀ q, A1 q → A q) (hdg : decode cc pc = .ok (.invokestatic index, 3))
    (kx : ∀ (q : Addr) (x : String) (ce : Cell) (t : State) (H1 : Heap) (L : List Loc), t.heap = H1 → Qx x t → H.size ≤ H1.size → (∀ q : Nat, q < H.size → ¬ A1 q → H1[q]? = H[q]?) → (∀ q ∈ L, A1 q.base) → va_S A s.heap H1 (locs ++ L) → H1[q]? = some ce → ce.vm = .none → s.vm.findClass x = some ce.cls → gX p l e R s m args below meth c H1 (locs ++ L) (cells + mc) (slots + ms) Q (F0 m pc ls rest) q)
    (kk : ∀ (v : Option Value) (t : State) (H1 : Heap) (L : List Loc), t.heap = H1 → Qv v t → H.size ≤ H1.size → (∀ q : Nat, q < H.size → ¬ A1 q → H1[q]? = H[q]?) → (∀ q ∈ L, A1 q.base) → va_S A s.heap H1 (locs ++ L) → W p l e R s m args below meth c H1 (locs ++ L) (cells + mc) (slots + ms) Q (F0 m (pc + 3) ls (v.toList ++ rest))) :
    W p l e R s m args below meth c H locs cells slots Q (F0 m pc ls (As.reverse ++ rest)) := by
  obtain ⟨hx, hbc, hml, hown, hts⟩ := S
  intro T hT X
  obtain ⟨mk, methM, cM, hnamed, hmethM, -, -, hsigM⟩ := hcf _ _ (hts _ hc)
  have hstatic : methM.isStatic = true := Cond.static_spec hnamed hmethM (hts _ hs)
  obtain ⟨kP, hkP, -⟩ := className_of_methodNamed hnamed
  have hinitP : kP.init = .initialized := Cond.initialized_spec (findClass_of_methodNamed hnamed) hkP (hts _ ht)
  have hln : As.length = methM.sig.parameters.length := by
    rw [hsigM] at hlen
    exact (Option.some.inj hlen).symm
  obtain ⟨vm₁, X₁, hstep₁⟩ := X.invokestatic hx hown (hts _ hl) hnamed hmethM hstatic hkP hinitP hy (g := F0 m pc ls (As.reverse ++ rest)) rfl (argsL := As) (rest := rest) hln rfl (by rw [hbc]; exact hdg)
  have hn1 : (T.setVm vm₁).methodNamed? y = some mk := X₁.named hnamed
  have hW1 : s.WarmedH (T.setVm vm₁).vm := X₁.warmed
  have hf1 : ∃ (mY : Method) (cY : Code), (T.setVm vm₁).vm.method? mk = some mY ∧ mY.code = some cY ∧ cY.maxLocals = maxL := by
    obtain ⟨mk', mY, cY, h1, h2, h3, h4, -⟩ := hcf #[] _ (gts_at hts hW1 hc)
    cases hn1.symm.trans h1
    exact ⟨mY, cY, h2, h3, h4⟩
  rcases g_end hM X₁ (g := F0 m pc ls rest) (ig := .invokestatic index) (maxL := maxL) (mk := mk) (a := As.toArray) rfl (hsz.trans hml.symm) (by rw [hbc]; exact hdg) (lv_room hrest) hfr hlo hce hsl hn1 (gts_at hts hW1 hc) hf1 (gts_at hts hW1 ht) (hbl _ _ _ _ (hp (T.setVm vm₁) hT hW1)) with
    ⟨v, t, T', L, X', hL, e1, hF, hv, st⟩ | ⟨q, x, ce, t, T', L, X', hL, e1, hF, hx9, hce9, hcv, hcl, st⟩
  · obtain ⟨k1, k2, k3⟩ := g_back (hT : (T.setVm vm₁).heap = H) e1 hF hL hS hA
    obtain ⟨t2, a1, b1⟩ := kk v t T'.heap L e1.symm hv k1 k2 hL k3 T' rfl X'
    exact ⟨t2, hstep₁ _ (fun acts => by rw [doInvoke_state]; exact st.trans a1), b1⟩
  · obtain ⟨k1, k2, k3⟩ := g_back (hT : (T.setVm vm₁).heap = H) e1 hF hL hS hA
    obtain ⟨t2, a1, b1⟩ := kx q x ce t T'.heap L e1.symm hx9 k1 k2 hL k3 (by rw [e1]; exact hce9) hcv (by rw [← hW1.alike.findClass]; exact hcl) T' rfl X'
    exact ⟨t2, hstep₁ _ (fun acts => by rw [doInvoke_state]; exact st.trans a1), b1⟩
theorem g_cfC (a : Array Value) (U : State) (h : (Cond.code y bytes maxL ret).before a U = true) : ∃ (mk : MethodId) (mY : Method) (cY : Code), U.methodNamed? y = some mk ∧ U.vm.method? mk = some mY ∧ mY.code = some cY ∧ cY.maxLocals = maxL ∧ parseMethodDescriptor y.desc = some mY.sig := by
  obtain ⟨mk, hn⟩ := Cond.code_named h
  obtain ⟨mY, cY, h1, h2, -, h4, -, -, -, h8⟩ := Cond.code_spec hn h
  exact ⟨mk, mY, cY, hn, h1, h2, h4, h8⟩
theorem g_cfW {hh : List (Nat × Nat × Nat × Nat)} (a : Array Value) (U : State) (h : (Cond.codeWith y bytes maxL ret hh).before a U = true) : ∃ (mk : MethodId) (mY : Method) (cY : Code), U.methodNamed? y = some mk ∧ U.vm.method? mk = some mY ∧ mY.code = some cY ∧ cY.maxLocals = maxL ∧ parseMethodDescriptor y.desc = some mY.sig := by
  obtain ⟨mk, mY, cY, hn, h1, h2, -, h4, -, -, -, h8⟩ := Cond.codeWith_spec h
  exact ⟨mk, mY, cY, hn, h1, h2, h4, h8⟩
/-- the returns -/
theorem g_ret {g : JFrame} {Qc : Array Value → State → Outcome → State → Prop} (h : ∀ o t, Qc args s o t → va_F A s t ∧ ∃ v, o = .returned v ∧ Qv v t) (hc : cells ≤ mc) (hs : slots ≤ ms)
    (k : W p l e R s m args below meth c H locs mc ms (MQ below Qc args s mc ms A) g) : W p l e R s m args below meth c H locs cells slots (gM below A mc ms Qv Qx args s) g := by
  refine W.widen hc hs ?_
  intro T hT X
  obtain ⟨t, a1, o, b1, b2, b3, L, ⟨-, hW, hsm⟩, hL⟩ := k T hT X
  obtain ⟨h1, h2⟩ := h o t b3
  exact ⟨t, a1, o, b1, b2, h1, hW, ⟨L, hsm, hL⟩, Or.inl h2⟩
theorem g_iret {v : Int32} (S : CallFix p m c cc nL s args gts own) (hr : meth.sig.returnType = some .int) (hlocks : meth.locks = false) (hS : va_S A s.heap H locs) (hq : ∀ t : State, t.heap = H → Qv (some (.int v)) t) (hc : cells ≤ mc) (hs : slots ≤ ms) (hdg : decode cc pc = .ok (.ireturn, 1)) :
    W p l e R s m args below meth c H locs cells slots (gM below A mc ms Qv Qx args s) (F0 m pc ls [.int v]) :=
  g_ret (Qc := fun _ st o t => va_F A st t ∧ ∃ v, o = .returned v ∧ Qv v t) (fun _ _ h => h) hc hs (W.iret S.1 S.2.1 hr (fun t ht _ => ⟨hS.F ht, _, rfl, hq t ht⟩) hS.2.2 hdg hlocks)
theorem g_zret {v : Int32} (S : CallFix p m c cc nL s args gts own) (hr : meth.sig.returnType = some .boolean) (hlocks : meth.locks = false) (hS : va_S A s.heap H locs) (hn : v = 0 ∨ v = 1) (hq : ∀ t : State, t.heap = H → Qv (some (.int v)) t) (hc : cells ≤ mc) (hs : slots ≤ ms) (hdg : decode cc pc = .ok (.ireturn, 1)) :
    W p l e R s m args below meth c H locs cells slots (gM below A mc ms Qv Qx args s) (F0 m pc ls [.int v]) :=
  g_ret (Qc := fun _ st o t => va_F A st t ∧ ∃ v, o = .returned v ∧ Qv v t) (fun _ _ h => h) hc hs (W.zret (ty := .boolean) S.1 S.2.1 hr (by rcases hn with rfl | rfl <;> rfl) (fun t ht _ => ⟨hS.F ht, _, rfl, hq t ht⟩) hS.2.2 hdg hlocks)
theorem g_vret (S : CallFix p m c cc nL s args gts own) (hr : meth.sig.returnType = none) (hlocks : meth.locks = false) (hS : va_S A s.heap H locs) (hq : ∀ t : State, t.heap = H → Qv none t) (hc : cells ≤ mc) (hs : slots ≤ ms) (hdg : decode cc pc = .ok (.return_, 1)) :
    W p l e R s m args below meth c H locs cells slots (gM below A mc ms Qv Qx args s) (F0 m pc ls []) :=
  g_ret (Qc := fun _ st o t => va_F A st t ∧ ∃ v, o = .returned v ∧ Qv v t) (fun _ _ h => h) hc hs (W.vret S.1 S.2.1 hr (fun t ht _ => ⟨hS.F ht, _, rfl, hq t ht⟩) hS.2.2 hdg hlocks)
/-- thrown by a callee, not caught here -/
theorem g_xout {q : Addr} {x : String} {ce : Cell} (hout : ∀ z ∈ c.exceptionTable.toList, covers z pc = false) (hlocks : meth.locks = false) (hS : va_S A s.heap H locs) (hcell : H[q]? = some ce) (hv : ce.vm = .none) (hcl : s.vm.findClass x = some ce.cls)
    (hx : ∀ t : State, t.heap = H → Qx x t) (hc : cells ≤ mc) (hs : slots ≤ ms) : gX p l e R s m args below meth c H locs cells slots (gM below A mc ms Qv Qx args s) (F0 m pc ls rest) q := by
  intro T hT X
  obtain ⟨st1, hrun, hend, hW, hsm⟩ := X.leaveThrown q (g := F0 m pc ls rest) rfl rfl rfl hout hlocks
  have hh : (T.setFrames (.throwing q :: below)).heap = H := hT
  exact ⟨_, st1, .threw q, hrun, hend, hS.F hh, hW, ⟨locs, hsm.mono hc hs, hS.2.2⟩, Or.inr ⟨q, x, ce, rfl, hx _ hh, by rw [hh]; exact hcell, hv, hcl⟩⟩
end GC
end
section
/-! An exception made with a text and thrown out of the method that makes it (no traces kept). The class's own constructor passes its text to that of 'sup' by the entry ix of its pool (code rx); from there on by the entry 7. -/
def gx_ws (own : String) (ic : Nat) (cls sup : String) (ix : Nat) (rx : ByteArray) (names : List String) : List Cond :=
  Bundle.throwableAtoms ++ Bundle.throwableSAtoms ++ Bundle.passSAtoms cls sup ix rx ++ Bundle.chainSAtoms sup names ++
  [.methodLink own ic (Bundle.initS cls), .instantiable cls 6, .selects cls Bundle.tFill0 Bundle.tFill0, .selects cls Bundle.tFill Bundle.tFill,
   .lays cls Bundle.tN "cause" "Ljava/lang/Throwable;", .lays cls Bundle.tN "stackTrace" Bundle.steD, .lays cls Bundle.tN "suppressedExceptions" Bundle.listD, .lays cls Bundle.tN "detailMessage" "Ljava/lang/String;",
   .isRef (.static Bundle.tN "UNASSIGNED_STACK" Bundle.steD), .isRef (.static Bundle.tN "SUPPRESSED_SENTINEL" Bundle.listD),
   .fieldLink Bundle.tN 198 Bundle.tN "backtrace" "Ljava/lang/Object;", .lays Bundle.tN Bundle.tN "backtrace" "Ljava/lang/Object;", .lays cls Bundle.tN "backtrace" "Ljava/lang/Object;"]
section GT
variable {p : Program} {l : Launch} {e : Env} {R : Room} {s : State} {m : MethodId} {args : Array Value} {below : List Frame} {meth : Method} {c : Code} {W0 : State} {locs : List Loc} {cells slots : Nat}
set_option maxHeartbeats 2000000 in
theorem gx_go (X : Stand p l e R s m args below meth c W0 locs cells slots) (hexec : p.tables.exec = Jvm.exec) (htr : e.platform.stackTraces = false) {own cls sup : String} {names : List String} {ic ix : Nat} {rx : ByteArray}
    (r0 : decode rx 0 = .ok (.aload_n 0, 1)) (r1 : decode rx 1 = .ok (.aload_n 1, 1)) (r2 : decode rx 2 = .ok (.invokespecial ix, 3)) (r5 : decode rx 5 = .ok (.return_, 1))
    (hown : s.vm.findClass own = some m.cls) (hcls : Bundle.fit cls = true) (hsup : Bundle.fit sup = true) (hnames : ∀ n ∈ names, Bundle.fit n = true)
    (h : ∀ a ∈ gx_ws own ic cls sup ix rx names, a.before args s = true)
    (hlocs : ∀ x ∈ locs, ∀ cell, s.heap[x.base]? = some cell → cell.vm.isStatics = false)
    {a : Addr} {cX : ClassId} {kX : Class} (hfX : s.vm.findClass cls = some cX) (hkX : s.vm.classes[cX]? = some kX) (hcell : W0.heap[a]? = some (freshCell cX kX)) (hnew : s.heap.size ≤ a)
    {msg : Value} (hmsg : msg.isRef = true)
    {g : JFrame} (hg : g.method = m) (hsize : g.locals.size = c.maxLocals) (hlocked : g.locked = none) (hentered : g.entered = []) {rest : List Value} (hstack : g.stack = msg :: .ref a :: .ref a :: rest)
    (hd6 : decode c.code g.pc = .ok (.invokespecial ic, 3)) (hd9 : decode c.code (g.pc + 3) = .ok (.athrow, 1)) (hout : ∀ x ∈ c.exceptionTable.toList, covers x (g.pc + 3) = false)
    (hRf : names.length + 4 < R.frames) (hRl : 2 * g.monitorRoom + ((Value.ref a :: rest).map fun v => v.category).sum + (13 * (names.length + 2) + 42) ≤ R.locals) (hlocks : meth.locks = false) :
    ∃ U : State, Steps p.tables e below (W0.setTop g) U ∧ U.status = .running ∧ Ended U below (.threw a) ∧ s.WarmedH U.vm ∧ s.sameButNew ({ U with vm := s.vm } : State) locs cells slots ∧
      U.heap.size = W0.heap.size ∧ (∀ q : Nat, q ≠ a → U.heap[q]? = W0.heap[q]?) ∧ ∃ ce : Cell, U.heap[a]? = some ce ∧ ce.vm = .none ∧ s.vm.findClass cls = some ce.cls := by
  have howns : e.platform.frameOwnsMonitors = true := by rw [X.admits.platform]
  have hfin : e.platform.finalization = false := by rw [X.admits.platform]
  have hpl : e.platform.magicAccessors = ({} : Platform).magicAccessors := by rw [X.admits.platform]
  have a' : ∀ x, x ∈ gx_ws own ic cls sup ix rx names → x.holds args s none s [] = true := fun x hx => h x hx
  obtain ⟨T, Z0, L, -, Y⟩ := ThrowableC.of_atoms (args := args) howns hfin hpl (fun x hx => h x (by simp [gx_ws, hx]))
  obtain ⟨Z, M, LZ, LM, hnZ⟩ := Init0T.ofS_atoms (args := args) hpl L Y (fun x hx => h x (by simp [gx_ws, hx]))
  obtain ⟨P2, Ps, hlen, L2, hL, hP2m, hlink2, hlink⟩ := Bundle.chainS (args := args) hpl hnZ names sup hsup hnames (fun x hx => h x (by simp [gx_ws, hx]))
  obtain ⟨P1, L1, hP1m, hP1s⟩ := PassC.ofS_atoms (args := args) (s := s) hpl (X := cls) (Y := sup) (Bundle.fit_spec hcls).1 (Bundle.fit_spec hsup).2 r0 r1 r2 r5 (fun x hx => h x (by simp [gx_ws, hx]))
  have hlink1 : P1.sup = P2.m := Option.some.inj (hP1s.symm.trans hP2m)
  have hfound : s.vm.findClass cls = some P1.m.cls := findClass_of_methodNamed hP1m
  cases Option.some.inj (hfX.symm.trans hfound)
  obtain ⟨c1, kX', hc1, hk, hord, -, -, hn6⟩ := Cond.instantiable_spec (a' (.instantiable cls 6) (by simp [gx_ws]))
  cases Option.some.inj (hc1.symm.trans hfound)
  cases Option.some.inj (hkX.symm.trans hk)
  have hsel0 : selectMethod e.platform s.vm P1.m.cls T.fill0 = .method T.fill0 := by
    obtain ⟨c2, q2, m2, w1, w2, w3, w4, -⟩ := Cond.selects_spec (a' (.selects cls Bundle.tFill0 Bundle.tFill0) (by simp [gx_ws]))
    cases Option.some.inj (w1.symm.trans hfound)
    cases Option.some.inj (w2.symm.trans (State.methodFound?_of_named Y.fill0 (by decide)))
    cases Option.some.inj (w3.symm.trans Y.fill0)
    rw [Launch.admits_selectMethod X.admits]; exact w4
  have hselF : selectMethod e.platform s.vm P1.m.cls T.fill = .method T.fill := by
    obtain ⟨c2, q2, m2, w1, w2, w3, w4, -⟩ := Cond.selects_spec (a' (.selects cls Bundle.tFill Bundle.tFill) (by simp [gx_ws]))
    cases Option.some.inj (w1.symm.trans hfound)
    cases Option.some.inj (w2.symm.trans (State.methodFound?_of_named Y.fill (by decide)))
    cases Option.some.inj (w3.symm.trans Y.fill)
    rw [Launch.admits_selectMethod X.admits]; exact w4
  obtain ⟨cellS0, hcS0, hiss⟩ := Y.statics
  obtain ⟨u0, hu0⟩ := Cond.staticRefV Y.unassigned L.unassignedStatic L.statics hcS0 hiss (a' (.isRef (.static Bundle.tN "UNASSIGNED_STACK" Bundle.steD)) (by simp [gx_ws]))
  obtain ⟨sen, hsen⟩ := Cond.staticRefV Y.sentinel L.sentinelStatic L.statics hcS0 hiss (a' (.isRef (.static Bundle.tN "SUPPRESSED_SENTINEL" Bundle.listD)) (by simp [gx_ws]))
  obtain ⟨ci198, i198, fB, hk198, hg198, ha198, hsB, -, hnB, htB, hffB⟩ := Cond.ownField (t := .object "java/lang/Object") Y.found L.cls (by decide +kernel) (a' (.fieldLink Bundle.tN 198 Bundle.tN "backtrace" "Ljava/lang/Object;") (by simp [gx_ws])) (a' (.lays Bundle.tN Bundle.tN "backtrace" "Ljava/lang/Object;") (by simp [gx_ws])) e.platform hpl
  obtain ⟨cellS, hcS', heS, -, hkeep⟩ := X.same.2.2.2.2.2 T.aS cellS0 hcS0
  have hcellS : W0.heap[T.aS]? = some cellS := hcS'
  have hout' : ∀ i, (⟨T.aS, i⟩ : Loc) ∉ locs := fun i hmem => by
    have h9 := hlocs _ hmem cellS0 hcS0
    rw [hiss] at h9; cases h9
  have hknownS : cellS.vm ≠ .unknown := by
    rw [heS]; intro hu
    rw [show cellS0.vm = .unknown from hu] at hiss
    cases hiss
  have hneS : T.aS ≠ a := Nat.ne_of_lt (Nat.lt_of_lt_of_le (Array.getElem?_eq_some_iff.mp hcS0).1 hnew)
  obtain ⟨iM, hffM⟩ := Y.msg
  obtain ⟨tyC, dC, hdC, hdnC⟩ := Cond.laysAt hfound hk Y.cause (a' (.lays cls Bundle.tN "cause" "Ljava/lang/Throwable;") (by simp [gx_ws]))
  obtain ⟨tyS, dS, hdS, hdnS⟩ := Cond.laysAt hfound hk Y.stack (a' (.lays cls Bundle.tN "stackTrace" Bundle.steD) (by simp [gx_ws]))
  obtain ⟨tyP, dP, hdP, hdnP⟩ := Cond.laysAt hfound hk Y.supp (a' (.lays cls Bundle.tN "suppressedExceptions" Bundle.listD) (by simp [gx_ws]))
  obtain ⟨tyM, dM, hdM, hdnM⟩ := Cond.laysAt hfound hk hffM (a' (.lays cls Bundle.tN "detailMessage" "Ljava/lang/String;") (by simp [gx_ws]))
  obtain ⟨tyB, dB, hdB, hdnB⟩ := Cond.laysAt hfound hk hffB (a' (.lays cls Bundle.tN "backtrace" "Ljava/lang/Object;") (by simp [gx_ws]))
  have bC := Cond.laysApart hdB hdC hdnB hdnC (by rw [hnB, Y.causeName]; decide)
  have bS := Cond.laysApart hdB hdS hdnB hdnS (by rw [hnB, Y.stackName]; decide)
  have bP := Cond.laysApart hdB hdP hdnB hdnP (by rw [hnB, Y.suppName]; decide)
  have hskip : SkipFacts T e.platform s (fun u => u) u0 ((preparedCellV T.toThrowableT (freshCell P1.m.cls kX) a u0 sen).withEntry W0.cur) :=
    ⟨{ ci198 := ci198, i198 := i198, fBack := fB }, ⟨hk198, hg198, ha198, hsB⟩, by
      have h9 := fresh_default (c := P1.m.cls) tyB
      rw [htB] at h9
      simpa [preparedCellV, Cell.setSlot, Cell.withEntry, Array.getElem?_setIfInBounds, bC, bS, bP, bC.symm, bS.symm, bP.symm, defaultValue] using h9, fun _ _ => rfl⟩
  obtain ⟨tm, methC, cdC, kC, vm₁, hnC, -, -, -, -, -, -, -, hW₁, st1⟩ := Steps.initColdS (tb := p.tables) (e := e) (below := below) (s := s) (U := W0) X.here hexec X.warmed hpl hown (t := Bundle.initS cls) rfl rfl (Bundle.fit_spec hcls).2
    (a' (.methodLink own ic (Bundle.initS cls)) (by simp [gx_ws])) (h (.instanceMethod (Bundle.initS cls)) (by simp [gx_ws, Bundle.passSAtoms])) (bytes := rx) (maxL := 2) (h (.code (Bundle.initS cls) rx 2 none) (by simp [gx_ws, Bundle.passSAtoms]))
    (f := g) hg (a := a) (msg := msg) (rest := .ref a :: rest) hstack hd6
  cases Option.some.inj (hnC.symm.trans hP1m)
  have X₁ := X.noted hW₁
  obtain ⟨vm₂, X₂, st2⟩ := X₁.ctorMessageOffV hexec (g := { g with stack := .ref a :: rest }) hg hsize T L Z LZ M LM (P1 :: P2 :: Ps)
    (fun P hP => by
      rcases List.mem_cons.mp hP with rfl | hP
      · exact L1
      · rcases List.mem_cons.mp hP with rfl | hP
        · exact L2
        · exact hL P hP) ⟨hlink1, hlink2, hlink⟩ (u0 := u0) (sen := sen) (self := a) hmsg (cell := freshCell P1.m.cls kX) (cellS := cellS)
    hcell (fun _ => by simp) (by simp) rfl rfl hsel0 hselF hcellS hneS hknownS (by rw [hkeep _ (hout' _)]; exact hu0) (by rw [hkeep _ (hout' _)]; exact hsen)
    (Takes.of_laid hk hord tyC (by rw [Y.causeType]; rfl)) (Takes.of_laid hk hord tyS (by rw [Y.stackType]; exact fits_refV_array _ u0)) (Takes.of_laid hk hord tyP (by rw [Y.suppType]; exact fits_refV_object _ sen))
    (Takes.of_laid hk hord tyM (by rw [Y.msgType]; exact fits_refV_object _ ⟨msg, hmsg⟩)) Y.objLocals hskip htr [] hd6
    (by simp only [List.length_cons, hlen]; omega) (by simp only [List.length_cons, hlen]; exact hRl)
  obtain ⟨hwalk, hrun, hended, hWU, hsame⟩ := X₂.athrowLeaves hexec (g := { g with stack := .ref a :: rest, pc := g.pc + 3 }) hg hlocked hentered hout (a := a) (rest := rest) rfl hd9 hlocks
  have hlt : a < ((W0.setVm vm₁).setVm vm₂).heap.size := (Array.getElem?_eq_some_iff.mp hcell).1
  have hU := heapAt_setCell_self (s := (W0.setVm vm₁).setVm vm₂) (plainBareV T.toThrowableT (freshCell P1.m.cls kX) a u0 sen msg) hlt
  refine ⟨_, st1 _ (fun acts => ?_), hrun, hended, hWU, hsame.weaken (fun y hy hlt' => ?_) (Nat.le_refl _) (Nat.le_refl _), ?_, ?_, _, hU, rfl, hfound⟩
  · rw [doInvoke_state]
    exact st2 _ hwalk
  · rcases List.mem_append.mp hy with h1 | h1
    · exact h1
    · exfalso
      have hb : y.base = a := by
        simp only [List.mem_cons, List.not_mem_nil, or_false] at h1
        rcases h1 with rfl | rfl | rfl | rfl | rfl <;> rfl
      rw [hb] at hlt'
      exact Nat.not_lt.mpr hnew hlt'
  · show (((W0.setVm vm₁).setVm vm₂).setCell a _).heap.size = W0.heap.size
    rw [size_setCell]
    rfl
  · intro q hq
    show (((W0.setVm vm₁).setVm vm₂).setCell a _).heap[q]? = W0.heap[q]?
    simp [State.setCell, Array.getElem?_setIfInBounds, Ne.symm hq]
end GT
end
section
/-! A callee's throw, caught by name in this method: the rows ahead of the catching one don't take it. -/
section GH
variable {E : CtlPost} {e : Env} {d : Bool} {acts : List Action} {S : State} {f : JFrame} {a : Addr} {Q : Handler → Pre}
/-- one row of the table, her class linked now or before -/
theorem gh_row {x : ExceptionTableEntry} {t : List ExceptionTableEntry} {k : ClassId} {cell : Cell} (hx : covers x f.pc = true) (h0 : x.catchType ≠ 0)
    (hl : S.vm.ClassLinks e.platform f.method.cls x.catchType k) (hcell : S.heap[a]? = some cell) (hobj : ∀ z, cell.vm ≠ .statics z)
    (hk : ∃ z, S.vm.classes[cell.cls]? = some z) (hc : ∃ z, S.vm.classes[k]? = some z) :
    wp (findHandler.go f a (x :: t)) Q E e d acts S ↔
      if S.vm.assignable cell.cls k = true then Q (.found x.handlerPc) d acts (S.setVm (S.vm.noted f.method.cls x.catchType (.cls k))) else wp (findHandler.go f a t) Q E e d acts (S.setVm (S.vm.noted f.method.cls x.catchType (.cls k))) := by
  simp only [covers] at hx
  obtain ⟨ha, ht⟩ := (resolveClass_links e.toSetting hl).op (op := VmOp.resolveClass f.method.cls x.catchType) rfl
  have hal : S.vm.Alike (S.vm.noted f.method.cls x.catchType (.cls k)) := (Vm.Alike.refl S.vm).noted _ _ _
  obtain ⟨k1, hk1⟩ := hk
  obtain ⟨k2, hk2⟩ := hc
  obtain ⟨k1', hk1', -⟩ := hal.2.2 _ _ hk1
  obtain ⟨k2', hk2', -⟩ := hal.2.2 _ _ hk2
  have hfe : (S.vm.noted f.method.cls x.catchType (.cls k)).assignable cell.cls k = S.vm.assignable cell.cls k := by rw [hal.assignable]
  cases hfit : S.vm.assignable cell.cls k <;> rw [hfit] at hfe <;> simp [findHandler.go, hx, h0, ha, ht, hcell, hobj, hk1', hk2', hfe, VmOp.dirties, VmOp.acts]
end GH
/-- a row that the object passes -/
def gh_no (pl : Platform) (s : State) (o : ClassId) (pc : Nat) (th : ClassId) (y : ExceptionTableEntry) : Prop := covers y pc = true ∧ y.catchType ≠ 0 ∧ ∃ k, s.vm.ClassLinks pl o y.catchType k ∧ s.vm.assignable th k = false
theorem gh_find {e : Env} {s : State} {f : JFrame} {a : Addr} {cell : Cell} (hobj : ∀ k, cell.vm ≠ .statics k) (hk0 : ∃ k, s.vm.classes[cell.cls]? = some k) (x : ExceptionTableEntry) (rest : List ExceptionTableEntry) (hx : covers x f.pc = true) (h0 : x.catchType ≠ 0)
    {k : ClassId} (hl : s.vm.ClassLinks e.platform f.method.cls x.catchType k) (hfit : s.vm.assignable cell.cls k = true) :
    ∀ (pre : List ExceptionTableEntry) (S : State), s.WarmedH S.vm → S.heap[a]? = some cell → (∀ y ∈ pre, gh_no e.platform s f.method.cls f.pc cell.cls y) →
      ∃ vm', s.WarmedH vm' ∧ ∀ (Q : Handler → Pre) (E : CtlPost) (d : Bool) (acts : List Action), wp (findHandler.go f a (pre ++ x :: rest)) Q E e d acts S ↔ Q (.found x.handlerPc) d acts (S.setVm vm')
  | [], S, hW, hcell, _ => by
    obtain ⟨k0, hk0⟩ := hk0
    obtain ⟨k0', hk0', -⟩ := hW.alike.2.2 _ _ hk0
    obtain ⟨dk, _, _, kt, hd, _, _, _, _, hkt, _, hopen⟩ := hl.here
    obtain ⟨kt', hkt', -⟩ := hW.alike.2.2 _ _ hkt
    refine ⟨_, hW.noted hd hopen (State.rightAt_cls hl), fun Q E d acts => ?_⟩
    rw [List.nil_append, gh_row hx h0 (hW.classLinks hl) hcell hobj ⟨k0', hk0'⟩ ⟨kt', hkt'⟩, hW.alike.assignable, hfit, if_pos rfl]
  | y :: ys, S, hW, hcell, hpass => by
    obtain ⟨hcov, hy0, ky, hly, hno⟩ := hpass y (List.mem_cons_self ..)
    obtain ⟨k0, hk0⟩ := id hk0
    obtain ⟨k0', hk0', -⟩ := hW.alike.2.2 _ _ hk0
    obtain ⟨dk, _, _, kt, hd, _, _, _, _, hkt, _, hopen⟩ := hly.here
    obtain ⟨kt', hkt', -⟩ := hW.alike.2.2 _ _ hkt
    obtain ⟨vm', hW', hq⟩ := gh_find hobj ⟨k0, hk0⟩ x rest hx h0 hl hfit ys (S.setVm (S.vm.noted f.method.cls y.catchType (.cls ky))) (hW.noted hd hopen (State.rightAt_cls hly)) hcell (fun z hz => hpass z (List.mem_cons_of_mem _ hz))
    refine ⟨vm', hW', fun Q E d acts => ?_⟩
    rw [List.cons_append, gh_row hcov hy0 (hW.classLinks hly) hcell hobj ⟨k0', hk0'⟩ ⟨kt', hkt'⟩, hW.alike.assignable, hno, if_neg (by decide)]
    exact hq Q E d acts
section GI
variable {p : Program} {l : Launch} {e : Env} {R : Room} {s : State} {m : MethodId} {args : Array Value} {below : List Frame} {meth : Method} {c : Code} {H : Heap} {locs : List Loc} {cells slots : Nat} {Q : State → Prop}
/-- the thrown object q, an E9, is caught by the row x: her class name -/
theorem gh_catch {own name E9 : String} {ce : Cell} {q : Addr} {pc : Nat} {ls : Array Slot} {rest : List Value} (hown : s.vm.findClass own = some m.cls) (pre : List ExceptionTableEntry) (x : ExceptionTableEntry) (suf : List ExceptionTableEntry) (hsplit : c.exceptionTable.toList = pre ++ x :: suf)
    (hpass : ∀ z ∈ pre, covers z pc = true ∧ z.catchType ≠ 0 ∧ ∃ nm : String, (Cond.classLink own z.catchType nm).before args s = true ∧ va_Nc E9 nm s) (hx : covers x pc = true) (h0 : x.catchType ≠ 0)
    (hlink : (Cond.classLink own x.catchType name).before args s = true) (hcast : (Cond.castable E9 name).before args s = true) (hcell : H[q]? = some ce) (hv : ce.vm = .none) (hcl : s.vm.findClass E9 = some ce.cls)
    (kk : W p l e R s m args below meth c H locs cells slots Q (F0 m x.handlerPc ls [.ref q])) : gX p l e R s m args below meth c H locs cells slots Q (F0 m pc ls rest) q := by
  intro T hT X
  have hpl : e.platform.magicAccessors = ({} : Platform).magicAccessors := by rw [X.admits.platform]
  obtain ⟨c3, c4, hc3, hc4, hasg⟩ := Cond.castable_spec hcast
  cases Option.some.inj (hc3.symm.trans hcl)
  obtain ⟨c5, hc5, hcl5⟩ := Cond.classLink_spec hown hlink e.platform hpl
  cases Option.some.inj (hc4.symm.trans hc5)
  obtain ⟨k9, h9, -⟩ := Vm.findClass_spec hcl
  have hobj : ∀ k, ce.vm ≠ .statics k := fun k => by rw [hv]; exact fun z => by cases z
  obtain ⟨vm', hW', hq⟩ := gh_find (e := e) (s := s) (f := F0 m pc ls rest) (a := q) (cell := ce) hobj ⟨k9, h9⟩ x suf hx h0 hcl5 hasg pre ((T.setTop (F0 m pc ls rest)).pushFrame (.throwing q)) X.warmed
    (by show T.heap[q]? = some ce; rw [hT]; exact hcell) (fun z hz => by
      obtain ⟨z1, z2, nm, hl1, a8, b8, w1, w2, w3⟩ := hpass z hz
      obtain ⟨c6, hc6, hcl6⟩ := Cond.classLink_spec hown hl1 e.platform hpl
      cases Option.some.inj (w1.symm.trans hcl)
      cases Option.some.inj (w2.symm.trans hc6)
      exact ⟨z1, z2, _, hcl6, w3⟩)
  have hmeth : ((T.setTop (F0 m pc ls rest)).pushFrame (.throwing q)).vm.method? m = some meth := X.method'
  have hfind : ∀ (Q : Handler → Pre) (E : CtlPost) (d : Bool) (acts : List Action), wp (findHandler (F0 m pc ls rest) q) Q E e d acts ((T.setTop (F0 m pc ls rest)).pushFrame (.throwing q)) ↔ Q (.found x.handlerPc) d acts (((T.setTop (F0 m pc ls rest)).pushFrame (.throwing q)).setVm vm') := fun Q E d acts => by
    rw [Jvm.W.findHandler_eq (meth := meth) (code := c) hmeth X.code, hsplit]
    exact hq Q E d acts
  have X' := X.noted hW'
  obtain ⟨t, a1, b1⟩ := kk (T.setVm vm') hT X'
  refine ⟨t, ?_, b1⟩
  have hAt : At T (F0 m pc ls rest).method c below := X.here
  obtain ⟨hgo, hw⟩ := hAt.throwing q
  refine Steps.head hgo hw ?_
  have hstep : ∀ r : List Frame, (stepThrowing e ((T.setTop (F0 m pc ls rest)).pushFrame (.throwing q)) q (.java (F0 m pc ls rest) :: r)).Is ((((T.setTop (F0 m pc ls rest)).pushFrame (.throwing q)).setVm vm').setFrames (.java { F0 m pc ls rest with pc := x.handlerPc, stack := [.ref q] } :: r)) [] := by
    intro r
    simp only [stepThrowing, searchFrame, vmDo]
    generalize hr : Sem.go _ e false [] _ = res
    obtain ⟨as, rfl, ha⟩ := Sem.eq_ok_of hr (a := Handler.found x.handlerPc) (s' := ((T.setTop (F0 m pc ls rest)).pushFrame (.throwing q)).setVm vm') (acts' := []) (by simp [hfind _ _ _ _])
    exact ⟨rfl, ha⟩
  rw [stepThread_throwing (frames_entered hAt.top _), (hstep _).1]
  obtain ⟨g₀, hg⟩ := Option.isSome_iff_exists.mp hAt.top
  obtain ⟨r, hr⟩ := State.topJava?_eq_some.mp hg
  have hr' : (T.setVm vm').frames = .java g₀ :: r := hr
  have e1 : (((T.setTop (F0 m pc ls rest)).pushFrame (.throwing q)).setVm vm').setFrames (.java { F0 m pc ls rest with pc := x.handlerPc, stack := [.ref q] } :: T.frames.tail) = (T.setVm vm').setTop (F0 m x.handlerPc ls [.ref q]) := by
    rw [State.setTop_of_frames _ hr', State.pushFrame, State.setTop_of_frames _ hr, State.setFrames_setFrames, hr]
    show ((T.setFrames _).setFrames _).setVm vm' = _
    rw [State.setFrames_setFrames]
    rfl
  rw [e1]
  exact a1
end GI
end
section
/-! What holds all along: the tables' words, statics, constants (gZ), and the one world (gI at a method's entry, gO in its walk). -/
/-- G: numbers of classes and slots; array classes; addresses of constants (0..10 the kinds, 11 the array of them, 12 the switch's array, 20.. their words, 40.. the words' bytes, 60.. texts of exceptions); the first address of the world -/
abbrev gP : Type := va_G × (Nat → ClassId) × (Nat → Nat) × Nat
abbrev gb (G : gP) : Nat := G.2.2.2
abbrev ga (G : gP) : Nat → Nat := G.2.2.1
abbrev gA (G : gP) : Nat → Prop := fun q => G.2.2.2 ≤ q
def gtys (G : gP) : List (ClassId × FieldType) := [(G.2.1 0, .int), (G.2.1 1, .long), (G.2.1 2, .boolean), (G.2.1 3, .object "PlaceRules$Place"), (G.2.1 4, .object "PlaceRules$Unit"), (G.2.1 5, .object "PlaceRules$Waiver"), (G.2.1 6, .object "PlaceRules$Rule")]
/-- words that stay though they are no good ones: of a link between nest mates, of a cast, of a declaration -/
def gnk : Cond → Bool
  | .methodLinkNest .. => true
  | .fieldLinkNest .. => true
  | .castable .. => true
  | .declares _ => true
  | _ => false
theorem gnk_warm {w : Cond} (h : gnk w = true) {s U : State} (hW : s.WarmedH U.vm) (hZ : va_Nw w s) : va_Nw w U := by
  cases w <;> first | (exact va_Nw.warmM hW hZ) | (exact va_Nw.warmF hW hZ) | (exact va_Nw.warmC hW hZ) | (exact va_Nw.warmD hW hZ) | (simp [gnk] at h)
theorem gnk_on {w : Cond} (h : gnk w = true) : w.onTables = true := by
  cases w <;> first | rfl | (simp [gnk] at h)
def gkn : List String := ["SIZE", "WEIGHT", "GOODS", "LOTS", "OWNERS", "HAZARD", "ZONE", "UNITS", "DATES", "DAYS", "OWN"]
def gkF : List (String × String × String × List Int32) := [("java/lang/Enum", "ordinal", "I", [0, 1, 2, 3, 4, 5, 6, 7, 8, 9, 10]), ("PlaceRules$Kind", "numbers", "I", [1, 1, 1, 1, 1, 2, 2, 1, 1, 1, 1]), ("PlaceRules$Kind", "least", "I", [0, 0, 1, 1, 1, 0, 0, 1, 0, 0, 0]), ("PlaceRules$Kind", "most", "I", [1, 100000, 20, 20, 20, 7, 7, 40, 1000, 1000, 3])]
/-- the kinds' names: their lengths, their bytes -/
def gkl : List Nat := [4, 6, 5, 4, 6, 6, 4, 5, 5, 4, 3]
def gkb : List (List Int32) := [[115, 105, 122, 101], [119, 101, 105, 103, 104, 116], [103, 111, 111, 100, 115], [108, 111, 116, 115], [111, 119, 110, 101, 114, 115], [104, 97, 122, 97, 114, 100], [122, 111, 110, 101], [117, 110, 105, 116, 115], [100, 97, 116, 101, 115], [100, 97, 121, 115], [111, 119, 110]]
/-- the texts of the exceptions: entries of the class's pool -/
def gms : List (Nat × String) := [(95, "there are forty units"), (153, "there are twenty-four rules"), (196, "no such rule"), (215, "there are twenty exceptions"), (239, "the unit stands there"), (242, "the unit stands nowhere"), (298, "no such unit"), (300, "the unit stands somewhere"), (304, "below 0"), (307, "a number outside its range")]
/-- where a static field lies -/
def gl (C n d : String) (A : Nat → Prop) (U : State) (H : Heap) : Prop := ∃ (c : ClassId) (k : Class) (i : Nat) (f : Field) (a : Nat) (cell : Cell), U.vm.findClass C = some c ∧ U.fieldFound? C n d = some (c, k, i, f) ∧ f.isStatic = true ∧ k.statics = some a ∧ H[a]? = some cell ∧ cell.vm.isStatics = true ∧ cell.cls = c ∧ f.slot < cell.slots.size ∧ k.staticTypes[f.slot]? = some f.type ∧ ¬ A a
theorem gl.moved {C n d : String} {A : Nat → Prop} {u U : State} {H : Heap} (hvm : u.vm.Alike U.vm) (h : gl C n d A u H) : gl C n d A U H := by
  obtain ⟨c, k, i, f, a, cell, h1, h2, h3, h4, h5, h6, h7, h8, h9, h10⟩ := h
  obtain ⟨k', hi', he⟩ := State.fieldFound?_setVm hvm h2
  exact ⟨c, k', i, f, a, cell, by rw [hvm.findClass]; exact h1, hi', h3, by rw [he]; exact h4, h5, h6, h7, h8, by rw [he]; exact h9, h10⟩
theorem gl.kept {C n d : String} {A : Nat → Prop} {U : State} {H H1 : Heap} (h : gl C n d A U H) (hq : ∀ a : Nat, a < H.size → ¬ A a → H1[a]? = H[a]?) : gl C n d A U H1 := by
  obtain ⟨c, k, i, f, a, cell, h1, h2, h3, h4, h5, h6, h7, h8, h9, h10⟩ := h
  exact ⟨c, k, i, f, a, cell, h1, h2, h3, h4, by rw [hq a (Array.getElem?_eq_some_iff.mp h5).1 h10]; exact h5, h6, h7, h8, h9, h10⟩
theorem gl.word {C n d : String} {A : Nat → Prop} {s : State} {args : Array Value} (h : gl C n d A s s.heap) : (Cond.laysStatic C n d).before args s = true := by
  obtain ⟨c, k, i, f, a, cell, h1, h2, h3, h4, h5, h6, h7, h8, h9, -⟩ := h
  show (Cond.laysStatic C n d).holds args s none s [] = true
  exact Cond.laysStatic_of h1 h2 h3 h4 h5 h6 h7 h8 h9
theorem gl.of {args : Array Value} {s : State} {C n d : String} {A : Nat → Prop} (hl : (Cond.laysStatic C n d).before args s = true) (hA : ∀ a : Nat, a < s.heap.size → ¬ A a) : gl C n d A s s.heap := by
  obtain ⟨c, k, i, f, a, cell, h1, h2, h3, h4, h5, h6, h7, h8, h9⟩ := Cond.laysStatic_spec hl
  exact ⟨c, k, i, f, a, cell, h1, h2, h3, h4, h5, h6, h7, h8, h9, hA a (Array.getElem?_eq_some_iff.mp h5).1⟩
theorem gl_ref {C n d : String} {A : Nat → Prop} {s : State} {args : Array Value} (h : va_Zq C n d A s s.heap) : (Cond.isRef (.static C n d)).before args s = true := by
  rcases h with h | ⟨t, h⟩
  all_goals
    obtain ⟨cf, kf, fi, f, a, cell, h1, h2, h3, h4, h5, h6, h7, -⟩ := h
    simp [Cond.before, Cond.holds, Cond.value, Term.eval, State.fieldNamed?, h1, h2, h4, h5, h6, h7, Value.isRef]
/-- the heap's part of what stays -/
def gZh (G : gP) (U : State) (H : Heap) : Prop :=
  va_En "PlaceRules$Kind" "LPlaceRules$Kind;" gkn gkF (ga G) (gA G) U H ∧
  va_Z "PlaceRules" "KINDS" "[LPlaceRules$Kind;" (.ref (ga G 11)) (gA G) U H ∧ va_T (.object "PlaceRules$Kind") (ga G 11) 11 (fun j => .ref (ga G j)) (gA G) U H ∧
  va_Z "PlaceRules$1" "$SwitchMap$PlaceRules$Kind" "[I" (.ref (ga G 12)) (gA G) U H ∧ va_T .int (ga G 12) 11 (fun j => .int (nI (j + 1))) (gA G) U H ∧
  va_Ef 11 "PlaceRules$Kind" "word" "Ljava/lang/String;" (fun i => .ref (ga G (20 + i))) (ga G) (gA G) U H ∧ vk_S 11 gkl gkb (fun i => ga G (20 + i)) (fun i => ga G (40 + i)) (gA G) U H ∧
  va_Z "java/lang/String" "COMPACT_STRINGS" "Z" (.int 1) (gA G) U H ∧
  va_Zq "java/lang/Throwable" "UNASSIGNED_STACK" "[Ljava/lang/StackTraceElement;" (gA G) U H ∧ va_Zq "java/lang/Throwable" "SUPPRESSED_SENTINEL" "Ljava/util/List;" (gA G) U H ∧
  gl "java/lang/Throwable" "UNASSIGNED_STACK" "[Ljava/lang/StackTraceElement;" (gA G) U H ∧ gl "java/lang/Throwable" "SUPPRESSED_SENTINEL" "Ljava/util/List;" (gA G) U H
def gZ (G : gP) (U : State) (H : Heap) : Prop :=
  (∀ w ∈ gts, w.before #[] U = true) ∧ (∀ w ∈ lw_tbl, gnk w = true → va_Nw w U) ∧ (∀ i : Nat, i < 10 → vk_R "PlaceRules" (gms.getD i (0, "")).1 (gms.getD i (0, "")).2 (ga G (60 + i)) U) ∧ gZh G U H
theorem gZ.to {G : gP} {s U : State} {H H1 : Heap} (h : gZ G s H) (hW : s.WarmedH U.vm) (hq : ∀ a : Nat, a < H.size → ¬ gA G a → H1[a]? = H[a]?) : gZ G U H1 := by
  obtain ⟨h1, h2, h3, c1, c2, c3, c4, c5, c6, c7, c8, c9, c10, c11, c12⟩ := h
  have hv := hW.alike
  exact ⟨fun w hw => word_at hW (good_of_word (List.mem_filter.mp hw).2) (h1 w hw), fun w hw hk => gnk_warm hk hW (h2 w hw hk), fun i hi => (h3 i hi).warm hW,
    (c1.kept hq).moved hv, (c2.kept hq).moved hv, (c3.kept hq).moved hv, (c4.kept hq).moved hv, (c5.kept hq).moved hv, (c6.kept hq).moved hv, (c7.kept hq).moved hv, (c8.kept hq).moved hv, (c9.kept hq).moved hv, (c10.kept hq).moved hv, (c11.kept hq).moved hv, (c12.kept hq).moved hv⟩
theorem gZ.at {G : gP} {s : State} {H : Heap} (h : gZ G s H) (args : Array Value) : ∀ w ∈ gts, w.before args s = true := fun w hw => word_at (State.WarmedH.refl s) (good_of_word (List.mem_filter.mp hw).2) (h.1 w hw)
/-- at a method's entry -/
def gI (G : gP) (n : Nat) (ad : Nat → Nat) (E : Nat → va_E) (U : State) : Prop :=
  va_K G.1 gcl (gtys G) U ∧ va_P G.1 gcl (gw n ad E) U.heap ∧ va_D (gA G) (gw n ad E) ∧ gb G ≤ U.heap.size ∧ gZ G U U.heap
/-- in a method's walk; A: what may have been written -/
def gO (G : gP) (A : Nat → Prop) (n : Nat) (ad : Nat → Nat) (E : Nat → va_E) (s : State) (H : Heap) (locs : List Loc) : Prop :=
  va_K G.1 gcl (gtys G) s ∧ va_P G.1 gcl (gw n ad E) H ∧ va_D (gA G) (gw n ad E) ∧ va_S A s.heap H locs ∧ (∀ q, A q → gA G q) ∧ gb G ≤ s.heap.size ∧ gZ G s s.heap
theorem gI.blind {G : gP} {n : Nat} {ad : Nat → Nat} {E : Nat → va_E} {av : List Value} : FrameBlind (va_Pc av (gI G n ad E)) := by
  intro a U g mk ⟨h0, h1, h2, h3, h4, h5⟩
  exact ⟨h0, va_K.moved (u := U) (U := U.calling g mk a) (Vm.Alike.refl U.vm) h1, h2, h3, h4, h5.to (U := U.calling g mk a) (State.WarmedH.refl U) (fun _ _ _ => rfl)⟩
theorem gI.start {G : gP} {n : Nat} {ad : Nat → Nat} {E : Nat → va_E} {s : State} {A : Nat → Prop} (h : gI G n ad E s) (hA : ∀ q, A q → gA G q) : gO G A n ad E s s.heap [] :=
  ⟨h.1, h.2.1, h.2.2.1, va_S.rf, hA, h.2.2.2.1, h.2.2.2.2⟩
section GOS
variable {G : gP} {A A1 : Nat → Prop} {n : Nat} {ad : Nat → Nat} {E E1 : Nat → va_E} {s : State} {H H1 : Heap} {locs locs1 : List Loc}
theorem gO.S (h : gO G A n ad E s H locs) : va_S A s.heap H locs := h.2.2.2.1
theorem gO.SG (h : gO G A n ad E s H locs) : va_S (gA G) s.heap H locs := ⟨h.S.1, fun q h1 h2 => h.S.2.1 q h1 (fun z => h2 (h.2.2.2.2.1 q z)), fun l hl => h.2.2.2.2.1 _ (h.S.2.2 l hl)⟩
theorem gO.to (h : gO G A n ad E s H locs) {U : State} (hU : U.heap = H) (hW : s.WarmedH U.vm) : gI G n ad E U := by
  refine ⟨va_K.moved hW.alike h.1, by rw [hU]; exact h.2.1, h.2.2.1, ?_, ?_⟩
  · rw [hU]; exact Nat.le_trans h.2.2.2.2.2.1 h.S.1
  · rw [hU]; exact h.2.2.2.2.2.2.to hW (fun a h1 h2 => h.SG.2.1 a h1 h2)
theorem gw_same {i : Nat} {q : Nat × va_E} (h : (gw n ad E1)[i]? = some q) : ∃ e, (gw n ad E)[i]? = some (q.1, e) := by
  have hi : i < n := by
    have h1 := (List.getElem?_eq_some_iff.mp h).1
    rw [gw_len] at h1
    exact h1
  rw [gw_at hi] at h
  cases h
  exact ⟨_, gw_at hi⟩
theorem gw_D (h : va_D (gA G) (gw n ad E)) : va_D (gA G) (gw n ad E1) := by
  refine ⟨fun i j p q hi hj hpq => ?_, fun k q hk => ?_⟩
  · obtain ⟨e1, h1⟩ := gw_same (E := E) hi
    obtain ⟨e2, h2⟩ := gw_same (E := E) hj
    exact h.1 i j _ _ h1 h2 hpq
  · obtain ⟨e1, h1⟩ := gw_same (E := E) hk
    exact h.2 k (q.1, e1) h1
/-- the world has moved on -/
theorem gO.next (h : gO G A n ad E s H locs) (hP : va_P G.1 gcl (gw n ad E1) H1) (hS : va_S A s.heap H1 locs1) : gO G A n ad E1 s H1 locs1 := ⟨h.1, hP, gw_D h.2.2.1, hS, h.2.2.2.2⟩
/-- .. nothing of it has changed -/
theorem gO.keep (h : gO G A n ad E s H locs) (hq : ∀ q : Nat, q < H.size → H1[q]? = H[q]?) (hS : va_S A s.heap H1 locs1) : gO G A n ad E s H1 locs1 :=
  h.next (h.2.1.kept (fun k q hk => hq q.1 ((h.2.1 k q hk).lt))) hS
theorem gO.hts (h : gO G A n ad E s H locs) (args : Array Value) : ∀ w ∈ gts, w.before args s = true := h.2.2.2.2.2.2.at args
theorem gO.recv (h : gO G A n ad E s H locs) {k ci : Nat} (hk : k < n) {fs : List Value} (hE : E k = .inr (ci, fs)) {q : vw_C} (hc : gcl[ci]? = some q) : ∃ cell : Cell, H[ad k]? = some cell ∧ cell.vm.isStatics = false ∧ s.vm.findClass q.1 = some cell.cls :=
  va_recv h.1 h.2.1 hc (q0 := k) (fs := fs) (by rw [gw_at hk, hE])
end GOS
end
section
/-! The state: σ k j, the int in the place j of the cell k (of a reference to a kind: the kind's number); τ k j, the long there. Cells: 0 the object; 1 2 3 its arrays of places, units, waivers; 4 the rule book, 5 6 7 8 its arrays, 9 .. 32 its rules; 33 the own rules, 34 what they say; 35 the text, 36 its signs, 37 its array of drafts, 38 .. 61 the drafts; 62 the question, 63 .. 66 its sets; 67 the refusals; 68 .. 79 places, 80 .. 119 units, 120 .. 139 waivers; 140 the reference, 141 .. 157 its arrays; 158 the law's own cell. Written by wip/tools/emit_state.py. -/
def fs_PR (G : gP) (ad : Nat → Nat) (f : Nat → Int32) (g : Nat → Int64) : List Value := [.ref (ad 1), .ref (ad 2), .int (f 2), .ref (ad 3), .int (f 4), .ref (ad 4), .ref (ad 33), .ref (ad 35), .ref (ad 62), .ref (ad 67), .int (f 10)]
def fs_RB (G : gP) (ad : Nat → Nat) (f : Nat → Int32) (g : Nat → Int64) : List Value := [.ref (ad 5), .ref (ad 6), .int (f 2), .ref (ad 7), .ref (ad 8), .int (f 5)]
def fs_RU (G : gP) (ad : Nat → Nat) (f : Nat → Int32) (g : Nat → Int64) : List Value := [.int (f 0), .ref (ga G (f 1).toNatClampNeg), .int (f 2), .int (f 3), .int (f 4)]
def fs_OW (G : gP) (ad : Nat → Nat) (f : Nat → Int32) (g : Nat → Int64) : List Value := [.ref (ad 34), .int (f 1)]
def fs_TX (G : gP) (ad : Nat → Nat) (f : Nat → Int32) (g : Nat → Int64) : List Value := [.ref (ad 36), .int (f 1), .ref (ad 37), .int (f 3), .int (f 4), .int (f 5), .ref (ga G (f 6).toNatClampNeg)]
def fs_QU (G : gP) (ad : Nat → Nat) (f : Nat → Int32) (g : Nat → Int64) : List Value := [.int (f 0), .int (f 1), .int (f 2), .int (f 3), .int (f 4), .int (f 5), .int (f 6), .int (f 7), .int (f 8), .int (f 9), .int (f 10), .int (f 11), .int (f 12), .int (f 13), .ref (ad 63), .ref (ad 64), .ref (ad 65), .ref (ad 66)]
def fs_NS (G : gP) (ad : Nat → Nat) (f : Nat → Int32) (g : Nat → Int64) : List Value := [.long (g 0), .long (g 1)]
def fs_PL (G : gP) (ad : Nat → Nat) (f : Nat → Int32) (g : Nat → Int64) : List Value := [.int (f 0), .int (f 1), .int (f 2), .int (f 3), .int (f 4)]
def fs_UN (G : gP) (ad : Nat → Nat) (f : Nat → Int32) (g : Nat → Int64) : List Value := [.int (f 0), .int (f 1), .int (f 2), .int (f 3), .int (f 4), .int (f 5), .int (f 6), .int (f 7), .int (f 8), .int (f 9), .int (f 10)]
def fs_WV (G : gP) (ad : Nat → Nat) (f : Nat → Int32) (g : Nat → Int64) : List Value := [.int (f 0), .int (f 1), .int (f 2), .int (f 3)]
def fs_MD (G : gP) (ad : Nat → Nat) (f : Nat → Int32) (g : Nat → Int64) : List Value := [.int (f 0), .ref (ad 141), .int (f 2), .ref (ad 142), .ref (ad 143), .int (f 5), .ref (ad 144), .ref (ad 145), .ref (ad 146), .ref (ad 147), .ref (ad 148), .int (f 11), .ref (ad 149), .ref (ad 150), .ref (ad 151), .ref (ad 152), .ref (ad 153), .int (f 17), .int (f 18), .ref (ad 154), .int (f 20), .ref (ad 155), .int (f 22), .ref (ad 156), .int (f 24), .int (f 25), .int (f 26), .ref (ad 157)]
def shp (G : gP) (ad : Nat → Nat) (k : Nat) (f : Nat → Int32) (g : Nat → Int64) : va_E :=
  if k < 9 then (match k with
    | 0 => .inr (0, fs_PR G ad f g)
    | 1 => .inl (G.2.1 3, 12, .inr (.inr (.inr (.inr (fun j => some (ad (68 + j)))))))
    | 2 => .inl (G.2.1 4, 40, .inr (.inr (.inr (.inr (fun j => some (ad (80 + j)))))))
    | 3 => .inl (G.2.1 5, 20, .inr (.inr (.inr (.inr (fun j => some (ad (120 + j)))))))
    | 4 => .inr (1, fs_RB G ad f g)
    | 5 => .inl (G.2.1 6, 24, .inr (.inr (.inr (.inr (fun j => some (ad (9 + j)))))))
    | 6 => .inl (G.2.1 0, 24, .inl f)
    | 7 => .inl (G.2.1 0, 276, .inl f)
    | _ => .inl (G.2.1 0, 276, .inl f)
  ) else if k < 33 then .inr (2, fs_RU G ad f g)
  else if k < 38 then (match k with
    | 33 => .inr (3, fs_OW G ad f g)
    | 34 => .inl (G.2.1 0, 4, .inl f)
    | 35 => .inr (4, fs_TX G ad f g)
    | 36 => .inl (G.2.1 0, 400, .inl f)
    | _ => .inl (G.2.1 6, 24, .inr (.inr (.inr (.inr (fun j => some (ad (38 + j)))))))
  ) else if k < 62 then .inr (2, fs_RU G ad f g)
  else if k < 63 then .inr (5, fs_QU G ad f g)
  else if k < 67 then .inr (6, fs_NS G ad f g)
  else if k < 68 then .inl (G.2.1 0, 24, .inl f)
  else if k < 80 then .inr (7, fs_PL G ad f g)
  else if k < 120 then .inr (8, fs_UN G ad f g)
  else if k < 140 then .inr (9, fs_WV G ad f g)
  else (match k with
    | 140 => .inr (10, fs_MD G ad f g)
    | 141 => .inl (G.2.1 0, 60, .inl f)
    | 142 => .inl (G.2.1 0, 400, .inl f)
    | 143 => .inl (G.2.1 0, 40, .inl f)
    | 144 => .inl (G.2.1 0, 24, .inl f)
    | 145 => .inl (G.2.1 0, 24, .inl f)
    | 146 => .inl (G.2.1 0, 24, .inl f)
    | 147 => .inl (G.2.1 0, 24, .inl f)
    | 148 => .inl (G.2.1 2, 24, .inl f)
    | 149 => .inl (G.2.1 0, 20, .inl f)
    | 150 => .inl (G.2.1 0, 20, .inl f)
    | 151 => .inl (G.2.1 0, 20, .inl f)
    | 152 => .inl (G.2.1 0, 20, .inl f)
    | 153 => .inl (G.2.1 0, 4, .inl f)
    | 154 => .inl (G.2.1 0, 552, .inl f)
    | 155 => .inl (G.2.1 0, 24, .inl f)
    | 156 => .inl (G.2.1 0, 400, .inl f)
    | 157 => .inl (G.2.1 0, 88, .inl f)
    | _ => .inl (G.2.1 1, 1, .inr (.inl g))
  )
theorem sh_0 (G : gP) (ad : Nat → Nat) (f : Nat → Int32) (g : Nat → Int64) : shp G ad 0 f g = .inr (0, fs_PR G ad f g) := rfl
theorem sh_1 (G : gP) (ad : Nat → Nat) (f : Nat → Int32) (g : Nat → Int64) : shp G ad 1 f g = .inl (G.2.1 3, 12, .inr (.inr (.inr (.inr (fun j => some (ad (68 + j))))))) := rfl
theorem sh_2 (G : gP) (ad : Nat → Nat) (f : Nat → Int32) (g : Nat → Int64) : shp G ad 2 f g = .inl (G.2.1 4, 40, .inr (.inr (.inr (.inr (fun j => some (ad (80 + j))))))) := rfl
theorem sh_3 (G : gP) (ad : Nat → Nat) (f : Nat → Int32) (g : Nat → Int64) : shp G ad 3 f g = .inl (G.2.1 5, 20, .inr (.inr (.inr (.inr (fun j => some (ad (120 + j))))))) := rfl
theorem sh_4 (G : gP) (ad : Nat → Nat) (f : Nat → Int32) (g : Nat → Int64) : shp G ad 4 f g = .inr (1, fs_RB G ad f g) := rfl
theorem sh_5 (G : gP) (ad : Nat → Nat) (f : Nat → Int32) (g : Nat → Int64) : shp G ad 5 f g = .inl (G.2.1 6, 24, .inr (.inr (.inr (.inr (fun j => some (ad (9 + j))))))) := rfl
theorem sh_6 (G : gP) (ad : Nat → Nat) (f : Nat → Int32) (g : Nat → Int64) : shp G ad 6 f g = .inl (G.2.1 0, 24, .inl f) := rfl
theorem sh_7 (G : gP) (ad : Nat → Nat) (f : Nat → Int32) (g : Nat → Int64) : shp G ad 7 f g = .inl (G.2.1 0, 276, .inl f) := rfl
theorem sh_8 (G : gP) (ad : Nat → Nat) (f : Nat → Int32) (g : Nat → Int64) : shp G ad 8 f g = .inl (G.2.1 0, 276, .inl f) := rfl
theorem sh_33 (G : gP) (ad : Nat → Nat) (f : Nat → Int32) (g : Nat → Int64) : shp G ad 33 f g = .inr (3, fs_OW G ad f g) := rfl
theorem sh_34 (G : gP) (ad : Nat → Nat) (f : Nat → Int32) (g : Nat → Int64) : shp G ad 34 f g = .inl (G.2.1 0, 4, .inl f) := rfl
theorem sh_35 (G : gP) (ad : Nat → Nat) (f : Nat → Int32) (g : Nat → Int64) : shp G ad 35 f g = .inr (4, fs_TX G ad f g) := rfl
theorem sh_36 (G : gP) (ad : Nat → Nat) (f : Nat → Int32) (g : Nat → Int64) : shp G ad 36 f g = .inl (G.2.1 0, 400, .inl f) := rfl
theorem sh_37 (G : gP) (ad : Nat → Nat) (f : Nat → Int32) (g : Nat → Int64) : shp G ad 37 f g = .inl (G.2.1 6, 24, .inr (.inr (.inr (.inr (fun j => some (ad (38 + j))))))) := rfl
theorem sh_62 (G : gP) (ad : Nat → Nat) (f : Nat → Int32) (g : Nat → Int64) : shp G ad 62 f g = .inr (5, fs_QU G ad f g) := rfl
theorem sh_67 (G : gP) (ad : Nat → Nat) (f : Nat → Int32) (g : Nat → Int64) : shp G ad 67 f g = .inl (G.2.1 0, 24, .inl f) := rfl
theorem sh_140 (G : gP) (ad : Nat → Nat) (f : Nat → Int32) (g : Nat → Int64) : shp G ad 140 f g = .inr (10, fs_MD G ad f g) := rfl
theorem sh_141 (G : gP) (ad : Nat → Nat) (f : Nat → Int32) (g : Nat → Int64) : shp G ad 141 f g = .inl (G.2.1 0, 60, .inl f) := rfl
theorem sh_142 (G : gP) (ad : Nat → Nat) (f : Nat → Int32) (g : Nat → Int64) : shp G ad 142 f g = .inl (G.2.1 0, 400, .inl f) := rfl
theorem sh_143 (G : gP) (ad : Nat → Nat) (f : Nat → Int32) (g : Nat → Int64) : shp G ad 143 f g = .inl (G.2.1 0, 40, .inl f) := rfl
theorem sh_144 (G : gP) (ad : Nat → Nat) (f : Nat → Int32) (g : Nat → Int64) : shp G ad 144 f g = .inl (G.2.1 0, 24, .inl f) := rfl
theorem sh_145 (G : gP) (ad : Nat → Nat) (f : Nat → Int32) (g : Nat → Int64) : shp G ad 145 f g = .inl (G.2.1 0, 24, .inl f) := rfl
theorem sh_146 (G : gP) (ad : Nat → Nat) (f : Nat → Int32) (g : Nat → Int64) : shp G ad 146 f g = .inl (G.2.1 0, 24, .inl f) := rfl
theorem sh_147 (G : gP) (ad : Nat → Nat) (f : Nat → Int32) (g : Nat → Int64) : shp G ad 147 f g = .inl (G.2.1 0, 24, .inl f) := rfl
theorem sh_148 (G : gP) (ad : Nat → Nat) (f : Nat → Int32) (g : Nat → Int64) : shp G ad 148 f g = .inl (G.2.1 2, 24, .inl f) := rfl
theorem sh_149 (G : gP) (ad : Nat → Nat) (f : Nat → Int32) (g : Nat → Int64) : shp G ad 149 f g = .inl (G.2.1 0, 20, .inl f) := rfl
theorem sh_150 (G : gP) (ad : Nat → Nat) (f : Nat → Int32) (g : Nat → Int64) : shp G ad 150 f g = .inl (G.2.1 0, 20, .inl f) := rfl
theorem sh_151 (G : gP) (ad : Nat → Nat) (f : Nat → Int32) (g : Nat → Int64) : shp G ad 151 f g = .inl (G.2.1 0, 20, .inl f) := rfl
theorem sh_152 (G : gP) (ad : Nat → Nat) (f : Nat → Int32) (g : Nat → Int64) : shp G ad 152 f g = .inl (G.2.1 0, 20, .inl f) := rfl
theorem sh_153 (G : gP) (ad : Nat → Nat) (f : Nat → Int32) (g : Nat → Int64) : shp G ad 153 f g = .inl (G.2.1 0, 4, .inl f) := rfl
theorem sh_154 (G : gP) (ad : Nat → Nat) (f : Nat → Int32) (g : Nat → Int64) : shp G ad 154 f g = .inl (G.2.1 0, 552, .inl f) := rfl
theorem sh_155 (G : gP) (ad : Nat → Nat) (f : Nat → Int32) (g : Nat → Int64) : shp G ad 155 f g = .inl (G.2.1 0, 24, .inl f) := rfl
theorem sh_156 (G : gP) (ad : Nat → Nat) (f : Nat → Int32) (g : Nat → Int64) : shp G ad 156 f g = .inl (G.2.1 0, 400, .inl f) := rfl
theorem sh_157 (G : gP) (ad : Nat → Nat) (f : Nat → Int32) (g : Nat → Int64) : shp G ad 157 f g = .inl (G.2.1 0, 88, .inl f) := rfl
theorem sh_158 (G : gP) (ad : Nat → Nat) (f : Nat → Int32) (g : Nat → Int64) : shp G ad 158 f g = .inl (G.2.1 1, 1, .inr (.inl g)) := rfl
theorem sh_RU (G : gP) (ad : Nat → Nat) (f : Nat → Int32) (g : Nat → Int64) {j : Nat} (h : j < 24) : shp G ad (9 + j) f g = .inr (2, fs_RU G ad f g) := by
  unfold shp
  rw [if_neg (by omega), if_pos (by omega)]
theorem sh_RD (G : gP) (ad : Nat → Nat) (f : Nat → Int32) (g : Nat → Int64) {j : Nat} (h : j < 24) : shp G ad (38 + j) f g = .inr (2, fs_RU G ad f g) := by
  unfold shp
  rw [if_neg (by omega), if_neg (by omega), if_neg (by omega), if_pos (by omega)]
theorem sh_NS (G : gP) (ad : Nat → Nat) (f : Nat → Int32) (g : Nat → Int64) {j : Nat} (h : j < 4) : shp G ad (63 + j) f g = .inr (6, fs_NS G ad f g) := by
  unfold shp
  rw [if_neg (by omega), if_neg (by omega), if_neg (by omega), if_neg (by omega), if_neg (by omega), if_pos (by omega)]
theorem sh_PL (G : gP) (ad : Nat → Nat) (f : Nat → Int32) (g : Nat → Int64) {j : Nat} (h : j < 12) : shp G ad (68 + j) f g = .inr (7, fs_PL G ad f g) := by
  unfold shp
  rw [if_neg (by omega), if_neg (by omega), if_neg (by omega), if_neg (by omega), if_neg (by omega), if_neg (by omega), if_neg (by omega), if_pos (by omega)]
theorem sh_UN (G : gP) (ad : Nat → Nat) (f : Nat → Int32) (g : Nat → Int64) {j : Nat} (h : j < 40) : shp G ad (80 + j) f g = .inr (8, fs_UN G ad f g) := by
  unfold shp
  rw [if_neg (by omega), if_neg (by omega), if_neg (by omega), if_neg (by omega), if_neg (by omega), if_neg (by omega), if_neg (by omega), if_neg (by omega), if_pos (by omega)]
theorem sh_WV (G : gP) (ad : Nat → Nat) (f : Nat → Int32) (g : Nat → Int64) {j : Nat} (h : j < 20) : shp G ad (120 + j) f g = .inr (9, fs_WV G ad f g) := by
  unfold shp
  rw [if_neg (by omega), if_neg (by omega), if_neg (by omega), if_neg (by omega), if_neg (by omega), if_neg (by omega), if_neg (by omega), if_neg (by omega), if_neg (by omega), if_pos (by omega)]
def enc (G : gP) (ad : Nat → Nat) (σ : Nat → Nat → Int32) (τ : Nat → Nat → Int64) : Nat → va_E := fun k => shp G ad k (σ k) (τ k)
/-- an int of a cell is written -/
def up2 (σ : Nat → Nat → Int32) (k j : Nat) (v : Int32) : Nat → Nat → Int32 := va_up σ k (upd (σ k) j v)
def up2L (τ : Nat → Nat → Int64) (k j : Nat) (v : Int64) : Nat → Nat → Int64 := va_up τ k (vp_updL (τ k) j v)
theorem enc_i {G : gP} {ad : Nat → Nat} {σ : Nat → Nat → Int32} {τ : Nat → Nat → Int64} {k j : Nat} {v : Int32} {e : va_E} (h : shp G ad k (upd (σ k) j v) (τ k) = e) : va_up (enc G ad σ τ) k e = enc G ad (up2 σ k j v) τ := by
  funext i
  by_cases hi : i = k
  · subst hi
    simp [va_up, enc, up2, h]
  · simp [va_up, enc, up2, hi]
theorem enc_l {G : gP} {ad : Nat → Nat} {σ : Nat → Nat → Int32} {τ : Nat → Nat → Int64} {k j : Nat} {v : Int64} {e : va_E} (h : shp G ad k (σ k) (vp_updL (τ k) j v) = e) : va_up (enc G ad σ τ) k e = enc G ad σ (up2L τ k j v) := by
  funext i
  by_cases hi : i = k
  · subst hi
    simp [va_up, enc, up2L, h]
  · simp [va_up, enc, up2L, hi]
theorem up2_s {σ : Nat → Nat → Int32} {k j : Nat} {v : Int32} : up2 σ k j v k j = v := by simp [up2, va_up, upd]
theorem up2_j {σ : Nat → Nat → Int32} {k j i : Nat} {v : Int32} (h : i ≠ j) : up2 σ k j v k i = σ k i := by simp [up2, va_up, upd, h]
theorem up2_k {σ : Nat → Nat → Int32} {k j q i : Nat} {v : Int32} (h : q ≠ k) : up2 σ k j v q i = σ q i := by simp [up2, va_up, h]
end
section
/-! Rows over the one world: fields, arrays, calls, throws. -/
abbrev gC (ci : Nat) : vw_C := gcl.getD ci ("", fun _ => ("", "", "", false), 0)
/-- the field j of the class ci, as the method's class 'own' names it by its pool's entry -/
def gF (own : String) (index ci j : Nat) : Prop := gcl[ci]? = some (gC ci) ∧ (∀ w ∈ u_ws (gC ci).1 (gC ci).2.1 (gC ci).2.2, w ∈ gts) ∧ j < (gC ci).2.2 ∧ Cond.fieldLink own index (gC ci).1 ((gC ci).2.1 j).2.1 ((gC ci).2.1 j).2.2.1 ∈ gts ∧ ((gC ci).2.1 j).1 = (gC ci).1
/-- .. and it may be written -/
def gFp (own : String) (index ci j : Nat) (ty0 : Nat → FieldType) : Prop := gF own index ci j ∧ (∀ k, k < (gC ci).2.2 → parseFieldDescriptor ((gC ci).2.1 k).2.2.1 = some (ty0 k)) ∧ (∀ a, a < (gC ci).2.2 → ∀ b, b < (gC ci).2.2 → a ≠ b → ((gC ci).2.1 a).2.1 ≠ ((gC ci).2.1 b).2.1) ∧ ((gC ci).2.1 j).2.2.2 = false
section GR
variable {p : Program} {l : Launch} {e : Env} {R : Room} {s : State} {m : MethodId} {args : Array Value} {below : List Frame} {meth : Method} {c : Code} {H : Heap} {locs : List Loc} {cells slots : Nat} {Q : State → Prop}
variable {cc : ByteArray} {pc nL : Nat} {ls : Array Slot} {rest : List Value} {own : String} {G : gP} {A : Nat → Prop} {n : Nat} {ad : Nat → Nat} {E E2 : Nat → va_E}
theorem g_get (S : CallFix p m c cc nL s args gts own) (hO : gO G A n ad E s H locs) {index ci j k : Nat} (hF : gF own index ci j) (hk : k < n) {fs : List Value} (hE : E k = .inr (ci, fs)) {v : Value} (hv : fs[j]? = some v) (hdg : decode cc pc = .ok (.getfield index, 3))
    (kk : W p l e R s m args below meth c H locs cells slots Q (F0 m (pc + 3) ls (v :: rest))) : W p l e R s m args below meth c H locs cells slots Q (F0 m pc ls (.ref (ad k) :: rest)) := by
  obtain ⟨hc, hin, hj, hl, hT⟩ := hF
  exact va_get (D := G.1) (ref := (gC ci).1) S.1 S.2.1 S.2.2.2.2 hin S.2.2.2.1 hO.1 hO.2.1 k (by rw [gw_at hk, hE]) hc j hj (S.2.2.2.2 _ hl) (fun x h => by rw [← hT]; rw [hT] at h ⊢; exact h) hv hdg kk
theorem g_put (S : CallFix p m c cc nL s args gts own) (hO : gO G A n ad E s H locs) (hA : ∀ q, gA G q → A q) {index ci j k : Nat} {ty0 : Nat → FieldType} (hF : gFp own index ci j ty0) (hk : k < n) {fs : List Value} (hE : E k = .inr (ci, fs)) {v : Value} (hn : narrow (ty0 j) v = v) (hfit : fits (ty0 j) v = true) (hl : j < fs.length) (hE2 : va_up E k (.inr (ci, fs.set j v)) = E2) (hdg : decode cc pc = .ok (.putfield index, 3))
    (kk : ∀ (H1 : Heap) (locs1 : List Loc), gO G A n ad E2 s H1 locs1 → W p l e R s m args below meth c H1 locs1 cells slots Q (F0 m (pc + 3) ls rest)) : W p l e R s m args below meth c H locs cells slots Q (F0 m pc ls (v :: .ref (ad k) :: rest)) := by
  obtain ⟨⟨hc, hin, hj, hlk, hT⟩, hty, hnm, hfin⟩ := hF
  refine va_put (D := G.1) (ref := (gC ci).1) (ty := ty0 j) (A := A) S.1 S.2.1 S.2.2.2.2 hin ty0 hty hnm S.2.2.2.1 hO.1 hO.2.1 (hO.2.2.1.weaken (fun _ q _ h => hA q.1 h)) hO.S k (by rw [gw_at hk, hE]) hc j hj (S.2.2.2.2 _ hlk) (fun x h => by rw [← hT]; rw [hT] at h ⊢; exact h) hfin (hty j hj) hn hfit hl hdg (fun H1 locs1 h1 _ h3 => kk H1 locs1 (hO.next ?_ h3))
  rw [gw_set hk, hE2] at h1
  exact h1
theorem g_ial (S : CallFix p m c cc nL s args gts own) (hO : gO G A n ad E s H locs) {k N : Nat} {f : Nat → Int32} (hk : k < n) (hE : E k = .inl (G.2.1 0, N, .inl f)) {i : Int32} (hi : vp_in i N) (hdg : decode cc pc = .ok (.iaload, 1))
    (kk : W p l e R s m args below meth c H locs cells slots Q (F0 m (pc + 1) ls (.int (f i.toNatClampNeg) :: rest))) : W p l e R s m args below meth c H locs cells slots Q (F0 m pc ls (.int i :: .ref (ad k) :: rest)) :=
  va_iald S.1 S.2.1 hO.1 hO.2.1 k 0 (by rw [gw_at hk, hE]) rfl hi hdg kk
theorem g_zal (S : CallFix p m c cc nL s args gts own) (hO : gO G A n ad E s H locs) {k N : Nat} {f : Nat → Int32} (hk : k < n) (hE : E k = .inl (G.2.1 2, N, .inl f)) {i : Int32} (hi : vp_in i N) (hdg : decode cc pc = .ok (.baload, 1))
    (kk : W p l e R s m args below meth c H locs cells slots Q (F0 m (pc + 1) ls (.int (f i.toNatClampNeg) :: rest))) : W p l e R s m args below meth c H locs cells slots Q (F0 m pc ls (.int i :: .ref (ad k) :: rest)) :=
  va_zald S.1 S.2.1 hO.1 hO.2.1 k 2 (by rw [gw_at hk, hE]) rfl hi hdg kk
theorem g_lal (S : CallFix p m c cc nL s args gts own) (hO : gO G A n ad E s H locs) {k N : Nat} {f : Nat → Int64} (hk : k < n) (hE : E k = .inl (G.2.1 1, N, .inr (.inl f))) {i : Int32} (hi : vp_in i N) (hdg : decode cc pc = .ok (.laload, 1))
    (kk : W p l e R s m args below meth c H locs cells slots Q (F0 m (pc + 1) ls (.long (f i.toNatClampNeg) :: rest))) : W p l e R s m args below meth c H locs cells slots Q (F0 m pc ls (.int i :: .ref (ad k) :: rest)) :=
  va_lald S.1 S.2.1 hO.1 hO.2.1 k 1 (by rw [gw_at hk, hE]) rfl hi hdg kk
theorem g_aal (S : CallFix p m c cc nL s args gts own) (hO : gO G A n ad E s H locs) {k N t0 : Nat} {C : String} {f : Nat → Option Nat} {cA : ClassId} (hk : k < n) (hE : E k = .inl (cA, N, .inr (.inr (.inr (.inr f))))) (ht : (gtys G)[t0]? = some (cA, .object C)) {i : Int32} (hi : vp_in i N) {v : Value} (hv : va_rf (f i.toNatClampNeg) = v) (hdg : decode cc pc = .ok (.aaload, 1))
    (kk : W p l e R s m args below meth c H locs cells slots Q (F0 m (pc + 1) ls (v :: rest))) : W p l e R s m args below meth c H locs cells slots Q (F0 m pc ls (.int i :: .ref (ad k) :: rest)) := by
  subst hv
  exact va_aldq S.1 S.2.1 hO.1 hO.2.1 k t0 (by rw [gw_at hk, hE]) ht hi hdg kk
theorem g_ias (S : CallFix p m c cc nL s args gts own) (hO : gO G A n ad E s H locs) (hA : ∀ q, gA G q → A q) {k N : Nat} {f : Nat → Int32} (hk : k < n) (hE : E k = .inl (G.2.1 0, N, .inl f)) {i x : Int32} (hi : vp_in i N) (hE2 : va_up E k (.inl (G.2.1 0, N, .inl (upd f i.toNatClampNeg x))) = E2) (hdg : decode cc pc = .ok (.iastore, 1))
    (kk : ∀ (H1 : Heap) (locs1 : List Loc), gO G A n ad E2 s H1 locs1 → W p l e R s m args below meth c H1 locs1 cells slots Q (F0 m (pc + 1) ls rest)) : W p l e R s m args below meth c H locs cells slots Q (F0 m pc ls (.int x :: .int i :: .ref (ad k) :: rest)) := by
  refine va_iast (A := A) S.1 S.2.1 hO.1 hO.2.1 (hO.2.2.1.weaken (fun _ q _ h => hA q.1 h)) hO.S k 0 (by rw [gw_at hk, hE]) rfl hi hdg (fun H1 locs1 h1 _ h3 => kk H1 locs1 (hO.next ?_ h3))
  rw [gw_set hk, hE2] at h1
  exact h1
theorem g_zas (S : CallFix p m c cc nL s args gts own) (hO : gO G A n ad E s H locs) (hA : ∀ q, gA G q → A q) {k N : Nat} {f : Nat → Int32} (hk : k < n) (hE : E k = .inl (G.2.1 2, N, .inl f)) {i x : Int32} (hi : vp_in i N) (hE2 : va_up E k (.inl (G.2.1 2, N, .inl (upd f i.toNatClampNeg (vp_nar .boolean x)))) = E2) (hdg : decode cc pc = .ok (.bastore, 1))
    (kk : ∀ (H1 : Heap) (locs1 : List Loc), gO G A n ad E2 s H1 locs1 → W p l e R s m args below meth c H1 locs1 cells slots Q (F0 m (pc + 1) ls rest)) : W p l e R s m args below meth c H locs cells slots Q (F0 m pc ls (.int x :: .int i :: .ref (ad k) :: rest)) := by
  refine va_zast (A := A) S.1 S.2.1 hO.1 hO.2.1 (hO.2.2.1.weaken (fun _ q _ h => hA q.1 h)) hO.S k 2 (by rw [gw_at hk, hE]) rfl hi hdg (fun H1 locs1 h1 _ h3 => kk H1 locs1 (hO.next ?_ h3))
  rw [gw_set hk, hE2] at h1
  exact h1
theorem g_las (S : CallFix p m c cc nL s args gts own) (hO : gO G A n ad E s H locs) (hA : ∀ q, gA G q → A q) {k N : Nat} {f : Nat → Int64} (hk : k < n) (hE : E k = .inl (G.2.1 1, N, .inr (.inl f))) {i : Int32} {x : Int64} (hi : vp_in i N) (hE2 : va_up E k (.inl (G.2.1 1, N, .inr (.inl (vp_updL f i.toNatClampNeg x)))) = E2) (hdg : decode cc pc = .ok (.lastore, 1))
    (kk : ∀ (H1 : Heap) (locs1 : List Loc), gO G A n ad E2 s H1 locs1 → W p l e R s m args below meth c H1 locs1 cells slots Q (F0 m (pc + 1) ls rest)) : W p l e R s m args below meth c H locs cells slots Q (F0 m pc ls (.long x :: .int i :: .ref (ad k) :: rest)) := by
  refine va_last (A := A) S.1 S.2.1 hO.1 hO.2.1 (hO.2.2.1.weaken (fun _ q _ h => hA q.1 h)) hO.S k 1 (by rw [gw_at hk, hE]) rfl hi hdg (fun H1 locs1 h1 _ h3 => kk H1 locs1 (hO.next ?_ h3))
  rw [gw_set hk, hE2] at h1
  exact h1
end GR
/-! Contracts over the one world. Pure: nothing is written. Else: E goes to E', or it throws and nothing of the world has changed. -/
def gPu (l : Launch) (y : MethodName) (w : Cond) (rm : Room) (G : gP) (n : Nat) (ad : Nat → Nat) (E : Nat → va_E) (av : List Value) (mc ms : Nat) (post : Option Value → Prop) (xp : String → Prop) : Prop :=
  gK l y w rm (va_Pc av (gI G n ad E)) (fun _ => False) mc ms (fun v _ => post v) (fun x _ => xp x)
def gIm (l : Launch) (y : MethodName) (w : Cond) (rm : Room) (G : gP) (n : Nat) (ad : Nat → Nat) (E : Nat → va_E) (av : List Value) (mc ms : Nat) (post : Option Value → (Nat → va_E) → Prop) (xp : String → Prop) : Prop :=
  gK l y w rm (va_Pc av (gI G n ad E)) (gA G) mc ms (fun v t => ∃ E1, post v E1 ∧ va_P G.1 gcl (gw n ad E1) t.heap) (fun x t => xp x ∧ va_P G.1 gcl (gw n ad E) t.heap)
section GCW
variable {p : Program} {l : Launch} {e : Env} {R : Room} {s : State} {m : MethodId} {args : Array Value} {below : List Frame} {meth : Method} {c : Code} {H : Heap} {locs : List Loc} {cells slots : Nat} {Q : State → Prop}
variable {y : MethodName} {bytes cc : ByteArray} {maxL nL mc ms index pc : Nat} {ret : Option FieldType} {rm : Room} {A : Nat → Prop} {own : String} {As rest : List Value} {ls : Array Slot} {G : gP} {n : Nat} {ad : Nat → Nat} {E : Nat → va_E} {xp : String → Prop}
/-- the words of a virtual call, and of a static one -/
def gWV (own : String) (index : Nat) (y : MethodName) (w : Cond) (k : Nat) : Prop := Cond.methodLink own index y ∈ gts ∧ Cond.instanceMethod y ∈ gts ∧ Cond.selects y.cls y y ∈ gts ∧ Cond.initialized y.cls ∈ gts ∧ w ∈ gts ∧ (y.cls ≠ "java/lang/invoke/MethodHandle" ∧ y.cls ≠ "java/lang/invoke/VarHandle") ∧ (parseMethodDescriptor y.desc).map (fun d => d.parameters.length) = some k
def gWS (own : String) (index : Nat) (y : MethodName) (w : Cond) (k : Nat) : Prop := Cond.methodLink own index y ∈ gts ∧ Cond.static y ∈ gts ∧ Cond.initialized y.cls ∈ gts ∧ w ∈ gts ∧ (y.cls ≠ "java/lang/invoke/MethodHandle" ∧ y.cls ≠ "java/lang/invoke/VarHandle") ∧ (parseMethodDescriptor y.desc).map (fun d => d.parameters.length) = some k
theorem g_VP {post : Option Value → Prop} (S : CallFix p m c cc nL s args gts own) (hO : gO G A n ad E s H locs) {k ci : Nat} (hM : gPu l y (.code y bytes maxL ret) rm G n ad E (.ref (ad k) :: As) mc ms post xp) (hw : gWV own index y (.code y bytes maxL ret) As.length) (hk : k < n) {fs : List Value} (hE : E k = .inr (ci, fs)) {q : vw_C} (hc : gcl[ci]? = some q) (hq : q.1 = y.cls)
    (hsz : ls.size = nL) (hrest : (rest.map fun v => v.category).sum ≤ 8) (hR : rm.frames + 1 ≤ R.frames ∧ 8 + (maxL + 11) + rm.locals ≤ R.locals) (hR2 : cells + rm.cells ≤ R.cells ∧ slots + rm.slots ≤ R.slots) (hdg : decode cc pc = .ok (.invokevirtual index, 3))
    (kx : ∀ (q : Addr) (x : String) (ce : Cell) (H1 : Heap), xp x → gO G A n ad E s H1 locs → H1[q]? = some ce → ce.vm = .none → s.vm.findClass x = some ce.cls → gX p l e R s m args below meth c H1 locs (cells + mc) (slots + ms) Q (F0 m pc ls rest) q)
    (kk : ∀ (v : Option Value) (H1 : Heap), post v → gO G A n ad E s H1 locs → W p l e R s m args below meth c H1 locs (cells + mc) (slots + ms) Q (F0 m (pc + 3) ls (v.toList ++ rest))) :
    W p l e R s m args below meth c H locs cells slots Q (F0 m pc ls (As.reverse ++ .ref (ad k) :: rest)) := by
  obtain ⟨w1, w2, w3, w4, w5, w6, w7⟩ := hw
  refine g_V (A := A) S hM w1 w2 w3 w4 w5 w6 w7 (by rw [← hq]; exact hO.recv hk hE hc) gI.blind (fun U hU hW => ⟨rfl, hO.to hU hW⟩) hsz hrest hR.1 hR.2 hR2.1 hR2.2 hO.S (fun _ h => h.elim) hdg (fun q x ce t H1 L ht hx z1 z2 hL hS hce hcv hcl => ?_) (fun v t H1 L ht hv z1 z2 hL hS => ?_)
  · have e1 := g_none hL
    subst e1
    rw [List.append_nil] at hS ⊢
    exact kx q x ce H1 hx (hO.keep (fun q h => z2 q h id) hS) hce hcv hcl
  · have e1 := g_none hL
    subst e1
    rw [List.append_nil] at hS ⊢
    exact kk v H1 hv (hO.keep (fun q h => z2 q h id) hS)
theorem g_SP {w : Cond} {post : Option Value → Prop} (S : CallFix p m c cc nL s args gts own) (hO : gO G A n ad E s H locs) (hM : gPu l y w rm G n ad E As mc ms post xp) (hw : gWS own index y w As.length) (hcf : ∀ (a : Array Value) (U : State), w.before a U = true → ∃ (mk : MethodId) (mY : Method) (cY : Code), U.methodNamed? y = some mk ∧ U.vm.method? mk = some mY ∧ mY.code = some cY ∧ cY.maxLocals = maxL ∧ parseMethodDescriptor y.desc = some mY.sig)
    (hsz : ls.size = nL) (hrest : (rest.map fun v => v.category).sum ≤ 8) (hR : rm.frames + 1 ≤ R.frames ∧ 8 + (maxL + 11) + rm.locals ≤ R.locals) (hR2 : cells + rm.cells ≤ R.cells ∧ slots + rm.slots ≤ R.slots) (hdg : decode cc pc = .ok (.invokestatic index, 3))
    (kx : ∀ (q : Addr) (x : String) (ce : Cell) (H1 : Heap), xp x → gO G A n ad E s H1 locs → H1[q]? = some ce → ce.vm = .none → s.vm.findClass x = some ce.cls → gX p l e R s m args below meth c H1 locs (cells + mc) (slots + ms) Q (F0 m pc ls rest) q)
    (kk : ∀ (v : Option Value) (H1 : Heap), post v → gO G A n ad E s H1 locs → W p l e R s m args below meth c H1 locs (cells + mc) (slots + ms) Q (F0 m (pc + 3) ls (v.toList ++ rest))) :
    W p l e R s m args below meth c H locs cells slots Q (F0 m pc ls (As.reverse ++ rest)) := by
  obtain ⟨w1, w3, w4, w5, w6, w7⟩ := hw
  refine g_S (A := A) S hM w1 w3 w4 w5 hcf w6 w7 gI.blind (fun U hU hW => ⟨rfl, hO.to hU hW⟩) hsz hrest hR.1 hR.2 hR2.1 hR2.2 hO.S (fun _ h => h.elim) hdg (fun q x ce t H1 L ht hx z1 z2 hL hS hce hcv hcl => ?_) (fun v t H1 L ht hv z1 z2 hL hS => ?_)
  · have e1 := g_none hL
    subst e1
    rw [List.append_nil] at hS ⊢
    exact kx q x ce H1 hx (hO.keep (fun q h => z2 q h id) hS) hce hcv hcl
  · have e1 := g_none hL
    subst e1
    rw [List.append_nil] at hS ⊢
    exact kk v H1 hv (hO.keep (fun q h => z2 q h id) hS)
theorem g_VI {post : Option Value → (Nat → va_E) → Prop} (S : CallFix p m c cc nL s args gts own) (hO : gO G A n ad E s H locs) (hA : ∀ q, gA G q → A q) {k ci : Nat} (hM : gIm l y (.code y bytes maxL ret) rm G n ad E (.ref (ad k) :: As) mc ms post xp) (hw : gWV own index y (.code y bytes maxL ret) As.length) (hk : k < n) {fs : List Value} (hE : E k = .inr (ci, fs)) {q : vw_C} (hc : gcl[ci]? = some q) (hq : q.1 = y.cls)
    (hsz : ls.size = nL) (hrest : (rest.map fun v => v.category).sum ≤ 8) (hR : rm.frames + 1 ≤ R.frames ∧ 8 + (maxL + 11) + rm.locals ≤ R.locals) (hR2 : cells + rm.cells ≤ R.cells ∧ slots + rm.slots ≤ R.slots) (hdg : decode cc pc = .ok (.invokevirtual index, 3))
    (kx : ∀ (q : Addr) (x : String) (ce : Cell) (H1 : Heap) (locs1 : List Loc), xp x → gO G A n ad E s H1 locs1 → H1[q]? = some ce → ce.vm = .none → s.vm.findClass x = some ce.cls → gX p l e R s m args below meth c H1 locs1 (cells + mc) (slots + ms) Q (F0 m pc ls rest) q)
    (kk : ∀ (v : Option Value) (E1 : Nat → va_E) (H1 : Heap) (locs1 : List Loc), post v E1 → gO G A n ad E1 s H1 locs1 → W p l e R s m args below meth c H1 locs1 (cells + mc) (slots + ms) Q (F0 m (pc + 3) ls (v.toList ++ rest))) :
    W p l e R s m args below meth c H locs cells slots Q (F0 m pc ls (As.reverse ++ .ref (ad k) :: rest)) := by
  obtain ⟨w1, w2, w3, w4, w5, w6, w7⟩ := hw
  refine g_V (A := A) S hM w1 w2 w3 w4 w5 w6 w7 (by rw [← hq]; exact hO.recv hk hE hc) gI.blind (fun U hU hW => ⟨rfl, hO.to hU hW⟩) hsz hrest hR.1 hR.2 hR2.1 hR2.2 hO.S hA hdg (fun q x ce t H1 L ht hx z1 z2 hL hS hce hcv hcl => ?_) (fun v t H1 L ht hv z1 z2 hL hS => ?_)
  · exact kx q x ce H1 _ hx.1 (hO.next (by rw [← ht]; exact hx.2) hS) hce hcv hcl
  · obtain ⟨E1, h1, h2⟩ := hv
    exact kk v E1 H1 _ h1 (hO.next (by rw [← ht]; exact h2) hS)
theorem g_SI {w : Cond} {post : Option Value → (Nat → va_E) → Prop} (S : CallFix p m c cc nL s args gts own) (hO : gO G A n ad E s H locs) (hA : ∀ q, gA G q → A q) (hM : gIm l y w rm G n ad E As mc ms post xp) (hw : gWS own index y w As.length) (hcf : ∀ (a : Array Value) (U : State), w.before a U = true → ∃ (mk : MethodId) (mY : Method) (cY : Code), U.methodNamed? y = some mk ∧ U.vm.method? mk = some mY ∧ mY.code = some cY ∧ cY.maxLocals = maxL ∧ parseMethodDescriptor y.desc = some mY.sig)
    (hsz : ls.size = nL) (hrest : (rest.map fun v => v.category).sum ≤ 8) (hR : rm.frames + 1 ≤ R.frames ∧ 8 + (maxL + 11) + rm.locals ≤ R.locals) (hR2 : cells + rm.cells ≤ R.cells ∧ slots + rm.slots ≤ R.slots) (hdg : decode cc pc = .ok (.invokestatic index, 3))
    (kx : ∀ (q : Addr) (x : String) (ce : Cell) (H1 : Heap) (locs1 : List Loc), xp x → gO G A n ad E s H1 locs1 → H1[q]? = some ce → ce.vm = .none → s.vm.findClass x = some ce.cls → gX p l e R s m args below meth c H1 locs1 (cells + mc) (slots + ms) Q (F0 m pc ls rest) q)
    (kk : ∀ (v : Option Value) (E1 : Nat → va_E) (H1 : Heap) (locs1 : List Loc), post v E1 → gO G A n ad E1 s H1 locs1 → W p l e R s m args below meth c H1 locs1 (cells + mc) (slots + ms) Q (F0 m (pc + 3) ls (v.toList ++ rest))) :
    W p l e R s m args below meth c H locs cells slots Q (F0 m pc ls (As.reverse ++ rest)) := by
  obtain ⟨w1, w3, w4, w5, w6, w7⟩ := hw
  refine g_S (A := A) S hM w1 w3 w4 w5 hcf w6 w7 gI.blind (fun U hU hW => ⟨rfl, hO.to hU hW⟩) hsz hrest hR.1 hR.2 hR2.1 hR2.2 hO.S hA hdg (fun q x ce t H1 L ht hx z1 z2 hL hS hce hcv hcl => ?_) (fun v t H1 L ht hv z1 z2 hL hS => ?_)
  · exact kx q x ce H1 _ hx.1 (hO.next (by rw [← ht]; exact hx.2) hS) hce hcv hcl
  · obtain ⟨E1, h1, h2⟩ := hv
    exact kk v E1 H1 _ h1 (hO.next (by rw [← ht]; exact h2) hS)
end GCW
end
section
/-! The row of a throw: new, dup, the text, the constructor, athrow. Written by wip/tools/emit_throw.py. -/
theorem gd_1 {w : Cond} (i : Nat) (h : tables_1_1[i]? = some w) : w ∈ lw_tbl := List.mem_append_right _ (List.mem_append_left _ (List.mem_of_getElem? h))
theorem gd_2 {w : Cond} (i : Nat) (h : tables_1_2[i]? = some w) : w ∈ lw_tbl := List.mem_append_right _ (List.mem_append_right _ (List.mem_append_left _ (List.mem_of_getElem? h)))
theorem gd_3 {w : Cond} (i : Nat) (h : tables_1_3[i]? = some w) : w ∈ lw_tbl := List.mem_append_right _ (List.mem_append_right _ (List.mem_append_right _ (List.mem_append_left _ (List.mem_of_getElem? h))))
theorem gd_4 {w : Cond} (i : Nat) (h : tables_1_4[i]? = some w) : w ∈ lw_tbl := List.mem_append_right _ (List.mem_append_right _ (List.mem_append_right _ (List.mem_append_right _ (List.mem_append_left _ (List.mem_of_getElem? h)))))
theorem gd_5 {w : Cond} (i : Nat) (h : tables_1_5[i]? = some w) : w ∈ lw_tbl := List.mem_append_right _ (List.mem_append_right _ (List.mem_append_right _ (List.mem_append_right _ (List.mem_append_right _ (List.mem_append_left _ (List.mem_of_getElem? h))))))
theorem gd_6 {w : Cond} (i : Nat) (h : tables_1_6[i]? = some w) : w ∈ lw_tbl := List.mem_append_right _ (List.mem_append_right _ (List.mem_append_right _ (List.mem_append_right _ (List.mem_append_right _ (List.mem_append_right _ (List.mem_of_getElem? h))))))
section GTR
variable {p : Program} {l : Launch} {e : Env} {R : Room} {s : State} {m : MethodId} {args : Array Value} {below : List Frame} {meth : Method} {c : Code} {H : Heap} {cells slots : Nat}
variable {cc : ByteArray} {pc nL mc ms : Nat} {ls : Array Slot} {rest : List Value} {own cls sup tx : String} {names : List String} {ic ix idx ldx q0 : Nat} {rx : ByteArray} {G : gP} {A : Nat → Prop} {n : Nat} {ad : Nat → Nat} {E : Nat → va_E} {Qv : Option Value → State → Prop} {Qx : String → State → Prop}
/-- what a throw needs of its class -/
def gXw (own cls sup : String) (ic ix idx : Nat) (rx : ByteArray) (names : List String) : Prop := decode rx 0 = .ok (.aload_n 0, 1) ∧ decode rx 1 = .ok (.aload_n 1, 1) ∧ decode rx 2 = .ok (.invokespecial ix, 3) ∧ decode rx 5 = .ok (.return_, 1) ∧ Bundle.fit cls = true ∧ Bundle.fit sup = true ∧ (∀ n ∈ names, Bundle.fit n = true) ∧ Cond.classLink own idx cls ∈ gts ∧ Cond.instantiable cls 6 ∈ gts ∧ Cond.initialized cls ∈ gts ∧ ∀ (G : gP) (s : State) (args : Array Value), gZ G s s.heap → ∀ a ∈ gx_ws own ic cls sup ix rx names, a.before args s = true
theorem g_thr (S : CallFix p m c cc nL s args gts own) (hl : l.stackTraces = false) (hZ : gZ G s s.heap) (hw : gXw own cls sup ic ix idx rx names) (hS : va_S A s.heap H []) {a : Nat} {cX : ClassId} {kX : Class} (hfX : s.vm.findClass cls = some cX) (hkX : s.vm.classes[cX]? = some kX) (hcell : H[a]? = some (blank cX kX)) (hnew : s.heap.size ≤ a)
    (hsz : ls.size = nL) (hout : ∀ x ∈ c.exceptionTable.toList, covers x (pc + 3) = false) (hlocks : meth.locks = false) (hRf : names.length + 4 < R.frames) (hRl : ((Value.ref a :: rest).map fun v => v.category).sum + (13 * (names.length + 2) + 42) ≤ R.locals) (hc : cells ≤ mc) (hs : slots ≤ ms)
    (hq : ∀ t : State, t.heap.size = H.size → (∀ q : Nat, q ≠ a → t.heap[q]? = H[q]?) → Qx cls t) (hd6 : decode cc pc = .ok (.invokespecial ic, 3)) (hd9 : decode cc (pc + 3) = .ok (.athrow, 1)) :
    W p l e R s m args below meth c H [] cells slots (gM below A mc ms Qv Qx args s) (F0 m pc ls (.ref q0 :: .ref a :: .ref a :: rest)) := by
  intro T hT X
  obtain ⟨r0, r1, r2, r5, f1, f2, f3, -, -, -, hws⟩ := hw
  obtain ⟨U, st, hrun, hend, hW, hsame, hsz1, hne, ce, hce, hcv, hcl⟩ := gx_go X S.1 (by rw [X.admits.platform]; exact hl) r0 r1 r2 r5 S.2.2.2.1 f1 f2 f3 (hws G s args hZ) (fun x hx => nomatch hx) hfX hkX (a := a) (by rw [hT]; exact hcell) hnew (msg := .ref q0) rfl (g := F0 m pc ls (.ref q0 :: .ref a :: .ref a :: rest)) rfl (hsz.trans S.2.2.1.symm) rfl rfl (rest := rest) rfl
    (by rw [S.2.1]; exact hd6) (by rw [S.2.1]; exact hd9) hout hRf (by simpa using hRl) hlocks
  rw [hT] at hsz1 hne
  refine ⟨U, st, .threw a, hrun, hend, ⟨by rw [hsz1]; exact hS.1, fun q h1 h2 => ?_⟩, hW, ⟨[], hsame.mono hc hs, fun q hq => nomatch hq⟩, Or.inr ⟨a, cls, ce, rfl, hq U hsz1 hne, hce, hcv, hcl⟩⟩
  rw [hne q (by omega)]
  exact hS.2.1 q h1 h2
theorem g_throwN (S : CallFix p m c cc nL s args gts own) (hl : l.stackTraces = false) (hO : gO G A n ad E s H []) (hw : gXw own cls sup ic ix idx rx names) (hR : vk_R own ldx tx q0 s)
    (hsz : ls.size = nL) (hout : c.exceptionTable.isEmpty = true) (hlocks : meth.locks = false) (hRf : names.length + 4 < R.frames) (hRl : 1 + (rest.map fun v => v.category).sum + (13 * (names.length + 2) + 42) ≤ R.locals) (hR2 : cells + 1 ≤ R.cells ∧ slots + 6 ≤ R.slots) (hc : cells + 1 ≤ mc) (hs : slots + 6 ≤ ms)
    (hq : ∀ t : State, (∀ q : Nat, q < H.size → t.heap[q]? = H[q]?) → Qx cls t) (d0 : decode cc pc = .ok (.new idx, 3)) (d3 : decode cc (pc + 3) = .ok (.dup, 1)) (d4 : decode cc (pc + 4) = .ok (.ldc ldx, 2)) (d6 : decode cc (pc + 6) = .ok (.invokespecial ic, 3)) (d9 : decode cc (pc + 9) = .ok (.athrow, 1)) :
    W p l e R s m args below meth c H [] cells slots (gM below A mc ms Qv Qx args s) (F0 m pc ls rest) := by
  obtain ⟨-, -, -, -, -, -, -, w1, w2, w3, -⟩ := id hw
  obtain ⟨cX, kX0, hfX, -⟩ := Cond.instantiable_spec (S.2.2.2.2 _ w2)
  refine W.newcK (n := 6) S.1 S.2.1 S.2.2.2.1 (S.2.2.2.2 _ w1) (S.2.2.2.2 _ w2) (S.2.2.2.2 _ w3) rfl d0 hR2.1 hR2.2 hfX rfl (fun H1 kX hkX e1 z1 o1 => ?_)
  refine lv_dup S.1 S.2.1 d3 rfl ?_
  refine va_ldcS S.1 S.2.1 S.2.2.2.1 hR d4 ?_
  have hS := hO.S
  refine g_thr S hl hO.2.2.2.2.2.2 hw ⟨by rw [z1]; exact Nat.le_succ_of_le hS.1, fun q h1 h2 => by rw [o1 q (Nat.lt_of_lt_of_le h1 hS.1)]; exact hS.2.1 q h1 h2, hS.2.2⟩ hfX hkX e1 hS.1 hsz (covers_of_empty hout _) hlocks hRf (by simp only [List.map_cons, List.sum_cons]; exact hRl) hc hs (fun t h1 h2 => hq t (fun q hq9 => ?_)) d6 d9
  rw [h2 q (by omega), o1 q hq9]
theorem g_throwW (S : CallFix p m c cc nL s args gts own) (hl : l.stackTraces = false) (hO : gO G A n ad E s H []) (hw : gXw own cls sup ic ix idx rx names) (hR : vk_R own ldx tx q0 s)
    (hsz : ls.size = nL) (hout : c.exceptionTable.isEmpty = true) (hlocks : meth.locks = false) (hRf : names.length + 4 < R.frames) (hRl : 1 + (rest.map fun v => v.category).sum + (13 * (names.length + 2) + 42) ≤ R.locals) (hR2 : cells + 1 ≤ R.cells ∧ slots + 6 ≤ R.slots) (hc : cells + 1 ≤ mc) (hs : slots + 6 ≤ ms)
    (hq : ∀ t : State, (∀ q : Nat, q < H.size → t.heap[q]? = H[q]?) → Qx cls t) (d0 : decode cc pc = .ok (.new idx, 3)) (d3 : decode cc (pc + 3) = .ok (.dup, 1)) (d4 : decode cc (pc + 4) = .ok (.ldc_w ldx, 3)) (d6 : decode cc (pc + 7) = .ok (.invokespecial ic, 3)) (d9 : decode cc (pc + 10) = .ok (.athrow, 1)) :
    W p l e R s m args below meth c H [] cells slots (gM below A mc ms Qv Qx args s) (F0 m pc ls rest) := by
  obtain ⟨-, -, -, -, -, -, -, w1, w2, w3, -⟩ := id hw
  obtain ⟨cX, kX0, hfX, -⟩ := Cond.instantiable_spec (S.2.2.2.2 _ w2)
  refine W.newcK (n := 6) S.1 S.2.1 S.2.2.2.1 (S.2.2.2.2 _ w1) (S.2.2.2.2 _ w2) (S.2.2.2.2 _ w3) rfl d0 hR2.1 hR2.2 hfX rfl (fun H1 kX hkX e1 z1 o1 => ?_)
  refine lv_dup S.1 S.2.1 d3 rfl ?_
  have hS := hO.S
  have K := g_thr (pc := pc + 7) (q0 := q0) (mc := mc) (ms := ms) (Qv := Qv) (Qx := Qx) (below := below) (rest := rest) (cells := cells + 1) (slots := slots + 6) (e := e) (R := R) (p := p) (meth := meth) (ls := ls) S hl hO.2.2.2.2.2.2 hw (H := H1) (A := A) ⟨by rw [z1]; exact Nat.le_succ_of_le hS.1, fun q h1 h2 => by rw [o1 q (Nat.lt_of_lt_of_le h1 hS.1)]; exact hS.2.1 q h1 h2, hS.2.2⟩ hfX hkX e1 hS.1 hsz (covers_of_empty hout _) hlocks hRf (by simp only [List.map_cons, List.sum_cons]; exact hRl) hc hs (fun t h1 h2 => hq t (fun q hq9 => by rw [h2 q (by omega), o1 q hq9])) d6 d9
  intro T hT X
  obtain ⟨t, a1, b1⟩ := K T hT X
  exact ⟨t, X.ldcStringW S.1 S.2.2.2.1 (text := tx) (a := q0) hR.1 hR.2 (g := F0 m (pc + 4) ls (.ref H.size :: .ref H.size :: rest)) rfl (by rw [S.2.1]; exact d4) t a1, b1⟩
end GTR
set_option maxRecDepth 20000 in
theorem xw_IAE : gXw "PlaceRules" "java/lang/IllegalArgumentException" "java/lang/RuntimeException" 306 7 302 prog_17_method_2_code ["java/lang/Exception"] := by
  refine ⟨by decide +kernel, by decide +kernel, by decide +kernel, by decide +kernel, by decide +kernel, by decide +kernel, by decide +kernel, gt_3 61 rfl rfl, gt_3 62 rfl rfl, gt_1 17 rfl rfl, fun G s args h => ?_⟩
  obtain ⟨-, -, -, -, -, -, -, -, -, -, -, qU, qN, hU, hN⟩ := id h
  refine List.forall_mem_append.mpr ⟨List.forall_mem_append.mpr ⟨List.forall_mem_append.mpr ⟨List.forall_mem_append.mpr ⟨?_, ?_⟩, ?_⟩, List.forall_mem_append.mpr ⟨?_, ?_⟩⟩, ?_⟩
  · exact (List.forall_mem_cons.mpr ⟨h.at args _ (gt_1 14 rfl rfl), (List.forall_mem_cons.mpr ⟨h.at args _ (gt_3 83 rfl rfl), (List.forall_mem_cons.mpr ⟨h.at args _ (gt_3 92 rfl rfl), (List.forall_mem_cons.mpr ⟨h.at args _ (gt_3 97 rfl rfl), (List.forall_mem_cons.mpr ⟨h.at args _ (gt_3 100 rfl rfl), (List.forall_mem_cons.mpr ⟨h.at args _ (gt_3 102 rfl rfl), (List.forall_mem_cons.mpr ⟨h.at args _ (gt_3 84 rfl rfl), (List.forall_mem_cons.mpr ⟨h.at args _ (gt_3 85 rfl rfl), (List.forall_mem_cons.mpr ⟨h.at args _ (gt_1 34 rfl rfl), (List.forall_mem_cons.mpr ⟨h.at args _ (gt_1 35 rfl rfl), (List.forall_mem_cons.mpr ⟨h.at args _ (gt_3 86 rfl rfl), (List.forall_mem_cons.mpr ⟨h.at args _ (gt_3 91 rfl rfl), (List.forall_mem_cons.mpr ⟨h.at args _ (gt_3 98 rfl rfl), (List.forall_mem_cons.mpr ⟨h.at args _ (gt_3 118 rfl rfl), (List.forall_mem_cons.mpr ⟨h.at args _ (gt_3 73 rfl rfl), (List.forall_mem_cons.mpr ⟨h.at args _ (gt_3 119 rfl rfl), (List.forall_mem_cons.mpr ⟨h.at args _ (gt_3 75 rfl rfl), (List.forall_mem_cons.mpr ⟨h.at args _ (gt_3 120 rfl rfl), (List.forall_mem_cons.mpr ⟨h.at args _ (gt_3 77 rfl rfl), (List.forall_mem_cons.mpr ⟨h.at args _ (gt_3 87 rfl rfl), (List.forall_mem_cons.mpr ⟨hU.word, (List.forall_mem_cons.mpr ⟨h.at args _ (gt_3 89 rfl rfl), (List.forall_mem_cons.mpr ⟨hN.word, (List.forall_mem_cons.mpr ⟨h.at args _ (gt_3 79 rfl rfl), (fun _ hz => nomatch hz)⟩)⟩)⟩)⟩)⟩)⟩)⟩)⟩)⟩)⟩)⟩)⟩)⟩)⟩)⟩)⟩)⟩)⟩)⟩)⟩)⟩)⟩)⟩)⟩)
  · exact (List.forall_mem_cons.mpr ⟨h.at args _ (gt_3 114 rfl rfl), (List.forall_mem_cons.mpr ⟨h.at args _ (gt_3 115 rfl rfl), (List.forall_mem_cons.mpr ⟨h.at args _ (gt_3 117 rfl rfl), (List.forall_mem_cons.mpr ⟨h.at args _ (gt_3 79 rfl rfl), (fun _ hz => nomatch hz)⟩)⟩)⟩)⟩)
  · exact (List.forall_mem_cons.mpr ⟨h.at args _ (gt_3 105 rfl rfl), (List.forall_mem_cons.mpr ⟨h.at args _ (gt_3 106 rfl rfl), (List.forall_mem_cons.mpr ⟨h.at args _ (gt_3 107 rfl rfl), (List.forall_mem_cons.mpr ⟨h.at args _ (gt_3 108 rfl rfl), (List.forall_mem_cons.mpr ⟨va_Nw.use rfl (h.2.1 _ (gd_3 65 rfl) rfl), (fun _ hz => nomatch hz)⟩)⟩)⟩)⟩)⟩)
  · exact (List.forall_mem_cons.mpr ⟨h.at args _ (gt_3 108 rfl rfl), (List.forall_mem_cons.mpr ⟨h.at args _ (gt_3 109 rfl rfl), (List.forall_mem_cons.mpr ⟨h.at args _ (gt_3 110 rfl rfl), (List.forall_mem_cons.mpr ⟨h.at args _ (gt_3 111 rfl rfl), (List.forall_mem_cons.mpr ⟨va_Nw.use rfl (h.2.1 _ (gd_3 67 rfl) rfl), (fun _ hz => nomatch hz)⟩)⟩)⟩)⟩)⟩)
  · exact (List.forall_mem_cons.mpr ⟨h.at args _ (gt_3 111 rfl rfl), (List.forall_mem_cons.mpr ⟨h.at args _ (gt_3 112 rfl rfl), (List.forall_mem_cons.mpr ⟨h.at args _ (gt_3 113 rfl rfl), (List.forall_mem_cons.mpr ⟨h.at args _ (gt_3 114 rfl rfl), (List.forall_mem_cons.mpr ⟨va_Nw.use rfl (h.2.1 _ (gd_3 69 rfl) rfl), (fun _ hz => nomatch hz)⟩)⟩)⟩)⟩)⟩)
  · exact (List.forall_mem_cons.mpr ⟨h.at args _ (gt_3 104 rfl rfl), (List.forall_mem_cons.mpr ⟨h.at args _ (gt_3 62 rfl rfl), (List.forall_mem_cons.mpr ⟨h.at args _ (gt_3 70 rfl rfl), (List.forall_mem_cons.mpr ⟨h.at args _ (gt_3 71 rfl rfl), (List.forall_mem_cons.mpr ⟨h.at args _ (gt_3 72 rfl rfl), (List.forall_mem_cons.mpr ⟨h.at args _ (gt_3 74 rfl rfl), (List.forall_mem_cons.mpr ⟨h.at args _ (gt_3 76 rfl rfl), (List.forall_mem_cons.mpr ⟨h.at args _ (gt_3 78 rfl rfl), (List.forall_mem_cons.mpr ⟨gl_ref qU, (List.forall_mem_cons.mpr ⟨gl_ref qN, (List.forall_mem_cons.mpr ⟨h.at args _ (gt_3 82 rfl rfl), (List.forall_mem_cons.mpr ⟨h.at args _ (gt_3 81 rfl rfl), (List.forall_mem_cons.mpr ⟨h.at args _ (gt_3 80 rfl rfl), (fun _ hz => nomatch hz)⟩)⟩)⟩)⟩)⟩)⟩)⟩)⟩)⟩)⟩)⟩)⟩)⟩)
set_option maxRecDepth 20000 in
theorem xw_UOE : gXw "PlaceRules" "java/lang/UnsupportedOperationException" "java/lang/RuntimeException" 97 7 93 prog_26_method_2_code ["java/lang/Exception"] := by
  refine ⟨by decide +kernel, by decide +kernel, by decide +kernel, by decide +kernel, by decide +kernel, by decide +kernel, by decide +kernel, gt_3 149 rfl rfl, gt_3 150 rfl rfl, gt_1 18 rfl rfl, fun G s args h => ?_⟩
  obtain ⟨-, -, -, -, -, -, -, -, -, -, -, qU, qN, hU, hN⟩ := id h
  refine List.forall_mem_append.mpr ⟨List.forall_mem_append.mpr ⟨List.forall_mem_append.mpr ⟨List.forall_mem_append.mpr ⟨?_, ?_⟩, ?_⟩, List.forall_mem_append.mpr ⟨?_, ?_⟩⟩, ?_⟩
  · exact (List.forall_mem_cons.mpr ⟨h.at args _ (gt_1 14 rfl rfl), (List.forall_mem_cons.mpr ⟨h.at args _ (gt_3 83 rfl rfl), (List.forall_mem_cons.mpr ⟨h.at args _ (gt_3 92 rfl rfl), (List.forall_mem_cons.mpr ⟨h.at args _ (gt_3 97 rfl rfl), (List.forall_mem_cons.mpr ⟨h.at args _ (gt_3 100 rfl rfl), (List.forall_mem_cons.mpr ⟨h.at args _ (gt_3 102 rfl rfl), (List.forall_mem_cons.mpr ⟨h.at args _ (gt_3 84 rfl rfl), (List.forall_mem_cons.mpr ⟨h.at args _ (gt_3 85 rfl rfl), (List.forall_mem_cons.mpr ⟨h.at args _ (gt_1 34 rfl rfl), (List.forall_mem_cons.mpr ⟨h.at args _ (gt_1 35 rfl rfl), (List.forall_mem_cons.mpr ⟨h.at args _ (gt_3 86 rfl rfl), (List.forall_mem_cons.mpr ⟨h.at args _ (gt_3 91 rfl rfl), (List.forall_mem_cons.mpr ⟨h.at args _ (gt_3 98 rfl rfl), (List.forall_mem_cons.mpr ⟨h.at args _ (gt_3 118 rfl rfl), (List.forall_mem_cons.mpr ⟨h.at args _ (gt_3 73 rfl rfl), (List.forall_mem_cons.mpr ⟨h.at args _ (gt_3 119 rfl rfl), (List.forall_mem_cons.mpr ⟨h.at args _ (gt_3 75 rfl rfl), (List.forall_mem_cons.mpr ⟨h.at args _ (gt_3 120 rfl rfl), (List.forall_mem_cons.mpr ⟨h.at args _ (gt_3 77 rfl rfl), (List.forall_mem_cons.mpr ⟨h.at args _ (gt_3 87 rfl rfl), (List.forall_mem_cons.mpr ⟨hU.word, (List.forall_mem_cons.mpr ⟨h.at args _ (gt_3 89 rfl rfl), (List.forall_mem_cons.mpr ⟨hN.word, (List.forall_mem_cons.mpr ⟨h.at args _ (gt_3 79 rfl rfl), (fun _ hz => nomatch hz)⟩)⟩)⟩)⟩)⟩)⟩)⟩)⟩)⟩)⟩)⟩)⟩)⟩)⟩)⟩)⟩)⟩)⟩)⟩)⟩)⟩)⟩)⟩)⟩)
  · exact (List.forall_mem_cons.mpr ⟨h.at args _ (gt_3 114 rfl rfl), (List.forall_mem_cons.mpr ⟨h.at args _ (gt_3 115 rfl rfl), (List.forall_mem_cons.mpr ⟨h.at args _ (gt_3 117 rfl rfl), (List.forall_mem_cons.mpr ⟨h.at args _ (gt_3 79 rfl rfl), (fun _ hz => nomatch hz)⟩)⟩)⟩)⟩)
  · exact (List.forall_mem_cons.mpr ⟨h.at args _ (gt_3 160 rfl rfl), (List.forall_mem_cons.mpr ⟨h.at args _ (gt_3 161 rfl rfl), (List.forall_mem_cons.mpr ⟨h.at args _ (gt_3 162 rfl rfl), (List.forall_mem_cons.mpr ⟨h.at args _ (gt_3 108 rfl rfl), (List.forall_mem_cons.mpr ⟨va_Nw.use rfl (h.2.1 _ (gd_3 65 rfl) rfl), (fun _ hz => nomatch hz)⟩)⟩)⟩)⟩)⟩)
  · exact (List.forall_mem_cons.mpr ⟨h.at args _ (gt_3 108 rfl rfl), (List.forall_mem_cons.mpr ⟨h.at args _ (gt_3 109 rfl rfl), (List.forall_mem_cons.mpr ⟨h.at args _ (gt_3 110 rfl rfl), (List.forall_mem_cons.mpr ⟨h.at args _ (gt_3 111 rfl rfl), (List.forall_mem_cons.mpr ⟨va_Nw.use rfl (h.2.1 _ (gd_3 67 rfl) rfl), (fun _ hz => nomatch hz)⟩)⟩)⟩)⟩)⟩)
  · exact (List.forall_mem_cons.mpr ⟨h.at args _ (gt_3 111 rfl rfl), (List.forall_mem_cons.mpr ⟨h.at args _ (gt_3 112 rfl rfl), (List.forall_mem_cons.mpr ⟨h.at args _ (gt_3 113 rfl rfl), (List.forall_mem_cons.mpr ⟨h.at args _ (gt_3 114 rfl rfl), (List.forall_mem_cons.mpr ⟨va_Nw.use rfl (h.2.1 _ (gd_3 69 rfl) rfl), (fun _ hz => nomatch hz)⟩)⟩)⟩)⟩)⟩)
  · exact (List.forall_mem_cons.mpr ⟨h.at args _ (gt_3 159 rfl rfl), (List.forall_mem_cons.mpr ⟨h.at args _ (gt_3 150 rfl rfl), (List.forall_mem_cons.mpr ⟨h.at args _ (gt_3 152 rfl rfl), (List.forall_mem_cons.mpr ⟨h.at args _ (gt_3 95 rfl rfl), (List.forall_mem_cons.mpr ⟨h.at args _ (gt_3 153 rfl rfl), (List.forall_mem_cons.mpr ⟨h.at args _ (gt_3 154 rfl rfl), (List.forall_mem_cons.mpr ⟨h.at args _ (gt_3 155 rfl rfl), (List.forall_mem_cons.mpr ⟨h.at args _ (gt_3 156 rfl rfl), (List.forall_mem_cons.mpr ⟨gl_ref qU, (List.forall_mem_cons.mpr ⟨gl_ref qN, (List.forall_mem_cons.mpr ⟨h.at args _ (gt_3 82 rfl rfl), (List.forall_mem_cons.mpr ⟨h.at args _ (gt_3 81 rfl rfl), (List.forall_mem_cons.mpr ⟨h.at args _ (gt_3 157 rfl rfl), (fun _ hz => nomatch hz)⟩)⟩)⟩)⟩)⟩)⟩)⟩)⟩)⟩)⟩)⟩)⟩)⟩)
set_option maxRecDepth 20000 in
theorem xw_ISE : gXw "PlaceRules" "java/lang/IllegalStateException" "java/lang/RuntimeException" 241 7 237 prog_18_method_2_code ["java/lang/Exception"] := by
  refine ⟨by decide +kernel, by decide +kernel, by decide +kernel, by decide +kernel, by decide +kernel, by decide +kernel, by decide +kernel, gt_3 199 rfl rfl, gt_3 200 rfl rfl, gt_1 20 rfl rfl, fun G s args h => ?_⟩
  obtain ⟨-, -, -, -, -, -, -, -, -, -, -, qU, qN, hU, hN⟩ := id h
  refine List.forall_mem_append.mpr ⟨List.forall_mem_append.mpr ⟨List.forall_mem_append.mpr ⟨List.forall_mem_append.mpr ⟨?_, ?_⟩, ?_⟩, List.forall_mem_append.mpr ⟨?_, ?_⟩⟩, ?_⟩
  · exact (List.forall_mem_cons.mpr ⟨h.at args _ (gt_1 14 rfl rfl), (List.forall_mem_cons.mpr ⟨h.at args _ (gt_3 83 rfl rfl), (List.forall_mem_cons.mpr ⟨h.at args _ (gt_3 92 rfl rfl), (List.forall_mem_cons.mpr ⟨h.at args _ (gt_3 97 rfl rfl), (List.forall_mem_cons.mpr ⟨h.at args _ (gt_3 100 rfl rfl), (List.forall_mem_cons.mpr ⟨h.at args _ (gt_3 102 rfl rfl), (List.forall_mem_cons.mpr ⟨h.at args _ (gt_3 84 rfl rfl), (List.forall_mem_cons.mpr ⟨h.at args _ (gt_3 85 rfl rfl), (List.forall_mem_cons.mpr ⟨h.at args _ (gt_1 34 rfl rfl), (List.forall_mem_cons.mpr ⟨h.at args _ (gt_1 35 rfl rfl), (List.forall_mem_cons.mpr ⟨h.at args _ (gt_3 86 rfl rfl), (List.forall_mem_cons.mpr ⟨h.at args _ (gt_3 91 rfl rfl), (List.forall_mem_cons.mpr ⟨h.at args _ (gt_3 98 rfl rfl), (List.forall_mem_cons.mpr ⟨h.at args _ (gt_3 118 rfl rfl), (List.forall_mem_cons.mpr ⟨h.at args _ (gt_3 73 rfl rfl), (List.forall_mem_cons.mpr ⟨h.at args _ (gt_3 119 rfl rfl), (List.forall_mem_cons.mpr ⟨h.at args _ (gt_3 75 rfl rfl), (List.forall_mem_cons.mpr ⟨h.at args _ (gt_3 120 rfl rfl), (List.forall_mem_cons.mpr ⟨h.at args _ (gt_3 77 rfl rfl), (List.forall_mem_cons.mpr ⟨h.at args _ (gt_3 87 rfl rfl), (List.forall_mem_cons.mpr ⟨hU.word, (List.forall_mem_cons.mpr ⟨h.at args _ (gt_3 89 rfl rfl), (List.forall_mem_cons.mpr ⟨hN.word, (List.forall_mem_cons.mpr ⟨h.at args _ (gt_3 79 rfl rfl), (fun _ hz => nomatch hz)⟩)⟩)⟩)⟩)⟩)⟩)⟩)⟩)⟩)⟩)⟩)⟩)⟩)⟩)⟩)⟩)⟩)⟩)⟩)⟩)⟩)⟩)⟩)⟩)
  · exact (List.forall_mem_cons.mpr ⟨h.at args _ (gt_3 114 rfl rfl), (List.forall_mem_cons.mpr ⟨h.at args _ (gt_3 115 rfl rfl), (List.forall_mem_cons.mpr ⟨h.at args _ (gt_3 117 rfl rfl), (List.forall_mem_cons.mpr ⟨h.at args _ (gt_3 79 rfl rfl), (fun _ hz => nomatch hz)⟩)⟩)⟩)⟩)
  · exact (List.forall_mem_cons.mpr ⟨h.at args _ (gt_3 210 rfl rfl), (List.forall_mem_cons.mpr ⟨h.at args _ (gt_3 211 rfl rfl), (List.forall_mem_cons.mpr ⟨h.at args _ (gt_3 212 rfl rfl), (List.forall_mem_cons.mpr ⟨h.at args _ (gt_3 108 rfl rfl), (List.forall_mem_cons.mpr ⟨va_Nw.use rfl (h.2.1 _ (gd_3 65 rfl) rfl), (fun _ hz => nomatch hz)⟩)⟩)⟩)⟩)⟩)
  · exact (List.forall_mem_cons.mpr ⟨h.at args _ (gt_3 108 rfl rfl), (List.forall_mem_cons.mpr ⟨h.at args _ (gt_3 109 rfl rfl), (List.forall_mem_cons.mpr ⟨h.at args _ (gt_3 110 rfl rfl), (List.forall_mem_cons.mpr ⟨h.at args _ (gt_3 111 rfl rfl), (List.forall_mem_cons.mpr ⟨va_Nw.use rfl (h.2.1 _ (gd_3 67 rfl) rfl), (fun _ hz => nomatch hz)⟩)⟩)⟩)⟩)⟩)
  · exact (List.forall_mem_cons.mpr ⟨h.at args _ (gt_3 111 rfl rfl), (List.forall_mem_cons.mpr ⟨h.at args _ (gt_3 112 rfl rfl), (List.forall_mem_cons.mpr ⟨h.at args _ (gt_3 113 rfl rfl), (List.forall_mem_cons.mpr ⟨h.at args _ (gt_3 114 rfl rfl), (List.forall_mem_cons.mpr ⟨va_Nw.use rfl (h.2.1 _ (gd_3 69 rfl) rfl), (fun _ hz => nomatch hz)⟩)⟩)⟩)⟩)⟩)
  · exact (List.forall_mem_cons.mpr ⟨h.at args _ (gt_3 209 rfl rfl), (List.forall_mem_cons.mpr ⟨h.at args _ (gt_3 200 rfl rfl), (List.forall_mem_cons.mpr ⟨h.at args _ (gt_3 202 rfl rfl), (List.forall_mem_cons.mpr ⟨h.at args _ (gt_3 94 rfl rfl), (List.forall_mem_cons.mpr ⟨h.at args _ (gt_3 203 rfl rfl), (List.forall_mem_cons.mpr ⟨h.at args _ (gt_3 204 rfl rfl), (List.forall_mem_cons.mpr ⟨h.at args _ (gt_3 205 rfl rfl), (List.forall_mem_cons.mpr ⟨h.at args _ (gt_3 206 rfl rfl), (List.forall_mem_cons.mpr ⟨gl_ref qU, (List.forall_mem_cons.mpr ⟨gl_ref qN, (List.forall_mem_cons.mpr ⟨h.at args _ (gt_3 82 rfl rfl), (List.forall_mem_cons.mpr ⟨h.at args _ (gt_3 81 rfl rfl), (List.forall_mem_cons.mpr ⟨h.at args _ (gt_3 207 rfl rfl), (fun _ hz => nomatch hz)⟩)⟩)⟩)⟩)⟩)⟩)⟩)⟩)⟩)⟩)⟩)⟩)⟩)
set_option maxRecDepth 20000 in
theorem xw_NSE : gXw "PlaceRules" "java/util/NoSuchElementException" "java/lang/RuntimeException" 198 13 194 prog_27_method_4_code ["java/lang/Exception"] := by
  refine ⟨by decide +kernel, by decide +kernel, by decide +kernel, by decide +kernel, by decide +kernel, by decide +kernel, by decide +kernel, gt_3 178 rfl rfl, gt_3 179 rfl rfl, gt_1 19 rfl rfl, fun G s args h => ?_⟩
  obtain ⟨-, -, -, -, -, -, -, -, -, -, -, qU, qN, hU, hN⟩ := id h
  refine List.forall_mem_append.mpr ⟨List.forall_mem_append.mpr ⟨List.forall_mem_append.mpr ⟨List.forall_mem_append.mpr ⟨?_, ?_⟩, ?_⟩, List.forall_mem_append.mpr ⟨?_, ?_⟩⟩, ?_⟩
  · exact (List.forall_mem_cons.mpr ⟨h.at args _ (gt_1 14 rfl rfl), (List.forall_mem_cons.mpr ⟨h.at args _ (gt_3 83 rfl rfl), (List.forall_mem_cons.mpr ⟨h.at args _ (gt_3 92 rfl rfl), (List.forall_mem_cons.mpr ⟨h.at args _ (gt_3 97 rfl rfl), (List.forall_mem_cons.mpr ⟨h.at args _ (gt_3 100 rfl rfl), (List.forall_mem_cons.mpr ⟨h.at args _ (gt_3 102 rfl rfl), (List.forall_mem_cons.mpr ⟨h.at args _ (gt_3 84 rfl rfl), (List.forall_mem_cons.mpr ⟨h.at args _ (gt_3 85 rfl rfl), (List.forall_mem_cons.mpr ⟨h.at args _ (gt_1 34 rfl rfl), (List.forall_mem_cons.mpr ⟨h.at args _ (gt_1 35 rfl rfl), (List.forall_mem_cons.mpr ⟨h.at args _ (gt_3 86 rfl rfl), (List.forall_mem_cons.mpr ⟨h.at args _ (gt_3 91 rfl rfl), (List.forall_mem_cons.mpr ⟨h.at args _ (gt_3 98 rfl rfl), (List.forall_mem_cons.mpr ⟨h.at args _ (gt_3 118 rfl rfl), (List.forall_mem_cons.mpr ⟨h.at args _ (gt_3 73 rfl rfl), (List.forall_mem_cons.mpr ⟨h.at args _ (gt_3 119 rfl rfl), (List.forall_mem_cons.mpr ⟨h.at args _ (gt_3 75 rfl rfl), (List.forall_mem_cons.mpr ⟨h.at args _ (gt_3 120 rfl rfl), (List.forall_mem_cons.mpr ⟨h.at args _ (gt_3 77 rfl rfl), (List.forall_mem_cons.mpr ⟨h.at args _ (gt_3 87 rfl rfl), (List.forall_mem_cons.mpr ⟨hU.word, (List.forall_mem_cons.mpr ⟨h.at args _ (gt_3 89 rfl rfl), (List.forall_mem_cons.mpr ⟨hN.word, (List.forall_mem_cons.mpr ⟨h.at args _ (gt_3 79 rfl rfl), (fun _ hz => nomatch hz)⟩)⟩)⟩)⟩)⟩)⟩)⟩)⟩)⟩)⟩)⟩)⟩)⟩)⟩)⟩)⟩)⟩)⟩)⟩)⟩)⟩)⟩)⟩)⟩)
  · exact (List.forall_mem_cons.mpr ⟨h.at args _ (gt_3 114 rfl rfl), (List.forall_mem_cons.mpr ⟨h.at args _ (gt_3 115 rfl rfl), (List.forall_mem_cons.mpr ⟨h.at args _ (gt_3 117 rfl rfl), (List.forall_mem_cons.mpr ⟨h.at args _ (gt_3 79 rfl rfl), (fun _ hz => nomatch hz)⟩)⟩)⟩)⟩)
  · exact (List.forall_mem_cons.mpr ⟨h.at args _ (gt_3 189 rfl rfl), (List.forall_mem_cons.mpr ⟨h.at args _ (gt_3 190 rfl rfl), (List.forall_mem_cons.mpr ⟨h.at args _ (gt_3 191 rfl rfl), (List.forall_mem_cons.mpr ⟨h.at args _ (gt_3 108 rfl rfl), (List.forall_mem_cons.mpr ⟨va_Nw.use rfl (h.2.1 _ (gd_3 65 rfl) rfl), (fun _ hz => nomatch hz)⟩)⟩)⟩)⟩)⟩)
  · exact (List.forall_mem_cons.mpr ⟨h.at args _ (gt_3 108 rfl rfl), (List.forall_mem_cons.mpr ⟨h.at args _ (gt_3 109 rfl rfl), (List.forall_mem_cons.mpr ⟨h.at args _ (gt_3 110 rfl rfl), (List.forall_mem_cons.mpr ⟨h.at args _ (gt_3 111 rfl rfl), (List.forall_mem_cons.mpr ⟨va_Nw.use rfl (h.2.1 _ (gd_3 67 rfl) rfl), (fun _ hz => nomatch hz)⟩)⟩)⟩)⟩)⟩)
  · exact (List.forall_mem_cons.mpr ⟨h.at args _ (gt_3 111 rfl rfl), (List.forall_mem_cons.mpr ⟨h.at args _ (gt_3 112 rfl rfl), (List.forall_mem_cons.mpr ⟨h.at args _ (gt_3 113 rfl rfl), (List.forall_mem_cons.mpr ⟨h.at args _ (gt_3 114 rfl rfl), (List.forall_mem_cons.mpr ⟨va_Nw.use rfl (h.2.1 _ (gd_3 69 rfl) rfl), (fun _ hz => nomatch hz)⟩)⟩)⟩)⟩)⟩)
  · exact (List.forall_mem_cons.mpr ⟨h.at args _ (gt_3 188 rfl rfl), (List.forall_mem_cons.mpr ⟨h.at args _ (gt_3 179 rfl rfl), (List.forall_mem_cons.mpr ⟨h.at args _ (gt_3 181 rfl rfl), (List.forall_mem_cons.mpr ⟨h.at args _ (gt_3 96 rfl rfl), (List.forall_mem_cons.mpr ⟨h.at args _ (gt_3 182 rfl rfl), (List.forall_mem_cons.mpr ⟨h.at args _ (gt_3 183 rfl rfl), (List.forall_mem_cons.mpr ⟨h.at args _ (gt_3 184 rfl rfl), (List.forall_mem_cons.mpr ⟨h.at args _ (gt_3 185 rfl rfl), (List.forall_mem_cons.mpr ⟨gl_ref qU, (List.forall_mem_cons.mpr ⟨gl_ref qN, (List.forall_mem_cons.mpr ⟨h.at args _ (gt_3 82 rfl rfl), (List.forall_mem_cons.mpr ⟨h.at args _ (gt_3 81 rfl rfl), (List.forall_mem_cons.mpr ⟨h.at args _ (gt_3 186 rfl rfl), (fun _ hz => nomatch hz)⟩)⟩)⟩)⟩)⟩)⟩)⟩)⟩)⟩)⟩)⟩)⟩)⟩)
end
section
/-! How a method's walk begins and ends, over the full world (159 cells) in the state σ, τ. -/
abbrev gpu (l : Launch) (y : MethodName) (cc : ByteArray) (nL : Nat) (ret : Option FieldType) (rm : Room) (G : gP) (ad : Nat → Nat) (σ : Nat → Nat → Int32) (τ : Nat → Nat → Int64) (av : List Value) (mc ms : Nat) (post : Option Value → Prop) (xp : String → Prop) : Prop :=
  gPu l y (.code y cc nL ret) rm G 159 ad (enc G ad σ τ) av mc ms post xp
abbrev gim (l : Launch) (y : MethodName) (cc : ByteArray) (nL : Nat) (ret : Option FieldType) (rm : Room) (G : gP) (ad : Nat → Nat) (σ : Nat → Nat → Int32) (τ : Nat → Nat → Int64) (av : List Value) (mc ms : Nat) (post : Option Value → (Nat → Nat → Int32) → (Nat → Nat → Int64) → Prop) (xp : String → Prop) : Prop :=
  gIm l y (.code y cc nL ret) rm G 159 ad (enc G ad σ τ) av mc ms (fun v E1 => ∃ σ1 τ1, E1 = enc G ad σ1 τ1 ∧ post v σ1 τ1) xp
section GST
variable {l : Launch} {y : MethodName} {cc : ByteArray} {nL : Nat} {ret : Option FieldType} {rm : Room} {G : gP} {n : Nat} {ad : Nat → Nat} {E : Nat → va_E} {av : List Value} {mc ms : Nat} {A : Nat → Prop} {Qv : Option Value → State → Prop} {Qx : String → State → Prop}
theorem gs_of (hA : ∀ q, A q → gA G q) (hy : plainName y.cls = true) (hn : (lg_sl av).length ≤ nL)
    (body : ∀ (p : Program) (e : Env) (s : State) (m : MethodId) (args : Array Value) (below : List Frame) (meth : Method) (c : Code) (ls : Array Slot), CallFix p m c cc nL s args gts y.cls → meth.locks = false → meth.sig.returnType = ret → c.exceptionTable.isEmpty = true → lv_has ls nL (lv_args 0 av) → gO G A n ad E s s.heap [] →
      W p l e rm s m args below meth c s.heap [] 0 0 (gM below A mc ms Qv Qx args s) (F0 m 0 ls [])) : gK l y (.code y cc nL ret) rm (va_Pc av (gI G n ad E)) A mc ms Qv Qx := by
  refine gK_of hy ?_
  intro p e s m args below meth c s₁ B hml hP
  obtain ⟨rfl, hI⟩ := hP
  have hcode : (Cond.code y cc nL ret).before av.toArray s = true := atoms_spec (ws := [Cond.code y cc nL ret]) B.pre _ List.mem_cons_self
  rw [lg_entry_eq]
  exact body p e s m _ below meth c _ ⟨B.exec, B.bytes, hml, findClass_of_methodNamed B.named, hI.2.2.2.2.at _⟩ B.notSynchronized B.returns (B.noHandlers hcode) (lv_entry av hn) (hI.start hA)
end GST
section GEN
variable {p : Program} {l : Launch} {e : Env} {R : Room} {s : State} {m : MethodId} {args : Array Value} {below : List Frame} {meth : Method} {c : Code} {H : Heap} {locs : List Loc} {cells slots : Nat}
variable {cc : ByteArray} {pc nL mc ms : Nat} {ls : Array Slot} {rest : List Value} {own : String} {G : gP} {A : Nat → Prop} {n : Nat} {ad : Nat → Nat} {E : Nat → va_E} {σ : Nat → Nat → Int32} {τ : Nat → Nat → Int64} {v : Int32} {x : String} {ce : Cell} {q : Addr}
variable {post : Option Value → Prop} {xp : String → Prop} {posi : Option Value → (Nat → Nat → Int32) → (Nat → Nat → Int64) → Prop}
/-- the ends of a pure method: an int, a boolean, nothing; a callee's throw goes on -/
theorem pu_i (S : CallFix p m c cc nL s args gts own) (hk : meth.locks = false) (hr : meth.sig.returnType = some .int) (hO : gO G (fun _ => False) n ad E s H locs) (hq : post (some (.int v))) (hc : cells ≤ mc) (hs : slots ≤ ms) (hdg : decode cc pc = .ok (.ireturn, 1)) :
    W p l e R s m args below meth c H locs cells slots (gM below (fun _ => False) mc ms (fun v _ => post v) (fun x _ => xp x) args s) (F0 m pc ls [.int v]) := g_iret S hr hk hO.S (fun _ _ => hq) hc hs hdg
theorem pu_z (S : CallFix p m c cc nL s args gts own) (hk : meth.locks = false) (hr : meth.sig.returnType = some .boolean) (hO : gO G (fun _ => False) n ad E s H locs) (hv : v = 0 ∨ v = 1) (hq : post (some (.int v))) (hc : cells ≤ mc) (hs : slots ≤ ms) (hdg : decode cc pc = .ok (.ireturn, 1)) :
    W p l e R s m args below meth c H locs cells slots (gM below (fun _ => False) mc ms (fun v _ => post v) (fun x _ => xp x) args s) (F0 m pc ls [.int v]) := g_zret S hr hk hO.S hv (fun _ _ => hq) hc hs hdg
theorem pu_v (S : CallFix p m c cc nL s args gts own) (hk : meth.locks = false) (hr : meth.sig.returnType = none) (hO : gO G (fun _ => False) n ad E s H locs) (hq : post none) (hc : cells ≤ mc) (hs : slots ≤ ms) (hdg : decode cc pc = .ok (.return_, 1)) :
    W p l e R s m args below meth c H locs cells slots (gM below (fun _ => False) mc ms (fun v _ => post v) (fun x _ => xp x) args s) (F0 m pc ls []) := g_vret S hr hk hO.S (fun _ _ => hq) hc hs hdg
theorem pu_x (hx : c.exceptionTable.isEmpty = true) (hk : meth.locks = false) (hO : gO G (fun _ => False) n ad E s H locs) (hce : H[q]? = some ce) (hcv : ce.vm = .none) (hcl : s.vm.findClass x = some ce.cls) (hq : xp x) (hc : cells ≤ mc) (hs : slots ≤ ms) :
    gX p l e R s m args below meth c H locs cells slots (gM below (fun _ => False) mc ms (fun v _ => post v) (fun x _ => xp x) args s) (F0 m pc ls rest) q := g_xout (covers_of_empty hx _) hk hO.S hce hcv hcl (fun _ _ => hq) hc hs
/-- the ends of a method that writes -/
theorem im_i (S : CallFix p m c cc nL s args gts own) (hk : meth.locks = false) (hr : meth.sig.returnType = some .int) (hO : gO G (gA G) n ad (enc G ad σ τ) s H locs) (hq : posi (some (.int v)) σ τ) (hc : cells ≤ mc) (hs : slots ≤ ms) (hdg : decode cc pc = .ok (.ireturn, 1)) :
    W p l e R s m args below meth c H locs cells slots (gM below (gA G) mc ms (fun v t => ∃ E1, (∃ σ1 τ1, E1 = enc G ad σ1 τ1 ∧ posi v σ1 τ1) ∧ va_P G.1 gcl (gw n ad E1) t.heap) (fun x t => xp x ∧ va_P G.1 gcl (gw n ad E) t.heap) args s) (F0 m pc ls [.int v]) :=
  g_iret S hr hk hO.S (fun _ ht => ⟨_, ⟨σ, τ, rfl, hq⟩, by rw [ht]; exact hO.2.1⟩) hc hs hdg
theorem im_z (S : CallFix p m c cc nL s args gts own) (hk : meth.locks = false) (hr : meth.sig.returnType = some .boolean) (hO : gO G (gA G) n ad (enc G ad σ τ) s H locs) (hv : v = 0 ∨ v = 1) (hq : posi (some (.int v)) σ τ) (hc : cells ≤ mc) (hs : slots ≤ ms) (hdg : decode cc pc = .ok (.ireturn, 1)) :
    W p l e R s m args below meth c H locs cells slots (gM below (gA G) mc ms (fun v t => ∃ E1, (∃ σ1 τ1, E1 = enc G ad σ1 τ1 ∧ posi v σ1 τ1) ∧ va_P G.1 gcl (gw n ad E1) t.heap) (fun x t => xp x ∧ va_P G.1 gcl (gw n ad E) t.heap) args s) (F0 m pc ls [.int v]) :=
  g_zret S hr hk hO.S hv (fun _ ht => ⟨_, ⟨σ, τ, rfl, hq⟩, by rw [ht]; exact hO.2.1⟩) hc hs hdg
theorem im_v (S : CallFix p m c cc nL s args gts own) (hk : meth.locks = false) (hr : meth.sig.returnType = none) (hO : gO G (gA G) n ad (enc G ad σ τ) s H locs) (hq : posi none σ τ) (hc : cells ≤ mc) (hs : slots ≤ ms) (hdg : decode cc pc = .ok (.return_, 1)) :
    W p l e R s m args below meth c H locs cells slots (gM below (gA G) mc ms (fun v t => ∃ E1, (∃ σ1 τ1, E1 = enc G ad σ1 τ1 ∧ posi v σ1 τ1) ∧ va_P G.1 gcl (gw n ad E1) t.heap) (fun x t => xp x ∧ va_P G.1 gcl (gw n ad E) t.heap) args s) (F0 m pc ls []) :=
  g_vret S hr hk hO.S (fun _ ht => ⟨_, ⟨σ, τ, rfl, hq⟩, by rw [ht]; exact hO.2.1⟩) hc hs hdg
theorem im_x (hx : c.exceptionTable.isEmpty = true) (hk : meth.locks = false) (hO : gO G (gA G) n ad E s H locs) (hce : H[q]? = some ce) (hcv : ce.vm = .none) (hcl : s.vm.findClass x = some ce.cls) (hq : xp x) (hc : cells ≤ mc) (hs : slots ≤ ms) :
    gX p l e R s m args below meth c H locs cells slots (gM below (gA G) mc ms (fun v t => ∃ E1, (∃ σ1 τ1, E1 = enc G ad σ1 τ1 ∧ posi v σ1 τ1) ∧ va_P G.1 gcl (gw n ad E1) t.heap) (fun x t => xp x ∧ va_P G.1 gcl (gw n ad E) t.heap) args s) (F0 m pc ls rest) q := g_xout (covers_of_empty hx _) hk hO.S hce hcv hcl (fun _ ht => ⟨hq, by rw [ht]; exact hO.2.1⟩) hc hs
end GEN
end
section
/-! What a row needs of each field and of each call that the classes name. Written by wip/tools/emit_links.py. -/
theorem fl_RB_32 : gF "PlaceRules$RuleBook" 32 2 0 := ⟨rfl, in_RU, by decide, kf_RB_32, rfl⟩
theorem fp_RB_32 : gFp "PlaceRules$RuleBook" 32 2 0 ty_RU := ⟨fl_RB_32, tk_RU, nm_RU, rfl⟩
theorem fl_TX_52 : gF "PlaceRules$Text" 52 2 0 := ⟨rfl, in_RU, by decide, kf_TX_52, rfl⟩
theorem fp_TX_52 : gFp "PlaceRules$Text" 52 2 0 ty_RU := ⟨fl_TX_52, tk_RU, nm_RU, rfl⟩
theorem fl_PR_170 : gF "PlaceRules" 170 2 0 := ⟨rfl, in_RU, by decide, kf_PR_170, rfl⟩
theorem fp_PR_170 : gFp "PlaceRules" 170 2 0 ty_RU := ⟨fl_PR_170, tk_RU, nm_RU, rfl⟩
theorem fl_RU_13 : gF "PlaceRules$Rule" 13 2 1 := ⟨rfl, in_RU, by decide, kf_RU_13, rfl⟩
theorem fp_RU_13 : gFp "PlaceRules$Rule" 13 2 1 ty_RU := ⟨fl_RU_13, tk_RU, nm_RU, rfl⟩
theorem fl_RB_35 : gF "PlaceRules$RuleBook" 35 2 1 := ⟨rfl, in_RU, by decide, kf_RB_35, rfl⟩
theorem fp_RB_35 : gFp "PlaceRules$RuleBook" 35 2 1 ty_RU := ⟨fl_RB_35, tk_RU, nm_RU, rfl⟩
theorem fl_TX_62 : gF "PlaceRules$Text" 62 2 1 := ⟨rfl, in_RU, by decide, kf_TX_62, rfl⟩
theorem fp_TX_62 : gFp "PlaceRules$Text" 62 2 1 ty_RU := ⟨fl_TX_62, tk_RU, nm_RU, rfl⟩
theorem fl_PR_175 : gF "PlaceRules" 175 2 1 := ⟨rfl, in_RU, by decide, kf_PR_175, rfl⟩
theorem fp_PR_175 : gFp "PlaceRules" 175 2 1 ty_RU := ⟨fl_PR_175, tk_RU, nm_RU, rfl⟩
theorem fl_RU_28 : gF "PlaceRules$Rule" 28 2 2 := ⟨rfl, in_RU, by decide, kf_RU_28, rfl⟩
theorem fp_RU_28 : gFp "PlaceRules$Rule" 28 2 2 ty_RU := ⟨fl_RU_28, tk_RU, nm_RU, rfl⟩
theorem fl_RB_39 : gF "PlaceRules$RuleBook" 39 2 2 := ⟨rfl, in_RU, by decide, kf_RB_39, rfl⟩
theorem fp_RB_39 : gFp "PlaceRules$RuleBook" 39 2 2 ty_RU := ⟨fl_RB_39, tk_RU, nm_RU, rfl⟩
theorem fl_TX_69 : gF "PlaceRules$Text" 69 2 2 := ⟨rfl, in_RU, by decide, kf_TX_69, rfl⟩
theorem fp_TX_69 : gFp "PlaceRules$Text" 69 2 2 ty_RU := ⟨fl_TX_69, tk_RU, nm_RU, rfl⟩
theorem fl_PR_179 : gF "PlaceRules" 179 2 2 := ⟨rfl, in_RU, by decide, kf_PR_179, rfl⟩
theorem fp_PR_179 : gFp "PlaceRules" 179 2 2 ty_RU := ⟨fl_PR_179, tk_RU, nm_RU, rfl⟩
theorem fl_RU_65 : gF "PlaceRules$Rule" 65 2 3 := ⟨rfl, in_RU, by decide, kf_RU_65, rfl⟩
theorem fp_RU_65 : gFp "PlaceRules$Rule" 65 2 3 ty_RU := ⟨fl_RU_65, tk_RU, nm_RU, rfl⟩
theorem fl_RB_42 : gF "PlaceRules$RuleBook" 42 2 3 := ⟨rfl, in_RU, by decide, kf_RB_42, rfl⟩
theorem fp_RB_42 : gFp "PlaceRules$RuleBook" 42 2 3 ty_RU := ⟨fl_RB_42, tk_RU, nm_RU, rfl⟩
theorem fl_TX_72 : gF "PlaceRules$Text" 72 2 3 := ⟨rfl, in_RU, by decide, kf_TX_72, rfl⟩
theorem fp_TX_72 : gFp "PlaceRules$Text" 72 2 3 ty_RU := ⟨fl_TX_72, tk_RU, nm_RU, rfl⟩
theorem fl_PR_182 : gF "PlaceRules" 182 2 3 := ⟨rfl, in_RU, by decide, kf_PR_182, rfl⟩
theorem fp_PR_182 : gFp "PlaceRules" 182 2 3 ty_RU := ⟨fl_PR_182, tk_RU, nm_RU, rfl⟩
theorem fl_RB_52 : gF "PlaceRules$RuleBook" 52 2 4 := ⟨rfl, in_RU, by decide, kf_RB_52, rfl⟩
theorem fp_RB_52 : gFp "PlaceRules$RuleBook" 52 2 4 ty_RU := ⟨fl_RB_52, tk_RU, nm_RU, rfl⟩
theorem fl_PR_283 : gF "PlaceRules" 283 2 4 := ⟨rfl, in_RU, by decide, kf_PR_283, rfl⟩
theorem fp_PR_283 : gFp "PlaceRules" 283 2 4 ty_RU := ⟨fl_PR_283, tk_RU, nm_RU, rfl⟩
theorem fl_RB_11 : gF "PlaceRules$RuleBook" 11 1 0 := ⟨rfl, in_RB, by decide, kf_RB_11, rfl⟩
theorem fl_PR_272 : gF "PlaceRules" 272 1 0 := ⟨rfl, in_RB, by decide, kf_PR_272, rfl⟩
theorem fl_RB_17 : gF "PlaceRules$RuleBook" 17 1 1 := ⟨rfl, in_RB, by decide, kf_RB_17, rfl⟩
theorem fl_PR_269 : gF "PlaceRules" 269 1 1 := ⟨rfl, in_RB, by decide, kf_PR_269, rfl⟩
theorem fl_RB_28 : gF "PlaceRules$RuleBook" 28 1 2 := ⟨rfl, in_RB, by decide, kf_RB_28, rfl⟩
theorem fp_RB_28 : gFp "PlaceRules$RuleBook" 28 1 2 ty_RB := ⟨fl_RB_28, tk_RB, nm_RB, rfl⟩
theorem fl_PR_191 : gF "PlaceRules" 191 1 2 := ⟨rfl, in_RB, by decide, kf_PR_191, rfl⟩
theorem fp_PR_191 : gFp "PlaceRules" 191 1 2 ty_RB := ⟨fl_PR_191, tk_RB, nm_RB, rfl⟩
theorem fl_RB_21 : gF "PlaceRules$RuleBook" 21 1 3 := ⟨rfl, in_RB, by decide, kf_RB_21, rfl⟩
theorem fl_PR_254 : gF "PlaceRules" 254 1 3 := ⟨rfl, in_RB, by decide, kf_PR_254, rfl⟩
theorem fl_RB_24 : gF "PlaceRules$RuleBook" 24 1 4 := ⟨rfl, in_RB, by decide, kf_RB_24, rfl⟩
theorem fl_PR_257 : gF "PlaceRules" 257 1 4 := ⟨rfl, in_RB, by decide, kf_PR_257, rfl⟩
theorem fl_RB_56 : gF "PlaceRules$RuleBook" 56 1 5 := ⟨rfl, in_RB, by decide, kf_RB_56, rfl⟩
theorem fp_RB_56 : gFp "PlaceRules$RuleBook" 56 1 5 ty_RB := ⟨fl_RB_56, tk_RB, nm_RB, rfl⟩
theorem fl_PR_251 : gF "PlaceRules" 251 1 5 := ⟨rfl, in_RB, by decide, kf_PR_251, rfl⟩
theorem fp_PR_251 : gFp "PlaceRules" 251 1 5 ty_RB := ⟨fl_PR_251, tk_RB, nm_RB, rfl⟩
theorem fl_OW_9 : gF "PlaceRules$OwnRules" 9 3 0 := ⟨rfl, in_OW, by decide, kf_OW_9, rfl⟩
theorem fl_PR_188 : gF "PlaceRules" 188 3 0 := ⟨rfl, in_OW, by decide, kf_PR_188, rfl⟩
theorem fl_OW_24 : gF "PlaceRules$OwnRules" 24 3 1 := ⟨rfl, in_OW, by decide, kf_OW_24, rfl⟩
theorem fp_OW_24 : gFp "PlaceRules$OwnRules" 24 3 1 ty_OW := ⟨fl_OW_24, tk_OW, nm_OW, rfl⟩
theorem fl_PR_263 : gF "PlaceRules" 263 3 1 := ⟨rfl, in_OW, by decide, kf_PR_263, rfl⟩
theorem fp_PR_263 : gFp "PlaceRules" 263 3 1 ty_OW := ⟨fl_PR_263, tk_OW, nm_OW, rfl⟩
theorem fl_TX_9 : gF "PlaceRules$Text" 9 4 0 := ⟨rfl, in_TX, by decide, kf_TX_9, rfl⟩
theorem fl_TX_31 : gF "PlaceRules$Text" 31 4 1 := ⟨rfl, in_TX, by decide, kf_TX_31, rfl⟩
theorem fp_TX_31 : gFp "PlaceRules$Text" 31 4 1 ty_TX := ⟨fl_TX_31, tk_TX, nm_TX, rfl⟩
theorem fl_PR_260 : gF "PlaceRules" 260 4 1 := ⟨rfl, in_TX, by decide, kf_PR_260, rfl⟩
theorem fp_PR_260 : gFp "PlaceRules" 260 4 1 ty_TX := ⟨fl_PR_260, tk_TX, nm_TX, rfl⟩
theorem fl_TX_17 : gF "PlaceRules$Text" 17 4 2 := ⟨rfl, in_TX, by decide, kf_TX_17, rfl⟩
theorem fl_PR_166 : gF "PlaceRules" 166 4 2 := ⟨rfl, in_TX, by decide, kf_PR_166, rfl⟩
theorem fl_TX_35 : gF "PlaceRules$Text" 35 4 3 := ⟨rfl, in_TX, by decide, kf_TX_35, rfl⟩
theorem fp_TX_35 : gFp "PlaceRules$Text" 35 4 3 ty_TX := ⟨fl_TX_35, tk_TX, nm_TX, rfl⟩
theorem fl_TX_42 : gF "PlaceRules$Text" 42 4 4 := ⟨rfl, in_TX, by decide, kf_TX_42, rfl⟩
theorem fp_TX_42 : gFp "PlaceRules$Text" 42 4 4 ty_TX := ⟨fl_TX_42, tk_TX, nm_TX, rfl⟩
theorem fl_TX_49 : gF "PlaceRules$Text" 49 4 5 := ⟨rfl, in_TX, by decide, kf_TX_49, rfl⟩
theorem fp_TX_49 : gFp "PlaceRules$Text" 49 4 5 ty_TX := ⟨fl_TX_49, tk_TX, nm_TX, rfl⟩
theorem fl_TX_27 : gF "PlaceRules$Text" 27 4 6 := ⟨rfl, in_TX, by decide, kf_TX_27, rfl⟩
theorem fp_TX_27 : gFp "PlaceRules$Text" 27 4 6 ty_TX := ⟨fl_TX_27, tk_TX, nm_TX, rfl⟩
theorem fl_NS_7 : gF "PlaceRules$NumberSet" 7 6 0 := ⟨rfl, in_NS, by decide, kf_NS_7, rfl⟩
theorem fp_NS_7 : gFp "PlaceRules$NumberSet" 7 6 0 ty_NS := ⟨fl_NS_7, tk_NS, nm_NS, rfl⟩
theorem fl_NS_13 : gF "PlaceRules$NumberSet" 13 6 1 := ⟨rfl, in_NS, by decide, kf_NS_13, rfl⟩
theorem fp_NS_13 : gFp "PlaceRules$NumberSet" 13 6 1 ty_NS := ⟨fl_NS_13, tk_NS, nm_NS, rfl⟩
theorem fl_QU_37 : gF "PlaceRules$Question" 37 5 0 := ⟨rfl, in_QU, by decide, kf_QU_37, rfl⟩
theorem fp_QU_37 : gFp "PlaceRules$Question" 37 5 0 ty_QU := ⟨fl_QU_37, tk_QU, nm_QU, rfl⟩
theorem fl_RU_32 : gF "PlaceRules$Rule" 32 5 0 := ⟨rfl, in_QU, by decide, kf_RU_32, rfl⟩
theorem fp_RU_32 : gFp "PlaceRules$Rule" 32 5 0 ty_QU := ⟨fl_RU_32, tk_QU, nm_QU, rfl⟩
theorem fl_QU_45 : gF "PlaceRules$Question" 45 5 1 := ⟨rfl, in_QU, by decide, kf_QU_45, rfl⟩
theorem fp_QU_45 : gFp "PlaceRules$Question" 45 5 1 ty_QU := ⟨fl_QU_45, tk_QU, nm_QU, rfl⟩
theorem fl_RU_38 : gF "PlaceRules$Rule" 38 5 1 := ⟨rfl, in_QU, by decide, kf_RU_38, rfl⟩
theorem fp_RU_38 : gFp "PlaceRules$Rule" 38 5 1 ty_QU := ⟨fl_RU_38, tk_QU, nm_QU, rfl⟩
theorem fl_QU_27 : gF "PlaceRules$Question" 27 5 2 := ⟨rfl, in_QU, by decide, kf_QU_27, rfl⟩
theorem fp_QU_27 : gFp "PlaceRules$Question" 27 5 2 ty_QU := ⟨fl_QU_27, tk_QU, nm_QU, rfl⟩
theorem fl_RU_90 : gF "PlaceRules$Rule" 90 5 2 := ⟨rfl, in_QU, by decide, kf_RU_90, rfl⟩
theorem fp_RU_90 : gFp "PlaceRules$Rule" 90 5 2 ty_QU := ⟨fl_RU_90, tk_QU, nm_QU, rfl⟩
theorem fl_QU_51 : gF "PlaceRules$Question" 51 5 3 := ⟨rfl, in_QU, by decide, kf_QU_51, rfl⟩
theorem fp_QU_51 : gFp "PlaceRules$Question" 51 5 3 ty_QU := ⟨fl_QU_51, tk_QU, nm_QU, rfl⟩
theorem fl_RU_47 : gF "PlaceRules$Rule" 47 5 3 := ⟨rfl, in_QU, by decide, kf_RU_47, rfl⟩
theorem fp_RU_47 : gFp "PlaceRules$Rule" 47 5 3 ty_QU := ⟨fl_RU_47, tk_QU, nm_QU, rfl⟩
theorem fl_QU_55 : gF "PlaceRules$Question" 55 5 4 := ⟨rfl, in_QU, by decide, kf_QU_55, rfl⟩
theorem fp_QU_55 : gFp "PlaceRules$Question" 55 5 4 ty_QU := ⟨fl_QU_55, tk_QU, nm_QU, rfl⟩
theorem fl_RU_75 : gF "PlaceRules$Rule" 75 5 4 := ⟨rfl, in_QU, by decide, kf_RU_75, rfl⟩
theorem fp_RU_75 : gFp "PlaceRules$Rule" 75 5 4 ty_QU := ⟨fl_RU_75, tk_QU, nm_QU, rfl⟩
theorem fl_QU_61 : gF "PlaceRules$Question" 61 5 5 := ⟨rfl, in_QU, by decide, kf_QU_61, rfl⟩
theorem fp_QU_61 : gFp "PlaceRules$Question" 61 5 5 ty_QU := ⟨fl_QU_61, tk_QU, nm_QU, rfl⟩
theorem fl_OW_15 : gF "PlaceRules$OwnRules" 15 5 6 := ⟨rfl, in_QU, by decide, kf_OW_15, rfl⟩
theorem fp_OW_15 : gFp "PlaceRules$OwnRules" 15 5 6 ty_QU := ⟨fl_OW_15, tk_QU, nm_QU, rfl⟩
theorem fl_QU_65 : gF "PlaceRules$Question" 65 5 6 := ⟨rfl, in_QU, by decide, kf_QU_65, rfl⟩
theorem fp_QU_65 : gFp "PlaceRules$Question" 65 5 6 ty_QU := ⟨fl_QU_65, tk_QU, nm_QU, rfl⟩
theorem fl_RU_41 : gF "PlaceRules$Rule" 41 5 6 := ⟨rfl, in_QU, by decide, kf_RU_41, rfl⟩
theorem fp_RU_41 : gFp "PlaceRules$Rule" 41 5 6 ty_QU := ⟨fl_RU_41, tk_QU, nm_QU, rfl⟩
theorem fl_QU_69 : gF "PlaceRules$Question" 69 5 7 := ⟨rfl, in_QU, by decide, kf_QU_69, rfl⟩
theorem fp_QU_69 : gFp "PlaceRules$Question" 69 5 7 ty_QU := ⟨fl_QU_69, tk_QU, nm_QU, rfl⟩
theorem fl_QU_73 : gF "PlaceRules$Question" 73 5 8 := ⟨rfl, in_QU, by decide, kf_QU_73, rfl⟩
theorem fp_QU_73 : gFp "PlaceRules$Question" 73 5 8 ty_QU := ⟨fl_QU_73, tk_QU, nm_QU, rfl⟩
theorem fl_RU_72 : gF "PlaceRules$Rule" 72 5 8 := ⟨rfl, in_QU, by decide, kf_RU_72, rfl⟩
theorem fp_RU_72 : gFp "PlaceRules$Rule" 72 5 8 ty_QU := ⟨fl_RU_72, tk_QU, nm_QU, rfl⟩
theorem fl_QU_77 : gF "PlaceRules$Question" 77 5 9 := ⟨rfl, in_QU, by decide, kf_QU_77, rfl⟩
theorem fp_QU_77 : gFp "PlaceRules$Question" 77 5 9 ty_QU := ⟨fl_QU_77, tk_QU, nm_QU, rfl⟩
theorem fl_RU_87 : gF "PlaceRules$Rule" 87 5 9 := ⟨rfl, in_QU, by decide, kf_RU_87, rfl⟩
theorem fp_RU_87 : gFp "PlaceRules$Rule" 87 5 9 ty_QU := ⟨fl_RU_87, tk_QU, nm_QU, rfl⟩
theorem fl_QU_78 : gF "PlaceRules$Question" 78 5 10 := ⟨rfl, in_QU, by decide, kf_QU_78, rfl⟩
theorem fp_QU_78 : gFp "PlaceRules$Question" 78 5 10 ty_QU := ⟨fl_QU_78, tk_QU, nm_QU, rfl⟩
theorem fl_RU_78 : gF "PlaceRules$Rule" 78 5 10 := ⟨rfl, in_QU, by decide, kf_RU_78, rfl⟩
theorem fp_RU_78 : gFp "PlaceRules$Rule" 78 5 10 ty_QU := ⟨fl_RU_78, tk_QU, nm_QU, rfl⟩
theorem fl_OW_21 : gF "PlaceRules$OwnRules" 21 5 11 := ⟨rfl, in_QU, by decide, kf_OW_21, rfl⟩
theorem fp_OW_21 : gFp "PlaceRules$OwnRules" 21 5 11 ty_QU := ⟨fl_OW_21, tk_QU, nm_QU, rfl⟩
theorem fl_RU_44 : gF "PlaceRules$Rule" 44 5 11 := ⟨rfl, in_QU, by decide, kf_RU_44, rfl⟩
theorem fp_RU_44 : gFp "PlaceRules$Rule" 44 5 11 ty_QU := ⟨fl_RU_44, tk_QU, nm_QU, rfl⟩
theorem fl_QU_81 : gF "PlaceRules$Question" 81 5 11 := ⟨rfl, in_QU, by decide, kf_QU_81, rfl⟩
theorem fp_QU_81 : gFp "PlaceRules$Question" 81 5 11 ty_QU := ⟨fl_QU_81, tk_QU, nm_QU, rfl⟩
theorem fl_QU_84 : gF "PlaceRules$Question" 84 5 12 := ⟨rfl, in_QU, by decide, kf_QU_84, rfl⟩
theorem fp_QU_84 : gFp "PlaceRules$Question" 84 5 12 ty_QU := ⟨fl_QU_84, tk_QU, nm_QU, rfl⟩
theorem fl_RU_84 : gF "PlaceRules$Rule" 84 5 12 := ⟨rfl, in_QU, by decide, kf_RU_84, rfl⟩
theorem fp_RU_84 : gFp "PlaceRules$Rule" 84 5 12 ty_QU := ⟨fl_RU_84, tk_QU, nm_QU, rfl⟩
theorem fl_QU_87 : gF "PlaceRules$Question" 87 5 13 := ⟨rfl, in_QU, by decide, kf_QU_87, rfl⟩
theorem fp_QU_87 : gFp "PlaceRules$Question" 87 5 13 ty_QU := ⟨fl_QU_87, tk_QU, nm_QU, rfl⟩
theorem fl_RU_81 : gF "PlaceRules$Rule" 81 5 13 := ⟨rfl, in_QU, by decide, kf_RU_81, rfl⟩
theorem fp_RU_81 : gFp "PlaceRules$Rule" 81 5 13 ty_QU := ⟨fl_RU_81, tk_QU, nm_QU, rfl⟩
theorem fl_QU_12 : gF "PlaceRules$Question" 12 5 14 := ⟨rfl, in_QU, by decide, kf_QU_12, rfl⟩
theorem fl_RU_50 : gF "PlaceRules$Rule" 50 5 14 := ⟨rfl, in_QU, by decide, kf_RU_50, rfl⟩
theorem fl_QU_18 : gF "PlaceRules$Question" 18 5 15 := ⟨rfl, in_QU, by decide, kf_QU_18, rfl⟩
theorem fl_RU_59 : gF "PlaceRules$Rule" 59 5 15 := ⟨rfl, in_QU, by decide, kf_RU_59, rfl⟩
theorem fl_QU_21 : gF "PlaceRules$Question" 21 5 16 := ⟨rfl, in_QU, by decide, kf_QU_21, rfl⟩
theorem fl_RU_62 : gF "PlaceRules$Rule" 62 5 16 := ⟨rfl, in_QU, by decide, kf_RU_62, rfl⟩
theorem fl_QU_24 : gF "PlaceRules$Question" 24 5 17 := ⟨rfl, in_QU, by decide, kf_QU_24, rfl⟩
theorem fl_PL_9 : gF "PlaceRules$Place" 9 7 0 := ⟨rfl, in_PL, by decide, kf_PL_9, rfl⟩
theorem fp_PL_9 : gFp "PlaceRules$Place" 9 7 0 ty_PL := ⟨fl_PL_9, tk_PL, nm_PL, rfl⟩
theorem fl_PR_70 : gF "PlaceRules" 70 7 0 := ⟨rfl, in_PL, by decide, kf_PR_70, rfl⟩
theorem fp_PR_70 : gFp "PlaceRules" 70 7 0 ty_PL := ⟨fl_PR_70, tk_PL, nm_PL, rfl⟩
theorem fl_PL_15 : gF "PlaceRules$Place" 15 7 1 := ⟨rfl, in_PL, by decide, kf_PL_15, rfl⟩
theorem fp_PL_15 : gFp "PlaceRules$Place" 15 7 1 ty_PL := ⟨fl_PL_15, tk_PL, nm_PL, rfl⟩
theorem fl_PR_74 : gF "PlaceRules" 74 7 1 := ⟨rfl, in_PL, by decide, kf_PR_74, rfl⟩
theorem fp_PR_74 : gFp "PlaceRules" 74 7 1 ty_PL := ⟨fl_PR_74, tk_PL, nm_PL, rfl⟩
theorem fl_PL_18 : gF "PlaceRules$Place" 18 7 2 := ⟨rfl, in_PL, by decide, kf_PL_18, rfl⟩
theorem fp_PL_18 : gFp "PlaceRules$Place" 18 7 2 ty_PL := ⟨fl_PL_18, tk_PL, nm_PL, rfl⟩
theorem fl_PR_77 : gF "PlaceRules" 77 7 2 := ⟨rfl, in_PL, by decide, kf_PR_77, rfl⟩
theorem fp_PR_77 : gFp "PlaceRules" 77 7 2 ty_PL := ⟨fl_PR_77, tk_PL, nm_PL, rfl⟩
theorem fl_PL_22 : gF "PlaceRules$Place" 22 7 3 := ⟨rfl, in_PL, by decide, kf_PL_22, rfl⟩
theorem fp_PL_22 : gFp "PlaceRules$Place" 22 7 3 ty_PL := ⟨fl_PL_22, tk_PL, nm_PL, rfl⟩
theorem fl_QU_48 : gF "PlaceRules$Question" 48 7 3 := ⟨rfl, in_PL, by decide, kf_QU_48, rfl⟩
theorem fp_QU_48 : gFp "PlaceRules$Question" 48 7 3 ty_PL := ⟨fl_QU_48, tk_PL, nm_PL, rfl⟩
theorem fl_PR_84 : gF "PlaceRules" 84 7 3 := ⟨rfl, in_PL, by decide, kf_PR_84, rfl⟩
theorem fp_PR_84 : gFp "PlaceRules" 84 7 3 ty_PL := ⟨fl_PR_84, tk_PL, nm_PL, rfl⟩
theorem fl_QU_52 : gF "PlaceRules$Question" 52 7 4 := ⟨rfl, in_PL, by decide, kf_QU_52, rfl⟩
theorem fp_QU_52 : gFp "PlaceRules$Question" 52 7 4 ty_PL := ⟨fl_QU_52, tk_PL, nm_PL, rfl⟩
theorem fl_PR_87 : gF "PlaceRules" 87 7 4 := ⟨rfl, in_PL, by decide, kf_PR_87, rfl⟩
theorem fp_PR_87 : gFp "PlaceRules" 87 7 4 ty_PL := ⟨fl_PR_87, tk_PL, nm_PL, rfl⟩
theorem fl_QU_56 : gF "PlaceRules$Question" 56 8 0 := ⟨rfl, in_UN, by decide, kf_QU_56, rfl⟩
theorem fp_QU_56 : gFp "PlaceRules$Question" 56 8 0 ty_UN := ⟨fl_QU_56, tk_UN, nm_UN, rfl⟩
theorem fl_PR_100 : gF "PlaceRules" 100 8 0 := ⟨rfl, in_UN, by decide, kf_PR_100, rfl⟩
theorem fp_PR_100 : gFp "PlaceRules" 100 8 0 ty_UN := ⟨fl_PR_100, tk_UN, nm_UN, rfl⟩
theorem fl_QU_94 : gF "PlaceRules$Question" 94 8 1 := ⟨rfl, in_UN, by decide, kf_QU_94, rfl⟩
theorem fp_QU_94 : gFp "PlaceRules$Question" 94 8 1 ty_UN := ⟨fl_QU_94, tk_UN, nm_UN, rfl⟩
theorem fl_PR_103 : gF "PlaceRules" 103 8 1 := ⟨rfl, in_UN, by decide, kf_PR_103, rfl⟩
theorem fp_PR_103 : gFp "PlaceRules" 103 8 1 ty_UN := ⟨fl_PR_103, tk_UN, nm_UN, rfl⟩
theorem fl_QU_97 : gF "PlaceRules$Question" 97 8 2 := ⟨rfl, in_UN, by decide, kf_QU_97, rfl⟩
theorem fp_QU_97 : gFp "PlaceRules$Question" 97 8 2 ty_UN := ⟨fl_QU_97, tk_UN, nm_UN, rfl⟩
theorem fl_PR_106 : gF "PlaceRules" 106 8 2 := ⟨rfl, in_UN, by decide, kf_PR_106, rfl⟩
theorem fp_PR_106 : gFp "PlaceRules" 106 8 2 ty_UN := ⟨fl_PR_106, tk_UN, nm_UN, rfl⟩
theorem fl_UN_9 : gF "PlaceRules$Unit" 9 8 3 := ⟨rfl, in_UN, by decide, kf_UN_9, rfl⟩
theorem fp_UN_9 : gFp "PlaceRules$Unit" 9 8 3 ty_UN := ⟨fl_UN_9, tk_UN, nm_UN, rfl⟩
theorem fl_PL_29 : gF "PlaceRules$Place" 29 8 3 := ⟨rfl, in_UN, by decide, kf_PL_29, rfl⟩
theorem fp_PL_29 : gFp "PlaceRules$Place" 29 8 3 ty_UN := ⟨fl_PL_29, tk_UN, nm_UN, rfl⟩
theorem fl_PR_116 : gF "PlaceRules" 116 8 3 := ⟨rfl, in_UN, by decide, kf_PR_116, rfl⟩
theorem fp_PR_116 : gFp "PlaceRules" 116 8 3 ty_UN := ⟨fl_PR_116, tk_UN, nm_UN, rfl⟩
theorem fl_UN_15 : gF "PlaceRules$Unit" 15 8 4 := ⟨rfl, in_UN, by decide, kf_UN_15, rfl⟩
theorem fp_UN_15 : gFp "PlaceRules$Unit" 15 8 4 ty_UN := ⟨fl_UN_15, tk_UN, nm_UN, rfl⟩
theorem fl_PL_32 : gF "PlaceRules$Place" 32 8 4 := ⟨rfl, in_UN, by decide, kf_PL_32, rfl⟩
theorem fp_PL_32 : gFp "PlaceRules$Place" 32 8 4 ty_UN := ⟨fl_PL_32, tk_UN, nm_UN, rfl⟩
theorem fl_PR_117 : gF "PlaceRules" 117 8 4 := ⟨rfl, in_UN, by decide, kf_PR_117, rfl⟩
theorem fp_PR_117 : gFp "PlaceRules" 117 8 4 ty_UN := ⟨fl_PR_117, tk_UN, nm_UN, rfl⟩
theorem fl_UN_18 : gF "PlaceRules$Unit" 18 8 5 := ⟨rfl, in_UN, by decide, kf_UN_18, rfl⟩
theorem fp_UN_18 : gFp "PlaceRules$Unit" 18 8 5 ty_UN := ⟨fl_UN_18, tk_UN, nm_UN, rfl⟩
theorem fl_PL_33 : gF "PlaceRules$Place" 33 8 5 := ⟨rfl, in_UN, by decide, kf_PL_33, rfl⟩
theorem fp_PL_33 : gFp "PlaceRules$Place" 33 8 5 ty_UN := ⟨fl_PL_33, tk_UN, nm_UN, rfl⟩
theorem fl_PR_118 : gF "PlaceRules" 118 8 5 := ⟨rfl, in_UN, by decide, kf_PR_118, rfl⟩
theorem fp_PR_118 : gFp "PlaceRules" 118 8 5 ty_UN := ⟨fl_PR_118, tk_UN, nm_UN, rfl⟩
theorem fl_UN_21 : gF "PlaceRules$Unit" 21 8 6 := ⟨rfl, in_UN, by decide, kf_UN_21, rfl⟩
theorem fp_UN_21 : gFp "PlaceRules$Unit" 21 8 6 ty_UN := ⟨fl_UN_21, tk_UN, nm_UN, rfl⟩
theorem fl_QU_62 : gF "PlaceRules$Question" 62 8 6 := ⟨rfl, in_UN, by decide, kf_QU_62, rfl⟩
theorem fp_QU_62 : gFp "PlaceRules$Question" 62 8 6 ty_UN := ⟨fl_QU_62, tk_UN, nm_UN, rfl⟩
theorem fl_PR_119 : gF "PlaceRules" 119 8 6 := ⟨rfl, in_UN, by decide, kf_PR_119, rfl⟩
theorem fp_PR_119 : gFp "PlaceRules" 119 8 6 ty_UN := ⟨fl_PR_119, tk_UN, nm_UN, rfl⟩
theorem fl_QU_66 : gF "PlaceRules$Question" 66 8 7 := ⟨rfl, in_UN, by decide, kf_QU_66, rfl⟩
theorem fp_QU_66 : gFp "PlaceRules$Question" 66 8 7 ty_UN := ⟨fl_QU_66, tk_UN, nm_UN, rfl⟩
theorem fl_PR_122 : gF "PlaceRules" 122 8 7 := ⟨rfl, in_UN, by decide, kf_PR_122, rfl⟩
theorem fp_PR_122 : gFp "PlaceRules" 122 8 7 ty_UN := ⟨fl_PR_122, tk_UN, nm_UN, rfl⟩
theorem fl_QU_70 : gF "PlaceRules$Question" 70 8 8 := ⟨rfl, in_UN, by decide, kf_QU_70, rfl⟩
theorem fp_QU_70 : gFp "PlaceRules$Question" 70 8 8 ty_UN := ⟨fl_QU_70, tk_UN, nm_UN, rfl⟩
theorem fl_PR_125 : gF "PlaceRules" 125 8 8 := ⟨rfl, in_UN, by decide, kf_PR_125, rfl⟩
theorem fp_PR_125 : gFp "PlaceRules" 125 8 8 ty_UN := ⟨fl_PR_125, tk_UN, nm_UN, rfl⟩
theorem fl_UN_24 : gF "PlaceRules$Unit" 24 8 9 := ⟨rfl, in_UN, by decide, kf_UN_24, rfl⟩
theorem fp_UN_24 : gFp "PlaceRules$Unit" 24 8 9 ty_UN := ⟨fl_UN_24, tk_UN, nm_UN, rfl⟩
theorem fl_QU_74 : gF "PlaceRules$Question" 74 8 9 := ⟨rfl, in_UN, by decide, kf_QU_74, rfl⟩
theorem fp_QU_74 : gFp "PlaceRules$Question" 74 8 9 ty_UN := ⟨fl_QU_74, tk_UN, nm_UN, rfl⟩
theorem fl_PR_128 : gF "PlaceRules" 128 8 9 := ⟨rfl, in_UN, by decide, kf_PR_128, rfl⟩
theorem fp_PR_128 : gFp "PlaceRules" 128 8 9 ty_UN := ⟨fl_PR_128, tk_UN, nm_UN, rfl⟩
theorem fl_UN_27 : gF "PlaceRules$Unit" 27 8 10 := ⟨rfl, in_UN, by decide, kf_UN_27, rfl⟩
theorem fp_UN_27 : gFp "PlaceRules$Unit" 27 8 10 ty_UN := ⟨fl_UN_27, tk_UN, nm_UN, rfl⟩
theorem fl_PR_236 : gF "PlaceRules" 236 8 10 := ⟨rfl, in_UN, by decide, kf_PR_236, rfl⟩
theorem fp_PR_236 : gFp "PlaceRules" 236 8 10 ty_UN := ⟨fl_PR_236, tk_UN, nm_UN, rfl⟩
theorem fl_WV_9 : gF "PlaceRules$Waiver" 9 9 0 := ⟨rfl, in_WV, by decide, kf_WV_9, rfl⟩
theorem fp_WV_9 : gFp "PlaceRules$Waiver" 9 9 0 ty_WV := ⟨fl_WV_9, tk_WV, nm_WV, rfl⟩
theorem fl_PR_217 : gF "PlaceRules" 217 9 0 := ⟨rfl, in_WV, by decide, kf_PR_217, rfl⟩
theorem fp_PR_217 : gFp "PlaceRules" 217 9 0 ty_WV := ⟨fl_PR_217, tk_WV, nm_WV, rfl⟩
theorem fl_WV_15 : gF "PlaceRules$Waiver" 15 9 1 := ⟨rfl, in_WV, by decide, kf_WV_15, rfl⟩
theorem fp_WV_15 : gFp "PlaceRules$Waiver" 15 9 1 ty_WV := ⟨fl_WV_15, tk_WV, nm_WV, rfl⟩
theorem fl_PR_220 : gF "PlaceRules" 220 9 1 := ⟨rfl, in_WV, by decide, kf_PR_220, rfl⟩
theorem fp_PR_220 : gFp "PlaceRules" 220 9 1 ty_WV := ⟨fl_PR_220, tk_WV, nm_WV, rfl⟩
theorem fl_WV_18 : gF "PlaceRules$Waiver" 18 9 2 := ⟨rfl, in_WV, by decide, kf_WV_18, rfl⟩
theorem fp_WV_18 : gFp "PlaceRules$Waiver" 18 9 2 ty_WV := ⟨fl_WV_18, tk_WV, nm_WV, rfl⟩
theorem fl_PR_223 : gF "PlaceRules" 223 9 2 := ⟨rfl, in_WV, by decide, kf_PR_223, rfl⟩
theorem fp_PR_223 : gFp "PlaceRules" 223 9 2 ty_WV := ⟨fl_PR_223, tk_WV, nm_WV, rfl⟩
theorem fl_WV_21 : gF "PlaceRules$Waiver" 21 9 3 := ⟨rfl, in_WV, by decide, kf_WV_21, rfl⟩
theorem fp_WV_21 : gFp "PlaceRules$Waiver" 21 9 3 ty_WV := ⟨fl_WV_21, tk_WV, nm_WV, rfl⟩
theorem fl_PR_203 : gF "PlaceRules" 203 9 3 := ⟨rfl, in_WV, by decide, kf_PR_203, rfl⟩
theorem fp_PR_203 : gFp "PlaceRules" 203 9 3 ty_WV := ⟨fl_PR_203, tk_WV, nm_WV, rfl⟩
theorem fl_PR_11 : gF "PlaceRules" 11 0 0 := ⟨rfl, in_PR, by decide, kf_PR_11, rfl⟩
theorem fl_PR_17 : gF "PlaceRules" 17 0 1 := ⟨rfl, in_PR, by decide, kf_PR_17, rfl⟩
theorem fl_PR_90 : gF "PlaceRules" 90 0 2 := ⟨rfl, in_PR, by decide, kf_PR_90, rfl⟩
theorem fp_PR_90 : gFp "PlaceRules" 90 0 2 ty_PR := ⟨fl_PR_90, tk_PR, nm_PR, rfl⟩
theorem fl_PR_23 : gF "PlaceRules" 23 0 3 := ⟨rfl, in_PR, by decide, kf_PR_23, rfl⟩
theorem fl_PR_212 : gF "PlaceRules" 212 0 4 := ⟨rfl, in_PR, by decide, kf_PR_212, rfl⟩
theorem fp_PR_212 : gFp "PlaceRules" 212 0 4 ty_PR := ⟨fl_PR_212, tk_PR, nm_PR, rfl⟩
theorem fl_PR_30 : gF "PlaceRules" 30 0 5 := ⟨rfl, in_PR, by decide, kf_PR_30, rfl⟩
theorem fl_PR_37 : gF "PlaceRules" 37 0 6 := ⟨rfl, in_PR, by decide, kf_PR_37, rfl⟩
theorem fl_PR_44 : gF "PlaceRules" 44 0 7 := ⟨rfl, in_PR, by decide, kf_PR_44, rfl⟩
theorem fl_PR_51 : gF "PlaceRules" 51 0 8 := ⟨rfl, in_PR, by decide, kf_PR_51, rfl⟩
theorem fl_PR_55 : gF "PlaceRules" 55 0 9 := ⟨rfl, in_PR, by decide, kf_PR_55, rfl⟩
theorem fl_PR_233 : gF "PlaceRules" 233 0 10 := ⟨rfl, in_PR, by decide, kf_PR_233, rfl⟩
theorem fp_PR_233 : gFp "PlaceRules" 233 0 10 ty_PR := ⟨fl_PR_233, tk_PR, nm_PR, rfl⟩
theorem fl_MD_63 : gF "PlaceRulesModel" 63 10 0 := ⟨rfl, in_MD, by decide, kf_MD_63, rfl⟩
theorem fp_MD_63 : gFp "PlaceRulesModel" 63 10 0 ty_MD := ⟨fl_MD_63, tk_MD, nm_MD, rfl⟩
theorem fl_MD_7 : gF "PlaceRulesModel" 7 10 1 := ⟨rfl, in_MD, by decide, kf_MD_7, rfl⟩
theorem fl_MD_83 : gF "PlaceRulesModel" 83 10 2 := ⟨rfl, in_MD, by decide, kf_MD_83, rfl⟩
theorem fp_MD_83 : gFp "PlaceRulesModel" 83 10 2 ty_MD := ⟨fl_MD_83, tk_MD, nm_MD, rfl⟩
theorem fl_MD_13 : gF "PlaceRulesModel" 13 10 3 := ⟨rfl, in_MD, by decide, kf_MD_13, rfl⟩
theorem fl_MD_16 : gF "PlaceRulesModel" 16 10 4 := ⟨rfl, in_MD, by decide, kf_MD_16, rfl⟩
theorem fl_MD_94 : gF "PlaceRulesModel" 94 10 5 := ⟨rfl, in_MD, by decide, kf_MD_94, rfl⟩
theorem fp_MD_94 : gFp "PlaceRulesModel" 94 10 5 ty_MD := ⟨fl_MD_94, tk_MD, nm_MD, rfl⟩
theorem fl_MD_19 : gF "PlaceRulesModel" 19 10 6 := ⟨rfl, in_MD, by decide, kf_MD_19, rfl⟩
theorem fl_MD_22 : gF "PlaceRulesModel" 22 10 7 := ⟨rfl, in_MD, by decide, kf_MD_22, rfl⟩
theorem fl_MD_25 : gF "PlaceRulesModel" 25 10 8 := ⟨rfl, in_MD, by decide, kf_MD_25, rfl⟩
theorem fl_MD_28 : gF "PlaceRulesModel" 28 10 9 := ⟨rfl, in_MD, by decide, kf_MD_28, rfl⟩
theorem fl_MD_31 : gF "PlaceRulesModel" 31 10 10 := ⟨rfl, in_MD, by decide, kf_MD_31, rfl⟩
theorem fl_MD_156 : gF "PlaceRulesModel" 156 10 11 := ⟨rfl, in_MD, by decide, kf_MD_156, rfl⟩
theorem fp_MD_156 : gFp "PlaceRulesModel" 156 10 11 ty_MD := ⟨fl_MD_156, tk_MD, nm_MD, rfl⟩
theorem fl_MD_35 : gF "PlaceRulesModel" 35 10 12 := ⟨rfl, in_MD, by decide, kf_MD_35, rfl⟩
theorem fl_MD_38 : gF "PlaceRulesModel" 38 10 13 := ⟨rfl, in_MD, by decide, kf_MD_38, rfl⟩
theorem fl_MD_41 : gF "PlaceRulesModel" 41 10 14 := ⟨rfl, in_MD, by decide, kf_MD_41, rfl⟩
theorem fl_MD_44 : gF "PlaceRulesModel" 44 10 15 := ⟨rfl, in_MD, by decide, kf_MD_44, rfl⟩
theorem fl_MD_47 : gF "PlaceRulesModel" 47 10 16 := ⟨rfl, in_MD, by decide, kf_MD_47, rfl⟩
theorem fl_MD_165 : gF "PlaceRulesModel" 165 10 17 := ⟨rfl, in_MD, by decide, kf_MD_165, rfl⟩
theorem fp_MD_165 : gFp "PlaceRulesModel" 165 10 17 ty_MD := ⟨fl_MD_165, tk_MD, nm_MD, rfl⟩
theorem fl_MD_97 : gF "PlaceRulesModel" 97 10 18 := ⟨rfl, in_MD, by decide, kf_MD_97, rfl⟩
theorem fp_MD_97 : gFp "PlaceRulesModel" 97 10 18 ty_MD := ⟨fl_MD_97, tk_MD, nm_MD, rfl⟩
theorem fl_MD_50 : gF "PlaceRulesModel" 50 10 19 := ⟨rfl, in_MD, by decide, kf_MD_50, rfl⟩
theorem fl_MD_190 : gF "PlaceRulesModel" 190 10 20 := ⟨rfl, in_MD, by decide, kf_MD_190, rfl⟩
theorem fp_MD_190 : gFp "PlaceRulesModel" 190 10 20 ty_MD := ⟨fl_MD_190, tk_MD, nm_MD, rfl⟩
theorem fl_MD_53 : gF "PlaceRulesModel" 53 10 21 := ⟨rfl, in_MD, by decide, kf_MD_53, rfl⟩
theorem fl_MD_111 : gF "PlaceRulesModel" 111 10 22 := ⟨rfl, in_MD, by decide, kf_MD_111, rfl⟩
theorem fp_MD_111 : gFp "PlaceRulesModel" 111 10 22 ty_MD := ⟨fl_MD_111, tk_MD, nm_MD, rfl⟩
theorem fl_MD_56 : gF "PlaceRulesModel" 56 10 23 := ⟨rfl, in_MD, by decide, kf_MD_56, rfl⟩
theorem fl_MD_114 : gF "PlaceRulesModel" 114 10 24 := ⟨rfl, in_MD, by decide, kf_MD_114, rfl⟩
theorem fp_MD_114 : gFp "PlaceRulesModel" 114 10 24 ty_MD := ⟨fl_MD_114, tk_MD, nm_MD, rfl⟩
theorem fl_MD_117 : gF "PlaceRulesModel" 117 10 25 := ⟨rfl, in_MD, by decide, kf_MD_117, rfl⟩
theorem fp_MD_117 : gFp "PlaceRulesModel" 117 10 25 ty_MD := ⟨fl_MD_117, tk_MD, nm_MD, rfl⟩
theorem fl_MD_128 : gF "PlaceRulesModel" 128 10 26 := ⟨rfl, in_MD, by decide, kf_MD_128, rfl⟩
theorem fp_MD_128 : gFp "PlaceRulesModel" 128 10 26 ty_MD := ⟨fl_MD_128, tk_MD, nm_MD, rfl⟩
theorem fl_MD_59 : gF "PlaceRulesModel" 59 10 27 := ⟨rfl, in_MD, by decide, kf_MD_59, rfl⟩
theorem cw_LW_107 : gWV "PlaceRulesLaw" 107 y_PR_sign (.code y_PR_sign c_PR_sign 2 (some .int)) 1 := ⟨km_LW_107, ki_PR_sign, ko_PR_sign, kt_PR, kc_PR_sign, by decide, by decide⟩
theorem cw_PR_159 : gWV "PlaceRules" 159 y_TX_collect (.code y_TX_collect c_TX_collect 2 (some .int)) 1 := ⟨km_PR_159, ki_TX_collect, ko_TX_collect, kt_TX, kc_TX_collect, by decide, by decide⟩
theorem cw_LW_111 : gWV "PlaceRulesLaw" 111 y_PR_read (.code y_PR_read c_PR_read 4 (some .int)) 0 := ⟨km_LW_111, ki_PR_read, ko_PR_read, kt_PR, kc_PR_read, by decide, by decide⟩
theorem cw_PR_150 : gWV "PlaceRules" 150 y_RB_room (.code y_RB_room c_RB_room 1 (some .int)) 0 := ⟨km_PR_150, ki_RB_room, ko_RB_room, kt_RB, kc_RB_room, by decide, by decide⟩
theorem cw_PR_163 : gWV "PlaceRules" 163 y_TX_readLines (.code y_TX_readLines c_TX_readLines 3 (some .int)) 1 := ⟨km_PR_163, ki_TX_readLines, ko_TX_readLines, kt_TX, kc_TX_readLines, by decide, by decide⟩
theorem cw_TX_38 : gWV "PlaceRules$Text" 38 y_TX_readLine (.code y_TX_readLine c_TX_readLine 2 (some .boolean)) 1 := ⟨km_TX_38, ki_TX_readLine, ko_TX_readLine, kt_TX, kc_TX_readLine, by decide, by decide⟩
theorem cw_TX_45 : gWV "PlaceRules$Text" 45 y_TX_readNumber (.code y_TX_readNumber c_TX_readNumber 6 (some .boolean)) 2 := ⟨km_TX_45, ki_TX_readNumber, ko_TX_readNumber, kt_TX, kc_TX_readNumber, by decide, by decide⟩
theorem cw_TX_89 : gWV "PlaceRules$Text" 89 y_TX_nextSign (.code y_TX_nextSign c_TX_nextSign 1 (some .int)) 0 := ⟨km_TX_89, ki_TX_nextSign, ko_TX_nextSign, kt_TX, kc_TX_nextSign, by decide, by decide⟩
theorem cw_TX_92 : gWS "PlaceRules$Text" 92 y_TX_isDigit (.code y_TX_isDigit c_TX_isDigit 1 (some .boolean)) 1 := ⟨km_TX_92, ks_TX_isDigit, kt_TX, kc_TX_isDigit, by decide, by decide⟩
theorem cw_TX_95 : gWV "PlaceRules$Text" 95 y_TX_fail (.code y_TX_fail c_TX_fail 2 (some .boolean)) 1 := ⟨km_TX_95, ki_TX_fail, ko_TX_fail, kt_TX, kc_TX_fail, by decide, by decide⟩
theorem cw_TX_55 : gWV "PlaceRules$Text" 55 y_TX_readBlank (.code y_TX_readBlank c_TX_readBlank 1 (some .boolean)) 0 := ⟨km_TX_55, ki_TX_readBlank, ko_TX_readBlank, kt_TX, kc_TX_readBlank, by decide, by decide⟩
theorem cw_TX_85 : gWV "PlaceRules$Text" 85 y_TX_readSign (.code y_TX_readSign c_TX_readSign 2 (some .boolean)) 1 := ⟨km_TX_85, ki_TX_readSign, ko_TX_readSign, kt_TX, kc_TX_readSign, by decide, by decide⟩
theorem cw_TX_59 : gWV "PlaceRules$Text" 59 y_TX_readKind (.code y_TX_readKind c_TX_readKind 4 (some .boolean)) 0 := ⟨km_TX_59, ki_TX_readKind, ko_TX_readKind, kt_TX, kc_TX_readKind, by decide, by decide⟩
theorem cw_TX_106 : gWV "PlaceRules$Text" 106 y_TX_sharedSigns (.code y_TX_sharedSigns c_TX_sharedSigns 3 (some .int)) 1 := ⟨km_TX_106, ki_TX_sharedSigns, ko_TX_sharedSigns, kt_TX, kc_TX_sharedSigns, by decide, by decide⟩
theorem cw_TX_110 : gWV "PlaceRules$Text" 110 y_java_lang_String_length (.code y_java_lang_String_length c_java_lang_String_length 1 (some .int)) 0 := ⟨km_TX_110, ki_java_lang_String_length, ko_java_lang_String_length, kt_java_lang_String, kc_java_lang_String_length, by decide, by decide⟩
theorem cw_TX_115 : gWV "PlaceRules$Text" 115 y_java_lang_String_charAt (.code y_java_lang_String_charAt c_java_lang_String_charAt 2 (some .char)) 1 := ⟨km_TX_115, ki_java_lang_String_charAt, ko_java_lang_String_charAt, kt_java_lang_String, kc_java_lang_String_charAt, by decide, by decide⟩
theorem cw_TX_75 : gWV "PlaceRules$Text" 75 y_KD_hasSecond (.code y_KD_hasSecond c_KD_hasSecond 1 (some .boolean)) 0 := ⟨km_TX_75, ki_KD_hasSecond, ko_KD_hasSecond, kt_KD, kc_KD_hasSecond, by decide, by decide⟩
theorem cw_TX_78 : gWV "PlaceRules$Text" 78 y_KD_leastSecond (.code y_KD_leastSecond c_KD_leastSecond 1 (some .int)) 0 := ⟨km_TX_78, ki_KD_leastSecond, ko_KD_leastSecond, kt_KD, kc_KD_leastSecond, by decide, by decide⟩
theorem cw_KD_70 : gWV "PlaceRules$Kind" 70 y_KD_hasSecond (.code y_KD_hasSecond c_KD_hasSecond 1 (some .boolean)) 0 := ⟨km_KD_70, ki_KD_hasSecond, ko_KD_hasSecond, kt_KD, kc_KD_hasSecond, by decide, by decide⟩
theorem cw_TX_82 : gWV "PlaceRules$Text" 82 y_KD_mostSecond (.code y_KD_mostSecond c_KD_mostSecond 1 (some .int)) 0 := ⟨km_TX_82, ki_KD_mostSecond, ko_KD_mostSecond, kt_KD, kc_KD_mostSecond, by decide, by decide⟩
theorem cw_PR_155 : gWV "PlaceRules" 155 y_RB_addRule (.code y_RB_addRule c_RB_addRule 7 (some .int)) 4 := ⟨km_PR_155, ki_RB_addRule, ko_RB_addRule, kt_RB, kc_RB_addRule, by decide, by decide⟩
theorem cw_RB_45 : gWV "PlaceRules$RuleBook" 45 y_RB_noteClashes (.code y_RB_noteClashes c_RB_noteClashes 4 none) 1 := ⟨km_RB_45, ki_RB_noteClashes, ko_RB_noteClashes, kt_RB, kc_RB_noteClashes, by decide, by decide⟩
theorem cw_RB_49 : gWV "PlaceRules$RuleBook" 49 y_RB_insertInOrder (.code y_RB_insertInOrder c_RB_insertInOrder 3 none) 1 := ⟨km_RB_49, ki_RB_insertInOrder, ko_RB_insertInOrder, kt_RB, kc_RB_insertInOrder, by decide, by decide⟩
theorem cw_PR_185 : gWV "PlaceRules" 185 y_TX_forget (.code y_TX_forget c_TX_forget 1 none) 0 := ⟨km_PR_185, ki_TX_forget, ko_TX_forget, kt_TX, kc_TX_forget, by decide, by decide⟩
theorem cw_LW_149 : gWV "PlaceRulesLaw" 149 y_PR_count (.code y_PR_count c_PR_count 2 (some .int)) 1 := ⟨km_LW_149, ki_PR_count, ko_PR_count, kt_PR, kc_PR_count, by decide, by decide⟩
theorem cw_LW_78 : gWS "PlaceRulesLaw" 78 y_LW_place (.codeWith y_LW_place c_LW_place 6 (some .int) [(0, 9, 12, 13)]) 5 := ⟨km_LW_78, ks_LW_place, kt_LW, kc_LW_place, by decide, by decide⟩
theorem cw_LW_7 : gWV "PlaceRulesLaw" 7 y_PR_place (.code y_PR_place c_PR_place 6 none) 4 := ⟨km_LW_7, ki_PR_place, ko_PR_place, kt_PR, kc_PR_place, by decide, by decide⟩
theorem cw_PR_62 : gWS "PlaceRules" 62 y_PR_needPlace (.code y_PR_needPlace c_PR_needPlace 1 none) 1 := ⟨km_PR_62, ks_PR_needPlace, kt_PR, kc_PR_needPlace, by decide, by decide⟩
theorem cw_PR_81 : gWS "PlaceRules" 81 y_PR_needWithin (.code y_PR_needWithin c_PR_needWithin 3 none) 3 := ⟨km_PR_81, ks_PR_needWithin, kt_PR, kc_PR_needWithin, by decide, by decide⟩
theorem cw_PR_66 : gWS "PlaceRules" 66 y_PR_needLengths (.code y_PR_needLengths c_PR_needLengths 3 none) 3 := ⟨km_PR_66, ks_PR_needLengths, kt_PR, kc_PR_needLengths, by decide, by decide⟩
theorem cw_LW_88 : gWS "PlaceRulesLaw" 88 y_LW_limit (.codeWith y_LW_limit c_LW_limit 5 (some .int) [(0, 7, 10, 13)]) 4 := ⟨km_LW_88, ks_LW_limit, kt_LW, kc_LW_limit, by decide, by decide⟩
theorem cw_LW_15 : gWV "PlaceRulesLaw" 15 y_PR_limit (.code y_PR_limit c_PR_limit 4 none) 3 := ⟨km_LW_15, ki_PR_limit, ko_PR_limit, kt_PR, kc_PR_limit, by decide, by decide⟩
theorem cw_LW_92 : gWS "PlaceRulesLaw" 92 y_LW_unit (.codeWith y_LW_unit c_LW_unit 6 (some .int) [(0, 12, 15, 13), (0, 12, 19, 23)]) 5 := ⟨km_LW_92, ks_LW_unit, kt_LW, kc_LW_unit, by decide, by decide⟩
theorem cw_LW_19 : gWV "PlaceRulesLaw" 19 y_PR_unit (.code y_PR_unit c_PR_unit 5 (some .int)) 3 := ⟨km_LW_19, ki_PR_unit, ko_PR_unit, kt_PR, kc_PR_unit, by decide, by decide⟩
theorem cw_LW_96 : gWS "PlaceRulesLaw" 96 y_LW_size (.codeWith y_LW_size c_LW_size 7 (some .int) [(0, 11, 14, 29), (0, 11, 18, 13), (0, 11, 22, 31)]) 6 := ⟨km_LW_96, ks_LW_size, kt_LW, kc_LW_size, by decide, by decide⟩
theorem cw_LW_25 : gWV "PlaceRulesLaw" 25 y_PR_size (.code y_PR_size c_PR_size 7 none) 5 := ⟨km_LW_25, ki_PR_size, ko_PR_size, kt_PR, kc_PR_size, by decide, by decide⟩
theorem cw_PR_109 : gWV "PlaceRules" 109 y_PR_needUnit (.code y_PR_needUnit c_PR_needUnit 2 none) 1 := ⟨km_PR_109, ki_PR_needUnit, ko_PR_needUnit, kt_PR, kc_PR_needUnit, by decide, by decide⟩
theorem cw_PR_113 : gWV "PlaceRules" 113 y_PR_needNowhere (.code y_PR_needNowhere c_PR_needNowhere 2 none) 1 := ⟨km_PR_113, ki_PR_needNowhere, ko_PR_needNowhere, kt_PR, kc_PR_needNowhere, by decide, by decide⟩
theorem cw_LW_100 : gWS "PlaceRulesLaw" 100 y_LW_nature (.codeWith y_LW_nature c_LW_nature 6 (some .int) [(0, 9, 12, 29), (0, 9, 16, 13), (0, 9, 20, 31)]) 5 := ⟨km_LW_100, ks_LW_nature, kt_LW, kc_LW_nature, by decide, by decide⟩
theorem cw_LW_33 : gWV "PlaceRulesLaw" 33 y_PR_nature (.code y_PR_nature c_PR_nature 6 none) 4 := ⟨km_LW_33, ki_PR_nature, ko_PR_nature, kt_PR, kc_PR_nature, by decide, by decide⟩
theorem cw_LW_103 : gWS "PlaceRulesLaw" 103 y_LW_rule (.codeWith y_LW_rule c_LW_rule 7 (some .int) [(0, 14, 17, 13), (0, 14, 21, 23)]) 6 := ⟨km_LW_103, ks_LW_rule, kt_LW, kc_LW_rule, by decide, by decide⟩
theorem cw_LW_36 : gWV "PlaceRulesLaw" 36 y_PR_rule (.code y_PR_rule c_PR_rule 6 (some .int)) 4 := ⟨km_LW_36, ki_PR_rule, ko_PR_rule, kt_PR, kc_PR_rule, by decide, by decide⟩
theorem cw_PR_143 : gWV "PlaceRules" 143 y_KD_leastSecond (.code y_KD_leastSecond c_KD_leastSecond 1 (some .int)) 0 := ⟨km_PR_143, ki_KD_leastSecond, ko_KD_leastSecond, kt_KD, kc_KD_leastSecond, by decide, by decide⟩
theorem cw_PR_147 : gWV "PlaceRules" 147 y_KD_mostSecond (.code y_KD_mostSecond c_KD_mostSecond 1 (some .int)) 0 := ⟨km_PR_147, ki_KD_mostSecond, ko_KD_mostSecond, kt_KD, kc_KD_mostSecond, by decide, by decide⟩
theorem cw_LW_115 : gWS "PlaceRulesLaw" 115 y_LW_own (.codeWith y_LW_own c_LW_own 4 (some .int) [(0, 6, 9, 13)]) 3 := ⟨km_LW_115, ks_LW_own, kt_LW, kc_LW_own, by decide, by decide⟩
theorem cw_LW_40 : gWV "PlaceRulesLaw" 40 y_PR_own (.code y_PR_own c_PR_own 3 none) 2 := ⟨km_LW_40, ki_PR_own, ko_PR_own, kt_PR, kc_PR_own, by decide, by decide⟩
theorem cw_LW_119 : gWS "PlaceRulesLaw" 119 y_LW_except (.codeWith y_LW_except c_LW_except 6 (some .int) [(0, 9, 12, 29), (0, 9, 16, 13), (0, 9, 20, 23)]) 5 := ⟨km_LW_119, ks_LW_except, kt_LW, kc_LW_except, by decide, by decide⟩
theorem cw_LW_44 : gWV "PlaceRulesLaw" 44 y_PR_except (.code y_PR_except c_PR_except 7 none) 4 := ⟨km_LW_44, ki_PR_except, ko_PR_except, kt_PR, kc_PR_except, by decide, by decide⟩
theorem cw_PR_199 : gWV "PlaceRules" 199 y_PR_findWaiver (.code y_PR_findWaiver c_PR_findWaiver 6 (some .int)) 3 := ⟨km_PR_199, ki_PR_findWaiver, ko_PR_findWaiver, kt_PR, kc_PR_findWaiver, by decide, by decide⟩
theorem cw_PR_206 : gWS "PlaceRules" 206 y_java_lang_Math_max (.code y_java_lang_Math_max c_java_lang_Math_max 2 (some .int)) 2 := ⟨km_PR_206, ks_java_lang_Math_max, kt_java_lang_Math, kc_java_lang_Math_max, by decide, by decide⟩
theorem cw_LW_122 : gWS "PlaceRulesLaw" 122 y_LW_may (.codeWith y_LW_may c_LW_may 6 (some .int) [(0, 12, 15, 29), (0, 12, 19, 13)]) 5 := ⟨km_LW_122, ks_LW_may, kt_LW, kc_LW_may, by decide, by decide⟩
theorem cw_LW_47 : gWV "PlaceRulesLaw" 47 y_PR_may (.code y_PR_may c_PR_may 4 (some .int)) 3 := ⟨km_LW_47, ki_PR_may, ko_PR_may, kt_PR, kc_PR_may, by decide, by decide⟩
theorem cw_PR_224 : gWV "PlaceRules" 224 y_PR_needQuestion (.code y_PR_needQuestion c_PR_needQuestion 4 none) 3 := ⟨km_PR_224, ki_PR_needQuestion, ko_PR_needQuestion, kt_PR, kc_PR_needQuestion, by decide, by decide⟩
theorem cw_PR_227 : gWV "PlaceRules" 227 y_PR_ask (.code y_PR_ask c_PR_ask 8 (some .int)) 3 := ⟨km_PR_227, ki_PR_ask, ko_PR_ask, kt_PR, kc_PR_ask, by decide, by decide⟩
theorem cw_PR_266 : gWV "PlaceRules" 266 y_PR_gather (.code y_PR_gather c_PR_gather 5 none) 3 := ⟨km_PR_266, ki_PR_gather, ko_PR_gather, kt_PR, kc_PR_gather, by decide, by decide⟩
theorem cw_PR_287 : gWV "PlaceRules" 287 y_QU_begin (.code y_QU_begin c_QU_begin 4 none) 3 := ⟨km_PR_287, ki_QU_begin, ko_QU_begin, kt_QU, kc_QU_begin, by decide, by decide⟩
theorem cw_QU_31 : gWV "PlaceRules$Question" 31 y_PL_fits (.code y_PL_fits c_PL_fits 3 (some .boolean)) 2 := ⟨km_QU_31, ki_PL_fits, ko_PL_fits, kt_PL, kc_PL_fits, by decide, by decide⟩
theorem cw_PL_34 : gWV "PlaceRules$Place" 34 y_PL_holds (.code y_PL_holds c_PL_holds 4 (some .boolean)) 3 := ⟨km_PL_34, ki_PL_holds, ko_PL_holds, kt_PL, kc_PL_holds, by decide, by decide⟩
theorem cw_QU_41 : gWV "PlaceRules$Question" 41 y_PL_firstWayFor (.code y_PL_firstWayFor c_PL_firstWayFor 3 (some .int)) 1 := ⟨km_QU_41, ki_PL_firstWayFor, ko_PL_firstWayFor, kt_PL, kc_PL_firstWayFor, by decide, by decide⟩
theorem cw_PL_25 : gWV "PlaceRules$Place" 25 y_PL_fits (.code y_PL_fits c_PL_fits 3 (some .boolean)) 2 := ⟨km_PL_25, ki_PL_fits, ko_PL_fits, kt_PL, kc_PL_fits, by decide, by decide⟩
theorem cw_QU_90 : gWV "PlaceRules$Question" 90 y_NS_holdOnly (.code y_NS_holdOnly c_NS_holdOnly 2 none) 1 := ⟨km_QU_90, ki_NS_holdOnly, ko_NS_holdOnly, kt_NS, kc_NS_holdOnly, by decide, by decide⟩
theorem cw_NS_16 : gWV "PlaceRules$NumberSet" 16 y_NS_clear (.code y_NS_clear c_NS_clear 1 none) 0 := ⟨km_NS_16, ki_NS_clear, ko_NS_clear, kt_NS, kc_NS_clear, by decide, by decide⟩
theorem cw_NS_19 : gWV "PlaceRules$NumberSet" 19 y_NS_add (.code y_NS_add c_NS_add 2 none) 1 := ⟨km_NS_19, ki_NS_add, ko_NS_add, kt_NS, kc_NS_add, by decide, by decide⟩
theorem cw_QU_100 : gWV "PlaceRules$Question" 100 y_NS_clear (.code y_NS_clear c_NS_clear 1 none) 0 := ⟨km_QU_100, ki_NS_clear, ko_NS_clear, kt_NS, kc_NS_clear, by decide, by decide⟩
theorem cw_PR_291 : gWV "PlaceRules" 291 y_QU_addOther (.code y_QU_addOther c_QU_addOther 2 none) 1 := ⟨km_PR_291, ki_QU_addOther, ko_QU_addOther, kt_QU, kc_QU_addOther, by decide, by decide⟩
theorem cw_QU_103 : gWS "PlaceRules$Question" 103 y_java_lang_Math_min (.code y_java_lang_Math_min c_java_lang_Math_min 2 (some .int)) 2 := ⟨km_QU_103, ks_java_lang_Math_min, kt_java_lang_Math, kc_java_lang_Math_min, by decide, by decide⟩
theorem cw_QU_109 : gWS "PlaceRules$Question" 109 y_java_lang_Math_max (.code y_java_lang_Math_max c_java_lang_Math_max 2 (some .int)) 2 := ⟨km_QU_109, ks_java_lang_Math_max, kt_java_lang_Math, kc_java_lang_Math_max, by decide, by decide⟩
theorem cw_QU_112 : gWV "PlaceRules$Question" 112 y_NS_add (.code y_NS_add c_NS_add 2 none) 1 := ⟨km_QU_112, ki_NS_add, ko_NS_add, kt_NS, kc_NS_add, by decide, by decide⟩
theorem cw_PR_275 : gWV "PlaceRules" 275 y_PR_isWaived (.code y_PR_isWaived c_PR_isWaived 6 (some .boolean)) 4 := ⟨km_PR_275, ki_PR_isWaived, ko_PR_isWaived, kt_PR, kc_PR_isWaived, by decide, by decide⟩
theorem cw_PR_295 : gWV "PlaceRules" 295 y_WV_covers (.code y_WV_covers c_WV_covers 5 (some .boolean)) 4 := ⟨km_PR_295, ki_WV_covers, ko_WV_covers, kt_WV, kc_WV_covers, by decide, by decide⟩
theorem cw_PR_279 : gWV "PlaceRules" 279 y_RU_refuses (.code y_RU_refuses c_RU_refuses 3 (some .boolean)) 2 := ⟨km_PR_279, ki_RU_refuses, ko_RU_refuses, kt_RU, kc_RU_refuses, by decide, by decide⟩
theorem cw_RU_54 : gWV "PlaceRules$Rule" 54 y_NS_howMany (.code y_NS_howMany c_NS_howMany 1 (some .int)) 0 := ⟨km_RU_54, ki_NS_howMany, ko_NS_howMany, kt_NS, kc_NS_howMany, by decide, by decide⟩
theorem cw_NS_23 : gWS "PlaceRules$NumberSet" 23 y_java_lang_Long_bitCount (.code y_java_lang_Long_bitCount c_java_lang_Long_bitCount 2 (some .int)) 1 := ⟨km_NS_23, ks_java_lang_Long_bitCount, kt_java_lang_Long, kc_java_lang_Long_bitCount, by decide, by decide⟩
theorem cw_RU_68 : gWV "PlaceRules$Rule" 68 y_QU_meetsHazards (.code y_QU_meetsHazards c_QU_meetsHazards 3 (some .boolean)) 2 := ⟨km_RU_68, ki_QU_meetsHazards, ko_QU_meetsHazards, kt_QU, kc_QU_meetsHazards, by decide, by decide⟩
theorem cw_QU_115 : gWV "PlaceRules$Question" 115 y_NS_has (.code y_NS_has c_NS_has 4 (some .boolean)) 1 := ⟨km_QU_115, ki_NS_has, ko_NS_has, kt_NS, kc_NS_has, by decide, by decide⟩
theorem cw_RU_93 : gWV "PlaceRules$Rule" 93 y_OW_refuse (.code y_OW_refuse c_OW_refuse 3 (some .boolean)) 2 := ⟨km_RU_93, ki_OW_refuse, ko_OW_refuse, kt_OW, kc_OW_refuse, by decide, by decide⟩
theorem cw_LW_125 : gWS "PlaceRulesLaw" 125 y_LW_explain (.codeWith y_LW_explain c_LW_explain 4 (some .int) [(0, 9, 12, 13)]) 3 := ⟨km_LW_125, ks_LW_explain, kt_LW, kc_LW_explain, by decide, by decide⟩
theorem cw_LW_50 : gWV "PlaceRulesLaw" 50 y_PR_explain (.code y_PR_explain c_PR_explain 2 (some .int)) 1 := ⟨km_LW_50, ki_PR_explain, ko_PR_explain, kt_PR, kc_PR_explain, by decide, by decide⟩
theorem cw_PR_230 : gWS "PlaceRules" 230 y_PR_needIndex (.code y_PR_needIndex c_PR_needIndex 1 none) 1 := ⟨km_PR_230, ks_PR_needIndex, kt_PR, kc_PR_needIndex, by decide, by decide⟩
theorem cw_LW_129 : gWS "PlaceRulesLaw" 129 y_LW_put (.codeWith y_LW_put c_LW_put 6 (some .int) [(0, 12, 15, 29), (0, 12, 19, 13), (0, 12, 23, 31)]) 5 := ⟨km_LW_129, ks_LW_put, kt_LW, kc_LW_put, by decide, by decide⟩
theorem cw_LW_54 : gWV "PlaceRulesLaw" 54 y_PR_put (.code y_PR_put c_PR_put 5 (some .int)) 3 := ⟨km_LW_54, ki_PR_put, ko_PR_put, kt_PR, kc_PR_put, by decide, by decide⟩
theorem cw_LW_132 : gWS "PlaceRulesLaw" 132 y_LW_take (.codeWith y_LW_take c_LW_take 3 (some .int) [(0, 5, 8, 29), (0, 5, 11, 31)]) 2 := ⟨km_LW_132, ks_LW_take, kt_LW, kc_LW_take, by decide, by decide⟩
theorem cw_LW_57 : gWV "PlaceRulesLaw" 57 y_PR_take (.code y_PR_take c_PR_take 2 none) 1 := ⟨km_LW_57, ki_PR_take, ko_PR_take, kt_PR, kc_PR_take, by decide, by decide⟩
theorem cw_LW_136 : gWS "PlaceRulesLaw" 136 y_LW_turned (.codeWith y_LW_turned c_LW_turned 5 (some .int) [(0, 10, 13, 29), (0, 10, 17, 13)]) 4 := ⟨km_LW_136, ks_LW_turned, kt_LW, kc_LW_turned, by decide, by decide⟩
theorem cw_LW_61 : gWV "PlaceRulesLaw" 61 y_PR_turned (.code y_PR_turned c_PR_turned 3 (some .int)) 2 := ⟨km_LW_61, ki_PR_turned, ko_PR_turned, kt_PR, kc_PR_turned, by decide, by decide⟩
theorem cw_PR_244 : gWV "PlaceRules" 244 y_PL_firstWayFor (.code y_PL_firstWayFor c_PL_firstWayFor 3 (some .int)) 1 := ⟨km_PR_244, ki_PL_firstWayFor, ko_PL_firstWayFor, kt_PL, kc_PL_firstWayFor, by decide, by decide⟩
theorem cw_LW_140 : gWS "PlaceRulesLaw" 140 y_LW_never (.codeWith y_LW_never c_LW_never 4 (some .int) [(0, 9, 12, 13)]) 3 := ⟨km_LW_140, ks_LW_never, kt_LW, kc_LW_never, by decide, by decide⟩
theorem cw_LW_65 : gWV "PlaceRulesLaw" 65 y_PR_never (.code y_PR_never c_PR_never 2 (some .int)) 1 := ⟨km_LW_65, ki_PR_never, ko_PR_never, kt_PR, kc_PR_never, by decide, by decide⟩
theorem cw_PR_248 : gWV "PlaceRules" 248 y_RB_neverRefused (.code y_RB_neverRefused c_RB_neverRefused 4 (some .int)) 1 := ⟨km_PR_248, ki_RB_neverRefused, ko_RB_neverRefused, kt_RB, kc_RB_neverRefused, by decide, by decide⟩
theorem cw_LW_143 : gWS "PlaceRulesLaw" 143 y_LW_clash (.codeWith y_LW_clash c_LW_clash 5 (some .int) [(0, 10, 13, 13)]) 4 := ⟨km_LW_143, ks_LW_clash, kt_LW, kc_LW_clash, by decide, by decide⟩
theorem cw_LW_68 : gWV "PlaceRulesLaw" 68 y_PR_clash (.code y_PR_clash c_PR_clash 3 (some .int)) 2 := ⟨km_LW_68, ki_PR_clash, ko_PR_clash, kt_PR, kc_PR_clash, by decide, by decide⟩
theorem cw_LW_146 : gWS "PlaceRulesLaw" 146 y_LW_at (.codeWith y_LW_at c_LW_at 5 (some .int) [(0, 10, 13, 13)]) 4 := ⟨km_LW_146, ks_LW_at, kt_LW, kc_LW_at, by decide, by decide⟩
theorem cw_LW_71 : gWV "PlaceRulesLaw" 71 y_PR_at (.code y_PR_at c_PR_at 5 (some .int)) 2 := ⟨km_LW_71, ki_PR_at, ko_PR_at, kt_PR, kc_PR_at, by decide, by decide⟩
theorem cw_LW_84 : gWV "PlaceRulesLaw" 84 y_MD_thrown (.code y_MD_thrown c_MD_thrown 1 (some .int)) 0 := ⟨km_LW_84, ki_MD_thrown, ko_MD_thrown, kt_MD, kc_MD_thrown, by decide, by decide⟩
theorem cw_LW_83 : gWV "PlaceRulesLaw" 83 y_MD_place (.code y_MD_place c_MD_place 5 none) 4 := ⟨km_LW_83, ki_MD_place, ko_MD_place, kt_MD, kc_MD_place, by decide, by decide⟩
theorem cw_MD_71 : gWS "PlaceRulesModel" 71 y_MD_isPlace (.code y_MD_isPlace c_MD_isPlace 1 (some .boolean)) 1 := ⟨km_MD_71, ks_MD_isPlace, kt_MD, kc_MD_isPlace, by decide, by decide⟩
theorem cw_MD_67 : gWS "PlaceRulesModel" 67 y_MD_in (.code y_MD_in c_MD_in 3 (some .boolean)) 3 := ⟨km_MD_67, ks_MD_in, kt_MD, kc_MD_in, by decide, by decide⟩
theorem cw_MD_75 : gWS "PlaceRulesModel" 75 y_MD_isSize (.code y_MD_isSize c_MD_isSize 3 (some .boolean)) 3 := ⟨km_MD_75, ks_MD_isSize, kt_MD, kc_MD_isSize, by decide, by decide⟩
theorem cw_MD_78 : gWV "PlaceRulesModel" 78 y_MD_fails (.code y_MD_fails c_MD_fails 4 (some .boolean)) 3 := ⟨km_MD_78, ki_MD_fails, ko_MD_fails, kt_MD, kc_MD_fails, by decide, by decide⟩
theorem cw_LW_91 : gWV "PlaceRulesLaw" 91 y_MD_limit (.code y_MD_limit c_MD_limit 4 none) 3 := ⟨km_LW_91, ki_MD_limit, ko_MD_limit, kt_MD, kc_MD_limit, by decide, by decide⟩
theorem cw_LW_95 : gWV "PlaceRulesLaw" 95 y_MD_unit (.code y_MD_unit c_MD_unit 4 (some .int)) 3 := ⟨km_LW_95, ki_MD_unit, ko_MD_unit, kt_MD, kc_MD_unit, by decide, by decide⟩
theorem cw_MD_86 : gWV "PlaceRulesModel" 86 y_MD_lay (.code y_MD_lay c_MD_lay 6 none) 5 := ⟨km_MD_86, ki_MD_lay, ko_MD_lay, kt_MD, kc_MD_lay, by decide, by decide⟩
theorem cw_LW_99 : gWV "PlaceRulesLaw" 99 y_MD_size (.code y_MD_size c_MD_size 7 none) 5 := ⟨km_LW_99, ki_MD_size, ko_MD_size, kt_MD, kc_MD_size, by decide, by decide⟩
theorem cw_MD_91 : gWV "PlaceRulesModel" 91 y_MD_isUnit (.code y_MD_isUnit c_MD_isUnit 2 (some .boolean)) 1 := ⟨km_MD_91, ki_MD_isUnit, ko_MD_isUnit, kt_MD, kc_MD_isUnit, by decide, by decide⟩
theorem cw_LW_102 : gWV "PlaceRulesLaw" 102 y_MD_nature (.code y_MD_nature c_MD_nature 6 none) 4 := ⟨km_LW_102, ki_MD_nature, ko_MD_nature, kt_MD, kc_MD_nature, by decide, by decide⟩
theorem cw_LW_106 : gWV "PlaceRulesLaw" 106 y_MD_rule (.code y_MD_rule c_MD_rule 6 (some .int)) 4 := ⟨km_LW_106, ki_MD_rule, ko_MD_rule, kt_MD, kc_MD_rule, by decide, by decide⟩
theorem cw_MD_100 : gWS "PlaceRulesModel" 100 y_MD_isA (.code y_MD_isA c_MD_isA 2 (some .boolean)) 2 := ⟨km_MD_100, ks_MD_isA, kt_MD, kc_MD_isA, by decide, by decide⟩
theorem cw_MD_104 : gWS "PlaceRulesModel" 104 y_MD_isTwo (.code y_MD_isTwo c_MD_isTwo 1 (some .boolean)) 1 := ⟨km_MD_104, ks_MD_isTwo, kt_MD, kc_MD_isTwo, by decide, by decide⟩
theorem cw_MD_107 : gWV "PlaceRulesModel" 107 y_MD_comes (.code y_MD_comes c_MD_comes 6 none) 4 := ⟨km_MD_107, ki_MD_comes, ko_MD_comes, kt_MD, kc_MD_comes, by decide, by decide⟩
theorem cw_LW_110 : gWV "PlaceRulesLaw" 110 y_MD_sign (.code y_MD_sign c_MD_sign 2 (some .int)) 1 := ⟨km_LW_110, ki_MD_sign, ko_MD_sign, kt_MD, kc_MD_sign, by decide, by decide⟩
theorem cw_LW_114 : gWV "PlaceRulesLaw" 114 y_MD_read (.code y_MD_read c_MD_read 2 (some .int)) 0 := ⟨km_LW_114, ki_MD_read, ko_MD_read, kt_MD, kc_MD_read, by decide, by decide⟩
theorem cw_MD_124 : gWV "PlaceRulesModel" 124 y_MD_fault (.code y_MD_fault c_MD_fault 2 none) 1 := ⟨km_MD_124, ki_MD_fault, ko_MD_fault, kt_MD, kc_MD_fault, by decide, by decide⟩
theorem cw_MD_152 : gWV "PlaceRulesModel" 152 y_MD_line (.code y_MD_line c_MD_line 6 none) 1 := ⟨km_MD_152, ki_MD_line, ko_MD_line, kt_MD, kc_MD_line, by decide, by decide⟩
theorem cw_MD_143 : gWV "PlaceRulesModel" 143 y_MD_digits (.code y_MD_digits c_MD_digits 2 (some .int)) 0 := ⟨km_MD_143, ki_MD_digits, ko_MD_digits, kt_MD, kc_MD_digits, by decide, by decide⟩
theorem cw_MD_131 : gWV "PlaceRulesModel" 131 y_MD_isDigit (.code y_MD_isDigit c_MD_isDigit 1 (some .boolean)) 0 := ⟨km_MD_131, ki_MD_isDigit, ko_MD_isDigit, kt_MD, kc_MD_isDigit, by decide, by decide⟩
theorem cw_MD_120 : gWV "PlaceRulesModel" 120 y_MD_now (.code y_MD_now c_MD_now 1 (some .int)) 0 := ⟨km_MD_120, ki_MD_now, ko_MD_now, kt_MD, kc_MD_now, by decide, by decide⟩
theorem cw_MD_146 : gWV "PlaceRulesModel" 146 y_MD_pass (.code y_MD_pass c_MD_pass 2 none) 1 := ⟨km_MD_146, ki_MD_pass, ko_MD_pass, kt_MD, kc_MD_pass, by decide, by decide⟩
theorem cw_MD_149 : gWV "PlaceRulesModel" 149 y_MD_kind (.code y_MD_kind c_MD_kind 6 (some .int)) 0 := ⟨km_MD_149, ki_MD_kind, ko_MD_kind, kt_MD, kc_MD_kind, by decide, by decide⟩
theorem cw_MD_135 : gWV "PlaceRulesModel" 135 y_MD_match (.code y_MD_match c_MD_match 4 (some .int)) 2 := ⟨km_MD_135, ki_MD_match, ko_MD_match, kt_MD, kc_MD_match, by decide, by decide⟩
theorem cw_MD_139 : gWV "PlaceRulesModel" 139 y_MD_lengthOf (.code y_MD_lengthOf c_MD_lengthOf 3 (some .int)) 1 := ⟨km_MD_139, ki_MD_lengthOf, ko_MD_lengthOf, kt_MD, kc_MD_lengthOf, by decide, by decide⟩
theorem cw_LW_118 : gWV "PlaceRulesLaw" 118 y_MD_own (.code y_MD_own c_MD_own 3 none) 2 := ⟨km_LW_118, ki_MD_own, ko_MD_own, kt_MD, kc_MD_own, by decide, by decide⟩
theorem cw_LW_121 : gWV "PlaceRulesLaw" 121 y_MD_except (.code y_MD_except c_MD_except 7 none) 4 := ⟨km_LW_121, ki_MD_except, ko_MD_except, kt_MD, kc_MD_except, by decide, by decide⟩
theorem cw_LW_124 : gWV "PlaceRulesLaw" 124 y_MD_may (.code y_MD_may c_MD_may 4 (some .int)) 3 := ⟨km_LW_124, ki_MD_may, ko_MD_may, kt_MD, kc_MD_may, by decide, by decide⟩
theorem cw_MD_200 : gWV "PlaceRulesModel" 200 y_MD_ask (.code y_MD_ask c_MD_ask 6 (some .int)) 3 := ⟨km_MD_200, ki_MD_ask, ko_MD_ask, kt_MD, kc_MD_ask, by decide, by decide⟩
theorem cw_MD_193 : gWV "PlaceRulesModel" 193 y_MD_isExcepted (.code y_MD_isExcepted c_MD_isExcepted 9 (some .boolean)) 4 := ⟨km_MD_193, ki_MD_isExcepted, ko_MD_isExcepted, kt_MD, kc_MD_isExcepted, by decide, by decide⟩
theorem cw_MD_197 : gWV "PlaceRulesModel" 197 y_MD_refuses (.code y_MD_refuses c_MD_refuses 8 (some .boolean)) 4 := ⟨km_MD_197, ki_MD_refuses, ko_MD_refuses, kt_MD, kc_MD_refuses, by decide, by decide⟩
theorem cw_MD_171 : gWV "PlaceRulesModel" 171 y_MD_isSized (.code y_MD_isSized c_MD_isSized 6 (some .boolean)) 3 := ⟨km_MD_171, ki_MD_isSized, ko_MD_isSized, kt_MD, kc_MD_isSized, by decide, by decide⟩
theorem cw_MD_162 : gWV "PlaceRulesModel" 162 y_MD_fits (.code y_MD_fits c_MD_fits 9 (some .boolean)) 3 := ⟨km_MD_162, ki_MD_fits, ko_MD_fits, kt_MD, kc_MD_fits, by decide, by decide⟩
theorem cw_MD_168 : gWV "PlaceRulesModel" 168 y_MD_others (.code y_MD_others c_MD_others 5 (some .int)) 2 := ⟨km_MD_168, ki_MD_others, ko_MD_others, kt_MD, kc_MD_others, by decide, by decide⟩
theorem cw_MD_174 : gWV "PlaceRulesModel" 174 y_MD_unlike (.code y_MD_unlike c_MD_unlike 9 (some .int)) 3 := ⟨km_MD_174, ki_MD_unlike, ko_MD_unlike, kt_MD, kc_MD_unlike, by decide, by decide⟩
theorem cw_MD_159 : gWV "PlaceRulesModel" 159 y_MD_isThere (.code y_MD_isThere c_MD_isThere 4 (some .boolean)) 3 := ⟨km_MD_159, ki_MD_isThere, ko_MD_isThere, kt_MD, kc_MD_isThere, by decide, by decide⟩
theorem cw_MD_178 : gWV "PlaceRulesModel" 178 y_MD_meets (.code y_MD_meets c_MD_meets 6 (some .boolean)) 3 := ⟨km_MD_178, ki_MD_meets, ko_MD_meets, kt_MD, kc_MD_meets, by decide, by decide⟩
theorem cw_MD_181 : gWV "PlaceRulesModel" 181 y_MD_many (.code y_MD_many c_MD_many 5 (some .int)) 2 := ⟨km_MD_181, ki_MD_many, ko_MD_many, kt_MD, kc_MD_many, by decide, by decide⟩
theorem cw_MD_184 : gWV "PlaceRulesModel" 184 y_MD_span (.code y_MD_span c_MD_span 8 (some .int)) 2 := ⟨km_MD_184, ki_MD_span, ko_MD_span, kt_MD, kc_MD_span, by decide, by decide⟩
theorem cw_MD_187 : gWV "PlaceRulesModel" 187 y_MD_ownRefuses (.code y_MD_ownRefuses c_MD_ownRefuses 4 (some .boolean)) 3 := ⟨km_MD_187, ki_MD_ownRefuses, ko_MD_ownRefuses, kt_MD, kc_MD_ownRefuses, by decide, by decide⟩
theorem cw_LW_128 : gWV "PlaceRulesLaw" 128 y_MD_explain (.code y_MD_explain c_MD_explain 2 (some .int)) 1 := ⟨km_LW_128, ki_MD_explain, ko_MD_explain, kt_MD, kc_MD_explain, by decide, by decide⟩
theorem cw_LW_131 : gWV "PlaceRulesLaw" 131 y_MD_put (.code y_MD_put c_MD_put 6 (some .int)) 3 := ⟨km_LW_131, ki_MD_put, ko_MD_put, kt_MD, kc_MD_put, by decide, by decide⟩
theorem cw_LW_135 : gWV "PlaceRulesLaw" 135 y_MD_take (.code y_MD_take c_MD_take 2 none) 1 := ⟨km_LW_135, ki_MD_take, ko_MD_take, kt_MD, kc_MD_take, by decide, by decide⟩
theorem cw_LW_139 : gWV "PlaceRulesLaw" 139 y_MD_turned (.code y_MD_turned c_MD_turned 4 (some .int)) 2 := ⟨km_LW_139, ki_MD_turned, ko_MD_turned, kt_MD, kc_MD_turned, by decide, by decide⟩
theorem cw_LW_142 : gWV "PlaceRulesLaw" 142 y_MD_never (.code y_MD_never c_MD_never 4 (some .int)) 1 := ⟨km_LW_142, ki_MD_never, ko_MD_never, kt_MD, kc_MD_never, by decide, by decide⟩
theorem cw_LW_145 : gWV "PlaceRulesLaw" 145 y_MD_clash (.code y_MD_clash c_MD_clash 3 (some .int)) 2 := ⟨km_LW_145, ki_MD_clash, ko_MD_clash, kt_MD, kc_MD_clash, by decide, by decide⟩
theorem cw_LW_148 : gWV "PlaceRulesLaw" 148 y_MD_at (.code y_MD_at c_MD_at 5 (some .int)) 2 := ⟨km_LW_148, ki_MD_at, ko_MD_at, kt_MD, kc_MD_at, by decide, by decide⟩
theorem cw_LW_152 : gWV "PlaceRulesLaw" 152 y_MD_count (.code y_MD_count c_MD_count 2 (some .int)) 1 := ⟨km_LW_152, ki_MD_count, ko_MD_count, kt_MD, kc_MD_count, by decide, by decide⟩
end
section
/-! The checks of arguments: they come back, or throw, and change nothing. Written by wip/tools/m16.py. -/
def gwi (x lo hi : Int32) : Prop := ¬ x < lo ∧ ¬ hi < x
set_option maxHeartbeats 4000000 in
set_option maxRecDepth 100000 in
theorem k_PR_needWithin (l : Launch) (hst : l.stackTraces = false) (G : gP) (ad : Nat → Nat) (σ : Nat → Nat → Int32) (τ : Nat → Nat → Int64) (a b d : Int32) : gpu l y_PR_needWithin c_PR_needWithin 3 none { frames := 6, cells := 1, slots := 6, locals := 90 } G ad σ τ [.int a, .int b, .int d] 1 6 (fun v => v = none ∧ gwi a b d) (fun x => x = "java/lang/IllegalArgumentException" ∧ ¬ gwi a b d) := by
  refine gs_of (fun _ h => h.elim) (by decide) (Nat.le_of_ble_eq_true rfl) ?_
  intro p e s m args below meth c ls S hk hr hx hl hO
  have hl : lv_has ls 3 [(0, .int a), (1, .int b), (2, .int d)] := hl
  refine lv_iload_n S.1 S.2.1 d_PR_needWithin_0 rfl (lv_at hl 0 rfl) ?_
  refine lv_iload_n S.1 S.2.1 d_PR_needWithin_1 rfl (lv_at hl 1 rfl) ?_
  refine lv_icmp_lt (tgt := 10) S.1 S.2.1 d_PR_needWithin_2 (by decide) (fun c_2 => ?_) (fun c_2 => ?_)
  · skip
    exact g_throwW S hst hO xw_IAE (hO.2.2.2.2.2.2.2.2.1 9 (by decide)) hl.1 hx hk (Nat.le_of_ble_eq_true rfl) (Nat.le_of_ble_eq_true rfl) ⟨(Nat.le_of_ble_eq_true rfl), (Nat.le_of_ble_eq_true rfl)⟩ (Nat.le_of_ble_eq_true rfl) (Nat.le_of_ble_eq_true rfl) (fun t ht => ⟨rfl, by first | exact fun z => z.1 c_2 | exact fun z => z.2 (Int32.not_le.mp c_7)⟩) d_PR_needWithin_10 d_PR_needWithin_13 d_PR_needWithin_14 d_PR_needWithin_17 d_PR_needWithin_20
  · skip
    refine lv_iload_n S.1 S.2.1 d_PR_needWithin_5 rfl (lv_at hl 0 rfl) ?_
    refine lv_iload_n S.1 S.2.1 d_PR_needWithin_6 rfl (lv_at hl 2 rfl) ?_
    refine lv_icmp_le (tgt := 21) S.1 S.2.1 d_PR_needWithin_7 (by decide) (fun c_7 => ?_) (fun c_7 => ?_)
    · skip
      exact pu_v S hk hr hO ⟨rfl, c_2, Int32.not_lt.mpr c_7⟩ (Nat.le_of_ble_eq_true rfl) (Nat.le_of_ble_eq_true rfl) d_PR_needWithin_21
    · skip
      exact g_throwW S hst hO xw_IAE (hO.2.2.2.2.2.2.2.2.1 9 (by decide)) hl.1 hx hk (Nat.le_of_ble_eq_true rfl) (Nat.le_of_ble_eq_true rfl) ⟨(Nat.le_of_ble_eq_true rfl), (Nat.le_of_ble_eq_true rfl)⟩ (Nat.le_of_ble_eq_true rfl) (Nat.le_of_ble_eq_true rfl) (fun t ht => ⟨rfl, by first | exact fun z => z.1 c_2 | exact fun z => z.2 (Int32.not_le.mp c_7)⟩) d_PR_needWithin_10 d_PR_needWithin_13 d_PR_needWithin_14 d_PR_needWithin_17 d_PR_needWithin_20
set_option maxHeartbeats 4000000 in
set_option maxRecDepth 100000 in
theorem k_PR_needIndex (l : Launch) (hst : l.stackTraces = false) (G : gP) (ad : Nat → Nat) (σ : Nat → Nat → Int32) (τ : Nat → Nat → Int64) (a : Int32) : gpu l y_PR_needIndex c_PR_needIndex 1 none { frames := 6, cells := 1, slots := 6, locals := 90 } G ad σ τ [.int a] 1 6 (fun v => v = none ∧ ¬ a < 0) (fun x => x = "java/lang/IllegalArgumentException" ∧ a < 0) := by
  refine gs_of (fun _ h => h.elim) (by decide) (Nat.le_of_ble_eq_true rfl) ?_
  intro p e s m args below meth c ls S hk hr hx hl hO
  have hl : lv_has ls 1 [(0, .int a)] := hl
  refine lv_iload_n S.1 S.2.1 d_PR_needIndex_0 rfl (lv_at hl 0 rfl) ?_
  refine lv_if_ge (tgt := 15) S.1 S.2.1 d_PR_needIndex_1 (by decide) (fun c_1 => ?_) (fun c_1 => ?_)
  · skip
    exact pu_v S hk hr hO ⟨rfl, Int32.not_lt.mpr c_1⟩ (Nat.le_of_ble_eq_true rfl) (Nat.le_of_ble_eq_true rfl) d_PR_needIndex_15
  · skip
    exact g_throwW S hst hO xw_IAE (hO.2.2.2.2.2.2.2.2.1 8 (by decide)) hl.1 hx hk (Nat.le_of_ble_eq_true rfl) (Nat.le_of_ble_eq_true rfl) ⟨(Nat.le_of_ble_eq_true rfl), (Nat.le_of_ble_eq_true rfl)⟩ (Nat.le_of_ble_eq_true rfl) (Nat.le_of_ble_eq_true rfl) (fun t ht => ⟨rfl, Int32.not_le.mp c_1⟩) d_PR_needIndex_4 d_PR_needIndex_7 d_PR_needIndex_8 d_PR_needIndex_11 d_PR_needIndex_14
set_option maxHeartbeats 4000000 in
set_option maxRecDepth 100000 in
theorem k_PR_needPlace (l : Launch) (hst : l.stackTraces = false) (G : gP) (ad : Nat → Nat) (σ : Nat → Nat → Int32) (τ : Nat → Nat → Int64) (a : Int32) : gpu l y_PR_needPlace c_PR_needPlace 1 none { frames := 7, cells := 1, slots := 6, locals := 112 } G ad σ τ [.int a] 1 6 (fun v => v = none ∧ gwi a 0 11) (fun x => x = "java/lang/IllegalArgumentException" ∧ ¬ gwi a 0 11) := by
  refine gs_of (fun _ h => h.elim) (by decide) (Nat.le_of_ble_eq_true rfl) ?_
  intro p e s m args below meth c ls S hk hr hx hl hO
  have hl : lv_has ls 1 [(0, .int a)] := hl
  refine lv_iload_n S.1 S.2.1 d_PR_needPlace_0 rfl (lv_at hl 0 rfl) ?_
  refine lv_iconst (v := 0) S.1 S.2.1 d_PR_needPlace_1 (by decide) ?_
  refine lv_bipush (v := 11) S.1 S.2.1 d_PR_needPlace_2 (by decide) ?_
  refine g_SP (As := [.int a, .int 0, .int 11]) (rest := []) S hO (k_PR_needWithin l hst G ad σ τ a 0 11) cw_PR_81 g_cfC hl.1 (Nat.le_of_ble_eq_true rfl) ⟨(Nat.le_of_ble_eq_true rfl), (Nat.le_of_ble_eq_true rfl)⟩ ⟨(Nat.le_of_ble_eq_true rfl), (Nat.le_of_ble_eq_true rfl)⟩ d_PR_needPlace_4 (fun q x ce H h9 hO hce hcv hcl => pu_x hx hk hO hce hcv hcl h9 (Nat.le_of_ble_eq_true rfl) (Nat.le_of_ble_eq_true rfl)) (fun v H v_1 hO => ?_)
  obtain ⟨rfl, h_4⟩ := v_1
  refine W.eq (g2 := F0 m 7 ls []) rfl ?_
  exact pu_v S hk hr hO ⟨rfl, h_4⟩ (Nat.le_of_ble_eq_true rfl) (Nat.le_of_ble_eq_true rfl) d_PR_needPlace_7
set_option maxHeartbeats 4000000 in
set_option maxRecDepth 100000 in
theorem k_PR_needLengths (l : Launch) (hst : l.stackTraces = false) (G : gP) (ad : Nat → Nat) (σ : Nat → Nat → Int32) (τ : Nat → Nat → Int64) (a b d : Int32) : gpu l y_PR_needLengths c_PR_needLengths 3 none { frames := 7, cells := 3, slots := 18, locals := 112 } G ad σ τ [.int a, .int b, .int d] 3 18 (fun v => v = none ∧ gwi a 1 9999 ∧ gwi b 1 9999 ∧ gwi d 1 9999) (fun x => x = "java/lang/IllegalArgumentException" ∧ ¬ (gwi a 1 9999 ∧ gwi b 1 9999 ∧ gwi d 1 9999)) := by
  refine gs_of (fun _ h => h.elim) (by decide) (Nat.le_of_ble_eq_true rfl) ?_
  intro p e s m args below meth c ls S hk hr hx hl hO
  have hl : lv_has ls 3 [(0, .int a), (1, .int b), (2, .int d)] := hl
  refine lv_iload_n S.1 S.2.1 d_PR_needLengths_0 rfl (lv_at hl 0 rfl) ?_
  refine lv_iconst (v := 1) S.1 S.2.1 d_PR_needLengths_1 (by decide) ?_
  refine lv_sipush (v := 9999) S.1 S.2.1 d_PR_needLengths_2 (by decide) ?_
  refine g_SP (As := [.int a, .int 1, .int 9999]) (rest := []) S hO (k_PR_needWithin l hst G ad σ τ a 1 9999) cw_PR_81 g_cfC hl.1 (Nat.le_of_ble_eq_true rfl) ⟨(Nat.le_of_ble_eq_true rfl), (Nat.le_of_ble_eq_true rfl)⟩ ⟨(Nat.le_of_ble_eq_true rfl), (Nat.le_of_ble_eq_true rfl)⟩ d_PR_needLengths_5 (fun q x ce H h9 hO hce hcv hcl => pu_x hx hk hO hce hcv hcl (⟨h9.1, fun z => h9.2 z.1⟩) (Nat.le_of_ble_eq_true rfl) (Nat.le_of_ble_eq_true rfl)) (fun v H v_1 hO => ?_)
  obtain ⟨rfl, h_5⟩ := v_1
  refine W.eq (g2 := F0 m 8 ls []) rfl ?_
  refine lv_iload_n S.1 S.2.1 d_PR_needLengths_8 rfl (lv_at hl 1 rfl) ?_
  refine lv_iconst (v := 1) S.1 S.2.1 d_PR_needLengths_9 (by decide) ?_
  refine lv_sipush (v := 9999) S.1 S.2.1 d_PR_needLengths_10 (by decide) ?_
  refine g_SP (As := [.int b, .int 1, .int 9999]) (rest := []) S hO (k_PR_needWithin l hst G ad σ τ b 1 9999) cw_PR_81 g_cfC hl.1 (Nat.le_of_ble_eq_true rfl) ⟨(Nat.le_of_ble_eq_true rfl), (Nat.le_of_ble_eq_true rfl)⟩ ⟨(Nat.le_of_ble_eq_true rfl), (Nat.le_of_ble_eq_true rfl)⟩ d_PR_needLengths_13 (fun q x ce H h9 hO hce hcv hcl => pu_x hx hk hO hce hcv hcl (⟨h9.1, fun z => h9.2 z.2.1⟩) (Nat.le_of_ble_eq_true rfl) (Nat.le_of_ble_eq_true rfl)) (fun v H v_2 hO => ?_)
  obtain ⟨rfl, h_13⟩ := v_2
  refine W.eq (g2 := F0 m 16 ls []) rfl ?_
  refine lv_iload_n S.1 S.2.1 d_PR_needLengths_16 rfl (lv_at hl 2 rfl) ?_
  refine lv_iconst (v := 1) S.1 S.2.1 d_PR_needLengths_17 (by decide) ?_
  refine lv_sipush (v := 9999) S.1 S.2.1 d_PR_needLengths_18 (by decide) ?_
  refine g_SP (As := [.int d, .int 1, .int 9999]) (rest := []) S hO (k_PR_needWithin l hst G ad σ τ d 1 9999) cw_PR_81 g_cfC hl.1 (Nat.le_of_ble_eq_true rfl) ⟨(Nat.le_of_ble_eq_true rfl), (Nat.le_of_ble_eq_true rfl)⟩ ⟨(Nat.le_of_ble_eq_true rfl), (Nat.le_of_ble_eq_true rfl)⟩ d_PR_needLengths_21 (fun q x ce H h9 hO hce hcv hcl => pu_x hx hk hO hce hcv hcl (⟨h9.1, fun z => h9.2 z.2.2⟩) (Nat.le_of_ble_eq_true rfl) (Nat.le_of_ble_eq_true rfl)) (fun v H v_3 hO => ?_)
  obtain ⟨rfl, h_21⟩ := v_3
  refine W.eq (g2 := F0 m 24 ls []) rfl ?_
  exact pu_v S hk hr hO ⟨rfl, h_5, h_13, h_21⟩ (Nat.le_of_ble_eq_true rfl) (Nat.le_of_ble_eq_true rfl) d_PR_needLengths_24
set_option maxHeartbeats 4000000 in
set_option maxRecDepth 100000 in
theorem k_PR_needUnit (l : Launch) (hst : l.stackTraces = false) (G : gP) (ad : Nat → Nat) (σ : Nat → Nat → Int32) (τ : Nat → Nat → Int64) (a : Int32) : gpu l y_PR_needUnit c_PR_needUnit 2 none { frames := 6, cells := 1, slots := 6, locals := 90 } G ad σ τ [.ref (ad 0), .int a] 1 6 (fun v => v = none ∧ ¬ a < 0 ∧ a < σ 0 2) (fun x => x = "java/util/NoSuchElementException" ∧ ¬ (¬ a < 0 ∧ a < σ 0 2)) := by
  refine gs_of (fun _ h => h.elim) (by decide) (Nat.le_of_ble_eq_true rfl) ?_
  intro p e s m args below meth c ls S hk hr hx hl hO
  have hl : lv_has ls 2 [(0, .ref (ad 0)), (1, .int a)] := hl
  refine lv_iload_n S.1 S.2.1 d_PR_needUnit_0 rfl (lv_at hl 1 rfl) ?_
  refine lv_if_lt (tgt := 12) S.1 S.2.1 d_PR_needUnit_1 (by decide) (fun c_1 => ?_) (fun c_1 => ?_)
  · skip
    exact g_throwW S hst hO xw_NSE (hO.2.2.2.2.2.2.2.2.1 6 (by decide)) hl.1 hx hk (Nat.le_of_ble_eq_true rfl) (Nat.le_of_ble_eq_true rfl) ⟨(Nat.le_of_ble_eq_true rfl), (Nat.le_of_ble_eq_true rfl)⟩ (Nat.le_of_ble_eq_true rfl) (Nat.le_of_ble_eq_true rfl) (fun t ht => ⟨rfl, by first | exact fun z => z.1 c_1 | exact fun z => c_9 z.2⟩) d_PR_needUnit_12 d_PR_needUnit_15 d_PR_needUnit_16 d_PR_needUnit_19 d_PR_needUnit_22
  · skip
    refine lv_iload_n S.1 S.2.1 d_PR_needUnit_4 rfl (lv_at hl 1 rfl) ?_
    refine lv_aload_n S.1 S.2.1 d_PR_needUnit_5 rfl (lv_at hl 0 rfl) ?_
    refine g_get S hO fl_PR_90 (by decide) (sh_0 G ad _ _) (v := .int (σ 0 2)) rfl d_PR_needUnit_6 ?_
    refine lv_icmp_lt (tgt := 23) S.1 S.2.1 d_PR_needUnit_9 (by decide) (fun c_9 => ?_) (fun c_9 => ?_)
    · skip
      exact pu_v S hk hr hO ⟨rfl, c_1, c_9⟩ (Nat.le_of_ble_eq_true rfl) (Nat.le_of_ble_eq_true rfl) d_PR_needUnit_23
    · skip
      exact g_throwW S hst hO xw_NSE (hO.2.2.2.2.2.2.2.2.1 6 (by decide)) hl.1 hx hk (Nat.le_of_ble_eq_true rfl) (Nat.le_of_ble_eq_true rfl) ⟨(Nat.le_of_ble_eq_true rfl), (Nat.le_of_ble_eq_true rfl)⟩ (Nat.le_of_ble_eq_true rfl) (Nat.le_of_ble_eq_true rfl) (fun t ht => ⟨rfl, by first | exact fun z => z.1 c_1 | exact fun z => c_9 z.2⟩) d_PR_needUnit_12 d_PR_needUnit_15 d_PR_needUnit_16 d_PR_needUnit_19 d_PR_needUnit_22
set_option maxHeartbeats 4000000 in
set_option maxRecDepth 100000 in
theorem k_PR_needNowhere (l : Launch) (hst : l.stackTraces = false) (G : gP) (ad : Nat → Nat) (σ : Nat → Nat → Int32) (τ : Nat → Nat → Int64) (u : Nat) (h1 : u < 40) : gpu l y_PR_needNowhere c_PR_needNowhere 2 none { frames := 6, cells := 1, slots := 6, locals := 90 } G ad σ τ [.ref (ad 0), .int (nI u)] 1 6 (fun v => v = none ∧ σ (80 + u) 10 = (-1)) (fun x => x = "java/lang/IllegalStateException" ∧ ¬ σ (80 + u) 10 = (-1)) := by
  refine gs_of (fun _ h => h.elim) (by decide) (Nat.le_of_ble_eq_true rfl) ?_
  intro p e s m args below meth c ls S hk hr hx hl hO
  have hl : lv_has ls 2 [(0, .ref (ad 0)), (1, .int (nI u))] := hl
  refine lv_aload_n S.1 S.2.1 d_PR_needNowhere_0 rfl (lv_at hl 0 rfl) ?_
  refine g_get S hO fl_PR_17 (by decide) (sh_0 G ad _ _) (v := .ref (ad 2)) rfl d_PR_needNowhere_1 ?_
  refine lv_iload_n S.1 S.2.1 d_PR_needNowhere_4 rfl (lv_at hl 1 rfl) ?_
  refine g_aal S hO (t0 := 4) (by decide) (sh_2 G ad _ _) rfl (vp_in_nI h1 (by decide)) (v := .ref (ad (80 + u))) (by rw [nI_clamp (by omega)]; rfl) d_PR_needNowhere_5 ?_
  refine g_get S hO fl_PR_236 (by omega) (sh_UN G ad _ _ (by omega)) (v := .int (σ (80 + u) 10)) rfl d_PR_needNowhere_6 ?_
  refine lv_iconst (v := (-1)) S.1 S.2.1 d_PR_needNowhere_9 (by decide) ?_
  refine lv_icmp_eq (tgt := 24) S.1 S.2.1 d_PR_needNowhere_10 (by decide) (fun c_10 => ?_) (fun c_10 => ?_)
  · skip
    exact pu_v S hk hr hO ⟨rfl, c_10⟩ (Nat.le_of_ble_eq_true rfl) (Nat.le_of_ble_eq_true rfl) d_PR_needNowhere_24
  · skip
    exact g_throwW S hst hO xw_ISE (hO.2.2.2.2.2.2.2.2.1 7 (by decide)) hl.1 hx hk (Nat.le_of_ble_eq_true rfl) (Nat.le_of_ble_eq_true rfl) ⟨(Nat.le_of_ble_eq_true rfl), (Nat.le_of_ble_eq_true rfl)⟩ (Nat.le_of_ble_eq_true rfl) (Nat.le_of_ble_eq_true rfl) (fun t ht => ⟨rfl, c_10⟩) d_PR_needNowhere_13 d_PR_needNowhere_16 d_PR_needNowhere_17 d_PR_needNowhere_20 d_PR_needNowhere_23
set_option maxHeartbeats 4000000 in
set_option maxRecDepth 100000 in
theorem k_PR_needQuestion (l : Launch) (hst : l.stackTraces = false) (G : gP) (ad : Nat → Nat) (σ : Nat → Nat → Int32) (τ : Nat → Nat → Int64) (a b d : Int32) : gpu l y_PR_needQuestion c_PR_needQuestion 4 none { frames := 8, cells := 3, slots := 18, locals := 132 } G ad σ τ [.ref (ad 0), .int a, .int b, .int d] 3 18 (fun v => v = none ∧ (¬ a < 0 ∧ a < σ 0 2) ∧ gwi b 0 11 ∧ gwi d 0 1000) (fun x => (x = "java/util/NoSuchElementException" ∧ ¬ (¬ a < 0 ∧ a < σ 0 2)) ∨ ((¬ a < 0 ∧ a < σ 0 2) ∧ x = "java/lang/IllegalArgumentException" ∧ ¬ (gwi b 0 11 ∧ gwi d 0 1000))) := by
  refine gs_of (fun _ h => h.elim) (by decide) (Nat.le_of_ble_eq_true rfl) ?_
  intro p e s m args below meth c ls S hk hr hx hl hO
  have hl : lv_has ls 4 [(0, .ref (ad 0)), (1, .int a), (2, .int b), (3, .int d)] := hl
  refine lv_aload_n S.1 S.2.1 d_PR_needQuestion_0 rfl (lv_at hl 0 rfl) ?_
  refine lv_iload_n S.1 S.2.1 d_PR_needQuestion_1 rfl (lv_at hl 1 rfl) ?_
  refine g_VP (As := [.int a]) (rest := []) S hO (k_PR_needUnit l hst G ad σ τ a) cw_PR_109 (by decide) (sh_0 G ad _ _) rfl rfl hl.1 (Nat.le_of_ble_eq_true rfl) ⟨(Nat.le_of_ble_eq_true rfl), (Nat.le_of_ble_eq_true rfl)⟩ ⟨(Nat.le_of_ble_eq_true rfl), (Nat.le_of_ble_eq_true rfl)⟩ d_PR_needQuestion_2 (fun q x ce H h9 hO hce hcv hcl => pu_x hx hk hO hce hcv hcl (Or.inl h9) (Nat.le_of_ble_eq_true rfl) (Nat.le_of_ble_eq_true rfl)) (fun v H v_1 hO => ?_)
  obtain ⟨rfl, h_2⟩ := v_1
  refine W.eq (g2 := F0 m 5 ls []) rfl ?_
  refine lv_iload_n S.1 S.2.1 d_PR_needQuestion_5 rfl (lv_at hl 2 rfl) ?_
  refine g_SP (As := [.int b]) (rest := []) S hO (k_PR_needPlace l hst G ad σ τ b) cw_PR_62 g_cfC hl.1 (Nat.le_of_ble_eq_true rfl) ⟨(Nat.le_of_ble_eq_true rfl), (Nat.le_of_ble_eq_true rfl)⟩ ⟨(Nat.le_of_ble_eq_true rfl), (Nat.le_of_ble_eq_true rfl)⟩ d_PR_needQuestion_6 (fun q x ce H h9 hO hce hcv hcl => pu_x hx hk hO hce hcv hcl (Or.inr ⟨h_2, h9.1, fun z => h9.2 z.1⟩) (Nat.le_of_ble_eq_true rfl) (Nat.le_of_ble_eq_true rfl)) (fun v H v_2 hO => ?_)
  obtain ⟨rfl, h_6⟩ := v_2
  refine W.eq (g2 := F0 m 9 ls []) rfl ?_
  refine lv_iload_n S.1 S.2.1 d_PR_needQuestion_9 rfl (lv_at hl 3 rfl) ?_
  refine lv_iconst (v := 0) S.1 S.2.1 d_PR_needQuestion_10 (by decide) ?_
  refine lv_sipush (v := 1000) S.1 S.2.1 d_PR_needQuestion_11 (by decide) ?_
  refine g_SP (As := [.int d, .int 0, .int 1000]) (rest := []) S hO (k_PR_needWithin l hst G ad σ τ d 0 1000) cw_PR_81 g_cfC hl.1 (Nat.le_of_ble_eq_true rfl) ⟨(Nat.le_of_ble_eq_true rfl), (Nat.le_of_ble_eq_true rfl)⟩ ⟨(Nat.le_of_ble_eq_true rfl), (Nat.le_of_ble_eq_true rfl)⟩ d_PR_needQuestion_14 (fun q x ce H h9 hO hce hcv hcl => pu_x hx hk hO hce hcv hcl (Or.inr ⟨h_2, h9.1, fun z => h9.2 z.2⟩) (Nat.le_of_ble_eq_true rfl) (Nat.le_of_ble_eq_true rfl)) (fun v H v_3 hO => ?_)
  obtain ⟨rfl, h_14⟩ := v_3
  refine W.eq (g2 := F0 m 17 ls []) rfl ?_
  exact pu_v S hk hr hO ⟨rfl, h_2, h_6, h_14⟩ (Nat.le_of_ble_eq_true rfl) (Nat.le_of_ble_eq_true rfl) d_PR_needQuestion_17
end
section
/-! Public methods without loops. Written by wip/tools/m17.py. -/
theorem gwi_n {a M : Int32} {n : Nat} (hM : M.toInt = n) (h : gwi a 0 M) : ∃ u : Nat, u < n + 1 ∧ a = nI u := by
  obtain ⟨j, h1, h2⟩ := nI_of2 hM h.1 (Int32.not_lt.mp h.2)
  exact ⟨j, by omega, h2⟩
theorem uni_n {a x : Int32} {n : Nat} (hx : x = nI n) (hn : n < 2 ^ 31) (h : ¬ a < 0 ∧ a < x) : ∃ u : Nat, u < n ∧ a = nI u := by
  obtain ⟨j, h1, rfl⟩ := nI_of h.1
  rw [hx] at h
  exact ⟨j, (nI_ltI h1 hn).mp h.2, rfl⟩
theorem lt_nI {x M : Int32} {n N : Nat} (hx : x = nI n) (hM : M = nI N) (hn : n < 2 ^ 31) (hN : N < 2 ^ 31) (h : x < M) : n < N := by
  rw [hx, hM] at h
  exact (nI_ltI hn hN).mp h
set_option maxHeartbeats 4000000 in
set_option maxRecDepth 100000 in
theorem k_PR_place (l : Launch) (hst : l.stackTraces = false) (G : gP) (ad : Nat → Nat) (σ : Nat → Nat → Int32) (τ : Nat → Nat → Int64) (a b d f : Int32) : gim l y_PR_place c_PR_place 6 none { frames := 8, cells := 4, slots := 24, locals := 134 } G ad σ τ [.ref (ad 0), .int a, .int b, .int d, .int f] 4 24 (fun v σ1 τ1 => v = none ∧ (gwi a 0 11 ∧ gwi b 1 9999 ∧ gwi d 1 9999 ∧ gwi f 1 9999) ∧ σ1 = up2 (up2 (up2 σ (68 + a.toNatClampNeg) 0 b) (68 + a.toNatClampNeg) 1 d) (68 + a.toNatClampNeg) 2 f ∧ τ1 = τ) (fun x => x = "java/lang/IllegalArgumentException" ∧ ¬ (gwi a 0 11 ∧ gwi b 1 9999 ∧ gwi d 1 9999 ∧ gwi f 1 9999)) := by
  refine gs_of (fun _ h => h) (by decide) (Nat.le_of_ble_eq_true rfl) ?_
  intro p e s m args below meth c ls S hk hr hx hl hO
  have hl : lv_has ls 6 [(0, .ref (ad 0)), (1, .int a), (2, .int b), (3, .int d), (4, .int f)] := hl
  refine lv_iload_n S.1 S.2.1 d_PR_place_0 rfl (lv_at hl 1 rfl) ?_
  refine g_SP (As := [.int a]) (rest := []) S hO (k_PR_needPlace l hst G ad σ τ a) cw_PR_62 g_cfC hl.1 (Nat.le_of_ble_eq_true rfl) ⟨(Nat.le_of_ble_eq_true rfl), (Nat.le_of_ble_eq_true rfl)⟩ ⟨(Nat.le_of_ble_eq_true rfl), (Nat.le_of_ble_eq_true rfl)⟩ d_PR_place_1 (fun q x ce H h9 hO hce hcv hcl => im_x hx hk hO hce hcv hcl (⟨h9.1, fun z => h9.2 z.1⟩) (Nat.le_of_ble_eq_true rfl) (Nat.le_of_ble_eq_true rfl)) (fun v H v_1 hO => ?_)
  obtain ⟨rfl, h_1⟩ := v_1
  refine W.eq (g2 := F0 m 4 ls []) rfl ?_
  obtain ⟨u, hu, rfl⟩ := gwi_n (n := 11) (by decide) h_1
  refine lv_iload_n S.1 S.2.1 d_PR_place_4 rfl (lv_at hl 2 rfl) ?_
  refine lv_iload_n S.1 S.2.1 d_PR_place_5 rfl (lv_at hl 3 rfl) ?_
  refine lv_iload S.1 S.2.1 d_PR_place_6 (lv_at hl 4 rfl) ?_
  refine g_SP (As := [.int b, .int d, .int f]) (rest := []) S hO (k_PR_needLengths l hst G ad σ τ b d f) cw_PR_66 g_cfC hl.1 (Nat.le_of_ble_eq_true rfl) ⟨(Nat.le_of_ble_eq_true rfl), (Nat.le_of_ble_eq_true rfl)⟩ ⟨(Nat.le_of_ble_eq_true rfl), (Nat.le_of_ble_eq_true rfl)⟩ d_PR_place_8 (fun q x ce H h9 hO hce hcv hcl => im_x hx hk hO hce hcv hcl (⟨h9.1, fun z => h9.2 z.2⟩) (Nat.le_of_ble_eq_true rfl) (Nat.le_of_ble_eq_true rfl)) (fun v H v_2 hO => ?_)
  obtain ⟨rfl, h_8⟩ := v_2
  refine W.eq (g2 := F0 m 11 ls []) rfl ?_
  refine lv_aload_n S.1 S.2.1 d_PR_place_11 rfl (lv_at hl 0 rfl) ?_
  refine g_get S hO fl_PR_11 (by decide) (sh_0 G ad _ _) (v := .ref (ad 1)) rfl d_PR_place_12 ?_
  refine lv_iload_n S.1 S.2.1 d_PR_place_15 rfl (lv_at hl 1 rfl) ?_
  refine g_aal S hO (t0 := 3) (by decide) (sh_1 G ad _ _) rfl (vp_in_nI hu (by decide)) (v := .ref (ad (68 + u))) (by rw [nI_clamp (by omega)]; rfl) d_PR_place_16 ?_
  refine lv_astore (lv' := [(5, .ref (ad (68 + u))), (0, .ref (ad 0)), (1, .int (nI u)), (2, .int b), (3, .int d), (4, .int f)]) S.1 S.2.1 d_PR_place_17 hl (by decide) rfl (fun ls hl => ?_)
  refine lv_aload S.1 S.2.1 d_PR_place_19 (lv_at hl 0 rfl) ?_
  refine lv_iload_n S.1 S.2.1 d_PR_place_21 rfl (lv_at hl 3 rfl) ?_
  obtain ⟨s_3, hs_3⟩ : ∃ z : Nat → Nat → Int32, z = up2 σ (68 + u) 0 b := ⟨_, rfl⟩
  refine g_put S hO (fun _ h => h) fp_PR_70 (by omega) (sh_PL G ad _ _ (by omega)) (v := .int b) rfl rfl (Nat.le_of_ble_eq_true rfl) (E2 := enc G ad s_3 τ) (by rw [hs_3]; exact enc_i (sh_PL G ad _ _ (by omega))) d_PR_place_22 (fun H locs hO => ?_)
  refine lv_aload S.1 S.2.1 d_PR_place_25 (lv_at hl 0 rfl) ?_
  refine lv_iload_n S.1 S.2.1 d_PR_place_27 rfl (lv_at hl 4 rfl) ?_
  obtain ⟨s_4, hs_4⟩ : ∃ z : Nat → Nat → Int32, z = up2 s_3 (68 + u) 1 d := ⟨_, rfl⟩
  refine g_put S hO (fun _ h => h) fp_PR_74 (by omega) (sh_PL G ad _ _ (by omega)) (v := .int d) rfl rfl (Nat.le_of_ble_eq_true rfl) (E2 := enc G ad s_4 τ) (by rw [hs_4]; exact enc_i (sh_PL G ad _ _ (by omega))) d_PR_place_28 (fun H locs hO => ?_)
  refine lv_aload S.1 S.2.1 d_PR_place_31 (lv_at hl 0 rfl) ?_
  refine lv_iload S.1 S.2.1 d_PR_place_33 (lv_at hl 5 rfl) ?_
  obtain ⟨s_5, hs_5⟩ : ∃ z : Nat → Nat → Int32, z = up2 s_4 (68 + u) 2 f := ⟨_, rfl⟩
  refine g_put S hO (fun _ h => h) fp_PR_77 (by omega) (sh_PL G ad _ _ (by omega)) (v := .int f) rfl rfl (Nat.le_of_ble_eq_true rfl) (E2 := enc G ad s_5 τ) (by rw [hs_5]; exact enc_i (sh_PL G ad _ _ (by omega))) d_PR_place_35 (fun H locs hO => ?_)
  subst hs_5
  subst hs_4
  subst hs_3
  exact im_v S hk hr hO ⟨rfl, ⟨h_1, h_8⟩, by rw [nI_clamp (by omega)], rfl⟩ (Nat.le_of_ble_eq_true rfl) (Nat.le_of_ble_eq_true rfl) d_PR_place_38
set_option maxHeartbeats 4000000 in
set_option maxRecDepth 100000 in
theorem k_PR_limit (l : Launch) (hst : l.stackTraces = false) (G : gP) (ad : Nat → Nat) (σ : Nat → Nat → Int32) (τ : Nat → Nat → Int64) (a b d : Int32) : gim l y_PR_limit c_PR_limit 4 none { frames := 8, cells := 3, slots := 18, locals := 132 } G ad σ τ [.ref (ad 0), .int a, .int b, .int d] 3 18 (fun v σ1 τ1 => v = none ∧ (gwi a 0 11 ∧ gwi b 0 10000000 ∧ gwi d 0 7) ∧ σ1 = up2 (up2 σ (68 + a.toNatClampNeg) 3 b) (68 + a.toNatClampNeg) 4 d ∧ τ1 = τ) (fun x => x = "java/lang/IllegalArgumentException" ∧ ¬ (gwi a 0 11 ∧ gwi b 0 10000000 ∧ gwi d 0 7)) := by
  refine gs_of (fun _ h => h) (by decide) (Nat.le_of_ble_eq_true rfl) ?_
  intro p e s m args below meth c ls S hk hr hx hl hO
  have hl : lv_has ls 4 [(0, .ref (ad 0)), (1, .int a), (2, .int b), (3, .int d)] := hl
  refine lv_iload_n S.1 S.2.1 d_PR_limit_0 rfl (lv_at hl 1 rfl) ?_
  refine g_SP (As := [.int a]) (rest := []) S hO (k_PR_needPlace l hst G ad σ τ a) cw_PR_62 g_cfC hl.1 (Nat.le_of_ble_eq_true rfl) ⟨(Nat.le_of_ble_eq_true rfl), (Nat.le_of_ble_eq_true rfl)⟩ ⟨(Nat.le_of_ble_eq_true rfl), (Nat.le_of_ble_eq_true rfl)⟩ d_PR_limit_1 (fun q x ce H h9 hO hce hcv hcl => im_x hx hk hO hce hcv hcl (⟨h9.1, fun z => h9.2 z.1⟩) (Nat.le_of_ble_eq_true rfl) (Nat.le_of_ble_eq_true rfl)) (fun v H v_1 hO => ?_)
  obtain ⟨rfl, h_1⟩ := v_1
  refine W.eq (g2 := F0 m 4 ls []) rfl ?_
  obtain ⟨u, hu, rfl⟩ := gwi_n (n := 11) (by decide) h_1
  refine lv_iload_n S.1 S.2.1 d_PR_limit_4 rfl (lv_at hl 2 rfl) ?_
  refine lv_iconst (v := 0) S.1 S.2.1 d_PR_limit_5 (by decide) ?_
  refine lv_ldc (v := 10000000) S.1 S.2.1 S.2.2.2.1 (S.2.2.2.2 _ kv_PR_80) d_PR_limit_6 ?_
  refine g_SP (As := [.int b, .int 0, .int 10000000]) (rest := []) S hO (k_PR_needWithin l hst G ad σ τ b 0 10000000) cw_PR_81 g_cfC hl.1 (Nat.le_of_ble_eq_true rfl) ⟨(Nat.le_of_ble_eq_true rfl), (Nat.le_of_ble_eq_true rfl)⟩ ⟨(Nat.le_of_ble_eq_true rfl), (Nat.le_of_ble_eq_true rfl)⟩ d_PR_limit_8 (fun q x ce H h9 hO hce hcv hcl => im_x hx hk hO hce hcv hcl (⟨h9.1, fun z => h9.2 z.2.1⟩) (Nat.le_of_ble_eq_true rfl) (Nat.le_of_ble_eq_true rfl)) (fun v H v_2 hO => ?_)
  obtain ⟨rfl, h_8⟩ := v_2
  refine W.eq (g2 := F0 m 11 ls []) rfl ?_
  refine lv_iload_n S.1 S.2.1 d_PR_limit_11 rfl (lv_at hl 3 rfl) ?_
  refine lv_iconst (v := 0) S.1 S.2.1 d_PR_limit_12 (by decide) ?_
  refine lv_bipush (v := 7) S.1 S.2.1 d_PR_limit_13 (by decide) ?_
  refine g_SP (As := [.int d, .int 0, .int 7]) (rest := []) S hO (k_PR_needWithin l hst G ad σ τ d 0 7) cw_PR_81 g_cfC hl.1 (Nat.le_of_ble_eq_true rfl) ⟨(Nat.le_of_ble_eq_true rfl), (Nat.le_of_ble_eq_true rfl)⟩ ⟨(Nat.le_of_ble_eq_true rfl), (Nat.le_of_ble_eq_true rfl)⟩ d_PR_limit_15 (fun q x ce H h9 hO hce hcv hcl => im_x hx hk hO hce hcv hcl (⟨h9.1, fun z => h9.2 z.2.2⟩) (Nat.le_of_ble_eq_true rfl) (Nat.le_of_ble_eq_true rfl)) (fun v H v_3 hO => ?_)
  obtain ⟨rfl, h_15⟩ := v_3
  refine W.eq (g2 := F0 m 18 ls []) rfl ?_
  refine lv_aload_n S.1 S.2.1 d_PR_limit_18 rfl (lv_at hl 0 rfl) ?_
  refine g_get S hO fl_PR_11 (by decide) (sh_0 G ad _ _) (v := .ref (ad 1)) rfl d_PR_limit_19 ?_
  refine lv_iload_n S.1 S.2.1 d_PR_limit_22 rfl (lv_at hl 1 rfl) ?_
  refine g_aal S hO (t0 := 3) (by decide) (sh_1 G ad _ _) rfl (vp_in_nI hu (by decide)) (v := .ref (ad (68 + u))) (by rw [nI_clamp (by omega)]; rfl) d_PR_limit_23 ?_
  refine lv_iload_n S.1 S.2.1 d_PR_limit_24 rfl (lv_at hl 2 rfl) ?_
  obtain ⟨s_4, hs_4⟩ : ∃ z : Nat → Nat → Int32, z = up2 σ (68 + u) 3 b := ⟨_, rfl⟩
  refine g_put S hO (fun _ h => h) fp_PR_84 (by omega) (sh_PL G ad _ _ (by omega)) (v := .int b) rfl rfl (Nat.le_of_ble_eq_true rfl) (E2 := enc G ad s_4 τ) (by rw [hs_4]; exact enc_i (sh_PL G ad _ _ (by omega))) d_PR_limit_25 (fun H locs hO => ?_)
  refine lv_aload_n S.1 S.2.1 d_PR_limit_28 rfl (lv_at hl 0 rfl) ?_
  refine g_get S hO fl_PR_11 (by decide) (sh_0 G ad _ _) (v := .ref (ad 1)) rfl d_PR_limit_29 ?_
  refine lv_iload_n S.1 S.2.1 d_PR_limit_32 rfl (lv_at hl 1 rfl) ?_
  refine g_aal S hO (t0 := 3) (by decide) (sh_1 G ad _ _) rfl (vp_in_nI hu (by decide)) (v := .ref (ad (68 + u))) (by rw [nI_clamp (by omega)]; rfl) d_PR_limit_33 ?_
  refine lv_iload_n S.1 S.2.1 d_PR_limit_34 rfl (lv_at hl 3 rfl) ?_
  obtain ⟨s_5, hs_5⟩ : ∃ z : Nat → Nat → Int32, z = up2 s_4 (68 + u) 4 d := ⟨_, rfl⟩
  refine g_put S hO (fun _ h => h) fp_PR_87 (by omega) (sh_PL G ad _ _ (by omega)) (v := .int d) rfl rfl (Nat.le_of_ble_eq_true rfl) (E2 := enc G ad s_5 τ) (by rw [hs_5]; exact enc_i (sh_PL G ad _ _ (by omega))) d_PR_limit_35 (fun H locs hO => ?_)
  subst hs_5
  subst hs_4
  exact im_v S hk hr hO ⟨rfl, ⟨h_1, h_8, h_15⟩, by rw [nI_clamp (by omega)], rfl⟩ (Nat.le_of_ble_eq_true rfl) (Nat.le_of_ble_eq_true rfl) d_PR_limit_38
set_option maxHeartbeats 4000000 in
set_option maxRecDepth 100000 in
theorem k_PR_unit (l : Launch) (hst : l.stackTraces = false) (G : gP) (ad : Nat → Nat) (σ : Nat → Nat → Int32) (τ : Nat → Nat → Int64) (a b d : Int32) (nu : Nat) (hnu : σ 0 2 = nI nu) (hn4 : nu ≤ 40) : gim l y_PR_unit c_PR_unit 5 (some .int) { frames := 7, cells := 4, slots := 24, locals := 112 } G ad σ τ [.ref (ad 0), .int a, .int b, .int d] 4 24 (fun v σ1 τ1 => v = some (.int (σ1 0 2 - 1)) ∧ (gwi a 0 99 ∧ gwi b 0 99 ∧ gwi d 0 7) ∧ σ 0 2 < 40 ∧ σ1 = up2 (up2 (up2 (up2 σ (80 + nu) 0 a) (80 + nu) 1 b) (80 + nu) 2 d) 0 2 ((up2 (up2 (up2 σ (80 + nu) 0 a) (80 + nu) 1 b) (80 + nu) 2 d) 0 2 + 1) ∧ τ1 = τ) (fun x => (x = "java/lang/IllegalArgumentException" ∧ ¬ (gwi a 0 99 ∧ gwi b 0 99 ∧ gwi d 0 7)) ∨ ((gwi a 0 99 ∧ gwi b 0 99 ∧ gwi d 0 7) ∧ x = "java/lang/UnsupportedOperationException" ∧ ¬ σ 0 2 < 40)) := by
  refine gs_of (fun _ h => h) (by decide) (Nat.le_of_ble_eq_true rfl) ?_
  intro p e s m args below meth c ls S hk hr hx hl hO
  have hl : lv_has ls 5 [(0, .ref (ad 0)), (1, .int a), (2, .int b), (3, .int d)] := hl
  refine lv_iload_n S.1 S.2.1 d_PR_unit_0 rfl (lv_at hl 1 rfl) ?_
  refine lv_iconst (v := 0) S.1 S.2.1 d_PR_unit_1 (by decide) ?_
  refine lv_bipush (v := 99) S.1 S.2.1 d_PR_unit_2 (by decide) ?_
  refine g_SP (As := [.int a, .int 0, .int 99]) (rest := []) S hO (k_PR_needWithin l hst G ad σ τ a 0 99) cw_PR_81 g_cfC hl.1 (Nat.le_of_ble_eq_true rfl) ⟨(Nat.le_of_ble_eq_true rfl), (Nat.le_of_ble_eq_true rfl)⟩ ⟨(Nat.le_of_ble_eq_true rfl), (Nat.le_of_ble_eq_true rfl)⟩ d_PR_unit_4 (fun q x ce H h9 hO hce hcv hcl => im_x hx hk hO hce hcv hcl (Or.inl ⟨h9.1, fun z => h9.2 z.1⟩) (Nat.le_of_ble_eq_true rfl) (Nat.le_of_ble_eq_true rfl)) (fun v H v_1 hO => ?_)
  obtain ⟨rfl, h_4⟩ := v_1
  refine W.eq (g2 := F0 m 7 ls []) rfl ?_
  refine lv_iload_n S.1 S.2.1 d_PR_unit_7 rfl (lv_at hl 2 rfl) ?_
  refine lv_iconst (v := 0) S.1 S.2.1 d_PR_unit_8 (by decide) ?_
  refine lv_bipush (v := 99) S.1 S.2.1 d_PR_unit_9 (by decide) ?_
  refine g_SP (As := [.int b, .int 0, .int 99]) (rest := []) S hO (k_PR_needWithin l hst G ad σ τ b 0 99) cw_PR_81 g_cfC hl.1 (Nat.le_of_ble_eq_true rfl) ⟨(Nat.le_of_ble_eq_true rfl), (Nat.le_of_ble_eq_true rfl)⟩ ⟨(Nat.le_of_ble_eq_true rfl), (Nat.le_of_ble_eq_true rfl)⟩ d_PR_unit_11 (fun q x ce H h9 hO hce hcv hcl => im_x hx hk hO hce hcv hcl (Or.inl ⟨h9.1, fun z => h9.2 z.2.1⟩) (Nat.le_of_ble_eq_true rfl) (Nat.le_of_ble_eq_true rfl)) (fun v H v_2 hO => ?_)
  obtain ⟨rfl, h_11⟩ := v_2
  refine W.eq (g2 := F0 m 14 ls []) rfl ?_
  refine lv_iload_n S.1 S.2.1 d_PR_unit_14 rfl (lv_at hl 3 rfl) ?_
  refine lv_iconst (v := 0) S.1 S.2.1 d_PR_unit_15 (by decide) ?_
  refine lv_bipush (v := 7) S.1 S.2.1 d_PR_unit_16 (by decide) ?_
  refine g_SP (As := [.int d, .int 0, .int 7]) (rest := []) S hO (k_PR_needWithin l hst G ad σ τ d 0 7) cw_PR_81 g_cfC hl.1 (Nat.le_of_ble_eq_true rfl) ⟨(Nat.le_of_ble_eq_true rfl), (Nat.le_of_ble_eq_true rfl)⟩ ⟨(Nat.le_of_ble_eq_true rfl), (Nat.le_of_ble_eq_true rfl)⟩ d_PR_unit_18 (fun q x ce H h9 hO hce hcv hcl => im_x hx hk hO hce hcv hcl (Or.inl ⟨h9.1, fun z => h9.2 z.2.2⟩) (Nat.le_of_ble_eq_true rfl) (Nat.le_of_ble_eq_true rfl)) (fun v H v_3 hO => ?_)
  obtain ⟨rfl, h_18⟩ := v_3
  refine W.eq (g2 := F0 m 21 ls []) rfl ?_
  refine lv_aload_n S.1 S.2.1 d_PR_unit_21 rfl (lv_at hl 0 rfl) ?_
  refine g_get S hO fl_PR_90 (by decide) (sh_0 G ad _ _) (v := .int (σ 0 2)) rfl d_PR_unit_22 ?_
  refine lv_bipush (v := 40) S.1 S.2.1 d_PR_unit_25 (by decide) ?_
  refine lv_icmp_lt (tgt := 40) S.1 S.2.1 d_PR_unit_27 (by decide) (fun c_27 => ?_) (fun c_27 => ?_)
  · skip
    have hu : nu < 40 := lt_nI hnu (by decide) (by omega) (by decide) c_27
    refine lv_aload_n S.1 S.2.1 d_PR_unit_40 rfl (lv_at hl 0 rfl) ?_
    refine g_get S hO fl_PR_17 (by decide) (sh_0 G ad _ _) (v := .ref (ad 2)) rfl d_PR_unit_41 ?_
    refine lv_aload_n S.1 S.2.1 d_PR_unit_44 rfl (lv_at hl 0 rfl) ?_
    refine g_get S hO fl_PR_90 (by decide) (sh_0 G ad _ _) (v := .int (σ 0 2)) rfl d_PR_unit_45 ?_
    refine g_aal S hO (t0 := 4) (by decide) (sh_2 G ad _ _) rfl (by rw [hnu]; exact vp_in_nI hu (by decide)) (v := .ref (ad (80 + nu))) (by rw [hnu, nI_clamp (by omega)]; rfl) d_PR_unit_48 ?_
    refine lv_astore (lv' := [(4, .ref (ad (80 + nu))), (0, .ref (ad 0)), (1, .int a), (2, .int b), (3, .int d)]) S.1 S.2.1 d_PR_unit_49 hl (by decide) rfl (fun ls hl => ?_)
    refine lv_aload S.1 S.2.1 d_PR_unit_51 (lv_at hl 0 rfl) ?_
    refine lv_iload_n S.1 S.2.1 d_PR_unit_53 rfl (lv_at hl 2 rfl) ?_
    obtain ⟨s_4, hs_4⟩ : ∃ z : Nat → Nat → Int32, z = up2 σ (80 + nu) 0 a := ⟨_, rfl⟩
    refine g_put S hO (fun _ h => h) fp_PR_100 (by omega) (sh_UN G ad _ _ (by omega)) (v := .int a) rfl rfl (Nat.le_of_ble_eq_true rfl) (E2 := enc G ad s_4 τ) (by rw [hs_4]; exact enc_i (sh_UN G ad _ _ (by omega))) d_PR_unit_54 (fun H locs hO => ?_)
    refine lv_aload S.1 S.2.1 d_PR_unit_57 (lv_at hl 0 rfl) ?_
    refine lv_iload_n S.1 S.2.1 d_PR_unit_59 rfl (lv_at hl 3 rfl) ?_
    obtain ⟨s_5, hs_5⟩ : ∃ z : Nat → Nat → Int32, z = up2 s_4 (80 + nu) 1 b := ⟨_, rfl⟩
    refine g_put S hO (fun _ h => h) fp_PR_103 (by omega) (sh_UN G ad _ _ (by omega)) (v := .int b) rfl rfl (Nat.le_of_ble_eq_true rfl) (E2 := enc G ad s_5 τ) (by rw [hs_5]; exact enc_i (sh_UN G ad _ _ (by omega))) d_PR_unit_60 (fun H locs hO => ?_)
    refine lv_aload S.1 S.2.1 d_PR_unit_63 (lv_at hl 0 rfl) ?_
    refine lv_iload_n S.1 S.2.1 d_PR_unit_65 rfl (lv_at hl 4 rfl) ?_
    obtain ⟨s_6, hs_6⟩ : ∃ z : Nat → Nat → Int32, z = up2 s_5 (80 + nu) 2 d := ⟨_, rfl⟩
    refine g_put S hO (fun _ h => h) fp_PR_106 (by omega) (sh_UN G ad _ _ (by omega)) (v := .int d) rfl rfl (Nat.le_of_ble_eq_true rfl) (E2 := enc G ad s_6 τ) (by rw [hs_6]; exact enc_i (sh_UN G ad _ _ (by omega))) d_PR_unit_66 (fun H locs hO => ?_)
    refine lv_aload_n S.1 S.2.1 d_PR_unit_69 rfl (lv_at hl 1 rfl) ?_
    refine lv_dup S.1 S.2.1 d_PR_unit_70 rfl ?_
    refine g_get S hO fl_PR_90 (by decide) (sh_0 G ad _ _) (v := .int (s_6 0 2)) rfl d_PR_unit_71 ?_
    refine lv_iconst (v := 1) S.1 S.2.1 d_PR_unit_74 (by decide) ?_
    refine lv_iadd S.1 S.2.1 d_PR_unit_75 ?_
    obtain ⟨s_7, hs_7⟩ : ∃ z : Nat → Nat → Int32, z = up2 s_6 0 2 ((s_6 0 2) + 1) := ⟨_, rfl⟩
    refine g_put S hO (fun _ h => h) fp_PR_90 (by decide) (sh_0 G ad _ _) (v := .int ((s_6 0 2) + 1)) rfl rfl (Nat.le_of_ble_eq_true rfl) (E2 := enc G ad s_7 τ) (by rw [hs_7]; exact enc_i (sh_0 G ad _ _)) d_PR_unit_76 (fun H locs hO => ?_)
    refine lv_aload_n S.1 S.2.1 d_PR_unit_79 rfl (lv_at hl 1 rfl) ?_
    refine g_get S hO fl_PR_90 (by decide) (sh_0 G ad _ _) (v := .int (s_7 0 2)) rfl d_PR_unit_80 ?_
    refine lv_iconst (v := 1) S.1 S.2.1 d_PR_unit_83 (by decide) ?_
    refine lv_isub S.1 S.2.1 d_PR_unit_84 ?_
    subst hs_7
    subst hs_6
    subst hs_5
    subst hs_4
    exact im_i S hk hr hO ⟨rfl, ⟨h_4, h_11, h_18⟩, c_27, rfl, rfl⟩ (Nat.le_of_ble_eq_true rfl) (Nat.le_of_ble_eq_true rfl) d_PR_unit_85
  · skip
    exact g_throwN S hst hO xw_UOE (hO.2.2.2.2.2.2.2.2.1 0 (by decide)) hl.1 hx hk (Nat.le_of_ble_eq_true rfl) (Nat.le_of_ble_eq_true rfl) ⟨(Nat.le_of_ble_eq_true rfl), (Nat.le_of_ble_eq_true rfl)⟩ (Nat.le_of_ble_eq_true rfl) (Nat.le_of_ble_eq_true rfl) (fun t ht => ⟨Or.inr ⟨⟨h_4, h_11, h_18⟩, rfl, c_27⟩, hO.2.1.kept (fun k q hk => ht q.1 ((hO.2.1 k q hk).lt))⟩) d_PR_unit_30 d_PR_unit_33 d_PR_unit_34 d_PR_unit_36 d_PR_unit_39
set_option maxHeartbeats 4000000 in
set_option maxRecDepth 100000 in
theorem k_PR_size (l : Launch) (hst : l.stackTraces = false) (G : gP) (ad : Nat → Nat) (σ : Nat → Nat → Int32) (τ : Nat → Nat → Int64) (a b d f g : Int32) (nu : Nat) (hnu : σ 0 2 = nI nu) (hn4 : nu ≤ 40) : gim l y_PR_size c_PR_size 7 none { frames := 8, cells := 6, slots := 36, locals := 134 } G ad σ τ [.ref (ad 0), .int a, .int b, .int d, .int f, .int g] 6 36 (fun v σ1 τ1 => v = none ∧ (¬ a < 0 ∧ a < σ 0 2) ∧ (gwi b 1 9999 ∧ gwi d 1 9999 ∧ gwi f 1 9999 ∧ gwi g 1 1000000) ∧ σ (80 + a.toNatClampNeg) 10 = (-1) ∧ σ1 = up2 (up2 (up2 (up2 σ (80 + a.toNatClampNeg) 3 b) (80 + a.toNatClampNeg) 4 d) (80 + a.toNatClampNeg) 5 f) (80 + a.toNatClampNeg) 6 g ∧ τ1 = τ) (fun x => (x = "java/util/NoSuchElementException" ∧ ¬ (¬ a < 0 ∧ a < σ 0 2)) ∨ ((¬ a < 0 ∧ a < σ 0 2) ∧ x = "java/lang/IllegalArgumentException" ∧ ¬ (gwi b 1 9999 ∧ gwi d 1 9999 ∧ gwi f 1 9999 ∧ gwi g 1 1000000)) ∨ ((¬ a < 0 ∧ a < σ 0 2) ∧ (gwi b 1 9999 ∧ gwi d 1 9999 ∧ gwi f 1 9999 ∧ gwi g 1 1000000) ∧ x = "java/lang/IllegalStateException" ∧ ¬ σ (80 + a.toNatClampNeg) 10 = (-1))) := by
  refine gs_of (fun _ h => h) (by decide) (Nat.le_of_ble_eq_true rfl) ?_
  intro p e s m args below meth c ls S hk hr hx hl hO
  have hl : lv_has ls 7 [(0, .ref (ad 0)), (1, .int a), (2, .int b), (3, .int d), (4, .int f), (5, .int g)] := hl
  refine lv_aload_n S.1 S.2.1 d_PR_size_0 rfl (lv_at hl 0 rfl) ?_
  refine lv_iload_n S.1 S.2.1 d_PR_size_1 rfl (lv_at hl 1 rfl) ?_
  refine g_VP (As := [.int a]) (rest := []) S hO (k_PR_needUnit l hst G ad σ τ a) cw_PR_109 (by decide) (sh_0 G ad _ _) rfl rfl hl.1 (Nat.le_of_ble_eq_true rfl) ⟨(Nat.le_of_ble_eq_true rfl), (Nat.le_of_ble_eq_true rfl)⟩ ⟨(Nat.le_of_ble_eq_true rfl), (Nat.le_of_ble_eq_true rfl)⟩ d_PR_size_2 (fun q x ce H h9 hO hce hcv hcl => im_x hx hk hO hce hcv hcl (Or.inl h9) (Nat.le_of_ble_eq_true rfl) (Nat.le_of_ble_eq_true rfl)) (fun v H v_1 hO => ?_)
  obtain ⟨rfl, h_2⟩ := v_1
  refine W.eq (g2 := F0 m 5 ls []) rfl ?_
  obtain ⟨u, hu, rfl⟩ := uni_n hnu (by omega) h_2
  refine lv_iload_n S.1 S.2.1 d_PR_size_5 rfl (lv_at hl 2 rfl) ?_
  refine lv_iload_n S.1 S.2.1 d_PR_size_6 rfl (lv_at hl 3 rfl) ?_
  refine lv_iload S.1 S.2.1 d_PR_size_7 (lv_at hl 4 rfl) ?_
  refine g_SP (As := [.int b, .int d, .int f]) (rest := []) S hO (k_PR_needLengths l hst G ad σ τ b d f) cw_PR_66 g_cfC hl.1 (Nat.le_of_ble_eq_true rfl) ⟨(Nat.le_of_ble_eq_true rfl), (Nat.le_of_ble_eq_true rfl)⟩ ⟨(Nat.le_of_ble_eq_true rfl), (Nat.le_of_ble_eq_true rfl)⟩ d_PR_size_9 (fun q x ce H h9 hO hce hcv hcl => im_x hx hk hO hce hcv hcl (Or.inr (Or.inl ⟨h_2, h9.1, fun z => h9.2 ⟨z.1, z.2.1, z.2.2.1⟩⟩)) (Nat.le_of_ble_eq_true rfl) (Nat.le_of_ble_eq_true rfl)) (fun v H v_2 hO => ?_)
  obtain ⟨rfl, h_9⟩ := v_2
  refine W.eq (g2 := F0 m 12 ls []) rfl ?_
  refine lv_iload S.1 S.2.1 d_PR_size_12 (lv_at hl 5 rfl) ?_
  refine lv_iconst (v := 1) S.1 S.2.1 d_PR_size_14 (by decide) ?_
  refine lv_ldc (v := 1000000) S.1 S.2.1 S.2.2.2.1 (S.2.2.2.2 _ kv_PR_112) d_PR_size_15 ?_
  refine g_SP (As := [.int g, .int 1, .int 1000000]) (rest := []) S hO (k_PR_needWithin l hst G ad σ τ g 1 1000000) cw_PR_81 g_cfC hl.1 (Nat.le_of_ble_eq_true rfl) ⟨(Nat.le_of_ble_eq_true rfl), (Nat.le_of_ble_eq_true rfl)⟩ ⟨(Nat.le_of_ble_eq_true rfl), (Nat.le_of_ble_eq_true rfl)⟩ d_PR_size_17 (fun q x ce H h9 hO hce hcv hcl => im_x hx hk hO hce hcv hcl (Or.inr (Or.inl ⟨h_2, h9.1, fun z => h9.2 z.2.2.2⟩)) (Nat.le_of_ble_eq_true rfl) (Nat.le_of_ble_eq_true rfl)) (fun v H v_3 hO => ?_)
  obtain ⟨rfl, h_17⟩ := v_3
  refine W.eq (g2 := F0 m 20 ls []) rfl ?_
  refine lv_aload_n S.1 S.2.1 d_PR_size_20 rfl (lv_at hl 0 rfl) ?_
  refine lv_iload_n S.1 S.2.1 d_PR_size_21 rfl (lv_at hl 1 rfl) ?_
  refine g_VP (As := [.int (nI u)]) (rest := []) S hO (k_PR_needNowhere l hst G ad σ τ u (by omega)) cw_PR_113 (by decide) (sh_0 G ad _ _) rfl rfl hl.1 (Nat.le_of_ble_eq_true rfl) ⟨(Nat.le_of_ble_eq_true rfl), (Nat.le_of_ble_eq_true rfl)⟩ ⟨(Nat.le_of_ble_eq_true rfl), (Nat.le_of_ble_eq_true rfl)⟩ d_PR_size_22 (fun q x ce H h9 hO hce hcv hcl => im_x hx hk hO hce hcv hcl (Or.inr (Or.inr ⟨h_2, ⟨h_9.1, h_9.2.1, h_9.2.2, h_17⟩, h9.1, by rw [nI_clamp (by omega)]; exact h9.2⟩)) (Nat.le_of_ble_eq_true rfl) (Nat.le_of_ble_eq_true rfl)) (fun v H v_4 hO => ?_)
  obtain ⟨rfl, h_22⟩ := v_4
  refine W.eq (g2 := F0 m 25 ls []) rfl ?_
  refine lv_aload_n S.1 S.2.1 d_PR_size_25 rfl (lv_at hl 0 rfl) ?_
  refine g_get S hO fl_PR_17 (by decide) (sh_0 G ad _ _) (v := .ref (ad 2)) rfl d_PR_size_26 ?_
  refine lv_iload_n S.1 S.2.1 d_PR_size_29 rfl (lv_at hl 1 rfl) ?_
  refine g_aal S hO (t0 := 4) (by decide) (sh_2 G ad _ _) rfl (vp_in_nI (show u < 40 by omega) (by decide)) (v := .ref (ad (80 + u))) (by rw [nI_clamp (by omega)]; rfl) d_PR_size_30 ?_
  refine lv_astore (lv' := [(6, .ref (ad (80 + u))), (0, .ref (ad 0)), (1, .int (nI u)), (2, .int b), (3, .int d), (4, .int f), (5, .int g)]) S.1 S.2.1 d_PR_size_31 hl (by decide) rfl (fun ls hl => ?_)
  refine lv_aload S.1 S.2.1 d_PR_size_33 (lv_at hl 0 rfl) ?_
  refine lv_iload_n S.1 S.2.1 d_PR_size_35 rfl (lv_at hl 3 rfl) ?_
  obtain ⟨s_5, hs_5⟩ : ∃ z : Nat → Nat → Int32, z = up2 σ (80 + u) 3 b := ⟨_, rfl⟩
  refine g_put S hO (fun _ h => h) fp_PR_116 (by omega) (sh_UN G ad _ _ (by omega)) (v := .int b) rfl rfl (Nat.le_of_ble_eq_true rfl) (E2 := enc G ad s_5 τ) (by rw [hs_5]; exact enc_i (sh_UN G ad _ _ (by omega))) d_PR_size_36 (fun H locs hO => ?_)
  refine lv_aload S.1 S.2.1 d_PR_size_39 (lv_at hl 0 rfl) ?_
  refine lv_iload_n S.1 S.2.1 d_PR_size_41 rfl (lv_at hl 4 rfl) ?_
  obtain ⟨s_6, hs_6⟩ : ∃ z : Nat → Nat → Int32, z = up2 s_5 (80 + u) 4 d := ⟨_, rfl⟩
  refine g_put S hO (fun _ h => h) fp_PR_117 (by omega) (sh_UN G ad _ _ (by omega)) (v := .int d) rfl rfl (Nat.le_of_ble_eq_true rfl) (E2 := enc G ad s_6 τ) (by rw [hs_6]; exact enc_i (sh_UN G ad _ _ (by omega))) d_PR_size_42 (fun H locs hO => ?_)
  refine lv_aload S.1 S.2.1 d_PR_size_45 (lv_at hl 0 rfl) ?_
  refine lv_iload S.1 S.2.1 d_PR_size_47 (lv_at hl 5 rfl) ?_
  obtain ⟨s_7, hs_7⟩ : ∃ z : Nat → Nat → Int32, z = up2 s_6 (80 + u) 5 f := ⟨_, rfl⟩
  refine g_put S hO (fun _ h => h) fp_PR_118 (by omega) (sh_UN G ad _ _ (by omega)) (v := .int f) rfl rfl (Nat.le_of_ble_eq_true rfl) (E2 := enc G ad s_7 τ) (by rw [hs_7]; exact enc_i (sh_UN G ad _ _ (by omega))) d_PR_size_49 (fun H locs hO => ?_)
  refine lv_aload S.1 S.2.1 d_PR_size_52 (lv_at hl 0 rfl) ?_
  refine lv_iload S.1 S.2.1 d_PR_size_54 (lv_at hl 6 rfl) ?_
  obtain ⟨s_8, hs_8⟩ : ∃ z : Nat → Nat → Int32, z = up2 s_7 (80 + u) 6 g := ⟨_, rfl⟩
  refine g_put S hO (fun _ h => h) fp_PR_119 (by omega) (sh_UN G ad _ _ (by omega)) (v := .int g) rfl rfl (Nat.le_of_ble_eq_true rfl) (E2 := enc G ad s_8 τ) (by rw [hs_8]; exact enc_i (sh_UN G ad _ _ (by omega))) d_PR_size_56 (fun H locs hO => ?_)
  subst hs_8
  subst hs_7
  subst hs_6
  subst hs_5
  exact im_v S hk hr hO ⟨rfl, h_2, ⟨h_9.1, h_9.2.1, h_9.2.2, h_17⟩, by rw [nI_clamp (by omega)]; exact h_22, by rw [nI_clamp (by omega)], rfl⟩ (Nat.le_of_ble_eq_true rfl) (Nat.le_of_ble_eq_true rfl) d_PR_size_59
set_option maxHeartbeats 4000000 in
set_option maxRecDepth 100000 in
theorem k_PR_nature (l : Launch) (hst : l.stackTraces = false) (G : gP) (ad : Nat → Nat) (σ : Nat → Nat → Int32) (τ : Nat → Nat → Int64) (a b d f : Int32) (nu : Nat) (hnu : σ 0 2 = nI nu) (hn4 : nu ≤ 40) : gim l y_PR_nature c_PR_nature 6 none { frames := 7, cells := 6, slots := 36, locals := 112 } G ad σ τ [.ref (ad 0), .int a, .int b, .int d, .int f] 6 36 (fun v σ1 τ1 => v = none ∧ (¬ a < 0 ∧ a < σ 0 2) ∧ (gwi b 0 7 ∧ gwi d 0 7 ∧ gwi f 0 1000) ∧ σ (80 + a.toNatClampNeg) 10 = (-1) ∧ σ1 = up2 (up2 (up2 σ (80 + a.toNatClampNeg) 7 b) (80 + a.toNatClampNeg) 8 d) (80 + a.toNatClampNeg) 9 f ∧ τ1 = τ) (fun x => (x = "java/util/NoSuchElementException" ∧ ¬ (¬ a < 0 ∧ a < σ 0 2)) ∨ ((¬ a < 0 ∧ a < σ 0 2) ∧ x = "java/lang/IllegalArgumentException" ∧ ¬ (gwi b 0 7 ∧ gwi d 0 7 ∧ gwi f 0 1000)) ∨ ((¬ a < 0 ∧ a < σ 0 2) ∧ (gwi b 0 7 ∧ gwi d 0 7 ∧ gwi f 0 1000) ∧ x = "java/lang/IllegalStateException" ∧ ¬ σ (80 + a.toNatClampNeg) 10 = (-1))) := by
  refine gs_of (fun _ h => h) (by decide) (Nat.le_of_ble_eq_true rfl) ?_
  intro p e s m args below meth c ls S hk hr hx hl hO
  have hl : lv_has ls 6 [(0, .ref (ad 0)), (1, .int a), (2, .int b), (3, .int d), (4, .int f)] := hl
  refine lv_aload_n S.1 S.2.1 d_PR_nature_0 rfl (lv_at hl 0 rfl) ?_
  refine lv_iload_n S.1 S.2.1 d_PR_nature_1 rfl (lv_at hl 1 rfl) ?_
  refine g_VP (As := [.int a]) (rest := []) S hO (k_PR_needUnit l hst G ad σ τ a) cw_PR_109 (by decide) (sh_0 G ad _ _) rfl rfl hl.1 (Nat.le_of_ble_eq_true rfl) ⟨(Nat.le_of_ble_eq_true rfl), (Nat.le_of_ble_eq_true rfl)⟩ ⟨(Nat.le_of_ble_eq_true rfl), (Nat.le_of_ble_eq_true rfl)⟩ d_PR_nature_2 (fun q x ce H h9 hO hce hcv hcl => im_x hx hk hO hce hcv hcl (Or.inl h9) (Nat.le_of_ble_eq_true rfl) (Nat.le_of_ble_eq_true rfl)) (fun v H v_1 hO => ?_)
  obtain ⟨rfl, h_2⟩ := v_1
  refine W.eq (g2 := F0 m 5 ls []) rfl ?_
  obtain ⟨u, hu, rfl⟩ := uni_n hnu (by omega) h_2
  refine lv_iload_n S.1 S.2.1 d_PR_nature_5 rfl (lv_at hl 2 rfl) ?_
  refine lv_iconst (v := 0) S.1 S.2.1 d_PR_nature_6 (by decide) ?_
  refine lv_bipush (v := 7) S.1 S.2.1 d_PR_nature_7 (by decide) ?_
  refine g_SP (As := [.int b, .int 0, .int 7]) (rest := []) S hO (k_PR_needWithin l hst G ad σ τ b 0 7) cw_PR_81 g_cfC hl.1 (Nat.le_of_ble_eq_true rfl) ⟨(Nat.le_of_ble_eq_true rfl), (Nat.le_of_ble_eq_true rfl)⟩ ⟨(Nat.le_of_ble_eq_true rfl), (Nat.le_of_ble_eq_true rfl)⟩ d_PR_nature_9 (fun q x ce H h9 hO hce hcv hcl => im_x hx hk hO hce hcv hcl (Or.inr (Or.inl ⟨h_2, h9.1, fun z => h9.2 z.1⟩)) (Nat.le_of_ble_eq_true rfl) (Nat.le_of_ble_eq_true rfl)) (fun v H v_2 hO => ?_)
  obtain ⟨rfl, h_9⟩ := v_2
  refine W.eq (g2 := F0 m 12 ls []) rfl ?_
  refine lv_iload_n S.1 S.2.1 d_PR_nature_12 rfl (lv_at hl 3 rfl) ?_
  refine lv_iconst (v := 0) S.1 S.2.1 d_PR_nature_13 (by decide) ?_
  refine lv_bipush (v := 7) S.1 S.2.1 d_PR_nature_14 (by decide) ?_
  refine g_SP (As := [.int d, .int 0, .int 7]) (rest := []) S hO (k_PR_needWithin l hst G ad σ τ d 0 7) cw_PR_81 g_cfC hl.1 (Nat.le_of_ble_eq_true rfl) ⟨(Nat.le_of_ble_eq_true rfl), (Nat.le_of_ble_eq_true rfl)⟩ ⟨(Nat.le_of_ble_eq_true rfl), (Nat.le_of_ble_eq_true rfl)⟩ d_PR_nature_16 (fun q x ce H h9 hO hce hcv hcl => im_x hx hk hO hce hcv hcl (Or.inr (Or.inl ⟨h_2, h9.1, fun z => h9.2 z.2.1⟩)) (Nat.le_of_ble_eq_true rfl) (Nat.le_of_ble_eq_true rfl)) (fun v H v_3 hO => ?_)
  obtain ⟨rfl, h_16⟩ := v_3
  refine W.eq (g2 := F0 m 19 ls []) rfl ?_
  refine lv_iload S.1 S.2.1 d_PR_nature_19 (lv_at hl 4 rfl) ?_
  refine lv_iconst (v := 0) S.1 S.2.1 d_PR_nature_21 (by decide) ?_
  refine lv_sipush (v := 1000) S.1 S.2.1 d_PR_nature_22 (by decide) ?_
  refine g_SP (As := [.int f, .int 0, .int 1000]) (rest := []) S hO (k_PR_needWithin l hst G ad σ τ f 0 1000) cw_PR_81 g_cfC hl.1 (Nat.le_of_ble_eq_true rfl) ⟨(Nat.le_of_ble_eq_true rfl), (Nat.le_of_ble_eq_true rfl)⟩ ⟨(Nat.le_of_ble_eq_true rfl), (Nat.le_of_ble_eq_true rfl)⟩ d_PR_nature_25 (fun q x ce H h9 hO hce hcv hcl => im_x hx hk hO hce hcv hcl (Or.inr (Or.inl ⟨h_2, h9.1, fun z => h9.2 z.2.2⟩)) (Nat.le_of_ble_eq_true rfl) (Nat.le_of_ble_eq_true rfl)) (fun v H v_4 hO => ?_)
  obtain ⟨rfl, h_25⟩ := v_4
  refine W.eq (g2 := F0 m 28 ls []) rfl ?_
  refine lv_aload_n S.1 S.2.1 d_PR_nature_28 rfl (lv_at hl 0 rfl) ?_
  refine lv_iload_n S.1 S.2.1 d_PR_nature_29 rfl (lv_at hl 1 rfl) ?_
  refine g_VP (As := [.int (nI u)]) (rest := []) S hO (k_PR_needNowhere l hst G ad σ τ u (by omega)) cw_PR_113 (by decide) (sh_0 G ad _ _) rfl rfl hl.1 (Nat.le_of_ble_eq_true rfl) ⟨(Nat.le_of_ble_eq_true rfl), (Nat.le_of_ble_eq_true rfl)⟩ ⟨(Nat.le_of_ble_eq_true rfl), (Nat.le_of_ble_eq_true rfl)⟩ d_PR_nature_30 (fun q x ce H h9 hO hce hcv hcl => im_x hx hk hO hce hcv hcl (Or.inr (Or.inr ⟨h_2, ⟨h_9, h_16, h_25⟩, h9.1, by rw [nI_clamp (by omega)]; exact h9.2⟩)) (Nat.le_of_ble_eq_true rfl) (Nat.le_of_ble_eq_true rfl)) (fun v H v_5 hO => ?_)
  obtain ⟨rfl, h_30⟩ := v_5
  refine W.eq (g2 := F0 m 33 ls []) rfl ?_
  refine lv_aload_n S.1 S.2.1 d_PR_nature_33 rfl (lv_at hl 0 rfl) ?_
  refine g_get S hO fl_PR_17 (by decide) (sh_0 G ad _ _) (v := .ref (ad 2)) rfl d_PR_nature_34 ?_
  refine lv_iload_n S.1 S.2.1 d_PR_nature_37 rfl (lv_at hl 1 rfl) ?_
  refine g_aal S hO (t0 := 4) (by decide) (sh_2 G ad _ _) rfl (vp_in_nI (show u < 40 by omega) (by decide)) (v := .ref (ad (80 + u))) (by rw [nI_clamp (by omega)]; rfl) d_PR_nature_38 ?_
  refine lv_astore (lv' := [(5, .ref (ad (80 + u))), (0, .ref (ad 0)), (1, .int (nI u)), (2, .int b), (3, .int d), (4, .int f)]) S.1 S.2.1 d_PR_nature_39 hl (by decide) rfl (fun ls hl => ?_)
  refine lv_aload S.1 S.2.1 d_PR_nature_41 (lv_at hl 0 rfl) ?_
  refine lv_iload_n S.1 S.2.1 d_PR_nature_43 rfl (lv_at hl 3 rfl) ?_
  obtain ⟨s_6, hs_6⟩ : ∃ z : Nat → Nat → Int32, z = up2 σ (80 + u) 7 b := ⟨_, rfl⟩
  refine g_put S hO (fun _ h => h) fp_PR_122 (by omega) (sh_UN G ad _ _ (by omega)) (v := .int b) rfl rfl (Nat.le_of_ble_eq_true rfl) (E2 := enc G ad s_6 τ) (by rw [hs_6]; exact enc_i (sh_UN G ad _ _ (by omega))) d_PR_nature_44 (fun H locs hO => ?_)
  refine lv_aload S.1 S.2.1 d_PR_nature_47 (lv_at hl 0 rfl) ?_
  refine lv_iload_n S.1 S.2.1 d_PR_nature_49 rfl (lv_at hl 4 rfl) ?_
  obtain ⟨s_7, hs_7⟩ : ∃ z : Nat → Nat → Int32, z = up2 s_6 (80 + u) 8 d := ⟨_, rfl⟩
  refine g_put S hO (fun _ h => h) fp_PR_125 (by omega) (sh_UN G ad _ _ (by omega)) (v := .int d) rfl rfl (Nat.le_of_ble_eq_true rfl) (E2 := enc G ad s_7 τ) (by rw [hs_7]; exact enc_i (sh_UN G ad _ _ (by omega))) d_PR_nature_50 (fun H locs hO => ?_)
  refine lv_aload S.1 S.2.1 d_PR_nature_53 (lv_at hl 0 rfl) ?_
  refine lv_iload S.1 S.2.1 d_PR_nature_55 (lv_at hl 5 rfl) ?_
  obtain ⟨s_8, hs_8⟩ : ∃ z : Nat → Nat → Int32, z = up2 s_7 (80 + u) 9 f := ⟨_, rfl⟩
  refine g_put S hO (fun _ h => h) fp_PR_128 (by omega) (sh_UN G ad _ _ (by omega)) (v := .int f) rfl rfl (Nat.le_of_ble_eq_true rfl) (E2 := enc G ad s_8 τ) (by rw [hs_8]; exact enc_i (sh_UN G ad _ _ (by omega))) d_PR_nature_57 (fun H locs hO => ?_)
  subst hs_8
  subst hs_7
  subst hs_6
  exact im_v S hk hr hO ⟨rfl, h_2, ⟨h_9, h_16, h_25⟩, by rw [nI_clamp (by omega)]; exact h_30, by rw [nI_clamp (by omega)], rfl⟩ (Nat.le_of_ble_eq_true rfl) (Nat.le_of_ble_eq_true rfl) d_PR_nature_60
set_option maxHeartbeats 4000000 in
set_option maxRecDepth 100000 in
theorem k_PR_own (l : Launch) (hst : l.stackTraces = false) (G : gP) (ad : Nat → Nat) (σ : Nat → Nat → Int32) (τ : Nat → Nat → Int64) (a b : Int32) : gim l y_PR_own c_PR_own 3 none { frames := 7, cells := 2, slots := 12, locals := 112 } G ad σ τ [.ref (ad 0), .int a, .int b] 2 12 (fun v σ1 τ1 => v = none ∧ (gwi a 0 3 ∧ gwi b 0 3) ∧ σ1 = up2 σ 34 a.toNatClampNeg b ∧ τ1 = τ) (fun x => x = "java/lang/IllegalArgumentException" ∧ ¬ (gwi a 0 3 ∧ gwi b 0 3)) := by
  refine gs_of (fun _ h => h) (by decide) (Nat.le_of_ble_eq_true rfl) ?_
  intro p e s m args below meth c ls S hk hr hx hl hO
  have hl : lv_has ls 3 [(0, .ref (ad 0)), (1, .int a), (2, .int b)] := hl
  refine lv_iload_n S.1 S.2.1 d_PR_own_0 rfl (lv_at hl 1 rfl) ?_
  refine lv_iconst (v := 0) S.1 S.2.1 d_PR_own_1 (by decide) ?_
  refine lv_iconst (v := 3) S.1 S.2.1 d_PR_own_2 (by decide) ?_
  refine g_SP (As := [.int a, .int 0, .int 3]) (rest := []) S hO (k_PR_needWithin l hst G ad σ τ a 0 3) cw_PR_81 g_cfC hl.1 (Nat.le_of_ble_eq_true rfl) ⟨(Nat.le_of_ble_eq_true rfl), (Nat.le_of_ble_eq_true rfl)⟩ ⟨(Nat.le_of_ble_eq_true rfl), (Nat.le_of_ble_eq_true rfl)⟩ d_PR_own_3 (fun q x ce H h9 hO hce hcv hcl => im_x hx hk hO hce hcv hcl (⟨h9.1, fun z => h9.2 z.1⟩) (Nat.le_of_ble_eq_true rfl) (Nat.le_of_ble_eq_true rfl)) (fun v H v_1 hO => ?_)
  obtain ⟨rfl, h_3⟩ := v_1
  refine W.eq (g2 := F0 m 6 ls []) rfl ?_
  refine lv_iload_n S.1 S.2.1 d_PR_own_6 rfl (lv_at hl 2 rfl) ?_
  refine lv_iconst (v := 0) S.1 S.2.1 d_PR_own_7 (by decide) ?_
  refine lv_iconst (v := 3) S.1 S.2.1 d_PR_own_8 (by decide) ?_
  refine g_SP (As := [.int b, .int 0, .int 3]) (rest := []) S hO (k_PR_needWithin l hst G ad σ τ b 0 3) cw_PR_81 g_cfC hl.1 (Nat.le_of_ble_eq_true rfl) ⟨(Nat.le_of_ble_eq_true rfl), (Nat.le_of_ble_eq_true rfl)⟩ ⟨(Nat.le_of_ble_eq_true rfl), (Nat.le_of_ble_eq_true rfl)⟩ d_PR_own_9 (fun q x ce H h9 hO hce hcv hcl => im_x hx hk hO hce hcv hcl (⟨h9.1, fun z => h9.2 z.2⟩) (Nat.le_of_ble_eq_true rfl) (Nat.le_of_ble_eq_true rfl)) (fun v H v_2 hO => ?_)
  obtain ⟨rfl, h_9⟩ := v_2
  refine W.eq (g2 := F0 m 12 ls []) rfl ?_
  obtain ⟨u, hu, rfl⟩ := gwi_n (n := 3) (by decide) h_3
  refine lv_aload_n S.1 S.2.1 d_PR_own_12 rfl (lv_at hl 0 rfl) ?_
  refine g_get S hO fl_PR_37 (by decide) (sh_0 G ad _ _) (v := .ref (ad 33)) rfl d_PR_own_13 ?_
  refine g_get S hO fl_PR_188 (by decide) (sh_33 G ad _ _) (v := .ref (ad 34)) rfl d_PR_own_16 ?_
  refine lv_iload_n S.1 S.2.1 d_PR_own_19 rfl (lv_at hl 1 rfl) ?_
  refine lv_iload_n S.1 S.2.1 d_PR_own_20 rfl (lv_at hl 2 rfl) ?_
  obtain ⟨s_3, hs_3⟩ : ∃ z : Nat → Nat → Int32, z = up2 σ 34 u b := ⟨_, rfl⟩
  refine g_ias S hO (fun _ h => h) (by decide) (sh_34 G ad _ _) (vp_in_nI hu (by decide)) (E2 := enc G ad s_3 τ) (by rw [hs_3, nI_clamp (by omega)]; exact enc_i (sh_34 G ad _ _)) d_PR_own_21 (fun H locs hO => ?_)
  subst hs_3
  exact im_v S hk hr hO ⟨rfl, ⟨h_3, h_9⟩, by rw [nI_clamp (by omega)], rfl⟩ (Nat.le_of_ble_eq_true rfl) (Nat.le_of_ble_eq_true rfl) d_PR_own_22
set_option maxHeartbeats 4000000 in
set_option maxRecDepth 100000 in
theorem k_PR_take (l : Launch) (hst : l.stackTraces = false) (G : gP) (ad : Nat → Nat) (σ : Nat → Nat → Int32) (τ : Nat → Nat → Int64) (a : Int32) (nu : Nat) (hnu : σ 0 2 = nI nu) (hn4 : nu ≤ 40) : gim l y_PR_take c_PR_take 2 none { frames := 7, cells := 2, slots := 12, locals := 111 } G ad σ τ [.ref (ad 0), .int a] 2 12 (fun v σ1 τ1 => v = none ∧ (¬ a < 0 ∧ a < σ 0 2) ∧ ¬ σ (80 + a.toNatClampNeg) 10 = (-1) ∧ σ1 = up2 σ (80 + a.toNatClampNeg) 10 (-1) ∧ τ1 = τ) (fun x => (x = "java/util/NoSuchElementException" ∧ ¬ (¬ a < 0 ∧ a < σ 0 2)) ∨ ((¬ a < 0 ∧ a < σ 0 2) ∧ x = "java/lang/IllegalStateException" ∧ σ (80 + a.toNatClampNeg) 10 = (-1))) := by
  refine gs_of (fun _ h => h) (by decide) (Nat.le_of_ble_eq_true rfl) ?_
  intro p e s m args below meth c ls S hk hr hx hl hO
  have hl : lv_has ls 2 [(0, .ref (ad 0)), (1, .int a)] := hl
  refine lv_aload_n S.1 S.2.1 d_PR_take_0 rfl (lv_at hl 0 rfl) ?_
  refine lv_iload_n S.1 S.2.1 d_PR_take_1 rfl (lv_at hl 1 rfl) ?_
  refine g_VP (As := [.int a]) (rest := []) S hO (k_PR_needUnit l hst G ad σ τ a) cw_PR_109 (by decide) (sh_0 G ad _ _) rfl rfl hl.1 (Nat.le_of_ble_eq_true rfl) ⟨(Nat.le_of_ble_eq_true rfl), (Nat.le_of_ble_eq_true rfl)⟩ ⟨(Nat.le_of_ble_eq_true rfl), (Nat.le_of_ble_eq_true rfl)⟩ d_PR_take_2 (fun q x ce H h9 hO hce hcv hcl => im_x hx hk hO hce hcv hcl (Or.inl h9) (Nat.le_of_ble_eq_true rfl) (Nat.le_of_ble_eq_true rfl)) (fun v H v_1 hO => ?_)
  obtain ⟨rfl, h_2⟩ := v_1
  refine W.eq (g2 := F0 m 5 ls []) rfl ?_
  obtain ⟨u, hu, rfl⟩ := uni_n hnu (by omega) h_2
  refine lv_aload_n S.1 S.2.1 d_PR_take_5 rfl (lv_at hl 0 rfl) ?_
  refine g_get S hO fl_PR_17 (by decide) (sh_0 G ad _ _) (v := .ref (ad 2)) rfl d_PR_take_6 ?_
  refine lv_iload_n S.1 S.2.1 d_PR_take_9 rfl (lv_at hl 1 rfl) ?_
  refine g_aal S hO (t0 := 4) (by decide) (sh_2 G ad _ _) rfl (vp_in_nI (show u < 40 by omega) (by decide)) (v := .ref (ad (80 + u))) (by rw [nI_clamp (by omega)]; rfl) d_PR_take_10 ?_
  refine g_get S hO fl_PR_236 (by omega) (sh_UN G ad _ _ (by omega)) (v := .int (σ (80 + u) 10)) rfl d_PR_take_11 ?_
  refine lv_iconst (v := (-1)) S.1 S.2.1 d_PR_take_14 (by decide) ?_
  refine lv_icmp_ne (tgt := 28) S.1 S.2.1 d_PR_take_15 (by decide) (fun c_15 => ?_) (fun c_15 => ?_)
  · skip
    refine lv_aload_n S.1 S.2.1 d_PR_take_28 rfl (lv_at hl 0 rfl) ?_
    refine g_get S hO fl_PR_17 (by decide) (sh_0 G ad _ _) (v := .ref (ad 2)) rfl d_PR_take_29 ?_
    refine lv_iload_n S.1 S.2.1 d_PR_take_32 rfl (lv_at hl 1 rfl) ?_
    refine g_aal S hO (t0 := 4) (by decide) (sh_2 G ad _ _) rfl (vp_in_nI (show u < 40 by omega) (by decide)) (v := .ref (ad (80 + u))) (by rw [nI_clamp (by omega)]; rfl) d_PR_take_33 ?_
    refine lv_iconst (v := (-1)) S.1 S.2.1 d_PR_take_34 (by decide) ?_
    obtain ⟨s_2, hs_2⟩ : ∃ z : Nat → Nat → Int32, z = up2 σ (80 + u) 10 (-1) := ⟨_, rfl⟩
    refine g_put S hO (fun _ h => h) fp_PR_236 (by omega) (sh_UN G ad _ _ (by omega)) (v := .int (-1)) rfl rfl (Nat.le_of_ble_eq_true rfl) (E2 := enc G ad s_2 τ) (by rw [hs_2]; exact enc_i (sh_UN G ad _ _ (by omega))) d_PR_take_35 (fun H locs hO => ?_)
    subst hs_2
    exact im_v S hk hr hO ⟨rfl, h_2, by rw [nI_clamp (by omega)]; exact c_15, by rw [nI_clamp (by omega)], rfl⟩ (Nat.le_of_ble_eq_true rfl) (Nat.le_of_ble_eq_true rfl) d_PR_take_38
  · skip
    exact g_throwN S hst hO xw_ISE (hO.2.2.2.2.2.2.2.2.1 5 (by decide)) hl.1 hx hk (Nat.le_of_ble_eq_true rfl) (Nat.le_of_ble_eq_true rfl) ⟨(Nat.le_of_ble_eq_true rfl), (Nat.le_of_ble_eq_true rfl)⟩ (Nat.le_of_ble_eq_true rfl) (Nat.le_of_ble_eq_true rfl) (fun t ht => ⟨Or.inr ⟨h_2, rfl, by rw [nI_clamp (by omega)]; exact c_15⟩, hO.2.1.kept (fun k q hk => ht q.1 ((hO.2.1 k q hk).lt))⟩) d_PR_take_18 d_PR_take_21 d_PR_take_22 d_PR_take_24 d_PR_take_27
set_option maxHeartbeats 4000000 in
set_option maxRecDepth 100000 in
theorem k_PR_clash (l : Launch) (hst : l.stackTraces = false) (G : gP) (ad : Nat → Nat) (σ : Nat → Nat → Int32) (τ : Nat → Nat → Int64) (a b : Int32) (nc : Nat) (hcl : σ 4 5 = nI nc) (hc2 : nc ≤ 276) : gpu l y_PR_clash c_PR_clash 3 (some .int) { frames := 7, cells := 2, slots := 12, locals := 112 } G ad σ τ [.ref (ad 0), .int a, .int b] 2 12 (fun v => (¬ a < 0 ∧ gwi b 0 1) ∧ v = some (.int (if a < σ 4 5 then (if b = 0 then σ 7 a.toNatClampNeg else σ 8 a.toNatClampNeg) else (-1)))) (fun x => x = "java/lang/IllegalArgumentException" ∧ ¬ (¬ a < 0 ∧ gwi b 0 1)) := by
  refine gs_of (fun _ h => h.elim) (by decide) (Nat.le_of_ble_eq_true rfl) ?_
  intro p e s m args below meth c ls S hk hr hx hl hO
  have hl : lv_has ls 3 [(0, .ref (ad 0)), (1, .int a), (2, .int b)] := hl
  refine lv_iload_n S.1 S.2.1 d_PR_clash_0 rfl (lv_at hl 1 rfl) ?_
  refine g_SP (As := [.int a]) (rest := []) S hO (k_PR_needIndex l hst G ad σ τ a) cw_PR_230 g_cfC hl.1 (Nat.le_of_ble_eq_true rfl) ⟨(Nat.le_of_ble_eq_true rfl), (Nat.le_of_ble_eq_true rfl)⟩ ⟨(Nat.le_of_ble_eq_true rfl), (Nat.le_of_ble_eq_true rfl)⟩ d_PR_clash_1 (fun q x ce H h9 hO hce hcv hcl => pu_x hx hk hO hce hcv hcl (⟨h9.1, fun z => z.1 h9.2⟩) (Nat.le_of_ble_eq_true rfl) (Nat.le_of_ble_eq_true rfl)) (fun v H v_1 hO => ?_)
  obtain ⟨rfl, h_1⟩ := v_1
  refine W.eq (g2 := F0 m 4 ls []) rfl ?_
  refine lv_iload_n S.1 S.2.1 d_PR_clash_4 rfl (lv_at hl 2 rfl) ?_
  refine lv_iconst (v := 0) S.1 S.2.1 d_PR_clash_5 (by decide) ?_
  refine lv_iconst (v := 1) S.1 S.2.1 d_PR_clash_6 (by decide) ?_
  refine g_SP (As := [.int b, .int 0, .int 1]) (rest := []) S hO (k_PR_needWithin l hst G ad σ τ b 0 1) cw_PR_81 g_cfC hl.1 (Nat.le_of_ble_eq_true rfl) ⟨(Nat.le_of_ble_eq_true rfl), (Nat.le_of_ble_eq_true rfl)⟩ ⟨(Nat.le_of_ble_eq_true rfl), (Nat.le_of_ble_eq_true rfl)⟩ d_PR_clash_7 (fun q x ce H h9 hO hce hcv hcl => pu_x hx hk hO hce hcv hcl (⟨h9.1, fun z => h9.2 z.2⟩) (Nat.le_of_ble_eq_true rfl) (Nat.le_of_ble_eq_true rfl)) (fun v H v_2 hO => ?_)
  obtain ⟨rfl, h_7⟩ := v_2
  refine W.eq (g2 := F0 m 10 ls []) rfl ?_
  refine lv_iload_n S.1 S.2.1 d_PR_clash_10 rfl (lv_at hl 1 rfl) ?_
  refine lv_aload_n S.1 S.2.1 d_PR_clash_11 rfl (lv_at hl 0 rfl) ?_
  refine g_get S hO fl_PR_30 (by decide) (sh_0 G ad _ _) (v := .ref (ad 4)) rfl d_PR_clash_12 ?_
  refine g_get S hO fl_PR_251 (by decide) (sh_4 G ad _ _) (v := .int (σ 4 5)) rfl d_PR_clash_15 ?_
  refine lv_icmp_lt (tgt := 23) S.1 S.2.1 d_PR_clash_18 (by decide) (fun c_18 => ?_) (fun c_18 => ?_)
  · skip
    obtain ⟨u, hu, rfl⟩ := uni_n hcl (by omega) ⟨h_1, c_18⟩
    refine lv_iload_n S.1 S.2.1 d_PR_clash_23 rfl (lv_at hl 2 rfl) ?_
    refine lv_if_ne (tgt := 39) S.1 S.2.1 d_PR_clash_24 (by decide) (fun c_24 => ?_) (fun c_24 => ?_)
    · skip
      refine lv_aload_n S.1 S.2.1 d_PR_clash_39 rfl (lv_at hl 0 rfl) ?_
      refine g_get S hO fl_PR_30 (by decide) (sh_0 G ad _ _) (v := .ref (ad 4)) rfl d_PR_clash_40 ?_
      refine g_get S hO fl_PR_257 (by decide) (sh_4 G ad _ _) (v := .ref (ad 8)) rfl d_PR_clash_43 ?_
      refine lv_iload_n S.1 S.2.1 d_PR_clash_46 rfl (lv_at hl 1 rfl) ?_
      refine g_ial S hO (by decide) (sh_8 G ad _ _) (vp_in_nI (show u < 276 by omega) (by decide)) d_PR_clash_47 ?_
      refine W.eq (g2 := F0 m 48 ls [.int (σ 8 u)]) (by rw [nI_clamp (by omega)]) ?_
      exact pu_i S hk hr hO ⟨⟨h_1, h_7⟩, by rw [if_pos c_18, nI_clamp (by omega)]; first | rw [if_pos c_24] | rw [if_neg c_24]⟩ (Nat.le_of_ble_eq_true rfl) (Nat.le_of_ble_eq_true rfl) d_PR_clash_48
    · skip
      refine lv_aload_n S.1 S.2.1 d_PR_clash_27 rfl (lv_at hl 0 rfl) ?_
      refine g_get S hO fl_PR_30 (by decide) (sh_0 G ad _ _) (v := .ref (ad 4)) rfl d_PR_clash_28 ?_
      refine g_get S hO fl_PR_254 (by decide) (sh_4 G ad _ _) (v := .ref (ad 7)) rfl d_PR_clash_31 ?_
      refine lv_iload_n S.1 S.2.1 d_PR_clash_34 rfl (lv_at hl 1 rfl) ?_
      refine g_ial S hO (by decide) (sh_7 G ad _ _) (vp_in_nI (show u < 276 by omega) (by decide)) d_PR_clash_35 ?_
      refine W.eq (g2 := F0 m 36 ls [.int (σ 7 u)]) (by rw [nI_clamp (by omega)]) ?_
      refine lv_goto (tgt := 48) S.1 S.2.1 d_PR_clash_36 (by decide) ?_
      exact pu_i S hk hr hO ⟨⟨h_1, h_7⟩, by rw [if_pos c_18, nI_clamp (by omega)]; first | rw [if_pos c_24] | rw [if_neg c_24]⟩ (Nat.le_of_ble_eq_true rfl) (Nat.le_of_ble_eq_true rfl) d_PR_clash_48
  · skip
    refine lv_iconst (v := (-1)) S.1 S.2.1 d_PR_clash_21 (by decide) ?_
    exact pu_i S hk hr hO ⟨⟨h_1, h_7⟩, by rw [if_neg c_18]⟩ (Nat.le_of_ble_eq_true rfl) (Nat.le_of_ble_eq_true rfl) d_PR_clash_22
set_option maxHeartbeats 4000000 in
set_option maxRecDepth 100000 in
theorem k_PR_explain (l : Launch) (hst : l.stackTraces = false) (G : gP) (ad : Nat → Nat) (σ : Nat → Nat → Int32) (τ : Nat → Nat → Int64) (a : Int32) (nr : Nat) (hrf : σ 0 10 = nI nr) (hr2 : nr ≤ 24) : gpu l y_PR_explain c_PR_explain 2 (some .int) { frames := 7, cells := 1, slots := 6, locals := 110 } G ad σ τ [.ref (ad 0), .int a] 1 6 (fun v => ¬ a < 0 ∧ v = some (.int (if a < σ 0 10 then σ 67 a.toNatClampNeg else (-1)))) (fun x => x = "java/lang/IllegalArgumentException" ∧ a < 0) := by
  refine gs_of (fun _ h => h.elim) (by decide) (Nat.le_of_ble_eq_true rfl) ?_
  intro p e s m args below meth c ls S hk hr hx hl hO
  have hl : lv_has ls 2 [(0, .ref (ad 0)), (1, .int a)] := hl
  refine lv_iload_n S.1 S.2.1 d_PR_explain_0 rfl (lv_at hl 1 rfl) ?_
  refine g_SP (As := [.int a]) (rest := []) S hO (k_PR_needIndex l hst G ad σ τ a) cw_PR_230 g_cfC hl.1 (Nat.le_of_ble_eq_true rfl) ⟨(Nat.le_of_ble_eq_true rfl), (Nat.le_of_ble_eq_true rfl)⟩ ⟨(Nat.le_of_ble_eq_true rfl), (Nat.le_of_ble_eq_true rfl)⟩ d_PR_explain_1 (fun q x ce H h9 hO hce hcv hcl => pu_x hx hk hO hce hcv hcl h9 (Nat.le_of_ble_eq_true rfl) (Nat.le_of_ble_eq_true rfl)) (fun v H v_1 hO => ?_)
  obtain ⟨rfl, h_1⟩ := v_1
  refine W.eq (g2 := F0 m 4 ls []) rfl ?_
  refine lv_iload_n S.1 S.2.1 d_PR_explain_4 rfl (lv_at hl 1 rfl) ?_
  refine lv_aload_n S.1 S.2.1 d_PR_explain_5 rfl (lv_at hl 0 rfl) ?_
  refine g_get S hO fl_PR_233 (by decide) (sh_0 G ad _ _) (v := .int (σ 0 10)) rfl d_PR_explain_6 ?_
  refine lv_icmp_ge (tgt := 21) S.1 S.2.1 d_PR_explain_9 (by decide) (fun c_9 => ?_) (fun c_9 => ?_)
  · skip
    refine lv_iconst (v := (-1)) S.1 S.2.1 d_PR_explain_21 (by decide) ?_
    exact pu_i S hk hr hO ⟨h_1, by first | rw [if_pos (Int32.not_le.mp c_9), nI_clamp (by omega)] | rw [if_neg (Int32.not_lt.mpr c_9)]⟩ (Nat.le_of_ble_eq_true rfl) (Nat.le_of_ble_eq_true rfl) d_PR_explain_22
  · skip
    obtain ⟨u, hu, rfl⟩ := uni_n hrf (by omega) ⟨h_1, Int32.not_le.mp c_9⟩
    refine lv_aload_n S.1 S.2.1 d_PR_explain_12 rfl (lv_at hl 0 rfl) ?_
    refine g_get S hO fl_PR_55 (by decide) (sh_0 G ad _ _) (v := .ref (ad 67)) rfl d_PR_explain_13 ?_
    refine lv_iload_n S.1 S.2.1 d_PR_explain_16 rfl (lv_at hl 1 rfl) ?_
    refine g_ial S hO (by decide) (sh_67 G ad _ _) (vp_in_nI (show u < 24 by omega) (by decide)) d_PR_explain_17 ?_
    refine W.eq (g2 := F0 m 18 ls [.int (σ 67 u)]) (by rw [nI_clamp (by omega)]) ?_
    refine lv_goto (tgt := 22) S.1 S.2.1 d_PR_explain_18 (by decide) ?_
    exact pu_i S hk hr hO ⟨h_1, by first | rw [if_pos (Int32.not_le.mp c_9), nI_clamp (by omega)] | rw [if_neg (Int32.not_lt.mpr c_9)]⟩ (Nat.le_of_ble_eq_true rfl) (Nat.le_of_ble_eq_true rfl) d_PR_explain_22
end
section
/-! Methods of the small classes. Written by wip/tools/m18.py. -/
theorem z_0 {P : Prop} {h : Decidable P} : (@ite _ P h (1 : Int32) 0 = 0) ↔ ¬ P := by
  by_cases hp : P
  · rw [if_pos hp]; exact ⟨fun z => absurd z (by decide), fun z => absurd hp z⟩
  · rw [if_neg hp]; exact ⟨fun _ => hp, fun _ => rfl⟩
theorem z_01 {P : Prop} {h : Decidable P} : @ite _ P h (1 : Int32) 0 = 0 ∨ @ite _ P h (1 : Int32) 0 = 1 := by
  by_cases hp : P
  · rw [if_pos hp]; exact Or.inr rfl
  · rw [if_neg hp]; exact Or.inl rfl
theorem z_p {P : Prop} {h : Decidable P} (hp : P) : some (Value.int 1) = some (Value.int (@ite _ P h (1 : Int32) 0)) := by rw [if_pos hp]
theorem z_n {P : Prop} {h : Decidable P} (hp : ¬ P) : some (Value.int 0) = some (Value.int (@ite _ P h (1 : Int32) 0)) := by rw [if_neg hp]
abbrev hld (σ : Nat → Nat → Int32) (k : Nat) (a b d : Int32) : Prop := a ≤ σ k 0 ∧ b ≤ σ k 1 ∧ d ≤ σ k 2
/-- the place k and the unit u: the way fits -/
abbrev fit6 (σ : Nat → Nat → Int32) (k u : Nat) (w : Int32) : Prop :=
  (w = 0 ∧ hld σ k (σ u 3) (σ u 4) (σ u 5)) ∨ (w = 1 ∧ hld σ k (σ u 3) (σ u 5) (σ u 4)) ∨ (w = 2 ∧ hld σ k (σ u 4) (σ u 3) (σ u 5)) ∨ (w = 3 ∧ hld σ k (σ u 4) (σ u 5) (σ u 3)) ∨ (w = 4 ∧ hld σ k (σ u 5) (σ u 3) (σ u 4)) ∨ (w = 5 ∧ hld σ k (σ u 5) (σ u 4) (σ u 3))
theorem sw05 {x : Int32} (h0 : ¬ x = 0) (h1 : ¬ x = 1) (h2 : ¬ x = 2) (h3 : ¬ x = 3) (h4 : ¬ x = 4) (h5 : ¬ x = 5) : x.toInt < 0 ∨ 5 < x.toInt := by
  by_cases hc : x.toInt < 0 ∨ 5 < x.toInt
  · exact hc
  · exfalso
    have e : ∀ k : Int32, x.toInt = k.toInt → x = k := fun k h => Int32.toInt_inj.mp h
    have hx : x.toInt = 0 ∨ x.toInt = 1 ∨ x.toInt = 2 ∨ x.toInt = 3 ∨ x.toInt = 4 ∨ x.toInt = 5 := by omega
    rcases hx with h | h | h | h | h | h
    · exact h0 (e 0 h)
    · exact h1 (e 1 h)
    · exact h2 (e 2 h)
    · exact h3 (e 3 h)
    · exact h4 (e 4 h)
    · exact h5 (e 5 h)
theorem sw13 {x : Int32} (h1 : ¬ x = 1) (h2 : ¬ x = 2) (h3 : ¬ x = 3) : x.toInt < 1 ∨ 3 < x.toInt := by
  by_cases hc : x.toInt < 1 ∨ 3 < x.toInt
  · exact hc
  · exfalso
    have e : ∀ k : Int32, x.toInt = k.toInt → x = k := fun k h => Int32.toInt_inj.mp h
    have hx : x.toInt = 1 ∨ x.toInt = 2 ∨ x.toInt = 3 := by omega
    rcases hx with h | h | h
    · exact h1 (e 1 h)
    · exact h2 (e 2 h)
    · exact h3 (e 3 h)
set_option maxHeartbeats 4000000 in
set_option maxRecDepth 100000 in
theorem k_PL_holds (l : Launch) (G : gP) (ad : Nat → Nat) (σ : Nat → Nat → Int32) (τ : Nat → Nat → Int64) (i : Nat) (hi : i < 12) (a b d : Int32) : gpu l y_PL_holds c_PL_holds 4 (some .boolean) { frames := 0, cells := 0, slots := 0, locals := 0 } G ad σ τ [.ref (ad (68 + i)), .int a, .int b, .int d] 0 0 (fun v => v = some (.int (if hld σ (68 + i) a b d then 1 else 0))) (fun _ => False) := by
  refine gs_of (fun _ h => h.elim) (by decide) (Nat.le_of_ble_eq_true rfl) ?_
  intro p e s m args below meth c ls S hk hr hx hl hO
  have hl : lv_has ls 4 [(0, .ref (ad (68 + i))), (1, .int a), (2, .int b), (3, .int d)] := hl
  refine lv_iload_n S.1 S.2.1 d_PL_holds_0 rfl (lv_at hl 1 rfl) ?_
  refine lv_aload_n S.1 S.2.1 d_PL_holds_1 rfl (lv_at hl 0 rfl) ?_
  refine g_get S hO fl_PL_9 (by omega) (sh_PL G ad _ _ (by omega)) (v := .int (σ (68 + i) 0)) rfl d_PL_holds_2 ?_
  refine lv_icmp_gt (tgt := 28) S.1 S.2.1 d_PL_holds_5 (by decide) (fun c_5 => ?_) (fun c_5 => ?_)
  · skip
    refine lv_iconst (v := 0) S.1 S.2.1 d_PL_holds_28 (by decide) ?_
    exact pu_z S hk hr hO (by first | exact Or.inl rfl | exact Or.inr rfl) (by first | exact z_p ⟨Int32.not_lt.mp c_5, Int32.not_lt.mp c_13, Int32.not_lt.mp c_21⟩ | exact z_n (fun z => Int32.not_le.mpr c_5 z.1) | exact z_n (fun z => Int32.not_le.mpr c_13 z.2.1) | exact z_n (fun z => Int32.not_le.mpr c_21 z.2.2)) (Nat.le_of_ble_eq_true rfl) (Nat.le_of_ble_eq_true rfl) d_PL_holds_29
  · skip
    refine lv_iload_n S.1 S.2.1 d_PL_holds_8 rfl (lv_at hl 2 rfl) ?_
    refine lv_aload_n S.1 S.2.1 d_PL_holds_9 rfl (lv_at hl 0 rfl) ?_
    refine g_get S hO fl_PL_15 (by omega) (sh_PL G ad _ _ (by omega)) (v := .int (σ (68 + i) 1)) rfl d_PL_holds_10 ?_
    refine lv_icmp_gt (tgt := 28) S.1 S.2.1 d_PL_holds_13 (by decide) (fun c_13 => ?_) (fun c_13 => ?_)
    · skip
      refine lv_iconst (v := 0) S.1 S.2.1 d_PL_holds_28 (by decide) ?_
      exact pu_z S hk hr hO (by first | exact Or.inl rfl | exact Or.inr rfl) (by first | exact z_p ⟨Int32.not_lt.mp c_5, Int32.not_lt.mp c_13, Int32.not_lt.mp c_21⟩ | exact z_n (fun z => Int32.not_le.mpr c_5 z.1) | exact z_n (fun z => Int32.not_le.mpr c_13 z.2.1) | exact z_n (fun z => Int32.not_le.mpr c_21 z.2.2)) (Nat.le_of_ble_eq_true rfl) (Nat.le_of_ble_eq_true rfl) d_PL_holds_29
    · skip
      refine lv_iload_n S.1 S.2.1 d_PL_holds_16 rfl (lv_at hl 3 rfl) ?_
      refine lv_aload_n S.1 S.2.1 d_PL_holds_17 rfl (lv_at hl 0 rfl) ?_
      refine g_get S hO fl_PL_18 (by omega) (sh_PL G ad _ _ (by omega)) (v := .int (σ (68 + i) 2)) rfl d_PL_holds_18 ?_
      refine lv_icmp_gt (tgt := 28) S.1 S.2.1 d_PL_holds_21 (by decide) (fun c_21 => ?_) (fun c_21 => ?_)
      · skip
        refine lv_iconst (v := 0) S.1 S.2.1 d_PL_holds_28 (by decide) ?_
        exact pu_z S hk hr hO (by first | exact Or.inl rfl | exact Or.inr rfl) (by first | exact z_p ⟨Int32.not_lt.mp c_5, Int32.not_lt.mp c_13, Int32.not_lt.mp c_21⟩ | exact z_n (fun z => Int32.not_le.mpr c_5 z.1) | exact z_n (fun z => Int32.not_le.mpr c_13 z.2.1) | exact z_n (fun z => Int32.not_le.mpr c_21 z.2.2)) (Nat.le_of_ble_eq_true rfl) (Nat.le_of_ble_eq_true rfl) d_PL_holds_29
      · skip
        refine lv_iconst (v := 1) S.1 S.2.1 d_PL_holds_24 (by decide) ?_
        refine lv_goto (tgt := 29) S.1 S.2.1 d_PL_holds_25 (by decide) ?_
        exact pu_z S hk hr hO (by first | exact Or.inl rfl | exact Or.inr rfl) (by first | exact z_p ⟨Int32.not_lt.mp c_5, Int32.not_lt.mp c_13, Int32.not_lt.mp c_21⟩ | exact z_n (fun z => Int32.not_le.mpr c_5 z.1) | exact z_n (fun z => Int32.not_le.mpr c_13 z.2.1) | exact z_n (fun z => Int32.not_le.mpr c_21 z.2.2)) (Nat.le_of_ble_eq_true rfl) (Nat.le_of_ble_eq_true rfl) d_PL_holds_29
set_option maxHeartbeats 4000000 in
set_option maxRecDepth 100000 in
theorem k_PL_fits (l : Launch) (G : gP) (ad : Nat → Nat) (σ : Nat → Nat → Int32) (τ : Nat → Nat → Int64) (i : Nat) (hi : i < 12) (u : Nat) (hu : u < 40) (a : Int32) : gpu l y_PL_fits c_PL_fits 3 (some .boolean) { frames := 1, cells := 0, slots := 0, locals := 23 } G ad σ τ [.ref (ad (68 + i)), .ref (ad (80 + u)), .int a] 0 0 (fun v => v = some (.int (if fit6 σ (68 + i) (80 + u) a then 1 else 0))) (fun _ => False) := by
  refine gs_of (fun _ h => h.elim) (by decide) (Nat.le_of_ble_eq_true rfl) ?_
  intro p e s m args below meth c ls S hk hr hx hl hO
  have hl : lv_has ls 3 [(0, .ref (ad (68 + i))), (1, .ref (ad (80 + u))), (2, .int a)] := hl
  refine lv_iload_n S.1 S.2.1 d_PL_fits_0 rfl (lv_at hl 2 rfl) ?_
  by_cases w_1_0 : a = 0
  · rw [w_1_0]
    refine lv_tableIn (tgt := 40) S.1 S.2.1 d_PL_fits_1 (by decide) (by decide) rfl (by decide) ?_
    refine lv_aload_n S.1 S.2.1 d_PL_fits_40 rfl (lv_at hl 0 rfl) ?_
    refine lv_aload_n S.1 S.2.1 d_PL_fits_41 rfl (lv_at hl 1 rfl) ?_
    refine g_get S hO fl_PL_29 (by omega) (sh_UN G ad _ _ (by omega)) (v := .int (σ (80 + u) 3)) rfl d_PL_fits_42 ?_
    refine lv_aload_n S.1 S.2.1 d_PL_fits_45 rfl (lv_at hl 1 rfl) ?_
    refine g_get S hO fl_PL_32 (by omega) (sh_UN G ad _ _ (by omega)) (v := .int (σ (80 + u) 4)) rfl d_PL_fits_46 ?_
    refine lv_aload_n S.1 S.2.1 d_PL_fits_49 rfl (lv_at hl 1 rfl) ?_
    refine g_get S hO fl_PL_33 (by omega) (sh_UN G ad _ _ (by omega)) (v := .int (σ (80 + u) 5)) rfl d_PL_fits_50 ?_
    refine g_VP (As := [.int (σ (80 + u) 3), .int (σ (80 + u) 4), .int (σ (80 + u) 5)]) (rest := []) S hO (k_PL_holds l G ad σ τ i (by omega) (σ (80 + u) 3) (σ (80 + u) 4) (σ (80 + u) 5)) cw_PL_34 (by omega) (sh_PL G ad _ _ (by omega)) rfl rfl hl.1 (Nat.le_of_ble_eq_true rfl) ⟨(Nat.le_of_ble_eq_true rfl), (Nat.le_of_ble_eq_true rfl)⟩ ⟨(Nat.le_of_ble_eq_true rfl), (Nat.le_of_ble_eq_true rfl)⟩ d_PL_fits_53 (fun q x ce H h9 => h9.elim) (fun v H v_1 hO => ?_)
    subst v_1
    refine W.eq (g2 := F0 m 56 ls [.int (if hld σ (68 + i) (σ (80 + u) 3) (σ (80 + u) 4) (σ (80 + u) 5) then 1 else 0)]) rfl ?_
    exact pu_z S hk hr hO z_01 (by by_cases z9 : hld σ (68 + i) (σ (80 + u) 3) (σ (80 + u) 4) (σ (80 + u) 5) <;> simp [fit6, z9]) (Nat.le_of_ble_eq_true rfl) (Nat.le_of_ble_eq_true rfl) d_PL_fits_56
  by_cases w_1_1 : a = 1
  · rw [w_1_1]
    refine lv_tableIn (tgt := 57) S.1 S.2.1 d_PL_fits_1 (by decide) (by decide) rfl (by decide) ?_
    refine lv_aload_n S.1 S.2.1 d_PL_fits_57 rfl (lv_at hl 0 rfl) ?_
    refine lv_aload_n S.1 S.2.1 d_PL_fits_58 rfl (lv_at hl 1 rfl) ?_
    refine g_get S hO fl_PL_29 (by omega) (sh_UN G ad _ _ (by omega)) (v := .int (σ (80 + u) 3)) rfl d_PL_fits_59 ?_
    refine lv_aload_n S.1 S.2.1 d_PL_fits_62 rfl (lv_at hl 1 rfl) ?_
    refine g_get S hO fl_PL_33 (by omega) (sh_UN G ad _ _ (by omega)) (v := .int (σ (80 + u) 5)) rfl d_PL_fits_63 ?_
    refine lv_aload_n S.1 S.2.1 d_PL_fits_66 rfl (lv_at hl 1 rfl) ?_
    refine g_get S hO fl_PL_32 (by omega) (sh_UN G ad _ _ (by omega)) (v := .int (σ (80 + u) 4)) rfl d_PL_fits_67 ?_
    refine g_VP (As := [.int (σ (80 + u) 3), .int (σ (80 + u) 5), .int (σ (80 + u) 4)]) (rest := []) S hO (k_PL_holds l G ad σ τ i (by omega) (σ (80 + u) 3) (σ (80 + u) 5) (σ (80 + u) 4)) cw_PL_34 (by omega) (sh_PL G ad _ _ (by omega)) rfl rfl hl.1 (Nat.le_of_ble_eq_true rfl) ⟨(Nat.le_of_ble_eq_true rfl), (Nat.le_of_ble_eq_true rfl)⟩ ⟨(Nat.le_of_ble_eq_true rfl), (Nat.le_of_ble_eq_true rfl)⟩ d_PL_fits_70 (fun q x ce H h9 => h9.elim) (fun v H v_2 hO => ?_)
    subst v_2
    refine W.eq (g2 := F0 m 73 ls [.int (if hld σ (68 + i) (σ (80 + u) 3) (σ (80 + u) 5) (σ (80 + u) 4) then 1 else 0)]) rfl ?_
    exact pu_z S hk hr hO z_01 (by by_cases z9 : hld σ (68 + i) (σ (80 + u) 3) (σ (80 + u) 5) (σ (80 + u) 4) <;> simp [fit6, z9]) (Nat.le_of_ble_eq_true rfl) (Nat.le_of_ble_eq_true rfl) d_PL_fits_73
  by_cases w_1_2 : a = 2
  · rw [w_1_2]
    refine lv_tableIn (tgt := 74) S.1 S.2.1 d_PL_fits_1 (by decide) (by decide) rfl (by decide) ?_
    refine lv_aload_n S.1 S.2.1 d_PL_fits_74 rfl (lv_at hl 0 rfl) ?_
    refine lv_aload_n S.1 S.2.1 d_PL_fits_75 rfl (lv_at hl 1 rfl) ?_
    refine g_get S hO fl_PL_32 (by omega) (sh_UN G ad _ _ (by omega)) (v := .int (σ (80 + u) 4)) rfl d_PL_fits_76 ?_
    refine lv_aload_n S.1 S.2.1 d_PL_fits_79 rfl (lv_at hl 1 rfl) ?_
    refine g_get S hO fl_PL_29 (by omega) (sh_UN G ad _ _ (by omega)) (v := .int (σ (80 + u) 3)) rfl d_PL_fits_80 ?_
    refine lv_aload_n S.1 S.2.1 d_PL_fits_83 rfl (lv_at hl 1 rfl) ?_
    refine g_get S hO fl_PL_33 (by omega) (sh_UN G ad _ _ (by omega)) (v := .int (σ (80 + u) 5)) rfl d_PL_fits_84 ?_
    refine g_VP (As := [.int (σ (80 + u) 4), .int (σ (80 + u) 3), .int (σ (80 + u) 5)]) (rest := []) S hO (k_PL_holds l G ad σ τ i (by omega) (σ (80 + u) 4) (σ (80 + u) 3) (σ (80 + u) 5)) cw_PL_34 (by omega) (sh_PL G ad _ _ (by omega)) rfl rfl hl.1 (Nat.le_of_ble_eq_true rfl) ⟨(Nat.le_of_ble_eq_true rfl), (Nat.le_of_ble_eq_true rfl)⟩ ⟨(Nat.le_of_ble_eq_true rfl), (Nat.le_of_ble_eq_true rfl)⟩ d_PL_fits_87 (fun q x ce H h9 => h9.elim) (fun v H v_3 hO => ?_)
    subst v_3
    refine W.eq (g2 := F0 m 90 ls [.int (if hld σ (68 + i) (σ (80 + u) 4) (σ (80 + u) 3) (σ (80 + u) 5) then 1 else 0)]) rfl ?_
    exact pu_z S hk hr hO z_01 (by by_cases z9 : hld σ (68 + i) (σ (80 + u) 4) (σ (80 + u) 3) (σ (80 + u) 5) <;> simp [fit6, z9]) (Nat.le_of_ble_eq_true rfl) (Nat.le_of_ble_eq_true rfl) d_PL_fits_90
  by_cases w_1_3 : a = 3
  · rw [w_1_3]
    refine lv_tableIn (tgt := 91) S.1 S.2.1 d_PL_fits_1 (by decide) (by decide) rfl (by decide) ?_
    refine lv_aload_n S.1 S.2.1 d_PL_fits_91 rfl (lv_at hl 0 rfl) ?_
    refine lv_aload_n S.1 S.2.1 d_PL_fits_92 rfl (lv_at hl 1 rfl) ?_
    refine g_get S hO fl_PL_32 (by omega) (sh_UN G ad _ _ (by omega)) (v := .int (σ (80 + u) 4)) rfl d_PL_fits_93 ?_
    refine lv_aload_n S.1 S.2.1 d_PL_fits_96 rfl (lv_at hl 1 rfl) ?_
    refine g_get S hO fl_PL_33 (by omega) (sh_UN G ad _ _ (by omega)) (v := .int (σ (80 + u) 5)) rfl d_PL_fits_97 ?_
    refine lv_aload_n S.1 S.2.1 d_PL_fits_100 rfl (lv_at hl 1 rfl) ?_
    refine g_get S hO fl_PL_29 (by omega) (sh_UN G ad _ _ (by omega)) (v := .int (σ (80 + u) 3)) rfl d_PL_fits_101 ?_
    refine g_VP (As := [.int (σ (80 + u) 4), .int (σ (80 + u) 5), .int (σ (80 + u) 3)]) (rest := []) S hO (k_PL_holds l G ad σ τ i (by omega) (σ (80 + u) 4) (σ (80 + u) 5) (σ (80 + u) 3)) cw_PL_34 (by omega) (sh_PL G ad _ _ (by omega)) rfl rfl hl.1 (Nat.le_of_ble_eq_true rfl) ⟨(Nat.le_of_ble_eq_true rfl), (Nat.le_of_ble_eq_true rfl)⟩ ⟨(Nat.le_of_ble_eq_true rfl), (Nat.le_of_ble_eq_true rfl)⟩ d_PL_fits_104 (fun q x ce H h9 => h9.elim) (fun v H v_4 hO => ?_)
    subst v_4
    refine W.eq (g2 := F0 m 107 ls [.int (if hld σ (68 + i) (σ (80 + u) 4) (σ (80 + u) 5) (σ (80 + u) 3) then 1 else 0)]) rfl ?_
    exact pu_z S hk hr hO z_01 (by by_cases z9 : hld σ (68 + i) (σ (80 + u) 4) (σ (80 + u) 5) (σ (80 + u) 3) <;> simp [fit6, z9]) (Nat.le_of_ble_eq_true rfl) (Nat.le_of_ble_eq_true rfl) d_PL_fits_107
  by_cases w_1_4 : a = 4
  · rw [w_1_4]
    refine lv_tableIn (tgt := 108) S.1 S.2.1 d_PL_fits_1 (by decide) (by decide) rfl (by decide) ?_
    refine lv_aload_n S.1 S.2.1 d_PL_fits_108 rfl (lv_at hl 0 rfl) ?_
    refine lv_aload_n S.1 S.2.1 d_PL_fits_109 rfl (lv_at hl 1 rfl) ?_
    refine g_get S hO fl_PL_33 (by omega) (sh_UN G ad _ _ (by omega)) (v := .int (σ (80 + u) 5)) rfl d_PL_fits_110 ?_
    refine lv_aload_n S.1 S.2.1 d_PL_fits_113 rfl (lv_at hl 1 rfl) ?_
    refine g_get S hO fl_PL_29 (by omega) (sh_UN G ad _ _ (by omega)) (v := .int (σ (80 + u) 3)) rfl d_PL_fits_114 ?_
    refine lv_aload_n S.1 S.2.1 d_PL_fits_117 rfl (lv_at hl 1 rfl) ?_
    refine g_get S hO fl_PL_32 (by omega) (sh_UN G ad _ _ (by omega)) (v := .int (σ (80 + u) 4)) rfl d_PL_fits_118 ?_
    refine g_VP (As := [.int (σ (80 + u) 5), .int (σ (80 + u) 3), .int (σ (80 + u) 4)]) (rest := []) S hO (k_PL_holds l G ad σ τ i (by omega) (σ (80 + u) 5) (σ (80 + u) 3) (σ (80 + u) 4)) cw_PL_34 (by omega) (sh_PL G ad _ _ (by omega)) rfl rfl hl.1 (Nat.le_of_ble_eq_true rfl) ⟨(Nat.le_of_ble_eq_true rfl), (Nat.le_of_ble_eq_true rfl)⟩ ⟨(Nat.le_of_ble_eq_true rfl), (Nat.le_of_ble_eq_true rfl)⟩ d_PL_fits_121 (fun q x ce H h9 => h9.elim) (fun v H v_5 hO => ?_)
    subst v_5
    refine W.eq (g2 := F0 m 124 ls [.int (if hld σ (68 + i) (σ (80 + u) 5) (σ (80 + u) 3) (σ (80 + u) 4) then 1 else 0)]) rfl ?_
    exact pu_z S hk hr hO z_01 (by by_cases z9 : hld σ (68 + i) (σ (80 + u) 5) (σ (80 + u) 3) (σ (80 + u) 4) <;> simp [fit6, z9]) (Nat.le_of_ble_eq_true rfl) (Nat.le_of_ble_eq_true rfl) d_PL_fits_124
  by_cases w_1_5 : a = 5
  · rw [w_1_5]
    refine lv_tableIn (tgt := 125) S.1 S.2.1 d_PL_fits_1 (by decide) (by decide) rfl (by decide) ?_
    refine lv_aload_n S.1 S.2.1 d_PL_fits_125 rfl (lv_at hl 0 rfl) ?_
    refine lv_aload_n S.1 S.2.1 d_PL_fits_126 rfl (lv_at hl 1 rfl) ?_
    refine g_get S hO fl_PL_33 (by omega) (sh_UN G ad _ _ (by omega)) (v := .int (σ (80 + u) 5)) rfl d_PL_fits_127 ?_
    refine lv_aload_n S.1 S.2.1 d_PL_fits_130 rfl (lv_at hl 1 rfl) ?_
    refine g_get S hO fl_PL_32 (by omega) (sh_UN G ad _ _ (by omega)) (v := .int (σ (80 + u) 4)) rfl d_PL_fits_131 ?_
    refine lv_aload_n S.1 S.2.1 d_PL_fits_134 rfl (lv_at hl 1 rfl) ?_
    refine g_get S hO fl_PL_29 (by omega) (sh_UN G ad _ _ (by omega)) (v := .int (σ (80 + u) 3)) rfl d_PL_fits_135 ?_
    refine g_VP (As := [.int (σ (80 + u) 5), .int (σ (80 + u) 4), .int (σ (80 + u) 3)]) (rest := []) S hO (k_PL_holds l G ad σ τ i (by omega) (σ (80 + u) 5) (σ (80 + u) 4) (σ (80 + u) 3)) cw_PL_34 (by omega) (sh_PL G ad _ _ (by omega)) rfl rfl hl.1 (Nat.le_of_ble_eq_true rfl) ⟨(Nat.le_of_ble_eq_true rfl), (Nat.le_of_ble_eq_true rfl)⟩ ⟨(Nat.le_of_ble_eq_true rfl), (Nat.le_of_ble_eq_true rfl)⟩ d_PL_fits_138 (fun q x ce H h9 => h9.elim) (fun v H v_6 hO => ?_)
    subst v_6
    refine W.eq (g2 := F0 m 141 ls [.int (if hld σ (68 + i) (σ (80 + u) 5) (σ (80 + u) 4) (σ (80 + u) 3) then 1 else 0)]) rfl ?_
    exact pu_z S hk hr hO z_01 (by by_cases z9 : hld σ (68 + i) (σ (80 + u) 5) (σ (80 + u) 4) (σ (80 + u) 3) <;> simp [fit6, z9]) (Nat.le_of_ble_eq_true rfl) (Nat.le_of_ble_eq_true rfl) d_PL_fits_141
  refine lv_tableOut (tgt := 142) S.1 S.2.1 d_PL_fits_1 (sw05 w_1_0 w_1_1 w_1_2 w_1_3 w_1_4 w_1_5) (by decide) ?_
  refine lv_iconst (v := 0) S.1 S.2.1 d_PL_fits_142 (by decide) ?_
  exact pu_z S hk hr hO (by first | exact Or.inl rfl | exact Or.inr rfl) (z_n (fun z => z.elim (fun q => w_1_0 q.1) (fun z => z.elim (fun q => w_1_1 q.1) (fun z => z.elim (fun q => w_1_2 q.1) (fun z => z.elim (fun q => w_1_3 q.1) (fun z => z.elim (fun q => w_1_4 q.1) (fun q => w_1_5 q.1))))))) (Nat.le_of_ble_eq_true rfl) (Nat.le_of_ble_eq_true rfl) d_PL_fits_143
abbrev cov (σ : Nat → Nat → Int32) (k : Nat) (r p o d : Int32) : Prop := σ k 0 = r ∧ (σ k 1 = (-1) ∨ σ k 1 = p) ∧ (σ k 2 = (-1) ∨ σ k 2 = o) ∧ d ≤ σ k 3
set_option maxHeartbeats 4000000 in
set_option maxRecDepth 100000 in
theorem k_WV_covers (l : Launch) (G : gP) (ad : Nat → Nat) (σ : Nat → Nat → Int32) (τ : Nat → Nat → Int64) (i : Nat) (hi : i < 20) (r a b d : Int32) : gpu l y_WV_covers c_WV_covers 5 (some .boolean) { frames := 0, cells := 0, slots := 0, locals := 0 } G ad σ τ [.ref (ad (120 + i)), .int r, .int a, .int b, .int d] 0 0 (fun v => v = some (.int (if cov σ (120 + i) r a b d then 1 else 0))) (fun _ => False) := by
  refine gs_of (fun _ h => h.elim) (by decide) (Nat.le_of_ble_eq_true rfl) ?_
  intro p e s m args below meth c ls S hk hr hx hl hO
  have hl : lv_has ls 5 [(0, .ref (ad (120 + i))), (1, .int r), (2, .int a), (3, .int b), (4, .int d)] := hl
  refine lv_aload_n S.1 S.2.1 d_WV_covers_0 rfl (lv_at hl 0 rfl) ?_
  refine g_get S hO fl_WV_9 (by omega) (sh_WV G ad _ _ (by omega)) (v := .int (σ (120 + i) 0)) rfl d_WV_covers_1 ?_
  refine lv_iload_n S.1 S.2.1 d_WV_covers_4 rfl (lv_at hl 1 rfl) ?_
  refine lv_icmp_ne (tgt := 53) S.1 S.2.1 d_WV_covers_5 (by decide) (fun c_5 => ?_) (fun c_5 => ?_)
  · skip
    refine lv_iconst (v := 0) S.1 S.2.1 d_WV_covers_53 (by decide) ?_
    exact pu_z S hk hr hO (by first | exact Or.inl rfl | exact Or.inr rfl) (by first | exact z_n (fun z => c_5 z.1) | exact z_n (fun z => z.2.1.elim c_13 c_21) | exact z_n (fun z => z.2.2.1.elim c_29 c_37) | exact z_n (fun z => Int32.not_le.mpr c_46 z.2.2.2) | exact z_p ⟨c_5, Or.inl c_13, Or.inl c_29, Int32.not_lt.mp c_46⟩ | exact z_p ⟨c_5, Or.inl c_13, Or.inr c_37, Int32.not_lt.mp c_46⟩ | exact z_p ⟨c_5, Or.inr c_21, Or.inl c_29, Int32.not_lt.mp c_46⟩ | exact z_p ⟨c_5, Or.inr c_21, Or.inr c_37, Int32.not_lt.mp c_46⟩) (Nat.le_of_ble_eq_true rfl) (Nat.le_of_ble_eq_true rfl) d_WV_covers_54
  · skip
    refine lv_aload_n S.1 S.2.1 d_WV_covers_8 rfl (lv_at hl 0 rfl) ?_
    refine g_get S hO fl_WV_15 (by omega) (sh_WV G ad _ _ (by omega)) (v := .int (σ (120 + i) 1)) rfl d_WV_covers_9 ?_
    refine lv_iconst (v := (-1)) S.1 S.2.1 d_WV_covers_12 (by decide) ?_
    refine lv_icmp_eq (tgt := 24) S.1 S.2.1 d_WV_covers_13 (by decide) (fun c_13 => ?_) (fun c_13 => ?_)
    · skip
      refine lv_aload_n S.1 S.2.1 d_WV_covers_24 rfl (lv_at hl 0 rfl) ?_
      refine g_get S hO fl_WV_18 (by omega) (sh_WV G ad _ _ (by omega)) (v := .int (σ (120 + i) 2)) rfl d_WV_covers_25 ?_
      refine lv_iconst (v := (-1)) S.1 S.2.1 d_WV_covers_28 (by decide) ?_
      refine lv_icmp_eq (tgt := 40) S.1 S.2.1 d_WV_covers_29 (by decide) (fun c_29 => ?_) (fun c_29 => ?_)
      · skip
        refine lv_iload S.1 S.2.1 d_WV_covers_40 (lv_at hl 4 rfl) ?_
        refine lv_aload_n S.1 S.2.1 d_WV_covers_42 rfl (lv_at hl 0 rfl) ?_
        refine g_get S hO fl_WV_21 (by omega) (sh_WV G ad _ _ (by omega)) (v := .int (σ (120 + i) 3)) rfl d_WV_covers_43 ?_
        refine lv_icmp_gt (tgt := 53) S.1 S.2.1 d_WV_covers_46 (by decide) (fun c_46 => ?_) (fun c_46 => ?_)
        · skip
          refine lv_iconst (v := 0) S.1 S.2.1 d_WV_covers_53 (by decide) ?_
          exact pu_z S hk hr hO (by first | exact Or.inl rfl | exact Or.inr rfl) (by first | exact z_n (fun z => c_5 z.1) | exact z_n (fun z => z.2.1.elim c_13 c_21) | exact z_n (fun z => z.2.2.1.elim c_29 c_37) | exact z_n (fun z => Int32.not_le.mpr c_46 z.2.2.2) | exact z_p ⟨c_5, Or.inl c_13, Or.inl c_29, Int32.not_lt.mp c_46⟩ | exact z_p ⟨c_5, Or.inl c_13, Or.inr c_37, Int32.not_lt.mp c_46⟩ | exact z_p ⟨c_5, Or.inr c_21, Or.inl c_29, Int32.not_lt.mp c_46⟩ | exact z_p ⟨c_5, Or.inr c_21, Or.inr c_37, Int32.not_lt.mp c_46⟩) (Nat.le_of_ble_eq_true rfl) (Nat.le_of_ble_eq_true rfl) d_WV_covers_54
        · skip
          refine lv_iconst (v := 1) S.1 S.2.1 d_WV_covers_49 (by decide) ?_
          refine lv_goto (tgt := 54) S.1 S.2.1 d_WV_covers_50 (by decide) ?_
          exact pu_z S hk hr hO (by first | exact Or.inl rfl | exact Or.inr rfl) (by first | exact z_n (fun z => c_5 z.1) | exact z_n (fun z => z.2.1.elim c_13 c_21) | exact z_n (fun z => z.2.2.1.elim c_29 c_37) | exact z_n (fun z => Int32.not_le.mpr c_46 z.2.2.2) | exact z_p ⟨c_5, Or.inl c_13, Or.inl c_29, Int32.not_lt.mp c_46⟩ | exact z_p ⟨c_5, Or.inl c_13, Or.inr c_37, Int32.not_lt.mp c_46⟩ | exact z_p ⟨c_5, Or.inr c_21, Or.inl c_29, Int32.not_lt.mp c_46⟩ | exact z_p ⟨c_5, Or.inr c_21, Or.inr c_37, Int32.not_lt.mp c_46⟩) (Nat.le_of_ble_eq_true rfl) (Nat.le_of_ble_eq_true rfl) d_WV_covers_54
      · skip
        refine lv_aload_n S.1 S.2.1 d_WV_covers_32 rfl (lv_at hl 0 rfl) ?_
        refine g_get S hO fl_WV_18 (by omega) (sh_WV G ad _ _ (by omega)) (v := .int (σ (120 + i) 2)) rfl d_WV_covers_33 ?_
        refine lv_iload_n S.1 S.2.1 d_WV_covers_36 rfl (lv_at hl 3 rfl) ?_
        refine lv_icmp_ne (tgt := 53) S.1 S.2.1 d_WV_covers_37 (by decide) (fun c_37 => ?_) (fun c_37 => ?_)
        · skip
          refine lv_iconst (v := 0) S.1 S.2.1 d_WV_covers_53 (by decide) ?_
          exact pu_z S hk hr hO (by first | exact Or.inl rfl | exact Or.inr rfl) (by first | exact z_n (fun z => c_5 z.1) | exact z_n (fun z => z.2.1.elim c_13 c_21) | exact z_n (fun z => z.2.2.1.elim c_29 c_37) | exact z_n (fun z => Int32.not_le.mpr c_46 z.2.2.2) | exact z_p ⟨c_5, Or.inl c_13, Or.inl c_29, Int32.not_lt.mp c_46⟩ | exact z_p ⟨c_5, Or.inl c_13, Or.inr c_37, Int32.not_lt.mp c_46⟩ | exact z_p ⟨c_5, Or.inr c_21, Or.inl c_29, Int32.not_lt.mp c_46⟩ | exact z_p ⟨c_5, Or.inr c_21, Or.inr c_37, Int32.not_lt.mp c_46⟩) (Nat.le_of_ble_eq_true rfl) (Nat.le_of_ble_eq_true rfl) d_WV_covers_54
        · skip
          refine lv_iload S.1 S.2.1 d_WV_covers_40 (lv_at hl 4 rfl) ?_
          refine lv_aload_n S.1 S.2.1 d_WV_covers_42 rfl (lv_at hl 0 rfl) ?_
          refine g_get S hO fl_WV_21 (by omega) (sh_WV G ad _ _ (by omega)) (v := .int (σ (120 + i) 3)) rfl d_WV_covers_43 ?_
          refine lv_icmp_gt (tgt := 53) S.1 S.2.1 d_WV_covers_46 (by decide) (fun c_46 => ?_) (fun c_46 => ?_)
          · skip
            refine lv_iconst (v := 0) S.1 S.2.1 d_WV_covers_53 (by decide) ?_
            exact pu_z S hk hr hO (by first | exact Or.inl rfl | exact Or.inr rfl) (by first | exact z_n (fun z => c_5 z.1) | exact z_n (fun z => z.2.1.elim c_13 c_21) | exact z_n (fun z => z.2.2.1.elim c_29 c_37) | exact z_n (fun z => Int32.not_le.mpr c_46 z.2.2.2) | exact z_p ⟨c_5, Or.inl c_13, Or.inl c_29, Int32.not_lt.mp c_46⟩ | exact z_p ⟨c_5, Or.inl c_13, Or.inr c_37, Int32.not_lt.mp c_46⟩ | exact z_p ⟨c_5, Or.inr c_21, Or.inl c_29, Int32.not_lt.mp c_46⟩ | exact z_p ⟨c_5, Or.inr c_21, Or.inr c_37, Int32.not_lt.mp c_46⟩) (Nat.le_of_ble_eq_true rfl) (Nat.le_of_ble_eq_true rfl) d_WV_covers_54
          · skip
            refine lv_iconst (v := 1) S.1 S.2.1 d_WV_covers_49 (by decide) ?_
            refine lv_goto (tgt := 54) S.1 S.2.1 d_WV_covers_50 (by decide) ?_
            exact pu_z S hk hr hO (by first | exact Or.inl rfl | exact Or.inr rfl) (by first | exact z_n (fun z => c_5 z.1) | exact z_n (fun z => z.2.1.elim c_13 c_21) | exact z_n (fun z => z.2.2.1.elim c_29 c_37) | exact z_n (fun z => Int32.not_le.mpr c_46 z.2.2.2) | exact z_p ⟨c_5, Or.inl c_13, Or.inl c_29, Int32.not_lt.mp c_46⟩ | exact z_p ⟨c_5, Or.inl c_13, Or.inr c_37, Int32.not_lt.mp c_46⟩ | exact z_p ⟨c_5, Or.inr c_21, Or.inl c_29, Int32.not_lt.mp c_46⟩ | exact z_p ⟨c_5, Or.inr c_21, Or.inr c_37, Int32.not_lt.mp c_46⟩) (Nat.le_of_ble_eq_true rfl) (Nat.le_of_ble_eq_true rfl) d_WV_covers_54
    · skip
      refine lv_aload_n S.1 S.2.1 d_WV_covers_16 rfl (lv_at hl 0 rfl) ?_
      refine g_get S hO fl_WV_15 (by omega) (sh_WV G ad _ _ (by omega)) (v := .int (σ (120 + i) 1)) rfl d_WV_covers_17 ?_
      refine lv_iload_n S.1 S.2.1 d_WV_covers_20 rfl (lv_at hl 2 rfl) ?_
      refine lv_icmp_ne (tgt := 53) S.1 S.2.1 d_WV_covers_21 (by decide) (fun c_21 => ?_) (fun c_21 => ?_)
      · skip
        refine lv_iconst (v := 0) S.1 S.2.1 d_WV_covers_53 (by decide) ?_
        exact pu_z S hk hr hO (by first | exact Or.inl rfl | exact Or.inr rfl) (by first | exact z_n (fun z => c_5 z.1) | exact z_n (fun z => z.2.1.elim c_13 c_21) | exact z_n (fun z => z.2.2.1.elim c_29 c_37) | exact z_n (fun z => Int32.not_le.mpr c_46 z.2.2.2) | exact z_p ⟨c_5, Or.inl c_13, Or.inl c_29, Int32.not_lt.mp c_46⟩ | exact z_p ⟨c_5, Or.inl c_13, Or.inr c_37, Int32.not_lt.mp c_46⟩ | exact z_p ⟨c_5, Or.inr c_21, Or.inl c_29, Int32.not_lt.mp c_46⟩ | exact z_p ⟨c_5, Or.inr c_21, Or.inr c_37, Int32.not_lt.mp c_46⟩) (Nat.le_of_ble_eq_true rfl) (Nat.le_of_ble_eq_true rfl) d_WV_covers_54
      · skip
        refine lv_aload_n S.1 S.2.1 d_WV_covers_24 rfl (lv_at hl 0 rfl) ?_
        refine g_get S hO fl_WV_18 (by omega) (sh_WV G ad _ _ (by omega)) (v := .int (σ (120 + i) 2)) rfl d_WV_covers_25 ?_
        refine lv_iconst (v := (-1)) S.1 S.2.1 d_WV_covers_28 (by decide) ?_
        refine lv_icmp_eq (tgt := 40) S.1 S.2.1 d_WV_covers_29 (by decide) (fun c_29 => ?_) (fun c_29 => ?_)
        · skip
          refine lv_iload S.1 S.2.1 d_WV_covers_40 (lv_at hl 4 rfl) ?_
          refine lv_aload_n S.1 S.2.1 d_WV_covers_42 rfl (lv_at hl 0 rfl) ?_
          refine g_get S hO fl_WV_21 (by omega) (sh_WV G ad _ _ (by omega)) (v := .int (σ (120 + i) 3)) rfl d_WV_covers_43 ?_
          refine lv_icmp_gt (tgt := 53) S.1 S.2.1 d_WV_covers_46 (by decide) (fun c_46 => ?_) (fun c_46 => ?_)
          · skip
            refine lv_iconst (v := 0) S.1 S.2.1 d_WV_covers_53 (by decide) ?_
            exact pu_z S hk hr hO (by first | exact Or.inl rfl | exact Or.inr rfl) (by first | exact z_n (fun z => c_5 z.1) | exact z_n (fun z => z.2.1.elim c_13 c_21) | exact z_n (fun z => z.2.2.1.elim c_29 c_37) | exact z_n (fun z => Int32.not_le.mpr c_46 z.2.2.2) | exact z_p ⟨c_5, Or.inl c_13, Or.inl c_29, Int32.not_lt.mp c_46⟩ | exact z_p ⟨c_5, Or.inl c_13, Or.inr c_37, Int32.not_lt.mp c_46⟩ | exact z_p ⟨c_5, Or.inr c_21, Or.inl c_29, Int32.not_lt.mp c_46⟩ | exact z_p ⟨c_5, Or.inr c_21, Or.inr c_37, Int32.not_lt.mp c_46⟩) (Nat.le_of_ble_eq_true rfl) (Nat.le_of_ble_eq_true rfl) d_WV_covers_54
          · skip
            refine lv_iconst (v := 1) S.1 S.2.1 d_WV_covers_49 (by decide) ?_
            refine lv_goto (tgt := 54) S.1 S.2.1 d_WV_covers_50 (by decide) ?_
            exact pu_z S hk hr hO (by first | exact Or.inl rfl | exact Or.inr rfl) (by first | exact z_n (fun z => c_5 z.1) | exact z_n (fun z => z.2.1.elim c_13 c_21) | exact z_n (fun z => z.2.2.1.elim c_29 c_37) | exact z_n (fun z => Int32.not_le.mpr c_46 z.2.2.2) | exact z_p ⟨c_5, Or.inl c_13, Or.inl c_29, Int32.not_lt.mp c_46⟩ | exact z_p ⟨c_5, Or.inl c_13, Or.inr c_37, Int32.not_lt.mp c_46⟩ | exact z_p ⟨c_5, Or.inr c_21, Or.inl c_29, Int32.not_lt.mp c_46⟩ | exact z_p ⟨c_5, Or.inr c_21, Or.inr c_37, Int32.not_lt.mp c_46⟩) (Nat.le_of_ble_eq_true rfl) (Nat.le_of_ble_eq_true rfl) d_WV_covers_54
        · skip
          refine lv_aload_n S.1 S.2.1 d_WV_covers_32 rfl (lv_at hl 0 rfl) ?_
          refine g_get S hO fl_WV_18 (by omega) (sh_WV G ad _ _ (by omega)) (v := .int (σ (120 + i) 2)) rfl d_WV_covers_33 ?_
          refine lv_iload_n S.1 S.2.1 d_WV_covers_36 rfl (lv_at hl 3 rfl) ?_
          refine lv_icmp_ne (tgt := 53) S.1 S.2.1 d_WV_covers_37 (by decide) (fun c_37 => ?_) (fun c_37 => ?_)
          · skip
            refine lv_iconst (v := 0) S.1 S.2.1 d_WV_covers_53 (by decide) ?_
            exact pu_z S hk hr hO (by first | exact Or.inl rfl | exact Or.inr rfl) (by first | exact z_n (fun z => c_5 z.1) | exact z_n (fun z => z.2.1.elim c_13 c_21) | exact z_n (fun z => z.2.2.1.elim c_29 c_37) | exact z_n (fun z => Int32.not_le.mpr c_46 z.2.2.2) | exact z_p ⟨c_5, Or.inl c_13, Or.inl c_29, Int32.not_lt.mp c_46⟩ | exact z_p ⟨c_5, Or.inl c_13, Or.inr c_37, Int32.not_lt.mp c_46⟩ | exact z_p ⟨c_5, Or.inr c_21, Or.inl c_29, Int32.not_lt.mp c_46⟩ | exact z_p ⟨c_5, Or.inr c_21, Or.inr c_37, Int32.not_lt.mp c_46⟩) (Nat.le_of_ble_eq_true rfl) (Nat.le_of_ble_eq_true rfl) d_WV_covers_54
          · skip
            refine lv_iload S.1 S.2.1 d_WV_covers_40 (lv_at hl 4 rfl) ?_
            refine lv_aload_n S.1 S.2.1 d_WV_covers_42 rfl (lv_at hl 0 rfl) ?_
            refine g_get S hO fl_WV_21 (by omega) (sh_WV G ad _ _ (by omega)) (v := .int (σ (120 + i) 3)) rfl d_WV_covers_43 ?_
            refine lv_icmp_gt (tgt := 53) S.1 S.2.1 d_WV_covers_46 (by decide) (fun c_46 => ?_) (fun c_46 => ?_)
            · skip
              refine lv_iconst (v := 0) S.1 S.2.1 d_WV_covers_53 (by decide) ?_
              exact pu_z S hk hr hO (by first | exact Or.inl rfl | exact Or.inr rfl) (by first | exact z_n (fun z => c_5 z.1) | exact z_n (fun z => z.2.1.elim c_13 c_21) | exact z_n (fun z => z.2.2.1.elim c_29 c_37) | exact z_n (fun z => Int32.not_le.mpr c_46 z.2.2.2) | exact z_p ⟨c_5, Or.inl c_13, Or.inl c_29, Int32.not_lt.mp c_46⟩ | exact z_p ⟨c_5, Or.inl c_13, Or.inr c_37, Int32.not_lt.mp c_46⟩ | exact z_p ⟨c_5, Or.inr c_21, Or.inl c_29, Int32.not_lt.mp c_46⟩ | exact z_p ⟨c_5, Or.inr c_21, Or.inr c_37, Int32.not_lt.mp c_46⟩) (Nat.le_of_ble_eq_true rfl) (Nat.le_of_ble_eq_true rfl) d_WV_covers_54
            · skip
              refine lv_iconst (v := 1) S.1 S.2.1 d_WV_covers_49 (by decide) ?_
              refine lv_goto (tgt := 54) S.1 S.2.1 d_WV_covers_50 (by decide) ?_
              exact pu_z S hk hr hO (by first | exact Or.inl rfl | exact Or.inr rfl) (by first | exact z_n (fun z => c_5 z.1) | exact z_n (fun z => z.2.1.elim c_13 c_21) | exact z_n (fun z => z.2.2.1.elim c_29 c_37) | exact z_n (fun z => Int32.not_le.mpr c_46 z.2.2.2) | exact z_p ⟨c_5, Or.inl c_13, Or.inl c_29, Int32.not_lt.mp c_46⟩ | exact z_p ⟨c_5, Or.inl c_13, Or.inr c_37, Int32.not_lt.mp c_46⟩ | exact z_p ⟨c_5, Or.inr c_21, Or.inl c_29, Int32.not_lt.mp c_46⟩ | exact z_p ⟨c_5, Or.inr c_21, Or.inr c_37, Int32.not_lt.mp c_46⟩) (Nat.le_of_ble_eq_true rfl) (Nat.le_of_ble_eq_true rfl) d_WV_covers_54
set_option maxHeartbeats 4000000 in
set_option maxRecDepth 100000 in
theorem k_NS_clear (l : Launch) (G : gP) (ad : Nat → Nat) (σ : Nat → Nat → Int32) (τ : Nat → Nat → Int64) (i : Nat) (hi : i < 4) : gim l y_NS_clear c_NS_clear 1 none { frames := 0, cells := 0, slots := 0, locals := 0 } G ad σ τ [.ref (ad (63 + i))] 0 0 (fun v σ1 τ1 => v = none ∧ σ1 = σ ∧ τ1 = up2L (up2L τ (63 + i) 0 0) (63 + i) 1 0) (fun _ => False) := by
  refine gs_of (fun _ h => h) (by decide) (Nat.le_of_ble_eq_true rfl) ?_
  intro p e s m args below meth c ls S hk hr hx hl hO
  have hl : lv_has ls 1 [(0, .ref (ad (63 + i)))] := hl
  refine lv_aload_n S.1 S.2.1 d_NS_clear_0 rfl (lv_at hl 0 rfl) ?_
  refine lv_lconst (v := 0) S.1 S.2.1 d_NS_clear_1 (by decide) ?_
  obtain ⟨t_1, ht_1⟩ : ∃ z : Nat → Nat → Int64, z = up2L τ (63 + i) 0 0 := ⟨_, rfl⟩
  refine g_put S hO (fun _ h => h) fp_NS_7 (by omega) (sh_NS G ad _ _ (by omega)) (v := .long 0) rfl rfl (Nat.le_of_ble_eq_true rfl) (E2 := enc G ad σ t_1) (by rw [ht_1]; exact enc_l (sh_NS G ad _ _ (by omega))) d_NS_clear_2 (fun H locs hO => ?_)
  refine lv_aload_n S.1 S.2.1 d_NS_clear_5 rfl (lv_at hl 0 rfl) ?_
  refine lv_lconst (v := 0) S.1 S.2.1 d_NS_clear_6 (by decide) ?_
  obtain ⟨t_2, ht_2⟩ : ∃ z : Nat → Nat → Int64, z = up2L t_1 (63 + i) 1 0 := ⟨_, rfl⟩
  refine g_put S hO (fun _ h => h) fp_NS_13 (by omega) (sh_NS G ad _ _ (by omega)) (v := .long 0) rfl rfl (Nat.le_of_ble_eq_true rfl) (E2 := enc G ad σ t_2) (by rw [ht_2]; exact enc_l (sh_NS G ad _ _ (by omega))) d_NS_clear_7 (fun H locs hO => ?_)
  subst ht_2
  subst ht_1
  exact im_v S hk hr hO ⟨rfl, rfl, rfl⟩ (Nat.le_of_ble_eq_true rfl) (Nat.le_of_ble_eq_true rfl) d_NS_clear_10
def nsa (τ : Nat → Nat → Int64) (k : Nat) (a : Int32) : Nat → Nat → Int64 := if 64 ≤ a then up2L τ k 1 (τ k 1 ||| 1 <<< ((a - 64).toInt64 &&& 63)) else up2L τ k 0 (τ k 0 ||| 1 <<< (a.toInt64 &&& 63))
set_option maxHeartbeats 4000000 in
set_option maxRecDepth 100000 in
theorem k_NS_add (l : Launch) (G : gP) (ad : Nat → Nat) (σ : Nat → Nat → Int32) (τ : Nat → Nat → Int64) (i : Nat) (hi : i < 4) (a : Int32) : gim l y_NS_add c_NS_add 2 none { frames := 0, cells := 0, slots := 0, locals := 0 } G ad σ τ [.ref (ad (63 + i)), .int a] 0 0 (fun v σ1 τ1 => v = none ∧ σ1 = σ ∧ τ1 = nsa τ (63 + i) a) (fun _ => False) := by
  refine gs_of (fun _ h => h) (by decide) (Nat.le_of_ble_eq_true rfl) ?_
  intro p e s m args below meth c ls S hk hr hx hl hO
  have hl : lv_has ls 2 [(0, .ref (ad (63 + i))), (1, .int a)] := hl
  refine lv_iload_n S.1 S.2.1 d_NS_add_0 rfl (lv_at hl 1 rfl) ?_
  refine lv_bipush (v := 64) S.1 S.2.1 d_NS_add_1 (by decide) ?_
  refine lv_icmp_ge (tgt := 21) S.1 S.2.1 d_NS_add_3 (by decide) (fun c_3 => ?_) (fun c_3 => ?_)
  · skip
    refine lv_aload_n S.1 S.2.1 d_NS_add_21 rfl (lv_at hl 0 rfl) ?_
    refine lv_dup S.1 S.2.1 d_NS_add_22 rfl ?_
    refine g_get S hO fl_NS_13 (by omega) (sh_NS G ad _ _ (by omega)) (v := .long (τ (63 + i) 1)) rfl d_NS_add_23 ?_
    refine lv_lconst (v := 1) S.1 S.2.1 d_NS_add_26 (by decide) ?_
    refine lv_iload_n S.1 S.2.1 d_NS_add_27 rfl (lv_at hl 1 rfl) ?_
    refine lv_bipush (v := 64) S.1 S.2.1 d_NS_add_28 (by decide) ?_
    refine lv_isub S.1 S.2.1 d_NS_add_30 ?_
    refine lv_lshl (v := 1 <<< ((a - 64).toInt64 &&& 63)) S.1 S.2.1 d_NS_add_31 rfl ?_
    refine lv_lor S.1 S.2.1 d_NS_add_32 ?_
    obtain ⟨t_1, ht_1⟩ : ∃ z : Nat → Nat → Int64, z = up2L τ (63 + i) 1 ((τ (63 + i) 1) ||| (1 <<< ((a - 64).toInt64 &&& 63))) := ⟨_, rfl⟩
    refine g_put S hO (fun _ h => h) fp_NS_13 (by omega) (sh_NS G ad _ _ (by omega)) (v := .long ((τ (63 + i) 1) ||| (1 <<< ((a - 64).toInt64 &&& 63)))) rfl rfl (Nat.le_of_ble_eq_true rfl) (E2 := enc G ad σ t_1) (by rw [ht_1]; exact enc_l (sh_NS G ad _ _ (by omega))) d_NS_add_33 (fun H locs hO => ?_)
    subst ht_1
    exact im_v S hk hr hO ⟨rfl, rfl, by first | rw [nsa, if_pos c_3] | rw [nsa, if_neg c_3]⟩ (Nat.le_of_ble_eq_true rfl) (Nat.le_of_ble_eq_true rfl) d_NS_add_36
  · skip
    refine lv_aload_n S.1 S.2.1 d_NS_add_6 rfl (lv_at hl 0 rfl) ?_
    refine lv_dup S.1 S.2.1 d_NS_add_7 rfl ?_
    refine g_get S hO fl_NS_7 (by omega) (sh_NS G ad _ _ (by omega)) (v := .long (τ (63 + i) 0)) rfl d_NS_add_8 ?_
    refine lv_lconst (v := 1) S.1 S.2.1 d_NS_add_11 (by decide) ?_
    refine lv_iload_n S.1 S.2.1 d_NS_add_12 rfl (lv_at hl 1 rfl) ?_
    refine lv_lshl (v := 1 <<< (a.toInt64 &&& 63)) S.1 S.2.1 d_NS_add_13 rfl ?_
    refine lv_lor S.1 S.2.1 d_NS_add_14 ?_
    obtain ⟨t_2, ht_2⟩ : ∃ z : Nat → Nat → Int64, z = up2L τ (63 + i) 0 ((τ (63 + i) 0) ||| (1 <<< (a.toInt64 &&& 63))) := ⟨_, rfl⟩
    refine g_put S hO (fun _ h => h) fp_NS_7 (by omega) (sh_NS G ad _ _ (by omega)) (v := .long ((τ (63 + i) 0) ||| (1 <<< (a.toInt64 &&& 63)))) rfl rfl (Nat.le_of_ble_eq_true rfl) (E2 := enc G ad σ t_2) (by rw [ht_2]; exact enc_l (sh_NS G ad _ _ (by omega))) d_NS_add_15 (fun H locs hO => ?_)
    refine lv_goto (tgt := 36) S.1 S.2.1 d_NS_add_18 (by decide) ?_
    subst ht_2
    exact im_v S hk hr hO ⟨rfl, rfl, by first | rw [nsa, if_pos c_3] | rw [nsa, if_neg c_3]⟩ (Nat.le_of_ble_eq_true rfl) (Nat.le_of_ble_eq_true rfl) d_NS_add_36
set_option maxHeartbeats 4000000 in
set_option maxRecDepth 100000 in
theorem k_NS_holdOnly (l : Launch) (G : gP) (ad : Nat → Nat) (σ : Nat → Nat → Int32) (τ : Nat → Nat → Int64) (i : Nat) (hi : i < 4) (a : Int32) : gim l y_NS_holdOnly c_NS_holdOnly 2 none { frames := 1, cells := 0, slots := 0, locals := 21 } G ad σ τ [.ref (ad (63 + i)), .int a] 0 0 (fun v σ1 τ1 => v = none ∧ σ1 = σ ∧ τ1 = nsa (up2L (up2L τ (63 + i) 0 0) (63 + i) 1 0) (63 + i) a) (fun _ => False) := by
  refine gs_of (fun _ h => h) (by decide) (Nat.le_of_ble_eq_true rfl) ?_
  intro p e s m args below meth c ls S hk hr hx hl hO
  have hl : lv_has ls 2 [(0, .ref (ad (63 + i))), (1, .int a)] := hl
  refine lv_aload_n S.1 S.2.1 d_NS_holdOnly_0 rfl (lv_at hl 0 rfl) ?_
  refine g_VI (As := []) (rest := []) S hO (fun _ h => h) (k_NS_clear l G ad σ τ i (by omega)) cw_NS_16 (by omega) (sh_NS G ad _ _ (by omega)) rfl rfl hl.1 (Nat.le_of_ble_eq_true rfl) ⟨(Nat.le_of_ble_eq_true rfl), (Nat.le_of_ble_eq_true rfl)⟩ ⟨(Nat.le_of_ble_eq_true rfl), (Nat.le_of_ble_eq_true rfl)⟩ d_NS_holdOnly_1 (fun q x ce H locs h9 => h9.elim) (fun v E1 H locs v_1 hO => ?_)
  obtain ⟨s_2, t_3, rfl, rfl, hs_2, ht_3⟩ := v_1
  refine W.eq (g2 := F0 m 4 ls []) rfl ?_
  refine lv_aload_n S.1 S.2.1 d_NS_holdOnly_4 rfl (lv_at hl 0 rfl) ?_
  refine lv_iload_n S.1 S.2.1 d_NS_holdOnly_5 rfl (lv_at hl 1 rfl) ?_
  refine g_VI (As := [.int a]) (rest := []) S hO (fun _ h => h) (k_NS_add l G ad s_2 t_3 i (by omega) a) cw_NS_19 (by omega) (sh_NS G ad _ _ (by omega)) rfl rfl hl.1 (Nat.le_of_ble_eq_true rfl) ⟨(Nat.le_of_ble_eq_true rfl), (Nat.le_of_ble_eq_true rfl)⟩ ⟨(Nat.le_of_ble_eq_true rfl), (Nat.le_of_ble_eq_true rfl)⟩ d_NS_holdOnly_6 (fun q x ce H locs h9 => h9.elim) (fun v E1 H locs v_4 hO => ?_)
  obtain ⟨s_5, t_6, rfl, rfl, hs_5, ht_6⟩ := v_4
  refine W.eq (g2 := F0 m 9 ls []) rfl ?_
  subst hs_5
  subst hs_2
  subst ht_6
  subst ht_3
  exact im_v S hk hr hO ⟨rfl, rfl, rfl⟩ (Nat.le_of_ble_eq_true rfl) (Nat.le_of_ble_eq_true rfl) d_NS_holdOnly_9
abbrev nsh (τ : Nat → Nat → Int64) (k : Nat) (a : Int32) : Prop := ¬ ((if 64 ≤ a then ((τ k 1).toUInt64 >>> ((a - 64).toInt64.toUInt64 &&& Int64.toUInt64 63)).toInt64 else ((τ k 0).toUInt64 >>> (a.toInt64.toUInt64 &&& Int64.toUInt64 63)).toInt64) &&& 1) = 0
theorem lg0 {x y : Int64} : lg_cmp x y = 0 ↔ x = y := by
  unfold lg_cmp
  by_cases h1 : x > y
  · rw [if_pos h1]
    refine ⟨fun z => absurd z (by decide), fun z => ?_⟩
    subst z
    exact (Int64.lt_irrefl h1).elim
  · rw [if_neg h1]
    by_cases h2 : x = y
    · rw [if_pos h2]
      exact ⟨fun _ => h2, fun _ => rfl⟩
    · rw [if_neg h2]
      exact ⟨fun z => absurd z (by decide), fun z => absurd z h2⟩
set_option maxHeartbeats 4000000 in
set_option maxRecDepth 100000 in
theorem k_NS_has (l : Launch) (G : gP) (ad : Nat → Nat) (σ : Nat → Nat → Int32) (τ : Nat → Nat → Int64) (i : Nat) (hi : i < 4) (a : Int32) : gpu l y_NS_has c_NS_has 4 (some .boolean) { frames := 0, cells := 0, slots := 0, locals := 0 } G ad σ τ [.ref (ad (63 + i)), .int a] 0 0 (fun v => v = some (.int (if nsh τ (63 + i) a then 1 else 0))) (fun _ => False) := by
  refine gs_of (fun _ h => h.elim) (by decide) (Nat.le_of_ble_eq_true rfl) ?_
  intro p e s m args below meth c ls S hk hr hx hl hO
  have hl : lv_has ls 4 [(0, .ref (ad (63 + i))), (1, .int a)] := hl
  refine lv_iload_n S.1 S.2.1 d_NS_has_0 rfl (lv_at hl 1 rfl) ?_
  refine lv_bipush (v := 64) S.1 S.2.1 d_NS_has_1 (by decide) ?_
  refine lv_icmp_ge (tgt := 15) S.1 S.2.1 d_NS_has_3 (by decide) (fun c_3 => ?_) (fun c_3 => ?_)
  · skip
    refine lv_aload_n S.1 S.2.1 d_NS_has_15 rfl (lv_at hl 0 rfl) ?_
    refine g_get S hO fl_NS_13 (by omega) (sh_NS G ad _ _ (by omega)) (v := .long (τ (63 + i) 1)) rfl d_NS_has_16 ?_
    refine lv_iload_n S.1 S.2.1 d_NS_has_19 rfl (lv_at hl 1 rfl) ?_
    refine lv_bipush (v := 64) S.1 S.2.1 d_NS_has_20 (by decide) ?_
    refine lv_isub S.1 S.2.1 d_NS_has_22 ?_
    refine lv_lushr (v := ((τ (63 + i) 1).toUInt64 >>> ((a - 64).toInt64.toUInt64 &&& Int64.toUInt64 63)).toInt64) S.1 S.2.1 d_NS_has_23 rfl ?_
    refine lv_lstore_n (lv' := [(2, .long (((τ (63 + i) 1).toUInt64 >>> ((a - 64).toInt64.toUInt64 &&& Int64.toUInt64 63)).toInt64)), (0, .ref (ad (63 + i))), (1, .int a)]) S.1 S.2.1 d_NS_has_24 rfl hl (by decide) rfl (fun ls hl => ?_)
    refine lv_lload_n S.1 S.2.1 d_NS_has_25 rfl (lv_at hl 0 rfl) ?_
    refine lv_lconst (v := 1) S.1 S.2.1 d_NS_has_26 (by decide) ?_
    refine lv_land S.1 S.2.1 d_NS_has_27 ?_
    refine lv_lconst (v := 0) S.1 S.2.1 d_NS_has_28 (by decide) ?_
    refine W.lcmp S.1 S.2.1 d_NS_has_29 ?_
    refine lv_if_eq (tgt := 37) S.1 S.2.1 d_NS_has_30 (by decide) (fun c_30 => ?_) (fun c_30 => ?_)
    · skip
      refine lv_iconst (v := 0) S.1 S.2.1 d_NS_has_37 (by decide) ?_
      exact pu_z S hk hr hO (by first | exact Or.inl rfl | exact Or.inr rfl) (by first | (refine z_n (fun z => z ?_); first | (rw [if_pos c_3]; exact lg0.mp c_30) | (rw [if_neg c_3]; exact lg0.mp c_30)) | (refine z_p (fun z => c_30 (lg0.mpr ?_)); first | (rw [if_pos c_3] at z; exact z) | (rw [if_neg c_3] at z; exact z))) (Nat.le_of_ble_eq_true rfl) (Nat.le_of_ble_eq_true rfl) d_NS_has_38
    · skip
      refine lv_iconst (v := 1) S.1 S.2.1 d_NS_has_33 (by decide) ?_
      refine lv_goto (tgt := 38) S.1 S.2.1 d_NS_has_34 (by decide) ?_
      exact pu_z S hk hr hO (by first | exact Or.inl rfl | exact Or.inr rfl) (by first | (refine z_n (fun z => z ?_); first | (rw [if_pos c_3]; exact lg0.mp c_30) | (rw [if_neg c_3]; exact lg0.mp c_30)) | (refine z_p (fun z => c_30 (lg0.mpr ?_)); first | (rw [if_pos c_3] at z; exact z) | (rw [if_neg c_3] at z; exact z))) (Nat.le_of_ble_eq_true rfl) (Nat.le_of_ble_eq_true rfl) d_NS_has_38
  · skip
    refine lv_aload_n S.1 S.2.1 d_NS_has_6 rfl (lv_at hl 0 rfl) ?_
    refine g_get S hO fl_NS_7 (by omega) (sh_NS G ad _ _ (by omega)) (v := .long (τ (63 + i) 0)) rfl d_NS_has_7 ?_
    refine lv_iload_n S.1 S.2.1 d_NS_has_10 rfl (lv_at hl 1 rfl) ?_
    refine lv_lushr (v := ((τ (63 + i) 0).toUInt64 >>> (a.toInt64.toUInt64 &&& Int64.toUInt64 63)).toInt64) S.1 S.2.1 d_NS_has_11 rfl ?_
    refine lv_goto (tgt := 24) S.1 S.2.1 d_NS_has_12 (by decide) ?_
    refine lv_lstore_n (lv' := [(2, .long (((τ (63 + i) 0).toUInt64 >>> (a.toInt64.toUInt64 &&& Int64.toUInt64 63)).toInt64)), (0, .ref (ad (63 + i))), (1, .int a)]) S.1 S.2.1 d_NS_has_24 rfl hl (by decide) rfl (fun ls hl => ?_)
    refine lv_lload_n S.1 S.2.1 d_NS_has_25 rfl (lv_at hl 0 rfl) ?_
    refine lv_lconst (v := 1) S.1 S.2.1 d_NS_has_26 (by decide) ?_
    refine lv_land S.1 S.2.1 d_NS_has_27 ?_
    refine lv_lconst (v := 0) S.1 S.2.1 d_NS_has_28 (by decide) ?_
    refine W.lcmp S.1 S.2.1 d_NS_has_29 ?_
    refine lv_if_eq (tgt := 37) S.1 S.2.1 d_NS_has_30 (by decide) (fun c_30 => ?_) (fun c_30 => ?_)
    · skip
      refine lv_iconst (v := 0) S.1 S.2.1 d_NS_has_37 (by decide) ?_
      exact pu_z S hk hr hO (by first | exact Or.inl rfl | exact Or.inr rfl) (by first | (refine z_n (fun z => z ?_); first | (rw [if_pos c_3]; exact lg0.mp c_30) | (rw [if_neg c_3]; exact lg0.mp c_30)) | (refine z_p (fun z => c_30 (lg0.mpr ?_)); first | (rw [if_pos c_3] at z; exact z) | (rw [if_neg c_3] at z; exact z))) (Nat.le_of_ble_eq_true rfl) (Nat.le_of_ble_eq_true rfl) d_NS_has_38
    · skip
      refine lv_iconst (v := 1) S.1 S.2.1 d_NS_has_33 (by decide) ?_
      refine lv_goto (tgt := 38) S.1 S.2.1 d_NS_has_34 (by decide) ?_
      exact pu_z S hk hr hO (by first | exact Or.inl rfl | exact Or.inr rfl) (by first | (refine z_n (fun z => z ?_); first | (rw [if_pos c_3]; exact lg0.mp c_30) | (rw [if_neg c_3]; exact lg0.mp c_30)) | (refine z_p (fun z => c_30 (lg0.mpr ?_)); first | (rw [if_pos c_3] at z; exact z) | (rw [if_neg c_3] at z; exact z))) (Nat.le_of_ble_eq_true rfl) (Nat.le_of_ble_eq_true rfl) d_NS_has_38
end
section
/-! Loops that only read. Written by wip/tools/m19.py. -/
/-- the first j from i on, of f, that b takes -/
def lpf (b : Nat → Bool) : Nat → Nat → Option Nat
  | 0, _ => none
  | f + 1, i => if b i = true then some i else lpf b f (i + 1)
theorem lpf_t {b : Nat → Bool} {f i : Nat} (h : b i = true) : lpf b (f + 1) i = some i := by rw [lpf, if_pos h]
theorem lpf_f {b : Nat → Bool} {f i : Nat} (h : ¬ b i = true) : lpf b (f + 1) i = lpf b f (i + 1) := by rw [lpf, if_neg h]
/-- the k-th of those -/
def nthx (b : Nat → Bool) : Nat → Nat → Nat → Option Nat
  | 0, _, _ => none
  | f + 1, j, k => if b j = true then (match k with
    | 0 => some j
    | q + 1 => nthx b f (j + 1) q) else nthx b f (j + 1) k
theorem nthx_0 {b : Nat → Bool} {f j : Nat} (h : b j = true) : nthx b (f + 1) j 0 = some j := by rw [nthx, if_pos h]
theorem nthx_s {b : Nat → Bool} {f j k : Nat} (h : b j = true) : nthx b (f + 1) j (k + 1) = nthx b f (j + 1) k := by rw [nthx, if_pos h]
theorem nthx_f {b : Nat → Bool} {f j k : Nat} (h : ¬ b j = true) : nthx b (f + 1) j k = nthx b f (j + 1) k := by
  cases k <;> simp [nthx, h]
theorem z_1 {P : Prop} {h : Decidable P} : (¬ @ite _ P h (1 : Int32) 0 = 0) ↔ P := by
  by_cases hp : P
  · rw [if_pos hp]; exact ⟨fun _ => hp, fun _ => by decide⟩
  · rw [if_neg hp]; exact ⟨fun z => absurd rfl z, fun z => absurd z hp⟩
def oI (o : Option Nat) : Int32 := match o with
  | none => (-1)
  | some j => nI j
theorem ge_nI {x M : Int32} {n N : Nat} (hx : x = nI n) (hM : M = nI N) (hn : n < 2 ^ 31) (hN : N < 2 ^ 31) (h : x ≤ M) : n ≤ N := by
  rw [hx, hM] at h
  exact (nI_leI hn hN).mp h
theorem ngt_nI {x M : Int32} {n N : Nat} (hx : x = nI n) (hM : M = nI N) (hn : n < 2 ^ 31) (hN : N < 2 ^ 31) (h : ¬ x ≤ M) : N < n := by
  rw [hx, hM] at h
  exact Nat.not_le.mp (fun z => h ((nI_leI hn hN).mpr z))
abbrev fwB (σ : Nat → Nat → Int32) (k u : Nat) : Nat → Bool := fun w => decide (fit6 σ k u (nI w))
set_option maxHeartbeats 4000000 in
set_option maxRecDepth 100000 in
theorem k_PL_firstWayFor (l : Launch) (G : gP) (ad : Nat → Nat) (σ : Nat → Nat → Int32) (τ : Nat → Nat → Int64) (i : Nat) (hi : i < 12) (u : Nat) (hu : u < 40) : gpu l y_PL_firstWayFor c_PL_firstWayFor 3 (some .int) { frames := 2, cells := 0, slots := 0, locals := 45 } G ad σ τ [.ref (ad (68 + i)), .ref (ad (80 + u))] 0 0 (fun v => v = some (.int (oI (lpf (fwB σ (68 + i) (80 + u)) 6 0)))) (fun _ => False) := by
  refine gs_of (fun _ h => h.elim) (by decide) (Nat.le_of_ble_eq_true rfl) ?_
  intro p e s m args below meth c ls S hk hr hx hl hO
  have hl : lv_has ls 3 [(0, .ref (ad (68 + i))), (1, .ref (ad (80 + u)))] := hl
  refine lv_iconst (v := 0) S.1 S.2.1 d_PL_firstWayFor_0 (by decide) ?_
  refine lv_istore_n (lv' := [(2, .int 0), (0, .ref (ad (68 + i))), (1, .ref (ad (80 + u)))]) S.1 S.2.1 d_PL_firstWayFor_1 rfl hl (by decide) rfl (fun ls hl => ?_)
  have K_2 : ∀ (n9 : Nat) (w : Nat), 6 - w < n9 → w ≤ 6 → lpf (fwB σ (68 + i) (80 + u)) 6 0 = lpf (fwB σ (68 + i) (80 + u)) (6 - w) w → ∀ (H : Heap) (locs : List Loc), gO G (fun _ => False) 159 ad (enc G ad σ τ) s H locs → ∀ ls : Array Slot, lv_has ls 3 [(2, .int (nI w)), (0, .ref (ad (68 + i))), (1, .ref (ad (80 + u)))] → W p l e { frames := 2, cells := 0, slots := 0, locals := 45 } s m args below meth c H locs 0 0 (gM below (fun _ => False) 0 0 (fun v _ => (fun v => v = some (.int (oI (lpf (fwB σ (68 + i) (80 + u)) 6 0)))) v) (fun x _ => (fun _ => False) x) args s) (F0 m 2 ls []) := by
    intro n9
    induction n9 with
    | zero =>
      intro w hn9 hw6 hq H locs hO ls hl
      exact absurd hn9 (Nat.not_lt_zero _)
    | succ n9 ih_2 =>
      intro w hn9 hw6 hq H locs hO ls hl
      refine lv_iload_n S.1 S.2.1 d_PL_firstWayFor_2 rfl (lv_at hl 0 rfl) ?_
      refine lv_bipush (v := 6) S.1 S.2.1 d_PL_firstWayFor_3 (by decide) ?_
      refine lv_icmp_ge (tgt := 25) S.1 S.2.1 d_PL_firstWayFor_5 (by decide) (fun c_5 => ?_) (fun c_5 => ?_)
      · skip
        have hw : w = 6 := by have h9 := ge_nI (N := w) (n := 6) (by decide) rfl (by decide) (by omega) c_5; omega
        refine lv_iconst (v := (-1)) S.1 S.2.1 d_PL_firstWayFor_25 (by decide) ?_
        exact pu_i S hk hr hO (by rw [hq, hw]; rfl) (Nat.le_of_ble_eq_true rfl) (Nat.le_of_ble_eq_true rfl) d_PL_firstWayFor_26
      · skip
        have hw : w < 6 := ngt_nI (n := 6) (by decide) rfl (by decide) (by omega) c_5
        have e6 : 6 - w = (6 - (w + 1)) + 1 := by omega
        refine lv_aload_n S.1 S.2.1 d_PL_firstWayFor_8 rfl (lv_at hl 1 rfl) ?_
        refine lv_aload_n S.1 S.2.1 d_PL_firstWayFor_9 rfl (lv_at hl 2 rfl) ?_
        refine lv_iload_n S.1 S.2.1 d_PL_firstWayFor_10 rfl (lv_at hl 0 rfl) ?_
        refine g_VP (As := [.ref (ad (80 + u)), .int (nI w)]) (rest := []) S hO (k_PL_fits l G ad σ τ i (by omega) u (by omega) (nI w)) cw_PL_25 (by omega) (sh_PL G ad _ _ (by omega)) rfl rfl hl.1 (Nat.le_of_ble_eq_true rfl) ⟨(Nat.le_of_ble_eq_true rfl), (Nat.le_of_ble_eq_true rfl)⟩ ⟨(Nat.le_of_ble_eq_true rfl), (Nat.le_of_ble_eq_true rfl)⟩ d_PL_firstWayFor_11 (fun q x ce H h9 => h9.elim) (fun v H v_1 hO => ?_)
        subst v_1
        refine W.eq (g2 := F0 m 14 ls [.int (if fit6 σ (68 + i) (80 + u) (nI w) then 1 else 0)]) rfl ?_
        refine lv_if_eq (tgt := 19) S.1 S.2.1 d_PL_firstWayFor_14 (by decide) (fun c_14 => ?_) (fun c_14 => ?_)
        · skip
          obtain ⟨x_2, ex_2⟩ : ∃ z : Int32, z = (nI w) + 1 := ⟨_, rfl⟩
          refine lv_iinc (v := x_2) (lv' := [(2, .int x_2), (0, .ref (ad (68 + i))), (1, .ref (ad (80 + u)))]) S.1 S.2.1 d_PL_firstWayFor_19 hl (k := 0) rfl (by rw [ex_2]; rfl) (by decide) rfl (fun ls hl => ?_)
          refine lv_goto (tgt := 2) S.1 S.2.1 d_PL_firstWayFor_22 (by decide) ?_
          obtain rfl : x_2 = nI (w + 1) := by rw [ex_2]; exact nI_1 w
          exact ih_2 (w + 1) (by omega) (by omega) (by rw [hq, e6, lpf_f (by simpa using z_0.mp c_14)]) _ _ hO ls (lv_sub hl [0, 1, 2] rfl)
        · skip
          refine lv_iload_n S.1 S.2.1 d_PL_firstWayFor_17 rfl (lv_at hl 0 rfl) ?_
          exact pu_i S hk hr hO (by rw [hq, e6, lpf_t (by simpa using z_1.mp c_14)]; rfl) (Nat.le_of_ble_eq_true rfl) (Nat.le_of_ble_eq_true rfl) d_PL_firstWayFor_18
  exact K_2 7 0 (by omega) (by omega) rfl _ _ hO ls (lv_sub hl [0, 1, 2] rfl)
abbrev wvB (σ : Nat → Nat → Int32) (r p o d : Int32) : Nat → Bool := fun j => decide (cov σ (120 + j) r p o d)
set_option maxHeartbeats 4000000 in
set_option maxRecDepth 100000 in
theorem k_PR_isWaived (l : Launch) (G : gP) (ad : Nat → Nat) (σ : Nat → Nat → Int32) (τ : Nat → Nat → Int64) (r a b d : Int32) (nw : Nat) (hnw : σ 0 4 = nI nw) (hw2 : nw ≤ 20) : gpu l y_PR_isWaived c_PR_isWaived 6 (some .boolean) { frames := 1, cells := 0, slots := 0, locals := 24 } G ad σ τ [.ref (ad 0), .int r, .int a, .int b, .int d] 0 0 (fun v => v = some (.int (if (lpf (wvB σ r a b d) nw 0).isSome = true then 1 else 0))) (fun _ => False) := by
  refine gs_of (fun _ h => h.elim) (by decide) (Nat.le_of_ble_eq_true rfl) ?_
  intro p e s m args below meth c ls S hk hr hx hl hO
  have hl : lv_has ls 6 [(0, .ref (ad 0)), (1, .int r), (2, .int a), (3, .int b), (4, .int d)] := hl
  refine lv_iconst (v := 0) S.1 S.2.1 d_PR_isWaived_0 (by decide) ?_
  refine lv_istore (lv' := [(5, .int 0), (0, .ref (ad 0)), (1, .int r), (2, .int a), (3, .int b), (4, .int d)]) S.1 S.2.1 d_PR_isWaived_1 hl (by decide) rfl (fun ls hl => ?_)
  have K_3 : ∀ (n9 : Nat) (j : Nat), nw - j < n9 → j ≤ nw → lpf (wvB σ r a b d) nw 0 = lpf (wvB σ r a b d) (nw - j) j → ∀ (H : Heap) (locs : List Loc), gO G (fun _ => False) 159 ad (enc G ad σ τ) s H locs → ∀ ls : Array Slot, lv_has ls 6 [(5, .int (nI j)), (0, .ref (ad 0)), (1, .int r), (2, .int a), (3, .int b), (4, .int d)] → W p l e { frames := 1, cells := 0, slots := 0, locals := 24 } s m args below meth c H locs 0 0 (gM below (fun _ => False) 0 0 (fun v _ => (fun v => v = some (.int (if (lpf (wvB σ r a b d) nw 0).isSome = true then 1 else 0))) v) (fun x _ => (fun _ => False) x) args s) (F0 m 3 ls []) := by
    intro n9
    induction n9 with
    | zero =>
      intro j hn9 hj hq H locs hO ls hl
      exact absurd hn9 (Nat.not_lt_zero _)
    | succ n9 ih_3 =>
      intro j hn9 hj hq H locs hO ls hl
      refine lv_iload S.1 S.2.1 d_PR_isWaived_3 (lv_at hl 0 rfl) ?_
      refine lv_aload_n S.1 S.2.1 d_PR_isWaived_5 rfl (lv_at hl 1 rfl) ?_
      refine g_get S hO fl_PR_212 (by decide) (sh_0 G ad _ _) (v := .int (σ 0 4)) rfl d_PR_isWaived_6 ?_
      refine lv_icmp_ge (tgt := 38) S.1 S.2.1 d_PR_isWaived_9 (by decide) (fun c_9 => ?_) (fun c_9 => ?_)
      · skip
        have hw : j = nw := by have h9 := ge_nI hnw rfl (by omega) (by omega) c_9; omega
        refine lv_iconst (v := 0) S.1 S.2.1 d_PR_isWaived_38 (by decide) ?_
        exact pu_z S hk hr hO (by first | exact Or.inl rfl | exact Or.inr rfl) (by rw [hq, hw, Nat.sub_self]; rfl) (Nat.le_of_ble_eq_true rfl) (Nat.le_of_ble_eq_true rfl) d_PR_isWaived_39
      · skip
        have hw : j < nw := ngt_nI hnw rfl (by omega) (by omega) c_9
        have e6 : nw - j = (nw - (j + 1)) + 1 := by omega
        refine lv_aload_n S.1 S.2.1 d_PR_isWaived_12 rfl (lv_at hl 1 rfl) ?_
        refine g_get S hO fl_PR_23 (by decide) (sh_0 G ad _ _) (v := .ref (ad 3)) rfl d_PR_isWaived_13 ?_
        refine lv_iload S.1 S.2.1 d_PR_isWaived_16 (lv_at hl 0 rfl) ?_
        refine g_aal S hO (t0 := 5) (by decide) (sh_3 G ad _ _) rfl (vp_in_nI (show j < 20 by omega) (by decide)) (v := .ref (ad (120 + j))) (by rw [nI_clamp (by omega)]; rfl) d_PR_isWaived_18 ?_
        refine lv_iload_n S.1 S.2.1 d_PR_isWaived_19 rfl (lv_at hl 2 rfl) ?_
        refine lv_iload_n S.1 S.2.1 d_PR_isWaived_20 rfl (lv_at hl 3 rfl) ?_
        refine lv_iload_n S.1 S.2.1 d_PR_isWaived_21 rfl (lv_at hl 4 rfl) ?_
        refine lv_iload S.1 S.2.1 d_PR_isWaived_22 (lv_at hl 5 rfl) ?_
        refine g_VP (As := [.int r, .int a, .int b, .int d]) (rest := []) S hO (k_WV_covers l G ad σ τ j (by omega) r a b d) cw_PR_295 (by omega) (sh_WV G ad _ _ (by omega)) rfl rfl hl.1 (Nat.le_of_ble_eq_true rfl) ⟨(Nat.le_of_ble_eq_true rfl), (Nat.le_of_ble_eq_true rfl)⟩ ⟨(Nat.le_of_ble_eq_true rfl), (Nat.le_of_ble_eq_true rfl)⟩ d_PR_isWaived_24 (fun q x ce H h9 => h9.elim) (fun v H v_1 hO => ?_)
        subst v_1
        refine W.eq (g2 := F0 m 27 ls [.int (if cov σ (120 + j) r a b d then 1 else 0)]) rfl ?_
        refine lv_if_eq (tgt := 32) S.1 S.2.1 d_PR_isWaived_27 (by decide) (fun c_27 => ?_) (fun c_27 => ?_)
        · skip
          obtain ⟨x_2, ex_2⟩ : ∃ z : Int32, z = (nI j) + 1 := ⟨_, rfl⟩
          refine lv_iinc (v := x_2) (lv' := [(5, .int x_2), (0, .ref (ad 0)), (1, .int r), (2, .int a), (3, .int b), (4, .int d)]) S.1 S.2.1 d_PR_isWaived_32 hl (k := 0) rfl (by rw [ex_2]; rfl) (by decide) rfl (fun ls hl => ?_)
          refine lv_goto (tgt := 3) S.1 S.2.1 d_PR_isWaived_35 (by decide) ?_
          obtain rfl : x_2 = nI (j + 1) := by rw [ex_2]; exact nI_1 j
          exact ih_3 (j + 1) (by omega) (by omega) (by rw [hq, e6, lpf_f (by simpa using z_0.mp c_27)]) _ _ hO ls (lv_sub hl [0, 1, 2, 3, 4, 5] rfl)
        · skip
          refine lv_iconst (v := 1) S.1 S.2.1 d_PR_isWaived_30 (by decide) ?_
          exact pu_z S hk hr hO (by first | exact Or.inl rfl | exact Or.inr rfl) (by rw [hq, e6, lpf_t (by simpa using z_1.mp c_27)]; rfl) (Nat.le_of_ble_eq_true rfl) (Nat.le_of_ble_eq_true rfl) d_PR_isWaived_31
  exact K_3 (nw + 1) 0 (by omega) (by omega) rfl _ _ hO ls (lv_sub hl [0, 1, 2, 3, 4, 5] rfl)
abbrev fvB (σ : Nat → Nat → Int32) (r p o : Int32) : Nat → Bool := fun j => decide (σ (120 + j) 0 = r ∧ σ (120 + j) 1 = p ∧ σ (120 + j) 2 = o)
set_option maxHeartbeats 4000000 in
set_option maxRecDepth 100000 in
theorem k_PR_findWaiver (l : Launch) (G : gP) (ad : Nat → Nat) (σ : Nat → Nat → Int32) (τ : Nat → Nat → Int64) (r a b : Int32) (nw : Nat) (hnw : σ 0 4 = nI nw) (hw2 : nw ≤ 20) : gpu l y_PR_findWaiver c_PR_findWaiver 6 (some .int) { frames := 0, cells := 0, slots := 0, locals := 0 } G ad σ τ [.ref (ad 0), .int r, .int a, .int b] 0 0 (fun v => v = some (.int (oI (lpf (fvB σ r a b) nw 0)))) (fun _ => False) := by
  refine gs_of (fun _ h => h.elim) (by decide) (Nat.le_of_ble_eq_true rfl) ?_
  intro p e s m args below meth c ls S hk hr hx hl hO
  have hl : lv_has ls 6 [(0, .ref (ad 0)), (1, .int r), (2, .int a), (3, .int b)] := hl
  refine lv_iconst (v := 0) S.1 S.2.1 d_PR_findWaiver_0 (by decide) ?_
  refine lv_istore (lv' := [(4, .int 0), (0, .ref (ad 0)), (1, .int r), (2, .int a), (3, .int b)]) S.1 S.2.1 d_PR_findWaiver_1 hl (by decide) rfl (fun ls hl => ?_)
  have K_3 : ∀ (n9 : Nat) (j : Nat), nw - j < n9 → j ≤ nw → lpf (fvB σ r a b) nw 0 = lpf (fvB σ r a b) (nw - j) j → ∀ (H : Heap) (locs : List Loc), gO G (fun _ => False) 159 ad (enc G ad σ τ) s H locs → ∀ ls : Array Slot, lv_has ls 6 [(4, .int (nI j)), (0, .ref (ad 0)), (1, .int r), (2, .int a), (3, .int b)] → W p l e { frames := 0, cells := 0, slots := 0, locals := 0 } s m args below meth c H locs 0 0 (gM below (fun _ => False) 0 0 (fun v _ => (fun v => v = some (.int (oI (lpf (fvB σ r a b) nw 0)))) v) (fun x _ => (fun _ => False) x) args s) (F0 m 3 ls []) := by
    intro n9
    induction n9 with
    | zero =>
      intro j hn9 hj hq H locs hO ls hl
      exact absurd hn9 (Nat.not_lt_zero _)
    | succ n9 ih_3 =>
      intro j hn9 hj hq H locs hO ls hl
      refine lv_iload S.1 S.2.1 d_PR_findWaiver_3 (lv_at hl 0 rfl) ?_
      refine lv_aload_n S.1 S.2.1 d_PR_findWaiver_5 rfl (lv_at hl 1 rfl) ?_
      refine g_get S hO fl_PR_212 (by decide) (sh_0 G ad _ _) (v := .int (σ 0 4)) rfl d_PR_findWaiver_6 ?_
      refine lv_icmp_ge (tgt := 57) S.1 S.2.1 d_PR_findWaiver_9 (by decide) (fun c_9 => ?_) (fun c_9 => ?_)
      · skip
        have hw : j = nw := by have h9 := ge_nI hnw rfl (by omega) (by omega) c_9; omega
        refine lv_iconst (v := (-1)) S.1 S.2.1 d_PR_findWaiver_57 (by decide) ?_
        exact pu_i S hk hr hO (by rw [hq, hw, Nat.sub_self]; rfl) (Nat.le_of_ble_eq_true rfl) (Nat.le_of_ble_eq_true rfl) d_PR_findWaiver_58
      · skip
        have hw : j < nw := ngt_nI hnw rfl (by omega) (by omega) c_9
        have e6 : nw - j = (nw - (j + 1)) + 1 := by omega
        refine lv_aload_n S.1 S.2.1 d_PR_findWaiver_12 rfl (lv_at hl 1 rfl) ?_
        refine g_get S hO fl_PR_23 (by decide) (sh_0 G ad _ _) (v := .ref (ad 3)) rfl d_PR_findWaiver_13 ?_
        refine lv_iload S.1 S.2.1 d_PR_findWaiver_16 (lv_at hl 0 rfl) ?_
        refine g_aal S hO (t0 := 5) (by decide) (sh_3 G ad _ _) rfl (vp_in_nI (show j < 20 by omega) (by decide)) (v := .ref (ad (120 + j))) (by rw [nI_clamp (by omega)]; rfl) d_PR_findWaiver_18 ?_
        refine lv_astore (lv' := [(5, .ref (ad (120 + j))), (4, .int (nI j)), (0, .ref (ad 0)), (1, .int r), (2, .int a), (3, .int b)]) S.1 S.2.1 d_PR_findWaiver_19 hl (by decide) rfl (fun ls hl => ?_)
        refine lv_aload S.1 S.2.1 d_PR_findWaiver_21 (lv_at hl 0 rfl) ?_
        refine g_get S hO fl_PR_217 (by omega) (sh_WV G ad _ _ (by omega)) (v := .int (σ (120 + j) 0)) rfl d_PR_findWaiver_23 ?_
        refine lv_iload_n S.1 S.2.1 d_PR_findWaiver_26 rfl (lv_at hl 3 rfl) ?_
        refine lv_icmp_ne (tgt := 51) S.1 S.2.1 d_PR_findWaiver_27 (by decide) (fun c_27 => ?_) (fun c_27 => ?_)
        · skip
          obtain ⟨x_1, ex_1⟩ : ∃ z : Int32, z = (nI j) + 1 := ⟨_, rfl⟩
          refine lv_iinc (v := x_1) (lv' := [(4, .int x_1), (5, .ref (ad (120 + j))), (0, .ref (ad 0)), (1, .int r), (2, .int a), (3, .int b)]) S.1 S.2.1 d_PR_findWaiver_51 hl (k := 1) rfl (by rw [ex_1]; rfl) (by decide) rfl (fun ls hl => ?_)
          refine lv_goto (tgt := 3) S.1 S.2.1 d_PR_findWaiver_54 (by decide) ?_
          obtain rfl : x_1 = nI (j + 1) := by rw [ex_1]; exact nI_1 j
          exact ih_3 (j + 1) (by omega) (by omega) (by rw [hq, e6, lpf_f (by simp_all)]) _ _ hO ls (lv_sub hl [0, 2, 3, 4, 5] rfl)
        · skip
          refine lv_aload S.1 S.2.1 d_PR_findWaiver_30 (lv_at hl 0 rfl) ?_
          refine g_get S hO fl_PR_220 (by omega) (sh_WV G ad _ _ (by omega)) (v := .int (σ (120 + j) 1)) rfl d_PR_findWaiver_32 ?_
          refine lv_iload_n S.1 S.2.1 d_PR_findWaiver_35 rfl (lv_at hl 4 rfl) ?_
          refine lv_icmp_ne (tgt := 51) S.1 S.2.1 d_PR_findWaiver_36 (by decide) (fun c_36 => ?_) (fun c_36 => ?_)
          · skip
            obtain ⟨x_2, ex_2⟩ : ∃ z : Int32, z = (nI j) + 1 := ⟨_, rfl⟩
            refine lv_iinc (v := x_2) (lv' := [(4, .int x_2), (5, .ref (ad (120 + j))), (0, .ref (ad 0)), (1, .int r), (2, .int a), (3, .int b)]) S.1 S.2.1 d_PR_findWaiver_51 hl (k := 1) rfl (by rw [ex_2]; rfl) (by decide) rfl (fun ls hl => ?_)
            refine lv_goto (tgt := 3) S.1 S.2.1 d_PR_findWaiver_54 (by decide) ?_
            obtain rfl : x_2 = nI (j + 1) := by rw [ex_2]; exact nI_1 j
            exact ih_3 (j + 1) (by omega) (by omega) (by rw [hq, e6, lpf_f (by simp_all)]) _ _ hO ls (lv_sub hl [0, 2, 3, 4, 5] rfl)
          · skip
            refine lv_aload S.1 S.2.1 d_PR_findWaiver_39 (lv_at hl 0 rfl) ?_
            refine g_get S hO fl_PR_223 (by omega) (sh_WV G ad _ _ (by omega)) (v := .int (σ (120 + j) 2)) rfl d_PR_findWaiver_41 ?_
            refine lv_iload_n S.1 S.2.1 d_PR_findWaiver_44 rfl (lv_at hl 5 rfl) ?_
            refine lv_icmp_ne (tgt := 51) S.1 S.2.1 d_PR_findWaiver_45 (by decide) (fun c_45 => ?_) (fun c_45 => ?_)
            · skip
              obtain ⟨x_3, ex_3⟩ : ∃ z : Int32, z = (nI j) + 1 := ⟨_, rfl⟩
              refine lv_iinc (v := x_3) (lv' := [(4, .int x_3), (5, .ref (ad (120 + j))), (0, .ref (ad 0)), (1, .int r), (2, .int a), (3, .int b)]) S.1 S.2.1 d_PR_findWaiver_51 hl (k := 1) rfl (by rw [ex_3]; rfl) (by decide) rfl (fun ls hl => ?_)
              refine lv_goto (tgt := 3) S.1 S.2.1 d_PR_findWaiver_54 (by decide) ?_
              obtain rfl : x_3 = nI (j + 1) := by rw [ex_3]; exact nI_1 j
              exact ih_3 (j + 1) (by omega) (by omega) (by rw [hq, e6, lpf_f (by simp_all)]) _ _ hO ls (lv_sub hl [0, 2, 3, 4, 5] rfl)
            · skip
              refine lv_iload S.1 S.2.1 d_PR_findWaiver_48 (lv_at hl 1 rfl) ?_
              exact pu_i S hk hr hO (by rw [hq, e6, lpf_t (by simp [c_27, c_36, c_45])]; rfl) (Nat.le_of_ble_eq_true rfl) (Nat.le_of_ble_eq_true rfl) d_PR_findWaiver_50
  exact K_3 (nw + 1) 0 (by omega) (by omega) rfl _ _ hO ls (lv_sub hl [0, 1, 2, 3, 4] rfl)
abbrev nvB (σ : Nat → Nat → Int32) : Nat → Bool := fun j => decide (σ (9 + j) 4 = 0)
set_option maxHeartbeats 4000000 in
set_option maxRecDepth 100000 in
theorem k_RB_neverRefused (l : Launch) (G : gP) (ad : Nat → Nat) (σ : Nat → Nat → Int32) (τ : Nat → Nat → Int64) (k : Nat) (hk2 : k < 2 ^ 31) (nr : Nat) (hnr : σ 4 2 = nI nr) (hr2 : nr ≤ 24) : gpu l y_RB_neverRefused c_RB_neverRefused 4 (some .int) { frames := 0, cells := 0, slots := 0, locals := 0 } G ad σ τ [.ref (ad 4), .int (nI k)] 0 0 (fun v => v = some (.int (oI (nthx (nvB σ) nr 0 k)))) (fun _ => False) := by
  refine gs_of (fun _ h => h.elim) (by decide) (Nat.le_of_ble_eq_true rfl) ?_
  intro p e s m args below meth c ls S hk hr hx hl hO
  have hl : lv_has ls 4 [(0, .ref (ad 4)), (1, .int (nI k))] := hl
  refine lv_iconst (v := 0) S.1 S.2.1 d_RB_neverRefused_0 (by decide) ?_
  refine lv_istore_n (lv' := [(2, .int 0), (0, .ref (ad 4)), (1, .int (nI k))]) S.1 S.2.1 d_RB_neverRefused_1 rfl hl (by decide) rfl (fun ls hl => ?_)
  refine lv_iconst (v := 0) S.1 S.2.1 d_RB_neverRefused_2 (by decide) ?_
  refine lv_istore_n (lv' := [(3, .int 0), (2, .int 0), (0, .ref (ad 4)), (1, .int (nI k))]) S.1 S.2.1 d_RB_neverRefused_3 rfl hl (by decide) rfl (fun ls hl => ?_)
  have K_4 : ∀ (n9 : Nat) (j q : Nat), nr - j < n9 → j ≤ nr → q ≤ k → q ≤ j → nthx (nvB σ) nr 0 k = nthx (nvB σ) (nr - j) j (k - q) → ∀ (H : Heap) (locs : List Loc), gO G (fun _ => False) 159 ad (enc G ad σ τ) s H locs → ∀ ls : Array Slot, lv_has ls 4 [(3, .int (nI j)), (2, .int (nI q)), (0, .ref (ad 4)), (1, .int (nI k))] → W p l e { frames := 0, cells := 0, slots := 0, locals := 0 } s m args below meth c H locs 0 0 (gM below (fun _ => False) 0 0 (fun v _ => (fun v => v = some (.int (oI (nthx (nvB σ) nr 0 k)))) v) (fun x _ => (fun _ => False) x) args s) (F0 m 4 ls []) := by
    intro n9
    induction n9 with
    | zero =>
      intro j q hn9 hj hkq hqj hq H locs hO ls hl
      exact absurd hn9 (Nat.not_lt_zero _)
    | succ n9 ih_4 =>
      intro j q hn9 hj hkq hqj hq H locs hO ls hl
      refine lv_iload_n S.1 S.2.1 d_RB_neverRefused_4 rfl (lv_at hl 0 rfl) ?_
      refine lv_aload_n S.1 S.2.1 d_RB_neverRefused_5 rfl (lv_at hl 2 rfl) ?_
      refine g_get S hO fl_RB_28 (by decide) (sh_4 G ad _ _) (v := .int (σ 4 2)) rfl d_RB_neverRefused_6 ?_
      refine lv_icmp_ge (tgt := 40) S.1 S.2.1 d_RB_neverRefused_9 (by decide) (fun c_9 => ?_) (fun c_9 => ?_)
      · skip
        have hw : j = nr := by have h9 := ge_nI hnr rfl (by omega) (by omega) c_9; omega
        refine lv_iconst (v := (-1)) S.1 S.2.1 d_RB_neverRefused_40 (by decide) ?_
        exact pu_i S hk hr hO (by rw [hq, hw, Nat.sub_self]; rfl) (Nat.le_of_ble_eq_true rfl) (Nat.le_of_ble_eq_true rfl) d_RB_neverRefused_41
      · skip
        have hw : j < nr := ngt_nI hnr rfl (by omega) (by omega) c_9
        have e6 : nr - j = (nr - (j + 1)) + 1 := by omega
        refine lv_aload_n S.1 S.2.1 d_RB_neverRefused_12 rfl (lv_at hl 2 rfl) ?_
        refine g_get S hO fl_RB_11 (by decide) (sh_4 G ad _ _) (v := .ref (ad 5)) rfl d_RB_neverRefused_13 ?_
        refine lv_iload_n S.1 S.2.1 d_RB_neverRefused_16 rfl (lv_at hl 0 rfl) ?_
        refine g_aal S hO (t0 := 6) (by decide) (sh_5 G ad _ _) rfl (vp_in_nI (show j < 24 by omega) (by decide)) (v := .ref (ad (9 + j))) (by rw [nI_clamp (by omega)]; rfl) d_RB_neverRefused_17 ?_
        refine g_get S hO fl_RB_52 (by omega) (sh_RU G ad _ _ (by omega)) (v := .int (σ (9 + j) 4)) rfl d_RB_neverRefused_18 ?_
        refine lv_if_ne (tgt := 34) S.1 S.2.1 d_RB_neverRefused_21 (by decide) (fun c_21 => ?_) (fun c_21 => ?_)
        · skip
          obtain ⟨x_1, ex_1⟩ : ∃ z : Int32, z = (nI j) + 1 := ⟨_, rfl⟩
          refine lv_iinc (v := x_1) (lv' := [(3, .int x_1), (2, .int (nI q)), (0, .ref (ad 4)), (1, .int (nI k))]) S.1 S.2.1 d_RB_neverRefused_34 hl (k := 0) rfl (by rw [ex_1]; rfl) (by decide) rfl (fun ls hl => ?_)
          refine lv_goto (tgt := 4) S.1 S.2.1 d_RB_neverRefused_37 (by decide) ?_
          obtain rfl : x_1 = nI (j + 1) := by rw [ex_1]; exact nI_1 j
          exact ih_4 (j + 1) q (by omega) (by omega) (by omega) (by omega) (by rw [hq, e6, nthx_f (by simpa using c_21)]) _ _ hO ls (lv_sub hl [0, 1, 2, 3] rfl)
        · skip
          refine lv_iload_n S.1 S.2.1 d_RB_neverRefused_24 rfl (lv_at hl 1 rfl) ?_
          refine lv_iload_n S.1 S.2.1 d_RB_neverRefused_25 rfl (lv_at hl 3 rfl) ?_
          refine lv_icmp_ne (tgt := 31) S.1 S.2.1 d_RB_neverRefused_26 (by decide) (fun c_26 => ?_) (fun c_26 => ?_)
          · skip
            have hqk : q ≠ k := fun z => c_26 (by rw [z])
            obtain ⟨x_2, ex_2⟩ : ∃ z : Int32, z = (nI q) + 1 := ⟨_, rfl⟩
            refine lv_iinc (v := x_2) (lv' := [(2, .int x_2), (3, .int (nI j)), (0, .ref (ad 4)), (1, .int (nI k))]) S.1 S.2.1 d_RB_neverRefused_31 hl (k := 1) rfl (by rw [ex_2]; rfl) (by decide) rfl (fun ls hl => ?_)
            obtain ⟨x_3, ex_3⟩ : ∃ z : Int32, z = (nI j) + 1 := ⟨_, rfl⟩
            refine lv_iinc (v := x_3) (lv' := [(3, .int x_3), (2, .int x_2), (0, .ref (ad 4)), (1, .int (nI k))]) S.1 S.2.1 d_RB_neverRefused_34 hl (k := 1) rfl (by rw [ex_3]; rfl) (by decide) rfl (fun ls hl => ?_)
            refine lv_goto (tgt := 4) S.1 S.2.1 d_RB_neverRefused_37 (by decide) ?_
            obtain rfl : x_3 = nI (j + 1) := by rw [ex_3]; exact nI_1 j
            obtain rfl : x_2 = nI (q + 1) := by rw [ex_2]; exact nI_1 q
            exact ih_4 (j + 1) (q + 1) (by omega) (by omega) (by omega) (by omega) (by rw [hq, e6, show k - q = (k - (q + 1)) + 1 by omega, nthx_s (by simpa using c_21)]) _ _ hO ls (lv_sub hl [0, 1, 2, 3] rfl)
          · skip
            refine lv_iload_n S.1 S.2.1 d_RB_neverRefused_29 rfl (lv_at hl 0 rfl) ?_
            exact pu_i S hk hr hO (by have z9 : q = k := (nI_eq (by omega) (by omega)).mp c_26; rw [hq, e6, show k - q = 0 by omega, nthx_0 (by simpa using c_21)]; rfl) (Nat.le_of_ble_eq_true rfl) (Nat.le_of_ble_eq_true rfl) d_RB_neverRefused_30
  exact K_4 (nr + 1) 0 0 (by omega) (by omega) (by omega) (by omega) rfl _ _ hO ls (lv_sub hl [0, 1, 2, 3] rfl)
abbrev atB (σ : Nat → Nat → Int32) (p : Int32) : Nat → Bool := fun j => decide (σ (80 + j) 10 = p)
set_option maxHeartbeats 4000000 in
set_option maxRecDepth 100000 in
theorem k_PR_at (l : Launch) (hst : l.stackTraces = false) (G : gP) (ad : Nat → Nat) (σ : Nat → Nat → Int32) (τ : Nat → Nat → Int64) (a b : Int32) (nu : Nat) (hnu : σ 0 2 = nI nu) (hn4 : nu ≤ 40) : gpu l y_PR_at c_PR_at 5 (some .int) { frames := 8, cells := 2, slots := 12, locals := 132 } G ad σ τ [.ref (ad 0), .int a, .int b] 2 12 (fun v => (gwi a 0 11 ∧ ¬ b < 0) ∧ v = some (.int (oI (nthx (atB σ a) nu 0 b.toNatClampNeg)))) (fun x => x = "java/lang/IllegalArgumentException" ∧ ¬ (gwi a 0 11 ∧ ¬ b < 0)) := by
  refine gs_of (fun _ h => h.elim) (by decide) (Nat.le_of_ble_eq_true rfl) ?_
  intro p e s m args below meth c ls S hk hr hx hl hO
  have hl : lv_has ls 5 [(0, .ref (ad 0)), (1, .int a), (2, .int b)] := hl
  refine lv_iload_n S.1 S.2.1 d_PR_at_0 rfl (lv_at hl 1 rfl) ?_
  refine g_SP (As := [.int a]) (rest := []) S hO (k_PR_needPlace l hst G ad σ τ a) cw_PR_62 g_cfC hl.1 (Nat.le_of_ble_eq_true rfl) ⟨(Nat.le_of_ble_eq_true rfl), (Nat.le_of_ble_eq_true rfl)⟩ ⟨(Nat.le_of_ble_eq_true rfl), (Nat.le_of_ble_eq_true rfl)⟩ d_PR_at_1 (fun q x ce H h9 hO hce hcv hcl => pu_x hx hk hO hce hcv hcl (⟨h9.1, fun z => h9.2 z.1⟩) (Nat.le_of_ble_eq_true rfl) (Nat.le_of_ble_eq_true rfl)) (fun v H v_1 hO => ?_)
  obtain ⟨rfl, h_1⟩ := v_1
  refine W.eq (g2 := F0 m 4 ls []) rfl ?_
  refine lv_iload_n S.1 S.2.1 d_PR_at_4 rfl (lv_at hl 2 rfl) ?_
  refine g_SP (As := [.int b]) (rest := []) S hO (k_PR_needIndex l hst G ad σ τ b) cw_PR_230 g_cfC hl.1 (Nat.le_of_ble_eq_true rfl) ⟨(Nat.le_of_ble_eq_true rfl), (Nat.le_of_ble_eq_true rfl)⟩ ⟨(Nat.le_of_ble_eq_true rfl), (Nat.le_of_ble_eq_true rfl)⟩ d_PR_at_5 (fun q x ce H h9 hO hce hcv hcl => pu_x hx hk hO hce hcv hcl (⟨h9.1, fun z => z.2 h9.2⟩) (Nat.le_of_ble_eq_true rfl) (Nat.le_of_ble_eq_true rfl)) (fun v H v_2 hO => ?_)
  obtain ⟨rfl, h_5⟩ := v_2
  refine W.eq (g2 := F0 m 8 ls []) rfl ?_
  obtain ⟨k, hk2, rfl⟩ := nI_of h_5
  refine lv_iconst (v := 0) S.1 S.2.1 d_PR_at_8 (by decide) ?_
  refine lv_istore_n (lv' := [(3, .int 0), (0, .ref (ad 0)), (1, .int a), (2, .int (nI k))]) S.1 S.2.1 d_PR_at_9 rfl hl (by decide) rfl (fun ls hl => ?_)
  refine lv_iconst (v := 0) S.1 S.2.1 d_PR_at_10 (by decide) ?_
  refine lv_istore (lv' := [(4, .int 0), (3, .int 0), (0, .ref (ad 0)), (1, .int a), (2, .int (nI k))]) S.1 S.2.1 d_PR_at_11 hl (by decide) rfl (fun ls hl => ?_)
  have K_13 : ∀ (n9 : Nat) (j q : Nat), nu - j < n9 → j ≤ nu → q ≤ k → q ≤ j → nthx (atB σ a) nu 0 k = nthx (atB σ a) (nu - j) j (k - q) → ∀ (H : Heap) (locs : List Loc), gO G (fun _ => False) 159 ad (enc G ad σ τ) s H locs → ∀ ls : Array Slot, lv_has ls 5 [(4, .int (nI j)), (3, .int (nI q)), (0, .ref (ad 0)), (1, .int a), (2, .int (nI k))] → W p l e { frames := 8, cells := 2, slots := 12, locals := 132 } s m args below meth c H locs 2 12 (gM below (fun _ => False) 2 12 (fun v _ => (fun v => (gwi a 0 11 ∧ ¬ (nI k) < 0) ∧ v = some (.int (oI (nthx (atB σ a) nu 0 (nI k).toNatClampNeg)))) v) (fun x _ => (fun x => x = "java/lang/IllegalArgumentException" ∧ ¬ (gwi a 0 11 ∧ ¬ (nI k) < 0)) x) args s) (F0 m 13 ls []) := by
    intro n9
    induction n9 with
    | zero =>
      intro j q hn9 hj hkq hqj hq H locs hO ls hl
      exact absurd hn9 (Nat.not_lt_zero _)
    | succ n9 ih_13 =>
      intro j q hn9 hj hkq hqj hq H locs hO ls hl
      refine lv_iload S.1 S.2.1 d_PR_at_13 (lv_at hl 0 rfl) ?_
      refine lv_aload_n S.1 S.2.1 d_PR_at_15 rfl (lv_at hl 2 rfl) ?_
      refine g_get S hO fl_PR_90 (by decide) (sh_0 G ad _ _) (v := .int (σ 0 2)) rfl d_PR_at_16 ?_
      refine lv_icmp_ge (tgt := 53) S.1 S.2.1 d_PR_at_19 (by decide) (fun c_19 => ?_) (fun c_19 => ?_)
      · skip
        have hw : j = nu := by have h9 := ge_nI hnu rfl (by omega) (by omega) c_19; omega
        refine lv_iconst (v := (-1)) S.1 S.2.1 d_PR_at_53 (by decide) ?_
        exact pu_i S hk hr hO ⟨⟨h_1, h_5⟩, (by rw [nI_clamp (by omega), hq, hw, Nat.sub_self]; rfl)⟩ (Nat.le_of_ble_eq_true rfl) (Nat.le_of_ble_eq_true rfl) d_PR_at_54
      · skip
        have hw : j < nu := ngt_nI hnu rfl (by omega) (by omega) c_19
        have e6 : nu - j = (nu - (j + 1)) + 1 := by omega
        refine lv_aload_n S.1 S.2.1 d_PR_at_22 rfl (lv_at hl 2 rfl) ?_
        refine g_get S hO fl_PR_17 (by decide) (sh_0 G ad _ _) (v := .ref (ad 2)) rfl d_PR_at_23 ?_
        refine lv_iload S.1 S.2.1 d_PR_at_26 (lv_at hl 0 rfl) ?_
        refine g_aal S hO (t0 := 4) (by decide) (sh_2 G ad _ _) rfl (vp_in_nI (show j < 40 by omega) (by decide)) (v := .ref (ad (80 + j))) (by rw [nI_clamp (by omega)]; rfl) d_PR_at_28 ?_
        refine g_get S hO fl_PR_236 (by omega) (sh_UN G ad _ _ (by omega)) (v := .int (σ (80 + j) 10)) rfl d_PR_at_29 ?_
        refine lv_iload_n S.1 S.2.1 d_PR_at_32 rfl (lv_at hl 3 rfl) ?_
        refine lv_icmp_ne (tgt := 47) S.1 S.2.1 d_PR_at_33 (by decide) (fun c_33 => ?_) (fun c_33 => ?_)
        · skip
          obtain ⟨x_3, ex_3⟩ : ∃ z : Int32, z = (nI j) + 1 := ⟨_, rfl⟩
          refine lv_iinc (v := x_3) (lv' := [(4, .int x_3), (3, .int (nI q)), (0, .ref (ad 0)), (1, .int a), (2, .int (nI k))]) S.1 S.2.1 d_PR_at_47 hl (k := 0) rfl (by rw [ex_3]; rfl) (by decide) rfl (fun ls hl => ?_)
          refine lv_goto (tgt := 13) S.1 S.2.1 d_PR_at_50 (by decide) ?_
          obtain rfl : x_3 = nI (j + 1) := by rw [ex_3]; exact nI_1 j
          exact ih_13 (j + 1) q (by omega) (by omega) (by omega) (by omega) (by rw [hq, e6, nthx_f (by simpa using c_33)]) _ _ hO ls (lv_sub hl [0, 1, 2, 3, 4] rfl)
        · skip
          refine lv_iload_n S.1 S.2.1 d_PR_at_36 rfl (lv_at hl 1 rfl) ?_
          refine lv_iload_n S.1 S.2.1 d_PR_at_37 rfl (lv_at hl 4 rfl) ?_
          refine lv_icmp_ne (tgt := 44) S.1 S.2.1 d_PR_at_38 (by decide) (fun c_38 => ?_) (fun c_38 => ?_)
          · skip
            have hqk : q ≠ k := fun z => c_38 (by rw [z])
            obtain ⟨x_4, ex_4⟩ : ∃ z : Int32, z = (nI q) + 1 := ⟨_, rfl⟩
            refine lv_iinc (v := x_4) (lv' := [(3, .int x_4), (4, .int (nI j)), (0, .ref (ad 0)), (1, .int a), (2, .int (nI k))]) S.1 S.2.1 d_PR_at_44 hl (k := 1) rfl (by rw [ex_4]; rfl) (by decide) rfl (fun ls hl => ?_)
            obtain ⟨x_5, ex_5⟩ : ∃ z : Int32, z = (nI j) + 1 := ⟨_, rfl⟩
            refine lv_iinc (v := x_5) (lv' := [(4, .int x_5), (3, .int x_4), (0, .ref (ad 0)), (1, .int a), (2, .int (nI k))]) S.1 S.2.1 d_PR_at_47 hl (k := 1) rfl (by rw [ex_5]; rfl) (by decide) rfl (fun ls hl => ?_)
            refine lv_goto (tgt := 13) S.1 S.2.1 d_PR_at_50 (by decide) ?_
            obtain rfl : x_5 = nI (j + 1) := by rw [ex_5]; exact nI_1 j
            obtain rfl : x_4 = nI (q + 1) := by rw [ex_4]; exact nI_1 q
            exact ih_13 (j + 1) (q + 1) (by omega) (by omega) (by omega) (by omega) (by rw [hq, e6, show k - q = (k - (q + 1)) + 1 by omega, nthx_s (by simpa using c_33)]) _ _ hO ls (lv_sub hl [0, 1, 2, 3, 4] rfl)
          · skip
            refine lv_iload S.1 S.2.1 d_PR_at_41 (lv_at hl 0 rfl) ?_
            exact pu_i S hk hr hO ⟨⟨h_1, h_5⟩, (by have z9 : q = k := (nI_eq (by omega) (by omega)).mp c_38; rw [nI_clamp (by omega), hq, e6, show k - q = 0 by omega, nthx_0 (by simpa using c_33)]; rfl)⟩ (Nat.le_of_ble_eq_true rfl) (Nat.le_of_ble_eq_true rfl) d_PR_at_43
  exact K_13 (nu + 1) 0 0 (by omega) (by omega) (by omega) (by omega) rfl _ _ hO ls (lv_sub hl [0, 1, 2, 3, 4] rfl)
end
