section
-- ===== PART A: goes FIRST, ahead of the names: the tables' words, and 'selects' of the private methods out of them =====
/-- a private method of a class that the tables say can be made, by its rows of tables_1 -/
def lw_okq (q : MethodName × Nat) : Prop := (q.1.cls ≠ "java/lang/invoke/MethodHandle" ∧ q.1.cls ≠ "java/lang/invoke/VarHandle") ∧ Cond.instantiable q.1.cls q.2 ∈ tables_1 ∧ Cond.privateMethod q.1 ∈ tables_1 ∧ Cond.instanceMethod q.1 ∈ tables_1
theorem lw_p0 : lw_okq (⟨"PlaceRules$Text", "readLine", "(LPlaceRules$Rule;)Z"⟩, 7) := ⟨⟨by decide +kernel, by decide +kernel⟩, List.mem_of_getElem? (i := 127) (by decide +kernel), List.mem_of_getElem? (i := 410) (by decide +kernel), List.mem_of_getElem? (i := 411) (by decide +kernel)⟩
theorem lw_p1 : lw_okq (⟨"PlaceRules$Text", "readNumber", "(II)Z"⟩, 7) := ⟨⟨by decide +kernel, by decide +kernel⟩, List.mem_of_getElem? (i := 127) (by decide +kernel), List.mem_of_getElem? (i := 414) (by decide +kernel), List.mem_of_getElem? (i := 415) (by decide +kernel)⟩
theorem lw_p2 : lw_okq (⟨"PlaceRules$Text", "nextSign", "()I"⟩, 7) := ⟨⟨by decide +kernel, by decide +kernel⟩, List.mem_of_getElem? (i := 127) (by decide +kernel), List.mem_of_getElem? (i := 418) (by decide +kernel), List.mem_of_getElem? (i := 419) (by decide +kernel)⟩
theorem lw_p3 : lw_okq (⟨"PlaceRules$Text", "fail", "(I)Z"⟩, 7) := ⟨⟨by decide +kernel, by decide +kernel⟩, List.mem_of_getElem? (i := 127) (by decide +kernel), List.mem_of_getElem? (i := 425) (by decide +kernel), List.mem_of_getElem? (i := 426) (by decide +kernel)⟩
theorem lw_p4 : lw_okq (⟨"PlaceRules$Text", "readBlank", "()Z"⟩, 7) := ⟨⟨by decide +kernel, by decide +kernel⟩, List.mem_of_getElem? (i := 127) (by decide +kernel), List.mem_of_getElem? (i := 429) (by decide +kernel), List.mem_of_getElem? (i := 430) (by decide +kernel)⟩
theorem lw_p5 : lw_okq (⟨"PlaceRules$Text", "readSign", "(I)Z"⟩, 7) := ⟨⟨by decide +kernel, by decide +kernel⟩, List.mem_of_getElem? (i := 127) (by decide +kernel), List.mem_of_getElem? (i := 433) (by decide +kernel), List.mem_of_getElem? (i := 434) (by decide +kernel)⟩
theorem lw_p6 : lw_okq (⟨"PlaceRules$Text", "readKind", "()Z"⟩, 7) := ⟨⟨by decide +kernel, by decide +kernel⟩, List.mem_of_getElem? (i := 127) (by decide +kernel), List.mem_of_getElem? (i := 437) (by decide +kernel), List.mem_of_getElem? (i := 438) (by decide +kernel)⟩
theorem lw_p7 : lw_okq (⟨"PlaceRules$Text", "sharedSigns", "(Ljava/lang/String;)I"⟩, 7) := ⟨⟨by decide +kernel, by decide +kernel⟩, List.mem_of_getElem? (i := 127) (by decide +kernel), List.mem_of_getElem? (i := 443) (by decide +kernel), List.mem_of_getElem? (i := 444) (by decide +kernel)⟩
theorem lw_p8 : lw_okq (⟨"PlaceRules$RuleBook", "noteClashes", "(I)V"⟩, 6) := ⟨⟨by decide +kernel, by decide +kernel⟩, List.mem_of_getElem? (i := 43) (by decide +kernel), List.mem_of_getElem? (i := 512) (by decide +kernel), List.mem_of_getElem? (i := 513) (by decide +kernel)⟩
theorem lw_p9 : lw_okq (⟨"PlaceRules$RuleBook", "insertInOrder", "(I)V"⟩, 6) := ⟨⟨by decide +kernel, by decide +kernel⟩, List.mem_of_getElem? (i := 43) (by decide +kernel), List.mem_of_getElem? (i := 516) (by decide +kernel), List.mem_of_getElem? (i := 517) (by decide +kernel)⟩
theorem lw_p10 : lw_okq (⟨"java/lang/Throwable", "fillInStackTrace", "(I)Ljava/lang/Throwable;"⟩, 6) := ⟨⟨by decide +kernel, by decide +kernel⟩, List.mem_of_getElem? (i := 581) (by decide +kernel), List.mem_of_getElem? (i := 579) (by decide +kernel), List.mem_of_getElem? (i := 580) (by decide +kernel)⟩
theorem lw_p11 : lw_okq (⟨"PlaceRules", "needUnit", "(I)V"⟩, 11) := ⟨⟨by decide +kernel, by decide +kernel⟩, List.mem_of_getElem? (i := 29) (by decide +kernel), List.mem_of_getElem? (i := 655) (by decide +kernel), List.mem_of_getElem? (i := 656) (by decide +kernel)⟩
theorem lw_p12 : lw_okq (⟨"PlaceRules", "needNowhere", "(I)V"⟩, 11) := ⟨⟨by decide +kernel, by decide +kernel⟩, List.mem_of_getElem? (i := 29) (by decide +kernel), List.mem_of_getElem? (i := 676) (by decide +kernel), List.mem_of_getElem? (i := 677) (by decide +kernel)⟩
theorem lw_p13 : lw_okq (⟨"PlaceRules", "findWaiver", "(III)I"⟩, 11) := ⟨⟨by decide +kernel, by decide +kernel⟩, List.mem_of_getElem? (i := 29) (by decide +kernel), List.mem_of_getElem? (i := 729) (by decide +kernel), List.mem_of_getElem? (i := 730) (by decide +kernel)⟩
theorem lw_p14 : lw_okq (⟨"PlaceRules", "needQuestion", "(III)V"⟩, 11) := ⟨⟨by decide +kernel, by decide +kernel⟩, List.mem_of_getElem? (i := 29) (by decide +kernel), List.mem_of_getElem? (i := 744) (by decide +kernel), List.mem_of_getElem? (i := 745) (by decide +kernel)⟩
theorem lw_p15 : lw_okq (⟨"PlaceRules", "ask", "(III)I"⟩, 11) := ⟨⟨by decide +kernel, by decide +kernel⟩, List.mem_of_getElem? (i := 29) (by decide +kernel), List.mem_of_getElem? (i := 748) (by decide +kernel), List.mem_of_getElem? (i := 749) (by decide +kernel)⟩
def lw_privs_1 : List (MethodName × Nat) := [(⟨"PlaceRules$Text", "readLine", "(LPlaceRules$Rule;)Z"⟩, 7), (⟨"PlaceRules$Text", "readNumber", "(II)Z"⟩, 7), (⟨"PlaceRules$Text", "nextSign", "()I"⟩, 7), (⟨"PlaceRules$Text", "fail", "(I)Z"⟩, 7), (⟨"PlaceRules$Text", "readBlank", "()Z"⟩, 7), (⟨"PlaceRules$Text", "readSign", "(I)Z"⟩, 7), (⟨"PlaceRules$Text", "readKind", "()Z"⟩, 7), (⟨"PlaceRules$Text", "sharedSigns", "(Ljava/lang/String;)I"⟩, 7), (⟨"PlaceRules$RuleBook", "noteClashes", "(I)V"⟩, 6), (⟨"PlaceRules$RuleBook", "insertInOrder", "(I)V"⟩, 6), (⟨"java/lang/Throwable", "fillInStackTrace", "(I)Ljava/lang/Throwable;"⟩, 6), (⟨"PlaceRules", "needUnit", "(I)V"⟩, 11), (⟨"PlaceRules", "needNowhere", "(I)V"⟩, 11), (⟨"PlaceRules", "findWaiver", "(III)I"⟩, 11), (⟨"PlaceRules", "needQuestion", "(III)V"⟩, 11), (⟨"PlaceRules", "ask", "(III)I"⟩, 11)]
theorem lw_r1 : ∀ q ∈ lw_privs_1, lw_okq q := List.forall_mem_cons.mpr ⟨lw_p0, List.forall_mem_cons.mpr ⟨lw_p1, List.forall_mem_cons.mpr ⟨lw_p2, List.forall_mem_cons.mpr ⟨lw_p3, List.forall_mem_cons.mpr ⟨lw_p4, List.forall_mem_cons.mpr ⟨lw_p5, List.forall_mem_cons.mpr ⟨lw_p6, List.forall_mem_cons.mpr ⟨lw_p7, List.forall_mem_cons.mpr ⟨lw_p8, List.forall_mem_cons.mpr ⟨lw_p9, List.forall_mem_cons.mpr ⟨lw_p10, List.forall_mem_cons.mpr ⟨lw_p11, List.forall_mem_cons.mpr ⟨lw_p12, List.forall_mem_cons.mpr ⟨lw_p13, List.forall_mem_cons.mpr ⟨lw_p14, List.forall_mem_cons.mpr ⟨lw_p15, fun _ h => absurd h List.not_mem_nil⟩⟩⟩⟩⟩⟩⟩⟩⟩⟩⟩⟩⟩⟩⟩⟩
theorem lw_p16 : lw_okq (⟨"PlaceRules", "gather", "(III)V"⟩, 11) := ⟨⟨by decide +kernel, by decide +kernel⟩, List.mem_of_getElem? (i := 29) (by decide +kernel), List.mem_of_getElem? (i := 752) (by decide +kernel), List.mem_of_getElem? (i := 753) (by decide +kernel)⟩
theorem lw_p17 : lw_okq (⟨"PlaceRules$Place", "holds", "(III)Z"⟩, 5) := ⟨⟨by decide +kernel, by decide +kernel⟩, List.mem_of_getElem? (i := 250) (by decide +kernel), List.mem_of_getElem? (i := 764) (by decide +kernel), List.mem_of_getElem? (i := 765) (by decide +kernel)⟩
theorem lw_p18 : lw_okq (⟨"PlaceRules", "isWaived", "(IIII)Z"⟩, 11) := ⟨⟨by decide +kernel, by decide +kernel⟩, List.mem_of_getElem? (i := 29) (by decide +kernel), List.mem_of_getElem? (i := 795) (by decide +kernel), List.mem_of_getElem? (i := 796) (by decide +kernel)⟩
theorem lw_p19 : lw_okq (⟨"PlaceRulesModel", "fails", "(ZZZ)Z"⟩, 28) := ⟨⟨by decide +kernel, by decide +kernel⟩, List.mem_of_getElem? (i := 897) (by decide +kernel), List.mem_of_getElem? (i := 1007) (by decide +kernel), List.mem_of_getElem? (i := 1008) (by decide +kernel)⟩
theorem lw_p20 : lw_okq (⟨"PlaceRulesModel", "lay", "(IIIII)V"⟩, 28) := ⟨⟨by decide +kernel, by decide +kernel⟩, List.mem_of_getElem? (i := 897) (by decide +kernel), List.mem_of_getElem? (i := 1020) (by decide +kernel), List.mem_of_getElem? (i := 1021) (by decide +kernel)⟩
theorem lw_p21 : lw_okq (⟨"PlaceRulesModel", "isUnit", "(I)Z"⟩, 28) := ⟨⟨by decide +kernel, by decide +kernel⟩, List.mem_of_getElem? (i := 897) (by decide +kernel), List.mem_of_getElem? (i := 1029) (by decide +kernel), List.mem_of_getElem? (i := 1030) (by decide +kernel)⟩
theorem lw_p22 : lw_okq (⟨"PlaceRulesModel", "comes", "(IIII)V"⟩, 28) := ⟨⟨by decide +kernel, by decide +kernel⟩, List.mem_of_getElem? (i := 897) (by decide +kernel), List.mem_of_getElem? (i := 1047) (by decide +kernel), List.mem_of_getElem? (i := 1048) (by decide +kernel)⟩
theorem lw_p23 : lw_okq (⟨"PlaceRulesModel", "fault", "(I)V"⟩, 28) := ⟨⟨by decide +kernel, by decide +kernel⟩, List.mem_of_getElem? (i := 897) (by decide +kernel), List.mem_of_getElem? (i := 1059) (by decide +kernel), List.mem_of_getElem? (i := 1060) (by decide +kernel)⟩
theorem lw_p24 : lw_okq (⟨"PlaceRulesModel", "line", "(Z)V"⟩, 28) := ⟨⟨by decide +kernel, by decide +kernel⟩, List.mem_of_getElem? (i := 897) (by decide +kernel), List.mem_of_getElem? (i := 1063) (by decide +kernel), List.mem_of_getElem? (i := 1064) (by decide +kernel)⟩
theorem lw_p25 : lw_okq (⟨"PlaceRulesModel", "digits", "()I"⟩, 28) := ⟨⟨by decide +kernel, by decide +kernel⟩, List.mem_of_getElem? (i := 897) (by decide +kernel), List.mem_of_getElem? (i := 1067) (by decide +kernel), List.mem_of_getElem? (i := 1068) (by decide +kernel)⟩
theorem lw_p26 : lw_okq (⟨"PlaceRulesModel", "isDigit", "()Z"⟩, 28) := ⟨⟨by decide +kernel, by decide +kernel⟩, List.mem_of_getElem? (i := 897) (by decide +kernel), List.mem_of_getElem? (i := 1071) (by decide +kernel), List.mem_of_getElem? (i := 1072) (by decide +kernel)⟩
theorem lw_p27 : lw_okq (⟨"PlaceRulesModel", "now", "()I"⟩, 28) := ⟨⟨by decide +kernel, by decide +kernel⟩, List.mem_of_getElem? (i := 897) (by decide +kernel), List.mem_of_getElem? (i := 1075) (by decide +kernel), List.mem_of_getElem? (i := 1076) (by decide +kernel)⟩
theorem lw_p28 : lw_okq (⟨"PlaceRulesModel", "pass", "(I)V"⟩, 28) := ⟨⟨by decide +kernel, by decide +kernel⟩, List.mem_of_getElem? (i := 897) (by decide +kernel), List.mem_of_getElem? (i := 1079) (by decide +kernel), List.mem_of_getElem? (i := 1080) (by decide +kernel)⟩
theorem lw_p29 : lw_okq (⟨"PlaceRulesModel", "kind", "()I"⟩, 28) := ⟨⟨by decide +kernel, by decide +kernel⟩, List.mem_of_getElem? (i := 897) (by decide +kernel), List.mem_of_getElem? (i := 1083) (by decide +kernel), List.mem_of_getElem? (i := 1084) (by decide +kernel)⟩
theorem lw_p30 : lw_okq (⟨"PlaceRulesModel", "match", "(II)I"⟩, 28) := ⟨⟨by decide +kernel, by decide +kernel⟩, List.mem_of_getElem? (i := 897) (by decide +kernel), List.mem_of_getElem? (i := 1087) (by decide +kernel), List.mem_of_getElem? (i := 1088) (by decide +kernel)⟩
theorem lw_p31 : lw_okq (⟨"PlaceRulesModel", "lengthOf", "(I)I"⟩, 28) := ⟨⟨by decide +kernel, by decide +kernel⟩, List.mem_of_getElem? (i := 897) (by decide +kernel), List.mem_of_getElem? (i := 1091) (by decide +kernel), List.mem_of_getElem? (i := 1092) (by decide +kernel)⟩
def lw_privs_2 : List (MethodName × Nat) := [(⟨"PlaceRules", "gather", "(III)V"⟩, 11), (⟨"PlaceRules$Place", "holds", "(III)Z"⟩, 5), (⟨"PlaceRules", "isWaived", "(IIII)Z"⟩, 11), (⟨"PlaceRulesModel", "fails", "(ZZZ)Z"⟩, 28), (⟨"PlaceRulesModel", "lay", "(IIIII)V"⟩, 28), (⟨"PlaceRulesModel", "isUnit", "(I)Z"⟩, 28), (⟨"PlaceRulesModel", "comes", "(IIII)V"⟩, 28), (⟨"PlaceRulesModel", "fault", "(I)V"⟩, 28), (⟨"PlaceRulesModel", "line", "(Z)V"⟩, 28), (⟨"PlaceRulesModel", "digits", "()I"⟩, 28), (⟨"PlaceRulesModel", "isDigit", "()Z"⟩, 28), (⟨"PlaceRulesModel", "now", "()I"⟩, 28), (⟨"PlaceRulesModel", "pass", "(I)V"⟩, 28), (⟨"PlaceRulesModel", "kind", "()I"⟩, 28), (⟨"PlaceRulesModel", "match", "(II)I"⟩, 28), (⟨"PlaceRulesModel", "lengthOf", "(I)I"⟩, 28)]
theorem lw_r2 : ∀ q ∈ lw_privs_2, lw_okq q := List.forall_mem_cons.mpr ⟨lw_p16, List.forall_mem_cons.mpr ⟨lw_p17, List.forall_mem_cons.mpr ⟨lw_p18, List.forall_mem_cons.mpr ⟨lw_p19, List.forall_mem_cons.mpr ⟨lw_p20, List.forall_mem_cons.mpr ⟨lw_p21, List.forall_mem_cons.mpr ⟨lw_p22, List.forall_mem_cons.mpr ⟨lw_p23, List.forall_mem_cons.mpr ⟨lw_p24, List.forall_mem_cons.mpr ⟨lw_p25, List.forall_mem_cons.mpr ⟨lw_p26, List.forall_mem_cons.mpr ⟨lw_p27, List.forall_mem_cons.mpr ⟨lw_p28, List.forall_mem_cons.mpr ⟨lw_p29, List.forall_mem_cons.mpr ⟨lw_p30, List.forall_mem_cons.mpr ⟨lw_p31, fun _ h => absurd h List.not_mem_nil⟩⟩⟩⟩⟩⟩⟩⟩⟩⟩⟩⟩⟩⟩⟩⟩
theorem lw_p32 : lw_okq (⟨"PlaceRulesModel", "ask", "(III)I"⟩, 28) := ⟨⟨by decide +kernel, by decide +kernel⟩, List.mem_of_getElem? (i := 897) (by decide +kernel), List.mem_of_getElem? (i := 1107) (by decide +kernel), List.mem_of_getElem? (i := 1108) (by decide +kernel)⟩
theorem lw_p33 : lw_okq (⟨"PlaceRulesModel", "isExcepted", "(IIII)Z"⟩, 28) := ⟨⟨by decide +kernel, by decide +kernel⟩, List.mem_of_getElem? (i := 897) (by decide +kernel), List.mem_of_getElem? (i := 1111) (by decide +kernel), List.mem_of_getElem? (i := 1112) (by decide +kernel)⟩
theorem lw_p34 : lw_okq (⟨"PlaceRulesModel", "refuses", "(IIII)Z"⟩, 28) := ⟨⟨by decide +kernel, by decide +kernel⟩, List.mem_of_getElem? (i := 897) (by decide +kernel), List.mem_of_getElem? (i := 1115) (by decide +kernel), List.mem_of_getElem? (i := 1116) (by decide +kernel)⟩
theorem lw_p35 : lw_okq (⟨"PlaceRulesModel", "isSized", "(III)Z"⟩, 28) := ⟨⟨by decide +kernel, by decide +kernel⟩, List.mem_of_getElem? (i := 897) (by decide +kernel), List.mem_of_getElem? (i := 1119) (by decide +kernel), List.mem_of_getElem? (i := 1120) (by decide +kernel)⟩
theorem lw_p36 : lw_okq (⟨"PlaceRulesModel", "fits", "(III)Z"⟩, 28) := ⟨⟨by decide +kernel, by decide +kernel⟩, List.mem_of_getElem? (i := 897) (by decide +kernel), List.mem_of_getElem? (i := 1123) (by decide +kernel), List.mem_of_getElem? (i := 1124) (by decide +kernel)⟩
theorem lw_p37 : lw_okq (⟨"PlaceRulesModel", "others", "(II)I"⟩, 28) := ⟨⟨by decide +kernel, by decide +kernel⟩, List.mem_of_getElem? (i := 897) (by decide +kernel), List.mem_of_getElem? (i := 1127) (by decide +kernel), List.mem_of_getElem? (i := 1128) (by decide +kernel)⟩
theorem lw_p38 : lw_okq (⟨"PlaceRulesModel", "unlike", "(III)I"⟩, 28) := ⟨⟨by decide +kernel, by decide +kernel⟩, List.mem_of_getElem? (i := 897) (by decide +kernel), List.mem_of_getElem? (i := 1131) (by decide +kernel), List.mem_of_getElem? (i := 1132) (by decide +kernel)⟩
theorem lw_p39 : lw_okq (⟨"PlaceRulesModel", "isThere", "(III)Z"⟩, 28) := ⟨⟨by decide +kernel, by decide +kernel⟩, List.mem_of_getElem? (i := 897) (by decide +kernel), List.mem_of_getElem? (i := 1135) (by decide +kernel), List.mem_of_getElem? (i := 1136) (by decide +kernel)⟩
theorem lw_p40 : lw_okq (⟨"PlaceRulesModel", "meets", "(III)Z"⟩, 28) := ⟨⟨by decide +kernel, by decide +kernel⟩, List.mem_of_getElem? (i := 897) (by decide +kernel), List.mem_of_getElem? (i := 1139) (by decide +kernel), List.mem_of_getElem? (i := 1140) (by decide +kernel)⟩
theorem lw_p41 : lw_okq (⟨"PlaceRulesModel", "many", "(II)I"⟩, 28) := ⟨⟨by decide +kernel, by decide +kernel⟩, List.mem_of_getElem? (i := 897) (by decide +kernel), List.mem_of_getElem? (i := 1143) (by decide +kernel), List.mem_of_getElem? (i := 1144) (by decide +kernel)⟩
theorem lw_p42 : lw_okq (⟨"PlaceRulesModel", "span", "(II)I"⟩, 28) := ⟨⟨by decide +kernel, by decide +kernel⟩, List.mem_of_getElem? (i := 897) (by decide +kernel), List.mem_of_getElem? (i := 1147) (by decide +kernel), List.mem_of_getElem? (i := 1148) (by decide +kernel)⟩
theorem lw_p43 : lw_okq (⟨"PlaceRulesModel", "ownRefuses", "(III)Z"⟩, 28) := ⟨⟨by decide +kernel, by decide +kernel⟩, List.mem_of_getElem? (i := 897) (by decide +kernel), List.mem_of_getElem? (i := 1151) (by decide +kernel), List.mem_of_getElem? (i := 1152) (by decide +kernel)⟩
def lw_privs_3 : List (MethodName × Nat) := [(⟨"PlaceRulesModel", "ask", "(III)I"⟩, 28), (⟨"PlaceRulesModel", "isExcepted", "(IIII)Z"⟩, 28), (⟨"PlaceRulesModel", "refuses", "(IIII)Z"⟩, 28), (⟨"PlaceRulesModel", "isSized", "(III)Z"⟩, 28), (⟨"PlaceRulesModel", "fits", "(III)Z"⟩, 28), (⟨"PlaceRulesModel", "others", "(II)I"⟩, 28), (⟨"PlaceRulesModel", "unlike", "(III)I"⟩, 28), (⟨"PlaceRulesModel", "isThere", "(III)Z"⟩, 28), (⟨"PlaceRulesModel", "meets", "(III)Z"⟩, 28), (⟨"PlaceRulesModel", "many", "(II)I"⟩, 28), (⟨"PlaceRulesModel", "span", "(II)I"⟩, 28), (⟨"PlaceRulesModel", "ownRefuses", "(III)Z"⟩, 28)]
theorem lw_r3 : ∀ q ∈ lw_privs_3, lw_okq q := List.forall_mem_cons.mpr ⟨lw_p32, List.forall_mem_cons.mpr ⟨lw_p33, List.forall_mem_cons.mpr ⟨lw_p34, List.forall_mem_cons.mpr ⟨lw_p35, List.forall_mem_cons.mpr ⟨lw_p36, List.forall_mem_cons.mpr ⟨lw_p37, List.forall_mem_cons.mpr ⟨lw_p38, List.forall_mem_cons.mpr ⟨lw_p39, List.forall_mem_cons.mpr ⟨lw_p40, List.forall_mem_cons.mpr ⟨lw_p41, List.forall_mem_cons.mpr ⟨lw_p42, List.forall_mem_cons.mpr ⟨lw_p43, fun _ h => absurd h List.not_mem_nil⟩⟩⟩⟩⟩⟩⟩⟩⟩⟩⟩⟩
def lw_privs : List (MethodName × Nat) := lw_privs_1 ++ (lw_privs_2 ++ (lw_privs_3))
def lw_tbl : List Cond := k2_sels lw_privs ++ tables_1
theorem lw_privs_ok : ∀ q ∈ lw_privs, lw_okq q := by
  show ∀ q ∈ lw_privs_1 ++ (lw_privs_2 ++ (lw_privs_3)), lw_okq q
  exact List.forall_mem_append.mpr ⟨lw_r1, List.forall_mem_append.mpr ⟨lw_r2, lw_r3⟩⟩
end
section
/-! One world for all: every cell of the class, of the reference and of the law has a number, in the order in which they are made; ad: its address; E: what it holds. -/
def gw (n : Nat) (ad : Nat → Nat) (E : Nat → va_E) : va_W := (List.range n).map fun k => (ad k, E k)
theorem gw_len {n : Nat} {ad : Nat → Nat} {E : Nat → va_E} : (gw n ad E).length = n := by simp [gw]
theorem gw_at {n : Nat} {ad : Nat → Nat} {E : Nat → va_E} {k : Nat} (h : k < n) : (gw n ad E)[k]? = some (ad k, E k) := by
  simp [gw, List.getElem?_map, h]
theorem gw_set {n : Nat} {ad : Nat → Nat} {E : Nat → va_E} {k : Nat} {e : va_E} (h : k < n) : (gw n ad E).set k (ad k, e) = gw n ad (va_up E k e) := by
  apply List.ext_getElem?
  intro j
  by_cases hj : j < n
  · rw [gw_at hj]
    by_cases hjk : j = k
    · subst hjk
      rw [List.getElem?_set_self (by rw [gw_len]; exact hj)]
      simp [va_up]
    · rw [List.getElem?_set_ne (Ne.symm hjk), gw_at hj]
      simp [va_up, hjk]
  · rw [List.getElem?_eq_none (by rw [List.length_set, gw_len]; omega), List.getElem?_eq_none (by rw [gw_len]; omega)]
theorem gw_push {n : Nat} {ad : Nat → Nat} {E : Nat → va_E} {q : Nat} {e : va_E} : gw n ad E ++ [(q, e)] = gw (n + 1) (va_up ad n q) (va_up E n e) := by
  unfold gw
  rw [List.range_succ, List.map_append]
  congr 1
  · apply List.map_congr_left
    intro k hk
    have h : k ≠ n := by have h1 := List.mem_range.mp hk; omega
    simp [va_up, h]
  · simp [va_up]
end
section
/-! Names: the good words of the tables; classes with their fields; methods with their code; each word by its place. Written by wip/tools/emit_names.py. -/
def gts : List Cond := lw_tbl.filter goodWord
theorem gts_of {w : Cond} (h : w ∈ lw_tbl) (g : goodWord w = true) : w ∈ gts := List.mem_filter.mpr ⟨h, g⟩
theorem gt_0 {w : Cond} (i : Nat) (h : (k2_sels lw_privs)[i]? = some w) (g : goodWord w = true) : w ∈ gts := gts_of (List.mem_append_left _ (List.mem_of_getElem? h)) g
theorem gt_1 {w : Cond} (i : Nat) (h : tables_1_1[i]? = some w) (g : goodWord w = true) : w ∈ gts := gts_of (List.mem_append_right _ (List.mem_append_left _ (List.mem_of_getElem? h))) g
theorem gt_2 {w : Cond} (i : Nat) (h : tables_1_2[i]? = some w) (g : goodWord w = true) : w ∈ gts := gts_of (List.mem_append_right _ (List.mem_append_right _ (List.mem_append_left _ (List.mem_of_getElem? h)))) g
theorem gt_3 {w : Cond} (i : Nat) (h : tables_1_3[i]? = some w) (g : goodWord w = true) : w ∈ gts := gts_of (List.mem_append_right _ (List.mem_append_right _ (List.mem_append_right _ (List.mem_append_left _ (List.mem_of_getElem? h))))) g
theorem gt_4 {w : Cond} (i : Nat) (h : tables_1_4[i]? = some w) (g : goodWord w = true) : w ∈ gts := gts_of (List.mem_append_right _ (List.mem_append_right _ (List.mem_append_right _ (List.mem_append_right _ (List.mem_append_left _ (List.mem_of_getElem? h)))))) g
theorem gt_5 {w : Cond} (i : Nat) (h : tables_1_5[i]? = some w) (g : goodWord w = true) : w ∈ gts := gts_of (List.mem_append_right _ (List.mem_append_right _ (List.mem_append_right _ (List.mem_append_right _ (List.mem_append_right _ (List.mem_append_left _ (List.mem_of_getElem? h))))))) g
theorem gt_6 {w : Cond} (i : Nat) (h : tables_1_6[i]? = some w) (g : goodWord w = true) : w ∈ gts := gts_of (List.mem_append_right _ (List.mem_append_right _ (List.mem_append_right _ (List.mem_append_right _ (List.mem_append_right _ (List.mem_append_right _ (List.mem_of_getElem? h))))))) g
abbrev T_PR : u_T := fun k => match k with
  | 0 => ("PlaceRules", "places", "[LPlaceRules$Place;", true)
  | 1 => ("PlaceRules", "units", "[LPlaceRules$Unit;", true)
  | 2 => ("PlaceRules", "unitCount", "I", false)
  | 3 => ("PlaceRules", "waivers", "[LPlaceRules$Waiver;", true)
  | 4 => ("PlaceRules", "waiverCount", "I", false)
  | 5 => ("PlaceRules", "book", "LPlaceRules$RuleBook;", true)
  | 6 => ("PlaceRules", "ownRules", "LPlaceRules$OwnRules;", true)
  | 7 => ("PlaceRules", "text", "LPlaceRules$Text;", true)
  | 8 => ("PlaceRules", "question", "LPlaceRules$Question;", true)
  | 9 => ("PlaceRules", "refusals", "[I", true)
  | _ => ("PlaceRules", "refusalCount", "I", false)
abbrev ty_PR : Nat → FieldType := fun k => match k with
  | 0 => .array (.object "PlaceRules$Place")
  | 1 => .array (.object "PlaceRules$Unit")
  | 2 => .int
  | 3 => .array (.object "PlaceRules$Waiver")
  | 4 => .int
  | 5 => .object "PlaceRules$RuleBook"
  | 6 => .object "PlaceRules$OwnRules"
  | 7 => .object "PlaceRules$Text"
  | 8 => .object "PlaceRules$Question"
  | 9 => .array .int
  | _ => .int
abbrev T_RB : u_T := fun k => match k with
  | 0 => ("PlaceRules$RuleBook", "rules", "[LPlaceRules$Rule;", true)
  | 1 => ("PlaceRules$RuleBook", "order", "[I", true)
  | 2 => ("PlaceRules$RuleBook", "ruleCount", "I", false)
  | 3 => ("PlaceRules$RuleBook", "earlier", "[I", true)
  | 4 => ("PlaceRules$RuleBook", "later", "[I", true)
  | _ => ("PlaceRules$RuleBook", "clashCount", "I", false)
abbrev ty_RB : Nat → FieldType := fun k => match k with
  | 0 => .array (.object "PlaceRules$Rule")
  | 1 => .array .int
  | 2 => .int
  | 3 => .array .int
  | 4 => .array .int
  | _ => .int
abbrev T_RU : u_T := fun k => match k with
  | 0 => ("PlaceRules$Rule", "rank", "I", false)
  | 1 => ("PlaceRules$Rule", "kind", "LPlaceRules$Kind;", false)
  | 2 => ("PlaceRules$Rule", "a", "I", false)
  | 3 => ("PlaceRules$Rule", "b", "I", false)
  | _ => ("PlaceRules$Rule", "hasRefused", "Z", false)
abbrev ty_RU : Nat → FieldType := fun k => match k with
  | 0 => .int
  | 1 => .object "PlaceRules$Kind"
  | 2 => .int
  | 3 => .int
  | _ => .boolean
abbrev T_OW : u_T := fun k => match k with
  | 0 => ("PlaceRules$OwnRules", "says", "[I", true)
  | _ => ("PlaceRules$OwnRules", "failures", "I", false)
abbrev ty_OW : Nat → FieldType := fun k => match k with
  | 0 => .array .int
  | _ => .int
abbrev T_TX : u_T := fun k => match k with
  | 0 => ("PlaceRules$Text", "signs", "[I", true)
  | 1 => ("PlaceRules$Text", "signCount", "I", false)
  | 2 => ("PlaceRules$Text", "drafts", "[LPlaceRules$Rule;", true)
  | 3 => ("PlaceRules$Text", "next", "I", false)
  | 4 => ("PlaceRules$Text", "wrong", "I", false)
  | 5 => ("PlaceRules$Text", "value", "I", false)
  | _ => ("PlaceRules$Text", "kind", "LPlaceRules$Kind;", false)
abbrev ty_TX : Nat → FieldType := fun k => match k with
  | 0 => .array .int
  | 1 => .int
  | 2 => .array (.object "PlaceRules$Rule")
  | 3 => .int
  | 4 => .int
  | 5 => .int
  | _ => .object "PlaceRules$Kind"
abbrev T_QU : u_T := fun k => match k with
  | 0 => ("PlaceRules$Question", "fitsUpright", "Z", false)
  | 1 => ("PlaceRules$Question", "fitsSomehow", "Z", false)
  | 2 => ("PlaceRules$Question", "day", "I", false)
  | 3 => ("PlaceRules$Question", "limit", "I", false)
  | 4 => ("PlaceRules$Question", "zone", "I", false)
  | 5 => ("PlaceRules$Question", "good", "I", false)
  | 6 => ("PlaceRules$Question", "grams", "I", false)
  | 7 => ("PlaceRules$Question", "hazard", "I", false)
  | 8 => ("PlaceRules$Question", "group", "I", false)
  | 9 => ("PlaceRules$Question", "last", "I", false)
  | 10 => ("PlaceRules$Question", "units", "I", false)
  | 11 => ("PlaceRules$Question", "othersGrams", "I", false)
  | 12 => ("PlaceRules$Question", "leastLast", "I", false)
  | 13 => ("PlaceRules$Question", "greatestLast", "I", false)
  | 14 => ("PlaceRules$Question", "goods", "LPlaceRules$NumberSet;", true)
  | 15 => ("PlaceRules$Question", "lots", "LPlaceRules$NumberSet;", true)
  | 16 => ("PlaceRules$Question", "owners", "LPlaceRules$NumberSet;", true)
  | _ => ("PlaceRules$Question", "othersHazards", "LPlaceRules$NumberSet;", true)
abbrev ty_QU : Nat → FieldType := fun k => match k with
  | 0 => .boolean
  | 1 => .boolean
  | 2 => .int
  | 3 => .int
  | 4 => .int
  | 5 => .int
  | 6 => .int
  | 7 => .int
  | 8 => .int
  | 9 => .int
  | 10 => .int
  | 11 => .int
  | 12 => .int
  | 13 => .int
  | 14 => .object "PlaceRules$NumberSet"
  | 15 => .object "PlaceRules$NumberSet"
  | 16 => .object "PlaceRules$NumberSet"
  | _ => .object "PlaceRules$NumberSet"
abbrev T_NS : u_T := fun k => match k with
  | 0 => ("PlaceRules$NumberSet", "low", "J", false)
  | _ => ("PlaceRules$NumberSet", "high", "J", false)
abbrev ty_NS : Nat → FieldType := fun k => match k with
  | 0 => .long
  | _ => .long
abbrev T_PL : u_T := fun k => match k with
  | 0 => ("PlaceRules$Place", "width", "I", false)
  | 1 => ("PlaceRules$Place", "depth", "I", false)
  | 2 => ("PlaceRules$Place", "height", "I", false)
  | 3 => ("PlaceRules$Place", "limit", "I", false)
  | _ => ("PlaceRules$Place", "zone", "I", false)
abbrev ty_PL : Nat → FieldType := fun k => match k with
  | 0 => .int
  | 1 => .int
  | 2 => .int
  | 3 => .int
  | _ => .int
abbrev T_UN : u_T := fun k => match k with
  | 0 => ("PlaceRules$Unit", "good", "I", false)
  | 1 => ("PlaceRules$Unit", "lot", "I", false)
  | 2 => ("PlaceRules$Unit", "owner", "I", false)
  | 3 => ("PlaceRules$Unit", "width", "I", false)
  | 4 => ("PlaceRules$Unit", "depth", "I", false)
  | 5 => ("PlaceRules$Unit", "height", "I", false)
  | 6 => ("PlaceRules$Unit", "grams", "I", false)
  | 7 => ("PlaceRules$Unit", "hazard", "I", false)
  | 8 => ("PlaceRules$Unit", "group", "I", false)
  | 9 => ("PlaceRules$Unit", "last", "I", false)
  | _ => ("PlaceRules$Unit", "place", "I", false)
abbrev ty_UN : Nat → FieldType := fun k => match k with
  | 0 => .int
  | 1 => .int
  | 2 => .int
  | 3 => .int
  | 4 => .int
  | 5 => .int
  | 6 => .int
  | 7 => .int
  | 8 => .int
  | 9 => .int
  | _ => .int
abbrev T_WV : u_T := fun k => match k with
  | 0 => ("PlaceRules$Waiver", "rule", "I", false)
  | 1 => ("PlaceRules$Waiver", "place", "I", false)
  | 2 => ("PlaceRules$Waiver", "owner", "I", false)
  | _ => ("PlaceRules$Waiver", "until", "I", false)
abbrev ty_WV : Nat → FieldType := fun k => match k with
  | 0 => .int
  | 1 => .int
  | 2 => .int
  | _ => .int
abbrev T_MD : u_T := fun k => match k with
  | 0 => ("PlaceRulesModel", "thrown", "I", false)
  | 1 => ("PlaceRulesModel", "places", "[I", true)
  | 2 => ("PlaceRulesModel", "units", "I", false)
  | 3 => ("PlaceRulesModel", "things", "[I", true)
  | 4 => ("PlaceRulesModel", "stands", "[I", true)
  | 5 => ("PlaceRulesModel", "rules", "I", false)
  | 6 => ("PlaceRulesModel", "ranks", "[I", true)
  | 7 => ("PlaceRulesModel", "kinds", "[I", true)
  | 8 => ("PlaceRulesModel", "firsts", "[I", true)
  | 9 => ("PlaceRulesModel", "seconds", "[I", true)
  | 10 => ("PlaceRulesModel", "refused", "[Z", true)
  | 11 => ("PlaceRulesModel", "exceptions", "I", false)
  | 12 => ("PlaceRulesModel", "rulesOf", "[I", true)
  | 13 => ("PlaceRulesModel", "placesOf", "[I", true)
  | 14 => ("PlaceRulesModel", "ownersOf", "[I", true)
  | 15 => ("PlaceRulesModel", "untils", "[I", true)
  | 16 => ("PlaceRulesModel", "says", "[I", true)
  | 17 => ("PlaceRulesModel", "failures", "I", false)
  | 18 => ("PlaceRulesModel", "clashes", "I", false)
  | 19 => ("PlaceRulesModel", "clashing", "[I", true)
  | 20 => ("PlaceRulesModel", "told", "I", false)
  | 21 => ("PlaceRulesModel", "tells", "[I", true)
  | 22 => ("PlaceRulesModel", "signs", "I", false)
  | 23 => ("PlaceRulesModel", "text", "[I", true)
  | 24 => ("PlaceRulesModel", "at", "I", false)
  | 25 => ("PlaceRulesModel", "wrong", "I", false)
  | 26 => ("PlaceRulesModel", "number", "I", false)
  | _ => ("PlaceRulesModel", "names", "[I", true)
abbrev ty_MD : Nat → FieldType := fun k => match k with
  | 0 => .int
  | 1 => .array .int
  | 2 => .int
  | 3 => .array .int
  | 4 => .array .int
  | 5 => .int
  | 6 => .array .int
  | 7 => .array .int
  | 8 => .array .int
  | 9 => .array .int
  | 10 => .array .boolean
  | 11 => .int
  | 12 => .array .int
  | 13 => .array .int
  | 14 => .array .int
  | 15 => .array .int
  | 16 => .array .int
  | 17 => .int
  | 18 => .int
  | 19 => .array .int
  | 20 => .int
  | 21 => .array .int
  | 22 => .int
  | 23 => .array .int
  | 24 => .int
  | 25 => .int
  | 26 => .int
  | _ => .array .int
abbrev gcl : List vw_C := [("PlaceRules", T_PR, 11), ("PlaceRules$RuleBook", T_RB, 6), ("PlaceRules$Rule", T_RU, 5), ("PlaceRules$OwnRules", T_OW, 2), ("PlaceRules$Text", T_TX, 7), ("PlaceRules$Question", T_QU, 18), ("PlaceRules$NumberSet", T_NS, 2), ("PlaceRules$Place", T_PL, 5), ("PlaceRules$Unit", T_UN, 11), ("PlaceRules$Waiver", T_WV, 4), ("PlaceRulesModel", T_MD, 28)]
theorem nm_PR : ∀ a, a < 11 → ∀ b, b < 11 → a ≠ b → (T_PR a).2.1 ≠ (T_PR b).2.1 := by decide +kernel
theorem tk_PR : ∀ k, k < 11 → parseFieldDescriptor (T_PR k).2.2.1 = some (ty_PR k) := by decide +kernel
theorem in_PR : ∀ w ∈ u_ws "PlaceRules" T_PR 11, w ∈ gts := by
  intro w hw
  obtain ⟨k, hk, rfl⟩ := List.mem_map.mp hw
  have hk := List.mem_range.mp hk
  match k, hk with
  | 0, _ => exact gt_2 126 rfl rfl
  | 1, _ => exact gt_2 128 rfl rfl
  | 2, _ => exact gt_2 130 rfl rfl
  | 3, _ => exact gt_2 132 rfl rfl
  | 4, _ => exact gt_2 134 rfl rfl
  | 5, _ => exact gt_2 136 rfl rfl
  | 6, _ => exact gt_2 138 rfl rfl
  | 7, _ => exact gt_2 140 rfl rfl
  | 8, _ => exact gt_2 142 rfl rfl
  | 9, _ => exact gt_2 144 rfl rfl
  | 10, _ => exact gt_2 146 rfl rfl
  | k + 11, hk => exact absurd hk (by omega)
theorem nm_RB : ∀ a, a < 6 → ∀ b, b < 6 → a ≠ b → (T_RB a).2.1 ≠ (T_RB b).2.1 := by decide +kernel
theorem tk_RB : ∀ k, k < 6 → parseFieldDescriptor (T_RB k).2.2.1 = some (ty_RB k) := by decide +kernel
theorem in_RB : ∀ w ∈ u_ws "PlaceRules$RuleBook" T_RB 6, w ∈ gts := by
  intro w hw
  obtain ⟨k, hk, rfl⟩ := List.mem_map.mp hw
  have hk := List.mem_range.mp hk
  match k, hk with
  | 0, _ => exact gt_1 98 rfl rfl
  | 1, _ => exact gt_1 100 rfl rfl
  | 2, _ => exact gt_1 102 rfl rfl
  | 3, _ => exact gt_1 104 rfl rfl
  | 4, _ => exact gt_1 106 rfl rfl
  | 5, _ => exact gt_1 108 rfl rfl
  | k + 6, hk => exact absurd hk (by omega)
theorem nm_RU : ∀ a, a < 5 → ∀ b, b < 5 → a ≠ b → (T_RU a).2.1 ≠ (T_RU b).2.1 := by decide +kernel
theorem tk_RU : ∀ k, k < 5 → parseFieldDescriptor (T_RU k).2.2.1 = some (ty_RU k) := by decide +kernel
theorem in_RU : ∀ w ∈ u_ws "PlaceRules$Rule" T_RU 5, w ∈ gts := by
  intro w hw
  obtain ⟨k, hk, rfl⟩ := List.mem_map.mp hw
  have hk := List.mem_range.mp hk
  match k, hk with
  | 0, _ => exact gt_1 74 rfl rfl
  | 1, _ => exact gt_1 76 rfl rfl
  | 2, _ => exact gt_1 78 rfl rfl
  | 3, _ => exact gt_1 80 rfl rfl
  | 4, _ => exact gt_1 82 rfl rfl
  | k + 5, hk => exact absurd hk (by omega)
theorem nm_OW : ∀ a, a < 2 → ∀ b, b < 2 → a ≠ b → (T_OW a).2.1 ≠ (T_OW b).2.1 := by decide +kernel
theorem tk_OW : ∀ k, k < 2 → parseFieldDescriptor (T_OW k).2.2.1 = some (ty_OW k) := by decide +kernel
theorem in_OW : ∀ w ∈ u_ws "PlaceRules$OwnRules" T_OW 2, w ∈ gts := by
  intro w hw
  obtain ⟨k, hk, rfl⟩ := List.mem_map.mp hw
  have hk := List.mem_range.mp hk
  match k, hk with
  | 0, _ => exact gt_1 121 rfl rfl
  | 1, _ => exact gt_1 123 rfl rfl
  | k + 2, hk => exact absurd hk (by omega)
theorem nm_TX : ∀ a, a < 7 → ∀ b, b < 7 → a ≠ b → (T_TX a).2.1 ≠ (T_TX b).2.1 := by decide +kernel
theorem tk_TX : ∀ k, k < 7 → parseFieldDescriptor (T_TX k).2.2.1 = some (ty_TX k) := by decide +kernel
theorem in_TX : ∀ w ∈ u_ws "PlaceRules$Text" T_TX 7, w ∈ gts := by
  intro w hw
  obtain ⟨k, hk, rfl⟩ := List.mem_map.mp hw
  have hk := List.mem_range.mp hk
  match k, hk with
  | 0, _ => exact gt_1 144 rfl rfl
  | 1, _ => exact gt_1 146 rfl rfl
  | 2, _ => exact gt_1 148 rfl rfl
  | 3, _ => exact gt_1 150 rfl rfl
  | 4, _ => exact gt_1 152 rfl rfl
  | 5, _ => exact gt_1 154 rfl rfl
  | 6, _ => exact gt_1 156 rfl rfl
  | k + 7, hk => exact absurd hk (by omega)
theorem nm_QU : ∀ a, a < 18 → ∀ b, b < 18 → a ≠ b → (T_QU a).2.1 ≠ (T_QU b).2.1 := by decide +kernel
theorem tk_QU : ∀ k, k < 18 → parseFieldDescriptor (T_QU k).2.2.1 = some (ty_QU k) := by decide +kernel
theorem in_QU : ∀ w ∈ u_ws "PlaceRules$Question" T_QU 18, w ∈ gts := by
  intro w hw
  obtain ⟨k, hk, rfl⟩ := List.mem_map.mp hw
  have hk := List.mem_range.mp hk
  match k, hk with
  | 0, _ => exact gt_1 213 rfl rfl
  | 1, _ => exact gt_1 215 rfl rfl
  | 2, _ => exact gt_1 217 rfl rfl
  | 3, _ => exact gt_1 219 rfl rfl
  | 4, _ => exact gt_1 221 rfl rfl
  | 5, _ => exact gt_1 223 rfl rfl
  | 6, _ => exact gt_1 225 rfl rfl
  | 7, _ => exact gt_1 227 rfl rfl
  | 8, _ => exact gt_1 229 rfl rfl
  | 9, _ => exact gt_1 231 rfl rfl
  | 10, _ => exact gt_1 233 rfl rfl
  | 11, _ => exact gt_1 235 rfl rfl
  | 12, _ => exact gt_1 237 rfl rfl
  | 13, _ => exact gt_1 239 rfl rfl
  | 14, _ => exact gt_2 1 rfl rfl
  | 15, _ => exact gt_2 3 rfl rfl
  | 16, _ => exact gt_2 5 rfl rfl
  | 17, _ => exact gt_2 7 rfl rfl
  | k + 18, hk => exact absurd hk (by omega)
theorem nm_NS : ∀ a, a < 2 → ∀ b, b < 2 → a ≠ b → (T_NS a).2.1 ≠ (T_NS b).2.1 := by decide +kernel
theorem tk_NS : ∀ k, k < 2 → parseFieldDescriptor (T_NS k).2.2.1 = some (ty_NS k) := by decide +kernel
theorem in_NS : ∀ w ∈ u_ws "PlaceRules$NumberSet" T_NS 2, w ∈ gts := by
  intro w hw
  obtain ⟨k, hk, rfl⟩ := List.mem_map.mp hw
  have hk := List.mem_range.mp hk
  match k, hk with
  | 0, _ => exact gt_1 173 rfl rfl
  | 1, _ => exact gt_1 175 rfl rfl
  | k + 2, hk => exact absurd hk (by omega)
theorem nm_PL : ∀ a, a < 5 → ∀ b, b < 5 → a ≠ b → (T_PL a).2.1 ≠ (T_PL b).2.1 := by decide +kernel
theorem tk_PL : ∀ k, k < 5 → parseFieldDescriptor (T_PL k).2.2.1 = some (ty_PL k) := by decide +kernel
theorem in_PL : ∀ w ∈ u_ws "PlaceRules$Place" T_PL 5, w ∈ gts := by
  intro w hw
  obtain ⟨k, hk, rfl⟩ := List.mem_map.mp hw
  have hk := List.mem_range.mp hk
  match k, hk with
  | 0, _ => exact gt_2 27 rfl rfl
  | 1, _ => exact gt_2 29 rfl rfl
  | 2, _ => exact gt_2 31 rfl rfl
  | 3, _ => exact gt_2 33 rfl rfl
  | 4, _ => exact gt_2 35 rfl rfl
  | k + 5, hk => exact absurd hk (by omega)
theorem nm_UN : ∀ a, a < 11 → ∀ b, b < 11 → a ≠ b → (T_UN a).2.1 ≠ (T_UN b).2.1 := by decide +kernel
theorem tk_UN : ∀ k, k < 11 → parseFieldDescriptor (T_UN k).2.2.1 = some (ty_UN k) := by decide +kernel
theorem in_UN : ∀ w ∈ u_ws "PlaceRules$Unit" T_UN 11, w ∈ gts := by
  intro w hw
  obtain ⟨k, hk, rfl⟩ := List.mem_map.mp hw
  have hk := List.mem_range.mp hk
  match k, hk with
  | 0, _ => exact gt_2 70 rfl rfl
  | 1, _ => exact gt_2 72 rfl rfl
  | 2, _ => exact gt_2 74 rfl rfl
  | 3, _ => exact gt_2 76 rfl rfl
  | 4, _ => exact gt_2 78 rfl rfl
  | 5, _ => exact gt_2 80 rfl rfl
  | 6, _ => exact gt_2 82 rfl rfl
  | 7, _ => exact gt_2 84 rfl rfl
  | 8, _ => exact gt_2 86 rfl rfl
  | 9, _ => exact gt_2 88 rfl rfl
  | 10, _ => exact gt_2 90 rfl rfl
  | k + 11, hk => exact absurd hk (by omega)
theorem nm_WV : ∀ a, a < 4 → ∀ b, b < 4 → a ≠ b → (T_WV a).2.1 ≠ (T_WV b).2.1 := by decide +kernel
theorem tk_WV : ∀ k, k < 4 → parseFieldDescriptor (T_WV k).2.2.1 = some (ty_WV k) := by decide +kernel
theorem in_WV : ∀ w ∈ u_ws "PlaceRules$Waiver" T_WV 4, w ∈ gts := by
  intro w hw
  obtain ⟨k, hk, rfl⟩ := List.mem_map.mp hw
  have hk := List.mem_range.mp hk
  match k, hk with
  | 0, _ => exact gt_2 106 rfl rfl
  | 1, _ => exact gt_2 108 rfl rfl
  | 2, _ => exact gt_2 110 rfl rfl
  | 3, _ => exact gt_2 112 rfl rfl
  | k + 4, hk => exact absurd hk (by omega)
theorem nm_MD : ∀ a, a < 28 → ∀ b, b < 28 → a ≠ b → (T_MD a).2.1 ≠ (T_MD b).2.1 := by decide +kernel
theorem tk_MD : ∀ k, k < 28 → parseFieldDescriptor (T_MD k).2.2.1 = some (ty_MD k) := by decide +kernel
theorem in_MD : ∀ w ∈ u_ws "PlaceRulesModel" T_MD 28, w ∈ gts := by
  intro w hw
  obtain ⟨k, hk, rfl⟩ := List.mem_map.mp hw
  have hk := List.mem_range.mp hk
  match k, hk with
  | 0, _ => exact gt_4 211 rfl rfl
  | 1, _ => exact gt_4 213 rfl rfl
  | 2, _ => exact gt_4 215 rfl rfl
  | 3, _ => exact gt_4 217 rfl rfl
  | 4, _ => exact gt_4 219 rfl rfl
  | 5, _ => exact gt_4 221 rfl rfl
  | 6, _ => exact gt_4 223 rfl rfl
  | 7, _ => exact gt_4 225 rfl rfl
  | 8, _ => exact gt_4 227 rfl rfl
  | 9, _ => exact gt_4 229 rfl rfl
  | 10, _ => exact gt_4 231 rfl rfl
  | 11, _ => exact gt_4 233 rfl rfl
  | 12, _ => exact gt_4 235 rfl rfl
  | 13, _ => exact gt_4 237 rfl rfl
  | 14, _ => exact gt_4 239 rfl rfl
  | 15, _ => exact gt_5 1 rfl rfl
  | 16, _ => exact gt_5 3 rfl rfl
  | 17, _ => exact gt_5 5 rfl rfl
  | 18, _ => exact gt_5 7 rfl rfl
  | 19, _ => exact gt_5 9 rfl rfl
  | 20, _ => exact gt_5 11 rfl rfl
  | 21, _ => exact gt_5 13 rfl rfl
  | 22, _ => exact gt_5 15 rfl rfl
  | 23, _ => exact gt_5 17 rfl rfl
  | 24, _ => exact gt_5 19 rfl rfl
  | 25, _ => exact gt_5 21 rfl rfl
  | 26, _ => exact gt_5 23 rfl rfl
  | 27, _ => exact gt_5 25 rfl rfl
  | k + 28, hk => exact absurd hk (by omega)
abbrev y_PR_init : MethodName := ⟨"PlaceRules", "<init>", "()V"⟩
abbrev c_PR_init : ByteArray := prog_1_method_1_code
theorem kc_PR_init : Cond.code y_PR_init c_PR_init 2 none ∈ gts := gt_1 32 rfl rfl
abbrev y_java_lang_Object_init : MethodName := ⟨"java/lang/Object", "<init>", "()V"⟩
abbrev c_java_lang_Object_init : ByteArray := object_method_1_code
theorem kc_java_lang_Object_init : Cond.code y_java_lang_Object_init c_java_lang_Object_init 1 none ∈ gts := gt_1 35 rfl rfl
abbrev y_RB_init : MethodName := ⟨"PlaceRules$RuleBook", "<init>", "()V"⟩
abbrev c_RB_init : ByteArray := prog_9_method_1_code
theorem kc_RB_init : Cond.code y_RB_init c_RB_init 2 none ∈ gts := gt_1 46 rfl rfl
abbrev y_RU_init : MethodName := ⟨"PlaceRules$Rule", "<init>", "()V"⟩
abbrev c_RU_init : ByteArray := prog_8_method_1_code
theorem kc_RU_init : Cond.code y_RU_init c_RU_init 1 none ∈ gts := gt_1 53 rfl rfl
abbrev y_OW_init : MethodName := ⟨"PlaceRules$OwnRules", "<init>", "()V"⟩
abbrev c_OW_init : ByteArray := prog_5_method_1_code
theorem kc_OW_init : Cond.code y_OW_init c_OW_init 1 none ∈ gts := gt_1 115 rfl rfl
abbrev y_TX_init : MethodName := ⟨"PlaceRules$Text", "<init>", "()V"⟩
abbrev c_TX_init : ByteArray := prog_10_method_1_code
theorem kc_TX_init : Cond.code y_TX_init c_TX_init 2 none ∈ gts := gt_1 130 rfl rfl
abbrev y_QU_init : MethodName := ⟨"PlaceRules$Question", "<init>", "()V"⟩
abbrev c_QU_init : ByteArray := prog_7_method_1_code
theorem kc_QU_init : Cond.code y_QU_init c_QU_init 1 none ∈ gts := gt_1 163 rfl rfl
abbrev y_NS_init : MethodName := ⟨"PlaceRules$NumberSet", "<init>", "()V"⟩
abbrev c_NS_init : ByteArray := prog_4_method_1_code
theorem kc_NS_init : Cond.code y_NS_init c_NS_init 1 none ∈ gts := gt_1 169 rfl rfl
abbrev y_PL_init : MethodName := ⟨"PlaceRules$Place", "<init>", "()V"⟩
abbrev c_PL_init : ByteArray := prog_6_method_1_code
theorem kc_PL_init : Cond.code y_PL_init c_PL_init 1 none ∈ gts := gt_2 13 rfl rfl
abbrev y_UN_init : MethodName := ⟨"PlaceRules$Unit", "<init>", "()V"⟩
abbrev c_UN_init : ByteArray := prog_11_method_1_code
theorem kc_UN_init : Cond.code y_UN_init c_UN_init 1 none ∈ gts := gt_2 41 rfl rfl
abbrev y_WV_init : MethodName := ⟨"PlaceRules$Waiver", "<init>", "()V"⟩
abbrev c_WV_init : ByteArray := prog_12_method_1_code
theorem kc_WV_init : Cond.code y_WV_init c_WV_init 1 none ∈ gts := gt_2 96 rfl rfl
abbrev y_PR_sign : MethodName := ⟨"PlaceRules", "sign", "(I)I"⟩
abbrev c_PR_sign : ByteArray := prog_1_method_8_code
theorem kc_PR_sign : Cond.code y_PR_sign c_PR_sign 2 (some .int) ∈ gts := gt_2 152 rfl rfl
abbrev y_TX_collect : MethodName := ⟨"PlaceRules$Text", "collect", "(I)I"⟩
abbrev c_TX_collect : ByteArray := prog_10_method_2_code
theorem kc_TX_collect : Cond.code y_TX_collect c_TX_collect 2 (some .int) ∈ gts := gt_2 156 rfl rfl
abbrev y_PR_read : MethodName := ⟨"PlaceRules", "read", "()I"⟩
abbrev c_PR_read : ByteArray := prog_1_method_9_code
theorem kc_PR_read : Cond.code y_PR_read c_PR_read 4 (some .int) ∈ gts := gt_2 160 rfl rfl
abbrev y_RB_room : MethodName := ⟨"PlaceRules$RuleBook", "room", "()I"⟩
abbrev c_RB_room : ByteArray := prog_9_method_2_code
theorem kc_RB_room : Cond.code y_RB_room c_RB_room 1 (some .int) ∈ gts := gt_2 164 rfl rfl
abbrev y_TX_readLines : MethodName := ⟨"PlaceRules$Text", "readLines", "(I)I"⟩
abbrev c_TX_readLines : ByteArray := prog_10_method_4_code
theorem kc_TX_readLines : Cond.code y_TX_readLines c_TX_readLines 3 (some .int) ∈ gts := gt_2 168 rfl rfl
abbrev y_TX_readLine : MethodName := ⟨"PlaceRules$Text", "readLine", "(LPlaceRules$Rule;)Z"⟩
abbrev c_TX_readLine : ByteArray := prog_10_method_5_code
theorem kc_TX_readLine : Cond.code y_TX_readLine c_TX_readLine 2 (some .boolean) ∈ gts := gt_2 172 rfl rfl
abbrev y_TX_readNumber : MethodName := ⟨"PlaceRules$Text", "readNumber", "(II)Z"⟩
abbrev c_TX_readNumber : ByteArray := prog_10_method_6_code
theorem kc_TX_readNumber : Cond.code y_TX_readNumber c_TX_readNumber 6 (some .boolean) ∈ gts := gt_2 176 rfl rfl
abbrev y_TX_nextSign : MethodName := ⟨"PlaceRules$Text", "nextSign", "()I"⟩
abbrev c_TX_nextSign : ByteArray := prog_10_method_11_code
theorem kc_TX_nextSign : Cond.code y_TX_nextSign c_TX_nextSign 1 (some .int) ∈ gts := gt_2 180 rfl rfl
abbrev y_TX_isDigit : MethodName := ⟨"PlaceRules$Text", "isDigit", "(I)Z"⟩
abbrev c_TX_isDigit : ByteArray := prog_10_method_12_code
theorem kc_TX_isDigit : Cond.code y_TX_isDigit c_TX_isDigit 1 (some .boolean) ∈ gts := gt_2 183 rfl rfl
abbrev y_TX_fail : MethodName := ⟨"PlaceRules$Text", "fail", "(I)Z"⟩
abbrev c_TX_fail : ByteArray := prog_10_method_13_code
theorem kc_TX_fail : Cond.code y_TX_fail c_TX_fail 2 (some .boolean) ∈ gts := gt_2 187 rfl rfl
abbrev y_TX_readBlank : MethodName := ⟨"PlaceRules$Text", "readBlank", "()Z"⟩
abbrev c_TX_readBlank : ByteArray := prog_10_method_9_code
theorem kc_TX_readBlank : Cond.code y_TX_readBlank c_TX_readBlank 1 (some .boolean) ∈ gts := gt_2 191 rfl rfl
abbrev y_TX_readSign : MethodName := ⟨"PlaceRules$Text", "readSign", "(I)Z"⟩
abbrev c_TX_readSign : ByteArray := prog_10_method_10_code
theorem kc_TX_readSign : Cond.code y_TX_readSign c_TX_readSign 2 (some .boolean) ∈ gts := gt_2 195 rfl rfl
abbrev y_TX_readKind : MethodName := ⟨"PlaceRules$Text", "readKind", "()Z"⟩
abbrev c_TX_readKind : ByteArray := prog_10_method_7_code
theorem kc_TX_readKind : Cond.code y_TX_readKind c_TX_readKind 4 (some .boolean) ∈ gts := gt_2 199 rfl rfl
abbrev y_TX_sharedSigns : MethodName := ⟨"PlaceRules$Text", "sharedSigns", "(Ljava/lang/String;)I"⟩
abbrev c_TX_sharedSigns : ByteArray := prog_10_method_8_code
theorem kc_TX_sharedSigns : Cond.code y_TX_sharedSigns c_TX_sharedSigns 3 (some .int) ∈ gts := gt_2 205 rfl rfl
abbrev y_java_lang_String_length : MethodName := ⟨"java/lang/String", "length", "()I"⟩
abbrev c_java_lang_String_length : ByteArray := prog_22_method_54_code
theorem kc_java_lang_String_length : Cond.code y_java_lang_String_length c_java_lang_String_length 1 (some .int) ∈ gts := gt_2 209 rfl rfl
abbrev y_java_lang_String_coder : MethodName := ⟨"java/lang/String", "coder", "()B"⟩
abbrev c_java_lang_String_coder : ByteArray := prog_22_method_152_code
theorem kc_java_lang_String_coder : Cond.code y_java_lang_String_coder c_java_lang_String_coder 1 (some .byte) ∈ gts := gt_2 213 rfl rfl
abbrev y_java_lang_String_charAt : MethodName := ⟨"java/lang/String", "charAt", "(I)C"⟩
abbrev c_java_lang_String_charAt : ByteArray := prog_22_method_56_code
theorem kc_java_lang_String_charAt : Cond.code y_java_lang_String_charAt c_java_lang_String_charAt 2 (some .char) ∈ gts := gt_2 219 rfl rfl
abbrev y_java_lang_String_isLatin1 : MethodName := ⟨"java/lang/String", "isLatin1", "()Z"⟩
abbrev c_java_lang_String_isLatin1 : ByteArray := prog_22_method_154_code
theorem kc_java_lang_String_isLatin1 : Cond.code y_java_lang_String_isLatin1 c_java_lang_String_isLatin1 1 (some .boolean) ∈ gts := gt_2 223 rfl rfl
abbrev y_java_lang_StringLatin1_charAt : MethodName := ⟨"java/lang/StringLatin1", "charAt", "([BI)C"⟩
abbrev c_java_lang_StringLatin1_charAt : ByteArray := prog_23_method_2_code
theorem kc_java_lang_StringLatin1_charAt : Cond.code y_java_lang_StringLatin1_charAt c_java_lang_StringLatin1_charAt 2 (some .char) ∈ gts := gt_2 226 rfl rfl
abbrev y_java_lang_String_checkIndex : MethodName := ⟨"java/lang/String", "checkIndex", "(II)V"⟩
abbrev c_java_lang_String_checkIndex : ByteArray := prog_22_method_155_code
theorem kc_java_lang_String_checkIndex : Cond.code y_java_lang_String_checkIndex c_java_lang_String_checkIndex 2 none ∈ gts := gt_2 229 rfl rfl
abbrev y_jdk_internal_util_Preconditions_checkIndex : MethodName := ⟨"jdk/internal/util/Preconditions", "checkIndex", "(IILjava/util/function/BiFunction;)I"⟩
abbrev c_jdk_internal_util_Preconditions_checkIndex : ByteArray := prog_28_method_11_code
theorem kc_jdk_internal_util_Preconditions_checkIndex : Cond.code y_jdk_internal_util_Preconditions_checkIndex c_jdk_internal_util_Preconditions_checkIndex 3 (some .int) ∈ gts := gt_2 234 rfl rfl
abbrev y_java_lang_StringUTF16_charAt : MethodName := ⟨"java/lang/StringUTF16", "charAt", "([BI)C"⟩
abbrev c_java_lang_StringUTF16_charAt : ByteArray := prog_24_method_83_code
theorem kc_java_lang_StringUTF16_charAt : Cond.code y_java_lang_StringUTF16_charAt c_java_lang_StringUTF16_charAt 2 (some .char) ∈ gts := gt_2 237 rfl rfl
abbrev y_java_lang_StringUTF16_checkIndex : MethodName := ⟨"java/lang/StringUTF16", "checkIndex", "(I[B)V"⟩
abbrev c_java_lang_StringUTF16_checkIndex : ByteArray := prog_24_method_91_code
theorem kc_java_lang_StringUTF16_checkIndex : Cond.code y_java_lang_StringUTF16_checkIndex c_java_lang_StringUTF16_checkIndex 2 none ∈ gts := gt_3 0 rfl rfl
abbrev y_java_lang_StringUTF16_length : MethodName := ⟨"java/lang/StringUTF16", "length", "([B)I"⟩
abbrev c_java_lang_StringUTF16_length : ByteArray := prog_24_method_6_code
theorem kc_java_lang_StringUTF16_length : Cond.code y_java_lang_StringUTF16_length c_java_lang_StringUTF16_length 1 (some .int) ∈ gts := gt_3 3 rfl rfl
abbrev y_java_lang_StringUTF16_getChar : MethodName := ⟨"java/lang/StringUTF16", "getChar", "([BI)C"⟩
abbrev c_java_lang_StringUTF16_getChar : ByteArray := prog_24_method_5_code
theorem kc_java_lang_StringUTF16_getChar : Cond.code y_java_lang_StringUTF16_getChar c_java_lang_StringUTF16_getChar 2 (some .char) ∈ gts := gt_3 7 rfl rfl
abbrev y_KD_hasSecond : MethodName := ⟨"PlaceRules$Kind", "hasSecond", "()Z"⟩
abbrev c_KD_hasSecond : ByteArray := prog_3_method_4_code
theorem kc_KD_hasSecond : Cond.code y_KD_hasSecond c_KD_hasSecond 1 (some .boolean) ∈ gts := gt_3 17 rfl rfl
abbrev y_KD_leastSecond : MethodName := ⟨"PlaceRules$Kind", "leastSecond", "()I"⟩
abbrev c_KD_leastSecond : ByteArray := prog_3_method_5_code
theorem kc_KD_leastSecond : Cond.code y_KD_leastSecond c_KD_leastSecond 1 (some .int) ∈ gts := gt_3 21 rfl rfl
abbrev y_KD_mostSecond : MethodName := ⟨"PlaceRules$Kind", "mostSecond", "()I"⟩
abbrev c_KD_mostSecond : ByteArray := prog_3_method_6_code
theorem kc_KD_mostSecond : Cond.code y_KD_mostSecond c_KD_mostSecond 1 (some .int) ∈ gts := gt_3 26 rfl rfl
abbrev y_RB_addRule : MethodName := ⟨"PlaceRules$RuleBook", "addRule", "(ILPlaceRules$Kind;II)I"⟩
abbrev c_RB_addRule : ByteArray := prog_9_method_3_code
theorem kc_RB_addRule : Cond.code y_RB_addRule c_RB_addRule 7 (some .int) ∈ gts := gt_3 30 rfl rfl
abbrev y_RB_noteClashes : MethodName := ⟨"PlaceRules$RuleBook", "noteClashes", "(I)V"⟩
abbrev c_RB_noteClashes : ByteArray := prog_9_method_5_code
theorem kc_RB_noteClashes : Cond.code y_RB_noteClashes c_RB_noteClashes 4 none ∈ gts := gt_3 34 rfl rfl
abbrev y_RB_insertInOrder : MethodName := ⟨"PlaceRules$RuleBook", "insertInOrder", "(I)V"⟩
abbrev c_RB_insertInOrder : ByteArray := prog_9_method_6_code
theorem kc_RB_insertInOrder : Cond.code y_RB_insertInOrder c_RB_insertInOrder 3 none ∈ gts := gt_3 38 rfl rfl
abbrev y_TX_forget : MethodName := ⟨"PlaceRules$Text", "forget", "()V"⟩
abbrev c_TX_forget : ByteArray := prog_10_method_3_code
theorem kc_TX_forget : Cond.code y_TX_forget c_TX_forget 1 none ∈ gts := gt_3 42 rfl rfl
abbrev y_PR_count : MethodName := ⟨"PlaceRules", "count", "(I)I"⟩
abbrev c_PR_count : ByteArray := prog_1_method_20_code
theorem kc_PR_count : Cond.code y_PR_count c_PR_count 2 (some .int) ∈ gts := gt_3 46 rfl rfl
abbrev y_LW_place : MethodName := ⟨"PlaceRulesLaw", "place", "(LPlaceRules;IIII)I"⟩
abbrev c_LW_place : ByteArray := method_3_code
theorem kc_LW_place : Cond.codeWith y_LW_place c_LW_place 6 (some .int) [(0, 9, 12, 13)] ∈ gts := gt_3 49 rfl rfl
abbrev y_PR_place : MethodName := ⟨"PlaceRules", "place", "(IIII)V"⟩
abbrev c_PR_place : ByteArray := prog_1_method_2_code
theorem kc_PR_place : Cond.code y_PR_place c_PR_place 6 none ∈ gts := gt_3 54 rfl rfl
abbrev y_PR_needPlace : MethodName := ⟨"PlaceRules", "needPlace", "(I)V"⟩
abbrev c_PR_needPlace : ByteArray := prog_1_method_28_code
theorem kc_PR_needPlace : Cond.code y_PR_needPlace c_PR_needPlace 1 none ∈ gts := gt_3 57 rfl rfl
abbrev y_PR_needWithin : MethodName := ⟨"PlaceRules", "needWithin", "(III)V"⟩
abbrev c_PR_needWithin : ByteArray := prog_1_method_31_code
theorem kc_PR_needWithin : Cond.code y_PR_needWithin c_PR_needWithin 3 none ∈ gts := gt_3 60 rfl rfl
abbrev y_java_lang_Throwable_init : MethodName := ⟨"java/lang/Throwable", "<init>", "()V"⟩
abbrev c_java_lang_Throwable_init : ByteArray := prog_25_method_1_code
theorem kc_java_lang_Throwable_init : Cond.code y_java_lang_Throwable_init c_java_lang_Throwable_init 1 none ∈ gts := gt_3 85 rfl rfl
abbrev y_java_lang_IllegalArgumentException_init : MethodName := ⟨"java/lang/IllegalArgumentException", "<init>", "(Ljava/lang/String;)V"⟩
abbrev c_java_lang_IllegalArgumentException_init : ByteArray := prog_17_method_2_code
theorem kc_java_lang_IllegalArgumentException_init : Cond.code y_java_lang_IllegalArgumentException_init c_java_lang_IllegalArgumentException_init 2 none ∈ gts := gt_3 106 rfl rfl
abbrev y_java_lang_RuntimeException_init : MethodName := ⟨"java/lang/RuntimeException", "<init>", "(Ljava/lang/String;)V"⟩
abbrev c_java_lang_RuntimeException_init : ByteArray := prog_21_method_2_code
theorem kc_java_lang_RuntimeException_init : Cond.code y_java_lang_RuntimeException_init c_java_lang_RuntimeException_init 2 none ∈ gts := gt_3 109 rfl rfl
abbrev y_java_lang_Exception_init : MethodName := ⟨"java/lang/Exception", "<init>", "(Ljava/lang/String;)V"⟩
abbrev c_java_lang_Exception_init : ByteArray := prog_16_method_2_code
theorem kc_java_lang_Exception_init : Cond.code y_java_lang_Exception_init c_java_lang_Exception_init 2 none ∈ gts := gt_3 112 rfl rfl
abbrev y_java_lang_Throwable_init2 : MethodName := ⟨"java/lang/Throwable", "<init>", "(Ljava/lang/String;)V"⟩
abbrev c_java_lang_Throwable_init2 : ByteArray := prog_25_method_2_code
theorem kc_java_lang_Throwable_init2 : Cond.code y_java_lang_Throwable_init2 c_java_lang_Throwable_init2 2 none ∈ gts := gt_3 115 rfl rfl
abbrev y_PR_needLengths : MethodName := ⟨"PlaceRules", "needLengths", "(III)V"⟩
abbrev c_PR_needLengths : ByteArray := prog_1_method_29_code
theorem kc_PR_needLengths : Cond.code y_PR_needLengths c_PR_needLengths 3 none ∈ gts := gt_3 132 rfl rfl
abbrev y_LW_limit : MethodName := ⟨"PlaceRulesLaw", "limit", "(LPlaceRules;III)I"⟩
abbrev c_LW_limit : ByteArray := method_4_code
theorem kc_LW_limit : Cond.codeWith y_LW_limit c_LW_limit 5 (some .int) [(0, 7, 10, 13)] ∈ gts := gt_3 135 rfl rfl
abbrev y_PR_limit : MethodName := ⟨"PlaceRules", "limit", "(III)V"⟩
abbrev c_PR_limit : ByteArray := prog_1_method_3_code
theorem kc_PR_limit : Cond.code y_PR_limit c_PR_limit 4 none ∈ gts := gt_3 139 rfl rfl
abbrev y_LW_unit : MethodName := ⟨"PlaceRulesLaw", "unit", "(LPlaceRules;III[J)I"⟩
abbrev c_LW_unit : ByteArray := method_5_code
theorem kc_LW_unit : Cond.codeWith y_LW_unit c_LW_unit 6 (some .int) [(0, 12, 15, 13), (0, 12, 19, 23)] ∈ gts := gt_3 143 rfl rfl
abbrev y_PR_unit : MethodName := ⟨"PlaceRules", "unit", "(III)I"⟩
abbrev c_PR_unit : ByteArray := prog_1_method_4_code
theorem kc_PR_unit : Cond.code y_PR_unit c_PR_unit 5 (some .int) ∈ gts := gt_3 148 rfl rfl
abbrev y_java_lang_UnsupportedOperationException_init : MethodName := ⟨"java/lang/UnsupportedOperationException", "<init>", "(Ljava/lang/String;)V"⟩
abbrev c_java_lang_UnsupportedOperationException_init : ByteArray := prog_26_method_2_code
theorem kc_java_lang_UnsupportedOperationException_init : Cond.code y_java_lang_UnsupportedOperationException_init c_java_lang_UnsupportedOperationException_init 2 none ∈ gts := gt_3 161 rfl rfl
abbrev y_LW_size : MethodName := ⟨"PlaceRulesLaw", "size", "(LPlaceRules;IIIII)I"⟩
abbrev c_LW_size : ByteArray := method_6_code
theorem kc_LW_size : Cond.codeWith y_LW_size c_LW_size 7 (some .int) [(0, 11, 14, 29), (0, 11, 18, 13), (0, 11, 22, 31)] ∈ gts := gt_3 167 rfl rfl
abbrev y_PR_size : MethodName := ⟨"PlaceRules", "size", "(IIIII)V"⟩
abbrev c_PR_size : ByteArray := prog_1_method_5_code
theorem kc_PR_size : Cond.code y_PR_size c_PR_size 7 none ∈ gts := gt_3 173 rfl rfl
abbrev y_PR_needUnit : MethodName := ⟨"PlaceRules", "needUnit", "(I)V"⟩
abbrev c_PR_needUnit : ByteArray := prog_1_method_26_code
theorem kc_PR_needUnit : Cond.code y_PR_needUnit c_PR_needUnit 2 none ∈ gts := gt_3 177 rfl rfl
abbrev y_java_util_NoSuchElementException_init : MethodName := ⟨"java/util/NoSuchElementException", "<init>", "(Ljava/lang/String;)V"⟩
abbrev c_java_util_NoSuchElementException_init : ByteArray := prog_27_method_4_code
theorem kc_java_util_NoSuchElementException_init : Cond.code y_java_util_NoSuchElementException_init c_java_util_NoSuchElementException_init 2 none ∈ gts := gt_3 190 rfl rfl
abbrev y_PR_needNowhere : MethodName := ⟨"PlaceRules", "needNowhere", "(I)V"⟩
abbrev c_PR_needNowhere : ByteArray := prog_1_method_27_code
theorem kc_PR_needNowhere : Cond.code y_PR_needNowhere c_PR_needNowhere 2 none ∈ gts := gt_3 198 rfl rfl
abbrev y_java_lang_IllegalStateException_init : MethodName := ⟨"java/lang/IllegalStateException", "<init>", "(Ljava/lang/String;)V"⟩
abbrev c_java_lang_IllegalStateException_init : ByteArray := prog_18_method_2_code
theorem kc_java_lang_IllegalStateException_init : Cond.code y_java_lang_IllegalStateException_init c_java_lang_IllegalStateException_init 2 none ∈ gts := gt_3 211 rfl rfl
abbrev y_LW_nature : MethodName := ⟨"PlaceRulesLaw", "nature", "(LPlaceRules;IIII)I"⟩
abbrev c_LW_nature : ByteArray := method_7_code
theorem kc_LW_nature : Cond.codeWith y_LW_nature c_LW_nature 6 (some .int) [(0, 9, 12, 29), (0, 9, 16, 13), (0, 9, 20, 31)] ∈ gts := gt_3 217 rfl rfl
abbrev y_PR_nature : MethodName := ⟨"PlaceRules", "nature", "(IIII)V"⟩
abbrev c_PR_nature : ByteArray := prog_1_method_6_code
theorem kc_PR_nature : Cond.code y_PR_nature c_PR_nature 6 none ∈ gts := gt_3 221 rfl rfl
abbrev y_LW_rule : MethodName := ⟨"PlaceRulesLaw", "rule", "(LPlaceRules;IIII[J)I"⟩
abbrev c_LW_rule : ByteArray := method_8_code
theorem kc_LW_rule : Cond.codeWith y_LW_rule c_LW_rule 7 (some .int) [(0, 14, 17, 13), (0, 14, 21, 23)] ∈ gts := gt_3 224 rfl rfl
abbrev y_PR_rule : MethodName := ⟨"PlaceRules", "rule", "(IIII)I"⟩
abbrev c_PR_rule : ByteArray := prog_1_method_7_code
theorem kc_PR_rule : Cond.code y_PR_rule c_PR_rule 6 (some .int) ∈ gts := gt_3 228 rfl rfl
abbrev y_LW_own : MethodName := ⟨"PlaceRulesLaw", "own", "(LPlaceRules;II)I"⟩
abbrev c_LW_own : ByteArray := method_9_code
theorem kc_LW_own : Cond.codeWith y_LW_own c_LW_own 4 (some .int) [(0, 6, 9, 13)] ∈ gts := gt_3 235 rfl rfl
abbrev y_PR_own : MethodName := ⟨"PlaceRules", "own", "(II)V"⟩
abbrev c_PR_own : ByteArray := prog_1_method_10_code
theorem kc_PR_own : Cond.code y_PR_own c_PR_own 3 none ∈ gts := gt_3 239 rfl rfl
abbrev y_LW_except : MethodName := ⟨"PlaceRulesLaw", "except", "(LPlaceRules;IIII)I"⟩
abbrev c_LW_except : ByteArray := method_10_code
theorem kc_LW_except : Cond.codeWith y_LW_except c_LW_except 6 (some .int) [(0, 9, 12, 29), (0, 9, 16, 13), (0, 9, 20, 23)] ∈ gts := gt_4 2 rfl rfl
abbrev y_PR_except : MethodName := ⟨"PlaceRules", "except", "(IIII)V"⟩
abbrev c_PR_except : ByteArray := prog_1_method_11_code
theorem kc_PR_except : Cond.code y_PR_except c_PR_except 7 none ∈ gts := gt_4 6 rfl rfl
abbrev y_PR_findWaiver : MethodName := ⟨"PlaceRules", "findWaiver", "(III)I"⟩
abbrev c_PR_findWaiver : ByteArray := prog_1_method_24_code
theorem kc_PR_findWaiver : Cond.code y_PR_findWaiver c_PR_findWaiver 6 (some .int) ∈ gts := gt_4 11 rfl rfl
abbrev y_java_lang_Math_max : MethodName := ⟨"java/lang/Math", "max", "(II)I"⟩
abbrev c_java_lang_Math_max : ByteArray := prog_20_method_65_code
theorem kc_java_lang_Math_max : Cond.code y_java_lang_Math_max c_java_lang_Math_max 2 (some .int) ∈ gts := gt_4 14 rfl rfl
abbrev y_LW_may : MethodName := ⟨"PlaceRulesLaw", "may", "(LPlaceRules;III[J)I"⟩
abbrev c_LW_may : ByteArray := method_11_code
theorem kc_LW_may : Cond.codeWith y_LW_may c_LW_may 6 (some .int) [(0, 12, 15, 29), (0, 12, 19, 13)] ∈ gts := gt_4 18 rfl rfl
abbrev y_PR_may : MethodName := ⟨"PlaceRules", "may", "(III)I"⟩
abbrev c_PR_may : ByteArray := prog_1_method_12_code
theorem kc_PR_may : Cond.code y_PR_may c_PR_may 4 (some .int) ∈ gts := gt_4 22 rfl rfl
abbrev y_PR_needQuestion : MethodName := ⟨"PlaceRules", "needQuestion", "(III)V"⟩
abbrev c_PR_needQuestion : ByteArray := prog_1_method_25_code
theorem kc_PR_needQuestion : Cond.code y_PR_needQuestion c_PR_needQuestion 4 none ∈ gts := gt_4 26 rfl rfl
abbrev y_PR_ask : MethodName := ⟨"PlaceRules", "ask", "(III)I"⟩
abbrev c_PR_ask : ByteArray := prog_1_method_21_code
theorem kc_PR_ask : Cond.code y_PR_ask c_PR_ask 8 (some .int) ∈ gts := gt_4 30 rfl rfl
abbrev y_PR_gather : MethodName := ⟨"PlaceRules", "gather", "(III)V"⟩
abbrev c_PR_gather : ByteArray := prog_1_method_22_code
theorem kc_PR_gather : Cond.code y_PR_gather c_PR_gather 5 none ∈ gts := gt_4 34 rfl rfl
abbrev y_QU_begin : MethodName := ⟨"PlaceRules$Question", "begin", "(LPlaceRules$Unit;LPlaceRules$Place;I)V"⟩
abbrev c_QU_begin : ByteArray := prog_7_method_2_code
theorem kc_QU_begin : Cond.code y_QU_begin c_QU_begin 4 none ∈ gts := gt_4 38 rfl rfl
abbrev y_PL_fits : MethodName := ⟨"PlaceRules$Place", "fits", "(LPlaceRules$Unit;I)Z"⟩
abbrev c_PL_fits : ByteArray := prog_6_method_3_code
theorem kc_PL_fits : Cond.code y_PL_fits c_PL_fits 3 (some .boolean) ∈ gts := gt_4 42 rfl rfl
abbrev y_PL_holds : MethodName := ⟨"PlaceRules$Place", "holds", "(III)Z"⟩
abbrev c_PL_holds : ByteArray := prog_6_method_4_code
theorem kc_PL_holds : Cond.code y_PL_holds c_PL_holds 4 (some .boolean) ∈ gts := gt_4 46 rfl rfl
abbrev y_PL_firstWayFor : MethodName := ⟨"PlaceRules$Place", "firstWayFor", "(LPlaceRules$Unit;)I"⟩
abbrev c_PL_firstWayFor : ByteArray := prog_6_method_2_code
theorem kc_PL_firstWayFor : Cond.code y_PL_firstWayFor c_PL_firstWayFor 3 (some .int) ∈ gts := gt_4 50 rfl rfl
abbrev y_NS_holdOnly : MethodName := ⟨"PlaceRules$NumberSet", "holdOnly", "(I)V"⟩
abbrev c_NS_holdOnly : ByteArray := prog_4_method_3_code
theorem kc_NS_holdOnly : Cond.code y_NS_holdOnly c_NS_holdOnly 2 none ∈ gts := gt_4 55 rfl rfl
abbrev y_NS_clear : MethodName := ⟨"PlaceRules$NumberSet", "clear", "()V"⟩
abbrev c_NS_clear : ByteArray := prog_4_method_2_code
theorem kc_NS_clear : Cond.code y_NS_clear c_NS_clear 1 none ∈ gts := gt_4 59 rfl rfl
abbrev y_NS_add : MethodName := ⟨"PlaceRules$NumberSet", "add", "(I)V"⟩
abbrev c_NS_add : ByteArray := prog_4_method_4_code
theorem kc_NS_add : Cond.code y_NS_add c_NS_add 2 none ∈ gts := gt_4 63 rfl rfl
abbrev y_QU_addOther : MethodName := ⟨"PlaceRules$Question", "addOther", "(LPlaceRules$Unit;)V"⟩
abbrev c_QU_addOther : ByteArray := prog_7_method_3_code
theorem kc_QU_addOther : Cond.code y_QU_addOther c_QU_addOther 2 none ∈ gts := gt_4 68 rfl rfl
abbrev y_java_lang_Math_min : MethodName := ⟨"java/lang/Math", "min", "(II)I"⟩
abbrev c_java_lang_Math_min : ByteArray := prog_20_method_69_code
theorem kc_java_lang_Math_min : Cond.code y_java_lang_Math_min c_java_lang_Math_min 2 (some .int) ∈ gts := gt_4 71 rfl rfl
abbrev y_PR_isWaived : MethodName := ⟨"PlaceRules", "isWaived", "(IIII)Z"⟩
abbrev c_PR_isWaived : ByteArray := prog_1_method_23_code
theorem kc_PR_isWaived : Cond.code y_PR_isWaived c_PR_isWaived 6 (some .boolean) ∈ gts := gt_4 77 rfl rfl
abbrev y_WV_covers : MethodName := ⟨"PlaceRules$Waiver", "covers", "(IIII)Z"⟩
abbrev c_WV_covers : ByteArray := prog_12_method_2_code
theorem kc_WV_covers : Cond.code y_WV_covers c_WV_covers 5 (some .boolean) ∈ gts := gt_4 81 rfl rfl
abbrev y_RU_refuses : MethodName := ⟨"PlaceRules$Rule", "refuses", "(LPlaceRules$Question;LPlaceRules$OwnRules;)Z"⟩
abbrev c_RU_refuses : ByteArray := prog_8_method_2_code
theorem kc_RU_refuses : Cond.code y_RU_refuses c_RU_refuses 3 (some .boolean) ∈ gts := gt_4 85 rfl rfl
abbrev y_java_lang_Enum_ordinal : MethodName := ⟨"java/lang/Enum", "ordinal", "()I"⟩
abbrev c_java_lang_Enum_ordinal : ByteArray := prog_15_method_2_code
theorem kc_java_lang_Enum_ordinal : Cond.code y_java_lang_Enum_ordinal c_java_lang_Enum_ordinal 1 (some .int) ∈ gts := gt_4 93 rfl rfl
abbrev y_NS_howMany : MethodName := ⟨"PlaceRules$NumberSet", "howMany", "()I"⟩
abbrev c_NS_howMany : ByteArray := prog_4_method_6_code
theorem kc_NS_howMany : Cond.code y_NS_howMany c_NS_howMany 1 (some .int) ∈ gts := gt_4 97 rfl rfl
abbrev y_java_lang_Long_bitCount : MethodName := ⟨"java/lang/Long", "bitCount", "(J)I"⟩
abbrev c_java_lang_Long_bitCount : ByteArray := prog_19_method_50_code
theorem kc_java_lang_Long_bitCount : Cond.code y_java_lang_Long_bitCount c_java_lang_Long_bitCount 2 (some .int) ∈ gts := gt_4 100 rfl rfl
abbrev y_QU_meetsHazards : MethodName := ⟨"PlaceRules$Question", "meetsHazards", "(II)Z"⟩
abbrev c_QU_meetsHazards : ByteArray := prog_7_method_4_code
theorem kc_QU_meetsHazards : Cond.code y_QU_meetsHazards c_QU_meetsHazards 3 (some .boolean) ∈ gts := gt_4 107 rfl rfl
abbrev y_NS_has : MethodName := ⟨"PlaceRules$NumberSet", "has", "(I)Z"⟩
abbrev c_NS_has : ByteArray := prog_4_method_5_code
theorem kc_NS_has : Cond.code y_NS_has c_NS_has 4 (some .boolean) ∈ gts := gt_4 111 rfl rfl
abbrev y_OW_refuse : MethodName := ⟨"PlaceRules$OwnRules", "refuse", "(ILPlaceRules$Question;)Z"⟩
abbrev c_OW_refuse : ByteArray := prog_5_method_2_code
theorem kc_OW_refuse : Cond.code y_OW_refuse c_OW_refuse 3 (some .boolean) ∈ gts := gt_4 115 rfl rfl
abbrev y_LW_explain : MethodName := ⟨"PlaceRulesLaw", "explain", "(LPlaceRules;I[J)I"⟩
abbrev c_LW_explain : ByteArray := method_12_code
theorem kc_LW_explain : Cond.codeWith y_LW_explain c_LW_explain 4 (some .int) [(0, 9, 12, 13)] ∈ gts := gt_4 118 rfl rfl
abbrev y_PR_explain : MethodName := ⟨"PlaceRules", "explain", "(I)I"⟩
abbrev c_PR_explain : ByteArray := prog_1_method_13_code
theorem kc_PR_explain : Cond.code y_PR_explain c_PR_explain 2 (some .int) ∈ gts := gt_4 122 rfl rfl
abbrev y_PR_needIndex : MethodName := ⟨"PlaceRules", "needIndex", "(I)V"⟩
abbrev c_PR_needIndex : ByteArray := prog_1_method_30_code
theorem kc_PR_needIndex : Cond.code y_PR_needIndex c_PR_needIndex 1 none ∈ gts := gt_4 125 rfl rfl
abbrev y_LW_put : MethodName := ⟨"PlaceRulesLaw", "put", "(LPlaceRules;III[J)I"⟩
abbrev c_LW_put : ByteArray := method_13_code
theorem kc_LW_put : Cond.codeWith y_LW_put c_LW_put 6 (some .int) [(0, 12, 15, 29), (0, 12, 19, 13), (0, 12, 23, 31)] ∈ gts := gt_4 129 rfl rfl
abbrev y_PR_put : MethodName := ⟨"PlaceRules", "put", "(III)I"⟩
abbrev c_PR_put : ByteArray := prog_1_method_14_code
theorem kc_PR_put : Cond.code y_PR_put c_PR_put 5 (some .int) ∈ gts := gt_4 133 rfl rfl
abbrev y_LW_take : MethodName := ⟨"PlaceRulesLaw", "take", "(LPlaceRules;I)I"⟩
abbrev c_LW_take : ByteArray := method_14_code
theorem kc_LW_take : Cond.codeWith y_LW_take c_LW_take 3 (some .int) [(0, 5, 8, 29), (0, 5, 11, 31)] ∈ gts := gt_4 137 rfl rfl
abbrev y_PR_take : MethodName := ⟨"PlaceRules", "take", "(I)V"⟩
abbrev c_PR_take : ByteArray := prog_1_method_15_code
theorem kc_PR_take : Cond.code y_PR_take c_PR_take 2 none ∈ gts := gt_4 141 rfl rfl
abbrev y_LW_turned : MethodName := ⟨"PlaceRulesLaw", "turned", "(LPlaceRules;II[J)I"⟩
abbrev c_LW_turned : ByteArray := method_15_code
theorem kc_LW_turned : Cond.codeWith y_LW_turned c_LW_turned 5 (some .int) [(0, 10, 13, 29), (0, 10, 17, 13)] ∈ gts := gt_4 145 rfl rfl
abbrev y_PR_turned : MethodName := ⟨"PlaceRules", "turned", "(II)I"⟩
abbrev c_PR_turned : ByteArray := prog_1_method_16_code
theorem kc_PR_turned : Cond.code y_PR_turned c_PR_turned 3 (some .int) ∈ gts := gt_4 149 rfl rfl
abbrev y_LW_never : MethodName := ⟨"PlaceRulesLaw", "never", "(LPlaceRules;I[J)I"⟩
abbrev c_LW_never : ByteArray := method_16_code
theorem kc_LW_never : Cond.codeWith y_LW_never c_LW_never 4 (some .int) [(0, 9, 12, 13)] ∈ gts := gt_4 153 rfl rfl
abbrev y_PR_never : MethodName := ⟨"PlaceRules", "never", "(I)I"⟩
abbrev c_PR_never : ByteArray := prog_1_method_17_code
theorem kc_PR_never : Cond.code y_PR_never c_PR_never 2 (some .int) ∈ gts := gt_4 157 rfl rfl
abbrev y_RB_neverRefused : MethodName := ⟨"PlaceRules$RuleBook", "neverRefused", "(I)I"⟩
abbrev c_RB_neverRefused : ByteArray := prog_9_method_4_code
theorem kc_RB_neverRefused : Cond.code y_RB_neverRefused c_RB_neverRefused 4 (some .int) ∈ gts := gt_4 161 rfl rfl
abbrev y_LW_clash : MethodName := ⟨"PlaceRulesLaw", "clash", "(LPlaceRules;II[J)I"⟩
abbrev c_LW_clash : ByteArray := method_17_code
theorem kc_LW_clash : Cond.codeWith y_LW_clash c_LW_clash 5 (some .int) [(0, 10, 13, 13)] ∈ gts := gt_4 164 rfl rfl
abbrev y_PR_clash : MethodName := ⟨"PlaceRules", "clash", "(II)I"⟩
abbrev c_PR_clash : ByteArray := prog_1_method_18_code
theorem kc_PR_clash : Cond.code y_PR_clash c_PR_clash 3 (some .int) ∈ gts := gt_4 168 rfl rfl
abbrev y_LW_at : MethodName := ⟨"PlaceRulesLaw", "at", "(LPlaceRules;II[J)I"⟩
abbrev c_LW_at : ByteArray := method_18_code
theorem kc_LW_at : Cond.codeWith y_LW_at c_LW_at 5 (some .int) [(0, 10, 13, 13)] ∈ gts := gt_4 171 rfl rfl
abbrev y_PR_at : MethodName := ⟨"PlaceRules", "at", "(II)I"⟩
abbrev c_PR_at : ByteArray := prog_1_method_19_code
theorem kc_PR_at : Cond.code y_PR_at c_PR_at 5 (some .int) ∈ gts := gt_4 175 rfl rfl
abbrev y_MD_init : MethodName := ⟨"PlaceRulesModel", "<init>", "()V"⟩
abbrev c_MD_init : ByteArray := prog_14_method_1_code
theorem kc_MD_init : Cond.code y_MD_init c_MD_init 2 none ∈ gts := gt_4 180 rfl rfl
abbrev y_MD_thrown : MethodName := ⟨"PlaceRulesModel", "thrown", "()I"⟩
abbrev c_MD_thrown : ByteArray := prog_14_method_2_code
theorem kc_MD_thrown : Cond.code y_MD_thrown c_MD_thrown 1 (some .int) ∈ gts := gt_5 32 rfl rfl
abbrev y_MD_place : MethodName := ⟨"PlaceRulesModel", "place", "(IIII)V"⟩
abbrev c_MD_place : ByteArray := prog_14_method_7_code
theorem kc_MD_place : Cond.code y_MD_place c_MD_place 5 none ∈ gts := gt_5 36 rfl rfl
abbrev y_MD_isPlace : MethodName := ⟨"PlaceRulesModel", "isPlace", "(I)Z"⟩
abbrev c_MD_isPlace : ByteArray := prog_14_method_6_code
theorem kc_MD_isPlace : Cond.code y_MD_isPlace c_MD_isPlace 1 (some .boolean) ∈ gts := gt_5 39 rfl rfl
abbrev y_MD_in : MethodName := ⟨"PlaceRulesModel", "in", "(III)Z"⟩
abbrev c_MD_in : ByteArray := prog_14_method_3_code
theorem kc_MD_in : Cond.code y_MD_in c_MD_in 3 (some .boolean) ∈ gts := gt_5 42 rfl rfl
abbrev y_MD_isSize : MethodName := ⟨"PlaceRulesModel", "isSize", "(III)Z"⟩
abbrev c_MD_isSize : ByteArray := prog_14_method_5_code
theorem kc_MD_isSize : Cond.code y_MD_isSize c_MD_isSize 3 (some .boolean) ∈ gts := gt_5 45 rfl rfl
abbrev y_MD_fails : MethodName := ⟨"PlaceRulesModel", "fails", "(ZZZ)Z"⟩
abbrev c_MD_fails : ByteArray := prog_14_method_4_code
theorem kc_MD_fails : Cond.code y_MD_fails c_MD_fails 4 (some .boolean) ∈ gts := gt_5 49 rfl rfl
abbrev y_MD_limit : MethodName := ⟨"PlaceRulesModel", "limit", "(III)V"⟩
abbrev c_MD_limit : ByteArray := prog_14_method_8_code
theorem kc_MD_limit : Cond.code y_MD_limit c_MD_limit 4 none ∈ gts := gt_5 53 rfl rfl
abbrev y_MD_unit : MethodName := ⟨"PlaceRulesModel", "unit", "(III)I"⟩
abbrev c_MD_unit : ByteArray := prog_14_method_10_code
theorem kc_MD_unit : Cond.code y_MD_unit c_MD_unit 4 (some .int) ∈ gts := gt_5 58 rfl rfl
abbrev y_MD_lay : MethodName := ⟨"PlaceRulesModel", "lay", "(IIIII)V"⟩
abbrev c_MD_lay : ByteArray := prog_14_method_9_code
theorem kc_MD_lay : Cond.code y_MD_lay c_MD_lay 6 none ∈ gts := gt_5 62 rfl rfl
abbrev y_MD_size : MethodName := ⟨"PlaceRulesModel", "size", "(IIIII)V"⟩
abbrev c_MD_size : ByteArray := prog_14_method_12_code
theorem kc_MD_size : Cond.code y_MD_size c_MD_size 7 none ∈ gts := gt_5 66 rfl rfl
abbrev y_MD_isUnit : MethodName := ⟨"PlaceRulesModel", "isUnit", "(I)Z"⟩
abbrev c_MD_isUnit : ByteArray := prog_14_method_11_code
theorem kc_MD_isUnit : Cond.code y_MD_isUnit c_MD_isUnit 2 (some .boolean) ∈ gts := gt_5 71 rfl rfl
abbrev y_MD_nature : MethodName := ⟨"PlaceRulesModel", "nature", "(IIII)V"⟩
abbrev c_MD_nature : ByteArray := prog_14_method_13_code
theorem kc_MD_nature : Cond.code y_MD_nature c_MD_nature 6 none ∈ gts := gt_5 75 rfl rfl
abbrev y_MD_rule : MethodName := ⟨"PlaceRulesModel", "rule", "(IIII)I"⟩
abbrev c_MD_rule : ByteArray := prog_14_method_17_code
theorem kc_MD_rule : Cond.code y_MD_rule c_MD_rule 6 (some .int) ∈ gts := gt_5 79 rfl rfl
abbrev y_MD_isA : MethodName := ⟨"PlaceRulesModel", "isA", "(II)Z"⟩
abbrev c_MD_isA : ByteArray := prog_14_method_14_code
theorem kc_MD_isA : Cond.code y_MD_isA c_MD_isA 2 (some .boolean) ∈ gts := gt_5 82 rfl rfl
abbrev y_MD_isTwo : MethodName := ⟨"PlaceRulesModel", "isTwo", "(I)Z"⟩
abbrev c_MD_isTwo : ByteArray := prog_14_method_15_code
theorem kc_MD_isTwo : Cond.code y_MD_isTwo c_MD_isTwo 1 (some .boolean) ∈ gts := gt_5 85 rfl rfl
abbrev y_MD_comes : MethodName := ⟨"PlaceRulesModel", "comes", "(IIII)V"⟩
abbrev c_MD_comes : ByteArray := prog_14_method_16_code
theorem kc_MD_comes : Cond.code y_MD_comes c_MD_comes 6 none ∈ gts := gt_5 89 rfl rfl
abbrev y_MD_sign : MethodName := ⟨"PlaceRulesModel", "sign", "(I)I"⟩
abbrev c_MD_sign : ByteArray := prog_14_method_18_code
theorem kc_MD_sign : Cond.code y_MD_sign c_MD_sign 2 (some .int) ∈ gts := gt_5 93 rfl rfl
abbrev y_MD_read : MethodName := ⟨"PlaceRulesModel", "read", "()I"⟩
abbrev c_MD_read : ByteArray := prog_14_method_28_code
theorem kc_MD_read : Cond.code y_MD_read c_MD_read 2 (some .int) ∈ gts := gt_5 97 rfl rfl
abbrev y_MD_fault : MethodName := ⟨"PlaceRulesModel", "fault", "(I)V"⟩
abbrev c_MD_fault : ByteArray := prog_14_method_20_code
theorem kc_MD_fault : Cond.code y_MD_fault c_MD_fault 2 none ∈ gts := gt_5 101 rfl rfl
abbrev y_MD_line : MethodName := ⟨"PlaceRulesModel", "line", "(Z)V"⟩
abbrev c_MD_line : ByteArray := prog_14_method_27_code
theorem kc_MD_line : Cond.code y_MD_line c_MD_line 6 none ∈ gts := gt_5 105 rfl rfl
abbrev y_MD_digits : MethodName := ⟨"PlaceRulesModel", "digits", "()I"⟩
abbrev c_MD_digits : ByteArray := prog_14_method_23_code
theorem kc_MD_digits : Cond.code y_MD_digits c_MD_digits 2 (some .int) ∈ gts := gt_5 109 rfl rfl
abbrev y_MD_isDigit : MethodName := ⟨"PlaceRulesModel", "isDigit", "()Z"⟩
abbrev c_MD_isDigit : ByteArray := prog_14_method_22_code
theorem kc_MD_isDigit : Cond.code y_MD_isDigit c_MD_isDigit 1 (some .boolean) ∈ gts := gt_5 113 rfl rfl
abbrev y_MD_now : MethodName := ⟨"PlaceRulesModel", "now", "()I"⟩
abbrev c_MD_now : ByteArray := prog_14_method_19_code
theorem kc_MD_now : Cond.code y_MD_now c_MD_now 1 (some .int) ∈ gts := gt_5 117 rfl rfl
abbrev y_MD_pass : MethodName := ⟨"PlaceRulesModel", "pass", "(I)V"⟩
abbrev c_MD_pass : ByteArray := prog_14_method_21_code
theorem kc_MD_pass : Cond.code y_MD_pass c_MD_pass 2 none ∈ gts := gt_5 121 rfl rfl
abbrev y_MD_kind : MethodName := ⟨"PlaceRulesModel", "kind", "()I"⟩
abbrev c_MD_kind : ByteArray := prog_14_method_26_code
theorem kc_MD_kind : Cond.code y_MD_kind c_MD_kind 6 (some .int) ∈ gts := gt_5 125 rfl rfl
abbrev y_MD_match : MethodName := ⟨"PlaceRulesModel", "match", "(II)I"⟩
abbrev c_MD_match : ByteArray := prog_14_method_24_code
theorem kc_MD_match : Cond.code y_MD_match c_MD_match 4 (some .int) ∈ gts := gt_5 129 rfl rfl
abbrev y_MD_lengthOf : MethodName := ⟨"PlaceRulesModel", "lengthOf", "(I)I"⟩
abbrev c_MD_lengthOf : ByteArray := prog_14_method_25_code
theorem kc_MD_lengthOf : Cond.code y_MD_lengthOf c_MD_lengthOf 3 (some .int) ∈ gts := gt_5 133 rfl rfl
abbrev y_MD_own : MethodName := ⟨"PlaceRulesModel", "own", "(II)V"⟩
abbrev c_MD_own : ByteArray := prog_14_method_29_code
theorem kc_MD_own : Cond.code y_MD_own c_MD_own 3 none ∈ gts := gt_5 137 rfl rfl
abbrev y_MD_except : MethodName := ⟨"PlaceRulesModel", "except", "(IIII)V"⟩
abbrev c_MD_except : ByteArray := prog_14_method_30_code
theorem kc_MD_except : Cond.code y_MD_except c_MD_except 7 none ∈ gts := gt_5 141 rfl rfl
abbrev y_MD_may : MethodName := ⟨"PlaceRulesModel", "may", "(III)I"⟩
abbrev c_MD_may : ByteArray := prog_14_method_43_code
theorem kc_MD_may : Cond.code y_MD_may c_MD_may 4 (some .int) ∈ gts := gt_5 145 rfl rfl
abbrev y_MD_ask : MethodName := ⟨"PlaceRulesModel", "ask", "(III)I"⟩
abbrev c_MD_ask : ByteArray := prog_14_method_42_code
theorem kc_MD_ask : Cond.code y_MD_ask c_MD_ask 6 (some .int) ∈ gts := gt_5 149 rfl rfl
abbrev y_MD_isExcepted : MethodName := ⟨"PlaceRulesModel", "isExcepted", "(IIII)Z"⟩
abbrev c_MD_isExcepted : ByteArray := prog_14_method_31_code
theorem kc_MD_isExcepted : Cond.code y_MD_isExcepted c_MD_isExcepted 9 (some .boolean) ∈ gts := gt_5 153 rfl rfl
abbrev y_MD_refuses : MethodName := ⟨"PlaceRulesModel", "refuses", "(IIII)Z"⟩
abbrev c_MD_refuses : ByteArray := prog_14_method_41_code
theorem kc_MD_refuses : Cond.code y_MD_refuses c_MD_refuses 8 (some .boolean) ∈ gts := gt_5 157 rfl rfl
abbrev y_MD_isSized : MethodName := ⟨"PlaceRulesModel", "isSized", "(III)Z"⟩
abbrev c_MD_isSized : ByteArray := prog_14_method_39_code
theorem kc_MD_isSized : Cond.code y_MD_isSized c_MD_isSized 6 (some .boolean) ∈ gts := gt_5 161 rfl rfl
abbrev y_MD_fits : MethodName := ⟨"PlaceRulesModel", "fits", "(III)Z"⟩
abbrev c_MD_fits : ByteArray := prog_14_method_36_code
theorem kc_MD_fits : Cond.code y_MD_fits c_MD_fits 9 (some .boolean) ∈ gts := gt_5 165 rfl rfl
abbrev y_MD_others : MethodName := ⟨"PlaceRulesModel", "others", "(II)I"⟩
abbrev c_MD_others : ByteArray := prog_14_method_34_code
theorem kc_MD_others : Cond.code y_MD_others c_MD_others 5 (some .int) ∈ gts := gt_5 169 rfl rfl
abbrev y_MD_unlike : MethodName := ⟨"PlaceRulesModel", "unlike", "(III)I"⟩
abbrev c_MD_unlike : ByteArray := prog_14_method_33_code
theorem kc_MD_unlike : Cond.code y_MD_unlike c_MD_unlike 9 (some .int) ∈ gts := gt_5 173 rfl rfl
abbrev y_MD_isThere : MethodName := ⟨"PlaceRulesModel", "isThere", "(III)Z"⟩
abbrev c_MD_isThere : ByteArray := prog_14_method_32_code
theorem kc_MD_isThere : Cond.code y_MD_isThere c_MD_isThere 4 (some .boolean) ∈ gts := gt_5 177 rfl rfl
abbrev y_MD_meets : MethodName := ⟨"PlaceRulesModel", "meets", "(III)Z"⟩
abbrev c_MD_meets : ByteArray := prog_14_method_35_code
theorem kc_MD_meets : Cond.code y_MD_meets c_MD_meets 6 (some .boolean) ∈ gts := gt_5 181 rfl rfl
abbrev y_MD_many : MethodName := ⟨"PlaceRulesModel", "many", "(II)I"⟩
abbrev c_MD_many : ByteArray := prog_14_method_38_code
theorem kc_MD_many : Cond.code y_MD_many c_MD_many 5 (some .int) ∈ gts := gt_5 185 rfl rfl
abbrev y_MD_span : MethodName := ⟨"PlaceRulesModel", "span", "(II)I"⟩
abbrev c_MD_span : ByteArray := prog_14_method_37_code
theorem kc_MD_span : Cond.code y_MD_span c_MD_span 8 (some .int) ∈ gts := gt_5 189 rfl rfl
abbrev y_MD_ownRefuses : MethodName := ⟨"PlaceRulesModel", "ownRefuses", "(III)Z"⟩
abbrev c_MD_ownRefuses : ByteArray := prog_14_method_40_code
theorem kc_MD_ownRefuses : Cond.code y_MD_ownRefuses c_MD_ownRefuses 4 (some .boolean) ∈ gts := gt_5 193 rfl rfl
abbrev y_MD_explain : MethodName := ⟨"PlaceRulesModel", "explain", "(I)I"⟩
abbrev c_MD_explain : ByteArray := prog_14_method_44_code
theorem kc_MD_explain : Cond.code y_MD_explain c_MD_explain 2 (some .int) ∈ gts := gt_5 197 rfl rfl
abbrev y_MD_put : MethodName := ⟨"PlaceRulesModel", "put", "(III)I"⟩
abbrev c_MD_put : ByteArray := prog_14_method_45_code
theorem kc_MD_put : Cond.code y_MD_put c_MD_put 6 (some .int) ∈ gts := gt_5 201 rfl rfl
abbrev y_MD_take : MethodName := ⟨"PlaceRulesModel", "take", "(I)V"⟩
abbrev c_MD_take : ByteArray := prog_14_method_46_code
theorem kc_MD_take : Cond.code y_MD_take c_MD_take 2 none ∈ gts := gt_5 205 rfl rfl
abbrev y_MD_turned : MethodName := ⟨"PlaceRulesModel", "turned", "(II)I"⟩
abbrev c_MD_turned : ByteArray := prog_14_method_47_code
theorem kc_MD_turned : Cond.code y_MD_turned c_MD_turned 4 (some .int) ∈ gts := gt_5 209 rfl rfl
abbrev y_MD_never : MethodName := ⟨"PlaceRulesModel", "never", "(I)I"⟩
abbrev c_MD_never : ByteArray := prog_14_method_48_code
theorem kc_MD_never : Cond.code y_MD_never c_MD_never 4 (some .int) ∈ gts := gt_5 213 rfl rfl
abbrev y_MD_clash : MethodName := ⟨"PlaceRulesModel", "clash", "(II)I"⟩
abbrev c_MD_clash : ByteArray := prog_14_method_49_code
theorem kc_MD_clash : Cond.code y_MD_clash c_MD_clash 3 (some .int) ∈ gts := gt_5 217 rfl rfl
abbrev y_MD_at : MethodName := ⟨"PlaceRulesModel", "at", "(II)I"⟩
abbrev c_MD_at : ByteArray := prog_14_method_50_code
theorem kc_MD_at : Cond.code y_MD_at c_MD_at 5 (some .int) ∈ gts := gt_5 221 rfl rfl
abbrev y_MD_count : MethodName := ⟨"PlaceRulesModel", "count", "(I)I"⟩
abbrev c_MD_count : ByteArray := prog_14_method_51_code
theorem kc_MD_count : Cond.code y_MD_count c_MD_count 2 (some .int) ∈ gts := gt_5 225 rfl rfl
theorem kt_LW : Cond.initialized "PlaceRulesLaw" ∈ gts := gt_1 0 rfl rfl
theorem kt_PR : Cond.initialized "PlaceRules" ∈ gts := gt_1 1 rfl rfl
theorem kt_RB : Cond.initialized "PlaceRules$RuleBook" ∈ gts := gt_1 2 rfl rfl
theorem kt_RU : Cond.initialized "PlaceRules$Rule" ∈ gts := gt_1 3 rfl rfl
theorem kt_java_lang_Enum : Cond.initialized "java/lang/Enum" ∈ gts := gt_1 4 rfl rfl
theorem kt_KD : Cond.initialized "PlaceRules$Kind" ∈ gts := gt_1 5 rfl rfl
theorem kt_OW : Cond.initialized "PlaceRules$OwnRules" ∈ gts := gt_1 6 rfl rfl
theorem kt_TX : Cond.initialized "PlaceRules$Text" ∈ gts := gt_1 7 rfl rfl
theorem kt_QU : Cond.initialized "PlaceRules$Question" ∈ gts := gt_1 8 rfl rfl
theorem kt_NS : Cond.initialized "PlaceRules$NumberSet" ∈ gts := gt_1 9 rfl rfl
theorem kt_PL : Cond.initialized "PlaceRules$Place" ∈ gts := gt_1 10 rfl rfl
theorem kt_UN : Cond.initialized "PlaceRules$Unit" ∈ gts := gt_1 11 rfl rfl
theorem kt_WV : Cond.initialized "PlaceRules$Waiver" ∈ gts := gt_1 12 rfl rfl
theorem kt_MD : Cond.initialized "PlaceRulesModel" ∈ gts := gt_1 13 rfl rfl
theorem kt_java_lang_Throwable : Cond.initialized "java/lang/Throwable" ∈ gts := gt_1 14 rfl rfl
theorem kt_java_lang_Exception : Cond.initialized "java/lang/Exception" ∈ gts := gt_1 15 rfl rfl
theorem kt_java_lang_RuntimeException : Cond.initialized "java/lang/RuntimeException" ∈ gts := gt_1 16 rfl rfl
theorem kt_java_lang_IllegalArgumentException : Cond.initialized "java/lang/IllegalArgumentException" ∈ gts := gt_1 17 rfl rfl
theorem kt_java_lang_UnsupportedOperationException : Cond.initialized "java/lang/UnsupportedOperationException" ∈ gts := gt_1 18 rfl rfl
theorem kt_java_util_NoSuchElementException : Cond.initialized "java/util/NoSuchElementException" ∈ gts := gt_1 19 rfl rfl
theorem kt_java_lang_IllegalStateException : Cond.initialized "java/lang/IllegalStateException" ∈ gts := gt_1 20 rfl rfl
theorem kt_java_lang_String : Cond.initialized "java/lang/String" ∈ gts := gt_1 21 rfl rfl
theorem kt_java_lang_StringLatin1 : Cond.initialized "java/lang/StringLatin1" ∈ gts := gt_1 22 rfl rfl
theorem kt_jdk_internal_util_Preconditions : Cond.initialized "jdk/internal/util/Preconditions" ∈ gts := gt_1 23 rfl rfl
theorem kt_java_lang_StringUTF16 : Cond.initialized "java/lang/StringUTF16" ∈ gts := gt_1 24 rfl rfl
theorem kt_java_lang_Math : Cond.initialized "java/lang/Math" ∈ gts := gt_1 25 rfl rfl
theorem kt_SW : Cond.initialized "PlaceRules$1" ∈ gts := gt_1 26 rfl rfl
theorem kt_java_lang_Long : Cond.initialized "java/lang/Long" ∈ gts := gt_1 27 rfl rfl
theorem kk_LW_8 : Cond.classLink "PlaceRulesLaw" 8 "PlaceRules" ∈ gts := gt_1 28 rfl rfl
theorem kn_PR : Cond.instantiable "PlaceRules" 11 ∈ gts := gt_1 29 rfl rfl
theorem km_LW_74 : Cond.methodLink "PlaceRulesLaw" 74 ⟨"PlaceRules", "<init>", "()V"⟩ ∈ gts := gt_1 30 rfl rfl
theorem ki_PR_init : Cond.instanceMethod ⟨"PlaceRules", "<init>", "()V"⟩ ∈ gts := gt_1 31 rfl rfl
theorem km_PR_1 : Cond.methodLink "PlaceRules" 1 ⟨"java/lang/Object", "<init>", "()V"⟩ ∈ gts := gt_1 33 rfl rfl
theorem ki_java_lang_Object_init : Cond.instanceMethod ⟨"java/lang/Object", "<init>", "()V"⟩ ∈ gts := gt_1 34 rfl rfl
theorem kk_PR_9 : Cond.classLink "PlaceRules" 9 "PlaceRules$Place" ∈ gts := gt_1 36 rfl rfl
theorem kk_PR_15 : Cond.classLink "PlaceRules" 15 "PlaceRules$Unit" ∈ gts := gt_1 38 rfl rfl
theorem kk_PR_21 : Cond.classLink "PlaceRules" 21 "PlaceRules$Waiver" ∈ gts := gt_1 40 rfl rfl
theorem kk_PR_27 : Cond.classLink "PlaceRules" 27 "PlaceRules$RuleBook" ∈ gts := gt_1 42 rfl rfl
theorem kn_RB : Cond.instantiable "PlaceRules$RuleBook" 6 ∈ gts := gt_1 43 rfl rfl
theorem km_PR_29 : Cond.methodLink "PlaceRules" 29 ⟨"PlaceRules$RuleBook", "<init>", "()V"⟩ ∈ gts := gt_1 44 rfl rfl
theorem ki_RB_init : Cond.instanceMethod ⟨"PlaceRules$RuleBook", "<init>", "()V"⟩ ∈ gts := gt_1 45 rfl rfl
theorem km_RB_3 : Cond.methodLink "PlaceRules$RuleBook" 3 ⟨"java/lang/Object", "<init>", "()V"⟩ ∈ gts := gt_1 47 rfl rfl
theorem kk_RB_9 : Cond.classLink "PlaceRules$RuleBook" 9 "PlaceRules$Rule" ∈ gts := gt_1 48 rfl rfl
theorem kn_RU : Cond.instantiable "PlaceRules$Rule" 5 ∈ gts := gt_1 50 rfl rfl
theorem ki_RU_init : Cond.instanceMethod ⟨"PlaceRules$Rule", "<init>", "()V"⟩ ∈ gts := gt_1 52 rfl rfl
theorem km_RU_1 : Cond.methodLink "PlaceRules$Rule" 1 ⟨"java/lang/Object", "<init>", "()V"⟩ ∈ gts := gt_1 54 rfl rfl
theorem kf_RU_7 : Cond.fieldLink "PlaceRules$Rule" 7 "PlaceRules$Kind" "SIZE" "LPlaceRules$Kind;" ∈ gts := gt_1 55 rfl rfl
theorem kf_RB_32 : Cond.fieldLink "PlaceRules$RuleBook" 32 "PlaceRules$Rule" "rank" "I" ∈ gts := gt_1 57 rfl rfl
theorem kf_TX_52 : Cond.fieldLink "PlaceRules$Text" 52 "PlaceRules$Rule" "rank" "I" ∈ gts := gt_1 58 rfl rfl
theorem kf_PR_170 : Cond.fieldLink "PlaceRules" 170 "PlaceRules$Rule" "rank" "I" ∈ gts := gt_1 59 rfl rfl
theorem kf_RU_13 : Cond.fieldLink "PlaceRules$Rule" 13 "PlaceRules$Rule" "kind" "LPlaceRules$Kind;" ∈ gts := gt_1 60 rfl rfl
theorem kf_RB_35 : Cond.fieldLink "PlaceRules$RuleBook" 35 "PlaceRules$Rule" "kind" "LPlaceRules$Kind;" ∈ gts := gt_1 61 rfl rfl
theorem kf_TX_62 : Cond.fieldLink "PlaceRules$Text" 62 "PlaceRules$Rule" "kind" "LPlaceRules$Kind;" ∈ gts := gt_1 62 rfl rfl
theorem kf_PR_175 : Cond.fieldLink "PlaceRules" 175 "PlaceRules$Rule" "kind" "LPlaceRules$Kind;" ∈ gts := gt_1 63 rfl rfl
theorem kf_RU_28 : Cond.fieldLink "PlaceRules$Rule" 28 "PlaceRules$Rule" "a" "I" ∈ gts := gt_1 64 rfl rfl
theorem kf_RB_39 : Cond.fieldLink "PlaceRules$RuleBook" 39 "PlaceRules$Rule" "a" "I" ∈ gts := gt_1 65 rfl rfl
theorem kf_TX_69 : Cond.fieldLink "PlaceRules$Text" 69 "PlaceRules$Rule" "a" "I" ∈ gts := gt_1 66 rfl rfl
theorem kf_PR_179 : Cond.fieldLink "PlaceRules" 179 "PlaceRules$Rule" "a" "I" ∈ gts := gt_1 67 rfl rfl
theorem kf_RU_65 : Cond.fieldLink "PlaceRules$Rule" 65 "PlaceRules$Rule" "b" "I" ∈ gts := gt_1 68 rfl rfl
theorem kf_RB_42 : Cond.fieldLink "PlaceRules$RuleBook" 42 "PlaceRules$Rule" "b" "I" ∈ gts := gt_1 69 rfl rfl
theorem kf_TX_72 : Cond.fieldLink "PlaceRules$Text" 72 "PlaceRules$Rule" "b" "I" ∈ gts := gt_1 70 rfl rfl
theorem kf_PR_182 : Cond.fieldLink "PlaceRules" 182 "PlaceRules$Rule" "b" "I" ∈ gts := gt_1 71 rfl rfl
theorem kf_RB_52 : Cond.fieldLink "PlaceRules$RuleBook" 52 "PlaceRules$Rule" "hasRefused" "Z" ∈ gts := gt_1 72 rfl rfl
theorem kf_PR_283 : Cond.fieldLink "PlaceRules" 283 "PlaceRules$Rule" "hasRefused" "Z" ∈ gts := gt_1 73 rfl rfl
theorem ka_int : Cond.arrayClass .int ∈ gts := gt_1 85 rfl rfl
theorem kf_RB_11 : Cond.fieldLink "PlaceRules$RuleBook" 11 "PlaceRules$RuleBook" "rules" "[LPlaceRules$Rule;" ∈ gts := gt_1 86 rfl rfl
theorem kf_PR_272 : Cond.fieldLink "PlaceRules" 272 "PlaceRules$RuleBook" "rules" "[LPlaceRules$Rule;" ∈ gts := gt_1 87 rfl rfl
theorem kf_RB_17 : Cond.fieldLink "PlaceRules$RuleBook" 17 "PlaceRules$RuleBook" "order" "[I" ∈ gts := gt_1 88 rfl rfl
theorem kf_PR_269 : Cond.fieldLink "PlaceRules" 269 "PlaceRules$RuleBook" "order" "[I" ∈ gts := gt_1 89 rfl rfl
theorem kf_RB_28 : Cond.fieldLink "PlaceRules$RuleBook" 28 "PlaceRules$RuleBook" "ruleCount" "I" ∈ gts := gt_1 90 rfl rfl
theorem kf_PR_191 : Cond.fieldLink "PlaceRules" 191 "PlaceRules$RuleBook" "ruleCount" "I" ∈ gts := gt_1 91 rfl rfl
theorem kf_RB_21 : Cond.fieldLink "PlaceRules$RuleBook" 21 "PlaceRules$RuleBook" "earlier" "[I" ∈ gts := gt_1 92 rfl rfl
theorem kf_PR_254 : Cond.fieldLink "PlaceRules" 254 "PlaceRules$RuleBook" "earlier" "[I" ∈ gts := gt_1 93 rfl rfl
theorem kf_RB_24 : Cond.fieldLink "PlaceRules$RuleBook" 24 "PlaceRules$RuleBook" "later" "[I" ∈ gts := gt_1 94 rfl rfl
theorem kf_PR_257 : Cond.fieldLink "PlaceRules" 257 "PlaceRules$RuleBook" "later" "[I" ∈ gts := gt_1 95 rfl rfl
theorem kf_RB_56 : Cond.fieldLink "PlaceRules$RuleBook" 56 "PlaceRules$RuleBook" "clashCount" "I" ∈ gts := gt_1 96 rfl rfl
theorem kf_PR_251 : Cond.fieldLink "PlaceRules" 251 "PlaceRules$RuleBook" "clashCount" "I" ∈ gts := gt_1 97 rfl rfl
theorem kk_PR_34 : Cond.classLink "PlaceRules" 34 "PlaceRules$OwnRules" ∈ gts := gt_1 111 rfl rfl
theorem kn_OW : Cond.instantiable "PlaceRules$OwnRules" 2 ∈ gts := gt_1 112 rfl rfl
theorem ki_OW_init : Cond.instanceMethod ⟨"PlaceRules$OwnRules", "<init>", "()V"⟩ ∈ gts := gt_1 114 rfl rfl
theorem km_OW_3 : Cond.methodLink "PlaceRules$OwnRules" 3 ⟨"java/lang/Object", "<init>", "()V"⟩ ∈ gts := gt_1 116 rfl rfl
theorem kf_OW_9 : Cond.fieldLink "PlaceRules$OwnRules" 9 "PlaceRules$OwnRules" "says" "[I" ∈ gts := gt_1 117 rfl rfl
theorem kf_PR_188 : Cond.fieldLink "PlaceRules" 188 "PlaceRules$OwnRules" "says" "[I" ∈ gts := gt_1 118 rfl rfl
theorem kf_OW_24 : Cond.fieldLink "PlaceRules$OwnRules" 24 "PlaceRules$OwnRules" "failures" "I" ∈ gts := gt_1 119 rfl rfl
theorem kf_PR_263 : Cond.fieldLink "PlaceRules" 263 "PlaceRules$OwnRules" "failures" "I" ∈ gts := gt_1 120 rfl rfl
theorem kk_PR_41 : Cond.classLink "PlaceRules" 41 "PlaceRules$Text" ∈ gts := gt_1 126 rfl rfl
theorem kn_TX : Cond.instantiable "PlaceRules$Text" 7 ∈ gts := gt_1 127 rfl rfl
theorem km_PR_43 : Cond.methodLink "PlaceRules" 43 ⟨"PlaceRules$Text", "<init>", "()V"⟩ ∈ gts := gt_1 128 rfl rfl
theorem ki_TX_init : Cond.instanceMethod ⟨"PlaceRules$Text", "<init>", "()V"⟩ ∈ gts := gt_1 129 rfl rfl
theorem km_TX_3 : Cond.methodLink "PlaceRules$Text" 3 ⟨"java/lang/Object", "<init>", "()V"⟩ ∈ gts := gt_1 131 rfl rfl
theorem kk_TX_15 : Cond.classLink "PlaceRules$Text" 15 "PlaceRules$Rule" ∈ gts := gt_1 132 rfl rfl
theorem kf_TX_21 : Cond.fieldLink "PlaceRules$Text" 21 "PlaceRules$Kind" "SIZE" "LPlaceRules$Kind;" ∈ gts := gt_1 133 rfl rfl
theorem kf_TX_9 : Cond.fieldLink "PlaceRules$Text" 9 "PlaceRules$Text" "signs" "[I" ∈ gts := gt_1 135 rfl rfl
theorem kf_TX_31 : Cond.fieldLink "PlaceRules$Text" 31 "PlaceRules$Text" "signCount" "I" ∈ gts := gt_1 136 rfl rfl
theorem kf_PR_260 : Cond.fieldLink "PlaceRules" 260 "PlaceRules$Text" "signCount" "I" ∈ gts := gt_1 137 rfl rfl
theorem kf_TX_17 : Cond.fieldLink "PlaceRules$Text" 17 "PlaceRules$Text" "drafts" "[LPlaceRules$Rule;" ∈ gts := gt_1 138 rfl rfl
theorem kf_PR_166 : Cond.fieldLink "PlaceRules" 166 "PlaceRules$Text" "drafts" "[LPlaceRules$Rule;" ∈ gts := gt_1 139 rfl rfl
theorem kf_TX_35 : Cond.fieldLink "PlaceRules$Text" 35 "PlaceRules$Text" "next" "I" ∈ gts := gt_1 140 rfl rfl
theorem kf_TX_42 : Cond.fieldLink "PlaceRules$Text" 42 "PlaceRules$Text" "wrong" "I" ∈ gts := gt_1 141 rfl rfl
theorem kf_TX_49 : Cond.fieldLink "PlaceRules$Text" 49 "PlaceRules$Text" "value" "I" ∈ gts := gt_1 142 rfl rfl
theorem kf_TX_27 : Cond.fieldLink "PlaceRules$Text" 27 "PlaceRules$Text" "kind" "LPlaceRules$Kind;" ∈ gts := gt_1 143 rfl rfl
theorem kk_PR_48 : Cond.classLink "PlaceRules" 48 "PlaceRules$Question" ∈ gts := gt_1 159 rfl rfl
theorem kn_QU : Cond.instantiable "PlaceRules$Question" 18 ∈ gts := gt_1 160 rfl rfl
theorem ki_QU_init : Cond.instanceMethod ⟨"PlaceRules$Question", "<init>", "()V"⟩ ∈ gts := gt_1 162 rfl rfl
theorem km_QU_3 : Cond.methodLink "PlaceRules$Question" 3 ⟨"java/lang/Object", "<init>", "()V"⟩ ∈ gts := gt_1 164 rfl rfl
theorem kk_QU_9 : Cond.classLink "PlaceRules$Question" 9 "PlaceRules$NumberSet" ∈ gts := gt_1 165 rfl rfl
theorem kn_NS : Cond.instantiable "PlaceRules$NumberSet" 2 ∈ gts := gt_1 166 rfl rfl
theorem ki_NS_init : Cond.instanceMethod ⟨"PlaceRules$NumberSet", "<init>", "()V"⟩ ∈ gts := gt_1 168 rfl rfl
theorem km_NS_1 : Cond.methodLink "PlaceRules$NumberSet" 1 ⟨"java/lang/Object", "<init>", "()V"⟩ ∈ gts := gt_1 170 rfl rfl
theorem kf_NS_7 : Cond.fieldLink "PlaceRules$NumberSet" 7 "PlaceRules$NumberSet" "low" "J" ∈ gts := gt_1 171 rfl rfl
theorem kf_NS_13 : Cond.fieldLink "PlaceRules$NumberSet" 13 "PlaceRules$NumberSet" "high" "J" ∈ gts := gt_1 172 rfl rfl
theorem kf_QU_37 : Cond.fieldLink "PlaceRules$Question" 37 "PlaceRules$Question" "fitsUpright" "Z" ∈ gts := gt_1 178 rfl rfl
theorem kf_RU_32 : Cond.fieldLink "PlaceRules$Rule" 32 "PlaceRules$Question" "fitsUpright" "Z" ∈ gts := gt_1 179 rfl rfl
theorem kf_QU_45 : Cond.fieldLink "PlaceRules$Question" 45 "PlaceRules$Question" "fitsSomehow" "Z" ∈ gts := gt_1 180 rfl rfl
theorem kf_RU_38 : Cond.fieldLink "PlaceRules$Rule" 38 "PlaceRules$Question" "fitsSomehow" "Z" ∈ gts := gt_1 181 rfl rfl
theorem kf_QU_27 : Cond.fieldLink "PlaceRules$Question" 27 "PlaceRules$Question" "day" "I" ∈ gts := gt_1 182 rfl rfl
theorem kf_RU_90 : Cond.fieldLink "PlaceRules$Rule" 90 "PlaceRules$Question" "day" "I" ∈ gts := gt_1 183 rfl rfl
theorem kf_QU_51 : Cond.fieldLink "PlaceRules$Question" 51 "PlaceRules$Question" "limit" "I" ∈ gts := gt_1 184 rfl rfl
theorem kf_RU_47 : Cond.fieldLink "PlaceRules$Rule" 47 "PlaceRules$Question" "limit" "I" ∈ gts := gt_1 185 rfl rfl
theorem kf_QU_55 : Cond.fieldLink "PlaceRules$Question" 55 "PlaceRules$Question" "zone" "I" ∈ gts := gt_1 186 rfl rfl
theorem kf_RU_75 : Cond.fieldLink "PlaceRules$Rule" 75 "PlaceRules$Question" "zone" "I" ∈ gts := gt_1 187 rfl rfl
theorem kf_QU_61 : Cond.fieldLink "PlaceRules$Question" 61 "PlaceRules$Question" "good" "I" ∈ gts := gt_1 188 rfl rfl
theorem kf_OW_15 : Cond.fieldLink "PlaceRules$OwnRules" 15 "PlaceRules$Question" "grams" "I" ∈ gts := gt_1 189 rfl rfl
theorem kf_QU_65 : Cond.fieldLink "PlaceRules$Question" 65 "PlaceRules$Question" "grams" "I" ∈ gts := gt_1 190 rfl rfl
theorem kf_RU_41 : Cond.fieldLink "PlaceRules$Rule" 41 "PlaceRules$Question" "grams" "I" ∈ gts := gt_1 191 rfl rfl
theorem kf_QU_69 : Cond.fieldLink "PlaceRules$Question" 69 "PlaceRules$Question" "hazard" "I" ∈ gts := gt_1 192 rfl rfl
theorem kf_QU_73 : Cond.fieldLink "PlaceRules$Question" 73 "PlaceRules$Question" "group" "I" ∈ gts := gt_1 193 rfl rfl
theorem kf_RU_72 : Cond.fieldLink "PlaceRules$Rule" 72 "PlaceRules$Question" "group" "I" ∈ gts := gt_1 194 rfl rfl
theorem kf_QU_77 : Cond.fieldLink "PlaceRules$Question" 77 "PlaceRules$Question" "last" "I" ∈ gts := gt_1 195 rfl rfl
theorem kf_RU_87 : Cond.fieldLink "PlaceRules$Rule" 87 "PlaceRules$Question" "last" "I" ∈ gts := gt_1 196 rfl rfl
theorem kf_QU_78 : Cond.fieldLink "PlaceRules$Question" 78 "PlaceRules$Question" "units" "I" ∈ gts := gt_1 197 rfl rfl
theorem kf_RU_78 : Cond.fieldLink "PlaceRules$Rule" 78 "PlaceRules$Question" "units" "I" ∈ gts := gt_1 198 rfl rfl
theorem kf_OW_21 : Cond.fieldLink "PlaceRules$OwnRules" 21 "PlaceRules$Question" "othersGrams" "I" ∈ gts := gt_1 199 rfl rfl
theorem kf_RU_44 : Cond.fieldLink "PlaceRules$Rule" 44 "PlaceRules$Question" "othersGrams" "I" ∈ gts := gt_1 200 rfl rfl
theorem kf_QU_81 : Cond.fieldLink "PlaceRules$Question" 81 "PlaceRules$Question" "othersGrams" "I" ∈ gts := gt_1 201 rfl rfl
theorem kf_QU_84 : Cond.fieldLink "PlaceRules$Question" 84 "PlaceRules$Question" "leastLast" "I" ∈ gts := gt_1 202 rfl rfl
theorem kf_RU_84 : Cond.fieldLink "PlaceRules$Rule" 84 "PlaceRules$Question" "leastLast" "I" ∈ gts := gt_1 203 rfl rfl
theorem kf_QU_87 : Cond.fieldLink "PlaceRules$Question" 87 "PlaceRules$Question" "greatestLast" "I" ∈ gts := gt_1 204 rfl rfl
theorem kf_RU_81 : Cond.fieldLink "PlaceRules$Rule" 81 "PlaceRules$Question" "greatestLast" "I" ∈ gts := gt_1 205 rfl rfl
theorem kf_QU_12 : Cond.fieldLink "PlaceRules$Question" 12 "PlaceRules$Question" "goods" "LPlaceRules$NumberSet;" ∈ gts := gt_1 206 rfl rfl
theorem kf_RU_50 : Cond.fieldLink "PlaceRules$Rule" 50 "PlaceRules$Question" "goods" "LPlaceRules$NumberSet;" ∈ gts := gt_1 207 rfl rfl
theorem kf_QU_18 : Cond.fieldLink "PlaceRules$Question" 18 "PlaceRules$Question" "lots" "LPlaceRules$NumberSet;" ∈ gts := gt_1 208 rfl rfl
theorem kf_RU_59 : Cond.fieldLink "PlaceRules$Rule" 59 "PlaceRules$Question" "lots" "LPlaceRules$NumberSet;" ∈ gts := gt_1 209 rfl rfl
theorem kf_QU_21 : Cond.fieldLink "PlaceRules$Question" 21 "PlaceRules$Question" "owners" "LPlaceRules$NumberSet;" ∈ gts := gt_1 210 rfl rfl
theorem kf_RU_62 : Cond.fieldLink "PlaceRules$Rule" 62 "PlaceRules$Question" "owners" "LPlaceRules$NumberSet;" ∈ gts := gt_1 211 rfl rfl
theorem kf_QU_24 : Cond.fieldLink "PlaceRules$Question" 24 "PlaceRules$Question" "othersHazards" "LPlaceRules$NumberSet;" ∈ gts := gt_1 212 rfl rfl
theorem kn_PL : Cond.instantiable "PlaceRules$Place" 5 ∈ gts := gt_2 10 rfl rfl
theorem ki_PL_init : Cond.instanceMethod ⟨"PlaceRules$Place", "<init>", "()V"⟩ ∈ gts := gt_2 12 rfl rfl
theorem km_PL_3 : Cond.methodLink "PlaceRules$Place" 3 ⟨"java/lang/Object", "<init>", "()V"⟩ ∈ gts := gt_2 14 rfl rfl
theorem kv_PL_21 : Cond.constant "PlaceRules$Place" 21 (100000) ∈ gts := gt_2 15 rfl rfl
theorem kf_PL_9 : Cond.fieldLink "PlaceRules$Place" 9 "PlaceRules$Place" "width" "I" ∈ gts := gt_2 16 rfl rfl
theorem kf_PR_70 : Cond.fieldLink "PlaceRules" 70 "PlaceRules$Place" "width" "I" ∈ gts := gt_2 17 rfl rfl
theorem kf_PL_15 : Cond.fieldLink "PlaceRules$Place" 15 "PlaceRules$Place" "depth" "I" ∈ gts := gt_2 18 rfl rfl
theorem kf_PR_74 : Cond.fieldLink "PlaceRules" 74 "PlaceRules$Place" "depth" "I" ∈ gts := gt_2 19 rfl rfl
theorem kf_PL_18 : Cond.fieldLink "PlaceRules$Place" 18 "PlaceRules$Place" "height" "I" ∈ gts := gt_2 20 rfl rfl
theorem kf_PR_77 : Cond.fieldLink "PlaceRules" 77 "PlaceRules$Place" "height" "I" ∈ gts := gt_2 21 rfl rfl
theorem kf_PL_22 : Cond.fieldLink "PlaceRules$Place" 22 "PlaceRules$Place" "limit" "I" ∈ gts := gt_2 22 rfl rfl
theorem kf_QU_48 : Cond.fieldLink "PlaceRules$Question" 48 "PlaceRules$Place" "limit" "I" ∈ gts := gt_2 23 rfl rfl
theorem kf_PR_84 : Cond.fieldLink "PlaceRules" 84 "PlaceRules$Place" "limit" "I" ∈ gts := gt_2 24 rfl rfl
theorem kf_QU_52 : Cond.fieldLink "PlaceRules$Question" 52 "PlaceRules$Place" "zone" "I" ∈ gts := gt_2 25 rfl rfl
theorem kf_PR_87 : Cond.fieldLink "PlaceRules" 87 "PlaceRules$Place" "zone" "I" ∈ gts := gt_2 26 rfl rfl
theorem kn_UN : Cond.instantiable "PlaceRules$Unit" 11 ∈ gts := gt_2 38 rfl rfl
theorem ki_UN_init : Cond.instanceMethod ⟨"PlaceRules$Unit", "<init>", "()V"⟩ ∈ gts := gt_2 40 rfl rfl
theorem km_UN_3 : Cond.methodLink "PlaceRules$Unit" 3 ⟨"java/lang/Object", "<init>", "()V"⟩ ∈ gts := gt_2 42 rfl rfl
theorem kf_QU_56 : Cond.fieldLink "PlaceRules$Question" 56 "PlaceRules$Unit" "good" "I" ∈ gts := gt_2 43 rfl rfl
theorem kf_PR_100 : Cond.fieldLink "PlaceRules" 100 "PlaceRules$Unit" "good" "I" ∈ gts := gt_2 44 rfl rfl
theorem kf_QU_94 : Cond.fieldLink "PlaceRules$Question" 94 "PlaceRules$Unit" "lot" "I" ∈ gts := gt_2 45 rfl rfl
theorem kf_PR_103 : Cond.fieldLink "PlaceRules" 103 "PlaceRules$Unit" "lot" "I" ∈ gts := gt_2 46 rfl rfl
theorem kf_QU_97 : Cond.fieldLink "PlaceRules$Question" 97 "PlaceRules$Unit" "owner" "I" ∈ gts := gt_2 47 rfl rfl
theorem kf_PR_106 : Cond.fieldLink "PlaceRules" 106 "PlaceRules$Unit" "owner" "I" ∈ gts := gt_2 48 rfl rfl
theorem kf_UN_9 : Cond.fieldLink "PlaceRules$Unit" 9 "PlaceRules$Unit" "width" "I" ∈ gts := gt_2 49 rfl rfl
theorem kf_PL_29 : Cond.fieldLink "PlaceRules$Place" 29 "PlaceRules$Unit" "width" "I" ∈ gts := gt_2 50 rfl rfl
theorem kf_PR_116 : Cond.fieldLink "PlaceRules" 116 "PlaceRules$Unit" "width" "I" ∈ gts := gt_2 51 rfl rfl
theorem kf_UN_15 : Cond.fieldLink "PlaceRules$Unit" 15 "PlaceRules$Unit" "depth" "I" ∈ gts := gt_2 52 rfl rfl
theorem kf_PL_32 : Cond.fieldLink "PlaceRules$Place" 32 "PlaceRules$Unit" "depth" "I" ∈ gts := gt_2 53 rfl rfl
theorem kf_PR_117 : Cond.fieldLink "PlaceRules" 117 "PlaceRules$Unit" "depth" "I" ∈ gts := gt_2 54 rfl rfl
theorem kf_UN_18 : Cond.fieldLink "PlaceRules$Unit" 18 "PlaceRules$Unit" "height" "I" ∈ gts := gt_2 55 rfl rfl
theorem kf_PL_33 : Cond.fieldLink "PlaceRules$Place" 33 "PlaceRules$Unit" "height" "I" ∈ gts := gt_2 56 rfl rfl
theorem kf_PR_118 : Cond.fieldLink "PlaceRules" 118 "PlaceRules$Unit" "height" "I" ∈ gts := gt_2 57 rfl rfl
theorem kf_UN_21 : Cond.fieldLink "PlaceRules$Unit" 21 "PlaceRules$Unit" "grams" "I" ∈ gts := gt_2 58 rfl rfl
theorem kf_QU_62 : Cond.fieldLink "PlaceRules$Question" 62 "PlaceRules$Unit" "grams" "I" ∈ gts := gt_2 59 rfl rfl
theorem kf_PR_119 : Cond.fieldLink "PlaceRules" 119 "PlaceRules$Unit" "grams" "I" ∈ gts := gt_2 60 rfl rfl
theorem kf_QU_66 : Cond.fieldLink "PlaceRules$Question" 66 "PlaceRules$Unit" "hazard" "I" ∈ gts := gt_2 61 rfl rfl
theorem kf_PR_122 : Cond.fieldLink "PlaceRules" 122 "PlaceRules$Unit" "hazard" "I" ∈ gts := gt_2 62 rfl rfl
theorem kf_QU_70 : Cond.fieldLink "PlaceRules$Question" 70 "PlaceRules$Unit" "group" "I" ∈ gts := gt_2 63 rfl rfl
theorem kf_PR_125 : Cond.fieldLink "PlaceRules" 125 "PlaceRules$Unit" "group" "I" ∈ gts := gt_2 64 rfl rfl
theorem kf_UN_24 : Cond.fieldLink "PlaceRules$Unit" 24 "PlaceRules$Unit" "last" "I" ∈ gts := gt_2 65 rfl rfl
theorem kf_QU_74 : Cond.fieldLink "PlaceRules$Question" 74 "PlaceRules$Unit" "last" "I" ∈ gts := gt_2 66 rfl rfl
theorem kf_PR_128 : Cond.fieldLink "PlaceRules" 128 "PlaceRules$Unit" "last" "I" ∈ gts := gt_2 67 rfl rfl
theorem kf_UN_27 : Cond.fieldLink "PlaceRules$Unit" 27 "PlaceRules$Unit" "place" "I" ∈ gts := gt_2 68 rfl rfl
theorem kf_PR_236 : Cond.fieldLink "PlaceRules" 236 "PlaceRules$Unit" "place" "I" ∈ gts := gt_2 69 rfl rfl
theorem kn_WV : Cond.instantiable "PlaceRules$Waiver" 4 ∈ gts := gt_2 93 rfl rfl
theorem ki_WV_init : Cond.instanceMethod ⟨"PlaceRules$Waiver", "<init>", "()V"⟩ ∈ gts := gt_2 95 rfl rfl
theorem km_WV_3 : Cond.methodLink "PlaceRules$Waiver" 3 ⟨"java/lang/Object", "<init>", "()V"⟩ ∈ gts := gt_2 97 rfl rfl
theorem kf_WV_9 : Cond.fieldLink "PlaceRules$Waiver" 9 "PlaceRules$Waiver" "rule" "I" ∈ gts := gt_2 98 rfl rfl
theorem kf_PR_217 : Cond.fieldLink "PlaceRules" 217 "PlaceRules$Waiver" "rule" "I" ∈ gts := gt_2 99 rfl rfl
theorem kf_WV_15 : Cond.fieldLink "PlaceRules$Waiver" 15 "PlaceRules$Waiver" "place" "I" ∈ gts := gt_2 100 rfl rfl
theorem kf_PR_220 : Cond.fieldLink "PlaceRules" 220 "PlaceRules$Waiver" "place" "I" ∈ gts := gt_2 101 rfl rfl
theorem kf_WV_18 : Cond.fieldLink "PlaceRules$Waiver" 18 "PlaceRules$Waiver" "owner" "I" ∈ gts := gt_2 102 rfl rfl
theorem kf_PR_223 : Cond.fieldLink "PlaceRules" 223 "PlaceRules$Waiver" "owner" "I" ∈ gts := gt_2 103 rfl rfl
theorem kf_WV_21 : Cond.fieldLink "PlaceRules$Waiver" 21 "PlaceRules$Waiver" "until" "I" ∈ gts := gt_2 104 rfl rfl
theorem kf_PR_203 : Cond.fieldLink "PlaceRules" 203 "PlaceRules$Waiver" "until" "I" ∈ gts := gt_2 105 rfl rfl
theorem kf_PR_11 : Cond.fieldLink "PlaceRules" 11 "PlaceRules" "places" "[LPlaceRules$Place;" ∈ gts := gt_2 115 rfl rfl
theorem kf_PR_17 : Cond.fieldLink "PlaceRules" 17 "PlaceRules" "units" "[LPlaceRules$Unit;" ∈ gts := gt_2 116 rfl rfl
theorem kf_PR_90 : Cond.fieldLink "PlaceRules" 90 "PlaceRules" "unitCount" "I" ∈ gts := gt_2 117 rfl rfl
theorem kf_PR_23 : Cond.fieldLink "PlaceRules" 23 "PlaceRules" "waivers" "[LPlaceRules$Waiver;" ∈ gts := gt_2 118 rfl rfl
theorem kf_PR_212 : Cond.fieldLink "PlaceRules" 212 "PlaceRules" "waiverCount" "I" ∈ gts := gt_2 119 rfl rfl
theorem kf_PR_30 : Cond.fieldLink "PlaceRules" 30 "PlaceRules" "book" "LPlaceRules$RuleBook;" ∈ gts := gt_2 120 rfl rfl
theorem kf_PR_37 : Cond.fieldLink "PlaceRules" 37 "PlaceRules" "ownRules" "LPlaceRules$OwnRules;" ∈ gts := gt_2 121 rfl rfl
theorem kf_PR_44 : Cond.fieldLink "PlaceRules" 44 "PlaceRules" "text" "LPlaceRules$Text;" ∈ gts := gt_2 122 rfl rfl
theorem kf_PR_51 : Cond.fieldLink "PlaceRules" 51 "PlaceRules" "question" "LPlaceRules$Question;" ∈ gts := gt_2 123 rfl rfl
theorem kf_PR_55 : Cond.fieldLink "PlaceRules" 55 "PlaceRules" "refusals" "[I" ∈ gts := gt_2 124 rfl rfl
theorem kf_PR_233 : Cond.fieldLink "PlaceRules" 233 "PlaceRules" "refusalCount" "I" ∈ gts := gt_2 125 rfl rfl
theorem km_LW_107 : Cond.methodLink "PlaceRulesLaw" 107 ⟨"PlaceRules", "sign", "(I)I"⟩ ∈ gts := gt_2 149 rfl rfl
theorem ki_PR_sign : Cond.instanceMethod ⟨"PlaceRules", "sign", "(I)I"⟩ ∈ gts := gt_2 150 rfl rfl
theorem ko_PR_sign : Cond.selects "PlaceRules" ⟨"PlaceRules", "sign", "(I)I"⟩ ⟨"PlaceRules", "sign", "(I)I"⟩ ∈ gts := gt_2 151 rfl rfl
theorem km_PR_159 : Cond.methodLink "PlaceRules" 159 ⟨"PlaceRules$Text", "collect", "(I)I"⟩ ∈ gts := gt_2 153 rfl rfl
theorem ki_TX_collect : Cond.instanceMethod ⟨"PlaceRules$Text", "collect", "(I)I"⟩ ∈ gts := gt_2 154 rfl rfl
theorem ko_TX_collect : Cond.selects "PlaceRules$Text" ⟨"PlaceRules$Text", "collect", "(I)I"⟩ ⟨"PlaceRules$Text", "collect", "(I)I"⟩ ∈ gts := gt_2 155 rfl rfl
theorem km_LW_111 : Cond.methodLink "PlaceRulesLaw" 111 ⟨"PlaceRules", "read", "()I"⟩ ∈ gts := gt_2 157 rfl rfl
theorem ki_PR_read : Cond.instanceMethod ⟨"PlaceRules", "read", "()I"⟩ ∈ gts := gt_2 158 rfl rfl
theorem ko_PR_read : Cond.selects "PlaceRules" ⟨"PlaceRules", "read", "()I"⟩ ⟨"PlaceRules", "read", "()I"⟩ ∈ gts := gt_2 159 rfl rfl
theorem km_PR_150 : Cond.methodLink "PlaceRules" 150 ⟨"PlaceRules$RuleBook", "room", "()I"⟩ ∈ gts := gt_2 161 rfl rfl
theorem ki_RB_room : Cond.instanceMethod ⟨"PlaceRules$RuleBook", "room", "()I"⟩ ∈ gts := gt_2 162 rfl rfl
theorem ko_RB_room : Cond.selects "PlaceRules$RuleBook" ⟨"PlaceRules$RuleBook", "room", "()I"⟩ ⟨"PlaceRules$RuleBook", "room", "()I"⟩ ∈ gts := gt_2 163 rfl rfl
theorem km_PR_163 : Cond.methodLink "PlaceRules" 163 ⟨"PlaceRules$Text", "readLines", "(I)I"⟩ ∈ gts := gt_2 165 rfl rfl
theorem ki_TX_readLines : Cond.instanceMethod ⟨"PlaceRules$Text", "readLines", "(I)I"⟩ ∈ gts := gt_2 166 rfl rfl
theorem ko_TX_readLines : Cond.selects "PlaceRules$Text" ⟨"PlaceRules$Text", "readLines", "(I)I"⟩ ⟨"PlaceRules$Text", "readLines", "(I)I"⟩ ∈ gts := gt_2 167 rfl rfl
theorem km_TX_38 : Cond.methodLink "PlaceRules$Text" 38 ⟨"PlaceRules$Text", "readLine", "(LPlaceRules$Rule;)Z"⟩ ∈ gts := gt_2 169 rfl rfl
theorem ki_TX_readLine : Cond.instanceMethod ⟨"PlaceRules$Text", "readLine", "(LPlaceRules$Rule;)Z"⟩ ∈ gts := gt_2 171 rfl rfl
theorem km_TX_45 : Cond.methodLink "PlaceRules$Text" 45 ⟨"PlaceRules$Text", "readNumber", "(II)Z"⟩ ∈ gts := gt_2 173 rfl rfl
theorem ki_TX_readNumber : Cond.instanceMethod ⟨"PlaceRules$Text", "readNumber", "(II)Z"⟩ ∈ gts := gt_2 175 rfl rfl
theorem km_TX_89 : Cond.methodLink "PlaceRules$Text" 89 ⟨"PlaceRules$Text", "nextSign", "()I"⟩ ∈ gts := gt_2 177 rfl rfl
theorem ki_TX_nextSign : Cond.instanceMethod ⟨"PlaceRules$Text", "nextSign", "()I"⟩ ∈ gts := gt_2 179 rfl rfl
theorem km_TX_92 : Cond.methodLink "PlaceRules$Text" 92 ⟨"PlaceRules$Text", "isDigit", "(I)Z"⟩ ∈ gts := gt_2 181 rfl rfl
theorem ks_TX_isDigit : Cond.static ⟨"PlaceRules$Text", "isDigit", "(I)Z"⟩ ∈ gts := gt_2 182 rfl rfl
theorem km_TX_95 : Cond.methodLink "PlaceRules$Text" 95 ⟨"PlaceRules$Text", "fail", "(I)Z"⟩ ∈ gts := gt_2 184 rfl rfl
theorem ki_TX_fail : Cond.instanceMethod ⟨"PlaceRules$Text", "fail", "(I)Z"⟩ ∈ gts := gt_2 186 rfl rfl
theorem km_TX_55 : Cond.methodLink "PlaceRules$Text" 55 ⟨"PlaceRules$Text", "readBlank", "()Z"⟩ ∈ gts := gt_2 188 rfl rfl
theorem ki_TX_readBlank : Cond.instanceMethod ⟨"PlaceRules$Text", "readBlank", "()Z"⟩ ∈ gts := gt_2 190 rfl rfl
theorem km_TX_85 : Cond.methodLink "PlaceRules$Text" 85 ⟨"PlaceRules$Text", "readSign", "(I)Z"⟩ ∈ gts := gt_2 192 rfl rfl
theorem ki_TX_readSign : Cond.instanceMethod ⟨"PlaceRules$Text", "readSign", "(I)Z"⟩ ∈ gts := gt_2 194 rfl rfl
theorem km_TX_59 : Cond.methodLink "PlaceRules$Text" 59 ⟨"PlaceRules$Text", "readKind", "()Z"⟩ ∈ gts := gt_2 196 rfl rfl
theorem ki_TX_readKind : Cond.instanceMethod ⟨"PlaceRules$Text", "readKind", "()Z"⟩ ∈ gts := gt_2 198 rfl rfl
theorem km_TX_106 : Cond.methodLink "PlaceRules$Text" 106 ⟨"PlaceRules$Text", "sharedSigns", "(Ljava/lang/String;)I"⟩ ∈ gts := gt_2 202 rfl rfl
theorem ki_TX_sharedSigns : Cond.instanceMethod ⟨"PlaceRules$Text", "sharedSigns", "(Ljava/lang/String;)I"⟩ ∈ gts := gt_2 204 rfl rfl
theorem km_TX_110 : Cond.methodLink "PlaceRules$Text" 110 ⟨"java/lang/String", "length", "()I"⟩ ∈ gts := gt_2 206 rfl rfl
theorem ki_java_lang_String_length : Cond.instanceMethod ⟨"java/lang/String", "length", "()I"⟩ ∈ gts := gt_2 207 rfl rfl
theorem ko_java_lang_String_length : Cond.selects "java/lang/String" ⟨"java/lang/String", "length", "()I"⟩ ⟨"java/lang/String", "length", "()I"⟩ ∈ gts := gt_2 208 rfl rfl
theorem km_java_lang_String_335 : Cond.methodLink "java/lang/String" 335 ⟨"java/lang/String", "coder", "()B"⟩ ∈ gts := gt_2 210 rfl rfl
theorem ki_java_lang_String_coder : Cond.instanceMethod ⟨"java/lang/String", "coder", "()B"⟩ ∈ gts := gt_2 211 rfl rfl
theorem ko_java_lang_String_coder : Cond.selects "java/lang/String" ⟨"java/lang/String", "coder", "()B"⟩ ⟨"java/lang/String", "coder", "()B"⟩ ∈ gts := gt_2 212 rfl rfl
theorem kf_java_lang_String_38 : Cond.fieldLink "java/lang/String" 38 "java/lang/String" "COMPACT_STRINGS" "Z" ∈ gts := gt_2 214 rfl rfl
theorem km_TX_115 : Cond.methodLink "PlaceRules$Text" 115 ⟨"java/lang/String", "charAt", "(I)C"⟩ ∈ gts := gt_2 216 rfl rfl
theorem ki_java_lang_String_charAt : Cond.instanceMethod ⟨"java/lang/String", "charAt", "(I)C"⟩ ∈ gts := gt_2 217 rfl rfl
theorem ko_java_lang_String_charAt : Cond.selects "java/lang/String" ⟨"java/lang/String", "charAt", "(I)C"⟩ ⟨"java/lang/String", "charAt", "(I)C"⟩ ∈ gts := gt_2 218 rfl rfl
theorem km_java_lang_String_492 : Cond.methodLink "java/lang/String" 492 ⟨"java/lang/String", "isLatin1", "()Z"⟩ ∈ gts := gt_2 220 rfl rfl
theorem ki_java_lang_String_isLatin1 : Cond.instanceMethod ⟨"java/lang/String", "isLatin1", "()Z"⟩ ∈ gts := gt_2 221 rfl rfl
theorem ko_java_lang_String_isLatin1 : Cond.selects "java/lang/String" ⟨"java/lang/String", "isLatin1", "()Z"⟩ ⟨"java/lang/String", "isLatin1", "()Z"⟩ ∈ gts := gt_2 222 rfl rfl
theorem km_java_lang_String_495 : Cond.methodLink "java/lang/String" 495 ⟨"java/lang/StringLatin1", "charAt", "([BI)C"⟩ ∈ gts := gt_2 224 rfl rfl
theorem ks_java_lang_StringLatin1_charAt : Cond.static ⟨"java/lang/StringLatin1", "charAt", "([BI)C"⟩ ∈ gts := gt_2 225 rfl rfl
theorem km_java_lang_StringLatin1_9 : Cond.methodLink "java/lang/StringLatin1" 9 ⟨"java/lang/String", "checkIndex", "(II)V"⟩ ∈ gts := gt_2 227 rfl rfl
theorem ks_java_lang_String_checkIndex : Cond.static ⟨"java/lang/String", "checkIndex", "(II)V"⟩ ∈ gts := gt_2 228 rfl rfl
theorem kf_java_lang_String_1053 : Cond.fieldLink "java/lang/String" 1053 "jdk/internal/util/Preconditions" "SIOOBE_FORMATTER" "Ljava/util/function/BiFunction;" ∈ gts := gt_2 230 rfl rfl
theorem km_java_lang_String_1059 : Cond.methodLink "java/lang/String" 1059 ⟨"jdk/internal/util/Preconditions", "checkIndex", "(IILjava/util/function/BiFunction;)I"⟩ ∈ gts := gt_2 232 rfl rfl
theorem ks_jdk_internal_util_Preconditions_checkIndex : Cond.static ⟨"jdk/internal/util/Preconditions", "checkIndex", "(IILjava/util/function/BiFunction;)I"⟩ ∈ gts := gt_2 233 rfl rfl
theorem km_java_lang_String_498 : Cond.methodLink "java/lang/String" 498 ⟨"java/lang/StringUTF16", "charAt", "([BI)C"⟩ ∈ gts := gt_2 235 rfl rfl
theorem ks_java_lang_StringUTF16_charAt : Cond.static ⟨"java/lang/StringUTF16", "charAt", "([BI)C"⟩ ∈ gts := gt_2 236 rfl rfl
theorem km_java_lang_StringUTF16_67 : Cond.methodLink "java/lang/StringUTF16" 67 ⟨"java/lang/StringUTF16", "checkIndex", "(I[B)V"⟩ ∈ gts := gt_2 238 rfl rfl
theorem ks_java_lang_StringUTF16_checkIndex : Cond.static ⟨"java/lang/StringUTF16", "checkIndex", "(I[B)V"⟩ ∈ gts := gt_2 239 rfl rfl
theorem km_java_lang_StringUTF16_48 : Cond.methodLink "java/lang/StringUTF16" 48 ⟨"java/lang/StringUTF16", "length", "([B)I"⟩ ∈ gts := gt_3 1 rfl rfl
theorem ks_java_lang_StringUTF16_length : Cond.static ⟨"java/lang/StringUTF16", "length", "([B)I"⟩ ∈ gts := gt_3 2 rfl rfl
theorem km_java_lang_StringUTF16_414 : Cond.methodLink "java/lang/StringUTF16" 414 ⟨"java/lang/String", "checkIndex", "(II)V"⟩ ∈ gts := gt_3 4 rfl rfl
theorem km_java_lang_StringUTF16_71 : Cond.methodLink "java/lang/StringUTF16" 71 ⟨"java/lang/StringUTF16", "getChar", "([BI)C"⟩ ∈ gts := gt_3 5 rfl rfl
theorem ks_java_lang_StringUTF16_getChar : Cond.static ⟨"java/lang/StringUTF16", "getChar", "([BI)C"⟩ ∈ gts := gt_3 6 rfl rfl
theorem kf_java_lang_StringUTF16_44 : Cond.fieldLink "java/lang/StringUTF16" 44 "java/lang/StringUTF16" "$assertionsDisabled" "Z" ∈ gts := gt_3 8 rfl rfl
theorem kf_java_lang_StringUTF16_59 : Cond.fieldLink "java/lang/StringUTF16" 59 "java/lang/StringUTF16" "HI_BYTE_SHIFT" "I" ∈ gts := gt_3 10 rfl rfl
theorem kf_java_lang_StringUTF16_63 : Cond.fieldLink "java/lang/StringUTF16" 63 "java/lang/StringUTF16" "LO_BYTE_SHIFT" "I" ∈ gts := gt_3 12 rfl rfl
theorem km_TX_75 : Cond.methodLink "PlaceRules$Text" 75 ⟨"PlaceRules$Kind", "hasSecond", "()Z"⟩ ∈ gts := gt_3 14 rfl rfl
theorem ki_KD_hasSecond : Cond.instanceMethod ⟨"PlaceRules$Kind", "hasSecond", "()Z"⟩ ∈ gts := gt_3 15 rfl rfl
theorem ko_KD_hasSecond : Cond.selects "PlaceRules$Kind" ⟨"PlaceRules$Kind", "hasSecond", "()Z"⟩ ⟨"PlaceRules$Kind", "hasSecond", "()Z"⟩ ∈ gts := gt_3 16 rfl rfl
theorem km_TX_78 : Cond.methodLink "PlaceRules$Text" 78 ⟨"PlaceRules$Kind", "leastSecond", "()I"⟩ ∈ gts := gt_3 18 rfl rfl
theorem ki_KD_leastSecond : Cond.instanceMethod ⟨"PlaceRules$Kind", "leastSecond", "()I"⟩ ∈ gts := gt_3 19 rfl rfl
theorem ko_KD_leastSecond : Cond.selects "PlaceRules$Kind" ⟨"PlaceRules$Kind", "leastSecond", "()I"⟩ ⟨"PlaceRules$Kind", "leastSecond", "()I"⟩ ∈ gts := gt_3 20 rfl rfl
theorem km_KD_70 : Cond.methodLink "PlaceRules$Kind" 70 ⟨"PlaceRules$Kind", "hasSecond", "()Z"⟩ ∈ gts := gt_3 22 rfl rfl
theorem km_TX_82 : Cond.methodLink "PlaceRules$Text" 82 ⟨"PlaceRules$Kind", "mostSecond", "()I"⟩ ∈ gts := gt_3 23 rfl rfl
theorem ki_KD_mostSecond : Cond.instanceMethod ⟨"PlaceRules$Kind", "mostSecond", "()I"⟩ ∈ gts := gt_3 24 rfl rfl
theorem ko_KD_mostSecond : Cond.selects "PlaceRules$Kind" ⟨"PlaceRules$Kind", "mostSecond", "()I"⟩ ⟨"PlaceRules$Kind", "mostSecond", "()I"⟩ ∈ gts := gt_3 25 rfl rfl
theorem km_PR_155 : Cond.methodLink "PlaceRules" 155 ⟨"PlaceRules$RuleBook", "addRule", "(ILPlaceRules$Kind;II)I"⟩ ∈ gts := gt_3 27 rfl rfl
theorem ki_RB_addRule : Cond.instanceMethod ⟨"PlaceRules$RuleBook", "addRule", "(ILPlaceRules$Kind;II)I"⟩ ∈ gts := gt_3 28 rfl rfl
theorem ko_RB_addRule : Cond.selects "PlaceRules$RuleBook" ⟨"PlaceRules$RuleBook", "addRule", "(ILPlaceRules$Kind;II)I"⟩ ⟨"PlaceRules$RuleBook", "addRule", "(ILPlaceRules$Kind;II)I"⟩ ∈ gts := gt_3 29 rfl rfl
theorem km_RB_45 : Cond.methodLink "PlaceRules$RuleBook" 45 ⟨"PlaceRules$RuleBook", "noteClashes", "(I)V"⟩ ∈ gts := gt_3 31 rfl rfl
theorem ki_RB_noteClashes : Cond.instanceMethod ⟨"PlaceRules$RuleBook", "noteClashes", "(I)V"⟩ ∈ gts := gt_3 33 rfl rfl
theorem km_RB_49 : Cond.methodLink "PlaceRules$RuleBook" 49 ⟨"PlaceRules$RuleBook", "insertInOrder", "(I)V"⟩ ∈ gts := gt_3 35 rfl rfl
theorem ki_RB_insertInOrder : Cond.instanceMethod ⟨"PlaceRules$RuleBook", "insertInOrder", "(I)V"⟩ ∈ gts := gt_3 37 rfl rfl
theorem km_PR_185 : Cond.methodLink "PlaceRules" 185 ⟨"PlaceRules$Text", "forget", "()V"⟩ ∈ gts := gt_3 39 rfl rfl
theorem ki_TX_forget : Cond.instanceMethod ⟨"PlaceRules$Text", "forget", "()V"⟩ ∈ gts := gt_3 40 rfl rfl
theorem ko_TX_forget : Cond.selects "PlaceRules$Text" ⟨"PlaceRules$Text", "forget", "()V"⟩ ⟨"PlaceRules$Text", "forget", "()V"⟩ ∈ gts := gt_3 41 rfl rfl
theorem km_LW_149 : Cond.methodLink "PlaceRulesLaw" 149 ⟨"PlaceRules", "count", "(I)I"⟩ ∈ gts := gt_3 43 rfl rfl
theorem ki_PR_count : Cond.instanceMethod ⟨"PlaceRules", "count", "(I)I"⟩ ∈ gts := gt_3 44 rfl rfl
theorem ko_PR_count : Cond.selects "PlaceRules" ⟨"PlaceRules", "count", "(I)I"⟩ ⟨"PlaceRules", "count", "(I)I"⟩ ∈ gts := gt_3 45 rfl rfl
theorem km_LW_78 : Cond.methodLink "PlaceRulesLaw" 78 ⟨"PlaceRulesLaw", "place", "(LPlaceRules;IIII)I"⟩ ∈ gts := gt_3 47 rfl rfl
theorem ks_LW_place : Cond.static ⟨"PlaceRulesLaw", "place", "(LPlaceRules;IIII)I"⟩ ∈ gts := gt_3 48 rfl rfl
theorem kk_LW_13 : Cond.classLink "PlaceRulesLaw" 13 "java/lang/IllegalArgumentException" ∈ gts := gt_3 50 rfl rfl
theorem km_LW_7 : Cond.methodLink "PlaceRulesLaw" 7 ⟨"PlaceRules", "place", "(IIII)V"⟩ ∈ gts := gt_3 51 rfl rfl
theorem ki_PR_place : Cond.instanceMethod ⟨"PlaceRules", "place", "(IIII)V"⟩ ∈ gts := gt_3 52 rfl rfl
theorem ko_PR_place : Cond.selects "PlaceRules" ⟨"PlaceRules", "place", "(IIII)V"⟩ ⟨"PlaceRules", "place", "(IIII)V"⟩ ∈ gts := gt_3 53 rfl rfl
theorem km_PR_62 : Cond.methodLink "PlaceRules" 62 ⟨"PlaceRules", "needPlace", "(I)V"⟩ ∈ gts := gt_3 55 rfl rfl
theorem ks_PR_needPlace : Cond.static ⟨"PlaceRules", "needPlace", "(I)V"⟩ ∈ gts := gt_3 56 rfl rfl
theorem km_PR_81 : Cond.methodLink "PlaceRules" 81 ⟨"PlaceRules", "needWithin", "(III)V"⟩ ∈ gts := gt_3 58 rfl rfl
theorem ks_PR_needWithin : Cond.static ⟨"PlaceRules", "needWithin", "(III)V"⟩ ∈ gts := gt_3 59 rfl rfl
theorem kk_PR_302 : Cond.classLink "PlaceRules" 302 "java/lang/IllegalArgumentException" ∈ gts := gt_3 61 rfl rfl
theorem kn_java_lang_IllegalArgumentException : Cond.instantiable "java/lang/IllegalArgumentException" 6 ∈ gts := gt_3 62 rfl rfl
theorem kf_java_lang_Throwable_198 : Cond.fieldLink "java/lang/Throwable" 198 "java/lang/Throwable" "backtrace" "Ljava/lang/Object;" ∈ gts := gt_3 82 rfl rfl
theorem ki_java_lang_Throwable_init : Cond.instanceMethod ⟨"java/lang/Throwable", "<init>", "()V"⟩ ∈ gts := gt_3 84 rfl rfl
theorem km_java_lang_Throwable_1 : Cond.methodLink "java/lang/Throwable" 1 ⟨"java/lang/Object", "<init>", "()V"⟩ ∈ gts := gt_3 86 rfl rfl
theorem kf_java_lang_Throwable_13 : Cond.fieldLink "java/lang/Throwable" 13 "java/lang/Throwable" "UNASSIGNED_STACK" "[Ljava/lang/StackTraceElement;" ∈ gts := gt_3 87 rfl rfl
theorem kf_java_lang_Throwable_20 : Cond.fieldLink "java/lang/Throwable" 20 "java/lang/Throwable" "SUPPRESSED_SENTINEL" "Ljava/util/List;" ∈ gts := gt_3 89 rfl rfl
theorem km_java_lang_Throwable_27 : Cond.methodLink "java/lang/Throwable" 27 ⟨"java/lang/Throwable", "fillInStackTrace", "()Ljava/lang/Throwable;"⟩ ∈ gts := gt_3 91 rfl rfl
theorem ki_java_lang_Throwable_fillInStackTrace : Cond.instanceMethod ⟨"java/lang/Throwable", "fillInStackTrace", "()Ljava/lang/Throwable;"⟩ ∈ gts := gt_3 92 rfl rfl
theorem km_java_lang_Throwable_202 : Cond.methodLink "java/lang/Throwable" 202 ⟨"java/lang/Throwable", "fillInStackTrace", "(I)Ljava/lang/Throwable;"⟩ ∈ gts := gt_3 98 rfl rfl
theorem ki_java_lang_Throwable_fillInStackTrace2 : Cond.instanceMethod ⟨"java/lang/Throwable", "fillInStackTrace", "(I)Ljava/lang/Throwable;"⟩ ∈ gts := gt_3 100 rfl rfl
theorem kn_java_lang_Throwable : Cond.instantiable "java/lang/Throwable" 6 ∈ gts := gt_3 101 rfl rfl
theorem km_PR_306 : Cond.methodLink "PlaceRules" 306 ⟨"java/lang/IllegalArgumentException", "<init>", "(Ljava/lang/String;)V"⟩ ∈ gts := gt_3 104 rfl rfl
theorem ki_java_lang_IllegalArgumentException_init : Cond.instanceMethod ⟨"java/lang/IllegalArgumentException", "<init>", "(Ljava/lang/String;)V"⟩ ∈ gts := gt_3 105 rfl rfl
theorem km_java_lang_IllegalArgumentException_7 : Cond.methodLink "java/lang/IllegalArgumentException" 7 ⟨"java/lang/RuntimeException", "<init>", "(Ljava/lang/String;)V"⟩ ∈ gts := gt_3 107 rfl rfl
theorem ki_java_lang_RuntimeException_init : Cond.instanceMethod ⟨"java/lang/RuntimeException", "<init>", "(Ljava/lang/String;)V"⟩ ∈ gts := gt_3 108 rfl rfl
theorem km_java_lang_RuntimeException_7 : Cond.methodLink "java/lang/RuntimeException" 7 ⟨"java/lang/Exception", "<init>", "(Ljava/lang/String;)V"⟩ ∈ gts := gt_3 110 rfl rfl
theorem ki_java_lang_Exception_init : Cond.instanceMethod ⟨"java/lang/Exception", "<init>", "(Ljava/lang/String;)V"⟩ ∈ gts := gt_3 111 rfl rfl
theorem km_java_lang_Exception_7 : Cond.methodLink "java/lang/Exception" 7 ⟨"java/lang/Throwable", "<init>", "(Ljava/lang/String;)V"⟩ ∈ gts := gt_3 113 rfl rfl
theorem ki_java_lang_Throwable_init2 : Cond.instanceMethod ⟨"java/lang/Throwable", "<init>", "(Ljava/lang/String;)V"⟩ ∈ gts := gt_3 114 rfl rfl
theorem kf_java_lang_Throwable_31 : Cond.fieldLink "java/lang/Throwable" 31 "java/lang/Throwable" "detailMessage" "Ljava/lang/String;" ∈ gts := gt_3 117 rfl rfl
theorem kf_java_lang_Throwable_7 : Cond.fieldLink "java/lang/Throwable" 7 "java/lang/Throwable" "cause" "Ljava/lang/Throwable;" ∈ gts := gt_3 118 rfl rfl
theorem kf_java_lang_Throwable_17 : Cond.fieldLink "java/lang/Throwable" 17 "java/lang/Throwable" "stackTrace" "[Ljava/lang/StackTraceElement;" ∈ gts := gt_3 119 rfl rfl
theorem kf_java_lang_Throwable_24 : Cond.fieldLink "java/lang/Throwable" 24 "java/lang/Throwable" "suppressedExceptions" "Ljava/util/List;" ∈ gts := gt_3 120 rfl rfl
theorem ka_byte : Cond.arrayClass .byte ∈ gts := gt_3 129 rfl rfl
theorem km_PR_66 : Cond.methodLink "PlaceRules" 66 ⟨"PlaceRules", "needLengths", "(III)V"⟩ ∈ gts := gt_3 130 rfl rfl
theorem ks_PR_needLengths : Cond.static ⟨"PlaceRules", "needLengths", "(III)V"⟩ ∈ gts := gt_3 131 rfl rfl
theorem km_LW_88 : Cond.methodLink "PlaceRulesLaw" 88 ⟨"PlaceRulesLaw", "limit", "(LPlaceRules;III)I"⟩ ∈ gts := gt_3 133 rfl rfl
theorem ks_LW_limit : Cond.static ⟨"PlaceRulesLaw", "limit", "(LPlaceRules;III)I"⟩ ∈ gts := gt_3 134 rfl rfl
theorem km_LW_15 : Cond.methodLink "PlaceRulesLaw" 15 ⟨"PlaceRules", "limit", "(III)V"⟩ ∈ gts := gt_3 136 rfl rfl
theorem ki_PR_limit : Cond.instanceMethod ⟨"PlaceRules", "limit", "(III)V"⟩ ∈ gts := gt_3 137 rfl rfl
theorem ko_PR_limit : Cond.selects "PlaceRules" ⟨"PlaceRules", "limit", "(III)V"⟩ ⟨"PlaceRules", "limit", "(III)V"⟩ ∈ gts := gt_3 138 rfl rfl
theorem kv_PR_80 : Cond.constant "PlaceRules" 80 (10000000) ∈ gts := gt_3 140 rfl rfl
theorem km_LW_92 : Cond.methodLink "PlaceRulesLaw" 92 ⟨"PlaceRulesLaw", "unit", "(LPlaceRules;III[J)I"⟩ ∈ gts := gt_3 141 rfl rfl
theorem ks_LW_unit : Cond.static ⟨"PlaceRulesLaw", "unit", "(LPlaceRules;III[J)I"⟩ ∈ gts := gt_3 142 rfl rfl
theorem kk_LW_23 : Cond.classLink "PlaceRulesLaw" 23 "java/lang/UnsupportedOperationException" ∈ gts := gt_3 144 rfl rfl
theorem km_LW_19 : Cond.methodLink "PlaceRulesLaw" 19 ⟨"PlaceRules", "unit", "(III)I"⟩ ∈ gts := gt_3 145 rfl rfl
theorem ki_PR_unit : Cond.instanceMethod ⟨"PlaceRules", "unit", "(III)I"⟩ ∈ gts := gt_3 146 rfl rfl
theorem ko_PR_unit : Cond.selects "PlaceRules" ⟨"PlaceRules", "unit", "(III)I"⟩ ⟨"PlaceRules", "unit", "(III)I"⟩ ∈ gts := gt_3 147 rfl rfl
theorem kk_PR_93 : Cond.classLink "PlaceRules" 93 "java/lang/UnsupportedOperationException" ∈ gts := gt_3 149 rfl rfl
theorem kn_java_lang_UnsupportedOperationException : Cond.instantiable "java/lang/UnsupportedOperationException" 6 ∈ gts := gt_3 150 rfl rfl
theorem km_PR_97 : Cond.methodLink "PlaceRules" 97 ⟨"java/lang/UnsupportedOperationException", "<init>", "(Ljava/lang/String;)V"⟩ ∈ gts := gt_3 159 rfl rfl
theorem ki_java_lang_UnsupportedOperationException_init : Cond.instanceMethod ⟨"java/lang/UnsupportedOperationException", "<init>", "(Ljava/lang/String;)V"⟩ ∈ gts := gt_3 160 rfl rfl
theorem km_java_lang_UnsupportedOperationException_7 : Cond.methodLink "java/lang/UnsupportedOperationException" 7 ⟨"java/lang/RuntimeException", "<init>", "(Ljava/lang/String;)V"⟩ ∈ gts := gt_3 162 rfl rfl
theorem km_LW_96 : Cond.methodLink "PlaceRulesLaw" 96 ⟨"PlaceRulesLaw", "size", "(LPlaceRules;IIIII)I"⟩ ∈ gts := gt_3 165 rfl rfl
theorem ks_LW_size : Cond.static ⟨"PlaceRulesLaw", "size", "(LPlaceRules;IIIII)I"⟩ ∈ gts := gt_3 166 rfl rfl
theorem kk_LW_29 : Cond.classLink "PlaceRulesLaw" 29 "java/util/NoSuchElementException" ∈ gts := gt_3 168 rfl rfl
theorem kk_LW_31 : Cond.classLink "PlaceRulesLaw" 31 "java/lang/IllegalStateException" ∈ gts := gt_3 169 rfl rfl
theorem km_LW_25 : Cond.methodLink "PlaceRulesLaw" 25 ⟨"PlaceRules", "size", "(IIIII)V"⟩ ∈ gts := gt_3 170 rfl rfl
theorem ki_PR_size : Cond.instanceMethod ⟨"PlaceRules", "size", "(IIIII)V"⟩ ∈ gts := gt_3 171 rfl rfl
theorem ko_PR_size : Cond.selects "PlaceRules" ⟨"PlaceRules", "size", "(IIIII)V"⟩ ⟨"PlaceRules", "size", "(IIIII)V"⟩ ∈ gts := gt_3 172 rfl rfl
theorem km_PR_109 : Cond.methodLink "PlaceRules" 109 ⟨"PlaceRules", "needUnit", "(I)V"⟩ ∈ gts := gt_3 174 rfl rfl
theorem ki_PR_needUnit : Cond.instanceMethod ⟨"PlaceRules", "needUnit", "(I)V"⟩ ∈ gts := gt_3 176 rfl rfl
theorem kk_PR_194 : Cond.classLink "PlaceRules" 194 "java/util/NoSuchElementException" ∈ gts := gt_3 178 rfl rfl
theorem kn_java_util_NoSuchElementException : Cond.instantiable "java/util/NoSuchElementException" 6 ∈ gts := gt_3 179 rfl rfl
theorem km_PR_198 : Cond.methodLink "PlaceRules" 198 ⟨"java/util/NoSuchElementException", "<init>", "(Ljava/lang/String;)V"⟩ ∈ gts := gt_3 188 rfl rfl
theorem ki_java_util_NoSuchElementException_init : Cond.instanceMethod ⟨"java/util/NoSuchElementException", "<init>", "(Ljava/lang/String;)V"⟩ ∈ gts := gt_3 189 rfl rfl
theorem km_java_util_NoSuchElementException_13 : Cond.methodLink "java/util/NoSuchElementException" 13 ⟨"java/lang/RuntimeException", "<init>", "(Ljava/lang/String;)V"⟩ ∈ gts := gt_3 191 rfl rfl
theorem kv_PR_112 : Cond.constant "PlaceRules" 112 (1000000) ∈ gts := gt_3 194 rfl rfl
theorem km_PR_113 : Cond.methodLink "PlaceRules" 113 ⟨"PlaceRules", "needNowhere", "(I)V"⟩ ∈ gts := gt_3 195 rfl rfl
theorem ki_PR_needNowhere : Cond.instanceMethod ⟨"PlaceRules", "needNowhere", "(I)V"⟩ ∈ gts := gt_3 197 rfl rfl
theorem kk_PR_237 : Cond.classLink "PlaceRules" 237 "java/lang/IllegalStateException" ∈ gts := gt_3 199 rfl rfl
theorem kn_java_lang_IllegalStateException : Cond.instantiable "java/lang/IllegalStateException" 6 ∈ gts := gt_3 200 rfl rfl
theorem km_PR_241 : Cond.methodLink "PlaceRules" 241 ⟨"java/lang/IllegalStateException", "<init>", "(Ljava/lang/String;)V"⟩ ∈ gts := gt_3 209 rfl rfl
theorem ki_java_lang_IllegalStateException_init : Cond.instanceMethod ⟨"java/lang/IllegalStateException", "<init>", "(Ljava/lang/String;)V"⟩ ∈ gts := gt_3 210 rfl rfl
theorem km_java_lang_IllegalStateException_7 : Cond.methodLink "java/lang/IllegalStateException" 7 ⟨"java/lang/RuntimeException", "<init>", "(Ljava/lang/String;)V"⟩ ∈ gts := gt_3 212 rfl rfl
theorem km_LW_100 : Cond.methodLink "PlaceRulesLaw" 100 ⟨"PlaceRulesLaw", "nature", "(LPlaceRules;IIII)I"⟩ ∈ gts := gt_3 215 rfl rfl
theorem ks_LW_nature : Cond.static ⟨"PlaceRulesLaw", "nature", "(LPlaceRules;IIII)I"⟩ ∈ gts := gt_3 216 rfl rfl
theorem km_LW_33 : Cond.methodLink "PlaceRulesLaw" 33 ⟨"PlaceRules", "nature", "(IIII)V"⟩ ∈ gts := gt_3 218 rfl rfl
theorem ki_PR_nature : Cond.instanceMethod ⟨"PlaceRules", "nature", "(IIII)V"⟩ ∈ gts := gt_3 219 rfl rfl
theorem ko_PR_nature : Cond.selects "PlaceRules" ⟨"PlaceRules", "nature", "(IIII)V"⟩ ⟨"PlaceRules", "nature", "(IIII)V"⟩ ∈ gts := gt_3 220 rfl rfl
theorem km_LW_103 : Cond.methodLink "PlaceRulesLaw" 103 ⟨"PlaceRulesLaw", "rule", "(LPlaceRules;IIII[J)I"⟩ ∈ gts := gt_3 222 rfl rfl
theorem ks_LW_rule : Cond.static ⟨"PlaceRulesLaw", "rule", "(LPlaceRules;IIII[J)I"⟩ ∈ gts := gt_3 223 rfl rfl
theorem km_LW_36 : Cond.methodLink "PlaceRulesLaw" 36 ⟨"PlaceRules", "rule", "(IIII)I"⟩ ∈ gts := gt_3 225 rfl rfl
theorem ki_PR_rule : Cond.instanceMethod ⟨"PlaceRules", "rule", "(IIII)I"⟩ ∈ gts := gt_3 226 rfl rfl
theorem ko_PR_rule : Cond.selects "PlaceRules" ⟨"PlaceRules", "rule", "(IIII)I"⟩ ⟨"PlaceRules", "rule", "(IIII)I"⟩ ∈ gts := gt_3 227 rfl rfl
theorem kf_PR_131 : Cond.fieldLink "PlaceRules" 131 "PlaceRules" "KINDS" "[LPlaceRules$Kind;" ∈ gts := gt_3 229 rfl rfl
theorem km_PR_143 : Cond.methodLink "PlaceRules" 143 ⟨"PlaceRules$Kind", "leastSecond", "()I"⟩ ∈ gts := gt_3 230 rfl rfl
theorem km_PR_147 : Cond.methodLink "PlaceRules" 147 ⟨"PlaceRules$Kind", "mostSecond", "()I"⟩ ∈ gts := gt_3 231 rfl rfl
theorem km_LW_115 : Cond.methodLink "PlaceRulesLaw" 115 ⟨"PlaceRulesLaw", "own", "(LPlaceRules;II)I"⟩ ∈ gts := gt_3 233 rfl rfl
theorem ks_LW_own : Cond.static ⟨"PlaceRulesLaw", "own", "(LPlaceRules;II)I"⟩ ∈ gts := gt_3 234 rfl rfl
theorem km_LW_40 : Cond.methodLink "PlaceRulesLaw" 40 ⟨"PlaceRules", "own", "(II)V"⟩ ∈ gts := gt_3 236 rfl rfl
theorem ki_PR_own : Cond.instanceMethod ⟨"PlaceRules", "own", "(II)V"⟩ ∈ gts := gt_3 237 rfl rfl
theorem ko_PR_own : Cond.selects "PlaceRules" ⟨"PlaceRules", "own", "(II)V"⟩ ⟨"PlaceRules", "own", "(II)V"⟩ ∈ gts := gt_3 238 rfl rfl
theorem km_LW_119 : Cond.methodLink "PlaceRulesLaw" 119 ⟨"PlaceRulesLaw", "except", "(LPlaceRules;IIII)I"⟩ ∈ gts := gt_4 0 rfl rfl
theorem ks_LW_except : Cond.static ⟨"PlaceRulesLaw", "except", "(LPlaceRules;IIII)I"⟩ ∈ gts := gt_4 1 rfl rfl
theorem km_LW_44 : Cond.methodLink "PlaceRulesLaw" 44 ⟨"PlaceRules", "except", "(IIII)V"⟩ ∈ gts := gt_4 3 rfl rfl
theorem ki_PR_except : Cond.instanceMethod ⟨"PlaceRules", "except", "(IIII)V"⟩ ∈ gts := gt_4 4 rfl rfl
theorem ko_PR_except : Cond.selects "PlaceRules" ⟨"PlaceRules", "except", "(IIII)V"⟩ ⟨"PlaceRules", "except", "(IIII)V"⟩ ∈ gts := gt_4 5 rfl rfl
theorem km_PR_199 : Cond.methodLink "PlaceRules" 199 ⟨"PlaceRules", "findWaiver", "(III)I"⟩ ∈ gts := gt_4 8 rfl rfl
theorem ki_PR_findWaiver : Cond.instanceMethod ⟨"PlaceRules", "findWaiver", "(III)I"⟩ ∈ gts := gt_4 10 rfl rfl
theorem km_PR_206 : Cond.methodLink "PlaceRules" 206 ⟨"java/lang/Math", "max", "(II)I"⟩ ∈ gts := gt_4 12 rfl rfl
theorem ks_java_lang_Math_max : Cond.static ⟨"java/lang/Math", "max", "(II)I"⟩ ∈ gts := gt_4 13 rfl rfl
theorem km_LW_122 : Cond.methodLink "PlaceRulesLaw" 122 ⟨"PlaceRulesLaw", "may", "(LPlaceRules;III[J)I"⟩ ∈ gts := gt_4 16 rfl rfl
theorem ks_LW_may : Cond.static ⟨"PlaceRulesLaw", "may", "(LPlaceRules;III[J)I"⟩ ∈ gts := gt_4 17 rfl rfl
theorem km_LW_47 : Cond.methodLink "PlaceRulesLaw" 47 ⟨"PlaceRules", "may", "(III)I"⟩ ∈ gts := gt_4 19 rfl rfl
theorem ki_PR_may : Cond.instanceMethod ⟨"PlaceRules", "may", "(III)I"⟩ ∈ gts := gt_4 20 rfl rfl
theorem ko_PR_may : Cond.selects "PlaceRules" ⟨"PlaceRules", "may", "(III)I"⟩ ⟨"PlaceRules", "may", "(III)I"⟩ ∈ gts := gt_4 21 rfl rfl
theorem km_PR_224 : Cond.methodLink "PlaceRules" 224 ⟨"PlaceRules", "needQuestion", "(III)V"⟩ ∈ gts := gt_4 23 rfl rfl
theorem ki_PR_needQuestion : Cond.instanceMethod ⟨"PlaceRules", "needQuestion", "(III)V"⟩ ∈ gts := gt_4 25 rfl rfl
theorem km_PR_227 : Cond.methodLink "PlaceRules" 227 ⟨"PlaceRules", "ask", "(III)I"⟩ ∈ gts := gt_4 27 rfl rfl
theorem ki_PR_ask : Cond.instanceMethod ⟨"PlaceRules", "ask", "(III)I"⟩ ∈ gts := gt_4 29 rfl rfl
theorem km_PR_266 : Cond.methodLink "PlaceRules" 266 ⟨"PlaceRules", "gather", "(III)V"⟩ ∈ gts := gt_4 31 rfl rfl
theorem ki_PR_gather : Cond.instanceMethod ⟨"PlaceRules", "gather", "(III)V"⟩ ∈ gts := gt_4 33 rfl rfl
theorem km_PR_287 : Cond.methodLink "PlaceRules" 287 ⟨"PlaceRules$Question", "begin", "(LPlaceRules$Unit;LPlaceRules$Place;I)V"⟩ ∈ gts := gt_4 35 rfl rfl
theorem ki_QU_begin : Cond.instanceMethod ⟨"PlaceRules$Question", "begin", "(LPlaceRules$Unit;LPlaceRules$Place;I)V"⟩ ∈ gts := gt_4 36 rfl rfl
theorem ko_QU_begin : Cond.selects "PlaceRules$Question" ⟨"PlaceRules$Question", "begin", "(LPlaceRules$Unit;LPlaceRules$Place;I)V"⟩ ⟨"PlaceRules$Question", "begin", "(LPlaceRules$Unit;LPlaceRules$Place;I)V"⟩ ∈ gts := gt_4 37 rfl rfl
theorem km_QU_31 : Cond.methodLink "PlaceRules$Question" 31 ⟨"PlaceRules$Place", "fits", "(LPlaceRules$Unit;I)Z"⟩ ∈ gts := gt_4 39 rfl rfl
theorem ki_PL_fits : Cond.instanceMethod ⟨"PlaceRules$Place", "fits", "(LPlaceRules$Unit;I)Z"⟩ ∈ gts := gt_4 40 rfl rfl
theorem ko_PL_fits : Cond.selects "PlaceRules$Place" ⟨"PlaceRules$Place", "fits", "(LPlaceRules$Unit;I)Z"⟩ ⟨"PlaceRules$Place", "fits", "(LPlaceRules$Unit;I)Z"⟩ ∈ gts := gt_4 41 rfl rfl
theorem km_PL_34 : Cond.methodLink "PlaceRules$Place" 34 ⟨"PlaceRules$Place", "holds", "(III)Z"⟩ ∈ gts := gt_4 43 rfl rfl
theorem ki_PL_holds : Cond.instanceMethod ⟨"PlaceRules$Place", "holds", "(III)Z"⟩ ∈ gts := gt_4 45 rfl rfl
theorem km_QU_41 : Cond.methodLink "PlaceRules$Question" 41 ⟨"PlaceRules$Place", "firstWayFor", "(LPlaceRules$Unit;)I"⟩ ∈ gts := gt_4 47 rfl rfl
theorem ki_PL_firstWayFor : Cond.instanceMethod ⟨"PlaceRules$Place", "firstWayFor", "(LPlaceRules$Unit;)I"⟩ ∈ gts := gt_4 48 rfl rfl
theorem ko_PL_firstWayFor : Cond.selects "PlaceRules$Place" ⟨"PlaceRules$Place", "firstWayFor", "(LPlaceRules$Unit;)I"⟩ ⟨"PlaceRules$Place", "firstWayFor", "(LPlaceRules$Unit;)I"⟩ ∈ gts := gt_4 49 rfl rfl
theorem km_PL_25 : Cond.methodLink "PlaceRules$Place" 25 ⟨"PlaceRules$Place", "fits", "(LPlaceRules$Unit;I)Z"⟩ ∈ gts := gt_4 51 rfl rfl
theorem km_QU_90 : Cond.methodLink "PlaceRules$Question" 90 ⟨"PlaceRules$NumberSet", "holdOnly", "(I)V"⟩ ∈ gts := gt_4 52 rfl rfl
theorem ki_NS_holdOnly : Cond.instanceMethod ⟨"PlaceRules$NumberSet", "holdOnly", "(I)V"⟩ ∈ gts := gt_4 53 rfl rfl
theorem ko_NS_holdOnly : Cond.selects "PlaceRules$NumberSet" ⟨"PlaceRules$NumberSet", "holdOnly", "(I)V"⟩ ⟨"PlaceRules$NumberSet", "holdOnly", "(I)V"⟩ ∈ gts := gt_4 54 rfl rfl
theorem km_NS_16 : Cond.methodLink "PlaceRules$NumberSet" 16 ⟨"PlaceRules$NumberSet", "clear", "()V"⟩ ∈ gts := gt_4 56 rfl rfl
theorem ki_NS_clear : Cond.instanceMethod ⟨"PlaceRules$NumberSet", "clear", "()V"⟩ ∈ gts := gt_4 57 rfl rfl
theorem ko_NS_clear : Cond.selects "PlaceRules$NumberSet" ⟨"PlaceRules$NumberSet", "clear", "()V"⟩ ⟨"PlaceRules$NumberSet", "clear", "()V"⟩ ∈ gts := gt_4 58 rfl rfl
theorem km_NS_19 : Cond.methodLink "PlaceRules$NumberSet" 19 ⟨"PlaceRules$NumberSet", "add", "(I)V"⟩ ∈ gts := gt_4 60 rfl rfl
theorem ki_NS_add : Cond.instanceMethod ⟨"PlaceRules$NumberSet", "add", "(I)V"⟩ ∈ gts := gt_4 61 rfl rfl
theorem ko_NS_add : Cond.selects "PlaceRules$NumberSet" ⟨"PlaceRules$NumberSet", "add", "(I)V"⟩ ⟨"PlaceRules$NumberSet", "add", "(I)V"⟩ ∈ gts := gt_4 62 rfl rfl
theorem km_QU_100 : Cond.methodLink "PlaceRules$Question" 100 ⟨"PlaceRules$NumberSet", "clear", "()V"⟩ ∈ gts := gt_4 64 rfl rfl
theorem km_PR_291 : Cond.methodLink "PlaceRules" 291 ⟨"PlaceRules$Question", "addOther", "(LPlaceRules$Unit;)V"⟩ ∈ gts := gt_4 65 rfl rfl
theorem ki_QU_addOther : Cond.instanceMethod ⟨"PlaceRules$Question", "addOther", "(LPlaceRules$Unit;)V"⟩ ∈ gts := gt_4 66 rfl rfl
theorem ko_QU_addOther : Cond.selects "PlaceRules$Question" ⟨"PlaceRules$Question", "addOther", "(LPlaceRules$Unit;)V"⟩ ⟨"PlaceRules$Question", "addOther", "(LPlaceRules$Unit;)V"⟩ ∈ gts := gt_4 67 rfl rfl
theorem km_QU_103 : Cond.methodLink "PlaceRules$Question" 103 ⟨"java/lang/Math", "min", "(II)I"⟩ ∈ gts := gt_4 69 rfl rfl
theorem ks_java_lang_Math_min : Cond.static ⟨"java/lang/Math", "min", "(II)I"⟩ ∈ gts := gt_4 70 rfl rfl
theorem km_QU_109 : Cond.methodLink "PlaceRules$Question" 109 ⟨"java/lang/Math", "max", "(II)I"⟩ ∈ gts := gt_4 72 rfl rfl
theorem km_QU_112 : Cond.methodLink "PlaceRules$Question" 112 ⟨"PlaceRules$NumberSet", "add", "(I)V"⟩ ∈ gts := gt_4 73 rfl rfl
theorem km_PR_275 : Cond.methodLink "PlaceRules" 275 ⟨"PlaceRules", "isWaived", "(IIII)Z"⟩ ∈ gts := gt_4 74 rfl rfl
theorem ki_PR_isWaived : Cond.instanceMethod ⟨"PlaceRules", "isWaived", "(IIII)Z"⟩ ∈ gts := gt_4 76 rfl rfl
theorem km_PR_295 : Cond.methodLink "PlaceRules" 295 ⟨"PlaceRules$Waiver", "covers", "(IIII)Z"⟩ ∈ gts := gt_4 78 rfl rfl
theorem ki_WV_covers : Cond.instanceMethod ⟨"PlaceRules$Waiver", "covers", "(IIII)Z"⟩ ∈ gts := gt_4 79 rfl rfl
theorem ko_WV_covers : Cond.selects "PlaceRules$Waiver" ⟨"PlaceRules$Waiver", "covers", "(IIII)Z"⟩ ⟨"PlaceRules$Waiver", "covers", "(IIII)Z"⟩ ∈ gts := gt_4 80 rfl rfl
theorem km_PR_279 : Cond.methodLink "PlaceRules" 279 ⟨"PlaceRules$Rule", "refuses", "(LPlaceRules$Question;LPlaceRules$OwnRules;)Z"⟩ ∈ gts := gt_4 82 rfl rfl
theorem ki_RU_refuses : Cond.instanceMethod ⟨"PlaceRules$Rule", "refuses", "(LPlaceRules$Question;LPlaceRules$OwnRules;)Z"⟩ ∈ gts := gt_4 83 rfl rfl
theorem ko_RU_refuses : Cond.selects "PlaceRules$Rule" ⟨"PlaceRules$Rule", "refuses", "(LPlaceRules$Question;LPlaceRules$OwnRules;)Z"⟩ ⟨"PlaceRules$Rule", "refuses", "(LPlaceRules$Question;LPlaceRules$OwnRules;)Z"⟩ ∈ gts := gt_4 84 rfl rfl
theorem kf_RU_18 : Cond.fieldLink "PlaceRules$Rule" 18 "PlaceRules$1" "$SwitchMap$PlaceRules$Kind" "[I" ∈ gts := gt_4 86 rfl rfl
theorem km_RU_24 : Cond.methodLink "PlaceRules$Rule" 24 ⟨"PlaceRules$Kind", "ordinal", "()I"⟩ ∈ gts := gt_4 88 rfl rfl
theorem ki_java_lang_Enum_ordinal : Cond.instanceMethod ⟨"java/lang/Enum", "ordinal", "()I"⟩ ∈ gts := gt_4 92 rfl rfl
theorem km_RU_54 : Cond.methodLink "PlaceRules$Rule" 54 ⟨"PlaceRules$NumberSet", "howMany", "()I"⟩ ∈ gts := gt_4 94 rfl rfl
theorem ki_NS_howMany : Cond.instanceMethod ⟨"PlaceRules$NumberSet", "howMany", "()I"⟩ ∈ gts := gt_4 95 rfl rfl
theorem ko_NS_howMany : Cond.selects "PlaceRules$NumberSet" ⟨"PlaceRules$NumberSet", "howMany", "()I"⟩ ⟨"PlaceRules$NumberSet", "howMany", "()I"⟩ ∈ gts := gt_4 96 rfl rfl
theorem km_NS_23 : Cond.methodLink "PlaceRules$NumberSet" 23 ⟨"java/lang/Long", "bitCount", "(J)I"⟩ ∈ gts := gt_4 98 rfl rfl
theorem ks_java_lang_Long_bitCount : Cond.static ⟨"java/lang/Long", "bitCount", "(J)I"⟩ ∈ gts := gt_4 99 rfl rfl
theorem kv_java_lang_Long_314 : Cond.constantLong "java/lang/Long" 314 (6148914691236517205) ∈ gts := gt_4 101 rfl rfl
theorem kv_java_lang_Long_316 : Cond.constantLong "java/lang/Long" 316 (3689348814741910323) ∈ gts := gt_4 102 rfl rfl
theorem kv_java_lang_Long_318 : Cond.constantLong "java/lang/Long" 318 (1085102592571150095) ∈ gts := gt_4 103 rfl rfl
theorem km_RU_68 : Cond.methodLink "PlaceRules$Rule" 68 ⟨"PlaceRules$Question", "meetsHazards", "(II)Z"⟩ ∈ gts := gt_4 104 rfl rfl
theorem ki_QU_meetsHazards : Cond.instanceMethod ⟨"PlaceRules$Question", "meetsHazards", "(II)Z"⟩ ∈ gts := gt_4 105 rfl rfl
theorem ko_QU_meetsHazards : Cond.selects "PlaceRules$Question" ⟨"PlaceRules$Question", "meetsHazards", "(II)Z"⟩ ⟨"PlaceRules$Question", "meetsHazards", "(II)Z"⟩ ∈ gts := gt_4 106 rfl rfl
theorem km_QU_115 : Cond.methodLink "PlaceRules$Question" 115 ⟨"PlaceRules$NumberSet", "has", "(I)Z"⟩ ∈ gts := gt_4 108 rfl rfl
theorem ki_NS_has : Cond.instanceMethod ⟨"PlaceRules$NumberSet", "has", "(I)Z"⟩ ∈ gts := gt_4 109 rfl rfl
theorem ko_NS_has : Cond.selects "PlaceRules$NumberSet" ⟨"PlaceRules$NumberSet", "has", "(I)Z"⟩ ⟨"PlaceRules$NumberSet", "has", "(I)Z"⟩ ∈ gts := gt_4 110 rfl rfl
theorem km_RU_93 : Cond.methodLink "PlaceRules$Rule" 93 ⟨"PlaceRules$OwnRules", "refuse", "(ILPlaceRules$Question;)Z"⟩ ∈ gts := gt_4 112 rfl rfl
theorem ki_OW_refuse : Cond.instanceMethod ⟨"PlaceRules$OwnRules", "refuse", "(ILPlaceRules$Question;)Z"⟩ ∈ gts := gt_4 113 rfl rfl
theorem ko_OW_refuse : Cond.selects "PlaceRules$OwnRules" ⟨"PlaceRules$OwnRules", "refuse", "(ILPlaceRules$Question;)Z"⟩ ⟨"PlaceRules$OwnRules", "refuse", "(ILPlaceRules$Question;)Z"⟩ ∈ gts := gt_4 114 rfl rfl
theorem km_LW_125 : Cond.methodLink "PlaceRulesLaw" 125 ⟨"PlaceRulesLaw", "explain", "(LPlaceRules;I[J)I"⟩ ∈ gts := gt_4 116 rfl rfl
theorem ks_LW_explain : Cond.static ⟨"PlaceRulesLaw", "explain", "(LPlaceRules;I[J)I"⟩ ∈ gts := gt_4 117 rfl rfl
theorem km_LW_50 : Cond.methodLink "PlaceRulesLaw" 50 ⟨"PlaceRules", "explain", "(I)I"⟩ ∈ gts := gt_4 119 rfl rfl
theorem ki_PR_explain : Cond.instanceMethod ⟨"PlaceRules", "explain", "(I)I"⟩ ∈ gts := gt_4 120 rfl rfl
theorem ko_PR_explain : Cond.selects "PlaceRules" ⟨"PlaceRules", "explain", "(I)I"⟩ ⟨"PlaceRules", "explain", "(I)I"⟩ ∈ gts := gt_4 121 rfl rfl
theorem km_PR_230 : Cond.methodLink "PlaceRules" 230 ⟨"PlaceRules", "needIndex", "(I)V"⟩ ∈ gts := gt_4 123 rfl rfl
theorem ks_PR_needIndex : Cond.static ⟨"PlaceRules", "needIndex", "(I)V"⟩ ∈ gts := gt_4 124 rfl rfl
theorem km_LW_129 : Cond.methodLink "PlaceRulesLaw" 129 ⟨"PlaceRulesLaw", "put", "(LPlaceRules;III[J)I"⟩ ∈ gts := gt_4 127 rfl rfl
theorem ks_LW_put : Cond.static ⟨"PlaceRulesLaw", "put", "(LPlaceRules;III[J)I"⟩ ∈ gts := gt_4 128 rfl rfl
theorem km_LW_54 : Cond.methodLink "PlaceRulesLaw" 54 ⟨"PlaceRules", "put", "(III)I"⟩ ∈ gts := gt_4 130 rfl rfl
theorem ki_PR_put : Cond.instanceMethod ⟨"PlaceRules", "put", "(III)I"⟩ ∈ gts := gt_4 131 rfl rfl
theorem ko_PR_put : Cond.selects "PlaceRules" ⟨"PlaceRules", "put", "(III)I"⟩ ⟨"PlaceRules", "put", "(III)I"⟩ ∈ gts := gt_4 132 rfl rfl
theorem km_LW_132 : Cond.methodLink "PlaceRulesLaw" 132 ⟨"PlaceRulesLaw", "take", "(LPlaceRules;I)I"⟩ ∈ gts := gt_4 135 rfl rfl
theorem ks_LW_take : Cond.static ⟨"PlaceRulesLaw", "take", "(LPlaceRules;I)I"⟩ ∈ gts := gt_4 136 rfl rfl
theorem km_LW_57 : Cond.methodLink "PlaceRulesLaw" 57 ⟨"PlaceRules", "take", "(I)V"⟩ ∈ gts := gt_4 138 rfl rfl
theorem ki_PR_take : Cond.instanceMethod ⟨"PlaceRules", "take", "(I)V"⟩ ∈ gts := gt_4 139 rfl rfl
theorem ko_PR_take : Cond.selects "PlaceRules" ⟨"PlaceRules", "take", "(I)V"⟩ ⟨"PlaceRules", "take", "(I)V"⟩ ∈ gts := gt_4 140 rfl rfl
theorem km_LW_136 : Cond.methodLink "PlaceRulesLaw" 136 ⟨"PlaceRulesLaw", "turned", "(LPlaceRules;II[J)I"⟩ ∈ gts := gt_4 143 rfl rfl
theorem ks_LW_turned : Cond.static ⟨"PlaceRulesLaw", "turned", "(LPlaceRules;II[J)I"⟩ ∈ gts := gt_4 144 rfl rfl
theorem km_LW_61 : Cond.methodLink "PlaceRulesLaw" 61 ⟨"PlaceRules", "turned", "(II)I"⟩ ∈ gts := gt_4 146 rfl rfl
theorem ki_PR_turned : Cond.instanceMethod ⟨"PlaceRules", "turned", "(II)I"⟩ ∈ gts := gt_4 147 rfl rfl
theorem ko_PR_turned : Cond.selects "PlaceRules" ⟨"PlaceRules", "turned", "(II)I"⟩ ⟨"PlaceRules", "turned", "(II)I"⟩ ∈ gts := gt_4 148 rfl rfl
theorem km_PR_244 : Cond.methodLink "PlaceRules" 244 ⟨"PlaceRules$Place", "firstWayFor", "(LPlaceRules$Unit;)I"⟩ ∈ gts := gt_4 150 rfl rfl
theorem km_LW_140 : Cond.methodLink "PlaceRulesLaw" 140 ⟨"PlaceRulesLaw", "never", "(LPlaceRules;I[J)I"⟩ ∈ gts := gt_4 151 rfl rfl
theorem ks_LW_never : Cond.static ⟨"PlaceRulesLaw", "never", "(LPlaceRules;I[J)I"⟩ ∈ gts := gt_4 152 rfl rfl
theorem km_LW_65 : Cond.methodLink "PlaceRulesLaw" 65 ⟨"PlaceRules", "never", "(I)I"⟩ ∈ gts := gt_4 154 rfl rfl
theorem ki_PR_never : Cond.instanceMethod ⟨"PlaceRules", "never", "(I)I"⟩ ∈ gts := gt_4 155 rfl rfl
theorem ko_PR_never : Cond.selects "PlaceRules" ⟨"PlaceRules", "never", "(I)I"⟩ ⟨"PlaceRules", "never", "(I)I"⟩ ∈ gts := gt_4 156 rfl rfl
theorem km_PR_248 : Cond.methodLink "PlaceRules" 248 ⟨"PlaceRules$RuleBook", "neverRefused", "(I)I"⟩ ∈ gts := gt_4 158 rfl rfl
theorem ki_RB_neverRefused : Cond.instanceMethod ⟨"PlaceRules$RuleBook", "neverRefused", "(I)I"⟩ ∈ gts := gt_4 159 rfl rfl
theorem ko_RB_neverRefused : Cond.selects "PlaceRules$RuleBook" ⟨"PlaceRules$RuleBook", "neverRefused", "(I)I"⟩ ⟨"PlaceRules$RuleBook", "neverRefused", "(I)I"⟩ ∈ gts := gt_4 160 rfl rfl
theorem km_LW_143 : Cond.methodLink "PlaceRulesLaw" 143 ⟨"PlaceRulesLaw", "clash", "(LPlaceRules;II[J)I"⟩ ∈ gts := gt_4 162 rfl rfl
theorem ks_LW_clash : Cond.static ⟨"PlaceRulesLaw", "clash", "(LPlaceRules;II[J)I"⟩ ∈ gts := gt_4 163 rfl rfl
theorem km_LW_68 : Cond.methodLink "PlaceRulesLaw" 68 ⟨"PlaceRules", "clash", "(II)I"⟩ ∈ gts := gt_4 165 rfl rfl
theorem ki_PR_clash : Cond.instanceMethod ⟨"PlaceRules", "clash", "(II)I"⟩ ∈ gts := gt_4 166 rfl rfl
theorem ko_PR_clash : Cond.selects "PlaceRules" ⟨"PlaceRules", "clash", "(II)I"⟩ ⟨"PlaceRules", "clash", "(II)I"⟩ ∈ gts := gt_4 167 rfl rfl
theorem km_LW_146 : Cond.methodLink "PlaceRulesLaw" 146 ⟨"PlaceRulesLaw", "at", "(LPlaceRules;II[J)I"⟩ ∈ gts := gt_4 169 rfl rfl
theorem ks_LW_at : Cond.static ⟨"PlaceRulesLaw", "at", "(LPlaceRules;II[J)I"⟩ ∈ gts := gt_4 170 rfl rfl
theorem km_LW_71 : Cond.methodLink "PlaceRulesLaw" 71 ⟨"PlaceRules", "at", "(II)I"⟩ ∈ gts := gt_4 172 rfl rfl
theorem ki_PR_at : Cond.instanceMethod ⟨"PlaceRules", "at", "(II)I"⟩ ∈ gts := gt_4 173 rfl rfl
theorem ko_PR_at : Cond.selects "PlaceRules" ⟨"PlaceRules", "at", "(II)I"⟩ ⟨"PlaceRules", "at", "(II)I"⟩ ∈ gts := gt_4 174 rfl rfl
theorem kk_LW_75 : Cond.classLink "PlaceRulesLaw" 75 "PlaceRulesModel" ∈ gts := gt_4 176 rfl rfl
theorem kn_MD : Cond.instantiable "PlaceRulesModel" 28 ∈ gts := gt_4 177 rfl rfl
theorem km_LW_77 : Cond.methodLink "PlaceRulesLaw" 77 ⟨"PlaceRulesModel", "<init>", "()V"⟩ ∈ gts := gt_4 178 rfl rfl
theorem ki_MD_init : Cond.instanceMethod ⟨"PlaceRulesModel", "<init>", "()V"⟩ ∈ gts := gt_4 179 rfl rfl
theorem km_MD_1 : Cond.methodLink "PlaceRulesModel" 1 ⟨"java/lang/Object", "<init>", "()V"⟩ ∈ gts := gt_4 181 rfl rfl
theorem kv_MD_62 : Cond.constant "PlaceRulesModel" 62 (100000) ∈ gts := gt_4 182 rfl rfl
theorem kf_MD_63 : Cond.fieldLink "PlaceRulesModel" 63 "PlaceRulesModel" "thrown" "I" ∈ gts := gt_4 183 rfl rfl
theorem kf_MD_7 : Cond.fieldLink "PlaceRulesModel" 7 "PlaceRulesModel" "places" "[I" ∈ gts := gt_4 184 rfl rfl
theorem kf_MD_83 : Cond.fieldLink "PlaceRulesModel" 83 "PlaceRulesModel" "units" "I" ∈ gts := gt_4 185 rfl rfl
theorem kf_MD_13 : Cond.fieldLink "PlaceRulesModel" 13 "PlaceRulesModel" "things" "[I" ∈ gts := gt_4 186 rfl rfl
theorem kf_MD_16 : Cond.fieldLink "PlaceRulesModel" 16 "PlaceRulesModel" "stands" "[I" ∈ gts := gt_4 187 rfl rfl
theorem kf_MD_94 : Cond.fieldLink "PlaceRulesModel" 94 "PlaceRulesModel" "rules" "I" ∈ gts := gt_4 188 rfl rfl
theorem kf_MD_19 : Cond.fieldLink "PlaceRulesModel" 19 "PlaceRulesModel" "ranks" "[I" ∈ gts := gt_4 189 rfl rfl
theorem kf_MD_22 : Cond.fieldLink "PlaceRulesModel" 22 "PlaceRulesModel" "kinds" "[I" ∈ gts := gt_4 190 rfl rfl
theorem kf_MD_25 : Cond.fieldLink "PlaceRulesModel" 25 "PlaceRulesModel" "firsts" "[I" ∈ gts := gt_4 191 rfl rfl
theorem kf_MD_28 : Cond.fieldLink "PlaceRulesModel" 28 "PlaceRulesModel" "seconds" "[I" ∈ gts := gt_4 192 rfl rfl
theorem kf_MD_31 : Cond.fieldLink "PlaceRulesModel" 31 "PlaceRulesModel" "refused" "[Z" ∈ gts := gt_4 193 rfl rfl
theorem kf_MD_156 : Cond.fieldLink "PlaceRulesModel" 156 "PlaceRulesModel" "exceptions" "I" ∈ gts := gt_4 194 rfl rfl
theorem kf_MD_35 : Cond.fieldLink "PlaceRulesModel" 35 "PlaceRulesModel" "rulesOf" "[I" ∈ gts := gt_4 195 rfl rfl
theorem kf_MD_38 : Cond.fieldLink "PlaceRulesModel" 38 "PlaceRulesModel" "placesOf" "[I" ∈ gts := gt_4 196 rfl rfl
theorem kf_MD_41 : Cond.fieldLink "PlaceRulesModel" 41 "PlaceRulesModel" "ownersOf" "[I" ∈ gts := gt_4 197 rfl rfl
theorem kf_MD_44 : Cond.fieldLink "PlaceRulesModel" 44 "PlaceRulesModel" "untils" "[I" ∈ gts := gt_4 198 rfl rfl
theorem kf_MD_47 : Cond.fieldLink "PlaceRulesModel" 47 "PlaceRulesModel" "says" "[I" ∈ gts := gt_4 199 rfl rfl
theorem kf_MD_165 : Cond.fieldLink "PlaceRulesModel" 165 "PlaceRulesModel" "failures" "I" ∈ gts := gt_4 200 rfl rfl
theorem kf_MD_97 : Cond.fieldLink "PlaceRulesModel" 97 "PlaceRulesModel" "clashes" "I" ∈ gts := gt_4 201 rfl rfl
theorem kf_MD_50 : Cond.fieldLink "PlaceRulesModel" 50 "PlaceRulesModel" "clashing" "[I" ∈ gts := gt_4 202 rfl rfl
theorem kf_MD_190 : Cond.fieldLink "PlaceRulesModel" 190 "PlaceRulesModel" "told" "I" ∈ gts := gt_4 203 rfl rfl
theorem kf_MD_53 : Cond.fieldLink "PlaceRulesModel" 53 "PlaceRulesModel" "tells" "[I" ∈ gts := gt_4 204 rfl rfl
theorem kf_MD_111 : Cond.fieldLink "PlaceRulesModel" 111 "PlaceRulesModel" "signs" "I" ∈ gts := gt_4 205 rfl rfl
theorem kf_MD_56 : Cond.fieldLink "PlaceRulesModel" 56 "PlaceRulesModel" "text" "[I" ∈ gts := gt_4 206 rfl rfl
theorem kf_MD_114 : Cond.fieldLink "PlaceRulesModel" 114 "PlaceRulesModel" "at" "I" ∈ gts := gt_4 207 rfl rfl
theorem kf_MD_117 : Cond.fieldLink "PlaceRulesModel" 117 "PlaceRulesModel" "wrong" "I" ∈ gts := gt_4 208 rfl rfl
theorem kf_MD_128 : Cond.fieldLink "PlaceRulesModel" 128 "PlaceRulesModel" "number" "I" ∈ gts := gt_4 209 rfl rfl
theorem kf_MD_59 : Cond.fieldLink "PlaceRulesModel" 59 "PlaceRulesModel" "names" "[I" ∈ gts := gt_4 210 rfl rfl
theorem ka_boolean : Cond.arrayClass .boolean ∈ gts := gt_5 28 rfl rfl
theorem km_LW_84 : Cond.methodLink "PlaceRulesLaw" 84 ⟨"PlaceRulesModel", "thrown", "()I"⟩ ∈ gts := gt_5 29 rfl rfl
theorem ki_MD_thrown : Cond.instanceMethod ⟨"PlaceRulesModel", "thrown", "()I"⟩ ∈ gts := gt_5 30 rfl rfl
theorem ko_MD_thrown : Cond.selects "PlaceRulesModel" ⟨"PlaceRulesModel", "thrown", "()I"⟩ ⟨"PlaceRulesModel", "thrown", "()I"⟩ ∈ gts := gt_5 31 rfl rfl
theorem km_LW_83 : Cond.methodLink "PlaceRulesLaw" 83 ⟨"PlaceRulesModel", "place", "(IIII)V"⟩ ∈ gts := gt_5 33 rfl rfl
theorem ki_MD_place : Cond.instanceMethod ⟨"PlaceRulesModel", "place", "(IIII)V"⟩ ∈ gts := gt_5 34 rfl rfl
theorem ko_MD_place : Cond.selects "PlaceRulesModel" ⟨"PlaceRulesModel", "place", "(IIII)V"⟩ ⟨"PlaceRulesModel", "place", "(IIII)V"⟩ ∈ gts := gt_5 35 rfl rfl
theorem km_MD_71 : Cond.methodLink "PlaceRulesModel" 71 ⟨"PlaceRulesModel", "isPlace", "(I)Z"⟩ ∈ gts := gt_5 37 rfl rfl
theorem ks_MD_isPlace : Cond.static ⟨"PlaceRulesModel", "isPlace", "(I)Z"⟩ ∈ gts := gt_5 38 rfl rfl
theorem km_MD_67 : Cond.methodLink "PlaceRulesModel" 67 ⟨"PlaceRulesModel", "in", "(III)Z"⟩ ∈ gts := gt_5 40 rfl rfl
theorem ks_MD_in : Cond.static ⟨"PlaceRulesModel", "in", "(III)Z"⟩ ∈ gts := gt_5 41 rfl rfl
theorem km_MD_75 : Cond.methodLink "PlaceRulesModel" 75 ⟨"PlaceRulesModel", "isSize", "(III)Z"⟩ ∈ gts := gt_5 43 rfl rfl
theorem ks_MD_isSize : Cond.static ⟨"PlaceRulesModel", "isSize", "(III)Z"⟩ ∈ gts := gt_5 44 rfl rfl
theorem km_MD_78 : Cond.methodLink "PlaceRulesModel" 78 ⟨"PlaceRulesModel", "fails", "(ZZZ)Z"⟩ ∈ gts := gt_5 46 rfl rfl
theorem ki_MD_fails : Cond.instanceMethod ⟨"PlaceRulesModel", "fails", "(ZZZ)Z"⟩ ∈ gts := gt_5 48 rfl rfl
theorem km_LW_91 : Cond.methodLink "PlaceRulesLaw" 91 ⟨"PlaceRulesModel", "limit", "(III)V"⟩ ∈ gts := gt_5 50 rfl rfl
theorem ki_MD_limit : Cond.instanceMethod ⟨"PlaceRulesModel", "limit", "(III)V"⟩ ∈ gts := gt_5 51 rfl rfl
theorem ko_MD_limit : Cond.selects "PlaceRulesModel" ⟨"PlaceRulesModel", "limit", "(III)V"⟩ ⟨"PlaceRulesModel", "limit", "(III)V"⟩ ∈ gts := gt_5 52 rfl rfl
theorem kv_MD_82 : Cond.constant "PlaceRulesModel" 82 (10000000) ∈ gts := gt_5 54 rfl rfl
theorem km_LW_95 : Cond.methodLink "PlaceRulesLaw" 95 ⟨"PlaceRulesModel", "unit", "(III)I"⟩ ∈ gts := gt_5 55 rfl rfl
theorem ki_MD_unit : Cond.instanceMethod ⟨"PlaceRulesModel", "unit", "(III)I"⟩ ∈ gts := gt_5 56 rfl rfl
theorem ko_MD_unit : Cond.selects "PlaceRulesModel" ⟨"PlaceRulesModel", "unit", "(III)I"⟩ ⟨"PlaceRulesModel", "unit", "(III)I"⟩ ∈ gts := gt_5 57 rfl rfl
theorem km_MD_86 : Cond.methodLink "PlaceRulesModel" 86 ⟨"PlaceRulesModel", "lay", "(IIIII)V"⟩ ∈ gts := gt_5 59 rfl rfl
theorem ki_MD_lay : Cond.instanceMethod ⟨"PlaceRulesModel", "lay", "(IIIII)V"⟩ ∈ gts := gt_5 61 rfl rfl
theorem km_LW_99 : Cond.methodLink "PlaceRulesLaw" 99 ⟨"PlaceRulesModel", "size", "(IIIII)V"⟩ ∈ gts := gt_5 63 rfl rfl
theorem ki_MD_size : Cond.instanceMethod ⟨"PlaceRulesModel", "size", "(IIIII)V"⟩ ∈ gts := gt_5 64 rfl rfl
theorem ko_MD_size : Cond.selects "PlaceRulesModel" ⟨"PlaceRulesModel", "size", "(IIIII)V"⟩ ⟨"PlaceRulesModel", "size", "(IIIII)V"⟩ ∈ gts := gt_5 65 rfl rfl
theorem kv_MD_90 : Cond.constant "PlaceRulesModel" 90 (1000000) ∈ gts := gt_5 67 rfl rfl
theorem km_MD_91 : Cond.methodLink "PlaceRulesModel" 91 ⟨"PlaceRulesModel", "isUnit", "(I)Z"⟩ ∈ gts := gt_5 68 rfl rfl
theorem ki_MD_isUnit : Cond.instanceMethod ⟨"PlaceRulesModel", "isUnit", "(I)Z"⟩ ∈ gts := gt_5 70 rfl rfl
theorem km_LW_102 : Cond.methodLink "PlaceRulesLaw" 102 ⟨"PlaceRulesModel", "nature", "(IIII)V"⟩ ∈ gts := gt_5 72 rfl rfl
theorem ki_MD_nature : Cond.instanceMethod ⟨"PlaceRulesModel", "nature", "(IIII)V"⟩ ∈ gts := gt_5 73 rfl rfl
theorem ko_MD_nature : Cond.selects "PlaceRulesModel" ⟨"PlaceRulesModel", "nature", "(IIII)V"⟩ ⟨"PlaceRulesModel", "nature", "(IIII)V"⟩ ∈ gts := gt_5 74 rfl rfl
theorem km_LW_106 : Cond.methodLink "PlaceRulesLaw" 106 ⟨"PlaceRulesModel", "rule", "(IIII)I"⟩ ∈ gts := gt_5 76 rfl rfl
theorem ki_MD_rule : Cond.instanceMethod ⟨"PlaceRulesModel", "rule", "(IIII)I"⟩ ∈ gts := gt_5 77 rfl rfl
theorem ko_MD_rule : Cond.selects "PlaceRulesModel" ⟨"PlaceRulesModel", "rule", "(IIII)I"⟩ ⟨"PlaceRulesModel", "rule", "(IIII)I"⟩ ∈ gts := gt_5 78 rfl rfl
theorem km_MD_100 : Cond.methodLink "PlaceRulesModel" 100 ⟨"PlaceRulesModel", "isA", "(II)Z"⟩ ∈ gts := gt_5 80 rfl rfl
theorem ks_MD_isA : Cond.static ⟨"PlaceRulesModel", "isA", "(II)Z"⟩ ∈ gts := gt_5 81 rfl rfl
theorem km_MD_104 : Cond.methodLink "PlaceRulesModel" 104 ⟨"PlaceRulesModel", "isTwo", "(I)Z"⟩ ∈ gts := gt_5 83 rfl rfl
theorem ks_MD_isTwo : Cond.static ⟨"PlaceRulesModel", "isTwo", "(I)Z"⟩ ∈ gts := gt_5 84 rfl rfl
theorem km_MD_107 : Cond.methodLink "PlaceRulesModel" 107 ⟨"PlaceRulesModel", "comes", "(IIII)V"⟩ ∈ gts := gt_5 86 rfl rfl
theorem ki_MD_comes : Cond.instanceMethod ⟨"PlaceRulesModel", "comes", "(IIII)V"⟩ ∈ gts := gt_5 88 rfl rfl
theorem km_LW_110 : Cond.methodLink "PlaceRulesLaw" 110 ⟨"PlaceRulesModel", "sign", "(I)I"⟩ ∈ gts := gt_5 90 rfl rfl
theorem ki_MD_sign : Cond.instanceMethod ⟨"PlaceRulesModel", "sign", "(I)I"⟩ ∈ gts := gt_5 91 rfl rfl
theorem ko_MD_sign : Cond.selects "PlaceRulesModel" ⟨"PlaceRulesModel", "sign", "(I)I"⟩ ⟨"PlaceRulesModel", "sign", "(I)I"⟩ ∈ gts := gt_5 92 rfl rfl
theorem km_LW_114 : Cond.methodLink "PlaceRulesLaw" 114 ⟨"PlaceRulesModel", "read", "()I"⟩ ∈ gts := gt_5 94 rfl rfl
theorem ki_MD_read : Cond.instanceMethod ⟨"PlaceRulesModel", "read", "()I"⟩ ∈ gts := gt_5 95 rfl rfl
theorem ko_MD_read : Cond.selects "PlaceRulesModel" ⟨"PlaceRulesModel", "read", "()I"⟩ ⟨"PlaceRulesModel", "read", "()I"⟩ ∈ gts := gt_5 96 rfl rfl
theorem km_MD_124 : Cond.methodLink "PlaceRulesModel" 124 ⟨"PlaceRulesModel", "fault", "(I)V"⟩ ∈ gts := gt_5 98 rfl rfl
theorem ki_MD_fault : Cond.instanceMethod ⟨"PlaceRulesModel", "fault", "(I)V"⟩ ∈ gts := gt_5 100 rfl rfl
theorem km_MD_152 : Cond.methodLink "PlaceRulesModel" 152 ⟨"PlaceRulesModel", "line", "(Z)V"⟩ ∈ gts := gt_5 102 rfl rfl
theorem ki_MD_line : Cond.instanceMethod ⟨"PlaceRulesModel", "line", "(Z)V"⟩ ∈ gts := gt_5 104 rfl rfl
theorem km_MD_143 : Cond.methodLink "PlaceRulesModel" 143 ⟨"PlaceRulesModel", "digits", "()I"⟩ ∈ gts := gt_5 106 rfl rfl
theorem ki_MD_digits : Cond.instanceMethod ⟨"PlaceRulesModel", "digits", "()I"⟩ ∈ gts := gt_5 108 rfl rfl
theorem km_MD_131 : Cond.methodLink "PlaceRulesModel" 131 ⟨"PlaceRulesModel", "isDigit", "()Z"⟩ ∈ gts := gt_5 110 rfl rfl
theorem ki_MD_isDigit : Cond.instanceMethod ⟨"PlaceRulesModel", "isDigit", "()Z"⟩ ∈ gts := gt_5 112 rfl rfl
theorem km_MD_120 : Cond.methodLink "PlaceRulesModel" 120 ⟨"PlaceRulesModel", "now", "()I"⟩ ∈ gts := gt_5 114 rfl rfl
theorem ki_MD_now : Cond.instanceMethod ⟨"PlaceRulesModel", "now", "()I"⟩ ∈ gts := gt_5 116 rfl rfl
theorem km_MD_146 : Cond.methodLink "PlaceRulesModel" 146 ⟨"PlaceRulesModel", "pass", "(I)V"⟩ ∈ gts := gt_5 118 rfl rfl
theorem ki_MD_pass : Cond.instanceMethod ⟨"PlaceRulesModel", "pass", "(I)V"⟩ ∈ gts := gt_5 120 rfl rfl
theorem km_MD_149 : Cond.methodLink "PlaceRulesModel" 149 ⟨"PlaceRulesModel", "kind", "()I"⟩ ∈ gts := gt_5 122 rfl rfl
theorem ki_MD_kind : Cond.instanceMethod ⟨"PlaceRulesModel", "kind", "()I"⟩ ∈ gts := gt_5 124 rfl rfl
theorem km_MD_135 : Cond.methodLink "PlaceRulesModel" 135 ⟨"PlaceRulesModel", "match", "(II)I"⟩ ∈ gts := gt_5 126 rfl rfl
theorem ki_MD_match : Cond.instanceMethod ⟨"PlaceRulesModel", "match", "(II)I"⟩ ∈ gts := gt_5 128 rfl rfl
theorem km_MD_139 : Cond.methodLink "PlaceRulesModel" 139 ⟨"PlaceRulesModel", "lengthOf", "(I)I"⟩ ∈ gts := gt_5 130 rfl rfl
theorem ki_MD_lengthOf : Cond.instanceMethod ⟨"PlaceRulesModel", "lengthOf", "(I)I"⟩ ∈ gts := gt_5 132 rfl rfl
theorem km_LW_118 : Cond.methodLink "PlaceRulesLaw" 118 ⟨"PlaceRulesModel", "own", "(II)V"⟩ ∈ gts := gt_5 134 rfl rfl
theorem ki_MD_own : Cond.instanceMethod ⟨"PlaceRulesModel", "own", "(II)V"⟩ ∈ gts := gt_5 135 rfl rfl
theorem ko_MD_own : Cond.selects "PlaceRulesModel" ⟨"PlaceRulesModel", "own", "(II)V"⟩ ⟨"PlaceRulesModel", "own", "(II)V"⟩ ∈ gts := gt_5 136 rfl rfl
theorem km_LW_121 : Cond.methodLink "PlaceRulesLaw" 121 ⟨"PlaceRulesModel", "except", "(IIII)V"⟩ ∈ gts := gt_5 138 rfl rfl
theorem ki_MD_except : Cond.instanceMethod ⟨"PlaceRulesModel", "except", "(IIII)V"⟩ ∈ gts := gt_5 139 rfl rfl
theorem ko_MD_except : Cond.selects "PlaceRulesModel" ⟨"PlaceRulesModel", "except", "(IIII)V"⟩ ⟨"PlaceRulesModel", "except", "(IIII)V"⟩ ∈ gts := gt_5 140 rfl rfl
theorem km_LW_124 : Cond.methodLink "PlaceRulesLaw" 124 ⟨"PlaceRulesModel", "may", "(III)I"⟩ ∈ gts := gt_5 142 rfl rfl
theorem ki_MD_may : Cond.instanceMethod ⟨"PlaceRulesModel", "may", "(III)I"⟩ ∈ gts := gt_5 143 rfl rfl
theorem ko_MD_may : Cond.selects "PlaceRulesModel" ⟨"PlaceRulesModel", "may", "(III)I"⟩ ⟨"PlaceRulesModel", "may", "(III)I"⟩ ∈ gts := gt_5 144 rfl rfl
theorem km_MD_200 : Cond.methodLink "PlaceRulesModel" 200 ⟨"PlaceRulesModel", "ask", "(III)I"⟩ ∈ gts := gt_5 146 rfl rfl
theorem ki_MD_ask : Cond.instanceMethod ⟨"PlaceRulesModel", "ask", "(III)I"⟩ ∈ gts := gt_5 148 rfl rfl
theorem km_MD_193 : Cond.methodLink "PlaceRulesModel" 193 ⟨"PlaceRulesModel", "isExcepted", "(IIII)Z"⟩ ∈ gts := gt_5 150 rfl rfl
theorem ki_MD_isExcepted : Cond.instanceMethod ⟨"PlaceRulesModel", "isExcepted", "(IIII)Z"⟩ ∈ gts := gt_5 152 rfl rfl
theorem km_MD_197 : Cond.methodLink "PlaceRulesModel" 197 ⟨"PlaceRulesModel", "refuses", "(IIII)Z"⟩ ∈ gts := gt_5 154 rfl rfl
theorem ki_MD_refuses : Cond.instanceMethod ⟨"PlaceRulesModel", "refuses", "(IIII)Z"⟩ ∈ gts := gt_5 156 rfl rfl
theorem km_MD_171 : Cond.methodLink "PlaceRulesModel" 171 ⟨"PlaceRulesModel", "isSized", "(III)Z"⟩ ∈ gts := gt_5 158 rfl rfl
theorem ki_MD_isSized : Cond.instanceMethod ⟨"PlaceRulesModel", "isSized", "(III)Z"⟩ ∈ gts := gt_5 160 rfl rfl
theorem km_MD_162 : Cond.methodLink "PlaceRulesModel" 162 ⟨"PlaceRulesModel", "fits", "(III)Z"⟩ ∈ gts := gt_5 162 rfl rfl
theorem ki_MD_fits : Cond.instanceMethod ⟨"PlaceRulesModel", "fits", "(III)Z"⟩ ∈ gts := gt_5 164 rfl rfl
theorem km_MD_168 : Cond.methodLink "PlaceRulesModel" 168 ⟨"PlaceRulesModel", "others", "(II)I"⟩ ∈ gts := gt_5 166 rfl rfl
theorem ki_MD_others : Cond.instanceMethod ⟨"PlaceRulesModel", "others", "(II)I"⟩ ∈ gts := gt_5 168 rfl rfl
theorem km_MD_174 : Cond.methodLink "PlaceRulesModel" 174 ⟨"PlaceRulesModel", "unlike", "(III)I"⟩ ∈ gts := gt_5 170 rfl rfl
theorem ki_MD_unlike : Cond.instanceMethod ⟨"PlaceRulesModel", "unlike", "(III)I"⟩ ∈ gts := gt_5 172 rfl rfl
theorem km_MD_159 : Cond.methodLink "PlaceRulesModel" 159 ⟨"PlaceRulesModel", "isThere", "(III)Z"⟩ ∈ gts := gt_5 174 rfl rfl
theorem ki_MD_isThere : Cond.instanceMethod ⟨"PlaceRulesModel", "isThere", "(III)Z"⟩ ∈ gts := gt_5 176 rfl rfl
theorem km_MD_178 : Cond.methodLink "PlaceRulesModel" 178 ⟨"PlaceRulesModel", "meets", "(III)Z"⟩ ∈ gts := gt_5 178 rfl rfl
theorem ki_MD_meets : Cond.instanceMethod ⟨"PlaceRulesModel", "meets", "(III)Z"⟩ ∈ gts := gt_5 180 rfl rfl
theorem km_MD_181 : Cond.methodLink "PlaceRulesModel" 181 ⟨"PlaceRulesModel", "many", "(II)I"⟩ ∈ gts := gt_5 182 rfl rfl
theorem ki_MD_many : Cond.instanceMethod ⟨"PlaceRulesModel", "many", "(II)I"⟩ ∈ gts := gt_5 184 rfl rfl
theorem km_MD_184 : Cond.methodLink "PlaceRulesModel" 184 ⟨"PlaceRulesModel", "span", "(II)I"⟩ ∈ gts := gt_5 186 rfl rfl
theorem ki_MD_span : Cond.instanceMethod ⟨"PlaceRulesModel", "span", "(II)I"⟩ ∈ gts := gt_5 188 rfl rfl
theorem km_MD_187 : Cond.methodLink "PlaceRulesModel" 187 ⟨"PlaceRulesModel", "ownRefuses", "(III)Z"⟩ ∈ gts := gt_5 190 rfl rfl
theorem ki_MD_ownRefuses : Cond.instanceMethod ⟨"PlaceRulesModel", "ownRefuses", "(III)Z"⟩ ∈ gts := gt_5 192 rfl rfl
theorem km_LW_128 : Cond.methodLink "PlaceRulesLaw" 128 ⟨"PlaceRulesModel", "explain", "(I)I"⟩ ∈ gts := gt_5 194 rfl rfl
theorem ki_MD_explain : Cond.instanceMethod ⟨"PlaceRulesModel", "explain", "(I)I"⟩ ∈ gts := gt_5 195 rfl rfl
theorem ko_MD_explain : Cond.selects "PlaceRulesModel" ⟨"PlaceRulesModel", "explain", "(I)I"⟩ ⟨"PlaceRulesModel", "explain", "(I)I"⟩ ∈ gts := gt_5 196 rfl rfl
theorem km_LW_131 : Cond.methodLink "PlaceRulesLaw" 131 ⟨"PlaceRulesModel", "put", "(III)I"⟩ ∈ gts := gt_5 198 rfl rfl
theorem ki_MD_put : Cond.instanceMethod ⟨"PlaceRulesModel", "put", "(III)I"⟩ ∈ gts := gt_5 199 rfl rfl
theorem ko_MD_put : Cond.selects "PlaceRulesModel" ⟨"PlaceRulesModel", "put", "(III)I"⟩ ⟨"PlaceRulesModel", "put", "(III)I"⟩ ∈ gts := gt_5 200 rfl rfl
theorem km_LW_135 : Cond.methodLink "PlaceRulesLaw" 135 ⟨"PlaceRulesModel", "take", "(I)V"⟩ ∈ gts := gt_5 202 rfl rfl
theorem ki_MD_take : Cond.instanceMethod ⟨"PlaceRulesModel", "take", "(I)V"⟩ ∈ gts := gt_5 203 rfl rfl
theorem ko_MD_take : Cond.selects "PlaceRulesModel" ⟨"PlaceRulesModel", "take", "(I)V"⟩ ⟨"PlaceRulesModel", "take", "(I)V"⟩ ∈ gts := gt_5 204 rfl rfl
theorem km_LW_139 : Cond.methodLink "PlaceRulesLaw" 139 ⟨"PlaceRulesModel", "turned", "(II)I"⟩ ∈ gts := gt_5 206 rfl rfl
theorem ki_MD_turned : Cond.instanceMethod ⟨"PlaceRulesModel", "turned", "(II)I"⟩ ∈ gts := gt_5 207 rfl rfl
theorem ko_MD_turned : Cond.selects "PlaceRulesModel" ⟨"PlaceRulesModel", "turned", "(II)I"⟩ ⟨"PlaceRulesModel", "turned", "(II)I"⟩ ∈ gts := gt_5 208 rfl rfl
theorem km_LW_142 : Cond.methodLink "PlaceRulesLaw" 142 ⟨"PlaceRulesModel", "never", "(I)I"⟩ ∈ gts := gt_5 210 rfl rfl
theorem ki_MD_never : Cond.instanceMethod ⟨"PlaceRulesModel", "never", "(I)I"⟩ ∈ gts := gt_5 211 rfl rfl
theorem ko_MD_never : Cond.selects "PlaceRulesModel" ⟨"PlaceRulesModel", "never", "(I)I"⟩ ⟨"PlaceRulesModel", "never", "(I)I"⟩ ∈ gts := gt_5 212 rfl rfl
theorem km_LW_145 : Cond.methodLink "PlaceRulesLaw" 145 ⟨"PlaceRulesModel", "clash", "(II)I"⟩ ∈ gts := gt_5 214 rfl rfl
theorem ki_MD_clash : Cond.instanceMethod ⟨"PlaceRulesModel", "clash", "(II)I"⟩ ∈ gts := gt_5 215 rfl rfl
theorem ko_MD_clash : Cond.selects "PlaceRulesModel" ⟨"PlaceRulesModel", "clash", "(II)I"⟩ ⟨"PlaceRulesModel", "clash", "(II)I"⟩ ∈ gts := gt_5 216 rfl rfl
theorem km_LW_148 : Cond.methodLink "PlaceRulesLaw" 148 ⟨"PlaceRulesModel", "at", "(II)I"⟩ ∈ gts := gt_5 218 rfl rfl
theorem ki_MD_at : Cond.instanceMethod ⟨"PlaceRulesModel", "at", "(II)I"⟩ ∈ gts := gt_5 219 rfl rfl
theorem ko_MD_at : Cond.selects "PlaceRulesModel" ⟨"PlaceRulesModel", "at", "(II)I"⟩ ⟨"PlaceRulesModel", "at", "(II)I"⟩ ∈ gts := gt_5 220 rfl rfl
theorem km_LW_152 : Cond.methodLink "PlaceRulesLaw" 152 ⟨"PlaceRulesModel", "count", "(I)I"⟩ ∈ gts := gt_5 222 rfl rfl
theorem ki_MD_count : Cond.instanceMethod ⟨"PlaceRulesModel", "count", "(I)I"⟩ ∈ gts := gt_5 223 rfl rfl
theorem ko_MD_count : Cond.selects "PlaceRulesModel" ⟨"PlaceRulesModel", "count", "(I)I"⟩ ⟨"PlaceRulesModel", "count", "(I)I"⟩ ∈ gts := gt_5 224 rfl rfl
theorem ka_long : Cond.arrayClass .long ∈ gts := gt_5 226 rfl rfl
theorem kf_PR_135 : Cond.fieldLink "PlaceRules" 135 "PlaceRules$Kind" "least" "I" ∈ gts := gt_5 228 rfl rfl
theorem kf_PR_140 : Cond.fieldLink "PlaceRules" 140 "PlaceRules$Kind" "most" "I" ∈ gts := gt_5 229 rfl rfl
theorem kf_KD_60 : Cond.fieldLink "PlaceRules$Kind" 60 "PlaceRules$Kind" "numbers" "I" ∈ gts := gt_5 230 rfl rfl
theorem kf_KD_64 : Cond.fieldLink "PlaceRules$Kind" 64 "PlaceRules$Kind" "least" "I" ∈ gts := gt_5 231 rfl rfl
theorem kf_KD_67 : Cond.fieldLink "PlaceRules$Kind" 67 "PlaceRules$Kind" "most" "I" ∈ gts := gt_5 232 rfl rfl
theorem kf_TX_102 : Cond.fieldLink "PlaceRules$Text" 102 "PlaceRules$Kind" "word" "Ljava/lang/String;" ∈ gts := gt_5 233 rfl rfl
theorem kf_java_lang_String_9 : Cond.fieldLink "java/lang/String" 9 "java/lang/String" "value" "[B" ∈ gts := gt_5 234 rfl rfl
theorem kf_java_lang_String_15 : Cond.fieldLink "java/lang/String" 15 "java/lang/String" "coder" "B" ∈ gts := gt_5 235 rfl rfl
theorem kf_TX_63 : Cond.fieldLink "PlaceRules$Text" 63 "PlaceRules$Kind" "least" "I" ∈ gts := gt_5 236 rfl rfl
theorem kf_TX_66 : Cond.fieldLink "PlaceRules$Text" 66 "PlaceRules$Kind" "most" "I" ∈ gts := gt_5 237 rfl rfl
theorem kf_java_lang_Enum_7 : Cond.fieldLink "java/lang/Enum" 7 "java/lang/Enum" "ordinal" "I" ∈ gts := gt_5 238 rfl rfl
theorem ko_TX_readLine : Cond.selects "PlaceRules$Text" ⟨"PlaceRules$Text", "readLine", "(LPlaceRules$Rule;)Z"⟩ ⟨"PlaceRules$Text", "readLine", "(LPlaceRules$Rule;)Z"⟩ ∈ gts := gt_0 0 rfl rfl
theorem ko_TX_readNumber : Cond.selects "PlaceRules$Text" ⟨"PlaceRules$Text", "readNumber", "(II)Z"⟩ ⟨"PlaceRules$Text", "readNumber", "(II)Z"⟩ ∈ gts := gt_0 1 rfl rfl
theorem ko_TX_nextSign : Cond.selects "PlaceRules$Text" ⟨"PlaceRules$Text", "nextSign", "()I"⟩ ⟨"PlaceRules$Text", "nextSign", "()I"⟩ ∈ gts := gt_0 2 rfl rfl
theorem ko_TX_fail : Cond.selects "PlaceRules$Text" ⟨"PlaceRules$Text", "fail", "(I)Z"⟩ ⟨"PlaceRules$Text", "fail", "(I)Z"⟩ ∈ gts := gt_0 3 rfl rfl
theorem ko_TX_readBlank : Cond.selects "PlaceRules$Text" ⟨"PlaceRules$Text", "readBlank", "()Z"⟩ ⟨"PlaceRules$Text", "readBlank", "()Z"⟩ ∈ gts := gt_0 4 rfl rfl
theorem ko_TX_readSign : Cond.selects "PlaceRules$Text" ⟨"PlaceRules$Text", "readSign", "(I)Z"⟩ ⟨"PlaceRules$Text", "readSign", "(I)Z"⟩ ∈ gts := gt_0 5 rfl rfl
theorem ko_TX_readKind : Cond.selects "PlaceRules$Text" ⟨"PlaceRules$Text", "readKind", "()Z"⟩ ⟨"PlaceRules$Text", "readKind", "()Z"⟩ ∈ gts := gt_0 6 rfl rfl
theorem ko_TX_sharedSigns : Cond.selects "PlaceRules$Text" ⟨"PlaceRules$Text", "sharedSigns", "(Ljava/lang/String;)I"⟩ ⟨"PlaceRules$Text", "sharedSigns", "(Ljava/lang/String;)I"⟩ ∈ gts := gt_0 7 rfl rfl
theorem ko_RB_noteClashes : Cond.selects "PlaceRules$RuleBook" ⟨"PlaceRules$RuleBook", "noteClashes", "(I)V"⟩ ⟨"PlaceRules$RuleBook", "noteClashes", "(I)V"⟩ ∈ gts := gt_0 8 rfl rfl
theorem ko_RB_insertInOrder : Cond.selects "PlaceRules$RuleBook" ⟨"PlaceRules$RuleBook", "insertInOrder", "(I)V"⟩ ⟨"PlaceRules$RuleBook", "insertInOrder", "(I)V"⟩ ∈ gts := gt_0 9 rfl rfl
theorem ko_java_lang_Throwable_fillInStackTrace2 : Cond.selects "java/lang/Throwable" ⟨"java/lang/Throwable", "fillInStackTrace", "(I)Ljava/lang/Throwable;"⟩ ⟨"java/lang/Throwable", "fillInStackTrace", "(I)Ljava/lang/Throwable;"⟩ ∈ gts := gt_0 10 rfl rfl
theorem ko_PR_needUnit : Cond.selects "PlaceRules" ⟨"PlaceRules", "needUnit", "(I)V"⟩ ⟨"PlaceRules", "needUnit", "(I)V"⟩ ∈ gts := gt_0 11 rfl rfl
theorem ko_PR_needNowhere : Cond.selects "PlaceRules" ⟨"PlaceRules", "needNowhere", "(I)V"⟩ ⟨"PlaceRules", "needNowhere", "(I)V"⟩ ∈ gts := gt_0 12 rfl rfl
theorem ko_PR_findWaiver : Cond.selects "PlaceRules" ⟨"PlaceRules", "findWaiver", "(III)I"⟩ ⟨"PlaceRules", "findWaiver", "(III)I"⟩ ∈ gts := gt_0 13 rfl rfl
theorem ko_PR_needQuestion : Cond.selects "PlaceRules" ⟨"PlaceRules", "needQuestion", "(III)V"⟩ ⟨"PlaceRules", "needQuestion", "(III)V"⟩ ∈ gts := gt_0 14 rfl rfl
theorem ko_PR_ask : Cond.selects "PlaceRules" ⟨"PlaceRules", "ask", "(III)I"⟩ ⟨"PlaceRules", "ask", "(III)I"⟩ ∈ gts := gt_0 15 rfl rfl
theorem ko_PR_gather : Cond.selects "PlaceRules" ⟨"PlaceRules", "gather", "(III)V"⟩ ⟨"PlaceRules", "gather", "(III)V"⟩ ∈ gts := gt_0 16 rfl rfl
theorem ko_PL_holds : Cond.selects "PlaceRules$Place" ⟨"PlaceRules$Place", "holds", "(III)Z"⟩ ⟨"PlaceRules$Place", "holds", "(III)Z"⟩ ∈ gts := gt_0 17 rfl rfl
theorem ko_PR_isWaived : Cond.selects "PlaceRules" ⟨"PlaceRules", "isWaived", "(IIII)Z"⟩ ⟨"PlaceRules", "isWaived", "(IIII)Z"⟩ ∈ gts := gt_0 18 rfl rfl
theorem ko_MD_fails : Cond.selects "PlaceRulesModel" ⟨"PlaceRulesModel", "fails", "(ZZZ)Z"⟩ ⟨"PlaceRulesModel", "fails", "(ZZZ)Z"⟩ ∈ gts := gt_0 19 rfl rfl
theorem ko_MD_lay : Cond.selects "PlaceRulesModel" ⟨"PlaceRulesModel", "lay", "(IIIII)V"⟩ ⟨"PlaceRulesModel", "lay", "(IIIII)V"⟩ ∈ gts := gt_0 20 rfl rfl
theorem ko_MD_isUnit : Cond.selects "PlaceRulesModel" ⟨"PlaceRulesModel", "isUnit", "(I)Z"⟩ ⟨"PlaceRulesModel", "isUnit", "(I)Z"⟩ ∈ gts := gt_0 21 rfl rfl
theorem ko_MD_comes : Cond.selects "PlaceRulesModel" ⟨"PlaceRulesModel", "comes", "(IIII)V"⟩ ⟨"PlaceRulesModel", "comes", "(IIII)V"⟩ ∈ gts := gt_0 22 rfl rfl
theorem ko_MD_fault : Cond.selects "PlaceRulesModel" ⟨"PlaceRulesModel", "fault", "(I)V"⟩ ⟨"PlaceRulesModel", "fault", "(I)V"⟩ ∈ gts := gt_0 23 rfl rfl
theorem ko_MD_line : Cond.selects "PlaceRulesModel" ⟨"PlaceRulesModel", "line", "(Z)V"⟩ ⟨"PlaceRulesModel", "line", "(Z)V"⟩ ∈ gts := gt_0 24 rfl rfl
theorem ko_MD_digits : Cond.selects "PlaceRulesModel" ⟨"PlaceRulesModel", "digits", "()I"⟩ ⟨"PlaceRulesModel", "digits", "()I"⟩ ∈ gts := gt_0 25 rfl rfl
theorem ko_MD_isDigit : Cond.selects "PlaceRulesModel" ⟨"PlaceRulesModel", "isDigit", "()Z"⟩ ⟨"PlaceRulesModel", "isDigit", "()Z"⟩ ∈ gts := gt_0 26 rfl rfl
theorem ko_MD_now : Cond.selects "PlaceRulesModel" ⟨"PlaceRulesModel", "now", "()I"⟩ ⟨"PlaceRulesModel", "now", "()I"⟩ ∈ gts := gt_0 27 rfl rfl
theorem ko_MD_pass : Cond.selects "PlaceRulesModel" ⟨"PlaceRulesModel", "pass", "(I)V"⟩ ⟨"PlaceRulesModel", "pass", "(I)V"⟩ ∈ gts := gt_0 28 rfl rfl
theorem ko_MD_kind : Cond.selects "PlaceRulesModel" ⟨"PlaceRulesModel", "kind", "()I"⟩ ⟨"PlaceRulesModel", "kind", "()I"⟩ ∈ gts := gt_0 29 rfl rfl
theorem ko_MD_match : Cond.selects "PlaceRulesModel" ⟨"PlaceRulesModel", "match", "(II)I"⟩ ⟨"PlaceRulesModel", "match", "(II)I"⟩ ∈ gts := gt_0 30 rfl rfl
theorem ko_MD_lengthOf : Cond.selects "PlaceRulesModel" ⟨"PlaceRulesModel", "lengthOf", "(I)I"⟩ ⟨"PlaceRulesModel", "lengthOf", "(I)I"⟩ ∈ gts := gt_0 31 rfl rfl
theorem ko_MD_ask : Cond.selects "PlaceRulesModel" ⟨"PlaceRulesModel", "ask", "(III)I"⟩ ⟨"PlaceRulesModel", "ask", "(III)I"⟩ ∈ gts := gt_0 32 rfl rfl
theorem ko_MD_isExcepted : Cond.selects "PlaceRulesModel" ⟨"PlaceRulesModel", "isExcepted", "(IIII)Z"⟩ ⟨"PlaceRulesModel", "isExcepted", "(IIII)Z"⟩ ∈ gts := gt_0 33 rfl rfl
theorem ko_MD_refuses : Cond.selects "PlaceRulesModel" ⟨"PlaceRulesModel", "refuses", "(IIII)Z"⟩ ⟨"PlaceRulesModel", "refuses", "(IIII)Z"⟩ ∈ gts := gt_0 34 rfl rfl
theorem ko_MD_isSized : Cond.selects "PlaceRulesModel" ⟨"PlaceRulesModel", "isSized", "(III)Z"⟩ ⟨"PlaceRulesModel", "isSized", "(III)Z"⟩ ∈ gts := gt_0 35 rfl rfl
theorem ko_MD_fits : Cond.selects "PlaceRulesModel" ⟨"PlaceRulesModel", "fits", "(III)Z"⟩ ⟨"PlaceRulesModel", "fits", "(III)Z"⟩ ∈ gts := gt_0 36 rfl rfl
theorem ko_MD_others : Cond.selects "PlaceRulesModel" ⟨"PlaceRulesModel", "others", "(II)I"⟩ ⟨"PlaceRulesModel", "others", "(II)I"⟩ ∈ gts := gt_0 37 rfl rfl
theorem ko_MD_unlike : Cond.selects "PlaceRulesModel" ⟨"PlaceRulesModel", "unlike", "(III)I"⟩ ⟨"PlaceRulesModel", "unlike", "(III)I"⟩ ∈ gts := gt_0 38 rfl rfl
theorem ko_MD_isThere : Cond.selects "PlaceRulesModel" ⟨"PlaceRulesModel", "isThere", "(III)Z"⟩ ⟨"PlaceRulesModel", "isThere", "(III)Z"⟩ ∈ gts := gt_0 39 rfl rfl
theorem ko_MD_meets : Cond.selects "PlaceRulesModel" ⟨"PlaceRulesModel", "meets", "(III)Z"⟩ ⟨"PlaceRulesModel", "meets", "(III)Z"⟩ ∈ gts := gt_0 40 rfl rfl
theorem ko_MD_many : Cond.selects "PlaceRulesModel" ⟨"PlaceRulesModel", "many", "(II)I"⟩ ⟨"PlaceRulesModel", "many", "(II)I"⟩ ∈ gts := gt_0 41 rfl rfl
theorem ko_MD_span : Cond.selects "PlaceRulesModel" ⟨"PlaceRulesModel", "span", "(II)I"⟩ ⟨"PlaceRulesModel", "span", "(II)I"⟩ ∈ gts := gt_0 42 rfl rfl
theorem ko_MD_ownRefuses : Cond.selects "PlaceRulesModel" ⟨"PlaceRulesModel", "ownRefuses", "(III)Z"⟩ ⟨"PlaceRulesModel", "ownRefuses", "(III)Z"⟩ ∈ gts := gt_0 43 rfl rfl
end
section
/-! Each instruction of each method, decoded. Written by wip/tools/emit_names.py. -/
theorem d_PR_init_0 : decode c_PR_init 0 = .ok (.aload_n 0, 1) := by decide +kernel
theorem d_PR_init_1 : decode c_PR_init 1 = .ok (.invokespecial 1, 3) := by decide +kernel
theorem d_PR_init_4 : decode c_PR_init 4 = .ok (.aload_n 0, 1) := by decide +kernel
theorem d_PR_init_5 : decode c_PR_init 5 = .ok (.bipush 12, 2) := by decide +kernel
theorem d_PR_init_7 : decode c_PR_init 7 = .ok (.anewarray 9, 3) := by decide +kernel
theorem d_PR_init_10 : decode c_PR_init 10 = .ok (.putfield 11, 3) := by decide +kernel
theorem d_PR_init_13 : decode c_PR_init 13 = .ok (.aload_n 0, 1) := by decide +kernel
theorem d_PR_init_14 : decode c_PR_init 14 = .ok (.bipush 40, 2) := by decide +kernel
theorem d_PR_init_16 : decode c_PR_init 16 = .ok (.anewarray 15, 3) := by decide +kernel
theorem d_PR_init_19 : decode c_PR_init 19 = .ok (.putfield 17, 3) := by decide +kernel
theorem d_PR_init_22 : decode c_PR_init 22 = .ok (.aload_n 0, 1) := by decide +kernel
theorem d_PR_init_23 : decode c_PR_init 23 = .ok (.bipush 20, 2) := by decide +kernel
theorem d_PR_init_25 : decode c_PR_init 25 = .ok (.anewarray 21, 3) := by decide +kernel
theorem d_PR_init_28 : decode c_PR_init 28 = .ok (.putfield 23, 3) := by decide +kernel
theorem d_PR_init_31 : decode c_PR_init 31 = .ok (.aload_n 0, 1) := by decide +kernel
theorem d_PR_init_32 : decode c_PR_init 32 = .ok (.new 27, 3) := by decide +kernel
theorem d_PR_init_35 : decode c_PR_init 35 = .ok (.dup, 1) := by decide +kernel
theorem d_PR_init_36 : decode c_PR_init 36 = .ok (.invokespecial 29, 3) := by decide +kernel
theorem d_PR_init_39 : decode c_PR_init 39 = .ok (.putfield 30, 3) := by decide +kernel
theorem d_PR_init_42 : decode c_PR_init 42 = .ok (.aload_n 0, 1) := by decide +kernel
theorem d_PR_init_43 : decode c_PR_init 43 = .ok (.new 34, 3) := by decide +kernel
theorem d_PR_init_46 : decode c_PR_init 46 = .ok (.dup, 1) := by decide +kernel
theorem d_PR_init_47 : decode c_PR_init 47 = .ok (.invokespecial 36, 3) := by decide +kernel
theorem d_PR_init_50 : decode c_PR_init 50 = .ok (.putfield 37, 3) := by decide +kernel
theorem d_PR_init_53 : decode c_PR_init 53 = .ok (.aload_n 0, 1) := by decide +kernel
theorem d_PR_init_54 : decode c_PR_init 54 = .ok (.new 41, 3) := by decide +kernel
theorem d_PR_init_57 : decode c_PR_init 57 = .ok (.dup, 1) := by decide +kernel
theorem d_PR_init_58 : decode c_PR_init 58 = .ok (.invokespecial 43, 3) := by decide +kernel
theorem d_PR_init_61 : decode c_PR_init 61 = .ok (.putfield 44, 3) := by decide +kernel
theorem d_PR_init_64 : decode c_PR_init 64 = .ok (.aload_n 0, 1) := by decide +kernel
theorem d_PR_init_65 : decode c_PR_init 65 = .ok (.new 48, 3) := by decide +kernel
theorem d_PR_init_68 : decode c_PR_init 68 = .ok (.dup, 1) := by decide +kernel
theorem d_PR_init_69 : decode c_PR_init 69 = .ok (.invokespecial 50, 3) := by decide +kernel
theorem d_PR_init_72 : decode c_PR_init 72 = .ok (.putfield 51, 3) := by decide +kernel
theorem d_PR_init_75 : decode c_PR_init 75 = .ok (.aload_n 0, 1) := by decide +kernel
theorem d_PR_init_76 : decode c_PR_init 76 = .ok (.bipush 24, 2) := by decide +kernel
theorem d_PR_init_78 : decode c_PR_init 78 = .ok (.newarray .int, 2) := by decide +kernel
theorem d_PR_init_80 : decode c_PR_init 80 = .ok (.putfield 55, 3) := by decide +kernel
theorem d_PR_init_83 : decode c_PR_init 83 = .ok (.iconst 0, 1) := by decide +kernel
theorem d_PR_init_84 : decode c_PR_init 84 = .ok (.istore_n 1, 1) := by decide +kernel
theorem d_PR_init_85 : decode c_PR_init 85 = .ok (.iload_n 1, 1) := by decide +kernel
theorem d_PR_init_86 : decode c_PR_init 86 = .ok (.bipush 12, 2) := by decide +kernel
theorem d_PR_init_88 : decode c_PR_init 88 = .ok (.if_icmp .ge 22, 3) := by decide +kernel
theorem d_PR_init_91 : decode c_PR_init 91 = .ok (.aload_n 0, 1) := by decide +kernel
theorem d_PR_init_92 : decode c_PR_init 92 = .ok (.getfield 11, 3) := by decide +kernel
theorem d_PR_init_95 : decode c_PR_init 95 = .ok (.iload_n 1, 1) := by decide +kernel
theorem d_PR_init_96 : decode c_PR_init 96 = .ok (.new 9, 3) := by decide +kernel
theorem d_PR_init_99 : decode c_PR_init 99 = .ok (.dup, 1) := by decide +kernel
theorem d_PR_init_100 : decode c_PR_init 100 = .ok (.invokespecial 59, 3) := by decide +kernel
theorem d_PR_init_103 : decode c_PR_init 103 = .ok (.aastore, 1) := by decide +kernel
theorem d_PR_init_104 : decode c_PR_init 104 = .ok (.iinc 1 1, 3) := by decide +kernel
theorem d_PR_init_107 : decode c_PR_init 107 = .ok (.goto (-22), 3) := by decide +kernel
theorem d_PR_init_110 : decode c_PR_init 110 = .ok (.iconst 0, 1) := by decide +kernel
theorem d_PR_init_111 : decode c_PR_init 111 = .ok (.istore_n 1, 1) := by decide +kernel
theorem d_PR_init_112 : decode c_PR_init 112 = .ok (.iload_n 1, 1) := by decide +kernel
theorem d_PR_init_113 : decode c_PR_init 113 = .ok (.bipush 40, 2) := by decide +kernel
theorem d_PR_init_115 : decode c_PR_init 115 = .ok (.if_icmp .ge 22, 3) := by decide +kernel
theorem d_PR_init_118 : decode c_PR_init 118 = .ok (.aload_n 0, 1) := by decide +kernel
theorem d_PR_init_119 : decode c_PR_init 119 = .ok (.getfield 17, 3) := by decide +kernel
theorem d_PR_init_122 : decode c_PR_init 122 = .ok (.iload_n 1, 1) := by decide +kernel
theorem d_PR_init_123 : decode c_PR_init 123 = .ok (.new 15, 3) := by decide +kernel
theorem d_PR_init_126 : decode c_PR_init 126 = .ok (.dup, 1) := by decide +kernel
theorem d_PR_init_127 : decode c_PR_init 127 = .ok (.invokespecial 60, 3) := by decide +kernel
theorem d_PR_init_130 : decode c_PR_init 130 = .ok (.aastore, 1) := by decide +kernel
theorem d_PR_init_131 : decode c_PR_init 131 = .ok (.iinc 1 1, 3) := by decide +kernel
theorem d_PR_init_134 : decode c_PR_init 134 = .ok (.goto (-22), 3) := by decide +kernel
theorem d_PR_init_137 : decode c_PR_init 137 = .ok (.iconst 0, 1) := by decide +kernel
theorem d_PR_init_138 : decode c_PR_init 138 = .ok (.istore_n 1, 1) := by decide +kernel
theorem d_PR_init_139 : decode c_PR_init 139 = .ok (.iload_n 1, 1) := by decide +kernel
theorem d_PR_init_140 : decode c_PR_init 140 = .ok (.bipush 20, 2) := by decide +kernel
theorem d_PR_init_142 : decode c_PR_init 142 = .ok (.if_icmp .ge 22, 3) := by decide +kernel
theorem d_PR_init_145 : decode c_PR_init 145 = .ok (.aload_n 0, 1) := by decide +kernel
theorem d_PR_init_146 : decode c_PR_init 146 = .ok (.getfield 23, 3) := by decide +kernel
theorem d_PR_init_149 : decode c_PR_init 149 = .ok (.iload_n 1, 1) := by decide +kernel
theorem d_PR_init_150 : decode c_PR_init 150 = .ok (.new 21, 3) := by decide +kernel
theorem d_PR_init_153 : decode c_PR_init 153 = .ok (.dup, 1) := by decide +kernel
theorem d_PR_init_154 : decode c_PR_init 154 = .ok (.invokespecial 61, 3) := by decide +kernel
theorem d_PR_init_157 : decode c_PR_init 157 = .ok (.aastore, 1) := by decide +kernel
theorem d_PR_init_158 : decode c_PR_init 158 = .ok (.iinc 1 1, 3) := by decide +kernel
theorem d_PR_init_161 : decode c_PR_init 161 = .ok (.goto (-22), 3) := by decide +kernel
theorem d_PR_init_164 : decode c_PR_init 164 = .ok (.return_, 1) := by decide +kernel
theorem d_PR_place_0 : decode c_PR_place 0 = .ok (.iload_n 1, 1) := by decide +kernel
theorem d_PR_place_1 : decode c_PR_place 1 = .ok (.invokestatic 62, 3) := by decide +kernel
theorem d_PR_place_4 : decode c_PR_place 4 = .ok (.iload_n 2, 1) := by decide +kernel
theorem d_PR_place_5 : decode c_PR_place 5 = .ok (.iload_n 3, 1) := by decide +kernel
theorem d_PR_place_6 : decode c_PR_place 6 = .ok (.iload 4, 2) := by decide +kernel
theorem d_PR_place_8 : decode c_PR_place 8 = .ok (.invokestatic 66, 3) := by decide +kernel
theorem d_PR_place_11 : decode c_PR_place 11 = .ok (.aload_n 0, 1) := by decide +kernel
theorem d_PR_place_12 : decode c_PR_place 12 = .ok (.getfield 11, 3) := by decide +kernel
theorem d_PR_place_15 : decode c_PR_place 15 = .ok (.iload_n 1, 1) := by decide +kernel
theorem d_PR_place_16 : decode c_PR_place 16 = .ok (.aaload, 1) := by decide +kernel
theorem d_PR_place_17 : decode c_PR_place 17 = .ok (.astore 5, 2) := by decide +kernel
theorem d_PR_place_19 : decode c_PR_place 19 = .ok (.aload 5, 2) := by decide +kernel
theorem d_PR_place_21 : decode c_PR_place 21 = .ok (.iload_n 2, 1) := by decide +kernel
theorem d_PR_place_22 : decode c_PR_place 22 = .ok (.putfield 70, 3) := by decide +kernel
theorem d_PR_place_25 : decode c_PR_place 25 = .ok (.aload 5, 2) := by decide +kernel
theorem d_PR_place_27 : decode c_PR_place 27 = .ok (.iload_n 3, 1) := by decide +kernel
theorem d_PR_place_28 : decode c_PR_place 28 = .ok (.putfield 74, 3) := by decide +kernel
theorem d_PR_place_31 : decode c_PR_place 31 = .ok (.aload 5, 2) := by decide +kernel
theorem d_PR_place_33 : decode c_PR_place 33 = .ok (.iload 4, 2) := by decide +kernel
theorem d_PR_place_35 : decode c_PR_place 35 = .ok (.putfield 77, 3) := by decide +kernel
theorem d_PR_place_38 : decode c_PR_place 38 = .ok (.return_, 1) := by decide +kernel
theorem d_PR_limit_0 : decode c_PR_limit 0 = .ok (.iload_n 1, 1) := by decide +kernel
theorem d_PR_limit_1 : decode c_PR_limit 1 = .ok (.invokestatic 62, 3) := by decide +kernel
theorem d_PR_limit_4 : decode c_PR_limit 4 = .ok (.iload_n 2, 1) := by decide +kernel
theorem d_PR_limit_5 : decode c_PR_limit 5 = .ok (.iconst 0, 1) := by decide +kernel
theorem d_PR_limit_6 : decode c_PR_limit 6 = .ok (.ldc 80, 2) := by decide +kernel
theorem d_PR_limit_8 : decode c_PR_limit 8 = .ok (.invokestatic 81, 3) := by decide +kernel
theorem d_PR_limit_11 : decode c_PR_limit 11 = .ok (.iload_n 3, 1) := by decide +kernel
theorem d_PR_limit_12 : decode c_PR_limit 12 = .ok (.iconst 0, 1) := by decide +kernel
theorem d_PR_limit_13 : decode c_PR_limit 13 = .ok (.bipush 7, 2) := by decide +kernel
theorem d_PR_limit_15 : decode c_PR_limit 15 = .ok (.invokestatic 81, 3) := by decide +kernel
theorem d_PR_limit_18 : decode c_PR_limit 18 = .ok (.aload_n 0, 1) := by decide +kernel
theorem d_PR_limit_19 : decode c_PR_limit 19 = .ok (.getfield 11, 3) := by decide +kernel
theorem d_PR_limit_22 : decode c_PR_limit 22 = .ok (.iload_n 1, 1) := by decide +kernel
theorem d_PR_limit_23 : decode c_PR_limit 23 = .ok (.aaload, 1) := by decide +kernel
theorem d_PR_limit_24 : decode c_PR_limit 24 = .ok (.iload_n 2, 1) := by decide +kernel
theorem d_PR_limit_25 : decode c_PR_limit 25 = .ok (.putfield 84, 3) := by decide +kernel
theorem d_PR_limit_28 : decode c_PR_limit 28 = .ok (.aload_n 0, 1) := by decide +kernel
theorem d_PR_limit_29 : decode c_PR_limit 29 = .ok (.getfield 11, 3) := by decide +kernel
theorem d_PR_limit_32 : decode c_PR_limit 32 = .ok (.iload_n 1, 1) := by decide +kernel
theorem d_PR_limit_33 : decode c_PR_limit 33 = .ok (.aaload, 1) := by decide +kernel
theorem d_PR_limit_34 : decode c_PR_limit 34 = .ok (.iload_n 3, 1) := by decide +kernel
theorem d_PR_limit_35 : decode c_PR_limit 35 = .ok (.putfield 87, 3) := by decide +kernel
theorem d_PR_limit_38 : decode c_PR_limit 38 = .ok (.return_, 1) := by decide +kernel
theorem d_PR_unit_0 : decode c_PR_unit 0 = .ok (.iload_n 1, 1) := by decide +kernel
theorem d_PR_unit_1 : decode c_PR_unit 1 = .ok (.iconst 0, 1) := by decide +kernel
theorem d_PR_unit_2 : decode c_PR_unit 2 = .ok (.bipush 99, 2) := by decide +kernel
theorem d_PR_unit_4 : decode c_PR_unit 4 = .ok (.invokestatic 81, 3) := by decide +kernel
theorem d_PR_unit_7 : decode c_PR_unit 7 = .ok (.iload_n 2, 1) := by decide +kernel
theorem d_PR_unit_8 : decode c_PR_unit 8 = .ok (.iconst 0, 1) := by decide +kernel
theorem d_PR_unit_9 : decode c_PR_unit 9 = .ok (.bipush 99, 2) := by decide +kernel
theorem d_PR_unit_11 : decode c_PR_unit 11 = .ok (.invokestatic 81, 3) := by decide +kernel
theorem d_PR_unit_14 : decode c_PR_unit 14 = .ok (.iload_n 3, 1) := by decide +kernel
theorem d_PR_unit_15 : decode c_PR_unit 15 = .ok (.iconst 0, 1) := by decide +kernel
theorem d_PR_unit_16 : decode c_PR_unit 16 = .ok (.bipush 7, 2) := by decide +kernel
theorem d_PR_unit_18 : decode c_PR_unit 18 = .ok (.invokestatic 81, 3) := by decide +kernel
theorem d_PR_unit_21 : decode c_PR_unit 21 = .ok (.aload_n 0, 1) := by decide +kernel
theorem d_PR_unit_22 : decode c_PR_unit 22 = .ok (.getfield 90, 3) := by decide +kernel
theorem d_PR_unit_25 : decode c_PR_unit 25 = .ok (.bipush 40, 2) := by decide +kernel
theorem d_PR_unit_27 : decode c_PR_unit 27 = .ok (.if_icmp .lt 13, 3) := by decide +kernel
theorem d_PR_unit_30 : decode c_PR_unit 30 = .ok (.new 93, 3) := by decide +kernel
theorem d_PR_unit_33 : decode c_PR_unit 33 = .ok (.dup, 1) := by decide +kernel
theorem d_PR_unit_34 : decode c_PR_unit 34 = .ok (.ldc 95, 2) := by decide +kernel
theorem d_PR_unit_36 : decode c_PR_unit 36 = .ok (.invokespecial 97, 3) := by decide +kernel
theorem d_PR_unit_39 : decode c_PR_unit 39 = .ok (.athrow, 1) := by decide +kernel
theorem d_PR_unit_40 : decode c_PR_unit 40 = .ok (.aload_n 0, 1) := by decide +kernel
theorem d_PR_unit_41 : decode c_PR_unit 41 = .ok (.getfield 17, 3) := by decide +kernel
theorem d_PR_unit_44 : decode c_PR_unit 44 = .ok (.aload_n 0, 1) := by decide +kernel
theorem d_PR_unit_45 : decode c_PR_unit 45 = .ok (.getfield 90, 3) := by decide +kernel
theorem d_PR_unit_48 : decode c_PR_unit 48 = .ok (.aaload, 1) := by decide +kernel
theorem d_PR_unit_49 : decode c_PR_unit 49 = .ok (.astore 4, 2) := by decide +kernel
theorem d_PR_unit_51 : decode c_PR_unit 51 = .ok (.aload 4, 2) := by decide +kernel
theorem d_PR_unit_53 : decode c_PR_unit 53 = .ok (.iload_n 1, 1) := by decide +kernel
theorem d_PR_unit_54 : decode c_PR_unit 54 = .ok (.putfield 100, 3) := by decide +kernel
theorem d_PR_unit_57 : decode c_PR_unit 57 = .ok (.aload 4, 2) := by decide +kernel
theorem d_PR_unit_59 : decode c_PR_unit 59 = .ok (.iload_n 2, 1) := by decide +kernel
theorem d_PR_unit_60 : decode c_PR_unit 60 = .ok (.putfield 103, 3) := by decide +kernel
theorem d_PR_unit_63 : decode c_PR_unit 63 = .ok (.aload 4, 2) := by decide +kernel
theorem d_PR_unit_65 : decode c_PR_unit 65 = .ok (.iload_n 3, 1) := by decide +kernel
theorem d_PR_unit_66 : decode c_PR_unit 66 = .ok (.putfield 106, 3) := by decide +kernel
theorem d_PR_unit_69 : decode c_PR_unit 69 = .ok (.aload_n 0, 1) := by decide +kernel
theorem d_PR_unit_70 : decode c_PR_unit 70 = .ok (.dup, 1) := by decide +kernel
theorem d_PR_unit_71 : decode c_PR_unit 71 = .ok (.getfield 90, 3) := by decide +kernel
theorem d_PR_unit_74 : decode c_PR_unit 74 = .ok (.iconst 1, 1) := by decide +kernel
theorem d_PR_unit_75 : decode c_PR_unit 75 = .ok (.iadd, 1) := by decide +kernel
theorem d_PR_unit_76 : decode c_PR_unit 76 = .ok (.putfield 90, 3) := by decide +kernel
theorem d_PR_unit_79 : decode c_PR_unit 79 = .ok (.aload_n 0, 1) := by decide +kernel
theorem d_PR_unit_80 : decode c_PR_unit 80 = .ok (.getfield 90, 3) := by decide +kernel
theorem d_PR_unit_83 : decode c_PR_unit 83 = .ok (.iconst 1, 1) := by decide +kernel
theorem d_PR_unit_84 : decode c_PR_unit 84 = .ok (.isub, 1) := by decide +kernel
theorem d_PR_unit_85 : decode c_PR_unit 85 = .ok (.ireturn, 1) := by decide +kernel
theorem d_PR_size_0 : decode c_PR_size 0 = .ok (.aload_n 0, 1) := by decide +kernel
theorem d_PR_size_1 : decode c_PR_size 1 = .ok (.iload_n 1, 1) := by decide +kernel
theorem d_PR_size_2 : decode c_PR_size 2 = .ok (.invokevirtual 109, 3) := by decide +kernel
theorem d_PR_size_5 : decode c_PR_size 5 = .ok (.iload_n 2, 1) := by decide +kernel
theorem d_PR_size_6 : decode c_PR_size 6 = .ok (.iload_n 3, 1) := by decide +kernel
theorem d_PR_size_7 : decode c_PR_size 7 = .ok (.iload 4, 2) := by decide +kernel
theorem d_PR_size_9 : decode c_PR_size 9 = .ok (.invokestatic 66, 3) := by decide +kernel
theorem d_PR_size_12 : decode c_PR_size 12 = .ok (.iload 5, 2) := by decide +kernel
theorem d_PR_size_14 : decode c_PR_size 14 = .ok (.iconst 1, 1) := by decide +kernel
theorem d_PR_size_15 : decode c_PR_size 15 = .ok (.ldc 112, 2) := by decide +kernel
theorem d_PR_size_17 : decode c_PR_size 17 = .ok (.invokestatic 81, 3) := by decide +kernel
theorem d_PR_size_20 : decode c_PR_size 20 = .ok (.aload_n 0, 1) := by decide +kernel
theorem d_PR_size_21 : decode c_PR_size 21 = .ok (.iload_n 1, 1) := by decide +kernel
theorem d_PR_size_22 : decode c_PR_size 22 = .ok (.invokevirtual 113, 3) := by decide +kernel
theorem d_PR_size_25 : decode c_PR_size 25 = .ok (.aload_n 0, 1) := by decide +kernel
theorem d_PR_size_26 : decode c_PR_size 26 = .ok (.getfield 17, 3) := by decide +kernel
theorem d_PR_size_29 : decode c_PR_size 29 = .ok (.iload_n 1, 1) := by decide +kernel
theorem d_PR_size_30 : decode c_PR_size 30 = .ok (.aaload, 1) := by decide +kernel
theorem d_PR_size_31 : decode c_PR_size 31 = .ok (.astore 6, 2) := by decide +kernel
theorem d_PR_size_33 : decode c_PR_size 33 = .ok (.aload 6, 2) := by decide +kernel
theorem d_PR_size_35 : decode c_PR_size 35 = .ok (.iload_n 2, 1) := by decide +kernel
theorem d_PR_size_36 : decode c_PR_size 36 = .ok (.putfield 116, 3) := by decide +kernel
theorem d_PR_size_39 : decode c_PR_size 39 = .ok (.aload 6, 2) := by decide +kernel
theorem d_PR_size_41 : decode c_PR_size 41 = .ok (.iload_n 3, 1) := by decide +kernel
theorem d_PR_size_42 : decode c_PR_size 42 = .ok (.putfield 117, 3) := by decide +kernel
theorem d_PR_size_45 : decode c_PR_size 45 = .ok (.aload 6, 2) := by decide +kernel
theorem d_PR_size_47 : decode c_PR_size 47 = .ok (.iload 4, 2) := by decide +kernel
theorem d_PR_size_49 : decode c_PR_size 49 = .ok (.putfield 118, 3) := by decide +kernel
theorem d_PR_size_52 : decode c_PR_size 52 = .ok (.aload 6, 2) := by decide +kernel
theorem d_PR_size_54 : decode c_PR_size 54 = .ok (.iload 5, 2) := by decide +kernel
theorem d_PR_size_56 : decode c_PR_size 56 = .ok (.putfield 119, 3) := by decide +kernel
theorem d_PR_size_59 : decode c_PR_size 59 = .ok (.return_, 1) := by decide +kernel
theorem d_PR_nature_0 : decode c_PR_nature 0 = .ok (.aload_n 0, 1) := by decide +kernel
theorem d_PR_nature_1 : decode c_PR_nature 1 = .ok (.iload_n 1, 1) := by decide +kernel
theorem d_PR_nature_2 : decode c_PR_nature 2 = .ok (.invokevirtual 109, 3) := by decide +kernel
theorem d_PR_nature_5 : decode c_PR_nature 5 = .ok (.iload_n 2, 1) := by decide +kernel
theorem d_PR_nature_6 : decode c_PR_nature 6 = .ok (.iconst 0, 1) := by decide +kernel
theorem d_PR_nature_7 : decode c_PR_nature 7 = .ok (.bipush 7, 2) := by decide +kernel
theorem d_PR_nature_9 : decode c_PR_nature 9 = .ok (.invokestatic 81, 3) := by decide +kernel
theorem d_PR_nature_12 : decode c_PR_nature 12 = .ok (.iload_n 3, 1) := by decide +kernel
theorem d_PR_nature_13 : decode c_PR_nature 13 = .ok (.iconst 0, 1) := by decide +kernel
theorem d_PR_nature_14 : decode c_PR_nature 14 = .ok (.bipush 7, 2) := by decide +kernel
theorem d_PR_nature_16 : decode c_PR_nature 16 = .ok (.invokestatic 81, 3) := by decide +kernel
theorem d_PR_nature_19 : decode c_PR_nature 19 = .ok (.iload 4, 2) := by decide +kernel
theorem d_PR_nature_21 : decode c_PR_nature 21 = .ok (.iconst 0, 1) := by decide +kernel
theorem d_PR_nature_22 : decode c_PR_nature 22 = .ok (.sipush 1000, 3) := by decide +kernel
theorem d_PR_nature_25 : decode c_PR_nature 25 = .ok (.invokestatic 81, 3) := by decide +kernel
theorem d_PR_nature_28 : decode c_PR_nature 28 = .ok (.aload_n 0, 1) := by decide +kernel
theorem d_PR_nature_29 : decode c_PR_nature 29 = .ok (.iload_n 1, 1) := by decide +kernel
theorem d_PR_nature_30 : decode c_PR_nature 30 = .ok (.invokevirtual 113, 3) := by decide +kernel
theorem d_PR_nature_33 : decode c_PR_nature 33 = .ok (.aload_n 0, 1) := by decide +kernel
theorem d_PR_nature_34 : decode c_PR_nature 34 = .ok (.getfield 17, 3) := by decide +kernel
theorem d_PR_nature_37 : decode c_PR_nature 37 = .ok (.iload_n 1, 1) := by decide +kernel
theorem d_PR_nature_38 : decode c_PR_nature 38 = .ok (.aaload, 1) := by decide +kernel
theorem d_PR_nature_39 : decode c_PR_nature 39 = .ok (.astore 5, 2) := by decide +kernel
theorem d_PR_nature_41 : decode c_PR_nature 41 = .ok (.aload 5, 2) := by decide +kernel
theorem d_PR_nature_43 : decode c_PR_nature 43 = .ok (.iload_n 2, 1) := by decide +kernel
theorem d_PR_nature_44 : decode c_PR_nature 44 = .ok (.putfield 122, 3) := by decide +kernel
theorem d_PR_nature_47 : decode c_PR_nature 47 = .ok (.aload 5, 2) := by decide +kernel
theorem d_PR_nature_49 : decode c_PR_nature 49 = .ok (.iload_n 3, 1) := by decide +kernel
theorem d_PR_nature_50 : decode c_PR_nature 50 = .ok (.putfield 125, 3) := by decide +kernel
theorem d_PR_nature_53 : decode c_PR_nature 53 = .ok (.aload 5, 2) := by decide +kernel
theorem d_PR_nature_55 : decode c_PR_nature 55 = .ok (.iload 4, 2) := by decide +kernel
theorem d_PR_nature_57 : decode c_PR_nature 57 = .ok (.putfield 128, 3) := by decide +kernel
theorem d_PR_nature_60 : decode c_PR_nature 60 = .ok (.return_, 1) := by decide +kernel
theorem d_PR_rule_0 : decode c_PR_rule 0 = .ok (.iload_n 1, 1) := by decide +kernel
theorem d_PR_rule_1 : decode c_PR_rule 1 = .ok (.iconst 1, 1) := by decide +kernel
theorem d_PR_rule_2 : decode c_PR_rule 2 = .ok (.bipush 100, 2) := by decide +kernel
theorem d_PR_rule_4 : decode c_PR_rule 4 = .ok (.invokestatic 81, 3) := by decide +kernel
theorem d_PR_rule_7 : decode c_PR_rule 7 = .ok (.iload_n 2, 1) := by decide +kernel
theorem d_PR_rule_8 : decode c_PR_rule 8 = .ok (.iconst 0, 1) := by decide +kernel
theorem d_PR_rule_9 : decode c_PR_rule 9 = .ok (.getstatic 131, 3) := by decide +kernel
theorem d_PR_rule_12 : decode c_PR_rule 12 = .ok (.arraylength, 1) := by decide +kernel
theorem d_PR_rule_13 : decode c_PR_rule 13 = .ok (.iconst 1, 1) := by decide +kernel
theorem d_PR_rule_14 : decode c_PR_rule 14 = .ok (.isub, 1) := by decide +kernel
theorem d_PR_rule_15 : decode c_PR_rule 15 = .ok (.invokestatic 81, 3) := by decide +kernel
theorem d_PR_rule_18 : decode c_PR_rule 18 = .ok (.getstatic 131, 3) := by decide +kernel
theorem d_PR_rule_21 : decode c_PR_rule 21 = .ok (.iload_n 2, 1) := by decide +kernel
theorem d_PR_rule_22 : decode c_PR_rule 22 = .ok (.aaload, 1) := by decide +kernel
theorem d_PR_rule_23 : decode c_PR_rule 23 = .ok (.astore 5, 2) := by decide +kernel
theorem d_PR_rule_25 : decode c_PR_rule 25 = .ok (.iload_n 3, 1) := by decide +kernel
theorem d_PR_rule_26 : decode c_PR_rule 26 = .ok (.aload 5, 2) := by decide +kernel
theorem d_PR_rule_28 : decode c_PR_rule 28 = .ok (.getfield 135, 3) := by decide +kernel
theorem d_PR_rule_31 : decode c_PR_rule 31 = .ok (.aload 5, 2) := by decide +kernel
theorem d_PR_rule_33 : decode c_PR_rule 33 = .ok (.getfield 140, 3) := by decide +kernel
theorem d_PR_rule_36 : decode c_PR_rule 36 = .ok (.invokestatic 81, 3) := by decide +kernel
theorem d_PR_rule_39 : decode c_PR_rule 39 = .ok (.iload 4, 2) := by decide +kernel
theorem d_PR_rule_41 : decode c_PR_rule 41 = .ok (.aload 5, 2) := by decide +kernel
theorem d_PR_rule_43 : decode c_PR_rule 43 = .ok (.invokevirtual 143, 3) := by decide +kernel
theorem d_PR_rule_46 : decode c_PR_rule 46 = .ok (.aload 5, 2) := by decide +kernel
theorem d_PR_rule_48 : decode c_PR_rule 48 = .ok (.invokevirtual 147, 3) := by decide +kernel
theorem d_PR_rule_51 : decode c_PR_rule 51 = .ok (.invokestatic 81, 3) := by decide +kernel
theorem d_PR_rule_54 : decode c_PR_rule 54 = .ok (.aload_n 0, 1) := by decide +kernel
theorem d_PR_rule_55 : decode c_PR_rule 55 = .ok (.getfield 30, 3) := by decide +kernel
theorem d_PR_rule_58 : decode c_PR_rule 58 = .ok (.invokevirtual 150, 3) := by decide +kernel
theorem d_PR_rule_61 : decode c_PR_rule 61 = .ok (.ifCond .gt 13, 3) := by decide +kernel
theorem d_PR_rule_64 : decode c_PR_rule 64 = .ok (.new 93, 3) := by decide +kernel
theorem d_PR_rule_67 : decode c_PR_rule 67 = .ok (.dup, 1) := by decide +kernel
theorem d_PR_rule_68 : decode c_PR_rule 68 = .ok (.ldc 153, 2) := by decide +kernel
theorem d_PR_rule_70 : decode c_PR_rule 70 = .ok (.invokespecial 97, 3) := by decide +kernel
theorem d_PR_rule_73 : decode c_PR_rule 73 = .ok (.athrow, 1) := by decide +kernel
theorem d_PR_rule_74 : decode c_PR_rule 74 = .ok (.aload_n 0, 1) := by decide +kernel
theorem d_PR_rule_75 : decode c_PR_rule 75 = .ok (.getfield 30, 3) := by decide +kernel
theorem d_PR_rule_78 : decode c_PR_rule 78 = .ok (.iload_n 1, 1) := by decide +kernel
theorem d_PR_rule_79 : decode c_PR_rule 79 = .ok (.aload 5, 2) := by decide +kernel
theorem d_PR_rule_81 : decode c_PR_rule 81 = .ok (.iload_n 3, 1) := by decide +kernel
theorem d_PR_rule_82 : decode c_PR_rule 82 = .ok (.iload 4, 2) := by decide +kernel
theorem d_PR_rule_84 : decode c_PR_rule 84 = .ok (.invokevirtual 155, 3) := by decide +kernel
theorem d_PR_rule_87 : decode c_PR_rule 87 = .ok (.ireturn, 1) := by decide +kernel
theorem d_PR_sign_0 : decode c_PR_sign 0 = .ok (.aload_n 0, 1) := by decide +kernel
theorem d_PR_sign_1 : decode c_PR_sign 1 = .ok (.getfield 44, 3) := by decide +kernel
theorem d_PR_sign_4 : decode c_PR_sign 4 = .ok (.iload_n 1, 1) := by decide +kernel
theorem d_PR_sign_5 : decode c_PR_sign 5 = .ok (.sipush 255, 3) := by decide +kernel
theorem d_PR_sign_8 : decode c_PR_sign 8 = .ok (.iand, 1) := by decide +kernel
theorem d_PR_sign_9 : decode c_PR_sign 9 = .ok (.invokevirtual 159, 3) := by decide +kernel
theorem d_PR_sign_12 : decode c_PR_sign 12 = .ok (.ireturn, 1) := by decide +kernel
theorem d_PR_read_0 : decode c_PR_read 0 = .ok (.aload_n 0, 1) := by decide +kernel
theorem d_PR_read_1 : decode c_PR_read 1 = .ok (.getfield 44, 3) := by decide +kernel
theorem d_PR_read_4 : decode c_PR_read 4 = .ok (.aload_n 0, 1) := by decide +kernel
theorem d_PR_read_5 : decode c_PR_read 5 = .ok (.getfield 30, 3) := by decide +kernel
theorem d_PR_read_8 : decode c_PR_read 8 = .ok (.invokevirtual 150, 3) := by decide +kernel
theorem d_PR_read_11 : decode c_PR_read 11 = .ok (.invokevirtual 163, 3) := by decide +kernel
theorem d_PR_read_14 : decode c_PR_read 14 = .ok (.istore_n 1, 1) := by decide +kernel
theorem d_PR_read_15 : decode c_PR_read 15 = .ok (.iconst 0, 1) := by decide +kernel
theorem d_PR_read_16 : decode c_PR_read 16 = .ok (.istore_n 2, 1) := by decide +kernel
theorem d_PR_read_17 : decode c_PR_read 17 = .ok (.iload_n 2, 1) := by decide +kernel
theorem d_PR_read_18 : decode c_PR_read 18 = .ok (.iload_n 1, 1) := by decide +kernel
end
