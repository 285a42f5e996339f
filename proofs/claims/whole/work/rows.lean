section
-- ===== PART A: goes FIRST, ahead of the names: the tables' words, and 'selects' of the private methods out of them =====
/-- a private method of a class that the tables say can be made, by its rows of tables_1 -/
def lw_okq (q : MethodName × Nat) : Prop := (q.1.cls ≠ "java/lang/invoke/MethodHandle" ∧ q.1.cls ≠ "java/lang/invoke/VarHandle") ∧ Cond.instantiable q.1.cls q.2 ∈ tables_1 ∧ Cond.privateMethod q.1 ∈ tables_1 ∧ Cond.instanceMethod q.1 ∈ tables_1
theorem lw_p0 : lw_okq (⟨"FormFields$Calculator", "gatherNeeds", "()J"⟩, 5) := ⟨⟨by decide +kernel, by decide +kernel⟩, List.mem_of_getElem? (i := 169) (by decide +kernel), List.mem_of_getElem? (i := 279) (by decide +kernel), List.mem_of_getElem? (i := 280) (by decide +kernel)⟩
theorem lw_p1 : lw_okq (⟨"java/lang/Throwable", "fillInStackTrace", "(I)Ljava/lang/Throwable;"⟩, 6) := ⟨⟨by decide +kernel, by decide +kernel⟩, List.mem_of_getElem? (i := 332) (by decide +kernel), List.mem_of_getElem? (i := 330) (by decide +kernel), List.mem_of_getElem? (i := 331) (by decide +kernel)⟩
theorem lw_p2 : lw_okq (⟨"FormFields$Calculator", "needsOf", "(LFormFields$Field;)J"⟩, 5) := ⟨⟨by decide +kernel, by decide +kernel⟩, List.mem_of_getElem? (i := 169) (by decide +kernel), List.mem_of_getElem? (i := 358) (by decide +kernel), List.mem_of_getElem? (i := 359) (by decide +kernel)⟩
theorem lw_p3 : lw_okq (⟨"FormFields$Calculator", "numbersIn", "(I)J"⟩, 5) := ⟨⟨by decide +kernel, by decide +kernel⟩, List.mem_of_getElem? (i := 169) (by decide +kernel), List.mem_of_getElem? (i := 365) (by decide +kernel), List.mem_of_getElem? (i := 366) (by decide +kernel)⟩
theorem lw_p4 : lw_okq (⟨"FormFields$Calculator", "leastInRing", "()I"⟩, 5) := ⟨⟨by decide +kernel, by decide +kernel⟩, List.mem_of_getElem? (i := 169) (by decide +kernel), List.mem_of_getElem? (i := 374) (by decide +kernel), List.mem_of_getElem? (i := 375) (by decide +kernel)⟩
theorem lw_p5 : lw_okq (⟨"FormFields$Calculator", "leastReady", "(J)I"⟩, 5) := ⟨⟨by decide +kernel, by decide +kernel⟩, List.mem_of_getElem? (i := 169) (by decide +kernel), List.mem_of_getElem? (i := 388) (by decide +kernel), List.mem_of_getElem? (i := 389) (by decide +kernel)⟩
theorem lw_p6 : lw_okq (⟨"FormFields$Calculator", "resultOf", "(LFormFields$Field;)J"⟩, 5) := ⟨⟨by decide +kernel, by decide +kernel⟩, List.mem_of_getElem? (i := 169) (by decide +kernel), List.mem_of_getElem? (i := 392) (by decide +kernel), List.mem_of_getElem? (i := 393) (by decide +kernel)⟩
theorem lw_p7 : lw_okq (⟨"FormFields$Calculator", "sumOf", "(J)J"⟩, 5) := ⟨⟨by decide +kernel, by decide +kernel⟩, List.mem_of_getElem? (i := 169) (by decide +kernel), List.mem_of_getElem? (i := 397) (by decide +kernel), List.mem_of_getElem? (i := 398) (by decide +kernel)⟩
theorem lw_p8 : lw_okq (⟨"FormFields$Calculator", "writeResult", "(IJ)I"⟩, 5) := ⟨⟨by decide +kernel, by decide +kernel⟩, List.mem_of_getElem? (i := 169) (by decide +kernel), List.mem_of_getElem? (i := 448) (by decide +kernel), List.mem_of_getElem? (i := 449) (by decide +kernel)⟩
theorem lw_p9 : lw_okq (⟨"FormFields$Writer", "addFullName", "(I)V"⟩, 3) := ⟨⟨by decide +kernel, by decide +kernel⟩, List.mem_of_getElem? (i := 195) (by decide +kernel), List.mem_of_getElem? (i := 508) (by decide +kernel), List.mem_of_getElem? (i := 509) (by decide +kernel)⟩
theorem lw_p10 : lw_okq (⟨"FormFields$Writer", "addContent", "(LFormFields$Field;)V"⟩, 3) := ⟨⟨by decide +kernel, by decide +kernel⟩, List.mem_of_getElem? (i := 195) (by decide +kernel), List.mem_of_getElem? (i := 517) (by decide +kernel), List.mem_of_getElem? (i := 518) (by decide +kernel)⟩
theorem lw_p11 : lw_okq (⟨"FormFields$View", "showNumber", "(LFormFields$Field;)V"⟩, 1) := ⟨⟨by decide +kernel, by decide +kernel⟩, List.mem_of_getElem? (i := 157) (by decide +kernel), List.mem_of_getElem? (i := 778) (by decide +kernel), List.mem_of_getElem? (i := 779) (by decide +kernel)⟩
theorem lw_p12 : lw_okq (⟨"FormFields", "masterWithValue", "(I)LFormFields$Field;"⟩, 7) := ⟨⟨by decide +kernel, by decide +kernel⟩, List.mem_of_getElem? (i := 24) (by decide +kernel), List.mem_of_getElem? (i := 805) (by decide +kernel), List.mem_of_getElem? (i := 806) (by decide +kernel)⟩
theorem lw_p13 : lw_okq (⟨"FormFields$Reader", "checkAll", "()I"⟩, 2) := ⟨⟨by decide +kernel, by decide +kernel⟩, List.mem_of_getElem? (i := 214) (by decide +kernel), List.mem_of_getElem? (i := 919) (by decide +kernel), List.mem_of_getElem? (i := 920) (by decide +kernel)⟩
theorem lw_p14 : lw_okq (⟨"FormFields$Reader", "endOf", "(I)I"⟩, 2) := ⟨⟨by decide +kernel, by decide +kernel⟩, List.mem_of_getElem? (i := 214) (by decide +kernel), List.mem_of_getElem? (i := 924) (by decide +kernel), List.mem_of_getElem? (i := 925) (by decide +kernel)⟩
theorem lw_p15 : lw_okq (⟨"FormFields$Reader", "next", "(III)I"⟩, 2) := ⟨⟨by decide +kernel, by decide +kernel⟩, List.mem_of_getElem? (i := 214) (by decide +kernel), List.mem_of_getElem? (i := 928) (by decide +kernel), List.mem_of_getElem? (i := 929) (by decide +kernel)⟩
def lw_privs_1 : List (MethodName × Nat) := [(⟨"FormFields$Calculator", "gatherNeeds", "()J"⟩, 5), (⟨"java/lang/Throwable", "fillInStackTrace", "(I)Ljava/lang/Throwable;"⟩, 6), (⟨"FormFields$Calculator", "needsOf", "(LFormFields$Field;)J"⟩, 5), (⟨"FormFields$Calculator", "numbersIn", "(I)J"⟩, 5), (⟨"FormFields$Calculator", "leastInRing", "()I"⟩, 5), (⟨"FormFields$Calculator", "leastReady", "(J)I"⟩, 5), (⟨"FormFields$Calculator", "resultOf", "(LFormFields$Field;)J"⟩, 5), (⟨"FormFields$Calculator", "sumOf", "(J)J"⟩, 5), (⟨"FormFields$Calculator", "writeResult", "(IJ)I"⟩, 5), (⟨"FormFields$Writer", "addFullName", "(I)V"⟩, 3), (⟨"FormFields$Writer", "addContent", "(LFormFields$Field;)V"⟩, 3), (⟨"FormFields$View", "showNumber", "(LFormFields$Field;)V"⟩, 1), (⟨"FormFields", "masterWithValue", "(I)LFormFields$Field;"⟩, 7), (⟨"FormFields$Reader", "checkAll", "()I"⟩, 2), (⟨"FormFields$Reader", "endOf", "(I)I"⟩, 2), (⟨"FormFields$Reader", "next", "(III)I"⟩, 2)]
theorem lw_r1 : ∀ q ∈ lw_privs_1, lw_okq q := List.forall_mem_cons.mpr ⟨lw_p0, List.forall_mem_cons.mpr ⟨lw_p1, List.forall_mem_cons.mpr ⟨lw_p2, List.forall_mem_cons.mpr ⟨lw_p3, List.forall_mem_cons.mpr ⟨lw_p4, List.forall_mem_cons.mpr ⟨lw_p5, List.forall_mem_cons.mpr ⟨lw_p6, List.forall_mem_cons.mpr ⟨lw_p7, List.forall_mem_cons.mpr ⟨lw_p8, List.forall_mem_cons.mpr ⟨lw_p9, List.forall_mem_cons.mpr ⟨lw_p10, List.forall_mem_cons.mpr ⟨lw_p11, List.forall_mem_cons.mpr ⟨lw_p12, List.forall_mem_cons.mpr ⟨lw_p13, List.forall_mem_cons.mpr ⟨lw_p14, List.forall_mem_cons.mpr ⟨lw_p15, fun _ h => absurd h List.not_mem_nil⟩⟩⟩⟩⟩⟩⟩⟩⟩⟩⟩⟩⟩⟩⟩⟩
theorem lw_p16 : lw_okq (⟨"FormFields$Reader", "isGood", "(II)Z"⟩, 2) := ⟨⟨by decide +kernel, by decide +kernel⟩, List.mem_of_getElem? (i := 214) (by decide +kernel), List.mem_of_getElem? (i := 933) (by decide +kernel), List.mem_of_getElem? (i := 934) (by decide +kernel)⟩
theorem lw_p17 : lw_okq (⟨"FormFields$Reader", "masterNamed", "(II)I"⟩, 2) := ⟨⟨by decide +kernel, by decide +kernel⟩, List.mem_of_getElem? (i := 214) (by decide +kernel), List.mem_of_getElem? (i := 937) (by decide +kernel), List.mem_of_getElem? (i := 938) (by decide +kernel)⟩
theorem lw_p18 : lw_okq (⟨"FormFields$Reader", "plainNumber", "(II)I"⟩, 2) := ⟨⟨by decide +kernel, by decide +kernel⟩, List.mem_of_getElem? (i := 214) (by decide +kernel), List.mem_of_getElem? (i := 941) (by decide +kernel), List.mem_of_getElem? (i := 942) (by decide +kernel)⟩
theorem lw_p19 : lw_okq (⟨"FormFields$Reader", "couldTake", "(LFormFields$Field;II)Z"⟩, 2) := ⟨⟨by decide +kernel, by decide +kernel⟩, List.mem_of_getElem? (i := 214) (by decide +kernel), List.mem_of_getElem? (i := 949) (by decide +kernel), List.mem_of_getElem? (i := 950) (by decide +kernel)⟩
theorem lw_p20 : lw_okq (⟨"FormFields$Reader", "couldTakeSigns", "(LFormFields$Field;II)Z"⟩, 2) := ⟨⟨by decide +kernel, by decide +kernel⟩, List.mem_of_getElem? (i := 214) (by decide +kernel), List.mem_of_getElem? (i := 954) (by decide +kernel), List.mem_of_getElem? (i := 955) (by decide +kernel)⟩
theorem lw_p21 : lw_okq (⟨"FormFields$Reader", "takeAll", "(I)V"⟩, 2) := ⟨⟨by decide +kernel, by decide +kernel⟩, List.mem_of_getElem? (i := 214) (by decide +kernel), List.mem_of_getElem? (i := 963) (by decide +kernel), List.mem_of_getElem? (i := 964) (by decide +kernel)⟩
theorem lw_p22 : lw_okq (⟨"FormFields$Reader", "take", "(II)V"⟩, 2) := ⟨⟨by decide +kernel, by decide +kernel⟩, List.mem_of_getElem? (i := 214) (by decide +kernel), List.mem_of_getElem? (i := 967) (by decide +kernel), List.mem_of_getElem? (i := 968) (by decide +kernel)⟩
theorem lw_p23 : lw_okq (⟨"FormFieldsModel", "no", "(I)Z"⟩, 38) := ⟨⟨by decide +kernel, by decide +kernel⟩, List.mem_of_getElem? (i := 980) (by decide +kernel), List.mem_of_getElem? (i := 1110) (by decide +kernel), List.mem_of_getElem? (i := 1111) (by decide +kernel)⟩
theorem lw_p24 : lw_okq (⟨"FormFieldsModel", "lookUp", "(II)I"⟩, 38) := ⟨⟨by decide +kernel, by decide +kernel⟩, List.mem_of_getElem? (i := 980) (by decide +kernel), List.mem_of_getElem? (i := 1119) (by decide +kernel), List.mem_of_getElem? (i := 1120) (by decide +kernel)⟩
theorem lw_p25 : lw_okq (⟨"FormFieldsModel", "isSameName", "(II)Z"⟩, 38) := ⟨⟨by decide +kernel, by decide +kernel⟩, List.mem_of_getElem? (i := 980) (by decide +kernel), List.mem_of_getElem? (i := 1123) (by decide +kernel), List.mem_of_getElem? (i := 1124) (by decide +kernel)⟩
theorem lw_p26 : lw_okq (⟨"FormFieldsModel", "isSigned", "(I)Z"⟩, 38) := ⟨⟨by decide +kernel, by decide +kernel⟩, List.mem_of_getElem? (i := 980) (by decide +kernel), List.mem_of_getElem? (i := 1133) (by decide +kernel), List.mem_of_getElem? (i := 1134) (by decide +kernel)⟩
theorem lw_p27 : lw_okq (⟨"FormFieldsModel", "isSign", "(II)Z"⟩, 38) := ⟨⟨by decide +kernel, by decide +kernel⟩, List.mem_of_getElem? (i := 980) (by decide +kernel), List.mem_of_getElem? (i := 1137) (by decide +kernel), List.mem_of_getElem? (i := 1138) (by decide +kernel)⟩
theorem lw_p28 : lw_okq (⟨"FormFieldsModel", "isPicked", "(I)Z"⟩, 38) := ⟨⟨by decide +kernel, by decide +kernel⟩, List.mem_of_getElem? (i := 980) (by decide +kernel), List.mem_of_getElem? (i := 1146) (by decide +kernel), List.mem_of_getElem? (i := 1147) (by decide +kernel)⟩
theorem lw_p29 : lw_okq (⟨"FormFieldsModel", "mayPick", "(II)Z"⟩, 38) := ⟨⟨by decide +kernel, by decide +kernel⟩, List.mem_of_getElem? (i := 980) (by decide +kernel), List.mem_of_getElem? (i := 1150) (by decide +kernel), List.mem_of_getElem? (i := 1151) (by decide +kernel)⟩
theorem lw_p30 : lw_okq (⟨"FormFieldsModel", "most", "(I)I"⟩, 38) := ⟨⟨by decide +kernel, by decide +kernel⟩, List.mem_of_getElem? (i := 980) (by decide +kernel), List.mem_of_getElem? (i := 1154) (by decide +kernel), List.mem_of_getElem? (i := 1155) (by decide +kernel)⟩
theorem lw_p31 : lw_okq (⟨"FormFieldsModel", "maySet", "(III)Z"⟩, 38) := ⟨⟨by decide +kernel, by decide +kernel⟩, List.mem_of_getElem? (i := 980) (by decide +kernel), List.mem_of_getElem? (i := 1167) (by decide +kernel), List.mem_of_getElem? (i := 1168) (by decide +kernel)⟩
def lw_privs_2 : List (MethodName × Nat) := [(⟨"FormFields$Reader", "isGood", "(II)Z"⟩, 2), (⟨"FormFields$Reader", "masterNamed", "(II)I"⟩, 2), (⟨"FormFields$Reader", "plainNumber", "(II)I"⟩, 2), (⟨"FormFields$Reader", "couldTake", "(LFormFields$Field;II)Z"⟩, 2), (⟨"FormFields$Reader", "couldTakeSigns", "(LFormFields$Field;II)Z"⟩, 2), (⟨"FormFields$Reader", "takeAll", "(I)V"⟩, 2), (⟨"FormFields$Reader", "take", "(II)V"⟩, 2), (⟨"FormFieldsModel", "no", "(I)Z"⟩, 38), (⟨"FormFieldsModel", "lookUp", "(II)I"⟩, 38), (⟨"FormFieldsModel", "isSameName", "(II)Z"⟩, 38), (⟨"FormFieldsModel", "isSigned", "(I)Z"⟩, 38), (⟨"FormFieldsModel", "isSign", "(II)Z"⟩, 38), (⟨"FormFieldsModel", "isPicked", "(I)Z"⟩, 38), (⟨"FormFieldsModel", "mayPick", "(II)Z"⟩, 38), (⟨"FormFieldsModel", "most", "(I)I"⟩, 38), (⟨"FormFieldsModel", "maySet", "(III)Z"⟩, 38)]
theorem lw_r2 : ∀ q ∈ lw_privs_2, lw_okq q := List.forall_mem_cons.mpr ⟨lw_p16, List.forall_mem_cons.mpr ⟨lw_p17, List.forall_mem_cons.mpr ⟨lw_p18, List.forall_mem_cons.mpr ⟨lw_p19, List.forall_mem_cons.mpr ⟨lw_p20, List.forall_mem_cons.mpr ⟨lw_p21, List.forall_mem_cons.mpr ⟨lw_p22, List.forall_mem_cons.mpr ⟨lw_p23, List.forall_mem_cons.mpr ⟨lw_p24, List.forall_mem_cons.mpr ⟨lw_p25, List.forall_mem_cons.mpr ⟨lw_p26, List.forall_mem_cons.mpr ⟨lw_p27, List.forall_mem_cons.mpr ⟨lw_p28, List.forall_mem_cons.mpr ⟨lw_p29, List.forall_mem_cons.mpr ⟨lw_p30, List.forall_mem_cons.mpr ⟨lw_p31, fun _ h => absurd h List.not_mem_nil⟩⟩⟩⟩⟩⟩⟩⟩⟩⟩⟩⟩⟩⟩⟩⟩
theorem lw_p32 : lw_okq (⟨"FormFieldsModel", "isAmount", "(I)Z"⟩, 38) := ⟨⟨by decide +kernel, by decide +kernel⟩, List.mem_of_getElem? (i := 980) (by decide +kernel), List.mem_of_getElem? (i := 1185) (by decide +kernel), List.mem_of_getElem? (i := 1186) (by decide +kernel)⟩
theorem lw_p33 : lw_okq (⟨"FormFieldsModel", "learn", "()V"⟩, 38) := ⟨⟨by decide +kernel, by decide +kernel⟩, List.mem_of_getElem? (i := 980) (by decide +kernel), List.mem_of_getElem? (i := 1193) (by decide +kernel), List.mem_of_getElem? (i := 1194) (by decide +kernel)⟩
theorem lw_p34 : lw_okq (⟨"FormFieldsModel", "isFormula", "(I)Z"⟩, 38) := ⟨⟨by decide +kernel, by decide +kernel⟩, List.mem_of_getElem? (i := 980) (by decide +kernel), List.mem_of_getElem? (i := 1197) (by decide +kernel), List.mem_of_getElem? (i := 1198) (by decide +kernel)⟩
theorem lw_p35 : lw_okq (⟨"FormFieldsModel", "has", "(II)Z"⟩, 38) := ⟨⟨by decide +kernel, by decide +kernel⟩, List.mem_of_getElem? (i := 980) (by decide +kernel), List.mem_of_getElem? (i := 1201) (by decide +kernel), List.mem_of_getElem? (i := 1202) (by decide +kernel)⟩
theorem lw_p36 : lw_okq (⟨"FormFieldsModel", "isUnder", "(II)Z"⟩, 38) := ⟨⟨by decide +kernel, by decide +kernel⟩, List.mem_of_getElem? (i := 980) (by decide +kernel), List.mem_of_getElem? (i := 1205) (by decide +kernel), List.mem_of_getElem? (i := 1206) (by decide +kernel)⟩
theorem lw_p37 : lw_okq (⟨"FormFieldsModel", "ring", "()I"⟩, 38) := ⟨⟨by decide +kernel, by decide +kernel⟩, List.mem_of_getElem? (i := 980) (by decide +kernel), List.mem_of_getElem? (i := 1209) (by decide +kernel), List.mem_of_getElem? (i := 1210) (by decide +kernel)⟩
theorem lw_p38 : lw_okq (⟨"FormFieldsModel", "isReady", "(I)Z"⟩, 38) := ⟨⟨by decide +kernel, by decide +kernel⟩, List.mem_of_getElem? (i := 980) (by decide +kernel), List.mem_of_getElem? (i := 1213) (by decide +kernel), List.mem_of_getElem? (i := 1214) (by decide +kernel)⟩
theorem lw_p39 : lw_okq (⟨"FormFieldsModel", "work", "(I)Z"⟩, 38) := ⟨⟨by decide +kernel, by decide +kernel⟩, List.mem_of_getElem? (i := 980) (by decide +kernel), List.mem_of_getElem? (i := 1217) (by decide +kernel), List.mem_of_getElem? (i := 1218) (by decide +kernel)⟩
theorem lw_p40 : lw_okq (⟨"FormFieldsModel", "result", "(I)J"⟩, 38) := ⟨⟨by decide +kernel, by decide +kernel⟩, List.mem_of_getElem? (i := 980) (by decide +kernel), List.mem_of_getElem? (i := 1221) (by decide +kernel), List.mem_of_getElem? (i := 1222) (by decide +kernel)⟩
theorem lw_p41 : lw_okq (⟨"FormFieldsModel", "group", "(I)J"⟩, 38) := ⟨⟨by decide +kernel, by decide +kernel⟩, List.mem_of_getElem? (i := 980) (by decide +kernel), List.mem_of_getElem? (i := 1226) (by decide +kernel), List.mem_of_getElem? (i := 1227) (by decide +kernel)⟩
theorem lw_p42 : lw_okq (⟨"FormFieldsModel", "amountOf", "(I)J"⟩, 38) := ⟨⟨by decide +kernel, by decide +kernel⟩, List.mem_of_getElem? (i := 980) (by decide +kernel), List.mem_of_getElem? (i := 1230) (by decide +kernel), List.mem_of_getElem? (i := 1231) (by decide +kernel)⟩
theorem lw_p43 : lw_okq (⟨"FormFieldsModel", "product", "(JJ)J"⟩, 38) := ⟨⟨by decide +kernel, by decide +kernel⟩, List.mem_of_getElem? (i := 980) (by decide +kernel), List.mem_of_getElem? (i := 1238) (by decide +kernel), List.mem_of_getElem? (i := 1239) (by decide +kernel)⟩
theorem lw_p44 : lw_okq (⟨"FormFieldsModel", "putAmount", "(J)V"⟩, 38) := ⟨⟨by decide +kernel, by decide +kernel⟩, List.mem_of_getElem? (i := 980) (by decide +kernel), List.mem_of_getElem? (i := 1246) (by decide +kernel), List.mem_of_getElem? (i := 1247) (by decide +kernel)⟩
theorem lw_p45 : lw_okq (⟨"FormFieldsModel", "put", "(I)V"⟩, 38) := ⟨⟨by decide +kernel, by decide +kernel⟩, List.mem_of_getElem? (i := 980) (by decide +kernel), List.mem_of_getElem? (i := 1250) (by decide +kernel), List.mem_of_getElem? (i := 1251) (by decide +kernel)⟩
theorem lw_p46 : lw_okq (⟨"FormFieldsModel", "putNumber", "(JZ)V"⟩, 38) := ⟨⟨by decide +kernel, by decide +kernel⟩, List.mem_of_getElem? (i := 980) (by decide +kernel), List.mem_of_getElem? (i := 1254) (by decide +kernel), List.mem_of_getElem? (i := 1255) (by decide +kernel)⟩
theorem lw_p47 : lw_okq (⟨"FormFieldsModel", "show", "(I)V"⟩, 38) := ⟨⟨by decide +kernel, by decide +kernel⟩, List.mem_of_getElem? (i := 980) (by decide +kernel), List.mem_of_getElem? (i := 1271) (by decide +kernel), List.mem_of_getElem? (i := 1272) (by decide +kernel)⟩
def lw_privs_3 : List (MethodName × Nat) := [(⟨"FormFieldsModel", "isAmount", "(I)Z"⟩, 38), (⟨"FormFieldsModel", "learn", "()V"⟩, 38), (⟨"FormFieldsModel", "isFormula", "(I)Z"⟩, 38), (⟨"FormFieldsModel", "has", "(II)Z"⟩, 38), (⟨"FormFieldsModel", "isUnder", "(II)Z"⟩, 38), (⟨"FormFieldsModel", "ring", "()I"⟩, 38), (⟨"FormFieldsModel", "isReady", "(I)Z"⟩, 38), (⟨"FormFieldsModel", "work", "(I)Z"⟩, 38), (⟨"FormFieldsModel", "result", "(I)J"⟩, 38), (⟨"FormFieldsModel", "group", "(I)J"⟩, 38), (⟨"FormFieldsModel", "amountOf", "(I)J"⟩, 38), (⟨"FormFieldsModel", "product", "(JJ)J"⟩, 38), (⟨"FormFieldsModel", "putAmount", "(J)V"⟩, 38), (⟨"FormFieldsModel", "put", "(I)V"⟩, 38), (⟨"FormFieldsModel", "putNumber", "(JZ)V"⟩, 38), (⟨"FormFieldsModel", "show", "(I)V"⟩, 38)]
theorem lw_r3 : ∀ q ∈ lw_privs_3, lw_okq q := List.forall_mem_cons.mpr ⟨lw_p32, List.forall_mem_cons.mpr ⟨lw_p33, List.forall_mem_cons.mpr ⟨lw_p34, List.forall_mem_cons.mpr ⟨lw_p35, List.forall_mem_cons.mpr ⟨lw_p36, List.forall_mem_cons.mpr ⟨lw_p37, List.forall_mem_cons.mpr ⟨lw_p38, List.forall_mem_cons.mpr ⟨lw_p39, List.forall_mem_cons.mpr ⟨lw_p40, List.forall_mem_cons.mpr ⟨lw_p41, List.forall_mem_cons.mpr ⟨lw_p42, List.forall_mem_cons.mpr ⟨lw_p43, List.forall_mem_cons.mpr ⟨lw_p44, List.forall_mem_cons.mpr ⟨lw_p45, List.forall_mem_cons.mpr ⟨lw_p46, List.forall_mem_cons.mpr ⟨lw_p47, fun _ h => absurd h List.not_mem_nil⟩⟩⟩⟩⟩⟩⟩⟩⟩⟩⟩⟩⟩⟩⟩⟩
theorem lw_p48 : lw_okq (⟨"FormFieldsModel", "putRounded", "(IJ)V"⟩, 38) := ⟨⟨by decide +kernel, by decide +kernel⟩, List.mem_of_getElem? (i := 980) (by decide +kernel), List.mem_of_getElem? (i := 1275) (by decide +kernel), List.mem_of_getElem? (i := 1276) (by decide +kernel)⟩
theorem lw_p49 : lw_okq (⟨"FormFieldsModel", "putSigns", "(I)V"⟩, 38) := ⟨⟨by decide +kernel, by decide +kernel⟩, List.mem_of_getElem? (i := 980) (by decide +kernel), List.mem_of_getElem? (i := 1279) (by decide +kernel), List.mem_of_getElem? (i := 1280) (by decide +kernel)⟩
theorem lw_p50 : lw_okq (⟨"FormFieldsModel", "checkField", "(I)I"⟩, 38) := ⟨⟨by decide +kernel, by decide +kernel⟩, List.mem_of_getElem? (i := 980) (by decide +kernel), List.mem_of_getElem? (i := 1287) (by decide +kernel), List.mem_of_getElem? (i := 1288) (by decide +kernel)⟩
theorem lw_p51 : lw_okq (⟨"FormFieldsModel", "sizeOf", "(I)I"⟩, 38) := ⟨⟨by decide +kernel, by decide +kernel⟩, List.mem_of_getElem? (i := 980) (by decide +kernel), List.mem_of_getElem? (i := 1291) (by decide +kernel), List.mem_of_getElem? (i := 1292) (by decide +kernel)⟩
theorem lw_p52 : lw_okq (⟨"FormFieldsModel", "cells", "(I)I"⟩, 38) := ⟨⟨by decide +kernel, by decide +kernel⟩, List.mem_of_getElem? (i := 980) (by decide +kernel), List.mem_of_getElem? (i := 1295) (by decide +kernel), List.mem_of_getElem? (i := 1296) (by decide +kernel)⟩
theorem lw_p53 : lw_okq (⟨"FormFieldsModel", "make", "(I[I)I"⟩, 38) := ⟨⟨by decide +kernel, by decide +kernel⟩, List.mem_of_getElem? (i := 980) (by decide +kernel), List.mem_of_getElem? (i := 1307) (by decide +kernel), List.mem_of_getElem? (i := 1308) (by decide +kernel)⟩
theorem lw_p54 : lw_okq (⟨"FormFieldsModel", "isMaster", "(I)Z"⟩, 38) := ⟨⟨by decide +kernel, by decide +kernel⟩, List.mem_of_getElem? (i := 980) (by decide +kernel), List.mem_of_getElem? (i := 1331) (by decide +kernel), List.mem_of_getElem? (i := 1332) (by decide +kernel)⟩
theorem lw_p55 : lw_okq (⟨"FormFieldsModel", "nameOut", "(I)V"⟩, 38) := ⟨⟨by decide +kernel, by decide +kernel⟩, List.mem_of_getElem? (i := 980) (by decide +kernel), List.mem_of_getElem? (i := 1335) (by decide +kernel), List.mem_of_getElem? (i := 1336) (by decide +kernel)⟩
theorem lw_p56 : lw_okq (⟨"FormFieldsModel", "out", "()V"⟩, 38) := ⟨⟨by decide +kernel, by decide +kernel⟩, List.mem_of_getElem? (i := 980) (by decide +kernel), List.mem_of_getElem? (i := 1339) (by decide +kernel), List.mem_of_getElem? (i := 1340) (by decide +kernel)⟩
theorem lw_p57 : lw_okq (⟨"FormFieldsModel", "putValue", "(I)V"⟩, 38) := ⟨⟨by decide +kernel, by decide +kernel⟩, List.mem_of_getElem? (i := 980) (by decide +kernel), List.mem_of_getElem? (i := 1343) (by decide +kernel), List.mem_of_getElem? (i := 1344) (by decide +kernel)⟩
theorem lw_p58 : lw_okq (⟨"FormFieldsModel", "readAll", "()I"⟩, 38) := ⟨⟨by decide +kernel, by decide +kernel⟩, List.mem_of_getElem? (i := 980) (by decide +kernel), List.mem_of_getElem? (i := 1356) (by decide +kernel), List.mem_of_getElem? (i := 1357) (by decide +kernel)⟩
theorem lw_p59 : lw_okq (⟨"FormFieldsModel", "goOver", "(Z)I"⟩, 38) := ⟨⟨by decide +kernel, by decide +kernel⟩, List.mem_of_getElem? (i := 980) (by decide +kernel), List.mem_of_getElem? (i := 1360) (by decide +kernel), List.mem_of_getElem? (i := 1361) (by decide +kernel)⟩
theorem lw_p60 : lw_okq (⟨"FormFieldsModel", "takeLine", "(IIZ)Z"⟩, 38) := ⟨⟨by decide +kernel, by decide +kernel⟩, List.mem_of_getElem? (i := 980) (by decide +kernel), List.mem_of_getElem? (i := 1364) (by decide +kernel), List.mem_of_getElem? (i := 1365) (by decide +kernel)⟩
theorem lw_p61 : lw_okq (⟨"FormFieldsModel", "behindName", "(II)I"⟩, 38) := ⟨⟨by decide +kernel, by decide +kernel⟩, List.mem_of_getElem? (i := 980) (by decide +kernel), List.mem_of_getElem? (i := 1368) (by decide +kernel), List.mem_of_getElem? (i := 1369) (by decide +kernel)⟩
theorem lw_p62 : lw_okq (⟨"FormFieldsModel", "takeValue", "(IIIZ)Z"⟩, 38) := ⟨⟨by decide +kernel, by decide +kernel⟩, List.mem_of_getElem? (i := 980) (by decide +kernel), List.mem_of_getElem? (i := 1372) (by decide +kernel), List.mem_of_getElem? (i := 1373) (by decide +kernel)⟩
def lw_privs_4 : List (MethodName × Nat) := [(⟨"FormFieldsModel", "putRounded", "(IJ)V"⟩, 38), (⟨"FormFieldsModel", "putSigns", "(I)V"⟩, 38), (⟨"FormFieldsModel", "checkField", "(I)I"⟩, 38), (⟨"FormFieldsModel", "sizeOf", "(I)I"⟩, 38), (⟨"FormFieldsModel", "cells", "(I)I"⟩, 38), (⟨"FormFieldsModel", "make", "(I[I)I"⟩, 38), (⟨"FormFieldsModel", "isMaster", "(I)Z"⟩, 38), (⟨"FormFieldsModel", "nameOut", "(I)V"⟩, 38), (⟨"FormFieldsModel", "out", "()V"⟩, 38), (⟨"FormFieldsModel", "putValue", "(I)V"⟩, 38), (⟨"FormFieldsModel", "readAll", "()I"⟩, 38), (⟨"FormFieldsModel", "goOver", "(Z)I"⟩, 38), (⟨"FormFieldsModel", "takeLine", "(IIZ)Z"⟩, 38), (⟨"FormFieldsModel", "behindName", "(II)I"⟩, 38), (⟨"FormFieldsModel", "takeValue", "(IIIZ)Z"⟩, 38)]
theorem lw_r4 : ∀ q ∈ lw_privs_4, lw_okq q := List.forall_mem_cons.mpr ⟨lw_p48, List.forall_mem_cons.mpr ⟨lw_p49, List.forall_mem_cons.mpr ⟨lw_p50, List.forall_mem_cons.mpr ⟨lw_p51, List.forall_mem_cons.mpr ⟨lw_p52, List.forall_mem_cons.mpr ⟨lw_p53, List.forall_mem_cons.mpr ⟨lw_p54, List.forall_mem_cons.mpr ⟨lw_p55, List.forall_mem_cons.mpr ⟨lw_p56, List.forall_mem_cons.mpr ⟨lw_p57, List.forall_mem_cons.mpr ⟨lw_p58, List.forall_mem_cons.mpr ⟨lw_p59, List.forall_mem_cons.mpr ⟨lw_p60, List.forall_mem_cons.mpr ⟨lw_p61, List.forall_mem_cons.mpr ⟨lw_p62, fun _ h => absurd h List.not_mem_nil⟩⟩⟩⟩⟩⟩⟩⟩⟩⟩⟩⟩⟩⟩⟩
def lw_privs : List (MethodName × Nat) := lw_privs_1 ++ (lw_privs_2 ++ (lw_privs_3 ++ (lw_privs_4)))
def lw_tbl : List Cond := k2_sels lw_privs ++ tables_1
theorem lw_privs_ok : ∀ q ∈ lw_privs, lw_okq q := by
  show ∀ q ∈ lw_privs_1 ++ (lw_privs_2 ++ (lw_privs_3 ++ (lw_privs_4))), lw_okq q
  exact List.forall_mem_append.mpr ⟨lw_r1, List.forall_mem_append.mpr ⟨lw_r2, List.forall_mem_append.mpr ⟨lw_r3, lw_r4⟩⟩⟩
end
section
/-! ===== BEGIN words of one list among another's, by their places ===== -/
theorem goodIn_r {big : List Cond} (ws : List Cond) (ps : List Nat) (hp : ws = ps.filterMap (fun i => big[i]?)) (h : ws.all goodWord = true) : GoodIn big ws := by
  intro w hw
  have h1 := List.all_eq_true.mp h w hw
  rw [hp] at hw
  obtain ⟨i, -, hi⟩ := List.mem_filterMap.mp hw
  have hm : w ∈ big := by first | exact List.mem_of_getElem? hi | exact List.getElem?_mem hi
  exact ⟨hm, good_of_word h1⟩
theorem goodIn_app {big a b : List Cond} (ha : GoodIn big a) (hb : GoodIn big b) : GoodIn big (a ++ b) := fun w h => (List.mem_append.mp h).elim (ha w) (hb w)
theorem goodIn_ca {big a b : List Cond} {c : Cond} (ha : GoodIn big (c :: a)) (hb : GoodIn big b) : GoodIn big (c :: (a ++ b)) := fun w h => (List.mem_cons.mp h).elim (fun e => ha w (List.mem_cons.mpr (Or.inl e))) (fun h => (List.mem_append.mp h).elim (fun h => ha w (List.mem_cons.mpr (Or.inr h))) (hb w))
theorem goodIn_sub {big ws : List Cond} (hm : ∀ w ∈ ws, w ∈ big) (h : ws.all goodWord = true) : GoodIn big ws := fun w hw => ⟨hm w hw, good_of_word (List.all_eq_true.mp h w hw)⟩
/-! ===== END ===== -/
/-! ===== BEGIN exceptions that leave a method, and their catching by the caller (launches without stack traces) ===== -/
section VXA
/-! The laws vx_back, vx_callV, vx_callS, vx_callSW, vx_throw0, vx_throwS follow proofs of the library, with one case more: JvmDerived/Free/Laws.lean (Back.of_free), Shelf42/LK1.lean (callV, callS), Shelf/KitTraced.lean (throwNew0V, throwNewS). -/

/-- where a method has thrown q: the class by its name, the cell, what was written, the world -/
def vx_T (XC : String → State → State → Prop) (st : State) (q : Addr) (t : State) (mc ms : Nat) (free : Addr → Prop) : Prop :=
  ∃ (E : String) (ce : Cell) (L : List Loc), XC E st t ∧ t.heap[q]? = some ce ∧ ce.vm = .none ∧ st.vm.findClass E = some ce.cls ∧ st.WarmedH t.vm ∧ st.sameButNew ({ t with vm := st.vm } : State) L mc ms ∧ ∀ z ∈ L, free z.base
def vx_Q (Qc : Array Value → State → Outcome → State → Prop) (XC : String → State → State → Prop) (mc ms : Nat) (free : Addr → Prop) : Array Value → State → Outcome → State → Prop := fun a st o t =>
  (Qc a st o t ∧ ∃ L, FrameEnd st o t L mc ms ∧ ∀ q ∈ L, free q.base) ∨ ∃ q, o = .threw q ∧ vx_T XC st q t mc ms free
/-- a callee that returns or throws -/
def vx_Met (l : Launch) (y : MethodName) (ws : List Cond) (rm : Room) (Pc : Array Value → State → Prop) (Qc : Array Value → State → Outcome → State → Prop) (XC : String → State → State → Prop) (mc ms : Nat) (free : Addr → Prop) : Prop :=
  MetFree l y (headSpec ws rm) Pc (fun _ _ _ _ _ => True) (vx_Q Qc XC mc ms free)
def vx_Post (XC : String → State → State → Prop) (mc ms : Nat) (free : Addr → Prop) : Pt → Array Value → Addr → Pt → Prop := fun A a q B =>
  ∃ (g : JFrame) (mk : MethodId) (t : State) (L : List Loc) (E : String) (ce : Cell), B.U.heap = t.heap ∧ B.U.vm = t.vm ∧ XC E (A.U.calling g mk a) t ∧ t.heap[q]? = some ce ∧ ce.vm = .none ∧ A.U.vm.findClass E = some ce.cls ∧ B.locs = A.locs ++ L ∧ (∀ z ∈ L, free z.base) ∧ B.cells = A.cells + mc ∧ B.slots = A.slots + ms
def vx_Back (l : Launch) (R : Room) (p : Program) (e : Env) (below : List Frame) (s : State) (sargs : Array Value) (y : MethodName) (len W9 : Nat)
    (Pre : Pt → Array Value → Prop) (Post : Pt → Array Value → Option Value → Pt → Prop) (PostX : Pt → Array Value → Addr → Pt → Prop) : Prop :=
  ∀ (m : MethodId) (meth : Method) (c : Code) (A : Pt) (g : JFrame) (ig : Instr) (mk : MethodId) (a : Array Value),
    Stand p l e R s m sargs below meth c A.U A.locs A.cells A.slots → g.method = m → g.locals.size = c.maxLocals → decode c.code g.pc = .ok (ig, len) →
    2 * g.monitorRoom + (g.stack.map fun v => v.category).sum ≤ W9 → A.U.methodNamed? y = some mk → Pre A a →
    (∃ (v : Option Value) (B : Pt), Stand p l e R s m sargs below meth c B.U B.locs B.cells B.slots ∧ Post A a v B ∧
      Steps p.tables e below (doInvoke e (A.U.setTop g) [] mk a).1 (B.U.setTop { g with pc := g.pc + len, stack := v.toList ++ g.stack })) ∨
    (∃ (q : Addr) (B : Pt), Stand p l e R s m sargs below meth c B.U B.locs B.cells B.slots ∧ PostX A a q B ∧
      Steps p.tables e below (doInvoke e (A.U.setTop g) [] mk a).1 ((B.U.setTop g).pushFrame (.throwing q)))
section Payer
variable {l : Launch} {R : Room} {p : Program} {e : Env} {below : List Frame} {s : State} {sargs : Array Value} {y : MethodName} {len W9 : Nat}
theorem vx_back {ws : List Cond} {rm : Room} {Pc : Array Value → State → Prop} {Qc : Array Value → State → Outcome → State → Prop} {XC : String → State → State → Prop} {mc ms : Nat} {free : Addr → Prop} {bytes : ByteArray} {maxL : Nat} {ret : Option FieldType}
    (hM : vx_Met l y ws rm Pc Qc XC mc ms free) (hblind : FrameBlind Pc) (hrc : rm.cells = mc) (hrs : rm.slots = ms)
    (hframes : rm.frames + 1 ≤ R.frames) (hlocals : W9 + (maxL + 11) + rm.locals ≤ R.locals)
    (hws : ∀ w ∈ ws, ∀ a' U, s.WarmedH U.vm → w.before a' U = true) (hcode : Cond.code y bytes maxL ret ∈ ws) (hinit : ∀ a' U, s.WarmedH U.vm → (Cond.initialized y.cls).before a' U = true) :
    vx_Back l R p e below s sargs y len W9 (PreOf R mc ms Pc) (PostOf Qc mc ms free) (vx_Post XC mc ms free) := by
  intro m meth c A g ig mk a X hg hsize hdg hW hn hp
  have h1 : (headSpec ws rm).pre.before a A.U = true := atoms_intro fun w hw => hws w hw _ _ X.warmed
  have h2 : (Cond.code y bytes maxL ret).before a A.U = true := hws _ hcode _ _ X.warmed
  have h3 : (Cond.initialized y.cls).before a A.U = true := hinit _ _ X.warmed
  have h4 : A.cells + (headSpec ws rm).room.cells ≤ R.cells := by rw [show (headSpec ws rm).room.cells = mc from hrc]; exact hp.1
  have h5 : A.slots + (headSpec ws rm).room.slots ≤ R.slots := by rw [show (headSpec ws rm).room.slots = ms from hrs]; exact hp.2.1
  have hPc : Pc a (A.U.calling g mk a) := hblind _ _ _ _ hp.2.2
  obtain ⟨U, Ls, c0, s0⟩ := A
  dsimp only [Pt.U, Pt.locs, Pt.cells, Pt.slots] at h1 h2 h3 h4 h5 X hn hPc ⊢
  obtain ⟨methY, cY, hmY, hcY, -, hlY, -, -, -, -⟩ := Cond.code_spec hn h2
  obtain ⟨kY, hkY, -⟩ := className_of_methodNamed hn
  have hinitY : kY.init = .initialized := Cond.initialized_spec (findClass_of_methodNamed hn) hkY h3
  have h : At U g.method c below := by rw [hg]; exact X.here
  have hlocals9 : W9 + (maxL + 11) + (headSpec ws rm).room.locals ≤ R.locals := hlocals
  have happ : (headSpec ws rm).appliesLoose y e.platform (U.calling g mk a) = true :=
    Spec.appliesLoose_calling (g := g) h hdg hn hkY hinitY
      (X.room_calling (g := g) (R' := (headSpec ws rm).room) hsize hmY hcY hframes (by rw [hlY]; omega) h4 h5) h1
  obtain ⟨mid, hmid⟩ := h.above
  have hfr : (U.setTop g).frames = (.java g :: mid) ++ below := by rw [State.frames_setTop' g h.top, hmid]; rfl
  obtain ⟨o, s₂, hsteps, -, hend, hq⟩ := Steps.callFree hM p X.admits X.cas X.clock (acts := []) hfr happ hPc trivial
  have hq' : vx_Q Qc XC mc ms free a (U.calling g mk a) o s₂ := hq
  rw [State.frames_setTop' g h.top] at hend
  obtain ⟨g₀, hg0⟩ := Option.isSome_iff_exists.mp h.top
  obtain ⟨r, hr⟩ := State.topJava?_eq_some.mp hg0
  have hr' : (({ U with heap := s₂.heap, slotsUsed := s₂.slotsUsed } : State).setVm s₂.vm).frames = .java g₀ :: r := hr
  rcases hq' with ⟨hqc, L, hfe, hL⟩ | ⟨q, rfl, E, ce, L, hx, hce, hcv, hcl, hW₂, hsm, hL⟩
  · obtain ⟨⟨v, rfl⟩, hW₂, e2, q2, q3, q4, q5, q6⟩ := id hfe
    have e3 : s₂ = ({ (U.calling g mk a).setFrames s₂.frames with heap := s₂.heap, slotsUsed := s₂.slotsUsed } : State).setVm s₂.vm := by
      have : s₂ = ({ s₂ with vm := (U.calling g mk a).vm } : State).setVm s₂.vm := rfl
      rw [e2] at this
      exact this
    obtain ⟨c₂, i₂, len₂, hc₂, hd₂, hf₂⟩ := hend
    have hW' : U.WarmedH s₂.vm := hW₂
    have hcc : c₂ = c := by
      have h1 : s₂.code? g.method = U.code? g.method := by
        rw [State.code?_eq, State.code?_eq, hW'.alike.method?]
      exact Option.some.inj (hc₂.symm.trans (h1.trans h.code))
    subst hcc
    have hlen : len₂ = len := by rw [hdg] at hd₂; cases hd₂; rfl
    subst hlen
    have hs₂ : s₂ = (({ U with heap := s₂.heap, slotsUsed := s₂.slotsUsed } : State).setVm s₂.vm).setTop { g with pc := g.pc + len₂, stack := v.toList ++ g.stack } := by
      refine e3.trans ?_
      rw [hf₂, State.calling_eq h.top, State.setFrames_setFrames, State.setTop_of_frames _ hr', hr]
      rfl
    have hsame : U.sameButNew ({ U with heap := s₂.heap, slotsUsed := s₂.slotsUsed } : State) L mc ms := by
      refine ⟨?_, q2, q3, q4, q5, q6⟩
      obtain ⟨t, ht, -⟩ := State.frames_cons hr
      show ({ U with heap := s₂.heap, slotsUsed := s₂.slotsUsed } : State) = { U.setFrames U.frames with heap := s₂.heap, slotsUsed := s₂.slotsUsed }
      rw [State.setFrames_self ht]
    subst hg
    refine Or.inl ⟨v, ⟨(({ U with heap := s₂.heap, slotsUsed := s₂.slotsUsed } : State).setVm s₂.vm), Ls ++ L, c0 + mc, s0 + ms⟩,
      ⟨X.admits, X.cas, X.clock, X.frames, X.room, X.hears, X.method, X.code, (X.here.setHeapUsed s₂.heap s₂.slotsUsed).setVm hW'.alike, X.tail, State.WarmedH.trans X.warmed hW', X.limits, X.bytes, X.same.trans (hsame.setVm s.vm)⟩,
      ⟨g, mk, s₂, L, rfl, rfl, hqc, rfl, hL, rfl, rfl⟩, ?_⟩
    show Steps p.tables e below _ ((({ U with heap := s₂.heap, slotsUsed := s₂.slotsUsed } : State).setVm s₂.vm).setTop { g with pc := g.pc + len₂, stack := v.toList ++ g.stack })
    rw [← hs₂]
    exact hsteps
  · obtain ⟨e2, q2, q3, q4, q5, q6⟩ := id hsm
    have e3 : s₂ = ({ (U.calling g mk a).setFrames s₂.frames with heap := s₂.heap, slotsUsed := s₂.slotsUsed } : State).setVm s₂.vm := by
      have : s₂ = ({ s₂ with vm := (U.calling g mk a).vm } : State).setVm s₂.vm := rfl
      rw [e2] at this
      exact this
    have hf₂ : s₂.frames = .throwing q :: .java g :: U.frames.tail := hend
    have hW' : U.WarmedH s₂.vm := hW₂
    have hs₂ : s₂ = ((({ U with heap := s₂.heap, slotsUsed := s₂.slotsUsed } : State).setVm s₂.vm).setTop g).pushFrame (.throwing q) := by
      refine e3.trans ?_
      rw [hf₂, State.calling_eq h.top, State.setFrames_setFrames, State.pushFrame, State.frames_setTop _ hr', State.setTop_of_frames _ hr', State.setFrames_setFrames, hr]
      rfl
    have hsame : U.sameButNew ({ U with heap := s₂.heap, slotsUsed := s₂.slotsUsed } : State) L mc ms := by
      refine ⟨?_, q2, q3, q4, q5, q6⟩
      obtain ⟨t, ht, -⟩ := State.frames_cons hr
      show ({ U with heap := s₂.heap, slotsUsed := s₂.slotsUsed } : State) = { U.setFrames U.frames with heap := s₂.heap, slotsUsed := s₂.slotsUsed }
      rw [State.setFrames_self ht]
    subst hg
    refine Or.inr ⟨q, ⟨(({ U with heap := s₂.heap, slotsUsed := s₂.slotsUsed } : State).setVm s₂.vm), Ls ++ L, c0 + mc, s0 + ms⟩,
      ⟨X.admits, X.cas, X.clock, X.frames, X.room, X.hears, X.method, X.code, (X.here.setHeapUsed s₂.heap s₂.slotsUsed).setVm hW'.alike, X.tail, State.WarmedH.trans X.warmed hW', X.limits, X.bytes, X.same.trans (hsame.setVm s.vm)⟩,
      ⟨g, mk, s₂, L, E, ce, rfl, rfl, hx, hce, hcv, hcl, rfl, hL, rfl, rfl⟩, ?_⟩
    show Steps p.tables e below _ (((({ U with heap := s₂.heap, slotsUsed := s₂.slotsUsed } : State).setVm s₂.vm).setTop g).pushFrame (.throwing q))
    rw [← hs₂]
    exact hsteps
end Payer
section Calls
variable {p : Program} {l : Launch} {e : Env} {R : Room} {s : State} {m : MethodId} {args : Array Value} {below : List Frame} {meth : Method} {c : Code} {T : State} {locs : List Loc} {cells slots : Nat}
theorem vx_callV (X : Stand p l e R s m args below meth c T locs cells slots) (hexec : p.tables.exec = Jvm.exec) {own C : String} {index : Nat} {y : MethodName} {bytes : ByteArray} {maxL : Nat} {ret : Option FieldType}
    (hown : s.vm.findClass own = some m.cls) (hlink : (Cond.methodLink own index y).before args s = true) (hinst : (Cond.instanceMethod y).before args s = true) (hsel : (Cond.selects C y y).before args s = true)
    (hcode : (Cond.code y bytes maxL ret).before args s = true) (hy : y.cls ≠ "java/lang/invoke/MethodHandle" ∧ y.cls ≠ "java/lang/invoke/VarHandle")
    {W9 : Nat} {Pre : Pt → Array Value → Prop} {Post : Pt → Array Value → Option Value → Pt → Prop} {PostX : Pt → Array Value → Addr → Pt → Prop} (hK : vx_Back l R p e below s args y 3 W9 Pre Post PostX)
    {b : Addr} {cellB : Cell} (hcell : T.heap[b]? = some cellB) (hobj : cellB.vm.isStatics = false) (hcls : s.vm.findClass C = some cellB.cls)
    {g : JFrame} (hg : g.method = m) (hsize : g.locals.size = c.maxLocals) {argsL rest : List Value} (hlen : ∀ sig, parseMethodDescriptor y.desc = some sig → argsL.length = sig.parameters.length)
    (hstack : g.stack = argsL.reverse ++ .ref b :: rest) (hW : 2 * g.monitorRoom + (rest.map fun v => v.category).sum ≤ W9) (hdg : decode c.code g.pc = .ok (.invokevirtual index, 3))
    (hpre : ∀ vm₁, s.WarmedH vm₁ → Pre ⟨T.setVm vm₁, locs, cells, slots⟩ (Value.ref b :: argsL).toArray) :
    (∃ (v : Option Value) (vm₁ : Vm) (B : Pt), s.WarmedH vm₁ ∧ Stand p l e R s m args below meth c B.U B.locs B.cells B.slots ∧ Post ⟨T.setVm vm₁, locs, cells, slots⟩ (Value.ref b :: argsL).toArray v B ∧
      ∀ target, Steps p.tables e below (B.U.setTop { g with pc := g.pc + 3, stack := v.toList ++ rest }) target → Steps p.tables e below (T.setTop g) target) ∨
    (∃ (q : Addr) (vm₁ : Vm) (B : Pt), s.WarmedH vm₁ ∧ Stand p l e R s m args below meth c B.U B.locs B.cells B.slots ∧ PostX ⟨T.setVm vm₁, locs, cells, slots⟩ (Value.ref b :: argsL).toArray q B ∧
      Steps p.tables e below (T.setTop g) ((B.U.setTop { g with stack := rest }).pushFrame (.throwing q))) := by
  obtain ⟨mk, methM, hnamed, hmethM, hstM, habM⟩ := Cond.instanceMethod_spec hinst
  obtain ⟨methM', cM, hmethM', -, -, -, -, -, -, hsigM⟩ := Cond.code_spec hnamed hcode
  cases hmethM.symm.trans hmethM'
  obtain ⟨c2, r2, m2, q1, q2, q3, q4, kP, hkP, hkPi⟩ := Cond.selects_spec hsel
  cases hcls.symm.trans q1
  cases (State.methodFound?_of_named hnamed hy).symm.trans q2
  cases hnamed.symm.trans q3
  have hselP : selectMethod e.platform s.vm cellB.cls mk = .method mk := by rw [Launch.admits_selectMethod X.admits]; exact q4
  obtain ⟨vm₁, X₁, hstep₁⟩ := X.invokevirtual hexec hown hlink hnamed hmethM hstM hkP hkPi hy (a := b) (cell := cellB) hcell
    (fun z h => by rw [h] at hobj; cases hobj) hselP hmethM habM hkP hkPi (g := g) hg (argsL := argsL) (rest := rest) (hlen _ hsigM) hstack hdg
  rcases hK m meth c ⟨T.setVm vm₁, locs, cells, slots⟩ { g with stack := rest } (.invokevirtual index) mk (Value.ref b :: argsL).toArray X₁ hg hsize hdg hW (X₁.named hnamed) (hpre vm₁ X₁.warmed) with ⟨v, B, X', hpost, hsteps⟩ | ⟨q, B, X', hpost, hsteps⟩
  · exact Or.inl ⟨v, vm₁, B, X₁.warmed, X', hpost, fun target h => hstep₁ _ fun acts => by rw [doInvoke_state]; exact hsteps.trans h⟩
  · exact Or.inr ⟨q, vm₁, B, X₁.warmed, X', hpost, hstep₁ _ fun acts => by rw [doInvoke_state]; exact hsteps⟩
theorem vx_callS (X : Stand p l e R s m args below meth c T locs cells slots) (hexec : p.tables.exec = Jvm.exec) {own : String} {index : Nat} {y : MethodName} {bytes : ByteArray} {maxL : Nat} {ret : Option FieldType}
    (hown : s.vm.findClass own = some m.cls) (hlink : (Cond.methodLink own index y).before args s = true) (hstat : (Cond.static y).before args s = true) (hinit : (Cond.initialized y.cls).before args s = true)
    (hcode : (Cond.code y bytes maxL ret).before args s = true) (hy : y.cls ≠ "java/lang/invoke/MethodHandle" ∧ y.cls ≠ "java/lang/invoke/VarHandle")
    {W9 : Nat} {Pre : Pt → Array Value → Prop} {Post : Pt → Array Value → Option Value → Pt → Prop} {PostX : Pt → Array Value → Addr → Pt → Prop} (hK : vx_Back l R p e below s args y 3 W9 Pre Post PostX)
    {g : JFrame} (hg : g.method = m) (hsize : g.locals.size = c.maxLocals) {argsL rest : List Value} (hlen : ∀ sig, parseMethodDescriptor y.desc = some sig → argsL.length = sig.parameters.length)
    (hstack : g.stack = argsL.reverse ++ rest) (hW : 2 * g.monitorRoom + (rest.map fun v => v.category).sum ≤ W9) (hdg : decode c.code g.pc = .ok (.invokestatic index, 3))
    (hpre : ∀ vm₁, s.WarmedH vm₁ → Pre ⟨T.setVm vm₁, locs, cells, slots⟩ argsL.toArray) :
    (∃ (v : Option Value) (vm₁ : Vm) (B : Pt), s.WarmedH vm₁ ∧ Stand p l e R s m args below meth c B.U B.locs B.cells B.slots ∧ Post ⟨T.setVm vm₁, locs, cells, slots⟩ argsL.toArray v B ∧
      ∀ target, Steps p.tables e below (B.U.setTop { g with pc := g.pc + 3, stack := v.toList ++ rest }) target → Steps p.tables e below (T.setTop g) target) ∨
    (∃ (q : Addr) (vm₁ : Vm) (B : Pt), s.WarmedH vm₁ ∧ Stand p l e R s m args below meth c B.U B.locs B.cells B.slots ∧ PostX ⟨T.setVm vm₁, locs, cells, slots⟩ argsL.toArray q B ∧
      Steps p.tables e below (T.setTop g) ((B.U.setTop { g with stack := rest }).pushFrame (.throwing q))) := by
  obtain ⟨mk, hnamed⟩ := Cond.code_named hcode
  obtain ⟨methM, cM, hmethM, -, -, -, -, -, -, hsigM⟩ := Cond.code_spec hnamed hcode
  have hstatic : methM.isStatic = true := Cond.static_spec hnamed hmethM hstat
  obtain ⟨kP, hkP, -⟩ := className_of_methodNamed hnamed
  have hinitP : kP.init = .initialized := Cond.initialized_spec (findClass_of_methodNamed hnamed) hkP hinit
  obtain ⟨vm₁, X₁, hstep₁⟩ := X.invokestatic hexec hown hlink hnamed hmethM hstatic hkP hinitP hy (g := g) hg (argsL := argsL) (rest := rest) (hlen _ hsigM) hstack hdg
  rcases hK m meth c ⟨T.setVm vm₁, locs, cells, slots⟩ { g with stack := rest } (.invokestatic index) mk argsL.toArray X₁ hg hsize hdg hW (X₁.named hnamed) (hpre vm₁ X₁.warmed) with ⟨v, B, X', hpost, hsteps⟩ | ⟨q, B, X', hpost, hsteps⟩
  · exact Or.inl ⟨v, vm₁, B, X₁.warmed, X', hpost, fun target h => hstep₁ _ fun acts => by rw [doInvoke_state]; exact hsteps.trans h⟩
  · exact Or.inr ⟨q, vm₁, B, X₁.warmed, X', hpost, hstep₁ _ fun acts => by rw [doInvoke_state]; exact hsteps⟩
end Calls
theorem vx_cls {s : State} {T : State} {vm₁ : Vm} {E : String} {k : ClassId} (hW : s.WarmedH vm₁) (h : (T.setVm vm₁).vm.findClass E = some k) : s.vm.findClass E = some k := by
  have h1 : vm₁.findClass E = some k := h
  rw [hW.alike.findClass] at h1
  exact h1
/-- the method's frame g, with q thrown over it -/
def vx_W (p : Program) (l : Launch) (e : Env) (R : Room) (s : State) (m : MethodId) (args : Array Value) (below : List Frame) (meth : Method) (c : Code) (H : Heap) (locs : List Loc) (cells slots : Nat) (Q : State → Prop) (g : JFrame) (q : Addr) : Prop :=
  ∀ T : State, T.heap = H → Stand p l e R s m args below meth c T locs cells slots → ∃ t, Steps p.tables e below ((T.setTop g).pushFrame (.throwing q)) t ∧ Q t
def vx_Run (p : Program) (l : Launch) (e : Env) (R : Room) (s : State) (m : MethodId) (args : Array Value) (below : List Frame) (meth : Method) (c : Code) (H : Heap) (locs : List Loc) (cells slots mc ms : Nat) (g : JFrame) (rest : List Value) (Qa : State → Outcome → State → Prop) (XC : String → State → State → Prop) (free : Addr → Prop) : Prop :=
  ∀ T : State, T.heap = H → Stand p l e R s m args below meth c T locs cells slots →
    (∃ (v : Option Value) (st₀ t T' : State) (L : List Loc), st₀.heap = H ∧ Stand p l e R s m args below meth c T' (locs ++ L) (cells + mc) (slots + ms) ∧ (∀ q ∈ L, free q.base) ∧ T'.heap = t.heap ∧ T'.vm = t.vm ∧ Qa st₀ (.returned v) t ∧
      Goes p e below T g T' { g with pc := g.pc + 3, stack := v.toList ++ rest }) ∨
    (∃ (q : Addr) (st₀ t T' : State) (L : List Loc) (E : String) (ce : Cell), st₀.heap = H ∧ Stand p l e R s m args below meth c T' (locs ++ L) (cells + mc) (slots + ms) ∧ (∀ z ∈ L, free z.base) ∧ T'.heap = t.heap ∧ T'.vm = t.vm ∧ XC E st₀ t ∧ t.heap[q]? = some ce ∧ ce.vm = .none ∧ s.vm.findClass E = some ce.cls ∧
      Steps p.tables e below (T.setTop g) ((T'.setTop { g with stack := rest }).pushFrame (.throwing q)))
def vx_X {S : Type} (px : S → Prop) (B : String → S → State → Prop) (A : Nat → Prop) : String → State → State → Prop := fun E st t => ∃ u : S, px u ∧ B E u t ∧ va_F A st t
section Runs
variable {p : Program} {l : Launch} {e : Env} {R : Room} {s : State} {m : MethodId} {args : Array Value} {below : List Frame} {meth : Method} {c : Code} {H : Heap} {locs : List Loc} {cells slots : Nat}
variable {y : MethodName} {bytes cc : ByteArray} {maxL nL mc ms n index : Nat} {ret : Option FieldType} {ws : List Cond} {rm : Room} {Pc : Array Value → State → Prop} {Qc : Array Value → State → Outcome → State → Prop} {XC : String → State → State → Prop} {free : Addr → Prop} {Ts : List Cond} {own C : String} {b : Addr} {As rest : List Value} {g : JFrame}
theorem vx_callBack (cb : CallB R s args own index y bytes maxL ret ws rm mc ms n) (hM : vx_Met l y ws rm Pc Qc XC mc ms free) (hbl : FrameBlind Pc) : vx_Back l R p e below s args y 3 8 (PreOf R mc ms Pc) (PostOf Qc mc ms free) (vx_Post XC mc ms free) := by
  obtain ⟨hrc, hrs, hfr, hlo, hws, hcw, -, hini, -⟩ := cb
  exact vx_back (bytes := bytes) (maxL := maxL) (ret := ret) hM hbl hrc hrs hfr hlo hws hcw (fun a' U hW => word_at hW (Or.inl (by first | rfl | simp [Cond.onTables, Cond.keeps, Cond.steady])) hini)
theorem vx_runV (S : CallFix p m c cc nL s args Ts own) (hM : vx_Met l y ws rm Pc Qc XC mc ms free) (cw : CallW R s args own C index y bytes maxL ret ws rm mc ms n) (hp : PreV s H C b Pc As)
    (hg : g.method = m) (hn : As.length = n) (hsize : g.locals.size = nL) (hstack : g.stack = As.reverse ++ .ref b :: rest) (hW : 2 * g.monitorRoom + (rest.map fun v => v.category).sum ≤ 8) (hdg : decode cc g.pc = .ok (.invokevirtual index, 3)) (hf : cells + mc ≤ R.cells ∧ slots + ms ≤ R.slots) :
    vx_Run p l e R s m args below meth c H locs cells slots mc ms g rest (Qc (Value.ref b :: As).toArray) XC free := by
  have hK : vx_Back l R p e below s args y 3 8 (PreOf R mc ms Pc) (PostOf Qc mc ms free) (vx_Post XC mc ms free) := vx_callBack cw.1 hM hp.1
  obtain ⟨⟨-, -, -, -, -, -, hcode, -, hy, hlen, hl⟩, hin, hse⟩ := cw
  obtain ⟨hx, hb, hml, ho, -⟩ := S
  obtain ⟨-, ⟨cellB, hcB, hoB, hclB⟩, hPc⟩ := hp
  intro T hT X
  rcases vx_callV X hx (C := C) (bytes := bytes) (maxL := maxL) (ret := ret) ho hl hin hse hcode hy hK (by rw [hT]; exact hcB) hoB hclB hg (hsize.trans hml.symm) (argsL := As) (rest := rest) (fun sig h => hn.trans (hlen sig h)) hstack hW (by rw [hb]; exact hdg)
    (fun vm₁ hW₁ => ⟨hf.1, hf.2, hPc (T.setVm vm₁) hT hW₁⟩) with ⟨v, vm₁, ⟨U', l2, c2, s2⟩, hW₁, X', ⟨g', mk, t, L, e1, e2, hq, h1, hL, h2, h3⟩, st⟩ | ⟨q, vm₁, ⟨U', l2, c2, s2⟩, hW₁, X', ⟨g', mk, t, L, E, ce, e1, e2, hq, hce, hcv, hcl, h1, hL, h2, h3⟩, st⟩
  · dsimp only [Pt.U, Pt.locs, Pt.cells, Pt.slots] at X' e1 e2 h1 h2 h3 st
    subst h1; subst h2; subst h3
    exact Or.inl ⟨v, (T.setVm vm₁).calling g' mk (Value.ref b :: As).toArray, t, U', L, hT, X', hL, e1, e2, hq, st⟩
  · dsimp only [Pt.U, Pt.locs, Pt.cells, Pt.slots] at X' e1 e2 h1 h2 h3 st hcl
    subst h1; subst h2; subst h3
    exact Or.inr ⟨q, (T.setVm vm₁).calling g' mk (Value.ref b :: As).toArray, t, U', L, E, ce, hT, X', hL, e1, e2, hq, hce, hcv, vx_cls hW₁ hcl, st⟩
theorem vx_runS (S : CallFix p m c cc nL s args Ts own) (hM : vx_Met l y ws rm Pc Qc XC mc ms free) (cw : CallB R s args own index y bytes maxL ret ws rm mc ms n ∧ (Cond.static y).before args s = true) (hp : PreS s H Pc As)
    (hg : g.method = m) (hn : As.length = n) (hsize : g.locals.size = nL) (hstack : g.stack = As.reverse ++ rest) (hW : 2 * g.monitorRoom + (rest.map fun v => v.category).sum ≤ 8) (hdg : decode cc g.pc = .ok (.invokestatic index, 3)) (hf : cells + mc ≤ R.cells ∧ slots + ms ≤ R.slots) :
    vx_Run p l e R s m args below meth c H locs cells slots mc ms g rest (Qc As.toArray) XC free := by
  have hK : vx_Back l R p e below s args y 3 8 (PreOf R mc ms Pc) (PostOf Qc mc ms free) (vx_Post XC mc ms free) := vx_callBack cw.1 hM hp.1
  obtain ⟨⟨-, -, -, -, -, -, hcode, hini, hy, hlen, hl⟩, hstt⟩ := cw
  obtain ⟨hx, hb, hml, ho, -⟩ := S
  intro T hT X
  rcases vx_callS X hx (bytes := bytes) (maxL := maxL) (ret := ret) ho hl hstt hini hcode hy hK hg (hsize.trans hml.symm) (argsL := As) (rest := rest) (fun sig h => hn.trans (hlen sig h)) hstack hW (by rw [hb]; exact hdg)
    (fun vm₁ hW₁ => ⟨hf.1, hf.2, hp.2 (T.setVm vm₁) hT hW₁⟩) with ⟨v, vm₁, ⟨U', l2, c2, s2⟩, hW₁, X', ⟨g', mk, t, L, e1, e2, hq, h1, hL, h2, h3⟩, st⟩ | ⟨q, vm₁, ⟨U', l2, c2, s2⟩, hW₁, X', ⟨g', mk, t, L, E, ce, e1, e2, hq, hce, hcv, hcl, h1, hL, h2, h3⟩, st⟩
  · dsimp only [Pt.U, Pt.locs, Pt.cells, Pt.slots] at X' e1 e2 h1 h2 h3 st
    subst h1; subst h2; subst h3
    exact Or.inl ⟨v, (T.setVm vm₁).calling g' mk As.toArray, t, U', L, hT, X', hL, e1, e2, hq, st⟩
  · dsimp only [Pt.U, Pt.locs, Pt.cells, Pt.slots] at X' e1 e2 h1 h2 h3 st hcl
    subst h1; subst h2; subst h3
    exact Or.inr ⟨q, (T.setVm vm₁).calling g' mk As.toArray, t, U', L, E, ce, hT, X', hL, e1, e2, hq, hce, hcv, vx_cls hW₁ hcl, st⟩
end Runs
section Rows
variable {p : Program} {l : Launch} {e : Env} {R : Room} {s : State} {m : MethodId} {args : Array Value} {below : List Frame} {meth : Method} {c : Code} {H : Heap} {locs : List Loc} {cells slots : Nat} {Q : State → Prop}
variable {mc ms : Nat} {free : Addr → Prop} {A0 A1 : Nat → Prop} {H0 : Heap} {a : Array Value} {pc : Nat} {ls : Array Slot} {st0 rest : List Value}
theorem vx_keep {st₀ t T' : State} {L : List Loc} (h0 : st₀.heap = H) (e1 : T'.heap = t.heap) (hS : va_S A0 H0 H locs) (hA : ∀ q, q < H.size → A1 q → A0 q) (hf : ∀ q, free q → A0 q) (hL : ∀ q ∈ L, free q.base) (hF : va_F A1 st₀ t) :
    H.size ≤ T'.heap.size ∧ (∀ q : Nat, q < H.size → ¬ A1 q → T'.heap[q]? = H[q]?) ∧ va_S A0 H0 T'.heap (locs ++ L) := by
  obtain ⟨hz, hk⟩ := hF
  rw [h0] at hz hk
  exact ⟨by rw [e1]; exact hz, fun q h1 h2 => by rw [e1]; exact hk q h1 h2,
    ⟨Nat.le_trans hS.1 (by rw [e1]; exact hz), fun q h1 h2 => by rw [e1, hk q (Nat.lt_of_lt_of_le h1 hS.1) (fun z => h2 (hA q (Nat.lt_of_lt_of_le h1 hS.1) z))]; exact hS.2.1 q h1 h2, fun q hq => by
      rcases List.mem_append.mp hq with h | h
      · exact hS.2.2 q h
      · exact hf _ (hL q h)⟩⟩
theorem vx_calli {S SX : Type} {post : Int32 → S → Prop} {px : SX → Prop} {B : S → State → Prop} {BX : String → SX → State → Prop} {AX : Nat → Prop} (hr : vx_Run p l e R s m args below meth c H locs cells slots mc ms (F0 m pc ls st0) rest (va_Qi post B A1 a) (vx_X px BX AX) free) (hS : va_S A0 H0 H locs) (hA : ∀ q, q < H.size → A1 q → A0 q) (hf : ∀ q, free q → A0 q) (hAX : ∀ q, q < H.size → AX q → A0 q)
    (kx : ∀ (E : String) (ce : Cell) (q9 : Addr) (u : SX) (t : State) (H1 : Heap) (locs1 : List Loc), t.heap = H1 → s.vm.Alike t.vm → px u → BX E u t → H.size ≤ H1.size → (∀ q : Nat, q < H.size → ¬ AX q → H1[q]? = H[q]?) → va_S A0 H0 H1 locs1 → H1[q9]? = some ce → ce.vm = .none → s.vm.findClass E = some ce.cls → vx_W p l e R s m args below meth c H1 locs1 (cells + mc) (slots + ms) Q (F0 m pc ls rest) q9)
    (kk : ∀ (r : Int32) (u : S) (t : State) (H1 : Heap) (locs1 : List Loc), t.heap = H1 → s.vm.Alike t.vm → post r u → B u t → H.size ≤ H1.size → (∀ q : Nat, q < H.size → ¬ A1 q → H1[q]? = H[q]?) → va_S A0 H0 H1 locs1 → W p l e R s m args below meth c H1 locs1 (cells + mc) (slots + ms) Q (F0 m (pc + 3) ls (.int r :: rest))) : W p l e R s m args below meth c H locs cells slots Q (F0 m pc ls st0) := by
  intro T hT X
  rcases hr T hT X with ⟨v, st₀, t, T', L, h0, X', hL, e1, e2, ⟨⟨r, u, hv, hp, hb⟩, hF⟩, st⟩ | ⟨q, st₀, t, T', L, E, ce, h0, X', hL, e1, e2, ⟨u, hp, hb, hF⟩, hce, hcv, hcl, st⟩
  · cases hv
    obtain ⟨k1, k2, k3⟩ := vx_keep h0 e1 hS hA hf hL hF
    obtain ⟨t2, a1, b1⟩ := kk r u t T'.heap (locs ++ L) e1.symm (by rw [← e2]; exact X'.warmed.alike) hp hb k1 k2 k3 T' rfl X'
    exact ⟨t2, st t2 a1, b1⟩
  · obtain ⟨k1, k2, k3⟩ := vx_keep h0 e1 hS hAX hf hL hF
    obtain ⟨t2, a1, b1⟩ := kx E ce q u t T'.heap (locs ++ L) e1.symm (by rw [← e2]; exact X'.warmed.alike) hp hb k1 k2 k3 (by rw [e1]; exact hce) hcv hcl T' rfl X'
    exact ⟨t2, st.trans a1, b1⟩
theorem vx_calll {S SX : Type} {post : Int64 → S → Prop} {px : SX → Prop} {B : S → State → Prop} {BX : String → SX → State → Prop} {AX : Nat → Prop} (hr : vx_Run p l e R s m args below meth c H locs cells slots mc ms (F0 m pc ls st0) rest (va_Ql post B A1 a) (vx_X px BX AX) free) (hS : va_S A0 H0 H locs) (hA : ∀ q, q < H.size → A1 q → A0 q) (hf : ∀ q, free q → A0 q) (hAX : ∀ q, q < H.size → AX q → A0 q)
    (kx : ∀ (E : String) (ce : Cell) (q9 : Addr) (u : SX) (t : State) (H1 : Heap) (locs1 : List Loc), t.heap = H1 → s.vm.Alike t.vm → px u → BX E u t → H.size ≤ H1.size → (∀ q : Nat, q < H.size → ¬ AX q → H1[q]? = H[q]?) → va_S A0 H0 H1 locs1 → H1[q9]? = some ce → ce.vm = .none → s.vm.findClass E = some ce.cls → vx_W p l e R s m args below meth c H1 locs1 (cells + mc) (slots + ms) Q (F0 m pc ls rest) q9)
    (kk : ∀ (r : Int64) (u : S) (t : State) (H1 : Heap) (locs1 : List Loc), t.heap = H1 → s.vm.Alike t.vm → post r u → B u t → H.size ≤ H1.size → (∀ q : Nat, q < H.size → ¬ A1 q → H1[q]? = H[q]?) → va_S A0 H0 H1 locs1 → W p l e R s m args below meth c H1 locs1 (cells + mc) (slots + ms) Q (F0 m (pc + 3) ls (.long r :: rest))) : W p l e R s m args below meth c H locs cells slots Q (F0 m pc ls st0) := by
  intro T hT X
  rcases hr T hT X with ⟨v, st₀, t, T', L, h0, X', hL, e1, e2, ⟨⟨r, u, hv, hp, hb⟩, hF⟩, st⟩ | ⟨q, st₀, t, T', L, E, ce, h0, X', hL, e1, e2, ⟨u, hp, hb, hF⟩, hce, hcv, hcl, st⟩
  · cases hv
    obtain ⟨k1, k2, k3⟩ := vx_keep h0 e1 hS hA hf hL hF
    obtain ⟨t2, a1, b1⟩ := kk r u t T'.heap (locs ++ L) e1.symm (by rw [← e2]; exact X'.warmed.alike) hp hb k1 k2 k3 T' rfl X'
    exact ⟨t2, st t2 a1, b1⟩
  · obtain ⟨k1, k2, k3⟩ := vx_keep h0 e1 hS hAX hf hL hF
    obtain ⟨t2, a1, b1⟩ := kx E ce q u t T'.heap (locs ++ L) e1.symm (by rw [← e2]; exact X'.warmed.alike) hp hb k1 k2 k3 (by rw [e1]; exact hce) hcv hcl T' rfl X'
    exact ⟨t2, st.trans a1, b1⟩
theorem vx_callf {S SX : Type} {post : UInt32 → S → Prop} {px : SX → Prop} {B : S → State → Prop} {BX : String → SX → State → Prop} {AX : Nat → Prop} (hr : vx_Run p l e R s m args below meth c H locs cells slots mc ms (F0 m pc ls st0) rest (va_Qf post B A1 a) (vx_X px BX AX) free) (hS : va_S A0 H0 H locs) (hA : ∀ q, q < H.size → A1 q → A0 q) (hf : ∀ q, free q → A0 q) (hAX : ∀ q, q < H.size → AX q → A0 q)
    (kx : ∀ (E : String) (ce : Cell) (q9 : Addr) (u : SX) (t : State) (H1 : Heap) (locs1 : List Loc), t.heap = H1 → s.vm.Alike t.vm → px u → BX E u t → H.size ≤ H1.size → (∀ q : Nat, q < H.size → ¬ AX q → H1[q]? = H[q]?) → va_S A0 H0 H1 locs1 → H1[q9]? = some ce → ce.vm = .none → s.vm.findClass E = some ce.cls → vx_W p l e R s m args below meth c H1 locs1 (cells + mc) (slots + ms) Q (F0 m pc ls rest) q9)
    (kk : ∀ (r : UInt32) (u : S) (t : State) (H1 : Heap) (locs1 : List Loc), t.heap = H1 → s.vm.Alike t.vm → post r u → B u t → H.size ≤ H1.size → (∀ q : Nat, q < H.size → ¬ A1 q → H1[q]? = H[q]?) → va_S A0 H0 H1 locs1 → W p l e R s m args below meth c H1 locs1 (cells + mc) (slots + ms) Q (F0 m (pc + 3) ls (.float r :: rest))) : W p l e R s m args below meth c H locs cells slots Q (F0 m pc ls st0) := by
  intro T hT X
  rcases hr T hT X with ⟨v, st₀, t, T', L, h0, X', hL, e1, e2, ⟨⟨r, u, hv, hp, hb⟩, hF⟩, st⟩ | ⟨q, st₀, t, T', L, E, ce, h0, X', hL, e1, e2, ⟨u, hp, hb, hF⟩, hce, hcv, hcl, st⟩
  · cases hv
    obtain ⟨k1, k2, k3⟩ := vx_keep h0 e1 hS hA hf hL hF
    obtain ⟨t2, a1, b1⟩ := kk r u t T'.heap (locs ++ L) e1.symm (by rw [← e2]; exact X'.warmed.alike) hp hb k1 k2 k3 T' rfl X'
    exact ⟨t2, st t2 a1, b1⟩
  · obtain ⟨k1, k2, k3⟩ := vx_keep h0 e1 hS hAX hf hL hF
    obtain ⟨t2, a1, b1⟩ := kx E ce q u t T'.heap (locs ++ L) e1.symm (by rw [← e2]; exact X'.warmed.alike) hp hb k1 k2 k3 (by rw [e1]; exact hce) hcv hcl T' rfl X'
    exact ⟨t2, st.trans a1, b1⟩
theorem vx_calld {S SX : Type} {post : UInt64 → S → Prop} {px : SX → Prop} {B : S → State → Prop} {BX : String → SX → State → Prop} {AX : Nat → Prop} (hr : vx_Run p l e R s m args below meth c H locs cells slots mc ms (F0 m pc ls st0) rest (va_Qd post B A1 a) (vx_X px BX AX) free) (hS : va_S A0 H0 H locs) (hA : ∀ q, q < H.size → A1 q → A0 q) (hf : ∀ q, free q → A0 q) (hAX : ∀ q, q < H.size → AX q → A0 q)
    (kx : ∀ (E : String) (ce : Cell) (q9 : Addr) (u : SX) (t : State) (H1 : Heap) (locs1 : List Loc), t.heap = H1 → s.vm.Alike t.vm → px u → BX E u t → H.size ≤ H1.size → (∀ q : Nat, q < H.size → ¬ AX q → H1[q]? = H[q]?) → va_S A0 H0 H1 locs1 → H1[q9]? = some ce → ce.vm = .none → s.vm.findClass E = some ce.cls → vx_W p l e R s m args below meth c H1 locs1 (cells + mc) (slots + ms) Q (F0 m pc ls rest) q9)
    (kk : ∀ (r : UInt64) (u : S) (t : State) (H1 : Heap) (locs1 : List Loc), t.heap = H1 → s.vm.Alike t.vm → post r u → B u t → H.size ≤ H1.size → (∀ q : Nat, q < H.size → ¬ A1 q → H1[q]? = H[q]?) → va_S A0 H0 H1 locs1 → W p l e R s m args below meth c H1 locs1 (cells + mc) (slots + ms) Q (F0 m (pc + 3) ls (.double r :: rest))) : W p l e R s m args below meth c H locs cells slots Q (F0 m pc ls st0) := by
  intro T hT X
  rcases hr T hT X with ⟨v, st₀, t, T', L, h0, X', hL, e1, e2, ⟨⟨r, u, hv, hp, hb⟩, hF⟩, st⟩ | ⟨q, st₀, t, T', L, E, ce, h0, X', hL, e1, e2, ⟨u, hp, hb, hF⟩, hce, hcv, hcl, st⟩
  · cases hv
    obtain ⟨k1, k2, k3⟩ := vx_keep h0 e1 hS hA hf hL hF
    obtain ⟨t2, a1, b1⟩ := kk r u t T'.heap (locs ++ L) e1.symm (by rw [← e2]; exact X'.warmed.alike) hp hb k1 k2 k3 T' rfl X'
    exact ⟨t2, st t2 a1, b1⟩
  · obtain ⟨k1, k2, k3⟩ := vx_keep h0 e1 hS hAX hf hL hF
    obtain ⟨t2, a1, b1⟩ := kx E ce q u t T'.heap (locs ++ L) e1.symm (by rw [← e2]; exact X'.warmed.alike) hp hb k1 k2 k3 (by rw [e1]; exact hce) hcv hcl T' rfl X'
    exact ⟨t2, st.trans a1, b1⟩
theorem vx_callv {S SX : Type} {post : S → Prop} {px : SX → Prop} {B : S → State → Prop} {BX : String → SX → State → Prop} {AX : Nat → Prop} (hr : vx_Run p l e R s m args below meth c H locs cells slots mc ms (F0 m pc ls st0) rest (va_Qv post B A1 a) (vx_X px BX AX) free) (hS : va_S A0 H0 H locs) (hA : ∀ q, q < H.size → A1 q → A0 q) (hf : ∀ q, free q → A0 q) (hAX : ∀ q, q < H.size → AX q → A0 q)
    (kx : ∀ (E : String) (ce : Cell) (q9 : Addr) (u : SX) (t : State) (H1 : Heap) (locs1 : List Loc), t.heap = H1 → s.vm.Alike t.vm → px u → BX E u t → H.size ≤ H1.size → (∀ q : Nat, q < H.size → ¬ AX q → H1[q]? = H[q]?) → va_S A0 H0 H1 locs1 → H1[q9]? = some ce → ce.vm = .none → s.vm.findClass E = some ce.cls → vx_W p l e R s m args below meth c H1 locs1 (cells + mc) (slots + ms) Q (F0 m pc ls rest) q9)
    (kk : ∀ (u : S) (t : State) (H1 : Heap) (locs1 : List Loc), t.heap = H1 → s.vm.Alike t.vm → post u → B u t → H.size ≤ H1.size → (∀ q : Nat, q < H.size → ¬ A1 q → H1[q]? = H[q]?) → va_S A0 H0 H1 locs1 → W p l e R s m args below meth c H1 locs1 (cells + mc) (slots + ms) Q (F0 m (pc + 3) ls (rest))) : W p l e R s m args below meth c H locs cells slots Q (F0 m pc ls st0) := by
  intro T hT X
  rcases hr T hT X with ⟨v, st₀, t, T', L, h0, X', hL, e1, e2, ⟨⟨u, hv, hp, hb⟩, hF⟩, st⟩ | ⟨q, st₀, t, T', L, E, ce, h0, X', hL, e1, e2, ⟨u, hp, hb, hF⟩, hce, hcv, hcl, st⟩
  · cases hv
    obtain ⟨k1, k2, k3⟩ := vx_keep h0 e1 hS hA hf hL hF
    obtain ⟨t2, a1, b1⟩ := kk u t T'.heap (locs ++ L) e1.symm (by rw [← e2]; exact X'.warmed.alike) hp hb k1 k2 k3 T' rfl X'
    exact ⟨t2, st t2 a1, b1⟩
  · obtain ⟨k1, k2, k3⟩ := vx_keep h0 e1 hS hAX hf hL hF
    obtain ⟨t2, a1, b1⟩ := kx E ce q u t T'.heap (locs ++ L) e1.symm (by rw [← e2]; exact X'.warmed.alike) hp hb k1 k2 k3 (by rw [e1]; exact hce) hcv hcl T' rfl X'
    exact ⟨t2, st.trans a1, b1⟩
/-- caught by the row x of this method's table; the rows ahead don't take it -/
theorem vx_catch {own name : String} {E : String} {ce : Cell} {q : Addr} (hown : s.vm.findClass own = some m.cls) (pre : List ExceptionTableEntry) (x : ExceptionTableEntry) (suf : List ExceptionTableEntry) (hsplit : c.exceptionTable.toList = pre ++ x :: suf)
    (hpass : ∀ z ∈ pre, covers z pc = false ∨ (z.catchType ≠ 0 ∧ ∃ nm : String, (Cond.classLink own z.catchType nm).before args s = true ∧ va_Nc E nm s)) (hx : covers x pc = true) (h0 : x.catchType ≠ 0)
    (hlink : (Cond.classLink own x.catchType name).before args s = true) (hcast : (Cond.castable E name).before args s = true) (hcell : H[q]? = some ce) (hv : ce.vm = .none) (hcl : s.vm.findClass E = some ce.cls)
    (kk : W p l e R s m args below meth c H locs cells slots Q (F0 m x.handlerPc ls [.ref q])) : vx_W p l e R s m args below meth c H locs cells slots Q (F0 m pc ls rest) q := by
  intro T hT X
  have hpl : e.platform.magicAccessors = ({} : Platform).magicAccessors := by rw [X.admits.platform]
  obtain ⟨c3, c4, hc3, hc4, hasg⟩ := Cond.castable_spec hcast
  cases Option.some.inj (hc3.symm.trans hcl)
  obtain ⟨c5, hc5, hcl5⟩ := Cond.classLink_spec hown hlink e.platform hpl
  cases Option.some.inj (hc4.symm.trans hc5)
  obtain ⟨vm', X', st⟩ := Jvm.Stand.thenCaughtThrough X q (g := F0 m pc ls rest) rfl (Steps.refl _) (by rw [hT]; exact hcell) (by rw [hv]; rfl) (by obtain ⟨k9, h9, -⟩ := Vm.findClass_spec hcl; exact ⟨k9, h9⟩) pre x suf hsplit
    (fun z hz => by
      rcases hpass z hz with h | ⟨hz0, nm, hl1, hn1⟩
      · exact Or.inl h
      · obtain ⟨c6, hc6, hcl6⟩ := Cond.classLink_spec hown hl1 e.platform hpl
        obtain ⟨a8, b8, h1, h2, h3⟩ := hn1
        cases Option.some.inj (h1.symm.trans hcl)
        cases Option.some.inj (h2.symm.trans hc6)
        exact Or.inr ⟨hz0, _, hcl6, h3⟩) hx (Or.inr ⟨h0, c4, hcl5, hasg⟩)
  obtain ⟨t, a1, b1⟩ := kk (T.setVm vm') hT X'
  exact ⟨t, st.trans a1, b1⟩
end Rows
section Ends
variable {p : Program} {l : Launch} {e : Env} {R : Room} {s : State} {m : MethodId} {args : Array Value} {below : List Frame} {meth : Method} {c : Code} {H : Heap} {locs : List Loc} {cells slots : Nat} {Q : State → Prop}
variable {mc ms : Nat} {free : Addr → Prop} {A0 A1 : Nat → Prop} {H0 : Heap} {a : Array Value} {ls : Array Slot} {st0 rest : List Value}
variable {Qc : Array Value → State → Outcome → State → Prop} {XC : String → State → State → Prop}
/-- what a body that may throw owes at its end -/
def vx_MQ (below : List Frame) (Qc : Array Value → State → Outcome → State → Prop) (XC : String → State → State → Prop) (a : Array Value) (s : State) (mc ms : Nat) (free : Addr → Prop) : State → Prop := fun t =>
  ∃ o, t.status = .running ∧ Ended t below o ∧ vx_Q Qc XC mc ms free a s o t
theorem vx_ret {g : JFrame} {mc ms : Nat} (k : W p l e R s m args below meth c H locs cells slots (MQ below Qc args s mc ms free) g) : W p l e R s m args below meth c H locs cells slots (vx_MQ below Qc XC args s mc ms free) g := by
  intro T hT X
  obtain ⟨t, a1, o, b1, b2, b3, b4⟩ := k T hT X
  exact ⟨t, a1, o, b1, b2, Or.inl ⟨b3, b4⟩⟩
/-- not caught here: it goes on to the caller -/
theorem vx_widen {g : JFrame} {q : Addr} {k n : Nat} (h1 : cells ≤ k) (h2 : slots ≤ n) (kk : vx_W p l e R s m args below meth c H locs k n Q g q) : vx_W p l e R s m args below meth c H locs cells slots Q g q := fun T hT X => kk T hT (stand_widen X h1 h2)
theorem vx_out {pc : Nat} {E : String} {ce : Cell} {q : Addr} {mc ms : Nat} (hout : ∀ x ∈ c.exceptionTable.toList, covers x pc = false) (hlocks : meth.locks = false) (hcell : H[q]? = some ce) (hv : ce.vm = .none) (hcl : s.vm.findClass E = some ce.cls)
    (hx : ∀ t : State, t.heap = H → s.vm.Alike t.vm → XC E s t) (hf : ∀ z ∈ locs, free z.base) (hc : cells ≤ mc) (hs : slots ≤ ms) :
    vx_W p l e R s m args below meth c H locs cells slots (vx_MQ below Qc XC args s mc ms free) (F0 m pc ls rest) q := by
  intro T hT X
  obtain ⟨st1, hrun, hend, hW, hsm⟩ := X.leaveThrown q (g := F0 m pc ls rest) rfl rfl rfl hout hlocks
  have hcell9 : (T.setFrames (.throwing q :: below)).heap[q]? = some ce := by
    show T.heap[q]? = some ce
    rw [hT]; exact hcell
  exact ⟨_, st1, .threw q, hrun, hend, Or.inr ⟨q, rfl, E, ce, locs, hx _ hT hW.alike, hcell9, hv, hcl, hW, hsm.mono hc hs, hf⟩⟩
theorem vx_frame {U : State} {k n : Nat} (h : s.sameButNew ({ U with vm := s.vm } : State) locs k n) : s.heap.size ≤ U.heap.size ∧ ∀ q : Nat, q < s.heap.size → (∀ z ∈ locs, z.base ≠ q) → U.heap[q]? = s.heap[q]? := by
  obtain ⟨-, h2, -, -, -, h6⟩ := h
  refine ⟨h2, fun q hq hz => ?_⟩
  obtain ⟨c9, e1, e2, e3, e4⟩ := h6 q _ (Array.getElem?_eq_getElem hq)
  have hs : c9.slots = (s.heap[q]).slots := Array.ext_getElem? fun i => e4 i fun hm => hz _ hm rfl
  have h9 : c9 = s.heap[q] := by
    rw [hs] at e2
    exact e2
  have e5 : U.heap[q]? = some c9 := e1
  rw [e5, h9, Array.getElem?_eq_getElem hq]
/-- the words of a throw but the four that speak of the heap -/
def vx_no (w : Cond) : Bool := decide (w ≠ .isRef (.static Bundle.tN "UNASSIGNED_STACK" Bundle.steD)) && decide (w ≠ .isRef (.static Bundle.tN "SUPPRESSED_SENTINEL" Bundle.listD)) && decide (w ≠ .laysStatic Bundle.tN "UNASSIGNED_STACK" Bundle.steD) && decide (w ≠ .laysStatic Bundle.tN "SUPPRESSED_SENTINEL" Bundle.listD)
def vx_at0 (own : String) (ic : Nat) (X : String) (names : List String) : List Cond := (Bundle.ownAtoms0 own ic X names).filter vx_no
def vx_atS (own : String) (ic : Nat) (X : String) (names : List String) : List Cond := (Bundle.ownAtoms own ic X names).filter vx_no
/-- a word that the tables alone decide, or a good one -/
def vx_ot (w : Cond) : Bool := w.onTables || goodWord w
theorem vx_ot_at {args a' : Array Value} {s U : State} {w : Cond} (hW : s.WarmedH U.vm) (hvm : s.vm = U.vm) (hg : vx_ot w = true) (h : w.before args s = true) : w.before a' U = true := by
  simp only [vx_ot, Bool.or_eq_true] at hg
  rcases hg with hg | hg
  · exact va_tabs hg hvm h
  · exact word_at hW (good_of_word hg) h
/-- a list's words: the good ones out of the method's own list, the others by premises of their own -/
theorem vx_hat {args : Array Value} {s : State} {L B : List Cond} (h1 : ∀ w ∈ L.filter goodWord, w.before args s = true) (h2 : ∀ w ∈ L.filter (fun w => !goodWord w), w ∈ B) (h3 : ∀ w ∈ B, w.before args s = true) : ∀ w ∈ L, w.before args s = true := by
  intro w hw
  by_cases g : goodWord w = true
  · exact h1 w (List.mem_filter.mpr ⟨hw, g⟩)
  · refine h3 w (h2 w (List.mem_filter.mpr ⟨hw, ?_⟩))
    show (!goodWord w) = true
    cases hgw : goodWord w
    · rfl
    · exact absurd hgw g
theorem vx_c {args : Array Value} {s : State} {w : Cond} {B : List Cond} (h : w.before args s = true) (t : ∀ w ∈ B, w.before args s = true) : ∀ w' ∈ w :: B, w'.before args s = true := fun w' h' => (List.mem_cons.mp h').elim (fun e => by rw [e]; exact h) (t w')
theorem vx_n {args : Array Value} {s : State} : ∀ w ∈ ([] : List Cond), w.before args s = true := fun _ h => nomatch h
theorem vx_own {args : Array Value} {s : State} {L : List Cond} (h1 : ∀ w ∈ L.filter vx_no, w.before args s = true)
    (hU : (Cond.isRef (.static Bundle.tN "UNASSIGNED_STACK" Bundle.steD)).before args s = true) (hN : (Cond.isRef (.static Bundle.tN "SUPPRESSED_SENTINEL" Bundle.listD)).before args s = true)
    (lU : (Cond.laysStatic Bundle.tN "UNASSIGNED_STACK" Bundle.steD).before args s = true) (lN : (Cond.laysStatic Bundle.tN "SUPPRESSED_SENTINEL" Bundle.listD).before args s = true) : ∀ w ∈ L, w.before args s = true := by
  intro w hw
  by_cases e1 : w = .isRef (.static Bundle.tN "UNASSIGNED_STACK" Bundle.steD)
  · rw [e1]; exact hU
  · by_cases e2 : w = .isRef (.static Bundle.tN "SUPPRESSED_SENTINEL" Bundle.listD)
    · rw [e2]; exact hN
    · by_cases e3 : w = .laysStatic Bundle.tN "UNASSIGNED_STACK" Bundle.steD
      · rw [e3]; exact lU
      · by_cases e4 : w = .laysStatic Bundle.tN "SUPPRESSED_SENTINEL" Bundle.listD
        · rw [e4]; exact lN
        · exact h1 w (List.mem_filter.mpr ⟨hw, by unfold vx_no; rw [decide_eq_true e1, decide_eq_true e2, decide_eq_true e3, decide_eq_true e4]; rfl⟩)
/-- where a static field lies, its class's statics cell in H -/
def vx_L (C n d : String) (A : Nat → Prop) (U : State) (H : Heap) : Prop := ∃ (c : ClassId) (k : Class) (i : Nat) (f : Field) (a : Nat) (cell : Cell), U.vm.findClass C = some c ∧ U.fieldFound? C n d = some (c, k, i, f) ∧ f.isStatic = true ∧ k.statics = some a ∧ H[a]? = some cell ∧ cell.vm.isStatics = true ∧ cell.cls = c ∧ f.slot < cell.slots.size ∧ k.staticTypes[f.slot]? = some f.type ∧ ¬ A a
theorem vx_L.moved {C n d : String} {A : Nat → Prop} {u U : State} {H : Heap} (hvm : u.vm.Alike U.vm) (h : vx_L C n d A u H) : vx_L C n d A U H := by
  obtain ⟨c, k, i, f, a, cell, h1, h2, h3, h4, h5, h6, h7, h8, h9, h10⟩ := h
  obtain ⟨k', hi', he⟩ := State.fieldFound?_setVm hvm h2
  exact ⟨c, k', i, f, a, cell, by rw [hvm.findClass]; exact h1, hi', h3, by rw [he]; exact h4, h5, h6, h7, h8, by rw [he]; exact h9, h10⟩
theorem vx_L.kept {C n d : String} {A : Nat → Prop} {U : State} {H H1 : Heap} (h : vx_L C n d A U H) (hq : ∀ a : Nat, a < H.size → ¬ A a → H1[a]? = H[a]?) : vx_L C n d A U H1 := by
  obtain ⟨c, k, i, f, a, cell, h1, h2, h3, h4, h5, h6, h7, h8, h9, h10⟩ := h
  exact ⟨c, k, i, f, a, cell, h1, h2, h3, h4, by rw [hq a (Array.getElem?_eq_some_iff.mp h5).1 h10]; exact h5, h6, h7, h8, h9, h10⟩
theorem vx_L.narrow {C n d : String} {A B : Nat → Prop} {U : State} {H : Heap} (h : vx_L C n d A U H) (hAB : ∀ q, B q → A q) : vx_L C n d B U H := by
  obtain ⟨c, k, i, f, a, cell, h1, h2, h3, h4, h5, h6, h7, h8, h9, h10⟩ := h
  exact ⟨c, k, i, f, a, cell, h1, h2, h3, h4, h5, h6, h7, h8, h9, fun z => h10 (hAB _ z)⟩
theorem vx_L.word {C n d : String} {A : Nat → Prop} {s : State} {args : Array Value} (h : vx_L C n d A s s.heap) : (Cond.laysStatic C n d).before args s = true := by
  obtain ⟨c, k, i, f, a, cell, h1, h2, h3, h4, h5, h6, h7, h8, h9, -⟩ := h
  show (Cond.laysStatic C n d).holds args s none s [] = true
  exact Cond.laysStatic_of h1 h2 h3 h4 h5 h6 h7 h8 h9
/-- .. and what it holds: null or some reference -/
def vx_Zq (C n d : String) (A : Nat → Prop) (U : State) (H : Heap) : Prop := va_Zq C n d A U H ∧ vx_L C n d A U H
theorem vx_Zq.moved {C n d : String} {A : Nat → Prop} {u U : State} {H : Heap} (hvm : u.vm.Alike U.vm) (h : vx_Zq C n d A u H) : vx_Zq C n d A U H := ⟨va_Zq.moved hvm h.1, vx_L.moved hvm h.2⟩
theorem vx_Zq.kept {C n d : String} {A : Nat → Prop} {U : State} {H H1 : Heap} (h : vx_Zq C n d A U H) (hq : ∀ a : Nat, a < H.size → ¬ A a → H1[a]? = H[a]?) : vx_Zq C n d A U H1 := ⟨va_Zq.kept h.1 hq, vx_L.kept h.2 hq⟩
theorem vx_Zq.narrow {C n d : String} {A B : Nat → Prop} {U : State} {H : Heap} (h : vx_Zq C n d A U H) (hAB : ∀ q, B q → A q) : vx_Zq C n d B U H := ⟨va_Zq.narrow h.1 hAB, vx_L.narrow h.2 hAB⟩
theorem vx_Zqof {args : Array Value} {s : State} {C n d : String} {A : Nat → Prop} (hl : (Cond.laysStatic C n d).before args s = true) (hini : (Cond.initialized C).before args s = true) (h : (Cond.isRef (.static C n d)).before args s = true) (hA : ∀ a : Nat, a < s.heap.size → ¬ A a) : vx_Zq C n d A s s.heap := by
  refine ⟨va_Zqof hl hini h hA, ?_⟩
  obtain ⟨c, k, i, f, a, cell, h1, h2, h3, h4, h5, h6, h7, h8, h9⟩ := Cond.laysStatic_spec hl
  exact ⟨c, k, i, f, a, cell, h1, h2, h3, h4, h5, h6, h7, h8, h9, hA a (Array.getElem?_eq_some_iff.mp h5).1⟩
theorem vx_isRef {C n d : String} {v : Value} {A : Nat → Prop} {s : State} {args : Array Value} (h : va_Z C n d v A s s.heap) (hv : v.isRef = true) : (Cond.isRef (.static C n d)).before args s = true := by
  obtain ⟨cf, kf, fi, f, a, cell, h1, h2, h3, h4, h5, h6, h7, -⟩ := h
  have he : (Term.static C n d).eval args s none [] s = some v := by
    simp [Term.eval, State.fieldNamed?, h1, h2, h4, h5, h6, h7]
  simp only [Cond.before, Cond.holds, Cond.value, he]
  cases v <;> simp_all [Value.isRef]
theorem vx_isRefq {C n d : String} {A : Nat → Prop} {s : State} {args : Array Value} (h : va_Zq C n d A s s.heap) : (Cond.isRef (.static C n d)).before args s = true := by
  rcases h with h | ⟨t, h⟩
  · exact vx_isRef h rfl
  · exact vx_isRef h rfl
/-- the same frame, seen from here: as if the method were called anew in this heap -/
theorem vx_rebase {T : State} (X : Stand p l e R s m args below meth c T locs cells slots) {R' : Room} (hf : R'.frames ≤ R.frames) (hl : R'.locals ≤ R.locals) (hc : cells + R'.cells ≤ R.cells) (hs : slots + R'.slots ≤ R.slots) :
    Stand p l e R' ((T.setVm s.vm).setFrames (.invoking m args :: below)) m args below meth c T [] 0 0 := by
  have htop : (T.setVm s.vm).topJava?.isSome := X.here.top
  have hF : ((T.setVm s.vm).setFrames (.invoking m args :: below)).frames = .invoking m args :: below := State.frames_setFrames _ (State.cur_lt_of_top htop)
  obtain ⟨g₀, hg0⟩ := Option.isSome_iff_exists.mp htop
  obtain ⟨r, hr⟩ := State.topJava?_eq_some.mp hg0
  have hl9 : e.platform.stackLimits (T.setVm s.vm).me = e.platform.stackLimits s.me := X.limits
  have hb9 : (T.setVm s.vm).me.stackBytes = s.me.stackBytes := X.bytes
  refine ⟨X.admits, X.cas, X.clock, hF, ?_, X.hears, X.method, X.code, X.here, X.tail, X.warmed, ?_, ?_, ?_⟩
  · have h := X.room
    have hU : ((T.setVm s.vm).setFrames (.invoking m args :: below)).localsInUse = s.localsInUse := by
      rw [State.localsInUse_invoking hF (meth := meth) (c := c) X.method X.code, State.localsInUse_invoking X.frames X.method X.code]
    simp only [State.hasRoom, Bool.and_eq_true, decide_eq_true_eq] at h ⊢
    obtain ⟨⟨⟨⟨h1, h2, h3, h4, h5, h6⟩, h7⟩, h8⟩, h9⟩ := h
    rw [X.frames, List.length_cons] at h2 h3
    have q1 := X.heapSize
    have q2 := X.used
    simp only [hF, hU, List.length_cons, State.stackLimits_setFrames, State.stackBytes_setFrames, hl9, hb9]
    refine ⟨⟨⟨⟨by omega, by omega, by omega, by omega, by omega, h6⟩, ?_⟩, ?_⟩, X.book⟩
    · show T.heap.size + R'.cells ≤ e.platform.maxCells
      omega
    · show T.slotsUsed + R'.slots ≤ e.platform.maxSlots
      omega
  · rw [State.stackLimits_setFrames]; rfl
  · rw [State.stackBytes_setFrames]; rfl
  · refine ⟨?_, Nat.le_refl _, Nat.le_refl _, ?_, ?_, fun a c9 h9 => ⟨c9, h9, rfl, rfl, fun _ _ => rfl⟩⟩
    · obtain ⟨t, ht, -⟩ := State.frames_cons hr
      show T.setVm s.vm = { ((T.setVm s.vm).setFrames (.invoking m args :: below)).setFrames (T.setVm s.vm).frames with heap := T.heap, slotsUsed := T.slotsUsed }
      rw [State.setFrames_setFrames, State.setFrames_self ht]
      rfl
    · show T.slotsUsed = T.slotsUsed + ((T.heap.toList.drop T.heap.size).map (·.slots.size)).sum
      rw [List.drop_eq_nil_of_le (Nat.le_of_eq Array.length_toList)]
      rfl
    · show ((T.heap.toList.drop T.heap.size).map (·.slots.size)).sum ≤ 0
      rw [List.drop_eq_nil_of_le (Nat.le_of_eq Array.length_toList)]
      exact Nat.le_refl _
/-- 'throw new E()': new; dup; invokespecial; athrow -/
theorem vx_throw0 {cc : ByteArray} {pc : Nat} (hexec : p.tables.exec = Jvm.exec) (hb : c.code = cc) (hl : l.stackTraces = false) {own cls : String} {names : List String} {ik ic mc ms : Nat} {A : Nat → Prop}
    (hown : s.vm.findClass own = some m.cls) (hcls : Bundle.fit cls = true) (hnames : ∀ n ∈ names, Bundle.fit n = true)
    (hk : (Cond.classLink own ik cls).before args s = true) (hini : (Cond.initialized cls).before args s = true) (hat : ∀ w ∈ vx_at0 own ic cls names, w.before args s = true)
    (hgood : ∀ w ∈ Cond.classLink own ik cls :: Cond.initialized cls :: vx_at0 own ic cls names, vx_ot w = true)
    (hU : vx_Zq Bundle.tN "UNASSIGNED_STACK" Bundle.steD A s s.heap) (hN : vx_Zq Bundle.tN "SUPPRESSED_SENTINEL" Bundle.listD A s s.heap) (hS : va_S A s.heap H locs) (hsize : ls.size = c.maxLocals)
    (d0 : decode cc pc = .ok (.new ik, 3)) (d3 : decode cc (pc + 3) = .ok (.dup, 1)) (d4 : decode cc (pc + 4) = .ok (.invokespecial ic, 3)) (d7 : decode cc (pc + 7) = .ok (.athrow, 1))
    (hout : ∀ x ∈ c.exceptionTable.toList, covers x (pc + 7) = false)
    (hRframes : names.length + 3 < R.frames) (hRlocals : (rest.map fun v => v.category).sum + (13 * (names.length + 1) + 42) ≤ R.locals) (hRcells : cells + 1 ≤ R.cells) (hRslots : slots + 6 ≤ R.slots) (hlocks : meth.locks = false)
    (hx : ∀ t : State, s.vm.Alike t.vm → H.size ≤ t.heap.size → (∀ q : Nat, q < H.size → t.heap[q]? = H[q]?) → XC cls s t)
    (hf : ∀ z ∈ locs, free z.base) (hc : cells + 1 ≤ mc) (hs : slots + 6 ≤ ms) :
    W p l e R s m args below meth c H locs cells slots (vx_MQ below Qc XC args s mc ms free) (F0 m pc ls rest) := by
  intro T hT X
  have htr : e.platform.stackTraces = false := (show e.platform.stackTraces = l.stackTraces by rw [X.admits.platform]).trans hl
  have Y := vx_rebase X (R' := { frames := R.frames, locals := R.locals, cells := 1, slots := 6 }) (Nat.le_refl _) (Nat.le_refl _) hRcells hRslots
  obtain ⟨s', hA⟩ : ∃ z, z = (T.setVm s.vm).setFrames (.invoking m args :: below) := ⟨_, rfl⟩
  rw [← hA] at Y
  have hvm : s'.vm = s.vm := by rw [hA]; rfl
  have hhp : s'.heap = H := by rw [hA]; exact hT
  have hW0 : s.WarmedH s'.vm := by rw [hvm]; exact State.WarmedH.refl s
  have hat' : ∀ w ∈ vx_at0 own ic cls names, w.before args s' = true := fun w hw => vx_ot_at hW0 hvm.symm (hgood w (List.mem_cons_of_mem _ (List.mem_cons_of_mem _ hw))) (hat w hw)
  have hk' : (Cond.classLink own ik cls).before args s' = true := vx_ot_at hW0 hvm.symm (hgood _ List.mem_cons_self) hk
  have hini' : (Cond.initialized cls).before args s' = true := vx_ot_at hW0 hvm.symm (hgood _ (List.mem_cons_of_mem _ List.mem_cons_self)) hini
  have hU' : vx_Zq Bundle.tN "UNASSIGNED_STACK" Bundle.steD A s' s'.heap := by rw [hhp]; exact vx_Zq.moved hW0.alike (hU.kept hS.2.1)
  have hN' : vx_Zq Bundle.tN "SUPPRESSED_SENTINEL" Bundle.listD A s' s'.heap := by rw [hhp]; exact vx_Zq.moved hW0.alike (hN.kept hS.2.1)
  have h : ∀ w ∈ Bundle.ownAtoms0 own ic cls names, w.before args s' = true := vx_own hat' (vx_isRefq hU'.1) (vx_isRefq hN'.1) hU'.2.word hN'.2.word
  have hown' : s'.vm.findClass own = some m.cls := by rw [hvm]; exact hown
  have hins : (Cond.instantiable cls 6).before args s' = true := h _ (by simp [Bundle.ownAtoms0])
  obtain ⟨vm₁, cX, kX, hfX, hkX, -, -, X₁, st1⟩ := Y.newCold hexec (own := own) (C := cls) (index := ik) (n := 6) hown' hk' hins hini'
    (g := F0 m pc ls rest) rfl (by rw [hb]; exact d0) (Nat.le_refl _) (Nat.le_refl _)
  generalize hT1 : (T.setVm vm₁).pushCell { cls := cX, slots := kX.instanceTypes.map defaultValue, vm := .none } = T1 at X₁ st1
  have hcat : (Value.ref T.heap.size).category = 1 := rfl
  have hcellA : T1.heap[T.heap.size]? = some (freshCell cX kX) := by rw [← hT1]; exact State.heap_pushCell_size _ _
  have d3' : decode c.code (pc + 3) = .ok (.dup, 1) := by rw [hb]; exact d3
  obtain ⟨U, hsteps, hrun, hend, hW, hsame, ce, hce, hO⟩ := X₁.ctorThrow0 hexec htr (own := own) (cls := cls) (names := names) (ic := ic) hown' hcls hnames h (fun x hx => nomatch hx) hfX hkX hcellA (by rw [hhp, hT]; exact Nat.le_refl _)
    (g := { method := m, pc := pc + 4, locals := ls, stack := .ref T.heap.size :: .ref T.heap.size :: rest, locked := none }) rfl hsize rfl rfl (rest := rest) rfl
    (by rw [hb]; exact d4) (by rw [hb]; exact d7) hout hRframes (by simp only [List.map_cons, List.sum_cons, hcat]; omega) hlocks
  obtain ⟨f1, f2⟩ := vx_frame hsame
  rw [hhp] at f1 f2
  have hWs : s.WarmedH U.vm := State.WarmedH.trans hW0 hW
  have hcl : s.vm.findClass cls = some ce.cls := by
    have h9 := hO.cls
    rw [hvm] at h9
    exact h9
  have hall : s.sameButNew ({ U with vm := s.vm } : State) locs mc ms := by
    subst hA
    obtain ⟨e1, e2⟩ := hsame
    rw [State.setFrames_setFrames] at e1
    have h2 : (T.setVm s.vm).sameButNew ({ U with vm := s.vm } : State) [] (0 + 1) (0 + 6) := ⟨e1, e2⟩
    have h3 := X.same.trans h2
    rw [List.append_nil] at h3
    exact h3.mono hc hs
  refine ⟨U, ?_, .threw T.heap.size, hrun, hend, Or.inr ⟨T.heap.size, rfl, cls, ce, locs, hx U hWs.alike f1 (fun q hq => f2 q hq (fun z hz => nomatch hz)), hce, hO.vm, hcl, hWs, hall, hf⟩⟩
  refine st1 _ ?_
  show Steps p.tables e below (T1.setTop { method := m, pc := pc + 3, locals := ls, stack := .ref T.heap.size :: rest, locked := none }) _
  jvm_step X₁.here [X₁.here.top, hexec, d3', Value.category]
  exact hsteps
/-- 'throw new E("text")': new; dup; ldc; invokespecial; athrow -/
theorem vx_throwS {cc : ByteArray} {pc : Nat} (hexec : p.tables.exec = Jvm.exec) (hb : c.code = cc) (hl : l.stackTraces = false) {own cls text : String} {names : List String} {ik is ic mc ms sa : Nat} {A : Nat → Prop}
    (hown : s.vm.findClass own = some m.cls) (hcls : Bundle.fit cls = true) (hnames : ∀ n ∈ names, Bundle.fit n = true)
    (hk : (Cond.classLink own ik cls).before args s = true) (hini : (Cond.initialized cls).before args s = true) (hstr : vk_R own is text sa s) (hat : ∀ w ∈ vx_atS own ic cls names, w.before args s = true)
    (hgood : ∀ w ∈ Cond.classLink own ik cls :: Cond.initialized cls :: vx_atS own ic cls names, vx_ot w = true)
    (hU : vx_Zq Bundle.tN "UNASSIGNED_STACK" Bundle.steD A s s.heap) (hN : vx_Zq Bundle.tN "SUPPRESSED_SENTINEL" Bundle.listD A s s.heap) (hS : va_S A s.heap H locs) (hsize : ls.size = c.maxLocals)
    (d0 : decode cc pc = .ok (.new ik, 3)) (d3 : decode cc (pc + 3) = .ok (.dup, 1)) (d4 : decode cc (pc + 4) = .ok (.ldc is, 2)) (d6 : decode cc (pc + 6) = .ok (.invokespecial ic, 3)) (d9 : decode cc (pc + 9) = .ok (.athrow, 1))
    (hout : ∀ x ∈ c.exceptionTable.toList, covers x (pc + 9) = false)
    (hRframes : names.length + 3 < R.frames) (hRlocals : (rest.map fun v => v.category).sum + (13 * (names.length + 1) + 43) ≤ R.locals) (hRcells : cells + 1 ≤ R.cells) (hRslots : slots + 6 ≤ R.slots) (hlocks : meth.locks = false)
    (hx : ∀ t : State, s.vm.Alike t.vm → H.size ≤ t.heap.size → (∀ q : Nat, q < H.size → t.heap[q]? = H[q]?) → XC cls s t)
    (hf : ∀ z ∈ locs, free z.base) (hc : cells + 1 ≤ mc) (hs : slots + 6 ≤ ms) :
    W p l e R s m args below meth c H locs cells slots (vx_MQ below Qc XC args s mc ms free) (F0 m pc ls rest) := by
  intro T hT X
  have htr : e.platform.stackTraces = false := (show e.platform.stackTraces = l.stackTraces by rw [X.admits.platform]).trans hl
  have Y := vx_rebase X (R' := { frames := R.frames, locals := R.locals, cells := 1, slots := 6 }) (Nat.le_refl _) (Nat.le_refl _) hRcells hRslots
  obtain ⟨s', hA⟩ : ∃ z, z = (T.setVm s.vm).setFrames (.invoking m args :: below) := ⟨_, rfl⟩
  rw [← hA] at Y
  have hvm : s'.vm = s.vm := by rw [hA]; rfl
  have hhp : s'.heap = H := by rw [hA]; exact hT
  have hW0 : s.WarmedH s'.vm := by rw [hvm]; exact State.WarmedH.refl s
  have hat' : ∀ w ∈ vx_atS own ic cls names, w.before args s' = true := fun w hw => vx_ot_at hW0 hvm.symm (hgood w (List.mem_cons_of_mem _ (List.mem_cons_of_mem _ hw))) (hat w hw)
  have hk' : (Cond.classLink own ik cls).before args s' = true := vx_ot_at hW0 hvm.symm (hgood _ List.mem_cons_self) hk
  have hini' : (Cond.initialized cls).before args s' = true := vx_ot_at hW0 hvm.symm (hgood _ (List.mem_cons_of_mem _ List.mem_cons_self)) hini
  have hU' : vx_Zq Bundle.tN "UNASSIGNED_STACK" Bundle.steD A s' s'.heap := by rw [hhp]; exact vx_Zq.moved hW0.alike (hU.kept hS.2.1)
  have hN' : vx_Zq Bundle.tN "SUPPRESSED_SENTINEL" Bundle.listD A s' s'.heap := by rw [hhp]; exact vx_Zq.moved hW0.alike (hN.kept hS.2.1)
  have h : ∀ w ∈ Bundle.ownAtoms own ic cls names, w.before args s' = true := vx_own hat' (vx_isRefq hU'.1) (vx_isRefq hN'.1) hU'.2.word hN'.2.word
  have hown' : s'.vm.findClass own = some m.cls := by rw [hvm]; exact hown
  have hins : (Cond.instantiable cls 6).before args s' = true := h _ (by simp [Bundle.ownAtoms])
  obtain ⟨vm₁, cX, kX, hfX, hkX, -, -, X₁, st1⟩ := Y.newCold hexec (own := own) (C := cls) (index := ik) (n := 6) hown' hk' hins hini'
    (g := F0 m pc ls rest) rfl (by rw [hb]; exact d0) (Nat.le_refl _) (Nat.le_refl _)
  generalize hT1 : (T.setVm vm₁).pushCell { cls := cX, slots := kX.instanceTypes.map defaultValue, vm := .none } = T1 at X₁ st1
  have hcat : (Value.ref T.heap.size).category = 1 := rfl
  have hcellA : T1.heap[T.heap.size]? = some (freshCell cX kX) := by rw [← hT1]; exact State.heap_pushCell_size _ _
  have d3' : decode c.code (pc + 3) = .ok (.dup, 1) := by rw [hb]; exact d3
  have d4' : decode c.code (pc + 4) = .ok (.ldc is, 2) := by rw [hb]; exact d4
  have hstr' : vk_R own is text sa s' := vk_R.warm hW0 hstr
  obtain ⟨U, hsteps, hrun, hend, hW, hsame, ce, hce, hO⟩ := X₁.ctorThrowS hexec htr (own := own) (cls := cls) (names := names) (ic := ic) hown' hcls hnames h (fun x hx => nomatch hx) hfX hkX hcellA (by rw [hhp, hT]; exact Nat.le_refl _) (msg := .ref sa) rfl
    (g := { method := m, pc := pc + 6, locals := ls, stack := .ref sa :: .ref T.heap.size :: .ref T.heap.size :: rest, locked := none }) rfl hsize rfl rfl (rest := rest) rfl
    (by rw [hb]; exact d6) (by rw [hb]; exact d9) hout hRframes (by simp only [List.map_cons, List.sum_cons, hcat]; omega) hlocks
  obtain ⟨f1, f2⟩ := vx_frame hsame
  rw [hhp] at f1 f2
  have hWs : s.WarmedH U.vm := State.WarmedH.trans hW0 hW
  have hcl : s.vm.findClass cls = some ce.cls := by
    have h9 := hO.cls
    rw [hvm] at h9
    exact h9
  have hall : s.sameButNew ({ U with vm := s.vm } : State) locs mc ms := by
    subst hA
    obtain ⟨e1, e2⟩ := hsame
    rw [State.setFrames_setFrames] at e1
    have h2 : (T.setVm s.vm).sameButNew ({ U with vm := s.vm } : State) [] (0 + 1) (0 + 6) := ⟨e1, e2⟩
    have h3 := X.same.trans h2
    rw [List.append_nil] at h3
    exact h3.mono hc hs
  refine ⟨U, ?_, .threw T.heap.size, hrun, hend, Or.inr ⟨T.heap.size, rfl, cls, ce, locs, hx U hWs.alike f1 (fun q hq => f2 q hq (fun z hz => nomatch hz)), hce, hO.vm, hcl, hWs, hall, hf⟩⟩
  refine st1 _ ?_
  show Steps p.tables e below (T1.setTop { method := m, pc := pc + 3, locals := ls, stack := .ref T.heap.size :: rest, locked := none }) _
  jvm_step X₁.here [X₁.here.top, hexec, d3', Value.category]
  exact X₁.ldcString hexec (own := own) (text := text) (index := is) (a := sa) hown' hstr'.1 hstr'.2
    (g := { method := m, pc := pc + 4, locals := ls, stack := .ref T.heap.size :: .ref T.heap.size :: rest, locked := none }) rfl d4' _ hsteps
/-- 'throw new E("text")', the text by a wide index -/
theorem vx_throwSW {cc : ByteArray} {pc : Nat} (hexec : p.tables.exec = Jvm.exec) (hb : c.code = cc) (hl : l.stackTraces = false) {own cls text : String} {names : List String} {ik is ic mc ms sa : Nat} {A : Nat → Prop}
    (hown : s.vm.findClass own = some m.cls) (hcls : Bundle.fit cls = true) (hnames : ∀ n ∈ names, Bundle.fit n = true)
    (hk : (Cond.classLink own ik cls).before args s = true) (hini : (Cond.initialized cls).before args s = true) (hstr : vk_R own is text sa s) (hat : ∀ w ∈ vx_atS own ic cls names, w.before args s = true)
    (hgood : ∀ w ∈ Cond.classLink own ik cls :: Cond.initialized cls :: vx_atS own ic cls names, vx_ot w = true)
    (hU : vx_Zq Bundle.tN "UNASSIGNED_STACK" Bundle.steD A s s.heap) (hN : vx_Zq Bundle.tN "SUPPRESSED_SENTINEL" Bundle.listD A s s.heap) (hS : va_S A s.heap H locs) (hsize : ls.size = c.maxLocals)
    (d0 : decode cc pc = .ok (.new ik, 3)) (d3 : decode cc (pc + 3) = .ok (.dup, 1)) (d4 : decode cc (pc + 4) = .ok (.ldc_w is, 3)) (d7 : decode cc (pc + 7) = .ok (.invokespecial ic, 3)) (d10 : decode cc (pc + 10) = .ok (.athrow, 1))
    (hout : ∀ x ∈ c.exceptionTable.toList, covers x (pc + 10) = false)
    (hRframes : names.length + 3 < R.frames) (hRlocals : (rest.map fun v => v.category).sum + (13 * (names.length + 1) + 43) ≤ R.locals) (hRcells : cells + 1 ≤ R.cells) (hRslots : slots + 6 ≤ R.slots) (hlocks : meth.locks = false)
    (hx : ∀ t : State, s.vm.Alike t.vm → H.size ≤ t.heap.size → (∀ q : Nat, q < H.size → t.heap[q]? = H[q]?) → XC cls s t)
    (hf : ∀ z ∈ locs, free z.base) (hc : cells + 1 ≤ mc) (hs : slots + 6 ≤ ms) :
    W p l e R s m args below meth c H locs cells slots (vx_MQ below Qc XC args s mc ms free) (F0 m pc ls rest) := by
  intro T hT X
  have htr : e.platform.stackTraces = false := (show e.platform.stackTraces = l.stackTraces by rw [X.admits.platform]).trans hl
  have Y := vx_rebase X (R' := { frames := R.frames, locals := R.locals, cells := 1, slots := 6 }) (Nat.le_refl _) (Nat.le_refl _) hRcells hRslots
  obtain ⟨s', hA⟩ : ∃ z, z = (T.setVm s.vm).setFrames (.invoking m args :: below) := ⟨_, rfl⟩
  rw [← hA] at Y
  have hvm : s'.vm = s.vm := by rw [hA]; rfl
  have hhp : s'.heap = H := by rw [hA]; exact hT
  have hW0 : s.WarmedH s'.vm := by rw [hvm]; exact State.WarmedH.refl s
  have hat' : ∀ w ∈ vx_atS own ic cls names, w.before args s' = true := fun w hw => vx_ot_at hW0 hvm.symm (hgood w (List.mem_cons_of_mem _ (List.mem_cons_of_mem _ hw))) (hat w hw)
  have hk' : (Cond.classLink own ik cls).before args s' = true := vx_ot_at hW0 hvm.symm (hgood _ List.mem_cons_self) hk
  have hini' : (Cond.initialized cls).before args s' = true := vx_ot_at hW0 hvm.symm (hgood _ (List.mem_cons_of_mem _ List.mem_cons_self)) hini
  have hU' : vx_Zq Bundle.tN "UNASSIGNED_STACK" Bundle.steD A s' s'.heap := by rw [hhp]; exact vx_Zq.moved hW0.alike (hU.kept hS.2.1)
  have hN' : vx_Zq Bundle.tN "SUPPRESSED_SENTINEL" Bundle.listD A s' s'.heap := by rw [hhp]; exact vx_Zq.moved hW0.alike (hN.kept hS.2.1)
  have h : ∀ w ∈ Bundle.ownAtoms own ic cls names, w.before args s' = true := vx_own hat' (vx_isRefq hU'.1) (vx_isRefq hN'.1) hU'.2.word hN'.2.word
  have hown' : s'.vm.findClass own = some m.cls := by rw [hvm]; exact hown
  have hins : (Cond.instantiable cls 6).before args s' = true := h _ (by simp [Bundle.ownAtoms])
  obtain ⟨vm₁, cX, kX, hfX, hkX, -, -, X₁, st1⟩ := Y.newCold hexec (own := own) (C := cls) (index := ik) (n := 6) hown' hk' hins hini'
    (g := F0 m pc ls rest) rfl (by rw [hb]; exact d0) (Nat.le_refl _) (Nat.le_refl _)
  generalize hT1 : (T.setVm vm₁).pushCell { cls := cX, slots := kX.instanceTypes.map defaultValue, vm := .none } = T1 at X₁ st1
  have hcat : (Value.ref T.heap.size).category = 1 := rfl
  have hcellA : T1.heap[T.heap.size]? = some (freshCell cX kX) := by rw [← hT1]; exact State.heap_pushCell_size _ _
  have d3' : decode c.code (pc + 3) = .ok (.dup, 1) := by rw [hb]; exact d3
  have d4' : decode c.code (pc + 4) = .ok (.ldc_w is, 3) := by rw [hb]; exact d4
  have hstr' : vk_R own is text sa s' := vk_R.warm hW0 hstr
  obtain ⟨U, hsteps, hrun, hend, hW, hsame, ce, hce, hO⟩ := X₁.ctorThrowS hexec htr (own := own) (cls := cls) (names := names) (ic := ic) hown' hcls hnames h (fun x hx => nomatch hx) hfX hkX hcellA (by rw [hhp, hT]; exact Nat.le_refl _) (msg := .ref sa) rfl
    (g := { method := m, pc := pc + 7, locals := ls, stack := .ref sa :: .ref T.heap.size :: .ref T.heap.size :: rest, locked := none }) rfl hsize rfl rfl (rest := rest) rfl
    (by rw [hb]; exact d7) (by rw [hb]; exact d10) hout hRframes (by simp only [List.map_cons, List.sum_cons, hcat]; omega) hlocks
  obtain ⟨f1, f2⟩ := vx_frame hsame
  rw [hhp] at f1 f2
  have hWs : s.WarmedH U.vm := State.WarmedH.trans hW0 hW
  have hcl : s.vm.findClass cls = some ce.cls := by
    have h9 := hO.cls
    rw [hvm] at h9
    exact h9
  have hall : s.sameButNew ({ U with vm := s.vm } : State) locs mc ms := by
    subst hA
    obtain ⟨e1, e2⟩ := hsame
    rw [State.setFrames_setFrames] at e1
    have h2 : (T.setVm s.vm).sameButNew ({ U with vm := s.vm } : State) [] (0 + 1) (0 + 6) := ⟨e1, e2⟩
    have h3 := X.same.trans h2
    rw [List.append_nil] at h3
    exact h3.mono hc hs
  refine ⟨U, ?_, .threw T.heap.size, hrun, hend, Or.inr ⟨T.heap.size, rfl, cls, ce, locs, hx U hWs.alike f1 (fun q hq => f2 q hq (fun z hz => nomatch hz)), hce, hO.vm, hcl, hWs, hall, hf⟩⟩
  refine st1 _ ?_
  show Steps p.tables e below (T1.setTop { method := m, pc := pc + 3, locals := ls, stack := .ref T.heap.size :: rest, locked := none }) _
  jvm_step X₁.here [X₁.here.top, hexec, d3', Value.category]
  exact X₁.ldcStringW hexec (own := own) (text := text) (index := is) (a := sa) hown' hstr'.1 hstr'.2
    (g := { method := m, pc := pc + 4, locals := ls, stack := .ref T.heap.size :: .ref T.heap.size :: rest, locked := none }) rfl d4' _ hsteps
end Ends
section Bodies
variable {l : Launch}
theorem vx_ofW {y : MethodName} {ws ws' : List Cond} {rm : Room} {Pc : Array Value → State → Prop} {Qc : Array Value → State → Outcome → State → Prop} {XC : String → State → State → Prop} {mc ms : Nat} {free : Addr → Prop} {cc : ByteArray} {maxL : Nat} {ret : Option FieldType}
    (hy : plainName y.cls = true) (hw : ws = Cond.code y cc maxL ret :: ws')
    (body : ∀ p e s m args below meth c s₁, BodyLoose p l y (headSpec ws rm) cc maxL ret e s m args below meth c s₁ → c.maxLocals = maxL → (∀ x ∈ c.exceptionTable.toList, False) → Pc args s →
      W p l e (headSpec ws rm).room s m args below meth c s.heap [] 0 0 (vx_MQ below Qc XC args s mc ms free) (entryFrame m args maxL)) : vx_Met l y ws rm Pc Qc XC mc ms free := by
  refine MetFree.of_bodyS (code := cc) (maxLocals := maxL) (ret := ret) hy ?_ ?_
  · intro args s m h hn
    obtain ⟨meth, c, h1, h2, h3, h4, h5, h6, -, -⟩ := Cond.code_spec hn (atoms_spec (ws := ws) h _ (by rw [hw]; exact List.mem_cons_self))
    exact ⟨meth, c, h1, h2, h3, h4, h5, h6⟩
  · intro p e s m args below meth c s₁ B hml hP _
    have hh0 : s₁.heap = s.heap := by rw [B.state]; rfl
    have ht : ∀ x ∈ c.exceptionTable.toList, False := by
      obtain ⟨meth9, c9, h1, h2, -, -, -, -, h7, -⟩ := Cond.code_spec B.named (atoms_spec (ws := ws) B.pre _ (by rw [hw]; exact List.mem_cons_self))
      cases Option.some.inj (h1.symm.trans B.method)
      cases Option.some.inj (h2.symm.trans (Stand.of_body B).code)
      intro x hx
      rw [Array.isEmpty_iff.mp h7] at hx
      cases hx
    obtain ⟨t, a1, o, b1, b2, b3⟩ := body p e s m args below meth c s₁ B hml ht hP s₁ hh0 (Stand.of_body B)
    exact ⟨t, o, a1, b1, b2, b3⟩
/-- the table of a body with handlers -/
theorem vx_table {p : Program} {x y : MethodName} {S : Spec} {cc bytes : ByteArray} {maxL maxL' : Nat} {ret ret' : Option FieldType} {e : Env} {s s₁ : State} {m : MethodId} {args : Array Value} {below : List Frame} {meth : Method} {c : Code} {hh : List (Nat × Nat × Nat × Nat)}
    (B : BodyLoose p l y S cc maxL ret e s m args below meth c s₁) (h : (Cond.codeWith y bytes maxL' ret' hh).before args s = true) : c.exceptionTable.toList = tableOf hh := by
  obtain ⟨m9, meth9, c9, hn9, h1, h2, -, -, h6, -⟩ := Cond.codeWith_spec h
  cases Option.some.inj (hn9.symm.trans B.named)
  cases Option.some.inj (h1.symm.trans B.method)
  cases Option.some.inj (h2.symm.trans (Stand.of_body B).code)
  rw [← h6, table_eq]
end Bodies
end VXA
/-! ===== END ===== -/
/-! ===== BEGIN a static call of a method with an exception table ===== -/
section VXS
variable {p : Program} {l : Launch} {e : Env} {R : Room} {s : State} {m : MethodId} {args : Array Value} {below : List Frame} {meth : Method} {c : Code} {T : State} {H : Heap} {locs : List Loc} {cells slots : Nat}
abbrev vx_CSW (R : Room) (s : State) (args : Array Value) (own : String) (index : Nat) (y : MethodName) (bytes : ByteArray) (maxL : Nat) (ret : Option FieldType) (hh : List (Nat × Nat × Nat × Nat)) (ws : List Cond) (rm : Room) (mc ms n : Nat) : Prop :=
  (rm.cells = mc ∧ rm.slots = ms ∧ rm.frames + 1 ≤ R.frames ∧ 8 + (maxL + 11) + rm.locals ≤ R.locals ∧ (∀ w ∈ ws, ∀ (a' : Array Value) (U : State), s.WarmedH U.vm → w.before a' U = true) ∧ Cond.codeWith y bytes maxL ret hh ∈ ws) ∧
  (Cond.codeWith y bytes maxL ret hh).before args s = true ∧ (Cond.initialized y.cls).before args s = true ∧ (y.cls ≠ "java/lang/invoke/MethodHandle" ∧ y.cls ≠ "java/lang/invoke/VarHandle") ∧
  (∀ sig, parseMethodDescriptor y.desc = some sig → n = sig.parameters.length) ∧ (Cond.methodLink own index y).before args s = true ∧ (Cond.static y).before args s = true
theorem vx_cwSW {own : String} {index maxL mc ms : Nat} {y : MethodName} {bytes : ByteArray} {ret : Option FieldType} {hh : List (Nat × Nat × Nat × Nat)} {Ts ws ws' : List Cond} {rm : Room} (n : Nat) (ht : ∀ w ∈ Ts, w.before args s = true) (hT : GoodIn Ts (va_wsS own index y ws)) (hw : ws = Cond.codeWith y bytes maxL ret hh :: ws') (hrc : rm.cells = mc) (hrs : rm.slots = ms)
    (hd : y.cls ≠ "java/lang/invoke/MethodHandle" ∧ y.cls ≠ "java/lang/invoke/VarHandle" ∧ (parseMethodDescriptor y.desc).map (fun d => d.parameters.length) = some n) (hR : rm.frames + 1 ≤ R.frames ∧ 8 + (maxL + 11) + rm.locals ≤ R.locals) :
    vx_CSW R s args own index y bytes maxL ret hh ws rm mc ms n := by
  have ok : ∀ w ∈ va_wsS own index y ws, w.before args s = true := fun w h => ht w (hT w h).1
  have hG : GoodIn Ts ws := fun w h => hT w (by unfold va_wsS; exact List.mem_append_right _ h)
  have hc : Cond.codeWith y bytes maxL ret hh ∈ ws := by rw [hw]; exact List.mem_cons_self
  refine ⟨⟨hrc, hrs, hR.1, hR.2, pay_in ht hG, hc⟩, ht _ (hG _ hc).1, ok _ (by simp [va_wsS]), ⟨hd.1, hd.2.1⟩, fun sig h => ?_, ok _ (by simp [va_wsS]), ok _ (by simp [va_wsS])⟩
  have h2 := hd.2.2
  rw [h] at h2
  exact (Option.some.inj h2).symm
theorem vx_callSW (X : Stand p l e R s m args below meth c T locs cells slots) (hexec : p.tables.exec = Jvm.exec) {own : String} {index : Nat} {y : MethodName} {bytes : ByteArray} {maxL : Nat} {ret : Option FieldType} {hh : List (Nat × Nat × Nat × Nat)}
    (hown : s.vm.findClass own = some m.cls) (hlink : (Cond.methodLink own index y).before args s = true) (hstat : (Cond.static y).before args s = true) (hinit : (Cond.initialized y.cls).before args s = true)
    (hcode : (Cond.codeWith y bytes maxL ret hh).before args s = true) (hy : y.cls ≠ "java/lang/invoke/MethodHandle" ∧ y.cls ≠ "java/lang/invoke/VarHandle")
    {W9 : Nat} {Pre : Pt → Array Value → Prop} {Post : Pt → Array Value → Option Value → Pt → Prop} (hK : Back l R p e below s args y 3 W9 Pre Post)
    {g : JFrame} (hg : g.method = m) (hsize : g.locals.size = c.maxLocals) {argsL rest : List Value} (hlen : ∀ sig, parseMethodDescriptor y.desc = some sig → argsL.length = sig.parameters.length)
    (hstack : g.stack = argsL.reverse ++ rest) (hW : 2 * g.monitorRoom + (rest.map fun v => v.category).sum ≤ W9) (hdg : decode c.code g.pc = .ok (.invokestatic index, 3))
    (hpre : ∀ vm₁, s.WarmedH vm₁ → Pre ⟨T.setVm vm₁, locs, cells, slots⟩ argsL.toArray) :
    ∃ (v : Option Value) (vm₁ : Vm) (B : Pt), s.WarmedH vm₁ ∧ Stand p l e R s m args below meth c B.U B.locs B.cells B.slots ∧ Post ⟨T.setVm vm₁, locs, cells, slots⟩ argsL.toArray v B ∧
      ∀ target, Steps p.tables e below (B.U.setTop { g with pc := g.pc + 3, stack := v.toList ++ rest }) target → Steps p.tables e below (T.setTop g) target := by
  obtain ⟨mk, methM, cM, hnamed, hmethM, -, -, -, -, -, -, hsigM⟩ := Cond.codeWith_spec hcode
  have hstatic : methM.isStatic = true := Cond.static_spec hnamed hmethM hstat
  obtain ⟨kP, hkP, -⟩ := className_of_methodNamed hnamed
  have hinitP : kP.init = .initialized := Cond.initialized_spec (findClass_of_methodNamed hnamed) hkP hinit
  obtain ⟨vm₁, X₁, hstep₁⟩ := X.invokestatic hexec hown hlink hnamed hmethM hstatic hkP hinitP hy (g := g) hg (argsL := argsL) (rest := rest) (hlen _ hsigM) hstack hdg
  obtain ⟨v, B, X', hpost, hsteps⟩ := hK m meth c ⟨T.setVm vm₁, locs, cells, slots⟩ { g with stack := rest } (.invokestatic index) mk argsL.toArray X₁ hg hsize hdg hW (X₁.named hnamed) (hpre vm₁ X₁.warmed)
  exact ⟨v, vm₁, B, X₁.warmed, X', hpost, fun target h => hstep₁ _ fun acts => by rw [doInvoke_state]; exact hsteps.trans h⟩
theorem vx_runSW {y : MethodName} {bytes cc : ByteArray} {maxL nL mc ms n index : Nat} {ret : Option FieldType} {hh : List (Nat × Nat × Nat × Nat)} {ws : List Cond} {rm : Room} {Pc : Array Value → State → Prop} {Qc : Array Value → State → Outcome → State → Prop} {free : Addr → Prop} {Ts : List Cond} {own : String} {As rest : List Value} {g : JFrame}
    (S : CallFix p m c cc nL s args Ts own) (hM : Met l y ws rm Pc Qc mc ms free) (cw : vx_CSW R s args own index y bytes maxL ret hh ws rm mc ms n) (hp : PreS s H Pc As)
    (hg : g.method = m) (hn : As.length = n) (hsize : g.locals.size = nL) (hstack : g.stack = As.reverse ++ rest) (hW : 2 * g.monitorRoom + (rest.map fun v => v.category).sum ≤ 8) (hdg : decode cc g.pc = .ok (.invokestatic index, 3)) (hf : cells + mc ≤ R.cells ∧ slots + ms ≤ R.slots) :
    va_Run p l e R s m args below meth c H locs cells slots mc ms g rest (Qc As.toArray) (free) := by
  obtain ⟨⟨hrc, hrs, hfr, hlo, hws, hcw⟩, hcode, hini, hy, hlen, hl, hstt⟩ := cw
  have hK : Back l R p e below s args y 3 8 (PreOf R mc ms Pc) (PostOf Qc mc ms free) := va_backW (hh := hh) (bytes := bytes) (maxL := maxL) (ret := ret) hM hp.1 hrc hrs hfr hlo hws hcw (fun a' U hW => word_at hW (Or.inl (by first | rfl | simp [Cond.onTables, Cond.keeps, Cond.steady])) hini)
  obtain ⟨hx, hb, hml, ho, -⟩ := S
  intro T hT X
  obtain ⟨v, vm₁, ⟨U', l2, c2, s2⟩, hW₁, X', ⟨g', mk, t, L, e1, e2, hq, h1, hL, h2, h3⟩, st⟩ := vx_callSW X hx (hh := hh) (bytes := bytes) (maxL := maxL) (ret := ret) ho hl hstt hini hcode hy hK hg (hsize.trans hml.symm) (argsL := As) (rest := rest) (fun sig h => hn.trans (hlen sig h)) hstack hW (by rw [hb]; exact hdg)
    (fun vm₁ hW₁ => ⟨hf.1, hf.2, hp.2 (T.setVm vm₁) hT hW₁⟩)
  dsimp only [Pt.U, Pt.locs, Pt.cells, Pt.slots] at X' e1 e2 h1 h2 h3 st
  subst h1; subst h2; subst h3
  exact ⟨v, (T.setVm vm₁).calling g' mk As.toArray, t, U', L, hT, X', hL, e1, e2, hq, st⟩
/-- not caught here, past rows that name other classes: it goes on to the caller -/
theorem vx_outP {p : Program} {l : Launch} {e : Env} {R : Room} {s : State} {m : MethodId} {args : Array Value} {below : List Frame} {meth : Method} {c : Code} {H : Heap} {locs : List Loc} {cells slots : Nat} {free : Addr → Prop} {ls : Array Slot} {rest : List Value} {Qc : Array Value → State → Outcome → State → Prop} {XC : String → State → State → Prop}
    {pc : Nat} {own E : String} {ce : Cell} {q : Addr} {mc ms : Nat} (hown : s.vm.findClass own = some m.cls) (hlocks : meth.locks = false)
    (hpass : ∀ z ∈ c.exceptionTable.toList, covers z pc = false ∨ (z.catchType ≠ 0 ∧ ∃ nm : String, (Cond.classLink own z.catchType nm).before args s = true ∧ va_Nc E nm s)) (hcell : H[q]? = some ce) (hv : ce.vm = .none) (hcl : s.vm.findClass E = some ce.cls)
    (hx : ∀ t : State, t.heap = H → s.vm.Alike t.vm → XC E s t) (hf : ∀ z ∈ locs, free z.base) (hc : cells ≤ mc) (hs : slots ≤ ms) :
    vx_W p l e R s m args below meth c H locs cells slots (vx_MQ below Qc XC args s mc ms free) (F0 m pc ls rest) q := by
  intro T hT X
  have hpl : e.platform.magicAccessors = ({} : Platform).magicAccessors := by rw [X.admits.platform]
  obtain ⟨vm', hW', X', st⟩ := Jvm.Stand.outThrough X hlocks q (g := F0 m pc ls rest) rfl rfl rfl (cell := ce) (by rw [hT]; exact hcell) (by rw [hv]; rfl)
    (by obtain ⟨k9, h9, -⟩ := Vm.findClass_spec hcl; exact ⟨k9, h9⟩) (fun z hz => by
      rcases hpass z hz with h | ⟨hz0, nm, hl1, hn1⟩
      · exact Or.inl h
      · obtain ⟨c6, hc6, hcl6⟩ := Cond.classLink_spec hown hl1 e.platform hpl
        obtain ⟨a8, b8, h1, h2, h3⟩ := hn1
        cases Option.some.inj (h1.symm.trans hcl)
        cases Option.some.inj (h2.symm.trans hc6)
        exact Or.inr ⟨hz0, _, hcl6, h3⟩)
  obtain ⟨g₀, hfr⟩ := X'.frames_eq
  have hcell9 : ((T.setVm vm').setFrames (.throwing q :: below)).heap[q]? = some ce := by
    show T.heap[q]? = some ce
    rw [hT]; exact hcell
  have hend : Ended ((T.setVm vm').setFrames (.throwing q :: below)) below (.threw q) := State.frames_setFrames _ (State.cur_lt_of_frames hfr)
  refine ⟨(T.setVm vm').setFrames (.throwing q :: below), ?_, .threw q, X'.here.running, hend, Or.inr ⟨q, rfl, E, ce, locs, hx _ hT (X'.ends _).1.alike, hcell9, hv, hcl, (X'.ends _).1, (X'.ends _).2.mono hc hs, hf⟩⟩
  rw [X.pushThrowing_eq]
  exact st
/-- a thing of a world lies in the heap -/
theorem vx_lt {D : va_G} {cl : List vw_C} {ws : va_W} {H1 : Heap} (h : va_P D cl ws H1) {k : Nat} {q : Nat × va_E} (hk : ws[k]? = some q) : q.1 < H1.size := (h k q hk).lt
end VXS
/-! ===== END ===== -/
/-! ===== BEGIN methods with a table of their own: called by a name, returning or throwing ===== -/
section VXH
/-! vx_backW, vx_callVX, vx_callSX, vx_callVW, vx_runVW, vx_runVX, vx_runSX, vx_ofWH follow the same proofs as their sisters above (Free/Laws.lean, Shelf42/LK1.lean); vx_outP calls Shelf42/NT130.lean (outThrough). -/
section
variable {l : Launch} {R : Room} {p : Program} {e : Env} {below : List Frame} {s : State} {sargs : Array Value} {y : MethodName} {len W9 : Nat}
theorem vx_backW {ws : List Cond} {rm : Room} {Pc : Array Value → State → Prop} {Qc : Array Value → State → Outcome → State → Prop} {XC : String → State → State → Prop} {mc ms : Nat} {free : Addr → Prop} {bytes : ByteArray} {maxL : Nat} {ret : Option FieldType} {hh : List (Nat × Nat × Nat × Nat)}
    (hM : vx_Met l y ws rm Pc Qc XC mc ms free) (hblind : FrameBlind Pc) (hrc : rm.cells = mc) (hrs : rm.slots = ms)
    (hframes : rm.frames + 1 ≤ R.frames) (hlocals : W9 + (maxL + 11) + rm.locals ≤ R.locals)
    (hws : ∀ w ∈ ws, ∀ a' U, s.WarmedH U.vm → w.before a' U = true) (hcode : Cond.codeWith y bytes maxL ret hh ∈ ws) (hinit : ∀ a' U, s.WarmedH U.vm → (Cond.initialized y.cls).before a' U = true) :
    vx_Back l R p e below s sargs y len W9 (PreOf R mc ms Pc) (PostOf Qc mc ms free) (vx_Post XC mc ms free) := by
  intro m meth c A g ig mk a X hg hsize hdg hW hn hp
  have h1 : (headSpec ws rm).pre.before a A.U = true := atoms_intro fun w hw => hws w hw _ _ X.warmed
  have h2 : (Cond.codeWith y bytes maxL ret hh).before a A.U = true := hws _ hcode _ _ X.warmed
  have h3 : (Cond.initialized y.cls).before a A.U = true := hinit _ _ X.warmed
  have h4 : A.cells + (headSpec ws rm).room.cells ≤ R.cells := by rw [show (headSpec ws rm).room.cells = mc from hrc]; exact hp.1
  have h5 : A.slots + (headSpec ws rm).room.slots ≤ R.slots := by rw [show (headSpec ws rm).room.slots = ms from hrs]; exact hp.2.1
  have hPc : Pc a (A.U.calling g mk a) := hblind _ _ _ _ hp.2.2
  obtain ⟨U, Ls, c0, s0⟩ := A
  dsimp only [Pt.U, Pt.locs, Pt.cells, Pt.slots] at h1 h2 h3 h4 h5 X hn hPc ⊢
  obtain ⟨m9, methY, cY, hn9, hmY, hcY, -, hlY, -⟩ := Cond.codeWith_spec h2
  cases Option.some.inj (hn9.symm.trans hn)
  obtain ⟨kY, hkY, -⟩ := className_of_methodNamed hn
  have hinitY : kY.init = .initialized := Cond.initialized_spec (findClass_of_methodNamed hn) hkY h3
  have h : At U g.method c below := by rw [hg]; exact X.here
  have hlocals9 : W9 + (maxL + 11) + (headSpec ws rm).room.locals ≤ R.locals := hlocals
  have happ : (headSpec ws rm).appliesLoose y e.platform (U.calling g mk a) = true :=
    Spec.appliesLoose_calling (g := g) h hdg hn hkY hinitY
      (X.room_calling (g := g) (R' := (headSpec ws rm).room) hsize hmY hcY hframes (by rw [hlY]; omega) h4 h5) h1
  obtain ⟨mid, hmid⟩ := h.above
  have hfr : (U.setTop g).frames = (.java g :: mid) ++ below := by rw [State.frames_setTop' g h.top, hmid]; rfl
  obtain ⟨o, s₂, hsteps, -, hend, hq⟩ := Steps.callFree hM p X.admits X.cas X.clock (acts := []) hfr happ hPc trivial
  have hq' : vx_Q Qc XC mc ms free a (U.calling g mk a) o s₂ := hq
  rw [State.frames_setTop' g h.top] at hend
  obtain ⟨g₀, hg0⟩ := Option.isSome_iff_exists.mp h.top
  obtain ⟨r, hr⟩ := State.topJava?_eq_some.mp hg0
  have hr' : (({ U with heap := s₂.heap, slotsUsed := s₂.slotsUsed } : State).setVm s₂.vm).frames = .java g₀ :: r := hr
  rcases hq' with ⟨hqc, L, hfe, hL⟩ | ⟨q, rfl, E, ce, L, hx, hce, hcv, hcl, hW₂, hsm, hL⟩
  · obtain ⟨⟨v, rfl⟩, hW₂, e2, q2, q3, q4, q5, q6⟩ := id hfe
    have e3 : s₂ = ({ (U.calling g mk a).setFrames s₂.frames with heap := s₂.heap, slotsUsed := s₂.slotsUsed } : State).setVm s₂.vm := by
      have : s₂ = ({ s₂ with vm := (U.calling g mk a).vm } : State).setVm s₂.vm := rfl
      rw [e2] at this
      exact this
    obtain ⟨c₂, i₂, len₂, hc₂, hd₂, hf₂⟩ := hend
    have hW' : U.WarmedH s₂.vm := hW₂
    have hcc : c₂ = c := by
      have h1 : s₂.code? g.method = U.code? g.method := by
        rw [State.code?_eq, State.code?_eq, hW'.alike.method?]
      exact Option.some.inj (hc₂.symm.trans (h1.trans h.code))
    subst hcc
    have hlen : len₂ = len := by rw [hdg] at hd₂; cases hd₂; rfl
    subst hlen
    have hs₂ : s₂ = (({ U with heap := s₂.heap, slotsUsed := s₂.slotsUsed } : State).setVm s₂.vm).setTop { g with pc := g.pc + len₂, stack := v.toList ++ g.stack } := by
      refine e3.trans ?_
      rw [hf₂, State.calling_eq h.top, State.setFrames_setFrames, State.setTop_of_frames _ hr', hr]
      rfl
    have hsame : U.sameButNew ({ U with heap := s₂.heap, slotsUsed := s₂.slotsUsed } : State) L mc ms := by
      refine ⟨?_, q2, q3, q4, q5, q6⟩
      obtain ⟨t, ht, -⟩ := State.frames_cons hr
      show ({ U with heap := s₂.heap, slotsUsed := s₂.slotsUsed } : State) = { U.setFrames U.frames with heap := s₂.heap, slotsUsed := s₂.slotsUsed }
      rw [State.setFrames_self ht]
    subst hg
    refine Or.inl ⟨v, ⟨(({ U with heap := s₂.heap, slotsUsed := s₂.slotsUsed } : State).setVm s₂.vm), Ls ++ L, c0 + mc, s0 + ms⟩,
      ⟨X.admits, X.cas, X.clock, X.frames, X.room, X.hears, X.method, X.code, (X.here.setHeapUsed s₂.heap s₂.slotsUsed).setVm hW'.alike, X.tail, State.WarmedH.trans X.warmed hW', X.limits, X.bytes, X.same.trans (hsame.setVm s.vm)⟩,
      ⟨g, mk, s₂, L, rfl, rfl, hqc, rfl, hL, rfl, rfl⟩, ?_⟩
    show Steps p.tables e below _ ((({ U with heap := s₂.heap, slotsUsed := s₂.slotsUsed } : State).setVm s₂.vm).setTop { g with pc := g.pc + len₂, stack := v.toList ++ g.stack })
    rw [← hs₂]
    exact hsteps
  · obtain ⟨e2, q2, q3, q4, q5, q6⟩ := id hsm
    have e3 : s₂ = ({ (U.calling g mk a).setFrames s₂.frames with heap := s₂.heap, slotsUsed := s₂.slotsUsed } : State).setVm s₂.vm := by
      have : s₂ = ({ s₂ with vm := (U.calling g mk a).vm } : State).setVm s₂.vm := rfl
      rw [e2] at this
      exact this
    have hf₂ : s₂.frames = .throwing q :: .java g :: U.frames.tail := hend
    have hW' : U.WarmedH s₂.vm := hW₂
    have hs₂ : s₂ = ((({ U with heap := s₂.heap, slotsUsed := s₂.slotsUsed } : State).setVm s₂.vm).setTop g).pushFrame (.throwing q) := by
      refine e3.trans ?_
      rw [hf₂, State.calling_eq h.top, State.setFrames_setFrames, State.pushFrame, State.frames_setTop _ hr', State.setTop_of_frames _ hr', State.setFrames_setFrames, hr]
      rfl
    have hsame : U.sameButNew ({ U with heap := s₂.heap, slotsUsed := s₂.slotsUsed } : State) L mc ms := by
      refine ⟨?_, q2, q3, q4, q5, q6⟩
      obtain ⟨t, ht, -⟩ := State.frames_cons hr
      show ({ U with heap := s₂.heap, slotsUsed := s₂.slotsUsed } : State) = { U.setFrames U.frames with heap := s₂.heap, slotsUsed := s₂.slotsUsed }
      rw [State.setFrames_self ht]
    subst hg
    refine Or.inr ⟨q, ⟨(({ U with heap := s₂.heap, slotsUsed := s₂.slotsUsed } : State).setVm s₂.vm), Ls ++ L, c0 + mc, s0 + ms⟩,
      ⟨X.admits, X.cas, X.clock, X.frames, X.room, X.hears, X.method, X.code, (X.here.setHeapUsed s₂.heap s₂.slotsUsed).setVm hW'.alike, X.tail, State.WarmedH.trans X.warmed hW', X.limits, X.bytes, X.same.trans (hsame.setVm s.vm)⟩,
      ⟨g, mk, s₂, L, E, ce, rfl, rfl, hx, hce, hcv, hcl, rfl, hL, rfl, rfl⟩, ?_⟩
    show Steps p.tables e below _ (((({ U with heap := s₂.heap, slotsUsed := s₂.slotsUsed } : State).setVm s₂.vm).setTop g).pushFrame (.throwing q))
    rw [← hs₂]
    exact hsteps
end
variable {p : Program} {l : Launch} {e : Env} {R : Room} {s : State} {m : MethodId} {args : Array Value} {below : List Frame} {meth : Method} {c : Code} {T : State} {H : Heap} {locs : List Loc} {cells slots : Nat}
theorem vx_callVX (X : Stand p l e R s m args below meth c T locs cells slots) (hexec : p.tables.exec = Jvm.exec) {own C : String} {index : Nat} {y : MethodName} {bytes : ByteArray} {maxL : Nat} {ret : Option FieldType} {hh : List (Nat × Nat × Nat × Nat)}
    (hown : s.vm.findClass own = some m.cls) (hlink : (Cond.methodLink own index y).before args s = true) (hinst : (Cond.instanceMethod y).before args s = true) (hsel : (Cond.selects C y y).before args s = true)
    (hcode : (Cond.codeWith y bytes maxL ret hh).before args s = true) (hy : y.cls ≠ "java/lang/invoke/MethodHandle" ∧ y.cls ≠ "java/lang/invoke/VarHandle")
    {W9 : Nat} {Pre : Pt → Array Value → Prop} {Post : Pt → Array Value → Option Value → Pt → Prop} {PostX : Pt → Array Value → Addr → Pt → Prop} (hK : vx_Back l R p e below s args y 3 W9 Pre Post PostX)
    {b : Addr} {cellB : Cell} (hcell : T.heap[b]? = some cellB) (hobj : cellB.vm.isStatics = false) (hcls : s.vm.findClass C = some cellB.cls)
    {g : JFrame} (hg : g.method = m) (hsize : g.locals.size = c.maxLocals) {argsL rest : List Value} (hlen : ∀ sig, parseMethodDescriptor y.desc = some sig → argsL.length = sig.parameters.length)
    (hstack : g.stack = argsL.reverse ++ .ref b :: rest) (hW : 2 * g.monitorRoom + (rest.map fun v => v.category).sum ≤ W9) (hdg : decode c.code g.pc = .ok (.invokevirtual index, 3))
    (hpre : ∀ vm₁, s.WarmedH vm₁ → Pre ⟨T.setVm vm₁, locs, cells, slots⟩ (Value.ref b :: argsL).toArray) :
    (∃ (v : Option Value) (vm₁ : Vm) (B : Pt), s.WarmedH vm₁ ∧ Stand p l e R s m args below meth c B.U B.locs B.cells B.slots ∧ Post ⟨T.setVm vm₁, locs, cells, slots⟩ (Value.ref b :: argsL).toArray v B ∧
      ∀ target, Steps p.tables e below (B.U.setTop { g with pc := g.pc + 3, stack := v.toList ++ rest }) target → Steps p.tables e below (T.setTop g) target) ∨
    (∃ (q : Addr) (vm₁ : Vm) (B : Pt), s.WarmedH vm₁ ∧ Stand p l e R s m args below meth c B.U B.locs B.cells B.slots ∧ PostX ⟨T.setVm vm₁, locs, cells, slots⟩ (Value.ref b :: argsL).toArray q B ∧
      Steps p.tables e below (T.setTop g) ((B.U.setTop { g with stack := rest }).pushFrame (.throwing q))) := by
  obtain ⟨mk, methM, hnamed, hmethM, hstM, habM⟩ := Cond.instanceMethod_spec hinst
  obtain ⟨m8, methM', cM, hn8, hmethM', -, -, -, -, -, -, hsigM⟩ := Cond.codeWith_spec hcode
  cases Option.some.inj (hn8.symm.trans hnamed)
  cases hmethM.symm.trans hmethM'
  obtain ⟨c2, r2, m2, q1, q2, q3, q4, kP, hkP, hkPi⟩ := Cond.selects_spec hsel
  cases hcls.symm.trans q1
  cases (State.methodFound?_of_named hnamed hy).symm.trans q2
  cases hnamed.symm.trans q3
  have hselP : selectMethod e.platform s.vm cellB.cls mk = .method mk := by rw [Launch.admits_selectMethod X.admits]; exact q4
  obtain ⟨vm₁, X₁, hstep₁⟩ := X.invokevirtual hexec hown hlink hnamed hmethM hstM hkP hkPi hy (a := b) (cell := cellB) hcell
    (fun z h => by rw [h] at hobj; cases hobj) hselP hmethM habM hkP hkPi (g := g) hg (argsL := argsL) (rest := rest) (hlen _ hsigM) hstack hdg
  rcases hK m meth c ⟨T.setVm vm₁, locs, cells, slots⟩ { g with stack := rest } (.invokevirtual index) mk (Value.ref b :: argsL).toArray X₁ hg hsize hdg hW (X₁.named hnamed) (hpre vm₁ X₁.warmed) with ⟨v, B, X', hpost, hsteps⟩ | ⟨q, B, X', hpost, hsteps⟩
  · exact Or.inl ⟨v, vm₁, B, X₁.warmed, X', hpost, fun target h => hstep₁ _ fun acts => by rw [doInvoke_state]; exact hsteps.trans h⟩
  · exact Or.inr ⟨q, vm₁, B, X₁.warmed, X', hpost, hstep₁ _ fun acts => by rw [doInvoke_state]; exact hsteps⟩
theorem vx_callSX (X : Stand p l e R s m args below meth c T locs cells slots) (hexec : p.tables.exec = Jvm.exec) {own : String} {index : Nat} {y : MethodName} {bytes : ByteArray} {maxL : Nat} {ret : Option FieldType} {hh : List (Nat × Nat × Nat × Nat)}
    (hown : s.vm.findClass own = some m.cls) (hlink : (Cond.methodLink own index y).before args s = true) (hstat : (Cond.static y).before args s = true) (hinit : (Cond.initialized y.cls).before args s = true)
    (hcode : (Cond.codeWith y bytes maxL ret hh).before args s = true) (hy : y.cls ≠ "java/lang/invoke/MethodHandle" ∧ y.cls ≠ "java/lang/invoke/VarHandle")
    {W9 : Nat} {Pre : Pt → Array Value → Prop} {Post : Pt → Array Value → Option Value → Pt → Prop} {PostX : Pt → Array Value → Addr → Pt → Prop} (hK : vx_Back l R p e below s args y 3 W9 Pre Post PostX)
    {g : JFrame} (hg : g.method = m) (hsize : g.locals.size = c.maxLocals) {argsL rest : List Value} (hlen : ∀ sig, parseMethodDescriptor y.desc = some sig → argsL.length = sig.parameters.length)
    (hstack : g.stack = argsL.reverse ++ rest) (hW : 2 * g.monitorRoom + (rest.map fun v => v.category).sum ≤ W9) (hdg : decode c.code g.pc = .ok (.invokestatic index, 3))
    (hpre : ∀ vm₁, s.WarmedH vm₁ → Pre ⟨T.setVm vm₁, locs, cells, slots⟩ argsL.toArray) :
    (∃ (v : Option Value) (vm₁ : Vm) (B : Pt), s.WarmedH vm₁ ∧ Stand p l e R s m args below meth c B.U B.locs B.cells B.slots ∧ Post ⟨T.setVm vm₁, locs, cells, slots⟩ argsL.toArray v B ∧
      ∀ target, Steps p.tables e below (B.U.setTop { g with pc := g.pc + 3, stack := v.toList ++ rest }) target → Steps p.tables e below (T.setTop g) target) ∨
    (∃ (q : Addr) (vm₁ : Vm) (B : Pt), s.WarmedH vm₁ ∧ Stand p l e R s m args below meth c B.U B.locs B.cells B.slots ∧ PostX ⟨T.setVm vm₁, locs, cells, slots⟩ argsL.toArray q B ∧
      Steps p.tables e below (T.setTop g) ((B.U.setTop { g with stack := rest }).pushFrame (.throwing q))) := by
  obtain ⟨mk, methM, cM, hnamed, hmethM, -, -, -, -, -, -, hsigM⟩ := Cond.codeWith_spec hcode
  have hstatic : methM.isStatic = true := Cond.static_spec hnamed hmethM hstat
  obtain ⟨kP, hkP, -⟩ := className_of_methodNamed hnamed
  have hinitP : kP.init = .initialized := Cond.initialized_spec (findClass_of_methodNamed hnamed) hkP hinit
  obtain ⟨vm₁, X₁, hstep₁⟩ := X.invokestatic hexec hown hlink hnamed hmethM hstatic hkP hinitP hy (g := g) hg (argsL := argsL) (rest := rest) (hlen _ hsigM) hstack hdg
  rcases hK m meth c ⟨T.setVm vm₁, locs, cells, slots⟩ { g with stack := rest } (.invokestatic index) mk argsL.toArray X₁ hg hsize hdg hW (X₁.named hnamed) (hpre vm₁ X₁.warmed) with ⟨v, B, X', hpost, hsteps⟩ | ⟨q, B, X', hpost, hsteps⟩
  · exact Or.inl ⟨v, vm₁, B, X₁.warmed, X', hpost, fun target h => hstep₁ _ fun acts => by rw [doInvoke_state]; exact hsteps.trans h⟩
  · exact Or.inr ⟨q, vm₁, B, X₁.warmed, X', hpost, hstep₁ _ fun acts => by rw [doInvoke_state]; exact hsteps⟩
theorem vx_callVW (X : Stand p l e R s m args below meth c T locs cells slots) (hexec : p.tables.exec = Jvm.exec) {own C : String} {index : Nat} {y : MethodName} {bytes : ByteArray} {maxL : Nat} {ret : Option FieldType} {hh : List (Nat × Nat × Nat × Nat)}
    (hown : s.vm.findClass own = some m.cls) (hlink : (Cond.methodLink own index y).before args s = true) (hinst : (Cond.instanceMethod y).before args s = true) (hsel : (Cond.selects C y y).before args s = true)
    (hcode : (Cond.codeWith y bytes maxL ret hh).before args s = true) (hy : y.cls ≠ "java/lang/invoke/MethodHandle" ∧ y.cls ≠ "java/lang/invoke/VarHandle")
    {W9 : Nat} {Pre : Pt → Array Value → Prop} {Post : Pt → Array Value → Option Value → Pt → Prop} (hK : Back l R p e below s args y 3 W9 Pre Post)
    {b : Addr} {cellB : Cell} (hcell : T.heap[b]? = some cellB) (hobj : cellB.vm.isStatics = false) (hcls : s.vm.findClass C = some cellB.cls)
    {g : JFrame} (hg : g.method = m) (hsize : g.locals.size = c.maxLocals) {argsL rest : List Value} (hlen : ∀ sig, parseMethodDescriptor y.desc = some sig → argsL.length = sig.parameters.length)
    (hstack : g.stack = argsL.reverse ++ .ref b :: rest) (hW : 2 * g.monitorRoom + (rest.map fun v => v.category).sum ≤ W9) (hdg : decode c.code g.pc = .ok (.invokevirtual index, 3))
    (hpre : ∀ vm₁, s.WarmedH vm₁ → Pre ⟨T.setVm vm₁, locs, cells, slots⟩ (Value.ref b :: argsL).toArray) :
    ∃ (v : Option Value) (vm₁ : Vm) (B : Pt), s.WarmedH vm₁ ∧ Stand p l e R s m args below meth c B.U B.locs B.cells B.slots ∧ Post ⟨T.setVm vm₁, locs, cells, slots⟩ (Value.ref b :: argsL).toArray v B ∧
      ∀ target, Steps p.tables e below (B.U.setTop { g with pc := g.pc + 3, stack := v.toList ++ rest }) target → Steps p.tables e below (T.setTop g) target := by
  obtain ⟨mk, methM, hnamed, hmethM, hstM, habM⟩ := Cond.instanceMethod_spec hinst
  obtain ⟨m8, methM', cM, hn8, hmethM', -, -, -, -, -, -, hsigM⟩ := Cond.codeWith_spec hcode
  cases Option.some.inj (hn8.symm.trans hnamed)
  cases hmethM.symm.trans hmethM'
  obtain ⟨c2, r2, m2, q1, q2, q3, q4, kP, hkP, hkPi⟩ := Cond.selects_spec hsel
  cases hcls.symm.trans q1
  cases (State.methodFound?_of_named hnamed hy).symm.trans q2
  cases hnamed.symm.trans q3
  have hselP : selectMethod e.platform s.vm cellB.cls mk = .method mk := by rw [Launch.admits_selectMethod X.admits]; exact q4
  obtain ⟨vm₁, X₁, hstep₁⟩ := X.invokevirtual hexec hown hlink hnamed hmethM hstM hkP hkPi hy (a := b) (cell := cellB) hcell
    (fun z h => by rw [h] at hobj; cases hobj) hselP hmethM habM hkP hkPi (g := g) hg (argsL := argsL) (rest := rest) (hlen _ hsigM) hstack hdg
  obtain ⟨v, B, X', hpost, hsteps⟩ := hK m meth c ⟨T.setVm vm₁, locs, cells, slots⟩ { g with stack := rest } (.invokevirtual index) mk (Value.ref b :: argsL).toArray X₁ hg hsize hdg hW (X₁.named hnamed) (hpre vm₁ X₁.warmed)
  exact ⟨v, vm₁, B, X₁.warmed, X', hpost, fun target h => hstep₁ _ fun acts => by rw [doInvoke_state]; exact hsteps.trans h⟩
abbrev vx_CVW (R : Room) (s : State) (args : Array Value) (own C : String) (index : Nat) (y : MethodName) (bytes : ByteArray) (maxL : Nat) (ret : Option FieldType) (hh : List (Nat × Nat × Nat × Nat)) (ws : List Cond) (rm : Room) (mc ms n : Nat) : Prop :=
  (rm.cells = mc ∧ rm.slots = ms ∧ rm.frames + 1 ≤ R.frames ∧ 8 + (maxL + 11) + rm.locals ≤ R.locals ∧ (∀ w ∈ ws, ∀ (a' : Array Value) (U : State), s.WarmedH U.vm → w.before a' U = true) ∧ Cond.codeWith y bytes maxL ret hh ∈ ws) ∧
  (Cond.codeWith y bytes maxL ret hh).before args s = true ∧ (Cond.initialized y.cls).before args s = true ∧ (y.cls ≠ "java/lang/invoke/MethodHandle" ∧ y.cls ≠ "java/lang/invoke/VarHandle") ∧
  (∀ sig, parseMethodDescriptor y.desc = some sig → n = sig.parameters.length) ∧ (Cond.methodLink own index y).before args s = true ∧ (Cond.instanceMethod y).before args s = true ∧ (Cond.selects C y y).before args s = true
theorem vx_cwVW {own C : String} {index maxL mc ms : Nat} {y : MethodName} {bytes : ByteArray} {ret : Option FieldType} {hh : List (Nat × Nat × Nat × Nat)} {Ts ws ws' : List Cond} {rm : Room} (n : Nat) (ht : ∀ w ∈ Ts, w.before args s = true) (hT : GoodIn Ts (wsV own index C y ws)) (hw : ws = Cond.codeWith y bytes maxL ret hh :: ws') (hrc : rm.cells = mc) (hrs : rm.slots = ms)
    (hd : y.cls = C ∧ y.cls ≠ "java/lang/invoke/MethodHandle" ∧ y.cls ≠ "java/lang/invoke/VarHandle" ∧ (parseMethodDescriptor y.desc).map (fun d => d.parameters.length) = some n) (hR : rm.frames + 1 ≤ R.frames ∧ 8 + (maxL + 11) + rm.locals ≤ R.locals) :
    vx_CVW R s args own C index y bytes maxL ret hh ws rm mc ms n := by
  obtain ⟨hC, hd⟩ := hd
  subst hC
  have ok : ∀ w ∈ wsV own index y.cls y ws, w.before args s = true := fun w h => ht w (hT w h).1
  have hG : GoodIn Ts ws := fun w h => hT w (by unfold wsV; exact List.mem_append_right _ h)
  have hc : Cond.codeWith y bytes maxL ret hh ∈ ws := by rw [hw]; exact List.mem_cons_self
  refine ⟨⟨hrc, hrs, hR.1, hR.2, pay_in ht hG, hc⟩, ht _ (hG _ hc).1, ok _ (by simp [wsV]), ⟨hd.1, hd.2.1⟩, fun sig h => ?_, ok _ (by simp [wsV]), ok _ (by simp [wsV]), ok _ (by simp [wsV])⟩
  have h2 := hd.2.2
  rw [h] at h2
  exact (Option.some.inj h2).symm
theorem vx_runVW {y : MethodName} {bytes cc : ByteArray} {maxL nL mc ms n index : Nat} {ret : Option FieldType} {hh : List (Nat × Nat × Nat × Nat)} {ws : List Cond} {rm : Room} {Pc : Array Value → State → Prop} {Qc : Array Value → State → Outcome → State → Prop} {free : Addr → Prop} {Ts : List Cond} {own C : String} {b : Addr} {As rest : List Value} {g : JFrame}
    (S : CallFix p m c cc nL s args Ts own) (hM : Met l y ws rm Pc Qc mc ms free) (cw : vx_CVW R s args own C index y bytes maxL ret hh ws rm mc ms n) (hp : PreV s H C b Pc As)
    (hg : g.method = m) (hn : As.length = n) (hsize : g.locals.size = nL) (hstack : g.stack = As.reverse ++ .ref b :: rest) (hW : 2 * g.monitorRoom + (rest.map fun v => v.category).sum ≤ 8) (hdg : decode cc g.pc = .ok (.invokevirtual index, 3)) (hf : cells + mc ≤ R.cells ∧ slots + ms ≤ R.slots) :
    va_Run p l e R s m args below meth c H locs cells slots mc ms g rest (Qc (Value.ref b :: As).toArray) free := by
  obtain ⟨⟨hrc, hrs, hfr, hlo, hws, hcw⟩, hcode, hini, hy, hlen, hl, hin, hse⟩ := cw
  have hK : Back l R p e below s args y 3 8 (PreOf R mc ms Pc) (PostOf Qc mc ms free) := va_backW (hh := hh) (bytes := bytes) (maxL := maxL) (ret := ret) hM hp.1 hrc hrs hfr hlo hws hcw (fun a' U hW => word_at hW (Or.inl (by first | rfl | simp [Cond.onTables, Cond.keeps, Cond.steady])) hini)
  obtain ⟨hx, hb, hml, ho, -⟩ := S
  obtain ⟨-, ⟨cellB, hcB, hoB, hclB⟩, hPc⟩ := hp
  intro T hT X
  obtain ⟨v, vm₁, ⟨U', l2, c2, s2⟩, hW₁, X', ⟨g', mk, t, L, e1, e2, hq, h1, hL, h2, h3⟩, st⟩ := vx_callVW X hx (C := C) (hh := hh) (bytes := bytes) (maxL := maxL) (ret := ret) ho hl hin hse hcode hy hK (by rw [hT]; exact hcB) hoB hclB hg (hsize.trans hml.symm) (argsL := As) (rest := rest) (fun sig h => hn.trans (hlen sig h)) hstack hW (by rw [hb]; exact hdg)
    (fun vm₁ hW₁ => ⟨hf.1, hf.2, hPc (T.setVm vm₁) hT hW₁⟩)
  dsimp only [Pt.U, Pt.locs, Pt.cells, Pt.slots] at X' e1 e2 h1 h2 h3 st
  subst h1; subst h2; subst h3
  exact ⟨v, (T.setVm vm₁).calling g' mk (Value.ref b :: As).toArray, t, U', L, hT, X', hL, e1, e2, hq, st⟩
section
variable {y : MethodName} {bytes cc : ByteArray} {maxL nL mc ms n index : Nat} {ret : Option FieldType} {ws : List Cond} {rm : Room} {Pc : Array Value → State → Prop} {Qc : Array Value → State → Outcome → State → Prop} {XC : String → State → State → Prop} {free : Addr → Prop} {Ts : List Cond} {own C : String} {b : Addr} {As rest : List Value} {g : JFrame}
theorem vx_runVX {hh : List (Nat × Nat × Nat × Nat)} (S : CallFix p m c cc nL s args Ts own) (hM : vx_Met l y ws rm Pc Qc XC mc ms free) (cw : vx_CVW R s args own C index y bytes maxL ret hh ws rm mc ms n) (hp : PreV s H C b Pc As)
    (hg : g.method = m) (hn : As.length = n) (hsize : g.locals.size = nL) (hstack : g.stack = As.reverse ++ .ref b :: rest) (hW : 2 * g.monitorRoom + (rest.map fun v => v.category).sum ≤ 8) (hdg : decode cc g.pc = .ok (.invokevirtual index, 3)) (hf : cells + mc ≤ R.cells ∧ slots + ms ≤ R.slots) :
    vx_Run p l e R s m args below meth c H locs cells slots mc ms g rest (Qc (Value.ref b :: As).toArray) XC free := by
  obtain ⟨⟨hrc, hrs, hfr, hlo, hws, hcw⟩, hcode, hini, hy, hlen, hl, hin, hse⟩ := cw
  have hK : vx_Back l R p e below s args y 3 8 (PreOf R mc ms Pc) (PostOf Qc mc ms free) (vx_Post XC mc ms free) := vx_backW (hh := hh) (bytes := bytes) (maxL := maxL) (ret := ret) hM hp.1 hrc hrs hfr hlo hws hcw (fun a' U hW => word_at hW (Or.inl (by first | rfl | simp [Cond.onTables, Cond.keeps, Cond.steady])) hini)
  obtain ⟨hx, hb, hml, ho, -⟩ := S
  obtain ⟨-, ⟨cellB, hcB, hoB, hclB⟩, hPc⟩ := hp
  intro T hT X
  rcases vx_callVX X hx (C := C) (hh := hh) (bytes := bytes) (maxL := maxL) (ret := ret) ho hl hin hse hcode hy hK (by rw [hT]; exact hcB) hoB hclB hg (hsize.trans hml.symm) (argsL := As) (rest := rest) (fun sig h => hn.trans (hlen sig h)) hstack hW (by rw [hb]; exact hdg)
    (fun vm₁ hW₁ => ⟨hf.1, hf.2, hPc (T.setVm vm₁) hT hW₁⟩) with ⟨v, vm₁, ⟨U', l2, c2, s2⟩, hW₁, X', ⟨g', mk, t, L, e1, e2, hq, h1, hL, h2, h3⟩, st⟩ | ⟨q, vm₁, ⟨U', l2, c2, s2⟩, hW₁, X', ⟨g', mk, t, L, E, ce, e1, e2, hq, hce, hcv, hcl, h1, hL, h2, h3⟩, st⟩
  · dsimp only [Pt.U, Pt.locs, Pt.cells, Pt.slots] at X' e1 e2 h1 h2 h3 st
    subst h1; subst h2; subst h3
    exact Or.inl ⟨v, (T.setVm vm₁).calling g' mk (Value.ref b :: As).toArray, t, U', L, hT, X', hL, e1, e2, hq, st⟩
  · dsimp only [Pt.U, Pt.locs, Pt.cells, Pt.slots] at X' e1 e2 h1 h2 h3 st hcl
    subst h1; subst h2; subst h3
    exact Or.inr ⟨q, (T.setVm vm₁).calling g' mk (Value.ref b :: As).toArray, t, U', L, E, ce, hT, X', hL, e1, e2, hq, hce, hcv, vx_cls hW₁ hcl, st⟩
theorem vx_runSX {hh : List (Nat × Nat × Nat × Nat)} (S : CallFix p m c cc nL s args Ts own) (hM : vx_Met l y ws rm Pc Qc XC mc ms free) (cw : vx_CSW R s args own index y bytes maxL ret hh ws rm mc ms n) (hp : PreS s H Pc As)
    (hg : g.method = m) (hn : As.length = n) (hsize : g.locals.size = nL) (hstack : g.stack = As.reverse ++ rest) (hW : 2 * g.monitorRoom + (rest.map fun v => v.category).sum ≤ 8) (hdg : decode cc g.pc = .ok (.invokestatic index, 3)) (hf : cells + mc ≤ R.cells ∧ slots + ms ≤ R.slots) :
    vx_Run p l e R s m args below meth c H locs cells slots mc ms g rest (Qc As.toArray) XC free := by
  obtain ⟨⟨hrc, hrs, hfr, hlo, hws, hcw⟩, hcode, hini, hy, hlen, hl, hstt⟩ := cw
  have hK : vx_Back l R p e below s args y 3 8 (PreOf R mc ms Pc) (PostOf Qc mc ms free) (vx_Post XC mc ms free) := vx_backW (hh := hh) (bytes := bytes) (maxL := maxL) (ret := ret) hM hp.1 hrc hrs hfr hlo hws hcw (fun a' U hW => word_at hW (Or.inl (by first | rfl | simp [Cond.onTables, Cond.keeps, Cond.steady])) hini)
  obtain ⟨hx, hb, hml, ho, -⟩ := S
  intro T hT X
  rcases vx_callSX X hx (hh := hh) (bytes := bytes) (maxL := maxL) (ret := ret) ho hl hstt hini hcode hy hK hg (hsize.trans hml.symm) (argsL := As) (rest := rest) (fun sig h => hn.trans (hlen sig h)) hstack hW (by rw [hb]; exact hdg)
    (fun vm₁ hW₁ => ⟨hf.1, hf.2, hp.2 (T.setVm vm₁) hT hW₁⟩) with ⟨v, vm₁, ⟨U', l2, c2, s2⟩, hW₁, X', ⟨g', mk, t, L, e1, e2, hq, h1, hL, h2, h3⟩, st⟩ | ⟨q, vm₁, ⟨U', l2, c2, s2⟩, hW₁, X', ⟨g', mk, t, L, E, ce, e1, e2, hq, hce, hcv, hcl, h1, hL, h2, h3⟩, st⟩
  · dsimp only [Pt.U, Pt.locs, Pt.cells, Pt.slots] at X' e1 e2 h1 h2 h3 st
    subst h1; subst h2; subst h3
    exact Or.inl ⟨v, (T.setVm vm₁).calling g' mk As.toArray, t, U', L, hT, X', hL, e1, e2, hq, st⟩
  · dsimp only [Pt.U, Pt.locs, Pt.cells, Pt.slots] at X' e1 e2 h1 h2 h3 st hcl
    subst h1; subst h2; subst h3
    exact Or.inr ⟨q, (T.setVm vm₁).calling g' mk As.toArray, t, U', L, E, ce, hT, X', hL, e1, e2, hq, hce, hcv, vx_cls hW₁ hcl, st⟩
end
end VXH
theorem vx_ofWH {l : Launch} {y : MethodName} {ws ws' : List Cond} {rm : Room} {Pc : Array Value → State → Prop} {Qc : Array Value → State → Outcome → State → Prop} {XC : String → State → State → Prop} {mc ms : Nat} {free : Addr → Prop} {cc : ByteArray} {maxL : Nat} {ret : Option FieldType} {hh : List (Nat × Nat × Nat × Nat)}
    (hy : plainName y.cls = true) (hw : ws = Cond.codeWith y cc maxL ret hh :: ws')
    (body : ∀ p e s m args below meth c s₁, BodyLoose p l y (headSpec ws rm) cc maxL ret e s m args below meth c s₁ → c.maxLocals = maxL → Pc args s →
      W p l e (headSpec ws rm).room s m args below meth c s.heap [] 0 0 (vx_MQ below Qc XC args s mc ms free) (entryFrame m args maxL)) : vx_Met l y ws rm Pc Qc XC mc ms free := by
  refine MetFree.of_bodyS (code := cc) (maxLocals := maxL) (ret := ret) hy ?_ ?_
  · intro args s m h hn
    obtain ⟨m9, meth, c, hn9, h1, h2, h3, h4, -, h5, h6, -⟩ := Cond.codeWith_spec (atoms_spec (ws := ws) h _ (by rw [hw]; exact List.mem_cons_self))
    cases hn.symm.trans hn9
    exact ⟨meth, c, h1, h2, h3, h4, h5, h6⟩
  · intro p e s m args below meth c s₁ B hml hP _
    have hh0 : s₁.heap = s.heap := by rw [B.state]; rfl
    obtain ⟨t, a1, o, b1, b2, b3⟩ := body p e s m args below meth c s₁ B hml hP s₁ hh0 (Stand.of_body B)
    exact ⟨t, o, a1, b1, b2, b3⟩
/-! ===== END ===== -/
end
section
def RX0 : String := "FormFields$Amount"
def TX0 : u_T := fun k => match k with
  | _ => ("", "", "", false)
def tyX0 : Nat → FieldType := fun k => match k with
  | _ => .int
abbrev wsX00 : List Cond := u_ws RX0 TX0 0
theorem nmX0 : ∀ a, a < 0 → ∀ b, b < 0 → a ≠ b → (TX0 a).2.1 ≠ (TX0 b).2.1 := by decide +kernel
theorem tyX0_ok : ∀ k, k < 0 → parseFieldDescriptor (TX0 k).2.2.1 = some (tyX0 k) := by decide +kernel
abbrev cX0_isBeyond : ByteArray := prog_2_method_2_code
def yX0_isBeyond : MethodName := ⟨RX0, "isBeyond", "(J)Z"⟩
abbrev cX0_isDigit : ByteArray := prog_2_method_3_code
def yX0_isDigit : MethodName := ⟨RX0, "isDigit", "(I)Z"⟩
abbrev cX0_of : ByteArray := prog_2_method_4_code
def yX0_of : MethodName := ⟨RX0, "of", "(LFormFields$Row;)J"⟩
abbrev cX0_partOf : ByteArray := prog_2_method_5_code
def yX0_partOf : MethodName := ⟨RX0, "partOf", "(LFormFields$Row;I)J"⟩
abbrev cX0_cut : ByteArray := prog_2_method_6_code
def yX0_cut : MethodName := ⟨RX0, "cut", "(JI)J"⟩
abbrev cX0_digitSign : ByteArray := prog_2_method_7_code
def yX0_digitSign : MethodName := ⟨RX0, "digitSign", "(JI)I"⟩
abbrev cX0_addNumber : ByteArray := prog_2_method_8_code
def yX0_addNumber : MethodName := ⟨RX0, "addNumber", "(JZLFormFields$Row;)V"⟩
abbrev cX0_addPart : ByteArray := prog_2_method_9_code
def yX0_addPart : MethodName := ⟨RX0, "addPart", "(JILFormFields$Row;)V"⟩
abbrev cX0_addWritten : ByteArray := prog_2_method_10_code
def yX0_addWritten : MethodName := ⟨RX0, "addWritten", "(JLFormFields$Row;)V"⟩
abbrev cX0_addShown : ByteArray := prog_2_method_11_code
def yX0_addShown : MethodName := ⟨RX0, "addShown", "(JIZLFormFields$Row;)V"⟩
abbrev cX0_halfOfLast : ByteArray := prog_2_method_12_code
def yX0_halfOfLast : MethodName := ⟨RX0, "halfOfLast", "(I)J"⟩
abbrev cX0_combine : ByteArray := prog_2_method_13_code
def yX0_combine : MethodName := ⟨RX0, "combine", "(IJJ)J"⟩
abbrev cX0_product : ByteArray := prog_2_method_14_code
def yX0_product : MethodName := ⟨RX0, "product", "(JJ)J"⟩
def RX1 : String := "FormFields$Calculator"
def TX1 : u_T := fun k => match k with
  | 0 => ("FormFields$Calculator", "tree", "LFormFields$Tree;", true)
  | 1 => ("FormFields$Calculator", "needs", "[J", true)
  | 2 => ("FormFields$Calculator", "reached", "[J", true)
  | 3 => ("FormFields$Calculator", "result", "LFormFields$Row;", true)
  | _ => ("FormFields$Calculator", "failures", "LFormFields$Row;", true)
def tyX1 : Nat → FieldType := fun k => match k with
  | 0 => .object "FormFields$Tree"
  | 1 => .array .long
  | 2 => .array .long
  | 3 => .object "FormFields$Row"
  | _ => .object "FormFields$Row"
abbrev wsX10 : List Cond := u_ws RX1 TX1 5
theorem nmX1 : ∀ a, a < 5 → ∀ b, b < 5 → a ≠ b → (TX1 a).2.1 ≠ (TX1 b).2.1 := by decide +kernel
theorem tyX1_ok : ∀ k, k < 5 → parseFieldDescriptor (TX1 k).2.2.1 = some (tyX1 k) := by decide +kernel
abbrev cX1_init : ByteArray := prog_3_method_1_code
def yX1_init : MethodName := ⟨RX1, "<init>", "(LFormFields$Tree;)V"⟩
abbrev cX1_mayWorkWith : ByteArray := prog_3_method_2_code
def yX1_mayWorkWith : MethodName := ⟨RX1, "mayWorkWith", "(III)Z"⟩
abbrev cX1_canBeReckoned : ByteArray := prog_3_method_3_code
def yX1_canBeReckoned : MethodName := ⟨RX1, "canBeReckoned", "(LFormFields$Field;)Z"⟩
abbrev cX1_workOutAll : ByteArray := prog_3_method_4_code
def yX1_workOutAll : MethodName := ⟨RX1, "workOutAll", "()I"⟩
abbrev cX1_bit : ByteArray := prog_3_method_5_code
def yX1_bit : MethodName := ⟨RX1, "bit", "(I)J"⟩
abbrev cX1_isIn : ByteArray := prog_3_method_6_code
def yX1_isIn : MethodName := ⟨RX1, "isIn", "(JI)Z"⟩
abbrev cX1_gatherNeeds : ByteArray := prog_3_method_7_code
def yX1_gatherNeeds : MethodName := ⟨RX1, "gatherNeeds", "()J"⟩
abbrev cX1_needsOf : ByteArray := prog_3_method_8_code
def yX1_needsOf : MethodName := ⟨RX1, "needsOf", "(LFormFields$Field;)J"⟩
abbrev cX1_numbersIn : ByteArray := prog_3_method_9_code
def yX1_numbersIn : MethodName := ⟨RX1, "numbersIn", "(I)J"⟩
abbrev cX1_leastInRing : ByteArray := prog_3_method_10_code
def yX1_leastInRing : MethodName := ⟨RX1, "leastInRing", "()I"⟩
abbrev cX1_leastReady : ByteArray := prog_3_method_11_code
def yX1_leastReady : MethodName := ⟨RX1, "leastReady", "(J)I"⟩
abbrev cX1_writeResult : ByteArray := prog_3_method_12_code
def yX1_writeResult : MethodName := ⟨RX1, "writeResult", "(IJ)I"⟩
abbrev cX1_resultOf : ByteArray := prog_3_method_13_code
def yX1_resultOf : MethodName := ⟨RX1, "resultOf", "(LFormFields$Field;)J"⟩
abbrev cX1_sumOf : ByteArray := prog_3_method_14_code
def yX1_sumOf : MethodName := ⟨RX1, "sumOf", "(J)J"⟩
def RX2 : String := "FormFields$Field"
def TX2 : u_T := fun k => match k with
  | 0 => ("FormFields$Field", "number", "I", false)
  | 1 => ("FormFields$Field", "kind", "I", false)
  | 2 => ("FormFields$Field", "parent", "I", false)
  | 3 => ("FormFields$Field", "name", "I", false)
  | 4 => ("FormFields$Field", "first", "I", false)
  | 5 => ("FormFields$Field", "flat", "Z", false)
  | 6 => ("FormFields$Field", "locked", "Z", false)
  | 7 => ("FormFields$Field", "settings", "[I", true)
  | 8 => ("FormFields$Field", "signs", "LFormFields$Row;", true)
  | 9 => ("FormFields$Field", "codes", "LFormFields$Row;", true)
  | 10 => ("FormFields$Field", "picked", "I", false)
  | 11 => ("FormFields$Field", "least", "J", false)
  | 12 => ("FormFields$Field", "most", "J", false)
  | 13 => ("FormFields$Field", "op", "I", false)
  | 14 => ("FormFields$Field", "a", "I", false)
  | 15 => ("FormFields$Field", "b", "I", false)
  | _ => ("FormFields$Field", "failing", "Z", false)
def tyX2 : Nat → FieldType := fun k => match k with
  | 0 => .int
  | 1 => .int
  | 2 => .int
  | 3 => .int
  | 4 => .int
  | 5 => .boolean
  | 6 => .boolean
  | 7 => .array .int
  | 8 => .object "FormFields$Row"
  | 9 => .object "FormFields$Row"
  | 10 => .int
  | 11 => .long
  | 12 => .long
  | 13 => .int
  | 14 => .int
  | 15 => .int
  | _ => .boolean
abbrev wsX20 : List Cond := u_ws RX2 TX2 17
theorem nmX2 : ∀ a, a < 17 → ∀ b, b < 17 → a ≠ b → (TX2 a).2.1 ≠ (TX2 b).2.1 := by decide +kernel
theorem tyX2_ok : ∀ k, k < 17 → parseFieldDescriptor (TX2 k).2.2.1 = some (tyX2 k) := by decide +kernel
abbrev cX2_init : ByteArray := prog_4_method_1_code
def yX2_init : MethodName := ⟨RX2, "<init>", "()V"⟩
abbrev cX2_begin : ByteArray := prog_4_method_2_code
def yX2_begin : MethodName := ⟨RX2, "begin", "(IIIII)V"⟩
abbrev cX2_hasSigns : ByteArray := prog_4_method_3_code
def yX2_hasSigns : MethodName := ⟨RX2, "hasSigns", "()Z"⟩
abbrev cX2_hasOptions : ByteArray := prog_4_method_4_code
def yX2_hasOptions : MethodName := ⟨RX2, "hasOptions", "()Z"⟩
abbrev cX2_isSign : ByteArray := prog_4_method_5_code
def yX2_isSign : MethodName := ⟨RX2, "isSign", "(I)Z"⟩
abbrev cX2_room : ByteArray := prog_4_method_6_code
def yX2_room : MethodName := ⟨RX2, "room", "()I"⟩
abbrev cX2_mayBeNone : ByteArray := prog_4_method_7_code
def yX2_mayBeNone : MethodName := ⟨RX2, "mayBeNone", "()Z"⟩
abbrev cX2_couldTake : ByteArray := prog_4_method_8_code
def yX2_couldTake : MethodName := ⟨RX2, "couldTake", "(I)Z"⟩
abbrev cX2_takeSign : ByteArray := prog_4_method_9_code
def yX2_takeSign : MethodName := ⟨RX2, "takeSign", "(I)I"⟩
abbrev cX2_pick : ByteArray := prog_4_method_10_code
def yX2_pick : MethodName := ⟨RX2, "pick", "(I)I"⟩
abbrev cX2_isFlag : ByteArray := prog_4_method_11_code
def yX2_isFlag : MethodName := ⟨RX2, "isFlag", "(I)Z"⟩
abbrev cX2_maySetTo : ByteArray := prog_4_method_12_code
def yX2_maySetTo : MethodName := ⟨RX2, "maySetTo", "(II)Z"⟩
abbrev cX2_change : ByteArray := prog_4_method_13_code
def yX2_change : MethodName := ⟨RX2, "change", "(II)I"⟩
abbrev cX2_isEmpty : ByteArray := prog_4_method_14_code
def yX2_isEmpty : MethodName := ⟨RX2, "isEmpty", "()Z"⟩
abbrev cX2_amount : ByteArray := prog_4_method_15_code
def yX2_amount : MethodName := ⟨RX2, "amount", "()J"⟩
abbrev cX2_verdict : ByteArray := prog_4_method_16_code
def yX2_verdict : MethodName := ⟨RX2, "verdict", "()I"⟩
def RX3 : String := "FormFields$Marks"
def TX3 : u_T := fun k => match k with
  | 0 => ("FormFields$Marks", "parts", "[[I", true)
  | 1 => ("FormFields$Marks", "most", "I", true)
  | _ => ("FormFields$Marks", "count", "I", false)
def tyX3 : Nat → FieldType := fun k => match k with
  | 0 => .array (.array .int)
  | 1 => .int
  | _ => .int
abbrev wsX30 : List Cond := u_ws RX3 TX3 3
theorem nmX3 : ∀ a, a < 3 → ∀ b, b < 3 → a ≠ b → (TX3 a).2.1 ≠ (TX3 b).2.1 := by decide +kernel
theorem tyX3_ok : ∀ k, k < 3 → parseFieldDescriptor (TX3 k).2.2.1 = some (tyX3 k) := by decide +kernel
abbrev cX3_init : ByteArray := prog_5_method_1_code
def yX3_init : MethodName := ⟨RX3, "<init>", "(I)V"⟩
abbrev cX3_count : ByteArray := prog_5_method_2_code
def yX3_count : MethodName := ⟨RX3, "count", "()I"⟩
abbrev cX3_clear : ByteArray := prog_5_method_3_code
def yX3_clear : MethodName := ⟨RX3, "clear", "()V"⟩
abbrev cX3_has : ByteArray := prog_5_method_4_code
def yX3_has : MethodName := ⟨RX3, "has", "(II)Z"⟩
abbrev cX3_get : ByteArray := prog_5_method_5_code
def yX3_get : MethodName := ⟨RX3, "get", "(II)I"⟩
abbrev cX3_add : ByteArray := prog_5_method_6_code
def yX3_add : MethodName := ⟨RX3, "add", "(IIIII)V"⟩
def RX4 : String := "FormFields$Reader"
def TX4 : u_T := fun k => match k with
  | 0 => ("FormFields$Reader", "tree", "LFormFields$Tree;", true)
  | _ => ("FormFields$Reader", "input", "LFormFields$Row;", true)
def tyX4 : Nat → FieldType := fun k => match k with
  | 0 => .object "FormFields$Tree"
  | _ => .object "FormFields$Row"
abbrev wsX40 : List Cond := u_ws RX4 TX4 2
theorem nmX4 : ∀ a, a < 2 → ∀ b, b < 2 → a ≠ b → (TX4 a).2.1 ≠ (TX4 b).2.1 := by decide +kernel
theorem tyX4_ok : ∀ k, k < 2 → parseFieldDescriptor (TX4 k).2.2.1 = some (tyX4 k) := by decide +kernel
abbrev cX4_init : ByteArray := prog_6_method_1_code
def yX4_init : MethodName := ⟨RX4, "<init>", "(LFormFields$Tree;)V"⟩
abbrev cX4_readAll : ByteArray := prog_6_method_2_code
def yX4_readAll : MethodName := ⟨RX4, "readAll", "()I"⟩
abbrev cX4_checkAll : ByteArray := prog_6_method_3_code
def yX4_checkAll : MethodName := ⟨RX4, "checkAll", "()I"⟩
abbrev cX4_takeAll : ByteArray := prog_6_method_4_code
def yX4_takeAll : MethodName := ⟨RX4, "takeAll", "(I)V"⟩
abbrev cX4_endOf : ByteArray := prog_6_method_5_code
def yX4_endOf : MethodName := ⟨RX4, "endOf", "(I)I"⟩
abbrev cX4_next : ByteArray := prog_6_method_6_code
def yX4_next : MethodName := ⟨RX4, "next", "(III)I"⟩
abbrev cX4_isGood : ByteArray := prog_6_method_7_code
def yX4_isGood : MethodName := ⟨RX4, "isGood", "(II)Z"⟩
abbrev cX4_take : ByteArray := prog_6_method_8_code
def yX4_take : MethodName := ⟨RX4, "take", "(II)V"⟩
abbrev cX4_masterNamed : ByteArray := prog_6_method_9_code
def yX4_masterNamed : MethodName := ⟨RX4, "masterNamed", "(II)I"⟩
abbrev cX4_plainNumber : ByteArray := prog_6_method_10_code
def yX4_plainNumber : MethodName := ⟨RX4, "plainNumber", "(II)I"⟩
abbrev cX4_couldTake : ByteArray := prog_6_method_11_code
def yX4_couldTake : MethodName := ⟨RX4, "couldTake", "(LFormFields$Field;II)Z"⟩
abbrev cX4_couldTakeSigns : ByteArray := prog_6_method_12_code
def yX4_couldTakeSigns : MethodName := ⟨RX4, "couldTakeSigns", "(LFormFields$Field;II)Z"⟩
def RX5 : String := "FormFields$Row"
def TX5 : u_T := fun k => match k with
  | 0 => ("FormFields$Row", "items", "[I", true)
  | _ => ("FormFields$Row", "count", "I", false)
def tyX5 : Nat → FieldType := fun k => match k with
  | 0 => .array .int
  | _ => .int
abbrev wsX50 : List Cond := u_ws RX5 TX5 2
theorem nmX5 : ∀ a, a < 2 → ∀ b, b < 2 → a ≠ b → (TX5 a).2.1 ≠ (TX5 b).2.1 := by decide +kernel
theorem tyX5_ok : ∀ k, k < 2 → parseFieldDescriptor (TX5 k).2.2.1 = some (tyX5 k) := by decide +kernel
abbrev cX5_init : ByteArray := prog_7_method_1_code
def yX5_init : MethodName := ⟨RX5, "<init>", "(I)V"⟩
abbrev cX5_count : ByteArray := prog_7_method_2_code
def yX5_count : MethodName := ⟨RX5, "count", "()I"⟩
abbrev cX5_has : ByteArray := prog_7_method_3_code
def yX5_has : MethodName := ⟨RX5, "has", "(I)Z"⟩
abbrev cX5_get : ByteArray := prog_7_method_4_code
def yX5_get : MethodName := ⟨RX5, "get", "(I)I"⟩
abbrev cX5_find : ByteArray := prog_7_method_5_code
def yX5_find : MethodName := ⟨RX5, "find", "(I)I"⟩
abbrev cX5_add : ByteArray := prog_7_method_6_code
def yX5_add : MethodName := ⟨RX5, "add", "(I)Z"⟩
abbrev cX5_clear : ByteArray := prog_7_method_7_code
def yX5_clear : MethodName := ⟨RX5, "clear", "()V"⟩
abbrev cX5_addAll : ByteArray := prog_7_method_8_code
def yX5_addAll : MethodName := ⟨RX5, "addAll", "(LFormFields$Row;II)V"⟩
abbrev cX5_become : ByteArray := prog_7_method_9_code
def yX5_become : MethodName := ⟨RX5, "become", "(LFormFields$Row;)V"⟩
abbrev cX5_isSameAs : ByteArray := prog_7_method_10_code
def yX5_isSameAs : MethodName := ⟨RX5, "isSameAs", "(LFormFields$Row;)Z"⟩
def RX6 : String := "FormFields$Tree"
def TX6 : u_T := fun k => match k with
  | 0 => ("FormFields$Tree", "fields", "[LFormFields$Field;", true)
  | _ => ("FormFields$Tree", "count", "I", false)
def tyX6 : Nat → FieldType := fun k => match k with
  | 0 => .array (.object "FormFields$Field")
  | _ => .int
abbrev wsX60 : List Cond := u_ws RX6 TX6 2
theorem nmX6 : ∀ a, a < 2 → ∀ b, b < 2 → a ≠ b → (TX6 a).2.1 ≠ (TX6 b).2.1 := by decide +kernel
theorem tyX6_ok : ∀ k, k < 2 → parseFieldDescriptor (TX6 k).2.2.1 = some (tyX6 k) := by decide +kernel
abbrev cX6_init : ByteArray := prog_8_method_1_code
def yX6_init : MethodName := ⟨RX6, "<init>", "()V"⟩
abbrev cX6_count : ByteArray := prog_8_method_2_code
def yX6_count : MethodName := ⟨RX6, "count", "()I"⟩
abbrev cX6_get : ByteArray := prog_8_method_3_code
def yX6_get : MethodName := ⟨RX6, "get", "(I)LFormFields$Field;"⟩
abbrev cX6_masterOf : ByteArray := prog_8_method_4_code
def yX6_masterOf : MethodName := ⟨RX6, "masterOf", "(I)LFormFields$Field;"⟩
abbrev cX6_add : ByteArray := prog_8_method_5_code
def yX6_add : MethodName := ⟨RX6, "add", "(IIII)I"⟩
abbrev cX6_firstNamed : ByteArray := prog_8_method_6_code
def yX6_firstNamed : MethodName := ⟨RX6, "firstNamed", "(II)I"⟩
abbrev cX6_isMaster : ByteArray := prog_8_method_7_code
def yX6_isMaster : MethodName := ⟨RX6, "isMaster", "(I)Z"⟩
abbrev cX6_isInside : ByteArray := prog_8_method_8_code
def yX6_isInside : MethodName := ⟨RX6, "isInside", "(II)Z"⟩
def RX7 : String := "FormFields$View"
def TX7 : u_T := fun k => match k with
  | _ => ("FormFields$View", "signs", "LFormFields$Row;", true)
def tyX7 : Nat → FieldType := fun k => match k with
  | _ => .object "FormFields$Row"
abbrev wsX70 : List Cond := u_ws RX7 TX7 1
theorem nmX7 : ∀ a, a < 1 → ∀ b, b < 1 → a ≠ b → (TX7 a).2.1 ≠ (TX7 b).2.1 := by decide +kernel
theorem tyX7_ok : ∀ k, k < 1 → parseFieldDescriptor (TX7 k).2.2.1 = some (tyX7 k) := by decide +kernel
abbrev cX7_init : ByteArray := prog_9_method_1_code
def yX7_init : MethodName := ⟨RX7, "<init>", "()V"⟩
abbrev cX7_show : ByteArray := prog_9_method_2_code
def yX7_show : MethodName := ⟨RX7, "show", "(LFormFields$Field;)LFormFields$Row;"⟩
abbrev cX7_showNumber : ByteArray := prog_9_method_3_code
def yX7_showNumber : MethodName := ⟨RX7, "showNumber", "(LFormFields$Field;)V"⟩
abbrev cX7_fittingSize : ByteArray := prog_9_method_4_code
def yX7_fittingSize : MethodName := ⟨RX7, "fittingSize", "(LFormFields$Field;LFormFields$Field;)I"⟩
abbrev cX7_sizeFor : ByteArray := prog_9_method_5_code
def yX7_sizeFor : MethodName := ⟨RX7, "sizeFor", "(LFormFields$Field;I)I"⟩
abbrev cX7_addMarks : ByteArray := prog_9_method_6_code
def yX7_addMarks : MethodName := ⟨RX7, "addMarks", "(LFormFields$Field;LFormFields$Field;LFormFields$Marks;)V"⟩
abbrev cX7_beginning : ByteArray := prog_9_method_7_code
def yX7_beginning : MethodName := ⟨RX7, "beginning", "(LFormFields$Field;I)I"⟩
abbrev cX7_cellX : ByteArray := prog_9_method_8_code
def yX7_cellX : MethodName := ⟨RX7, "cellX", "(IIII)I"⟩
def RX8 : String := "FormFields$Writer"
def TX8 : u_T := fun k => match k with
  | 0 => ("FormFields$Writer", "tree", "LFormFields$Tree;", true)
  | 1 => ("FormFields$Writer", "data", "LFormFields$Row;", true)
  | _ => ("FormFields$Writer", "upwards", "LFormFields$Row;", true)
def tyX8 : Nat → FieldType := fun k => match k with
  | 0 => .object "FormFields$Tree"
  | 1 => .object "FormFields$Row"
  | _ => .object "FormFields$Row"
abbrev wsX80 : List Cond := u_ws RX8 TX8 3
theorem nmX8 : ∀ a, a < 3 → ∀ b, b < 3 → a ≠ b → (TX8 a).2.1 ≠ (TX8 b).2.1 := by decide +kernel
theorem tyX8_ok : ∀ k, k < 3 → parseFieldDescriptor (TX8 k).2.2.1 = some (tyX8 k) := by decide +kernel
abbrev cX8_init : ByteArray := prog_10_method_1_code
def yX8_init : MethodName := ⟨RX8, "<init>", "(LFormFields$Tree;)V"⟩
abbrev cX8_writeAll : ByteArray := prog_10_method_2_code
def yX8_writeAll : MethodName := ⟨RX8, "writeAll", "()I"⟩
abbrev cX8_addFullName : ByteArray := prog_10_method_3_code
def yX8_addFullName : MethodName := ⟨RX8, "addFullName", "(I)V"⟩
abbrev cX8_addContent : ByteArray := prog_10_method_4_code
def yX8_addContent : MethodName := ⟨RX8, "addContent", "(LFormFields$Field;)V"⟩
def RX9 : String := "FormFields"
def TX9 : u_T := fun k => match k with
  | 0 => ("FormFields", "tree", "LFormFields$Tree;", true)
  | 1 => ("FormFields", "view", "LFormFields$View;", true)
  | 2 => ("FormFields", "calculator", "LFormFields$Calculator;", true)
  | 3 => ("FormFields", "writer", "LFormFields$Writer;", true)
  | 4 => ("FormFields", "reader", "LFormFields$Reader;", true)
  | 5 => ("FormFields", "made", "LFormFields$Marks;", true)
  | _ => ("FormFields", "kept", "LFormFields$Marks;", true)
def tyX9 : Nat → FieldType := fun k => match k with
  | 0 => .object "FormFields$Tree"
  | 1 => .object "FormFields$View"
  | 2 => .object "FormFields$Calculator"
  | 3 => .object "FormFields$Writer"
  | 4 => .object "FormFields$Reader"
  | 5 => .object "FormFields$Marks"
  | _ => .object "FormFields$Marks"
abbrev wsX90 : List Cond := u_ws RX9 TX9 7
theorem nmX9 : ∀ a, a < 7 → ∀ b, b < 7 → a ≠ b → (TX9 a).2.1 ≠ (TX9 b).2.1 := by decide +kernel
theorem tyX9_ok : ∀ k, k < 7 → parseFieldDescriptor (TX9 k).2.2.1 = some (tyX9 k) := by decide +kernel
abbrev cX9_init : ByteArray := prog_1_method_1_code
def yX9_init : MethodName := ⟨RX9, "<init>", "()V"⟩
abbrev cX9_field : ByteArray := prog_1_method_2_code
def yX9_field : MethodName := ⟨RX9, "field", "(III)I"⟩
abbrev cX9_value : ByteArray := prog_1_method_3_code
def yX9_value : MethodName := ⟨RX9, "value", "(II)I"⟩
abbrev cX9_option : ByteArray := prog_1_method_4_code
def yX9_option : MethodName := ⟨RX9, "option", "(II)I"⟩
abbrev cX9_set : ByteArray := prog_1_method_5_code
def yX9_set : MethodName := ⟨RX9, "set", "(III)I"⟩
abbrev cX9_bounds : ByteArray := prog_1_method_6_code
def yX9_bounds : MethodName := ⟨RX9, "bounds", "(IJJ)V"⟩
abbrev cX9_formula : ByteArray := prog_1_method_7_code
def yX9_formula : MethodName := ⟨RX9, "formula", "(IIII)I"⟩
abbrev cX9_calculate : ByteArray := prog_1_method_8_code
def yX9_calculate : MethodName := ⟨RX9, "calculate", "()I"⟩
abbrev cX9_failed : ByteArray := prog_1_method_9_code
def yX9_failed : MethodName := ⟨RX9, "failed", "(I)I"⟩
abbrev cX9_fails : ByteArray := prog_1_method_10_code
def yX9_fails : MethodName := ⟨RX9, "fails", "(IZ)I"⟩
abbrev cX9_shown : ByteArray := prog_1_method_11_code
def yX9_shown : MethodName := ⟨RX9, "shown", "(II)I"⟩
abbrev cX9_size : ByteArray := prog_1_method_12_code
def yX9_size : MethodName := ⟨RX9, "size", "(I)I"⟩
abbrev cX9_validate : ByteArray := prog_1_method_13_code
def yX9_validate : MethodName := ⟨RX9, "validate", "(I)I"⟩
abbrev cX9_appearance : ByteArray := prog_1_method_14_code
def yX9_appearance : MethodName := ⟨RX9, "appearance", "(I)I"⟩
abbrev cX9_mark : ByteArray := prog_1_method_15_code
def yX9_mark : MethodName := ⟨RX9, "mark", "(II)I"⟩
abbrev cX9_flatten : ByteArray := prog_1_method_16_code
def yX9_flatten : MethodName := ⟨RX9, "flatten", "(I)I"⟩
abbrev cX9_page : ByteArray := prog_1_method_17_code
def yX9_page : MethodName := ⟨RX9, "page", "(II)I"⟩
abbrev cX9_write : ByteArray := prog_1_method_18_code
def yX9_write : MethodName := ⟨RX9, "write", "()I"⟩
abbrev cX9_at : ByteArray := prog_1_method_19_code
def yX9_at : MethodName := ⟨RX9, "at", "(I)I"⟩
abbrev cX9_read : ByteArray := prog_1_method_20_code
def yX9_read : MethodName := ⟨RX9, "read", "(I)I"⟩
abbrev cX9_lock : ByteArray := prog_1_method_21_code
def yX9_lock : MethodName := ⟨RX9, "lock", "(IZ)I"⟩
abbrev cX9_masterWithValue : ByteArray := prog_1_method_22_code
def yX9_masterWithValue : MethodName := ⟨RX9, "masterWithValue", "(I)LFormFields$Field;"⟩
def RX10 : String := "FormFieldsModel"
def TX10 : u_T := fun k => match k with
  | 0 => ("FormFieldsModel", "thrown", "I", false)
  | 1 => ("FormFieldsModel", "fields", "I", false)
  | 2 => ("FormFieldsModel", "kinds", "[I", true)
  | 3 => ("FormFieldsModel", "parents", "[I", true)
  | 4 => ("FormFieldsModel", "names", "[I", true)
  | 5 => ("FormFieldsModel", "masters", "[I", true)
  | 6 => ("FormFieldsModel", "widths", "[I", true)
  | 7 => ("FormFieldsModel", "heights", "[I", true)
  | 8 => ("FormFieldsModel", "sides", "[I", true)
  | 9 => ("FormFieldsModel", "flat", "[Z", true)
  | 10 => ("FormFieldsModel", "signs", "[I", true)
  | 11 => ("FormFieldsModel", "many", "[I", true)
  | 12 => ("FormFieldsModel", "picked", "[I", true)
  | 13 => ("FormFieldsModel", "codes", "[I", true)
  | 14 => ("FormFieldsModel", "options", "[I", true)
  | 15 => ("FormFieldsModel", "settings", "[I", true)
  | 16 => ("FormFieldsModel", "leasts", "[J", true)
  | 17 => ("FormFieldsModel", "mosts", "[J", true)
  | 18 => ("FormFieldsModel", "ops", "[I", true)
  | 19 => ("FormFieldsModel", "as", "[I", true)
  | 20 => ("FormFieldsModel", "bs", "[I", true)
  | 21 => ("FormFieldsModel", "failing", "[Z", true)
  | 22 => ("FormFieldsModel", "locked", "[Z", true)
  | 23 => ("FormFieldsModel", "needs", "[Z", true)
  | 24 => ("FormFieldsModel", "worked", "[Z", true)
  | 25 => ("FormFieldsModel", "failed", "[I", true)
  | 26 => ("FormFieldsModel", "failures", "I", false)
  | 27 => ("FormFieldsModel", "row", "[I", true)
  | 28 => ("FormFieldsModel", "rowSize", "I", false)
  | 29 => ("FormFieldsModel", "marks", "[I", true)
  | 30 => ("FormFieldsModel", "made", "I", false)
  | 31 => ("FormFieldsModel", "fresh", "[I", true)
  | 32 => ("FormFieldsModel", "page", "[I", true)
  | 33 => ("FormFieldsModel", "paged", "I", false)
  | 34 => ("FormFieldsModel", "data", "[I", true)
  | 35 => ("FormFieldsModel", "written", "I", false)
  | 36 => ("FormFieldsModel", "coming", "[I", true)
  | _ => ("FormFieldsModel", "come", "I", false)
def tyX10 : Nat → FieldType := fun k => match k with
  | 0 => .int
  | 1 => .int
  | 2 => .array .int
  | 3 => .array .int
  | 4 => .array .int
  | 5 => .array .int
  | 6 => .array .int
  | 7 => .array .int
  | 8 => .array .int
  | 9 => .array .boolean
  | 10 => .array .int
  | 11 => .array .int
  | 12 => .array .int
  | 13 => .array .int
  | 14 => .array .int
  | 15 => .array .int
  | 16 => .array .long
  | 17 => .array .long
  | 18 => .array .int
  | 19 => .array .int
  | 20 => .array .int
  | 21 => .array .boolean
  | 22 => .array .boolean
  | 23 => .array .boolean
  | 24 => .array .boolean
  | 25 => .array .int
  | 26 => .int
  | 27 => .array .int
  | 28 => .int
  | 29 => .array .int
  | 30 => .int
  | 31 => .array .int
  | 32 => .array .int
  | 33 => .int
  | 34 => .array .int
  | 35 => .int
  | 36 => .array .int
  | _ => .int
abbrev wsX100 : List Cond := u_ws RX10 TX10 38
theorem nmX10 : ∀ a, a < 38 → ∀ b, b < 38 → a ≠ b → (TX10 a).2.1 ≠ (TX10 b).2.1 := by decide +kernel
theorem tyX10_ok : ∀ k, k < 38 → parseFieldDescriptor (TX10 k).2.2.1 = some (tyX10 k) := by decide +kernel
abbrev cX10_init : ByteArray := prog_12_method_1_code
def yX10_init : MethodName := ⟨RX10, "<init>", "()V"⟩
abbrev cX10_thrown : ByteArray := prog_12_method_2_code
def yX10_thrown : MethodName := ⟨RX10, "thrown", "()I"⟩
abbrev cX10_isIn : ByteArray := prog_12_method_3_code
def yX10_isIn : MethodName := ⟨RX10, "isIn", "(JJJ)Z"⟩
abbrev cX10_no : ByteArray := prog_12_method_4_code
def yX10_no : MethodName := ⟨RX10, "no", "(I)Z"⟩
abbrev cX10_isSameName : ByteArray := prog_12_method_5_code
def yX10_isSameName : MethodName := ⟨RX10, "isSameName", "(II)Z"⟩
abbrev cX10_field : ByteArray := prog_12_method_6_code
def yX10_field : MethodName := ⟨RX10, "field", "(III)I"⟩
abbrev cX10_lookUp : ByteArray := prog_12_method_7_code
def yX10_lookUp : MethodName := ⟨RX10, "lookUp", "(II)I"⟩
abbrev cX10_isSigned : ByteArray := prog_12_method_8_code
def yX10_isSigned : MethodName := ⟨RX10, "isSigned", "(I)Z"⟩
abbrev cX10_isPicked : ByteArray := prog_12_method_9_code
def yX10_isPicked : MethodName := ⟨RX10, "isPicked", "(I)Z"⟩
abbrev cX10_isNumberSign : ByteArray := prog_12_method_10_code
def yX10_isNumberSign : MethodName := ⟨RX10, "isNumberSign", "(I)Z"⟩
abbrev cX10_isSign : ByteArray := prog_12_method_11_code
def yX10_isSign : MethodName := ⟨RX10, "isSign", "(II)Z"⟩
abbrev cX10_most : ByteArray := prog_12_method_12_code
def yX10_most : MethodName := ⟨RX10, "most", "(I)I"⟩
abbrev cX10_mayPick : ByteArray := prog_12_method_13_code
def yX10_mayPick : MethodName := ⟨RX10, "mayPick", "(II)Z"⟩
abbrev cX10_value : ByteArray := prog_12_method_14_code
def yX10_value : MethodName := ⟨RX10, "value", "(II)I"⟩
abbrev cX10_option : ByteArray := prog_12_method_15_code
def yX10_option : MethodName := ⟨RX10, "option", "(II)I"⟩
abbrev cX10_maySet : ByteArray := prog_12_method_16_code
def yX10_maySet : MethodName := ⟨RX10, "maySet", "(III)Z"⟩
abbrev cX10_set : ByteArray := prog_12_method_17_code
def yX10_set : MethodName := ⟨RX10, "set", "(III)I"⟩
abbrev cX10_bounds : ByteArray := prog_12_method_18_code
def yX10_bounds : MethodName := ⟨RX10, "bounds", "(IJJ)V"⟩
abbrev cX10_amountOf : ByteArray := prog_12_method_19_code
def yX10_amountOf : MethodName := ⟨RX10, "amountOf", "(I)J"⟩
abbrev cX10_put : ByteArray := prog_12_method_20_code
def yX10_put : MethodName := ⟨RX10, "put", "(I)V"⟩
abbrev cX10_putNumber : ByteArray := prog_12_method_21_code
def yX10_putNumber : MethodName := ⟨RX10, "putNumber", "(JZ)V"⟩
abbrev cX10_putAmount : ByteArray := prog_12_method_22_code
def yX10_putAmount : MethodName := ⟨RX10, "putAmount", "(J)V"⟩
abbrev cX10_isAmount : ByteArray := prog_12_method_23_code
def yX10_isAmount : MethodName := ⟨RX10, "isAmount", "(I)Z"⟩
abbrev cX10_formula : ByteArray := prog_12_method_24_code
def yX10_formula : MethodName := ⟨RX10, "formula", "(IIII)I"⟩
abbrev cX10_isUnder : ByteArray := prog_12_method_25_code
def yX10_isUnder : MethodName := ⟨RX10, "isUnder", "(II)Z"⟩
abbrev cX10_has : ByteArray := prog_12_method_26_code
def yX10_has : MethodName := ⟨RX10, "has", "(II)Z"⟩
abbrev cX10_isFormula : ByteArray := prog_12_method_27_code
def yX10_isFormula : MethodName := ⟨RX10, "isFormula", "(I)Z"⟩
abbrev cX10_learn : ByteArray := prog_12_method_28_code
def yX10_learn : MethodName := ⟨RX10, "learn", "()V"⟩
abbrev cX10_ring : ByteArray := prog_12_method_29_code
def yX10_ring : MethodName := ⟨RX10, "ring", "()I"⟩
abbrev cX10_group : ByteArray := prog_12_method_30_code
def yX10_group : MethodName := ⟨RX10, "group", "(I)J"⟩
abbrev cX10_abs : ByteArray := prog_12_method_31_code
def yX10_abs : MethodName := ⟨RX10, "abs", "(J)J"⟩
abbrev cX10_product : ByteArray := prog_12_method_32_code
def yX10_product : MethodName := ⟨RX10, "product", "(JJ)J"⟩
abbrev cX10_result : ByteArray := prog_12_method_33_code
def yX10_result : MethodName := ⟨RX10, "result", "(I)J"⟩
abbrev cX10_work : ByteArray := prog_12_method_34_code
def yX10_work : MethodName := ⟨RX10, "work", "(I)Z"⟩
abbrev cX10_isReady : ByteArray := prog_12_method_35_code
def yX10_isReady : MethodName := ⟨RX10, "isReady", "(I)Z"⟩
abbrev cX10_calculate : ByteArray := prog_12_method_36_code
def yX10_calculate : MethodName := ⟨RX10, "calculate", "()I"⟩
abbrev cX10_failed : ByteArray := prog_12_method_37_code
def yX10_failed : MethodName := ⟨RX10, "failed", "(I)I"⟩
abbrev cX10_fails : ByteArray := prog_12_method_38_code
def yX10_fails : MethodName := ⟨RX10, "fails", "(IZ)I"⟩
abbrev cX10_putRounded : ByteArray := prog_12_method_39_code
def yX10_putRounded : MethodName := ⟨RX10, "putRounded", "(IJ)V"⟩
abbrev cX10_putSigns : ByteArray := prog_12_method_40_code
def yX10_putSigns : MethodName := ⟨RX10, "putSigns", "(I)V"⟩
abbrev cX10_show : ByteArray := prog_12_method_41_code
def yX10_show : MethodName := ⟨RX10, "show", "(I)V"⟩
abbrev cX10_shown : ByteArray := prog_12_method_42_code
def yX10_shown : MethodName := ⟨RX10, "shown", "(II)I"⟩
abbrev cX10_cells : ByteArray := prog_12_method_43_code
def yX10_cells : MethodName := ⟨RX10, "cells", "(I)I"⟩
abbrev cX10_sizeOf : ByteArray := prog_12_method_44_code
def yX10_sizeOf : MethodName := ⟨RX10, "sizeOf", "(I)I"⟩
abbrev cX10_checkField : ByteArray := prog_12_method_45_code
def yX10_checkField : MethodName := ⟨RX10, "checkField", "(I)I"⟩
abbrev cX10_size : ByteArray := prog_12_method_46_code
def yX10_size : MethodName := ⟨RX10, "size", "(I)I"⟩
abbrev cX10_validate : ByteArray := prog_12_method_47_code
def yX10_validate : MethodName := ⟨RX10, "validate", "(I)I"⟩
abbrev cX10_mark : ByteArray := prog_12_method_48_code
def yX10_mark : MethodName := ⟨RX10, "mark", "([IIIIII)V"⟩
abbrev cX10_make : ByteArray := prog_12_method_49_code
def yX10_make : MethodName := ⟨RX10, "make", "(I[I)I"⟩
abbrev cX10_appearance : ByteArray := prog_12_method_50_code
def yX10_appearance : MethodName := ⟨RX10, "appearance", "(I)I"⟩
abbrev cX10_mark_ : ByteArray := prog_12_method_51_code
def yX10_mark_ : MethodName := ⟨RX10, "mark", "(II)I"⟩
abbrev cX10_flatten : ByteArray := prog_12_method_52_code
def yX10_flatten : MethodName := ⟨RX10, "flatten", "(I)I"⟩
abbrev cX10_page : ByteArray := prog_12_method_53_code
def yX10_page : MethodName := ⟨RX10, "page", "(II)I"⟩
abbrev cX10_out : ByteArray := prog_12_method_54_code
def yX10_out : MethodName := ⟨RX10, "out", "()V"⟩
abbrev cX10_putValue : ByteArray := prog_12_method_55_code
def yX10_putValue : MethodName := ⟨RX10, "putValue", "(I)V"⟩
abbrev cX10_isMaster : ByteArray := prog_12_method_56_code
def yX10_isMaster : MethodName := ⟨RX10, "isMaster", "(I)Z"⟩
abbrev cX10_write : ByteArray := prog_12_method_57_code
def yX10_write : MethodName := ⟨RX10, "write", "()I"⟩
abbrev cX10_nameOut : ByteArray := prog_12_method_58_code
def yX10_nameOut : MethodName := ⟨RX10, "nameOut", "(I)V"⟩
abbrev cX10_at : ByteArray := prog_12_method_59_code
def yX10_at : MethodName := ⟨RX10, "at", "(I)I"⟩
abbrev cX10_behindName : ByteArray := prog_12_method_60_code
def yX10_behindName : MethodName := ⟨RX10, "behindName", "(II)I"⟩
abbrev cX10_takeValue : ByteArray := prog_12_method_61_code
def yX10_takeValue : MethodName := ⟨RX10, "takeValue", "(IIIZ)Z"⟩
abbrev cX10_takeLine : ByteArray := prog_12_method_62_code
def yX10_takeLine : MethodName := ⟨RX10, "takeLine", "(IIZ)Z"⟩
abbrev cX10_goOver : ByteArray := prog_12_method_63_code
def yX10_goOver : MethodName := ⟨RX10, "goOver", "(Z)I"⟩
abbrev cX10_readAll : ByteArray := prog_12_method_64_code
def yX10_readAll : MethodName := ⟨RX10, "readAll", "()I"⟩
abbrev cX10_read : ByteArray := prog_12_method_65_code
def yX10_read : MethodName := ⟨RX10, "read", "(I)I"⟩
abbrev cX10_lock : ByteArray := prog_12_method_66_code
def yX10_lock : MethodName := ⟨RX10, "lock", "(IZ)I"⟩
def RJ9 : String := "java/lang/Math"
def TJ9 : u_T := fun k => match k with
  | _ => ("", "", "", false)
def tyJ9 : Nat → FieldType := fun k => match k with
  | _ => .int
abbrev wsJ90 : List Cond := u_ws RJ9 TJ9 0
theorem nmJ9 : ∀ a, a < 0 → ∀ b, b < 0 → a ≠ b → (TJ9 a).2.1 ≠ (TJ9 b).2.1 := by decide +kernel
theorem tyJ9_ok : ∀ k, k < 0 → parseFieldDescriptor (TJ9 k).2.2.1 = some (tyJ9 k) := by decide +kernel
abbrev cJ9_abs_0f7a4 : ByteArray := prog_19_method_59_code
def yJ9_abs_0f7a4 : MethodName := ⟨RJ9, "abs", "(I)I"⟩
abbrev cJ9_abs_067f4 : ByteArray := prog_19_method_61_code
def yJ9_abs_067f4 : MethodName := ⟨RJ9, "abs", "(J)J"⟩
abbrev cJ9_max_7cf53 : ByteArray := prog_19_method_65_code
def yJ9_max_7cf53 : MethodName := ⟨RJ9, "max", "(II)I"⟩
abbrev cJ9_max_f86c9 : ByteArray := prog_19_method_66_code
def yJ9_max_f86c9 : MethodName := ⟨RJ9, "max", "(JJ)J"⟩
abbrev cJ9_min_7cf53 : ByteArray := prog_19_method_69_code
def yJ9_min_7cf53 : MethodName := ⟨RJ9, "min", "(II)I"⟩
abbrev cJ9_min_f86c9 : ByteArray := prog_19_method_70_code
def yJ9_min_f86c9 : MethodName := ⟨RJ9, "min", "(JJ)J"⟩
def RL : String := "FormFieldsLaw"
abbrev cL_field : ByteArray := method_3_code
def yL_field : MethodName := ⟨RL, "field", "(LFormFields;III[J)I"⟩
abbrev cL_value : ByteArray := method_4_code
def yL_value : MethodName := ⟨RL, "value", "(LFormFields;II[J)I"⟩
abbrev cL_option : ByteArray := method_5_code
def yL_option : MethodName := ⟨RL, "option", "(LFormFields;II[J)I"⟩
abbrev cL_set : ByteArray := method_6_code
def yL_set : MethodName := ⟨RL, "set", "(LFormFields;III[J)I"⟩
abbrev cL_bounds : ByteArray := method_7_code
def yL_bounds : MethodName := ⟨RL, "bounds", "(LFormFields;IJJ)I"⟩
abbrev cL_formula : ByteArray := method_8_code
def yL_formula : MethodName := ⟨RL, "formula", "(LFormFields;IIII[J)I"⟩
abbrev cL_failed : ByteArray := method_9_code
def yL_failed : MethodName := ⟨RL, "failed", "(LFormFields;I[J)I"⟩
abbrev cL_fails : ByteArray := method_10_code
def yL_fails : MethodName := ⟨RL, "fails", "(LFormFields;IZ[J)I"⟩
abbrev cL_shown : ByteArray := method_11_code
def yL_shown : MethodName := ⟨RL, "shown", "(LFormFields;II[J)I"⟩
abbrev cL_size : ByteArray := method_12_code
def yL_size : MethodName := ⟨RL, "size", "(LFormFields;I[J)I"⟩
abbrev cL_validate : ByteArray := method_13_code
def yL_validate : MethodName := ⟨RL, "validate", "(LFormFields;I[J)I"⟩
abbrev cL_appearance : ByteArray := method_14_code
def yL_appearance : MethodName := ⟨RL, "appearance", "(LFormFields;I[J)I"⟩
abbrev cL_mark : ByteArray := method_15_code
def yL_mark : MethodName := ⟨RL, "mark", "(LFormFields;II[J)I"⟩
abbrev cL_flatten : ByteArray := method_16_code
def yL_flatten : MethodName := ⟨RL, "flatten", "(LFormFields;I[J)I"⟩
abbrev cL_page : ByteArray := method_17_code
def yL_page : MethodName := ⟨RL, "page", "(LFormFields;II[J)I"⟩
abbrev cL_at : ByteArray := method_18_code
def yL_at : MethodName := ⟨RL, "at", "(LFormFields;I[J)I"⟩
abbrev cL_read : ByteArray := method_19_code
def yL_read : MethodName := ⟨RL, "read", "(LFormFields;I[J)I"⟩
abbrev cL_lock : ByteArray := method_20_code
def yL_lock : MethodName := ⟨RL, "lock", "(LFormFields;IZ[J)I"⟩
abbrev cL_law : ByteArray := code
def yL_law : MethodName := ⟨RL, "law", "([I)Z"⟩
end
section
/-! MY OWN FRAME: a picture f of the heap (address to thing), a judgement V over it; all that the machine's rows ask stands here once -/
abbrev Ob : Type := (Nat × vp_A) ⊕ (Nat × List Value)
abbrev HF : Type := Nat → Option Ob
abbrev GT : Type := va_G × (Nat → ClassId) × Nat
abbrev MT : Type := String × ByteArray × Nat × Option FieldType × List (Nat × Nat × Nat × Nat) × String
abbrev Rs : Type := Option Value ⊕ String
abbrev RT : Type := Rs × HF × Option Nat × Nat × Nat
def obE (ta : Nat → ClassId) (o : Ob) : va_E := match o with
  | .inl x => .inl (ta x.1, x.2)
  | .inr x => .inr x
abbrev cl9 : List vw_C := [(RX1, TX1, 5), (RX2, TX2, 17), (RX3, TX3, 3), (RX4, TX4, 2), (RX5, TX5, 2), (RX6, TX6, 2), (RX7, TX7, 1), (RX8, TX8, 3), (RX9, TX9, 7), (RX10, TX10, 38)]
def ty9 (ta : Nat → ClassId) : List (ClassId × FieldType) := [(ta 0, .int), (ta 1, .long), (ta 2, .boolean), (ta 3, .object "FormFields$Field"), (ta 4, .array .int)]
def TB : List Cond := lw_tbl.filter goodWord
def isN (w : Cond) : Bool := match w with
  | .fieldLinkNest .. => true
  | .methodLinkNest .. => true
  | .castable .. => true
  | .declares .. => true
  | _ => false
def NB : List Cond := lw_tbl.filter isN
def NCP : List (String × String) := [("java/lang/IllegalArgumentException", "java/util/NoSuchElementException"), ("java/lang/IllegalStateException", "java/util/NoSuchElementException"), ("java/lang/UnsupportedOperationException", "java/util/NoSuchElementException"), ("java/lang/IllegalStateException", "java/lang/IllegalArgumentException"), ("java/lang/UnsupportedOperationException", "java/lang/IllegalArgumentException"), ("java/lang/UnsupportedOperationException", "java/lang/IllegalStateException")]
theorem tb (i : Nat) {w : Cond} (h : lw_tbl[i]? = some w) (g : goodWord w = true) : w ∈ TB := List.mem_filter.mpr ⟨List.mem_of_getElem? h, g⟩
theorem nb (i : Nat) {w : Cond} (h : lw_tbl[i]? = some w) (g : isN w = true) : w ∈ NB := List.mem_filter.mpr ⟨List.mem_of_getElem? h, g⟩
theorem tbm {w : Cond} (h : w ∈ tables_1) (g : goodWord w = true) : w ∈ TB := List.mem_filter.mpr ⟨List.mem_append_right _ h, g⟩
theorem nbm {w : Cond} (h : w ∈ tables_1) (g : isN w = true) : w ∈ NB := List.mem_filter.mpr ⟨List.mem_append_right _ h, g⟩
theorem tt_1 {w : Cond} (i : Nat) (h : tables_1_1[i]? = some w) : w ∈ tables_1 := List.mem_append_left _ (List.mem_of_getElem? h)
theorem tt_2 {w : Cond} (i : Nat) (h : tables_1_2[i]? = some w) : w ∈ tables_1 := List.mem_append_right _ (List.mem_append_left _ (List.mem_of_getElem? h))
theorem tt_3 {w : Cond} (i : Nat) (h : tables_1_3[i]? = some w) : w ∈ tables_1 := List.mem_append_right _ (List.mem_append_right _ (List.mem_append_left _ (List.mem_of_getElem? h)))
theorem tt_4 {w : Cond} (i : Nat) (h : tables_1_4[i]? = some w) : w ∈ tables_1 := List.mem_append_right _ (List.mem_append_right _ (List.mem_append_right _ (List.mem_append_left _ (List.mem_of_getElem? h))))
theorem tt_5 {w : Cond} (i : Nat) (h : tables_1_5[i]? = some w) : w ∈ tables_1 := List.mem_append_right _ (List.mem_append_right _ (List.mem_append_right _ (List.mem_append_right _ (List.mem_append_left _ (List.mem_of_getElem? h)))))
theorem tt_6 {w : Cond} (i : Nat) (h : tables_1_6[i]? = some w) : w ∈ tables_1 := List.mem_append_right _ (List.mem_append_right _ (List.mem_append_right _ (List.mem_append_right _ (List.mem_append_right _ (List.mem_of_getElem? h)))))
theorem tbp {w : Cond} (i : Nat) (h : (k2_sels lw_privs)[i]? = some w) (g : goodWord w = true) : w ∈ TB := List.mem_filter.mpr ⟨List.mem_append_left _ (List.mem_of_getElem? h), g⟩
theorem tb_good : TB.all goodWord = true := List.all_eq_true.mpr fun w h => (List.mem_filter.mp h).2
theorem nb_tab {w : Cond} (h : w ∈ NB) : w.onTables = true := by
  have h2 := (List.mem_filter.mp h).2
  cases w <;> first | rfl | (simp [isN] at h2)
theorem nb_warm {w : Cond} (h : w ∈ NB) {s U : State} (hW : s.WarmedH U.vm) (hw : va_Nw w s) : va_Nw w U := by
  have h2 := (List.mem_filter.mp h).2
  cases w with
  | fieldLinkNest a i b n d x => exact va_Nw.warmF hW hw
  | methodLinkNest a i x y => exact va_Nw.warmM hW hw
  | castable a b => exact va_Nw.warmC hW hw
  | declares x => exact va_Nw.warmD hW hw
  | _ => simp [isN] at h2
abbrev A9 (g : GT) : Nat → Prop := fun q => g.2.2 ≤ q
def Env9 (g : GT) (U : State) : Prop := va_K g.1 cl9 (ty9 g.2.1) U ∧ (∀ w ∈ NB, va_Nw w U) ∧ (∀ q ∈ NCP, va_Nc q.1 q.2 U)
def Sts (g : GT) (U : State) (H : Heap) : Prop := vx_Zq Bundle.tN "UNASSIGNED_STACK" Bundle.steD (A9 g) U H ∧ vx_Zq Bundle.tN "SUPPRESSED_SENTINEL" Bundle.listD (A9 g) U H
def Wst (g : GT) (f : HF) (sz : Option Nat) (H : Heap) : Prop := (∀ q e, f q = some e → A9 g q ∧ va_at g.1 cl9 (q, obE g.2.1 e) H) ∧ ∀ n, sz = some n → H.size = n
def Pre9 (l : Launch) (g : GT) (f : HF) (sz : Option Nat) (U : State) : Prop := l.stackTraces = false ∧ Env9 g U ∧ Sts g U U.heap ∧ Wst g f sz U.heap ∧ g.2.2 ≤ U.heap.size
def Qr (g : GT) (r : Rs) (f' : HF) (sz' : Option Nat) : Array Value → State → Outcome → State → Prop := fun _ st o t => (∃ v, r = .inl v ∧ o = .returned v) ∧ Wst g f' sz' t.heap ∧ va_F (A9 g) st t
def Xr (g : GT) (r : Rs) (f' : HF) : String → State → State → Prop := fun E st t => r = .inr E ∧ Wst g f' none t.heap ∧ va_F (A9 g) st t
/-- a method's contract: from the picture f it ends with ρ.1 and the picture ρ.2.1 -/
def Mt (l : Launch) (g : GT) (y : MethodName) (cc : ByteArray) (nL : Nat) (rt : Option FieldType) (d : Nat) (As : List Value) (f : HF) (sz : Option Nat) (ρ : RT) : Prop :=
  vx_Met l y (.code y cc nL rt :: TB) { frames := d, cells := ρ.2.2.2.1, slots := ρ.2.2.2.2, locals := 64 * d } (va_Pc As (Pre9 l g f sz)) (Qr g ρ.1 ρ.2.1 ρ.2.2.1) (Xr g ρ.1 ρ.2.1) ρ.2.2.2.1 ρ.2.2.2.2 (A9 g)
def MtW (l : Launch) (g : GT) (y : MethodName) (cc : ByteArray) (nL : Nat) (rt : Option FieldType) (hh : List (Nat × Nat × Nat × Nat)) (d : Nat) (As : List Value) (f : HF) (sz : Option Nat) (ρ : RT) : Prop :=
  Met l y (.codeWith y cc nL rt hh :: TB) { frames := d, cells := ρ.2.2.2.1, slots := ρ.2.2.2.2, locals := 64 * d } (va_Pc As (Pre9 l g f sz)) (Qr g ρ.1 ρ.2.1 ρ.2.2.1) ρ.2.2.2.1 ρ.2.2.2.2 (A9 g)
def Cx (l : Launch) (g : GT) (sc : State → Prop) (μ : MT) (d : Nat) (ρ : RT) (p : Program) (R : Room) (s : State) (m : MethodId) (args : Array Value) (meth : Method) (c : Code) : Prop :=
  p.tables.exec = Jvm.exec ∧ c.code = μ.2.1 ∧ c.maxLocals = μ.2.2.1 ∧ s.vm.findClass μ.1 = some m.cls ∧ (∀ w ∈ TB, w.before args s = true) ∧ meth.locks = false ∧ meth.sig.returnType = μ.2.2.2.1 ∧ c.exceptionTable.toList = tableOf μ.2.2.2.2.1 ∧ meth.name = μ.2.2.2.2.2 ∧
  Env9 g s ∧ Sts g s s.heap ∧ l.stackTraces = false ∧ sc s ∧ d ≤ R.frames ∧ 64 * d ≤ R.locals ∧ ρ.2.2.2.1 ≤ R.cells ∧ ρ.2.2.2.2 ≤ R.slots ∧ g.2.2 ≤ s.heap.size
abbrev ZQ (g : GT) (ρ : RT) (below : List Frame) (args : Array Value) (s : State) : State → Prop := vx_MQ below (Qr g ρ.1 ρ.2.1 ρ.2.2.1) (Xr g ρ.1 ρ.2.1) args s ρ.2.2.2.1 ρ.2.2.2.2 (A9 g)
/-- from here, with these locals, this stack, this picture, the method ends as ρ says -/
def V (l : Launch) (g : GT) (sc : State → Prop) (μ : MT) (d : Nat) (ρ : RT) (pc : Nat) (ls : List (Nat × Value)) (st : List Value) (f : HF) (sz : Option Nat) (cells slots : Nat) : Prop :=
  ∀ (p : Program) (e : Env) (R : Room) (s : State) (m : MethodId) (args : Array Value) (below : List Frame) (meth : Method) (c : Code) (H : Heap) (locs : List Loc) (LS : Array Slot),
    Cx l g sc μ d ρ p R s m args meth c → Wst g f sz H → va_S (A9 g) s.heap H locs → lv_has LS μ.2.2.1 ls → W p l e R s m args below meth c H locs cells slots (ZQ g ρ below args s) (F0 m pc LS st)
def lk (ls : List (Nat × Value)) (i : Nat) : Option Value := match ls with
  | [] => none
  | (j, v) :: t => if j = i then some v else lk t i
theorem lk_mem : ∀ {ls : List (Nat × Value)} {i : Nat} {v : Value}, lk ls i = some v → (i, v) ∈ ls
  | [], _, _, h => by simp [lk] at h
  | (j, w) :: t, i, v, h => by
    unfold lk at h
    by_cases e : j = i
    · rw [if_pos e] at h
      cases h
      subst e
      exact List.mem_cons_self
    · rw [if_neg e] at h
      exact List.mem_cons_of_mem _ (lk_mem h)
theorem lk_at {LS : Array Slot} {nL : Nat} {ls : List (Nat × Value)} (h : lv_has LS nL ls) {i : Nat} {v : Value} (hk : lk ls i = some v) : LS[i]? = some (.val v) := h.2.2 _ (lk_mem hk)
def stl1 (ls : List (Nat × Value)) (i : Nat) (v : Value) : List (Nat × Value) := (i, v) :: ls.filter (fun q => !(q.1 == i) && !(q.1 + 1 == i && q.2.category == 2))
def stl2 (ls : List (Nat × Value)) (i : Nat) (v : Value) : List (Nat × Value) := (i, v) :: ls.filter (fun q => !(q.1 == i) && (!(q.1 == i + 1) && !(q.1 + 1 == i && q.2.category == 2)))
def lnk (own : String) (idx : Nat) (r : vw_C) (k : Nat) : Prop := Cond.fieldLink own idx (r.2.1 k).1 (r.2.1 k).2.1 (r.2.1 k).2.2.1 ∈ TB ∨ ∃ host, Cond.fieldLinkNest own idx (r.2.1 k).1 (r.2.1 k).2.1 (r.2.1 k).2.2.1 host ∈ NB
def FL (own : String) (idx ci k : Nat) : Prop := ∃ r : vw_C, cl9[ci]? = some r ∧ k < r.2.2 ∧ lnk own idx r k
def FP (own : String) (idx ci k : Nat) (ty : FieldType) : Prop := ∃ r : vw_C, cl9[ci]? = some r ∧ k < r.2.2 ∧ lnk own idx r k ∧ (r.2.1 k).2.2.2 = false ∧ parseFieldDescriptor (r.2.1 k).2.2.1 = some ty
def FF (own : String) (idx ci k : Nat) (ty : FieldType) : Prop := ∃ r : vw_C, cl9[ci]? = some r ∧ k < r.2.2 ∧ Cond.fieldLink own idx (r.2.1 k).1 (r.2.1 k).2.1 (r.2.1 k).2.2.1 ∈ TB ∧ (r.2.1 k).2.2.2 = true ∧ (r.2.1 k).1 = own ∧ parseFieldDescriptor (r.2.1 k).2.2.1 = some ty
/-! the picture's readers and writers -/
def hup (f : HF) (a : Nat) (o : Ob) : HF := fun q => if q = a then some o else f q
def ck (f : HF) (a ci : Nat) : Option Unit := match f a with
  | some (.inr (c, _)) => if c = ci then some () else none
  | _ => none
def gV (f : HF) (a ci k : Nat) : Option Value := match f a with
  | some (.inr (c, vs)) => if c = ci then vs[k]? else none
  | _ => none
def gI (f : HF) (a ci k : Nat) : Option Int32 := match gV f a ci k with
  | some (.int x) => some x
  | _ => none
def gL (f : HF) (a ci k : Nat) : Option Int64 := match gV f a ci k with
  | some (.long x) => some x
  | _ => none
def gR (f : HF) (a ci k : Nat) : Option Nat := match gV f a ci k with
  | some (.ref x) => some x
  | _ => none
def pV (f : HF) (a ci k : Nat) (v : Value) : Option HF := match f a with
  | some (.inr (c, vs)) => if c = ci ∧ k < vs.length then some (hup f a (.inr (c, vs.set k v))) else none
  | _ => none
def isB (x : Int32) : Prop := x = 0 ∨ x = 1
def inb (i : Int32) (n : Nat) : Prop := ¬ i < 0 ∧ i.toNatClampNeg < n
def aLen (f : HF) (a t : Nat) : Option Int32 := match f a with
  | some (.inl (u, (n, _))) => if u = t then some (nI n) else none
  | _ => none
def aI (f : HF) (a t : Nat) (i : Int32) : Option Int32 := match f a with
  | some (.inl (u, (n, .inl z))) => if u = t ∧ ¬ i < 0 ∧ i.toNatClampNeg < n then some (z i.toNatClampNeg) else none
  | _ => none
def aL (f : HF) (a : Nat) (i : Int32) : Option Int64 := match f a with
  | some (.inl (u, (n, .inr (.inl z)))) => if u = 1 ∧ ¬ i < 0 ∧ i.toNatClampNeg < n then some (z i.toNatClampNeg) else none
  | _ => none
def aR (f : HF) (a t : Nat) (i : Int32) : Option Nat := match f a with
  | some (.inl (u, (n, .inr (.inr (.inr (.inr z)))))) => if u = t ∧ ¬ i < 0 ∧ i.toNatClampNeg < n then z i.toNatClampNeg else none
  | _ => none
def sI (f : HF) (a t : Nat) (i x : Int32) : Option HF := match f a with
  | some (.inl (u, (n, .inl z))) => if u = t ∧ ¬ i < 0 ∧ i.toNatClampNeg < n then some (hup f a (.inl (t, (n, .inl (upd z i.toNatClampNeg x))))) else none
  | _ => none
def sL (f : HF) (a : Nat) (i : Int32) (x : Int64) : Option HF := match f a with
  | some (.inl (u, (n, .inr (.inl z)))) => if u = 1 ∧ ¬ i < 0 ∧ i.toNatClampNeg < n then some (hup f a (.inl (1, (n, .inr (.inl (vp_updL z i.toNatClampNeg x)))))) else none
  | _ => none
theorem ob_some {α β : Type} {o : Option α} {k : α → Option β} {r : β} (h : o.bind k = some r) : ∃ x, o = some x ∧ k x = some r := by
  cases o with
  | none => cases h
  | some x => exact ⟨x, rfl, h⟩
theorem ck_some {f : HF} {a ci : Nat} {u : Unit} (h : ck f a ci = some u) : ∃ fs, f a = some (.inr (ci, fs)) := by
  unfold ck at h
  split at h
  · rename_i c vs e
    split at h
    · rename_i e2
      subst e2
      exact ⟨vs, e⟩
    · cases h
  · cases h
theorem gV_some {f : HF} {a ci k : Nat} {v : Value} (h : gV f a ci k = some v) : ∃ fs, f a = some (.inr (ci, fs)) ∧ fs[k]? = some v := by
  unfold gV at h
  split at h
  · rename_i c vs e
    split at h
    · rename_i e2
      subst e2
      exact ⟨vs, e, h⟩
    · cases h
  · cases h
theorem gI_some {f : HF} {a ci k : Nat} {x : Int32} (h : gI f a ci k = some x) : gV f a ci k = some (.int x) := by
  unfold gI at h
  split at h
  · rename_i y e
    cases h
    exact e
  · cases h
theorem gL_some {f : HF} {a ci k : Nat} {x : Int64} (h : gL f a ci k = some x) : gV f a ci k = some (.long x) := by
  unfold gL at h
  split at h
  · rename_i y e
    cases h
    exact e
  · cases h
theorem gR_some {f : HF} {a ci k : Nat} {x : Nat} (h : gR f a ci k = some x) : gV f a ci k = some (.ref x) := by
  unfold gR at h
  split at h
  · rename_i y e
    cases h
    exact e
  · cases h
theorem pV_some {f f1 : HF} {a ci k : Nat} {v : Value} (h : pV f a ci k v = some f1) : ∃ fs, f a = some (.inr (ci, fs)) ∧ k < fs.length ∧ f1 = hup f a (.inr (ci, fs.set k v)) := by
  unfold pV at h
  split at h
  · rename_i c vs e
    split at h
    · rename_i e2
      obtain ⟨e3, e4⟩ := e2
      subst e3
      cases h
      exact ⟨vs, e, e4, rfl⟩
    · cases h
  · cases h
theorem aLen_some {f : HF} {a t : Nat} {x : Int32} (h : aLen f a t = some x) : ∃ n z, f a = some (.inl (t, (n, z))) ∧ x = nI n := by
  unfold aLen at h
  split at h
  · rename_i u n z e
    split at h
    · rename_i e2
      subst e2
      cases h
      exact ⟨n, z, e, rfl⟩
    · cases h
  · cases h
theorem aI_some {f : HF} {a t : Nat} {i x : Int32} (h : aI f a t i = some x) : ∃ n z, f a = some (.inl (t, (n, .inl z))) ∧ vp_in i n ∧ x = z i.toNatClampNeg := by
  unfold aI at h
  split at h
  · rename_i u n z e
    split at h
    · rename_i e2
      obtain ⟨e3, e4, e5⟩ := e2
      subst e3
      cases h
      exact ⟨n, z, e, fun q => q.elim e4 (fun q => absurd e5 (Nat.not_lt.mpr q)), rfl⟩
    · cases h
  · cases h
theorem aL_some {f : HF} {a : Nat} {i : Int32} {x : Int64} (h : aL f a i = some x) : ∃ n z, f a = some (.inl (1, (n, .inr (.inl z)))) ∧ vp_in i n ∧ x = z i.toNatClampNeg := by
  unfold aL at h
  split at h
  · rename_i u n z e
    split at h
    · rename_i e2
      obtain ⟨e3, e4, e5⟩ := e2
      subst e3
      cases h
      exact ⟨n, z, e, fun q => q.elim e4 (fun q => absurd e5 (Nat.not_lt.mpr q)), rfl⟩
    · cases h
  · cases h
theorem aR_some {f : HF} {a t : Nat} {i : Int32} {x : Nat} (h : aR f a t i = some x) : ∃ n z, f a = some (.inl (t, (n, .inr (.inr (.inr (.inr z)))))) ∧ vp_in i n ∧ z i.toNatClampNeg = some x := by
  unfold aR at h
  split at h
  · rename_i u n z e
    split at h
    · rename_i e2
      obtain ⟨e3, e4, e5⟩ := e2
      subst e3
      exact ⟨n, z, e, fun q => q.elim e4 (fun q => absurd e5 (Nat.not_lt.mpr q)), h⟩
    · cases h
  · cases h
theorem sI_some {f f1 : HF} {a t : Nat} {i x : Int32} (h : sI f a t i x = some f1) : ∃ n z, f a = some (.inl (t, (n, .inl z))) ∧ vp_in i n ∧ f1 = hup f a (.inl (t, (n, .inl (upd z i.toNatClampNeg x)))) := by
  unfold sI at h
  split at h
  · rename_i u n z e
    split at h
    · rename_i e2
      obtain ⟨e3, e4, e5⟩ := e2
      subst e3
      cases h
      exact ⟨n, z, e, fun q => q.elim e4 (fun q => absurd e5 (Nat.not_lt.mpr q)), rfl⟩
    · cases h
  · cases h
theorem sL_some {f f1 : HF} {a : Nat} {i : Int32} {x : Int64} (h : sL f a i x = some f1) : ∃ n z, f a = some (.inl (1, (n, .inr (.inl z)))) ∧ vp_in i n ∧ f1 = hup f a (.inl (1, (n, .inr (.inl (vp_updL z i.toNatClampNeg x))))) := by
  unfold sL at h
  split at h
  · rename_i u n z e
    split at h
    · rename_i e2
      obtain ⟨e3, e4, e5⟩ := e2
      subst e3
      cases h
      exact ⟨n, z, e, fun q => q.elim e4 (fun q => absurd e5 (Nat.not_lt.mpr q)), rfl⟩
    · cases h
  · cases h
/-! the classes of the worlds: facts of all of them -/
theorem cl_in {ci : Nat} {r : vw_C} (h : cl9[ci]? = some r) : ∀ w ∈ u_ws r.1 r.2.1 r.2.2, w ∈ TB := by
  match ci, h with
  | 0, h => cases h; decide +kernel
  | 1, h => cases h; decide +kernel
  | 2, h => cases h; decide +kernel
  | 3, h => cases h; decide +kernel
  | 4, h => cases h; decide +kernel
  | 5, h => cases h; decide +kernel
  | 6, h => cases h; decide +kernel
  | 7, h => cases h; decide +kernel
  | 8, h => cases h; decide +kernel
  | 9, h => cases h; decide +kernel
  | n + 10, h => simp [cl9] at h
theorem cl_ty {ci : Nat} {r : vw_C} (h : cl9[ci]? = some r) : ∃ ty0 : Nat → FieldType, (∀ k, k < r.2.2 → parseFieldDescriptor (r.2.1 k).2.2.1 = some (ty0 k)) ∧ ∀ a, a < r.2.2 → ∀ b, b < r.2.2 → a ≠ b → (r.2.1 a).2.1 ≠ (r.2.1 b).2.1 := by
  match ci, h with
  | 0, h => cases h; exact ⟨_, tyX1_ok, nmX1⟩
  | 1, h => cases h; exact ⟨_, tyX2_ok, nmX2⟩
  | 2, h => cases h; exact ⟨_, tyX3_ok, nmX3⟩
  | 3, h => cases h; exact ⟨_, tyX4_ok, nmX4⟩
  | 4, h => cases h; exact ⟨_, tyX5_ok, nmX5⟩
  | 5, h => cases h; exact ⟨_, tyX6_ok, nmX6⟩
  | 6, h => cases h; exact ⟨_, tyX7_ok, nmX7⟩
  | 7, h => cases h; exact ⟨_, tyX8_ok, nmX8⟩
  | 8, h => cases h; exact ⟨_, tyX9_ok, nmX9⟩
  | 9, h => cases h; exact ⟨_, tyX10_ok, nmX10⟩
  | n + 10, h => simp [cl9] at h
theorem va_P1 {D : va_G} {a : Nat} {e : va_E} {H : Heap} (h : va_at D cl9 (a, e) H) : va_P D cl9 [(a, e)] H := fun k q hk => by
  have h0 : k < 1 := (List.getElem?_eq_some_iff.mp hk).1
  rw [show k = 0 by omega] at hk
  cases hk
  exact h
/-- a store at a: the rest of the picture stays -/
theorem Wst.up {g : GT} {f : HF} {sz : Option Nat} {H H1 : Heap} {a : Nat} {o : Ob} (h : Wst g f sz H) (ha : A9 g a) (hz : H1.size = H.size) (hq : ∀ q : Nat, q ≠ a → H1[q]? = H[q]?) (ho : va_at g.1 cl9 (a, obE g.2.1 o) H1) : Wst g (hup f a o) sz H1 := by
  refine ⟨fun q e he => ?_, fun n hn => hz.trans (h.2 n hn)⟩
  unfold hup at he
  by_cases e1 : q = a
  · rw [if_pos e1] at he
    cases he
    subst e1
    exact ⟨ha, ho⟩
  · rw [if_neg e1] at he
    obtain ⟨h1, h2⟩ := h.1 q e he
    exact ⟨h1, h2.kept (hq q e1)⟩
end
section
/-! THE ROWS OF V: an instruction each -/
section RV
variable {l : Launch} {g : GT} {sc : State → Prop} {μ : MT} {d : Nat} {ρ : RT} {pc : Nat} {ls ls1 : List (Nat × Value)} {st rest : List Value} {f f1 : HF} {sz : Option Nat} {cells slots : Nat}
theorem v_iconst {n : Int} {v : Int32} (hd : decode μ.2.1 pc = .ok (.iconst n, 1)) (hv : Int32.ofInt n = v) (k : V l g sc μ d ρ (pc + 1) ls (.int v :: st) f sz cells slots) : V l g sc μ d ρ pc ls st f sz cells slots := by
  intro p e R s m args below meth c H locs LS C hw hS hl
  exact lv_iconst C.1 C.2.1 hd hv (k p e R s m args below meth c H locs LS C hw hS hl)
theorem v_bipush {n : Int} {v : Int32} (hd : decode μ.2.1 pc = .ok (.bipush n, 2)) (hv : (Int8.ofInt n).toInt32 = v) (k : V l g sc μ d ρ (pc + 2) ls (.int v :: st) f sz cells slots) : V l g sc μ d ρ pc ls st f sz cells slots := by
  intro p e R s m args below meth c H locs LS C hw hS hl
  exact lv_bipush C.1 C.2.1 hd hv (k p e R s m args below meth c H locs LS C hw hS hl)
theorem v_sipush {n : Int} {v : Int32} (hd : decode μ.2.1 pc = .ok (.sipush n, 3)) (hv : (Int16.ofInt n).toInt32 = v) (k : V l g sc μ d ρ (pc + 3) ls (.int v :: st) f sz cells slots) : V l g sc μ d ρ pc ls st f sz cells slots := by
  intro p e R s m args below meth c H locs LS C hw hS hl
  exact lv_sipush C.1 C.2.1 hd hv (k p e R s m args below meth c H locs LS C hw hS hl)
theorem v_lconst {n : Fin 2} {v : Int64} (hd : decode μ.2.1 pc = .ok (.lconst n, 1)) (hv : Int64.ofNat (n : Nat) = v) (k : V l g sc μ d ρ (pc + 1) ls (.long v :: st) f sz cells slots) : V l g sc μ d ρ pc ls st f sz cells slots := by
  intro p e R s m args below meth c H locs LS C hw hS hl
  exact lv_lconst C.1 C.2.1 hd hv (k p e R s m args below meth c H locs LS C hw hS hl)
theorem v_iload_n {k : Fin 4} {i : Nat} {x : Int32} (hd : decode μ.2.1 pc = .ok (.iload_n k, 1)) (hi : (k : Nat) = i) (h : lk ls i = some (.int x)) (k : V l g sc μ d ρ (pc + 1) ls (.int x :: st) f sz cells slots) : V l g sc μ d ρ pc ls st f sz cells slots := by
  intro p e R s m args below meth c H locs LS C hw hS hl
  exact lv_iload_n C.1 C.2.1 hd hi (lk_at hl h) (k p e R s m args below meth c H locs LS C hw hS hl)
theorem v_iload {i : Nat} {x : Int32} (hd : decode μ.2.1 pc = .ok (.iload i, 2)) (h : lk ls i = some (.int x)) (k : V l g sc μ d ρ (pc + 2) ls (.int x :: st) f sz cells slots) : V l g sc μ d ρ pc ls st f sz cells slots := by
  intro p e R s m args below meth c H locs LS C hw hS hl
  exact lv_iload C.1 C.2.1 hd (lk_at hl h) (k p e R s m args below meth c H locs LS C hw hS hl)
theorem v_istore_n {k : Fin 4} {i : Nat} {x : Int32} (hd : decode μ.2.1 pc = .ok (.istore_n k, 1)) (hi : (k : Nat) = i) (hn : i < μ.2.2.1) (h : stl1 ls i (.int x) = ls1) (k : V l g sc μ d ρ (pc + 1) ls1 st f sz cells slots) : V l g sc μ d ρ pc ls (.int x :: st) f sz cells slots := by
  intro p e R s m args below meth c H locs LS C hw hS hl
  exact lv_istore_n C.1 C.2.1 hd hi hl hn h (fun LS1 hl1 => k p e R s m args below meth c H locs LS1 C hw hS hl1)
theorem v_istore {i : Nat} {x : Int32} (hd : decode μ.2.1 pc = .ok (.istore i, 2)) (hn : i < μ.2.2.1) (h : stl1 ls i (.int x) = ls1) (k : V l g sc μ d ρ (pc + 2) ls1 st f sz cells slots) : V l g sc μ d ρ pc ls (.int x :: st) f sz cells slots := by
  intro p e R s m args below meth c H locs LS C hw hS hl
  exact lv_istore C.1 C.2.1 hd hl hn h (fun LS1 hl1 => k p e R s m args below meth c H locs LS1 C hw hS hl1)
theorem v_lload_n {k : Fin 4} {i : Nat} {x : Int64} (hd : decode μ.2.1 pc = .ok (.lload_n k, 1)) (hi : (k : Nat) = i) (h : lk ls i = some (.long x)) (k : V l g sc μ d ρ (pc + 1) ls (.long x :: st) f sz cells slots) : V l g sc μ d ρ pc ls st f sz cells slots := by
  intro p e R s m args below meth c H locs LS C hw hS hl
  exact lv_lload_n C.1 C.2.1 hd hi (lk_at hl h) (k p e R s m args below meth c H locs LS C hw hS hl)
theorem v_lload {i : Nat} {x : Int64} (hd : decode μ.2.1 pc = .ok (.lload i, 2)) (h : lk ls i = some (.long x)) (k : V l g sc μ d ρ (pc + 2) ls (.long x :: st) f sz cells slots) : V l g sc μ d ρ pc ls st f sz cells slots := by
  intro p e R s m args below meth c H locs LS C hw hS hl
  exact lv_lload C.1 C.2.1 hd (lk_at hl h) (k p e R s m args below meth c H locs LS C hw hS hl)
theorem v_lstore_n {k : Fin 4} {i : Nat} {x : Int64} (hd : decode μ.2.1 pc = .ok (.lstore_n k, 1)) (hi : (k : Nat) = i) (hn : i + 1 < μ.2.2.1) (h : stl2 ls i (.long x) = ls1) (k : V l g sc μ d ρ (pc + 1) ls1 st f sz cells slots) : V l g sc μ d ρ pc ls (.long x :: st) f sz cells slots := by
  intro p e R s m args below meth c H locs LS C hw hS hl
  exact lv_lstore_n C.1 C.2.1 hd hi hl hn h (fun LS1 hl1 => k p e R s m args below meth c H locs LS1 C hw hS hl1)
theorem v_lstore {i : Nat} {x : Int64} (hd : decode μ.2.1 pc = .ok (.lstore i, 2)) (hn : i + 1 < μ.2.2.1) (h : stl2 ls i (.long x) = ls1) (k : V l g sc μ d ρ (pc + 2) ls1 st f sz cells slots) : V l g sc μ d ρ pc ls (.long x :: st) f sz cells slots := by
  intro p e R s m args below meth c H locs LS C hw hS hl
  exact lv_lstore C.1 C.2.1 hd hl hn h (fun LS1 hl1 => k p e R s m args below meth c H locs LS1 C hw hS hl1)
theorem v_aload_n {k : Fin 4} {i : Nat} {x : Nat} (hd : decode μ.2.1 pc = .ok (.aload_n k, 1)) (hi : (k : Nat) = i) (h : lk ls i = some (.ref x)) (k : V l g sc μ d ρ (pc + 1) ls (.ref x :: st) f sz cells slots) : V l g sc μ d ρ pc ls st f sz cells slots := by
  intro p e R s m args below meth c H locs LS C hw hS hl
  exact lv_aload_n C.1 C.2.1 hd hi (lk_at hl h) (k p e R s m args below meth c H locs LS C hw hS hl)
theorem v_aload {i : Nat} {x : Nat} (hd : decode μ.2.1 pc = .ok (.aload i, 2)) (h : lk ls i = some (.ref x)) (k : V l g sc μ d ρ (pc + 2) ls (.ref x :: st) f sz cells slots) : V l g sc μ d ρ pc ls st f sz cells slots := by
  intro p e R s m args below meth c H locs LS C hw hS hl
  exact lv_aload C.1 C.2.1 hd (lk_at hl h) (k p e R s m args below meth c H locs LS C hw hS hl)
theorem v_astore_n {k : Fin 4} {i : Nat} {x : Nat} (hd : decode μ.2.1 pc = .ok (.astore_n k, 1)) (hi : (k : Nat) = i) (hn : i < μ.2.2.1) (h : stl1 ls i (.ref x) = ls1) (k : V l g sc μ d ρ (pc + 1) ls1 st f sz cells slots) : V l g sc μ d ρ pc ls (.ref x :: st) f sz cells slots := by
  intro p e R s m args below meth c H locs LS C hw hS hl
  exact lv_astore_n C.1 C.2.1 hd hi hl hn h (fun LS1 hl1 => k p e R s m args below meth c H locs LS1 C hw hS hl1)
theorem v_astore {i : Nat} {x : Nat} (hd : decode μ.2.1 pc = .ok (.astore i, 2)) (hn : i < μ.2.2.1) (h : stl1 ls i (.ref x) = ls1) (k : V l g sc μ d ρ (pc + 2) ls1 st f sz cells slots) : V l g sc μ d ρ pc ls (.ref x :: st) f sz cells slots := by
  intro p e R s m args below meth c H locs LS C hw hS hl
  exact lv_astore C.1 C.2.1 hd hl hn h (fun LS1 hl1 => k p e R s m args below meth c H locs LS1 C hw hS hl1)
theorem lk_ix : ∀ {ls : List (Nat × Value)} {i : Nat} {v : Value}, lk ls i = some v → ∃ k : Nat, ls[k]? = some (i, v) := fun h => List.getElem?_of_mem (lk_mem h)
theorem v_iinc {i : Nat} {n : Int} {x v : Int32} (hd : decode μ.2.1 pc = .ok (.iinc i n, 3)) (h : lk ls i = some (.int x)) (hv : x + Int32.ofInt n = v) (hn : i < μ.2.2.1) (h1 : stl1 ls i (.int v) = ls1) (k : V l g sc μ d ρ (pc + 3) ls1 st f sz cells slots) : V l g sc μ d ρ pc ls st f sz cells slots := by
  intro p e R s m args below meth c H locs LS C hw hS hl
  obtain ⟨j, hj⟩ := lk_ix h
  exact lv_iinc C.1 C.2.1 hd hl hj hv hn h1 (fun LS1 hl1 => k p e R s m args below meth c H locs LS1 C hw hS hl1)
theorem v_iadd {x y : Int32} (hd : decode μ.2.1 pc = .ok (.iadd, 1)) (k : V l g sc μ d ρ (pc + 1) ls (.int (x + y) :: st) f sz cells slots) : V l g sc μ d ρ pc ls (.int y :: .int x :: st) f sz cells slots := by
  intro p e R s m args below meth c H locs LS C hw hS hl
  exact lv_iadd C.1 C.2.1 hd (k p e R s m args below meth c H locs LS C hw hS hl)
theorem v_isub {x y : Int32} (hd : decode μ.2.1 pc = .ok (.isub, 1)) (k : V l g sc μ d ρ (pc + 1) ls (.int (x - y) :: st) f sz cells slots) : V l g sc μ d ρ pc ls (.int y :: .int x :: st) f sz cells slots := by
  intro p e R s m args below meth c H locs LS C hw hS hl
  exact lv_isub C.1 C.2.1 hd (k p e R s m args below meth c H locs LS C hw hS hl)
theorem v_imul {x y : Int32} (hd : decode μ.2.1 pc = .ok (.imul, 1)) (k : V l g sc μ d ρ (pc + 1) ls (.int (x * y) :: st) f sz cells slots) : V l g sc μ d ρ pc ls (.int y :: .int x :: st) f sz cells slots := by
  intro p e R s m args below meth c H locs LS C hw hS hl
  exact lv_imul C.1 C.2.1 hd (k p e R s m args below meth c H locs LS C hw hS hl)
theorem v_iand {x y : Int32} (hd : decode μ.2.1 pc = .ok (.iand, 1)) (k : V l g sc μ d ρ (pc + 1) ls (.int (x &&& y) :: st) f sz cells slots) : V l g sc μ d ρ pc ls (.int y :: .int x :: st) f sz cells slots := by
  intro p e R s m args below meth c H locs LS C hw hS hl
  exact lv_iand C.1 C.2.1 hd (k p e R s m args below meth c H locs LS C hw hS hl)
theorem v_ior {x y : Int32} (hd : decode μ.2.1 pc = .ok (.ior, 1)) (k : V l g sc μ d ρ (pc + 1) ls (.int (x ||| y) :: st) f sz cells slots) : V l g sc μ d ρ pc ls (.int y :: .int x :: st) f sz cells slots := by
  intro p e R s m args below meth c H locs LS C hw hS hl
  exact lv_ior C.1 C.2.1 hd (k p e R s m args below meth c H locs LS C hw hS hl)
theorem v_ixor {x y : Int32} (hd : decode μ.2.1 pc = .ok (.ixor, 1)) (k : V l g sc μ d ρ (pc + 1) ls (.int (x ^^^ y) :: st) f sz cells slots) : V l g sc μ d ρ pc ls (.int y :: .int x :: st) f sz cells slots := by
  intro p e R s m args below meth c H locs LS C hw hS hl
  exact lv_ixor C.1 C.2.1 hd (k p e R s m args below meth c H locs LS C hw hS hl)
theorem v_idiv {x y : Int32} (hd : decode μ.2.1 pc = .ok (.idiv, 1)) (hz : ¬ y = 0) (k : V l g sc μ d ρ (pc + 1) ls (.int (x / y) :: st) f sz cells slots) : V l g sc μ d ρ pc ls (.int y :: .int x :: st) f sz cells slots := by
  intro p e R s m args below meth c H locs LS C hw hS hl
  exact lv_idiv C.1 C.2.1 hd hz (k p e R s m args below meth c H locs LS C hw hS hl)
theorem v_irem {x y : Int32} (hd : decode μ.2.1 pc = .ok (.irem, 1)) (hz : ¬ y = 0) (k : V l g sc μ d ρ (pc + 1) ls (.int (x - x / y * y) :: st) f sz cells slots) : V l g sc μ d ρ pc ls (.int y :: .int x :: st) f sz cells slots := by
  intro p e R s m args below meth c H locs LS C hw hS hl
  exact lv_irem C.1 C.2.1 hd hz (k p e R s m args below meth c H locs LS C hw hS hl)
theorem v_ineg {x : Int32} (hd : decode μ.2.1 pc = .ok (.ineg, 1)) (k : V l g sc μ d ρ (pc + 1) ls (.int (-x) :: st) f sz cells slots) : V l g sc μ d ρ pc ls (.int x :: st) f sz cells slots := by
  intro p e R s m args below meth c H locs LS C hw hS hl
  exact lv_ineg C.1 C.2.1 hd (k p e R s m args below meth c H locs LS C hw hS hl)
theorem v_ladd {x y : Int64} (hd : decode μ.2.1 pc = .ok (.ladd, 1)) (k : V l g sc μ d ρ (pc + 1) ls (.long (x + y) :: st) f sz cells slots) : V l g sc μ d ρ pc ls (.long y :: .long x :: st) f sz cells slots := by
  intro p e R s m args below meth c H locs LS C hw hS hl
  exact lv_ladd C.1 C.2.1 hd (k p e R s m args below meth c H locs LS C hw hS hl)
theorem v_lsub {x y : Int64} (hd : decode μ.2.1 pc = .ok (.lsub, 1)) (k : V l g sc μ d ρ (pc + 1) ls (.long (x - y) :: st) f sz cells slots) : V l g sc μ d ρ pc ls (.long y :: .long x :: st) f sz cells slots := by
  intro p e R s m args below meth c H locs LS C hw hS hl
  exact lv_lsub C.1 C.2.1 hd (k p e R s m args below meth c H locs LS C hw hS hl)
theorem v_lmul {x y : Int64} (hd : decode μ.2.1 pc = .ok (.lmul, 1)) (k : V l g sc μ d ρ (pc + 1) ls (.long (x * y) :: st) f sz cells slots) : V l g sc μ d ρ pc ls (.long y :: .long x :: st) f sz cells slots := by
  intro p e R s m args below meth c H locs LS C hw hS hl
  exact lv_lmul C.1 C.2.1 hd (k p e R s m args below meth c H locs LS C hw hS hl)
theorem v_land {x y : Int64} (hd : decode μ.2.1 pc = .ok (.land, 1)) (k : V l g sc μ d ρ (pc + 1) ls (.long (x &&& y) :: st) f sz cells slots) : V l g sc μ d ρ pc ls (.long y :: .long x :: st) f sz cells slots := by
  intro p e R s m args below meth c H locs LS C hw hS hl
  exact lv_land C.1 C.2.1 hd (k p e R s m args below meth c H locs LS C hw hS hl)
theorem v_lor {x y : Int64} (hd : decode μ.2.1 pc = .ok (.lor, 1)) (k : V l g sc μ d ρ (pc + 1) ls (.long (x ||| y) :: st) f sz cells slots) : V l g sc μ d ρ pc ls (.long y :: .long x :: st) f sz cells slots := by
  intro p e R s m args below meth c H locs LS C hw hS hl
  exact lv_lor C.1 C.2.1 hd (k p e R s m args below meth c H locs LS C hw hS hl)
theorem v_lxor {x y : Int64} (hd : decode μ.2.1 pc = .ok (.lxor, 1)) (k : V l g sc μ d ρ (pc + 1) ls (.long (x ^^^ y) :: st) f sz cells slots) : V l g sc μ d ρ pc ls (.long y :: .long x :: st) f sz cells slots := by
  intro p e R s m args below meth c H locs LS C hw hS hl
  exact lv_lxor C.1 C.2.1 hd (k p e R s m args below meth c H locs LS C hw hS hl)
theorem v_ldiv {x y : Int64} (hd : decode μ.2.1 pc = .ok (.ldiv, 1)) (hz : ¬ y = 0) (k : V l g sc μ d ρ (pc + 1) ls (.long (x / y) :: st) f sz cells slots) : V l g sc μ d ρ pc ls (.long y :: .long x :: st) f sz cells slots := by
  intro p e R s m args below meth c H locs LS C hw hS hl
  exact lv_ldiv C.1 C.2.1 hd hz (k p e R s m args below meth c H locs LS C hw hS hl)
theorem v_lrem {x y : Int64} (hd : decode μ.2.1 pc = .ok (.lrem, 1)) (hz : ¬ y = 0) (k : V l g sc μ d ρ (pc + 1) ls (.long (x - x / y * y) :: st) f sz cells slots) : V l g sc μ d ρ pc ls (.long y :: .long x :: st) f sz cells slots := by
  intro p e R s m args below meth c H locs LS C hw hS hl
  exact lv_lrem C.1 C.2.1 hd hz (k p e R s m args below meth c H locs LS C hw hS hl)
theorem v_lneg {x : Int64} (hd : decode μ.2.1 pc = .ok (.lneg, 1)) (k : V l g sc μ d ρ (pc + 1) ls (.long (-x) :: st) f sz cells slots) : V l g sc μ d ρ pc ls (.long x :: st) f sz cells slots := by
  intro p e R s m args below meth c H locs LS C hw hS hl
  exact lv_lneg C.1 C.2.1 hd (k p e R s m args below meth c H locs LS C hw hS hl)
theorem v_lshl {x : Int64} {y : Int32} (hd : decode μ.2.1 pc = .ok (.lshl, 1)) (k : V l g sc μ d ρ (pc + 1) ls (.long (x <<< (y.toInt64 &&& 63)) :: st) f sz cells slots) : V l g sc μ d ρ pc ls (.int y :: .long x :: st) f sz cells slots := by
  intro p e R s m args below meth c H locs LS C hw hS hl
  exact lv_lshl C.1 C.2.1 hd rfl (k p e R s m args below meth c H locs LS C hw hS hl)
theorem v_i2l {x : Int32} (hd : decode μ.2.1 pc = .ok (.i2l, 1)) (k : V l g sc μ d ρ (pc + 1) ls (.long x.toInt64 :: st) f sz cells slots) : V l g sc μ d ρ pc ls (.int x :: st) f sz cells slots := by
  intro p e R s m args below meth c H locs LS C hw hS hl
  exact lv_i2l C.1 C.2.1 hd rfl (k p e R s m args below meth c H locs LS C hw hS hl)
theorem v_l2i {x : Int64} (hd : decode μ.2.1 pc = .ok (.l2i, 1)) (k : V l g sc μ d ρ (pc + 1) ls (.int x.toInt32 :: st) f sz cells slots) : V l g sc μ d ρ pc ls (.long x :: st) f sz cells slots := by
  intro p e R s m args below meth c H locs LS C hw hS hl
  exact lv_l2i C.1 C.2.1 hd rfl (k p e R s m args below meth c H locs LS C hw hS hl)
theorem v_dup {va : Value} (hd : decode μ.2.1 pc = .ok (.dup, 1)) (h1 : va.category = 1) (k : V l g sc μ d ρ (pc + 1) ls (va :: va :: st) f sz cells slots) : V l g sc μ d ρ pc ls (va :: st) f sz cells slots := by
  intro p e R s m args below meth c H locs LS C hw hS hl
  exact lv_dup C.1 C.2.1 hd h1 (k p e R s m args below meth c H locs LS C hw hS hl)
theorem v_pop {va : Value} (hd : decode μ.2.1 pc = .ok (.pop, 1)) (h1 : va.category = 1) (k : V l g sc μ d ρ (pc + 1) ls st f sz cells slots) : V l g sc μ d ρ pc ls (va :: st) f sz cells slots := by
  intro p e R s m args below meth c H locs LS C hw hS hl
  exact lv_pop C.1 C.2.1 hd h1 (k p e R s m args below meth c H locs LS C hw hS hl)
theorem v_dup2_11 {va vb : Value} (hd : decode μ.2.1 pc = .ok (.dup2, 1)) (h1 : va.category = 1) (h2 : vb.category = 1) (k : V l g sc μ d ρ (pc + 1) ls (va :: vb :: va :: vb :: st) f sz cells slots) : V l g sc μ d ρ pc ls (va :: vb :: st) f sz cells slots := by
  intro p e R s m args below meth c H locs LS C hw hS hl
  exact lv_dup2_11 C.1 C.2.1 hd h1 h2 (k p e R s m args below meth c H locs LS C hw hS hl)
theorem v_goto {off : Int} {tgt : Nat} (hd : decode μ.2.1 pc = .ok (.goto off, 3)) (ht : (pc : Int) + off = (tgt : Int)) (k : V l g sc μ d ρ tgt ls st f sz cells slots) : V l g sc μ d ρ pc ls st f sz cells slots := by
  intro p e R s m args below meth c H locs LS C hw hS hl
  exact lv_goto C.1 C.2.1 hd ht (k p e R s m args below meth c H locs LS C hw hS hl)
theorem v_if_eq {x : Int32} {off : Int} {tgt : Nat} (hd : decode μ.2.1 pc = .ok (.ifCond .eq off, 3)) (ht : (pc : Int) + off = (tgt : Int)) (kt : x = 0 → V l g sc μ d ρ tgt ls st f sz cells slots) (kf : ¬ x = 0 → V l g sc μ d ρ (pc + 3) ls st f sz cells slots) : V l g sc μ d ρ pc ls (.int x :: st) f sz cells slots := by
  intro p e R s m args below meth c H locs LS C hw hS hl
  exact lv_if_eq C.1 C.2.1 hd ht (fun c1 => kt c1 p e R s m args below meth c H locs LS C hw hS hl) (fun c1 => kf c1 p e R s m args below meth c H locs LS C hw hS hl)
theorem v_icmp_eq {x y : Int32} {off : Int} {tgt : Nat} (hd : decode μ.2.1 pc = .ok (.if_icmp .eq off, 3)) (ht : (pc : Int) + off = (tgt : Int)) (kt : x = y → V l g sc μ d ρ tgt ls st f sz cells slots) (kf : ¬ x = y → V l g sc μ d ρ (pc + 3) ls st f sz cells slots) : V l g sc μ d ρ pc ls (.int y :: .int x :: st) f sz cells slots := by
  intro p e R s m args below meth c H locs LS C hw hS hl
  exact lv_icmp_eq C.1 C.2.1 hd ht (fun c1 => kt c1 p e R s m args below meth c H locs LS C hw hS hl) (fun c1 => kf c1 p e R s m args below meth c H locs LS C hw hS hl)
theorem v_lcmp_eq {x y : Int64} {off : Int} {tgt : Nat} (hd : decode μ.2.1 pc = .ok (.lcmp, 1)) (hd2 : decode μ.2.1 (pc + 1) = .ok (.ifCond .eq off, 3)) (ht : ((pc + 1 : Nat) : Int) + off = (tgt : Int)) (kt : x = y → V l g sc μ d ρ tgt ls st f sz cells slots) (kf : ¬ x = y → V l g sc μ d ρ (pc + 1 + 3) ls st f sz cells slots) : V l g sc μ d ρ pc ls (.long y :: .long x :: st) f sz cells slots := by
  intro p e R s m args below meth c H locs LS C hw hS hl
  exact W.lcmp C.1 C.2.1 hd (lv_if_eq C.1 C.2.1 hd2 ht (fun c1 => kt ((lg_cmp_eq x y).mp c1) p e R s m args below meth c H locs LS C hw hS hl) (fun c1 => kf (fun c2 => c1 ((lg_cmp_eq x y).mpr c2)) p e R s m args below meth c H locs LS C hw hS hl))
theorem v_if_ne {x : Int32} {off : Int} {tgt : Nat} (hd : decode μ.2.1 pc = .ok (.ifCond .ne off, 3)) (ht : (pc : Int) + off = (tgt : Int)) (kt : ¬ x = 0 → V l g sc μ d ρ tgt ls st f sz cells slots) (kf : x = 0 → V l g sc μ d ρ (pc + 3) ls st f sz cells slots) : V l g sc μ d ρ pc ls (.int x :: st) f sz cells slots := by
  intro p e R s m args below meth c H locs LS C hw hS hl
  exact lv_if_ne C.1 C.2.1 hd ht (fun c1 => kt c1 p e R s m args below meth c H locs LS C hw hS hl) (fun c1 => kf c1 p e R s m args below meth c H locs LS C hw hS hl)
theorem v_icmp_ne {x y : Int32} {off : Int} {tgt : Nat} (hd : decode μ.2.1 pc = .ok (.if_icmp .ne off, 3)) (ht : (pc : Int) + off = (tgt : Int)) (kt : ¬ x = y → V l g sc μ d ρ tgt ls st f sz cells slots) (kf : x = y → V l g sc μ d ρ (pc + 3) ls st f sz cells slots) : V l g sc μ d ρ pc ls (.int y :: .int x :: st) f sz cells slots := by
  intro p e R s m args below meth c H locs LS C hw hS hl
  exact lv_icmp_ne C.1 C.2.1 hd ht (fun c1 => kt c1 p e R s m args below meth c H locs LS C hw hS hl) (fun c1 => kf c1 p e R s m args below meth c H locs LS C hw hS hl)
theorem v_lcmp_ne {x y : Int64} {off : Int} {tgt : Nat} (hd : decode μ.2.1 pc = .ok (.lcmp, 1)) (hd2 : decode μ.2.1 (pc + 1) = .ok (.ifCond .ne off, 3)) (ht : ((pc + 1 : Nat) : Int) + off = (tgt : Int)) (kt : ¬ x = y → V l g sc μ d ρ tgt ls st f sz cells slots) (kf : x = y → V l g sc μ d ρ (pc + 1 + 3) ls st f sz cells slots) : V l g sc μ d ρ pc ls (.long y :: .long x :: st) f sz cells slots := by
  intro p e R s m args below meth c H locs LS C hw hS hl
  exact W.lcmp C.1 C.2.1 hd (lv_if_ne C.1 C.2.1 hd2 ht (fun c1 => kt (fun c2 => c1 ((lg_cmp_eq x y).mpr c2)) p e R s m args below meth c H locs LS C hw hS hl) (fun c1 => kf ((lg_cmp_eq x y).mp c1) p e R s m args below meth c H locs LS C hw hS hl))
theorem v_if_lt {x : Int32} {off : Int} {tgt : Nat} (hd : decode μ.2.1 pc = .ok (.ifCond .lt off, 3)) (ht : (pc : Int) + off = (tgt : Int)) (kt : x < 0 → V l g sc μ d ρ tgt ls st f sz cells slots) (kf : ¬ x < 0 → V l g sc μ d ρ (pc + 3) ls st f sz cells slots) : V l g sc μ d ρ pc ls (.int x :: st) f sz cells slots := by
  intro p e R s m args below meth c H locs LS C hw hS hl
  exact lv_if_lt C.1 C.2.1 hd ht (fun c1 => kt c1 p e R s m args below meth c H locs LS C hw hS hl) (fun c1 => kf c1 p e R s m args below meth c H locs LS C hw hS hl)
theorem v_icmp_lt {x y : Int32} {off : Int} {tgt : Nat} (hd : decode μ.2.1 pc = .ok (.if_icmp .lt off, 3)) (ht : (pc : Int) + off = (tgt : Int)) (kt : x < y → V l g sc μ d ρ tgt ls st f sz cells slots) (kf : ¬ x < y → V l g sc μ d ρ (pc + 3) ls st f sz cells slots) : V l g sc μ d ρ pc ls (.int y :: .int x :: st) f sz cells slots := by
  intro p e R s m args below meth c H locs LS C hw hS hl
  exact lv_icmp_lt C.1 C.2.1 hd ht (fun c1 => kt c1 p e R s m args below meth c H locs LS C hw hS hl) (fun c1 => kf c1 p e R s m args below meth c H locs LS C hw hS hl)
theorem v_lcmp_lt {x y : Int64} {off : Int} {tgt : Nat} (hd : decode μ.2.1 pc = .ok (.lcmp, 1)) (hd2 : decode μ.2.1 (pc + 1) = .ok (.ifCond .lt off, 3)) (ht : ((pc + 1 : Nat) : Int) + off = (tgt : Int)) (kt : x < y → V l g sc μ d ρ tgt ls st f sz cells slots) (kf : ¬ x < y → V l g sc μ d ρ (pc + 1 + 3) ls st f sz cells slots) : V l g sc μ d ρ pc ls (.long y :: .long x :: st) f sz cells slots := by
  intro p e R s m args below meth c H locs LS C hw hS hl
  exact W.lcmp C.1 C.2.1 hd (lv_if_lt C.1 C.2.1 hd2 ht (fun c1 => kt ((lg_cmp_lt x y).mp c1) p e R s m args below meth c H locs LS C hw hS hl) (fun c1 => kf (fun c2 => c1 ((lg_cmp_lt x y).mpr c2)) p e R s m args below meth c H locs LS C hw hS hl))
theorem v_if_ge {x : Int32} {off : Int} {tgt : Nat} (hd : decode μ.2.1 pc = .ok (.ifCond .ge off, 3)) (ht : (pc : Int) + off = (tgt : Int)) (kt : 0 ≤ x → V l g sc μ d ρ tgt ls st f sz cells slots) (kf : ¬ 0 ≤ x → V l g sc μ d ρ (pc + 3) ls st f sz cells slots) : V l g sc μ d ρ pc ls (.int x :: st) f sz cells slots := by
  intro p e R s m args below meth c H locs LS C hw hS hl
  exact lv_if_ge C.1 C.2.1 hd ht (fun c1 => kt c1 p e R s m args below meth c H locs LS C hw hS hl) (fun c1 => kf c1 p e R s m args below meth c H locs LS C hw hS hl)
theorem v_icmp_ge {x y : Int32} {off : Int} {tgt : Nat} (hd : decode μ.2.1 pc = .ok (.if_icmp .ge off, 3)) (ht : (pc : Int) + off = (tgt : Int)) (kt : y ≤ x → V l g sc μ d ρ tgt ls st f sz cells slots) (kf : ¬ y ≤ x → V l g sc μ d ρ (pc + 3) ls st f sz cells slots) : V l g sc μ d ρ pc ls (.int y :: .int x :: st) f sz cells slots := by
  intro p e R s m args below meth c H locs LS C hw hS hl
  exact lv_icmp_ge C.1 C.2.1 hd ht (fun c1 => kt c1 p e R s m args below meth c H locs LS C hw hS hl) (fun c1 => kf c1 p e R s m args below meth c H locs LS C hw hS hl)
theorem v_lcmp_ge {x y : Int64} {off : Int} {tgt : Nat} (hd : decode μ.2.1 pc = .ok (.lcmp, 1)) (hd2 : decode μ.2.1 (pc + 1) = .ok (.ifCond .ge off, 3)) (ht : ((pc + 1 : Nat) : Int) + off = (tgt : Int)) (kt : y ≤ x → V l g sc μ d ρ tgt ls st f sz cells slots) (kf : ¬ y ≤ x → V l g sc μ d ρ (pc + 1 + 3) ls st f sz cells slots) : V l g sc μ d ρ pc ls (.long y :: .long x :: st) f sz cells slots := by
  intro p e R s m args below meth c H locs LS C hw hS hl
  exact W.lcmp C.1 C.2.1 hd (lv_if_ge C.1 C.2.1 hd2 ht (fun c1 => kt ((lg_cmp_ge x y).mp c1) p e R s m args below meth c H locs LS C hw hS hl) (fun c1 => kf (fun c2 => c1 ((lg_cmp_ge x y).mpr c2)) p e R s m args below meth c H locs LS C hw hS hl))
theorem v_if_gt {x : Int32} {off : Int} {tgt : Nat} (hd : decode μ.2.1 pc = .ok (.ifCond .gt off, 3)) (ht : (pc : Int) + off = (tgt : Int)) (kt : 0 < x → V l g sc μ d ρ tgt ls st f sz cells slots) (kf : ¬ 0 < x → V l g sc μ d ρ (pc + 3) ls st f sz cells slots) : V l g sc μ d ρ pc ls (.int x :: st) f sz cells slots := by
  intro p e R s m args below meth c H locs LS C hw hS hl
  exact lv_if_gt C.1 C.2.1 hd ht (fun c1 => kt c1 p e R s m args below meth c H locs LS C hw hS hl) (fun c1 => kf c1 p e R s m args below meth c H locs LS C hw hS hl)
theorem v_icmp_gt {x y : Int32} {off : Int} {tgt : Nat} (hd : decode μ.2.1 pc = .ok (.if_icmp .gt off, 3)) (ht : (pc : Int) + off = (tgt : Int)) (kt : y < x → V l g sc μ d ρ tgt ls st f sz cells slots) (kf : ¬ y < x → V l g sc μ d ρ (pc + 3) ls st f sz cells slots) : V l g sc μ d ρ pc ls (.int y :: .int x :: st) f sz cells slots := by
  intro p e R s m args below meth c H locs LS C hw hS hl
  exact lv_icmp_gt C.1 C.2.1 hd ht (fun c1 => kt c1 p e R s m args below meth c H locs LS C hw hS hl) (fun c1 => kf c1 p e R s m args below meth c H locs LS C hw hS hl)
theorem v_lcmp_gt {x y : Int64} {off : Int} {tgt : Nat} (hd : decode μ.2.1 pc = .ok (.lcmp, 1)) (hd2 : decode μ.2.1 (pc + 1) = .ok (.ifCond .gt off, 3)) (ht : ((pc + 1 : Nat) : Int) + off = (tgt : Int)) (kt : y < x → V l g sc μ d ρ tgt ls st f sz cells slots) (kf : ¬ y < x → V l g sc μ d ρ (pc + 1 + 3) ls st f sz cells slots) : V l g sc μ d ρ pc ls (.long y :: .long x :: st) f sz cells slots := by
  intro p e R s m args below meth c H locs LS C hw hS hl
  exact W.lcmp C.1 C.2.1 hd (lv_if_gt C.1 C.2.1 hd2 ht (fun c1 => kt ((lg_cmp_gt x y).mp c1) p e R s m args below meth c H locs LS C hw hS hl) (fun c1 => kf (fun c2 => c1 ((lg_cmp_gt x y).mpr c2)) p e R s m args below meth c H locs LS C hw hS hl))
theorem v_if_le {x : Int32} {off : Int} {tgt : Nat} (hd : decode μ.2.1 pc = .ok (.ifCond .le off, 3)) (ht : (pc : Int) + off = (tgt : Int)) (kt : x ≤ 0 → V l g sc μ d ρ tgt ls st f sz cells slots) (kf : ¬ x ≤ 0 → V l g sc μ d ρ (pc + 3) ls st f sz cells slots) : V l g sc μ d ρ pc ls (.int x :: st) f sz cells slots := by
  intro p e R s m args below meth c H locs LS C hw hS hl
  exact lv_if_le C.1 C.2.1 hd ht (fun c1 => kt c1 p e R s m args below meth c H locs LS C hw hS hl) (fun c1 => kf c1 p e R s m args below meth c H locs LS C hw hS hl)
theorem v_icmp_le {x y : Int32} {off : Int} {tgt : Nat} (hd : decode μ.2.1 pc = .ok (.if_icmp .le off, 3)) (ht : (pc : Int) + off = (tgt : Int)) (kt : x ≤ y → V l g sc μ d ρ tgt ls st f sz cells slots) (kf : ¬ x ≤ y → V l g sc μ d ρ (pc + 3) ls st f sz cells slots) : V l g sc μ d ρ pc ls (.int y :: .int x :: st) f sz cells slots := by
  intro p e R s m args below meth c H locs LS C hw hS hl
  exact lv_icmp_le C.1 C.2.1 hd ht (fun c1 => kt c1 p e R s m args below meth c H locs LS C hw hS hl) (fun c1 => kf c1 p e R s m args below meth c H locs LS C hw hS hl)
theorem v_lcmp_le {x y : Int64} {off : Int} {tgt : Nat} (hd : decode μ.2.1 pc = .ok (.lcmp, 1)) (hd2 : decode μ.2.1 (pc + 1) = .ok (.ifCond .le off, 3)) (ht : ((pc + 1 : Nat) : Int) + off = (tgt : Int)) (kt : x ≤ y → V l g sc μ d ρ tgt ls st f sz cells slots) (kf : ¬ x ≤ y → V l g sc μ d ρ (pc + 1 + 3) ls st f sz cells slots) : V l g sc μ d ρ pc ls (.long y :: .long x :: st) f sz cells slots := by
  intro p e R s m args below meth c H locs LS C hw hS hl
  exact W.lcmp C.1 C.2.1 hd (lv_if_le C.1 C.2.1 hd2 ht (fun c1 => kt ((lg_cmp_le x y).mp c1) p e R s m args below meth c H locs LS C hw hS hl) (fun c1 => kf (fun c2 => c1 ((lg_cmp_le x y).mpr c2)) p e R s m args below meth c H locs LS C hw hS hl))
theorem v_ldc {idx : Nat} {v : Int32} (hd : decode μ.2.1 pc = .ok (.ldc idx, 2)) (hk : Cond.constant μ.1 idx v ∈ TB) (k : V l g sc μ d ρ (pc + 2) ls (.int v :: st) f sz cells slots) : V l g sc μ d ρ pc ls st f sz cells slots := by
  intro p e R s m args below meth c H locs LS C hw hS hl
  exact lv_ldc C.1 C.2.1 C.2.2.2.1 (C.2.2.2.2.1 _ hk) hd (k p e R s m args below meth c H locs LS C hw hS hl)
theorem v_ldc2 {idx : Nat} {v : Int64} (hd : decode μ.2.1 pc = .ok (.ldc2_w idx, 3)) (hk : Cond.constantLong μ.1 idx v ∈ TB) (k : V l g sc μ d ρ (pc + 3) ls (.long v :: st) f sz cells slots) : V l g sc μ d ρ pc ls st f sz cells slots := by
  intro p e R s m args below meth c H locs LS C hw hS hl
  exact lv_ldc2 C.1 C.2.1 C.2.2.2.1 (C.2.2.2.2.1 _ hk) hd (k p e R s m args below meth c H locs LS C hw hS hl)
theorem v_tableOut {dflt lo hi : Int} {offs : Array Int} {len : Nat} {x : Int32} {tgt : Nat} (hd : decode μ.2.1 pc = .ok (.tableswitch dflt lo hi offs, len)) (h : x.toInt < lo ∨ hi < x.toInt) (ht : (pc : Int) + dflt = (tgt : Int)) (k : V l g sc μ d ρ tgt ls st f sz cells slots) : V l g sc μ d ρ pc ls (.int x :: st) f sz cells slots := by
  intro p e R s m args below meth c H locs LS C hw hS hl
  exact lv_tableOut C.1 C.2.1 hd h ht (k p e R s m args below meth c H locs LS C hw hS hl)
theorem v_tableIn {dflt lo hi : Int} {offs : Array Int} {len : Nat} {x : Int32} {off : Int} {tgt : Nat} (hd : decode μ.2.1 pc = .ok (.tableswitch dflt lo hi offs, len)) (h1 : ¬ x.toInt < lo) (h2 : ¬ hi < x.toInt) (ho : offs[(x.toInt - lo).toNat]? = some off) (ht : (pc : Int) + off = (tgt : Int)) (k : V l g sc μ d ρ tgt ls st f sz cells slots) : V l g sc μ d ρ pc ls (.int x :: st) f sz cells slots := by
  intro p e R s m args below meth c H locs LS C hw hS hl
  exact lv_tableIn C.1 C.2.1 hd h1 h2 ho ht (k p e R s m args below meth c H locs LS C hw hS hl)
theorem v_lookup {dflt : Int} {ps : Array (Int × Int)} {len : Nat} {x : Int32} {off : Int} {tgt : Nat} (hd : decode μ.2.1 pc = .ok (.lookupswitch dflt ps, len)) (hp : (ps.toList.zip (ps.toList.drop 1)).all (fun (a, next) => a.1 < next.1) = true) (ho : Op.lookupswitch.offset ps.toList dflt x.toInt = off) (ht : (pc : Int) + off = (tgt : Int)) (k : V l g sc μ d ρ tgt ls st f sz cells slots) : V l g sc μ d ρ pc ls (.int x :: st) f sz cells slots := by
  intro p e R s m args below meth c H locs LS C hw hS hl
  exact lv_lookup C.1 C.2.1 hd hp ho ht (k p e R s m args below meth c H locs LS C hw hS hl)
/-- fewer locals, in another order -/
theorem v_sub (h : ∀ q ∈ ls1, lk ls q.1 = some q.2) (k : V l g sc μ d ρ pc ls1 st f sz cells slots) : V l g sc μ d ρ pc ls st f sz cells slots := by
  intro p e R s m args below meth c H locs LS C hw hS hl
  exact k p e R s m args below meth c H locs LS C hw hS ⟨hl.1, hl.2.1, fun q hq => lk_at hl (h q hq)⟩
theorem vs_n : ∀ q ∈ ([] : List (Nat × Value)), lk ls q.1 = some q.2 := fun _ h => nomatch h
theorem vs_c {i : Nat} {v : Value} {t : List (Nat × Value)} (h : lk ls i = some v) (ht : ∀ q ∈ t, lk ls q.1 = some q.2) : ∀ q ∈ (i, v) :: t, lk ls q.1 = some q.2 := fun q hq => (List.mem_cons.mp hq).elim (fun e => by rw [e]; exact h) (ht q)
theorem v_getV {idx ci k : Nat} {a : Nat} {v : Value} (hd : decode μ.2.1 pc = .ok (.getfield idx, 3)) (F : FL μ.1 idx ci k) (h : gV f a ci k = some v) (k : V l g sc μ d ρ (pc + 3) ls (v :: st) f sz cells slots) : V l g sc μ d ρ pc ls (.ref a :: st) f sz cells slots := by
  intro p e R s m args below meth c H locs LS C hw hS hl
  obtain ⟨fs, hf, hv⟩ := gV_some h
  obtain ⟨hA, hat⟩ := hw.1 a _ hf
  obtain ⟨⟨Cn, T, N⟩, hc, hk, hlk⟩ := F
  rcases hlk with h1 | ⟨host, h2⟩
  · exact va_get C.1 C.2.1 (Ts := TB) C.2.2.2.2.1 (cl_in hc) C.2.2.2.1 C.2.2.2.2.2.2.2.2.2.1.1 (va_P1 hat) 0 rfl hc _ hk (C.2.2.2.2.1 _ h1) (fun _ h => h) hv hd (k p e R s m args below meth c H locs LS C hw hS hl)
  · exact va_getN C.1 C.2.1 (Ts := TB) C.2.2.2.2.1 (cl_in hc) C.2.2.2.1 C.2.2.2.2.2.2.2.2.2.1.1 (va_P1 hat) 0 rfl hc _ hk (va_Nw.use (nb_tab h2) (C.2.2.2.2.2.2.2.2.2.1.2.1 _ h2)) (fun _ h => h) hv hd (k p e R s m args below meth c H locs LS C hw hS hl)
theorem v_getI {idx ci k : Nat} {a : Nat} {x : Int32} (hd : decode μ.2.1 pc = .ok (.getfield idx, 3)) (F : FL μ.1 idx ci k) (h : gI f a ci k = some x) (k : V l g sc μ d ρ (pc + 3) ls (.int x :: st) f sz cells slots) : V l g sc μ d ρ pc ls (.ref a :: st) f sz cells slots := v_getV hd F (gI_some h) k
theorem v_getL {idx ci k : Nat} {a : Nat} {x : Int64} (hd : decode μ.2.1 pc = .ok (.getfield idx, 3)) (F : FL μ.1 idx ci k) (h : gL f a ci k = some x) (k : V l g sc μ d ρ (pc + 3) ls (.long x :: st) f sz cells slots) : V l g sc μ d ρ pc ls (.ref a :: st) f sz cells slots := v_getV hd F (gL_some h) k
theorem v_getR {idx ci k : Nat} {a : Nat} {x : Nat} (hd : decode μ.2.1 pc = .ok (.getfield idx, 3)) (F : FL μ.1 idx ci k) (h : gR f a ci k = some x) (k : V l g sc μ d ρ (pc + 3) ls (.ref x :: st) f sz cells slots) : V l g sc μ d ρ pc ls (.ref a :: st) f sz cells slots := v_getV hd F (gR_some h) k
theorem v_putV {idx ci k : Nat} {ty : FieldType} {a : Nat} {v : Value} (hd : decode μ.2.1 pc = .ok (.putfield idx, 3)) (F : FP μ.1 idx ci k ty) (hn : narrow ty v = v) (hfit : fits ty v = true) (h : pV f a ci k v = some f1) (k : V l g sc μ d ρ (pc + 3) ls st f1 sz cells slots) : V l g sc μ d ρ pc ls (v :: .ref a :: st) f sz cells slots := by
  intro p e R s m args below meth c H locs LS C hw hS hl
  obtain ⟨fs, hf, hkl, rfl⟩ := pV_some h
  obtain ⟨hA, hat⟩ := hw.1 a _ hf
  obtain ⟨⟨Cn, T, N⟩, hc, hk, hlk, hfin, hty⟩ := F
  obtain ⟨ty0, ht0, hnm⟩ := cl_ty hc
  have hts := C.2.2.2.2.1
  have hK := C.2.2.2.2.2.2.2.2.2.1.1
  have hap := va_apart (own := μ.1) hts (cl_in hc) ty0 ht0 hnm hK hc
  obtain ⟨r, h1, cell, q1, q2, q3, q4⟩ := hat
  have hr : r = (Cn, T, N) := Option.some.inj (h1.symm.trans hc)
  subst hr
  obtain ⟨hS9, hfc, kC, hkC, hkind⟩ := hK.1 ci _ hc
  obtain ⟨cf, kf, fi, f9, hi, hsl⟩ := hS9 _ hk
  have hlay := hts _ (cl_in hc _ (u_in_lay hk))
  unfold u_lay at hlay
  rw [if_neg (by rw [hfin]; decide)] at hlay
  have hst := (u_facts hfc hkC (u_lays hts (cl_in hc) hk) hi).1
  have h6 := u_store hfc hkC hkind hlay hi hty hn hfit
  rcases hlk with h1 | ⟨host, h2⟩
  · refine W.putK C.1 C.2.1 (f := f9) ⟨C.2.2.2.1, hts _ h1, ⟨_, _, _, hi⟩, hst⟩ (by rw [q2]; exact h6) q1 q3 (by rw [hsl]; exact k2_hasslot (q4 _ hk)) rfl rfl hd fun H' e1 e2 e3 => ?_
    rw [hsl] at e1 ⊢
    exact k p e R s m args below meth c H' _ LS C (hw.up hA e2 e3 ⟨_, hc, t_OB.to (V := updV (vp_V fs) _ v) ⟨_, e1, q2, q3, t_set q4 hap hk v⟩ (fun j _ => vp_updV_set hkl v j)⟩) (hS.put e2 e3 hA) hl
  · refine va_WputK C.1 C.2.1 (f := f9) C.2.2.2.1 (va_Nw.use (nb_tab h2) (C.2.2.2.2.2.2.2.2.2.1.2.1 _ h2)) hi hst (by rw [q2]; exact h6) q1 q3 (by rw [hsl]; exact k2_hasslot (q4 _ hk)) rfl rfl hd fun H' e1 e2 e3 => ?_
    rw [hsl] at e1 ⊢
    exact k p e R s m args below meth c H' _ LS C (hw.up hA e2 e3 ⟨_, hc, t_OB.to (V := updV (vp_V fs) _ v) ⟨_, e1, q2, q3, t_set q4 hap hk v⟩ (fun j _ => vp_updV_set hkl v j)⟩) (hS.put e2 e3 hA) hl
theorem v_putF {idx ci k : Nat} {ty : FieldType} {a : Nat} {v : Value} (hd : decode μ.2.1 pc = .ok (.putfield idx, 3)) (F : FF μ.1 idx ci k ty) (hin : μ.2.2.2.2.2 = "<init>") (hn : narrow ty v = v) (hfit : fits ty v = true) (h : pV f a ci k v = some f1) (k : V l g sc μ d ρ (pc + 3) ls st f1 sz cells slots) : V l g sc μ d ρ pc ls (v :: .ref a :: st) f sz cells slots := by
  intro p e R s m args below meth c H locs LS C hw hS hl
  obtain ⟨fs, hf, hkl, rfl⟩ := pV_some h
  obtain ⟨hA, hat⟩ := hw.1 a _ hf
  obtain ⟨⟨Cn, T, N⟩, hc, hk, hlk, hfin, hdecl, hty⟩ := F
  obtain ⟨ty0, ht0, hnm⟩ := cl_ty hc
  have hts := C.2.2.2.2.1
  have hown := C.2.2.2.1
  have hK := C.2.2.2.2.2.2.2.2.2.1.1
  have hap := va_apart (own := μ.1) hts (cl_in hc) ty0 ht0 hnm hK hc
  obtain ⟨r, h1, cell, q1, q2, q3, q4⟩ := hat
  have hr : r = (Cn, T, N) := Option.some.inj (h1.symm.trans hc)
  subst hr
  obtain ⟨hS9, hfc, kC, hkC, hkind⟩ := hK.1 ci _ hc
  obtain ⟨cf, kf, fi, f9, hi, hsl⟩ := hS9 _ hk
  have hlay := hts _ (cl_in hc _ (u_in_lay hk))
  unfold u_lay at hlay
  rw [if_pos hfin] at hlay
  have hst := (u_facts hfc hkC (u_lays hts (cl_in hc) hk) hi).1
  have hcf : m.cls = cf := by
    obtain ⟨_, _, c', _, _, _, -, -, hf', -, -, -, hown2, -⟩ := Cond.laysFinal_spec hlay
    have e1 : c' = cf := by have := hi.symm.trans hf'; simp at this; exact this.1.symm
    have hdecl' : (T _).1 = μ.1 := hdecl
    rw [hdecl'] at hown2
    rw [← e1]; exact Option.some.inj (hown.symm.trans hown2)
  have h6 := u_fits hfc hkC hkind (Or.inr hlay) hi hty hn hfit
  refine W.putFinK C.1 C.2.1 hown (hts _ hlk) hi hst hcf (C.2.2.2.2.2.2.2.2.1.trans hin) (by rw [q2]; exact h6) q1 q3 (by rw [hsl]; exact k2_hasslot (q4 _ hk)) rfl rfl hd fun H' e1 e2 e3 => ?_
  rw [hsl] at e1 ⊢
  exact k p e R s m args below meth c H' _ LS C (hw.up hA e2 e3 ⟨_, hc, t_OB.to (V := updV (vp_V fs) _ v) ⟨_, e1, q2, q3, t_set q4 hap hk v⟩ (fun j _ => vp_updV_set hkl v j)⟩) (hS.put e2 e3 hA) hl
theorem v_alen {a t : Nat} {ty : FieldType} {x : Int32} (hd : decode μ.2.1 pc = .ok (.arraylength, 1)) (ht : (ty9 g.2.1)[t]? = some (g.2.1 t, ty)) (h : aLen f a t = some x) (k : V l g sc μ d ρ (pc + 1) ls (.int x :: st) f sz cells slots) : V l g sc μ d ρ pc ls (.ref a :: st) f sz cells slots := by
  intro p e R s m args below meth c H locs LS C hw hS hl
  obtain ⟨n, z, hf, rfl⟩ := aLen_some h
  obtain ⟨hA, hat⟩ := hw.1 a _ hf
  exact va_alen C.1 C.2.1 C.2.2.2.2.2.2.2.2.2.1.1 (va_P1 hat) 0 t rfl ht rfl hd (k p e R s m args below meth c H locs LS C hw hS hl)
theorem v_iald {a : Nat} {i x : Int32} (hd : decode μ.2.1 pc = .ok (.iaload, 1)) (h : aI f a 0 i = some x) (k : V l g sc μ d ρ (pc + 1) ls (.int x :: st) f sz cells slots) : V l g sc μ d ρ pc ls (.int i :: .ref a :: st) f sz cells slots := by
  intro p e R s m args below meth c H locs LS C hw hS hl
  obtain ⟨n, z, hf, hin, rfl⟩ := aI_some h
  obtain ⟨hA, hat⟩ := hw.1 a _ hf
  exact va_iald C.1 C.2.1 C.2.2.2.2.2.2.2.2.2.1.1 (va_P1 hat) 0 0 rfl rfl hin hd (k p e R s m args below meth c H locs LS C hw hS hl)
theorem v_zald {a : Nat} {i x : Int32} (hd : decode μ.2.1 pc = .ok (.baload, 1)) (h : aI f a 2 i = some x) (k : V l g sc μ d ρ (pc + 1) ls (.int x :: st) f sz cells slots) : V l g sc μ d ρ pc ls (.int i :: .ref a :: st) f sz cells slots := by
  intro p e R s m args below meth c H locs LS C hw hS hl
  obtain ⟨n, z, hf, hin, rfl⟩ := aI_some h
  obtain ⟨hA, hat⟩ := hw.1 a _ hf
  exact va_zald C.1 C.2.1 C.2.2.2.2.2.2.2.2.2.1.1 (va_P1 hat) 0 2 rfl rfl hin hd (k p e R s m args below meth c H locs LS C hw hS hl)
theorem v_lald {a : Nat} {i : Int32} {x : Int64} (hd : decode μ.2.1 pc = .ok (.laload, 1)) (h : aL f a i = some x) (k : V l g sc μ d ρ (pc + 1) ls (.long x :: st) f sz cells slots) : V l g sc μ d ρ pc ls (.int i :: .ref a :: st) f sz cells slots := by
  intro p e R s m args below meth c H locs LS C hw hS hl
  obtain ⟨n, z, hf, hin, rfl⟩ := aL_some h
  obtain ⟨hA, hat⟩ := hw.1 a _ hf
  exact va_lald C.1 C.2.1 C.2.2.2.2.2.2.2.2.2.1.1 (va_P1 hat) 0 1 rfl rfl hin hd (k p e R s m args below meth c H locs LS C hw hS hl)
theorem up_at {g : GT} {f : HF} {sz : Option Nat} {H H1 : Heap} {a t n i : Nat} {z z1 : (Nat → Int32) ⊕ (Nat → Int64) ⊕ (Nat → UInt32) ⊕ (Nat → UInt64) ⊕ (Nat → Option Nat)} {v : Value} (hw : Wst g f sz H) (hA : A9 g a) (e : H1[a]? = some ((vp_cell (g.2.1 t) (n, z)).setSlot i v)) (hz : H1.size = H.size) (hq : ∀ q : Nat, q ≠ a → H1[q]? = H[q]?) (he : (vp_cell (g.2.1 t) (n, z)).setSlot i v = vp_cell (g.2.1 t) (n, z1)) : Wst g (hup f a (.inl (t, (n, z1)))) sz H1 := hw.up hA hz hq (by
  show H1[a]? = some (vp_cell (g.2.1 t) (n, z1))
  rw [e, he])
theorem v_iast {a : Nat} {i x : Int32} (hd : decode μ.2.1 pc = .ok (.iastore, 1)) (h : sI f a 0 i x = some f1) (k : V l g sc μ d ρ (pc + 1) ls st f1 sz cells slots) : V l g sc μ d ρ pc ls (.int x :: .int i :: .ref a :: st) f sz cells slots := by
  intro p e R s m args below meth c H locs LS C hw hS hl
  obtain ⟨n, z, hf, hin, rfl⟩ := sI_some h
  obtain ⟨hA, hat⟩ := hw.1 a _ hf
  refine W.iast C.1 C.2.1 hat ((C.2.2.2.2.2.2.2.2.2.1.1.2 0 _ rfl).1 n (fun j => .int (z j))) (fun q => by cases q) (by show ¬ (i < 0 ∨ (arrV _ _ _).slots.size ≤ _); rw [arrV_size]; exact hin) rfl rfl hd fun H1 e1 z1 oq => ?_
  · 
    refine k p e R s m args below meth c H1 _ LS C (up_at hw hA e1 z1 oq ?_) (hS.put z1 oq hA) hl
    show (vp_cell _ _).setSlot _ _ = _
    rw [vp_cell_i, vp_cell_i, arrV_store]
    congr 1
    funext q
    by_cases hq : q = i.toNatClampNeg
    · subst hq
      simp [updV, upd]
    · simp [updV, upd, hq]
theorem v_zast {a : Nat} {i x : Int32} (hd : decode μ.2.1 pc = .ok (.bastore, 1)) (hB : isB x) (h : sI f a 2 i x = some f1) (k : V l g sc μ d ρ (pc + 1) ls st f1 sz cells slots) : V l g sc μ d ρ pc ls (.int x :: .int i :: .ref a :: st) f sz cells slots := by
  intro p e R s m args below meth c H locs LS C hw hS hl
  obtain ⟨n, z, hf, hin, rfl⟩ := sI_some h
  obtain ⟨hA, hat⟩ := hw.1 a _ hf
  refine W.zast C.1 C.2.1 hat ((C.2.2.2.2.2.2.2.2.2.1.1.2 2 _ rfl).1 n (fun j => .int (z j))) (fun q => by cases q) (by show ¬ (i < 0 ∨ (arrV _ _ _).slots.size ≤ _); rw [arrV_size]; exact hin) rfl rfl hd fun H1 e1 z1 oq => ?_
  · 
    have e0 : narrow .boolean (.int x) = .int x := by rcases hB with rfl | rfl <;> rfl
    try rw [e0] at e1
    refine k p e R s m args below meth c H1 _ LS C (up_at hw hA e1 z1 oq ?_) (hS.put z1 oq hA) hl
    show (vp_cell _ _).setSlot _ _ = _
    rw [vp_cell_i, vp_cell_i, arrV_store]
    congr 1
    funext q
    by_cases hq : q = i.toNatClampNeg
    · subst hq
      simp [updV, upd]
    · simp [updV, upd, hq]
theorem v_last {a : Nat} {i : Int32} {x : Int64} (hd : decode μ.2.1 pc = .ok (.lastore, 1)) (h : sL f a i x = some f1) (k : V l g sc μ d ρ (pc + 1) ls st f1 sz cells slots) : V l g sc μ d ρ pc ls (.long x :: .int i :: .ref a :: st) f sz cells slots := by
  intro p e R s m args below meth c H locs LS C hw hS hl
  obtain ⟨n, z, hf, hin, rfl⟩ := sL_some h
  obtain ⟨hA, hat⟩ := hw.1 a _ hf
  refine W.last C.1 C.2.1 hat ((C.2.2.2.2.2.2.2.2.2.1.1.2 1 _ rfl).1 n (fun j => .long (z j))) (fun q => by cases q) (by show ¬ (i < 0 ∨ (arrV _ _ _).slots.size ≤ _); rw [arrV_size]; exact hin) rfl rfl hd fun H1 e1 z1 oq => ?_
  refine k p e R s m args below meth c H1 _ LS C (up_at hw hA e1 z1 oq ?_) (hS.put z1 oq hA) hl
  show (vp_cell _ _).setSlot _ _ = _
  rw [vp_cell_l, vp_cell_l, arrV_store]
  congr 1
  funext q
  by_cases hq : q = i.toNatClampNeg
  · subst hq
    simp [updV, vp_updL]
  · simp [updV, vp_updL, hq]
end RV
end
section
/-! CALLS, RETURNS, THROWS of V -/
theorem Env9.warm {g : GT} {s U : State} (hW : s.WarmedH U.vm) (h : Env9 g s) : Env9 g U := ⟨va_K.moved hW.alike h.1, fun w hw => nb_warm hw hW (h.2.1 w hw), fun q hq => va_Nc.moved hW.alike (h.2.2 q hq)⟩
theorem Env9.same {g : GT} {s U : State} (hv : s.vm = U.vm) (h : Env9 g s) : Env9 g U := ⟨va_K.moved (by rw [← hv]; exact Vm.Alike.refl _) h.1, fun w hw => va_Nw.same (nb_tab hw) hv (h.2.1 w hw), fun q hq => va_Nc.moved (by rw [← hv]; exact Vm.Alike.refl _) (h.2.2 q hq)⟩
theorem Pre9.blind {l : Launch} {g : GT} {As : List Value} {f : HF} {sz : Option Nat} : FrameBlind (va_Pc As (Pre9 l g f sz)) := by
  intro a U fr mk q
  obtain ⟨q0, q1, q2, ⟨q3, q4⟩, q5, q6⟩ := q
  exact ⟨q0, q1, Env9.same (s := U) (U := U.calling fr mk a) rfl q2, ⟨vx_Zq.moved (u := U) (U := U.calling fr mk a) (Vm.Alike.refl U.vm) q3, vx_Zq.moved (u := U) (U := U.calling fr mk a) (Vm.Alike.refl U.vm) q4⟩, q5, q6⟩
section RC
variable {l : Launch} {g : GT} {sc : State → Prop} {μ : MT} {d : Nat} {ρ : RT} {pc : Nat} {ls ls1 : List (Nat × Value)} {st rest : List Value} {f f1 : HF} {sz sz1 : Option Nat} {cells slots : Nat}
variable {p : Program} {e : Env} {R : Room} {s : State} {m : MethodId} {args : Array Value} {below : List Frame} {meth : Method} {c : Code} {H : Heap} {locs : List Loc} {LS : Array Slot} {Q : State → Prop}
/-- the caller's picture meets the callee's start -/
theorem pre_S {As : List Value} (C : Cx l g sc μ d ρ p R s m args meth c) (hw : Wst g f sz H) (hS : va_S (A9 g) s.heap H locs) : PreS s H (va_Pc As (Pre9 l g f sz)) As := by
  refine ⟨Pre9.blind, fun U hU hW => ?_⟩
  obtain ⟨-, -, -, -, -, -, -, -, -, hE, ⟨hZ1, hZ2⟩, hnt, -, -, -, -, -, hsz⟩ := C
  refine ⟨rfl, hnt, Env9.warm hW hE, ⟨?_, ?_⟩, by rw [hU]; exact hw, by rw [hU]; exact Nat.le_trans hsz hS.1⟩
  · rw [hU]; exact vx_Zq.moved hW.alike (hZ1.kept hS.2.1)
  · rw [hU]; exact vx_Zq.moved hW.alike (hZ2.kept hS.2.1)
theorem w_back {r : Rs} {v : Option Value} {k1 n1 : Nat} {a : Array Value} {st0 : List Value} (hr : vx_Run p l e R s m args below meth c H locs cells slots k1 n1 (F0 m pc LS st0) rest (Qr g (.inl v) f1 sz1 a) (Xr g (.inl v) f1) (A9 g)) (hS : va_S (A9 g) s.heap H locs)
    (kk : ∀ (H1 : Heap) (locs1 : List Loc), Wst g f1 sz1 H1 → va_S (A9 g) s.heap H1 locs1 → W p l e R s m args below meth c H1 locs1 (cells + k1) (slots + n1) Q (F0 m (pc + 3) LS (v.toList ++ rest))) : W p l e R s m args below meth c H locs cells slots Q (F0 m pc LS st0) := by
  intro T hT X
  rcases hr T hT X with ⟨v1, st₀, t, T', L, h0, X', hL, e1, e2, ⟨⟨v2, hv, ho⟩, hw1, hF⟩, stp⟩ | ⟨q, st₀, t, T', L, E, ce, h0, X', hL, e1, e2, ⟨hx, -⟩, -⟩
  · cases hv
    cases ho
    obtain ⟨-, -, k3⟩ := vx_keep h0 e1 hS (fun q _ h => h) (fun q h => h) hL hF
    obtain ⟨t2, a1, b1⟩ := kk T'.heap (locs ++ L) (by rw [e1]; exact hw1) k3 T' rfl X'
    exact ⟨t2, stp t2 a1, b1⟩
  · cases hx
theorem w_thrown {E : String} {k1 n1 : Nat} {a : Array Value} {st0 : List Value} {sz2 : Option Nat} (hr : vx_Run p l e R s m args below meth c H locs cells slots k1 n1 (F0 m pc LS st0) rest (Qr g (.inr E) f1 sz2 a) (Xr g (.inr E) f1) (A9 g)) (hS : va_S (A9 g) s.heap H locs)
    (kk : ∀ (H1 : Heap) (locs1 : List Loc) (q : Addr) (ce : Cell), Wst g f1 none H1 → va_S (A9 g) s.heap H1 locs1 → H1[q]? = some ce → ce.vm = .none → s.vm.findClass E = some ce.cls → vx_W p l e R s m args below meth c H1 locs1 (cells + k1) (slots + n1) Q (F0 m pc LS rest) q) : W p l e R s m args below meth c H locs cells slots Q (F0 m pc LS st0) := by
  intro T hT X
  rcases hr T hT X with ⟨v1, st₀, t, T', L, h0, X', hL, e1, e2, ⟨⟨v2, hv, ho⟩, hw1, hF⟩, stp⟩ | ⟨q, st₀, t, T', L, E2, ce, h0, X', hL, e1, e2, ⟨hx, hw1, hF⟩, hce, hcv, hcl, stp⟩
  · cases hv
  · cases hx
    obtain ⟨-, -, k3⟩ := vx_keep h0 e1 hS (fun q _ h => h) (fun q h => h) hL hF
    obtain ⟨t2, a1, b1⟩ := kk T'.heap (locs ++ L) q ce (by rw [e1]; exact hw1) k3 (by rw [e1]; exact hce) hcv hcl T' rfl X'
    exact ⟨t2, stp.trans a1, b1⟩
def mlV (own : String) (idx : Nat) (y : MethodName) : Prop := Cond.methodLink own idx y ∈ TB ∧ Cond.instanceMethod y ∈ TB ∧ Cond.selects y.cls y y ∈ TB ∧ Cond.initialized y.cls ∈ TB
def mlS (own : String) (idx : Nat) (y : MethodName) : Prop := Cond.methodLink own idx y ∈ TB ∧ Cond.static y ∈ TB ∧ Cond.initialized y.cls ∈ TB
def mlI (own : String) (idx : Nat) (y : MethodName) : Prop := (Cond.methodLink own idx y ∈ TB ∨ ∃ host, Cond.methodLinkNest own idx y host ∈ NB) ∧ Cond.instanceMethod y ∈ TB ∧ Cond.initialized y.cls ∈ TB ∧ y.name = "<init>"
/-- of a callee: its code word, its parameters' number, its class's number among the worlds' -/
def mOk (y : MethodName) (cc : ByteArray) (nL : Nat) (rt : Option FieldType) (n : Nat) : Prop := Cond.code y cc nL rt ∈ TB ∧ (y.cls ≠ "java/lang/invoke/MethodHandle" ∧ y.cls ≠ "java/lang/invoke/VarHandle" ∧ (parseMethodDescriptor y.desc).map (fun d => d.parameters.length) = some n) ∧ nL ≤ 45
theorem good_tb {y : MethodName} {cc : ByteArray} {nL : Nat} {rt : Option FieldType} (h : Cond.code y cc nL rt ∈ TB) : GoodIn TB (.code y cc nL rt :: TB) := fun w hw => by
  rcases List.mem_cons.mp hw with rfl | hw
  · exact ⟨h, good_of_word (List.all_eq_true.mp tb_good _ h)⟩
  · exact ⟨hw, good_of_word (List.all_eq_true.mp tb_good _ hw)⟩
theorem roomy {nL d1 : Nat} (hd : d1 + 1 ≤ d) (hn : nL ≤ 45) (C : Cx l g sc μ d ρ p R s m args meth c) : d1 + 1 ≤ R.frames ∧ 8 + (nL + 11) + 64 * d1 ≤ R.locals := by
  obtain ⟨-, -, -, -, -, -, -, -, -, -, -, -, -, h1, h2, -⟩ := C
  constructor <;> omega
theorem run_V {y : MethodName} {cc : ByteArray} {nL idx n d1 ci : Nat} {rt : Option FieldType} {b : Nat} {As : List Value} {ρ1 : RT} {u : Unit} (C : Cx l g sc μ d ρ p R s m args meth c) (hw : Wst g f sz H) (hS : va_S (A9 g) s.heap H locs) (hl : lv_has LS μ.2.2.1 ls)
    (hd : decode μ.2.1 pc = .ok (.invokevirtual idx, 3)) (ML : mlV μ.1 idx y) (hm : mOk y cc nL rt n) (hM : Mt l g y cc nL rt d1 (.ref b :: As) f sz ρ1) (hck : ck f b ci = some u) (hci : (cl9[ci]?).map (fun r => r.1) = some y.cls) (hd1 : d1 + 1 ≤ d) (hn : As.length = n) (hst : st = As.reverse ++ .ref b :: rest) (hrm : (rest.map fun v => v.category).sum ≤ 8) (hk : cells + ρ1.2.2.2.1 ≤ ρ.2.2.2.1 ∧ slots + ρ1.2.2.2.2 ≤ ρ.2.2.2.2) :
    vx_Run p l e R s m args below meth c H locs cells slots ρ1.2.2.2.1 ρ1.2.2.2.2 (F0 m pc LS st) rest (Qr g ρ1.1 ρ1.2.1 ρ1.2.2.1 (Value.ref b :: As).toArray) (Xr g ρ1.1 ρ1.2.1) (A9 g) := by
  obtain ⟨fs, hf⟩ := ck_some hck
  obtain ⟨hA, hat⟩ := hw.1 b _ hf
  obtain ⟨r, hr, cell, q1, q2, q3, -⟩ := hat
  have hr9 : cl9[ci]? = some r := hr
  rw [hr9] at hci
  have hcn : r.1 = y.cls := Option.some.inj hci
  have hfc := (C.2.2.2.2.2.2.2.2.2.1.1.1 ci r hr9).2.1
  rw [hcn] at hfc
  have ok := C.2.2.2.2.1
  obtain ⟨m1, m2, m3, m4⟩ := ML
  obtain ⟨c1, c2, c3⟩ := hm
  have hp := pre_S (As := .ref b :: As) C hw hS
  refine vx_runV (Ts := TB) ⟨C.1, C.2.1, C.2.2.1, C.2.2.2.1, ok⟩ hM (C := y.cls) ⟨callB_of n ok (good_tb c1) rfl rfl rfl (ok _ m4) (ok _ m1) c2 (roomy hd1 c3 C), ok _ m2, ok _ m3⟩ ⟨hp.1, ⟨cell, q1, by rw [q3]; rfl, by rw [q2]; exact hfc⟩, hp.2⟩ rfl hn hl.1 hst (lv_room hrm) hd ?_
  obtain ⟨-, -, -, -, -, -, -, -, -, -, -, -, -, -, -, h1, h2, -⟩ := C
  constructor <;> omega
theorem run_S {y : MethodName} {cc : ByteArray} {nL idx n d1 : Nat} {rt : Option FieldType} {As : List Value} {ρ1 : RT} (C : Cx l g sc μ d ρ p R s m args meth c) (hw : Wst g f sz H) (hS : va_S (A9 g) s.heap H locs) (hl : lv_has LS μ.2.2.1 ls)
    (hd : decode μ.2.1 pc = .ok (.invokestatic idx, 3)) (ML : mlS μ.1 idx y) (hm : mOk y cc nL rt n) (hM : Mt l g y cc nL rt d1 As f sz ρ1) (hd1 : d1 + 1 ≤ d) (hn : As.length = n) (hst : st = As.reverse ++ rest) (hrm : (rest.map fun v => v.category).sum ≤ 8) (hk : cells + ρ1.2.2.2.1 ≤ ρ.2.2.2.1 ∧ slots + ρ1.2.2.2.2 ≤ ρ.2.2.2.2) :
    vx_Run p l e R s m args below meth c H locs cells slots ρ1.2.2.2.1 ρ1.2.2.2.2 (F0 m pc LS st) rest (Qr g ρ1.1 ρ1.2.1 ρ1.2.2.1 As.toArray) (Xr g ρ1.1 ρ1.2.1) (A9 g) := by
  have ok := C.2.2.2.2.1
  obtain ⟨m1, m2, m3⟩ := ML
  obtain ⟨c1, c2, c3⟩ := hm
  refine vx_runS (Ts := TB) ⟨C.1, C.2.1, C.2.2.1, C.2.2.2.1, ok⟩ hM ⟨callB_of n ok (good_tb c1) rfl rfl rfl (ok _ m3) (ok _ m1) c2 (roomy hd1 c3 C), ok _ m2⟩ (pre_S C hw hS) rfl hn hl.1 hst (lv_room hrm) hd ?_
  obtain ⟨-, -, -, -, -, -, -, -, -, -, -, -, -, -, -, h1, h2, -⟩ := C
  constructor <;> omega
/-- a virtual call that returns -/
theorem v_callV {y : MethodName} {cc : ByteArray} {nL idx n d1 ci : Nat} {rt : Option FieldType} {b : Nat} {As : List Value} {v : Option Value} {k1 n1 : Nat} {u : Unit} (hd : decode μ.2.1 pc = .ok (.invokevirtual idx, 3)) (ML : mlV μ.1 idx y) (hm : mOk y cc nL rt n) (hM : Mt l g y cc nL rt d1 (.ref b :: As) f sz (.inl v, f1, sz1, k1, n1)) (hck : ck f b ci = some u) (hci : (cl9[ci]?).map (fun r => r.1) = some y.cls) (hd1 : d1 + 1 ≤ d) (hn : As.length = n) (hst : st = As.reverse ++ .ref b :: rest) (hrm : (rest.map fun v => v.category).sum ≤ 8) (hk : cells + k1 ≤ ρ.2.2.2.1 ∧ slots + n1 ≤ ρ.2.2.2.2)
    (k : V l g sc μ d ρ (pc + 3) ls (v.toList ++ rest) f1 sz1 (cells + k1) (slots + n1)) : V l g sc μ d ρ pc ls st f sz cells slots := by
  intro p e R s m args below meth c H locs LS C hw hS hl
  exact w_back (r := .inl v) (run_V C hw hS hl hd ML hm hM hck hci hd1 hn hst hrm hk) hS (fun H1 locs1 hw1 hS1 => k p e R s m args below meth c H1 locs1 LS C hw1 hS1 hl)
theorem v_callS {y : MethodName} {cc : ByteArray} {nL idx n d1 : Nat} {rt : Option FieldType} {As : List Value} {v : Option Value} {k1 n1 : Nat} (hd : decode μ.2.1 pc = .ok (.invokestatic idx, 3)) (ML : mlS μ.1 idx y) (hm : mOk y cc nL rt n) (hM : Mt l g y cc nL rt d1 As f sz (.inl v, f1, sz1, k1, n1)) (hd1 : d1 + 1 ≤ d) (hn : As.length = n) (hst : st = As.reverse ++ rest) (hrm : (rest.map fun v => v.category).sum ≤ 8) (hk : cells + k1 ≤ ρ.2.2.2.1 ∧ slots + n1 ≤ ρ.2.2.2.2)
    (k : V l g sc μ d ρ (pc + 3) ls (v.toList ++ rest) f1 sz1 (cells + k1) (slots + n1)) : V l g sc μ d ρ pc ls st f sz cells slots := by
  intro p e R s m args below meth c H locs LS C hw hS hl
  exact w_back (r := .inl v) (run_S C hw hS hl hd ML hm hM hd1 hn hst hrm hk) hS (fun H1 locs1 hw1 hS1 => k p e R s m args below meth c H1 locs1 LS C hw1 hS1 hl)
theorem va_F_of {A : Nat → Prop} {s t : State} {H : Heap} {locs : List Loc} (hS : va_S A s.heap H locs) (ht : t.heap = H) : va_F A s t := ⟨by rw [ht]; exact hS.1, fun q h1 h2 => by rw [ht]; exact hS.2.1 q h1 h2⟩
/-- a call that throws, in a method without handlers: it goes on -/
theorem w_on {E : String} (C : Cx l g sc μ d ρ p R s m args meth c) (hh : μ.2.2.2.2.1 = []) (hr : ρ.1 = .inr E) (hf1 : ρ.2.1 = f1) (hS : va_S (A9 g) s.heap H locs) (hw : Wst g f1 none H) {q : Addr} {ce : Cell} (hc : H[q]? = some ce) (hv : ce.vm = .none) (hcl : s.vm.findClass E = some ce.cls) (hk : cells ≤ ρ.2.2.2.1 ∧ slots ≤ ρ.2.2.2.2) : vx_W p l e R s m args below meth c H locs cells slots (ZQ g ρ below args s) (F0 m pc LS rest) q := by
  have htab : c.exceptionTable.toList = tableOf μ.2.2.2.2.1 := C.2.2.2.2.2.2.2.1
  rw [hh] at htab
  exact vx_out (fun x hx => by rw [htab] at hx; cases hx) C.2.2.2.2.2.1 hc hv hcl (fun t ht _ => ⟨hr, by rw [ht, hf1]; exact hw, va_F_of hS ht⟩) hS.2.2 hk.1 hk.2
theorem v_callVx {y : MethodName} {cc : ByteArray} {nL idx n d1 ci : Nat} {rt : Option FieldType} {b : Nat} {As : List Value} {E : String} {k1 n1 : Nat} {u : Unit} (hd : decode μ.2.1 pc = .ok (.invokevirtual idx, 3)) (ML : mlV μ.1 idx y) (hm : mOk y cc nL rt n) (hM : Mt l g y cc nL rt d1 (.ref b :: As) f sz (.inr E, f1, sz1, k1, n1)) (hck : ck f b ci = some u) (hci : (cl9[ci]?).map (fun r => r.1) = some y.cls) (hd1 : d1 + 1 ≤ d) (hn : As.length = n) (hst : st = As.reverse ++ .ref b :: rest) (hrm : (rest.map fun v => v.category).sum ≤ 8) (hk : cells + k1 ≤ ρ.2.2.2.1 ∧ slots + n1 ≤ ρ.2.2.2.2) (hh : μ.2.2.2.2.1 = []) (hr : ρ.1 = .inr E) (hf1 : ρ.2.1 = f1) : V l g sc μ d ρ pc ls st f sz cells slots := by
  intro p e R s m args below meth c H locs LS C hw hS hl
  exact w_thrown (run_V C hw hS hl hd ML hm hM hck hci hd1 hn hst hrm hk) hS (fun H1 locs1 q ce hw1 hS1 h1 h2 h3 => w_on C hh hr hf1 hS1 hw1 h1 h2 h3 hk)
/-! returns -/
theorem q_ret {v : Option Value} (hr : ρ.1 = .inl v) (hf1 : ρ.2.1 = f) (hs1 : ρ.2.2.1 = sz) (hw : Wst g f sz H) (hS : va_S (A9 g) s.heap H locs) : ∀ t : State, t.heap = H → s.WarmedH t.vm → Qr g ρ.1 ρ.2.1 ρ.2.2.1 args s (.returned v) t := fun t ht _ => ⟨⟨v, hr, rfl⟩, by rw [hf1, hs1, ht]; exact hw, va_F_of hS ht⟩
theorem v_iret {x : Int32} (hd : decode μ.2.1 pc = .ok (.ireturn, 1)) (ht : μ.2.2.2.1 = some .int) (hr : ρ = (.inl (some (.int x)), f, sz, cells, slots)) : V l g sc μ d ρ pc ls [.int x] f sz cells slots := by
  intro p e R s m args below meth c H locs LS C hw hS hl
  subst hr
  exact vx_ret (W.iret C.1 C.2.1 (C.2.2.2.2.2.2.1.trans ht) (q_ret rfl rfl rfl hw hS) hS.2.2 hd C.2.2.2.2.2.1)
theorem v_zret {x : Int32} (hd : decode μ.2.1 pc = .ok (.ireturn, 1)) (ht : μ.2.2.2.1 = some .boolean) (hx : isB x) (hr : ρ = (.inl (some (.int x)), f, sz, cells, slots)) : V l g sc μ d ρ pc ls [.int x] f sz cells slots := by
  intro p e R s m args below meth c H locs LS C hw hS hl
  subst hr
  exact vx_ret (W.zret (ty := .boolean) C.1 C.2.1 (C.2.2.2.2.2.2.1.trans ht) (by rcases hx with rfl | rfl <;> rfl) (q_ret rfl rfl rfl hw hS) hS.2.2 hd C.2.2.2.2.2.1)
theorem v_lret {x : Int64} (hd : decode μ.2.1 pc = .ok (.lreturn, 1)) (ht : μ.2.2.2.1 = some .long) (hr : ρ = (.inl (some (.long x)), f, sz, cells, slots)) : V l g sc μ d ρ pc ls [.long x] f sz cells slots := by
  intro p e R s m args below meth c H locs LS C hw hS hl
  subst hr
  exact vx_ret (W.lret C.1 C.2.1 (C.2.2.2.2.2.2.1.trans ht) (q_ret rfl rfl rfl hw hS) hS.2.2 hd C.2.2.2.2.2.1)
theorem v_aret {x : Nat} {n : String} (hd : decode μ.2.1 pc = .ok (.areturn, 1)) (ht : μ.2.2.2.1 = some (.object n)) (hr : ρ = (.inl (some (.ref x)), f, sz, cells, slots)) : V l g sc μ d ρ pc ls [.ref x] f sz cells slots := by
  intro p e R s m args below meth c H locs LS C hw hS hl
  subst hr
  exact vx_ret (W.aret C.1 C.2.1 (C.2.2.2.2.2.2.1.trans ht) (Or.inl ⟨n, rfl⟩) (Or.inr ⟨x, rfl⟩) (q_ret rfl rfl rfl hw hS) hS.2.2 hd C.2.2.2.2.2.1)
theorem v_vret (hd : decode μ.2.1 pc = .ok (.return_, 1)) (ht : μ.2.2.2.1 = none) (hr : ρ = (.inl none, f, sz, cells, slots)) : V l g sc μ d ρ pc ls [] f sz cells slots := by
  intro p e R s m args below meth c H locs LS C hw hS hl
  subst hr
  exact vx_ret (W.vret C.1 C.2.1 (C.2.2.2.2.2.2.1.trans ht) (q_ret rfl rfl rfl hw hS) hS.2.2 hd C.2.2.2.2.2.1)
/-- throw new E() -/
def thr (own : String) (ik ic : Nat) (E : String) (names : List String) : Prop := (Bundle.fit E = true ∧ ∀ n ∈ names, Bundle.fit n = true) ∧ Cond.classLink own ik E ∈ TB ∧ Cond.initialized E ∈ TB ∧ (∀ w ∈ vx_at0 own ic E names, w ∈ TB ∨ w ∈ NB) ∧ names.length ≤ 4
theorem v_throw {E : String} {names : List String} {ik ic : Nat} (d0 : decode μ.2.1 pc = .ok (.new ik, 3)) (d3 : decode μ.2.1 (pc + 3) = .ok (.dup, 1)) (d4 : decode μ.2.1 (pc + 4) = .ok (.invokespecial ic, 3)) (d7 : decode μ.2.1 (pc + 7) = .ok (.athrow, 1)) (T : thr μ.1 ik ic E names) (hd : 8 ≤ d) (hh : μ.2.2.2.2.1 = []) (hrm : (st.map fun v => v.category).sum ≤ 8) (hr : ρ = (.inr E, f, none, cells + 1, slots + 6)) : V l g sc μ d ρ pc ls st f sz cells slots := by
  intro p e R s m args below meth c H locs LS C hw hS hl
  obtain ⟨⟨t1, t2⟩, t3, t4, t5, t6⟩ := T
  subst hr
  obtain ⟨hx, hb, hml, hown, ok, hlk, hrt, htab, hnm, hE, ⟨hZ1, hZ2⟩, hnt, -, hdf, hdl, hkc, hks, hsz⟩ := C
  rw [hh] at htab
  have htw : ∀ w ∈ vx_at0 μ.1 ic E names, w.before args s = true := fun w hw9 => (t5 w hw9).elim (ok w) (fun h => va_Nw.use (nb_tab h) (hE.2.1 w h))
  have hgd : ∀ w ∈ Cond.classLink μ.1 ik E :: Cond.initialized E :: vx_at0 μ.1 ic E names, vx_ot w = true := fun w hw9 => by
    have hgo : ∀ w ∈ TB, vx_ot w = true := fun w h => by
      have h9 := List.all_eq_true.mp tb_good w h
      unfold vx_ot
      rw [h9, Bool.or_true]
    rcases List.mem_cons.mp hw9 with rfl | hw9
    · exact hgo _ t3
    rcases List.mem_cons.mp hw9 with rfl | hw9
    · exact hgo _ t4
    · rcases t5 w hw9 with h | h
      · exact hgo _ h
      · unfold vx_ot
        rw [nb_tab h, Bool.true_or]
  refine vx_throw0 hx hb hnt hown t1 t2 (ok _ t3) (ok _ t4) htw hgd hZ1 hZ2 hS (hl.1.trans hml.symm) d0 d3 d4 d7 (fun x hx => by rw [htab] at hx; cases hx) (by omega) (by omega) hkc hks hlk (fun t _ h1 h2 => ⟨rfl, ?_, ?_⟩) hS.2.2 (Nat.le_refl _) (Nat.le_refl _)
  · refine ⟨fun q e9 he => ?_, fun n hn => by cases hn⟩
    obtain ⟨a1, a2⟩ := hw.1 q e9 he
    exact ⟨a1, a2.kept (h2 q a2.lt)⟩
  · exact ⟨Nat.le_trans hS.1 h1, fun q q1 q2 => (h2 q (Nat.lt_of_lt_of_le q1 hS.1)).trans (hS.2.1 q q1 q2)⟩
/-- a contract out of a walk from the entry -/
theorem mt_of {y : MethodName} {cc : ByteArray} {nL : Nat} {rt : Option FieldType} {As : List Value} (hy : plainName y.cls = true) (hlen : (lg_sl As).length ≤ nL)
    (hV : V l g (fun _ => True) (y.cls, cc, nL, rt, [], y.name) d ρ 0 (lv_args 0 As) [] f sz 0 0) : Mt l g y cc nL rt d As f sz ρ := by
  refine vx_ofW (cc := cc) (maxL := nL) (ret := rt) hy rfl ?_
  intro p e s m args below meth c s₁ B hml htab hv
  obtain ⟨rfl, hnt, hE, hSt, hw, hsz⟩ := hv
  have hts := atoms_spec (ws := .code y cc nL rt :: TB) B.pre
  have hl := lv_entry As (n := nL) hlen
  rw [lg_entry_eq]
  refine hV p e _ s m _ below meth c s.heap [] _ ⟨B.exec, B.bytes, hml, findClass_of_methodNamed B.named, fun w hw => hts w (List.mem_cons_of_mem _ hw), B.notSynchronized, B.returns, ?_, (name_of_methodNamed B.named B.method).1, hE, hSt, hnt, trivial, Nat.le_refl _, Nat.le_refl _, Nat.le_refl _, Nat.le_refl _, hsz⟩ hw va_S.rf hl
  cases h : c.exceptionTable.toList with
  | nil => rfl
  | cons x t => exact (htab x (by rw [h]; exact List.mem_cons_self)).elim
end RC
end
section
/-! SHORTER FORMS, for methods that make nothing -/
def roI (r : Int32 ⊕ String) (f : HF) (sz : Option Nat) : RT := match r with
  | .inl x => (.inl (some (.int x)), f, sz, 0, 0)
  | .inr E => (.inr E, f, none, 1, 6)
def roL (r : Int64 ⊕ String) (f : HF) (sz : Option Nat) : RT := match r with
  | .inl x => (.inl (some (.long x)), f, sz, 0, 0)
  | .inr E => (.inr E, f, none, 1, 6)
def roR (r : Nat ⊕ String) (f : HF) (sz : Option Nat) : RT := match r with
  | .inl x => (.inl (some (.ref x)), f, sz, 0, 0)
  | .inr E => (.inr E, f, none, 1, 6)
def roU (r : Unit ⊕ String) (f : HF) (sz : Option Nat) : RT := match r with
  | .inl _ => (.inl none, f, sz, 0, 0)
  | .inr E => (.inr E, f, none, 1, 6)
/-! going on behind a call that may throw -/
def bRT {τ σ : Type} (o : Option (τ ⊕ String)) (k : τ → Option (σ ⊕ String)) : Option (σ ⊕ String) := match o with
  | none => none
  | some (.inl x) => k x
  | some (.inr e) => some (.inr e)
def bRW {τ σ : Type} (o : Option (τ ⊕ String)) (f : HF) (k : τ → Option ((σ ⊕ String) × HF)) : Option ((σ ⊕ String) × HF) := match o with
  | none => none
  | some (.inl x) => k x
  | some (.inr e) => some (.inr e, f)
def bWW {τ σ : Type} (o : Option ((τ ⊕ String) × HF)) (k : τ → HF → Option ((σ ⊕ String) × HF)) : Option ((σ ⊕ String) × HF) := match o with
  | none => none
  | some (.inl x, f) => k x f
  | some (.inr e, f) => some (.inr e, f)
theorem bRT_some {τ σ : Type} {o : Option (τ ⊕ String)} {k : τ → Option (σ ⊕ String)} {r : σ ⊕ String} (h : bRT o k = some r) : (∃ x, o = some (.inl x) ∧ k x = some r) ∨ ∃ e, o = some (.inr e) ∧ r = .inr e := by
  cases o with
  | none => cases h
  | some q =>
    cases q with
    | inl x => exact Or.inl ⟨x, rfl, h⟩
    | inr e => cases h; exact Or.inr ⟨e, rfl, rfl⟩
theorem bRW_some {τ σ : Type} {o : Option (τ ⊕ String)} {f : HF} {k : τ → Option ((σ ⊕ String) × HF)} {r : (σ ⊕ String) × HF} (h : bRW o f k = some r) : (∃ x, o = some (.inl x) ∧ k x = some r) ∨ ∃ e, o = some (.inr e) ∧ r = (.inr e, f) := by
  cases o with
  | none => cases h
  | some q =>
    cases q with
    | inl x => exact Or.inl ⟨x, rfl, h⟩
    | inr e => cases h; exact Or.inr ⟨e, rfl, rfl⟩
theorem bWW_some {τ σ : Type} {o : Option ((τ ⊕ String) × HF)} {k : τ → HF → Option ((σ ⊕ String) × HF)} {r : (σ ⊕ String) × HF} (h : bWW o k = some r) : (∃ x f, o = some (.inl x, f) ∧ k x f = some r) ∨ ∃ e f, o = some (.inr e, f) ∧ r = (.inr e, f) := by
  cases o with
  | none => cases h
  | some q =>
    obtain ⟨q1, q2⟩ := q
    cases q1 with
    | inl x => exact Or.inl ⟨x, q2, rfl, h⟩
    | inr e => cases h; exact Or.inr ⟨e, q2, rfl, rfl⟩
theorem if_some {α : Type} {c : Prop} {inst : Decidable c} {x : Option α} {r : α} (h : (if c then x else none) = some r) : c ∧ x = some r := by
  by_cases e : c
  · rw [if_pos e] at h
    exact ⟨e, h⟩
  · rw [if_neg e] at h
    cases h
section RS
variable {l : Launch} {g : GT} {sc : State → Prop} {μ : MT} {d : Nat} {ρ : RT} {pc : Nat} {ls ls1 : List (Nat × Value)} {st rest : List Value} {f f1 : HF} {sz sz1 : Option Nat} {y : MethodName} {cc : ByteArray} {nL idx n d1 ci : Nat} {rt : Option FieldType} {b : Nat} {As : List Value} {u : Unit}
theorem v_aald {a t x : Nat} {i : Int32} (hd : decode μ.2.1 pc = .ok (.aaload, 1)) (ht : t = 3 ∨ t = 4) (h : aR f a t i = some x) (k : V l g sc μ d ρ (pc + 1) ls (.ref x :: st) f sz 0 0) : V l g sc μ d ρ pc ls (.int i :: .ref a :: st) f sz 0 0 := by
  intro p e R s m args below meth c H locs LS C hw hS hl
  obtain ⟨n, z, hf, hin, hz⟩ := aR_some h
  obtain ⟨hA, hat⟩ := hw.1 a _ hf
  have hlt : i.toNatClampNeg < n := Nat.not_le.mp fun q => hin (Or.inr q)
  have hK := C.2.2.2.2.2.2.2.2.2.1.1
  have kk := k p e R s m args below meth c H locs LS C hw hS hl
  have e9 : Value.ref x = va_rf (z i.toNatClampNeg) := by rw [hz]; rfl
  rw [e9] at kk
  rcases ht with rfl | rfl
  · exact W.aald (v := va_rf (z i.toNatClampNeg)) (ty := .object "FormFields$Field") C.1 C.2.1 hat ((hK.2 3 _ rfl).1 n (fun j => va_rf (z j))) rfl (fun q => by cases q) (by show ¬ (i < 0 ∨ (arrV _ _ _).slots.size ≤ _); rw [arrV_size]; exact hin) (by show (arrV _ _ _).slots[_]? = _; rw [arrV_read _ _ hlt]) rfl rfl hd kk
  · exact W.aald (v := va_rf (z i.toNatClampNeg)) (ty := .array .int) C.1 C.2.1 hat ((hK.2 4 _ rfl).1 n (fun j => va_rf (z j))) rfl (fun q => by cases q) (by show ¬ (i < 0 ∨ (arrV _ _ _).slots.size ≤ _); rw [arrV_size]; exact hin) (by show (arrV _ _ _).slots[_]? = _; rw [arrV_read _ _ hlt]) rfl rfl hd kk
theorem v_pI {idx ci k : Nat} {a : Nat} {x : Int32} (hd : decode μ.2.1 pc = .ok (.putfield idx, 3)) (F : FP μ.1 idx ci k .int) (h : pV f a ci k (.int x) = some f1) (k : V l g sc μ d ρ (pc + 3) ls st f1 sz 0 0) : V l g sc μ d ρ pc ls (.int x :: .ref a :: st) f sz 0 0 := v_putV hd F rfl rfl h k
theorem v_pL {idx ci k : Nat} {a : Nat} {x : Int64} (hd : decode μ.2.1 pc = .ok (.putfield idx, 3)) (F : FP μ.1 idx ci k .long) (h : pV f a ci k (.long x) = some f1) (k : V l g sc μ d ρ (pc + 3) ls st f1 sz 0 0) : V l g sc μ d ρ pc ls (.long x :: .ref a :: st) f sz 0 0 := v_putV hd F rfl rfl h k
theorem v_pZ {idx ci k : Nat} {a : Nat} {x : Int32} (hd : decode μ.2.1 pc = .ok (.putfield idx, 3)) (F : FP μ.1 idx ci k .boolean) (hB : isB x) (h : pV f a ci k (.int x) = some f1) (k : V l g sc μ d ρ (pc + 3) ls st f1 sz 0 0) : V l g sc μ d ρ pc ls (.int x :: .ref a :: st) f sz 0 0 := v_putV hd F (by rcases hB with rfl | rfl <;> rfl) (by rcases hB with rfl | rfl <;> rfl) h k
theorem v_cVI {x : Int32} (hd : decode μ.2.1 pc = .ok (.invokevirtual idx, 3)) (ML : mlV μ.1 idx y) (hm : mOk y cc nL rt n) (hM : Mt l g y cc nL rt d1 (.ref b :: As) f sz (.inl (some (.int x)), f1, sz, 0, 0)) (hck : ck f b ci = some u) (hci : (cl9[ci]?).map (fun r => r.1) = some y.cls) (hd1 : d1 + 1 ≤ d) (hn : As.length = n) (hst : st = As.reverse ++ .ref b :: rest) (hrm : (rest.map fun v => v.category).sum ≤ 8) (k : V l g sc μ d ρ (pc + 3) ls (.int x :: rest) f1 sz 0 0) : V l g sc μ d ρ pc ls st f sz 0 0 := v_callV hd ML hm hM hck hci hd1 hn hst hrm ⟨Nat.zero_le _, Nat.zero_le _⟩ k
theorem v_cVL {x : Int64} (hd : decode μ.2.1 pc = .ok (.invokevirtual idx, 3)) (ML : mlV μ.1 idx y) (hm : mOk y cc nL rt n) (hM : Mt l g y cc nL rt d1 (.ref b :: As) f sz (.inl (some (.long x)), f1, sz, 0, 0)) (hck : ck f b ci = some u) (hci : (cl9[ci]?).map (fun r => r.1) = some y.cls) (hd1 : d1 + 1 ≤ d) (hn : As.length = n) (hst : st = As.reverse ++ .ref b :: rest) (hrm : (rest.map fun v => v.category).sum ≤ 8) (k : V l g sc μ d ρ (pc + 3) ls (.long x :: rest) f1 sz 0 0) : V l g sc μ d ρ pc ls st f sz 0 0 := v_callV hd ML hm hM hck hci hd1 hn hst hrm ⟨Nat.zero_le _, Nat.zero_le _⟩ k
theorem v_cVR {x : Nat} (hd : decode μ.2.1 pc = .ok (.invokevirtual idx, 3)) (ML : mlV μ.1 idx y) (hm : mOk y cc nL rt n) (hM : Mt l g y cc nL rt d1 (.ref b :: As) f sz (.inl (some (.ref x)), f1, sz, 0, 0)) (hck : ck f b ci = some u) (hci : (cl9[ci]?).map (fun r => r.1) = some y.cls) (hd1 : d1 + 1 ≤ d) (hn : As.length = n) (hst : st = As.reverse ++ .ref b :: rest) (hrm : (rest.map fun v => v.category).sum ≤ 8) (k : V l g sc μ d ρ (pc + 3) ls (.ref x :: rest) f1 sz 0 0) : V l g sc μ d ρ pc ls st f sz 0 0 := v_callV hd ML hm hM hck hci hd1 hn hst hrm ⟨Nat.zero_le _, Nat.zero_le _⟩ k
theorem v_cVU (hd : decode μ.2.1 pc = .ok (.invokevirtual idx, 3)) (ML : mlV μ.1 idx y) (hm : mOk y cc nL rt n) (hM : Mt l g y cc nL rt d1 (.ref b :: As) f sz (.inl none, f1, sz, 0, 0)) (hck : ck f b ci = some u) (hci : (cl9[ci]?).map (fun r => r.1) = some y.cls) (hd1 : d1 + 1 ≤ d) (hn : As.length = n) (hst : st = As.reverse ++ .ref b :: rest) (hrm : (rest.map fun v => v.category).sum ≤ 8) (k : V l g sc μ d ρ (pc + 3) ls rest f1 sz 0 0) : V l g sc μ d ρ pc ls st f sz 0 0 := v_callV hd ML hm hM hck hci hd1 hn hst hrm ⟨Nat.zero_le _, Nat.zero_le _⟩ k
theorem v_cVx {E : String} (hd : decode μ.2.1 pc = .ok (.invokevirtual idx, 3)) (ML : mlV μ.1 idx y) (hm : mOk y cc nL rt n) (hM : Mt l g y cc nL rt d1 (.ref b :: As) f sz (.inr E, f1, none, 1, 6)) (hck : ck f b ci = some u) (hci : (cl9[ci]?).map (fun r => r.1) = some y.cls) (hd1 : d1 + 1 ≤ d) (hn : As.length = n) (hst : st = As.reverse ++ .ref b :: rest) (hrm : (rest.map fun v => v.category).sum ≤ 8) (hh : μ.2.2.2.2.1 = []) (hr : ρ = (.inr E, f1, none, 1, 6)) : V l g sc μ d ρ pc ls st f sz 0 0 := by
  subst hr
  exact v_callVx hd ML hm hM hck hci hd1 hn hst hrm ⟨Nat.le_refl _, Nat.le_refl _⟩ hh rfl rfl
theorem v_cSI {x : Int32} (hd : decode μ.2.1 pc = .ok (.invokestatic idx, 3)) (ML : mlS μ.1 idx y) (hm : mOk y cc nL rt n) (hM : Mt l g y cc nL rt d1 As f sz (.inl (some (.int x)), f1, sz, 0, 0)) (hd1 : d1 + 1 ≤ d) (hn : As.length = n) (hst : st = As.reverse ++ rest) (hrm : (rest.map fun v => v.category).sum ≤ 8) (k : V l g sc μ d ρ (pc + 3) ls (.int x :: rest) f1 sz 0 0) : V l g sc μ d ρ pc ls st f sz 0 0 := v_callS hd ML hm hM hd1 hn hst hrm ⟨Nat.zero_le _, Nat.zero_le _⟩ k
theorem v_cSL {x : Int64} (hd : decode μ.2.1 pc = .ok (.invokestatic idx, 3)) (ML : mlS μ.1 idx y) (hm : mOk y cc nL rt n) (hM : Mt l g y cc nL rt d1 As f sz (.inl (some (.long x)), f1, sz, 0, 0)) (hd1 : d1 + 1 ≤ d) (hn : As.length = n) (hst : st = As.reverse ++ rest) (hrm : (rest.map fun v => v.category).sum ≤ 8) (k : V l g sc μ d ρ (pc + 3) ls (.long x :: rest) f1 sz 0 0) : V l g sc μ d ρ pc ls st f sz 0 0 := v_callS hd ML hm hM hd1 hn hst hrm ⟨Nat.zero_le _, Nat.zero_le _⟩ k
theorem v_cSU (hd : decode μ.2.1 pc = .ok (.invokestatic idx, 3)) (ML : mlS μ.1 idx y) (hm : mOk y cc nL rt n) (hM : Mt l g y cc nL rt d1 As f sz (.inl none, f1, sz, 0, 0)) (hd1 : d1 + 1 ≤ d) (hn : As.length = n) (hst : st = As.reverse ++ rest) (hrm : (rest.map fun v => v.category).sum ≤ 8) (k : V l g sc μ d ρ (pc + 3) ls rest f1 sz 0 0) : V l g sc μ d ρ pc ls st f sz 0 0 := v_callS hd ML hm hM hd1 hn hst hrm ⟨Nat.zero_le _, Nat.zero_le _⟩ k
theorem v_thr {E : String} {names : List String} {ik ic : Nat} (d0 : decode μ.2.1 pc = .ok (.new ik, 3)) (d3 : decode μ.2.1 (pc + 3) = .ok (.dup, 1)) (d4 : decode μ.2.1 (pc + 4) = .ok (.invokespecial ic, 3)) (d7 : decode μ.2.1 (pc + 7) = .ok (.athrow, 1)) (T : thr μ.1 ik ic E names) (hd : 8 ≤ d) (hh : μ.2.2.2.2.1 = []) (hrm : (st.map fun v => v.category).sum ≤ 8) (hr : ρ = (.inr E, f, none, 1, 6)) : V l g sc μ d ρ pc ls st f sz 0 0 := v_throw d0 d3 d4 d7 T hd hh hrm hr
end RS
end
section
/-! facts of the tables -/
theorem fl_X9_12 : FL RX9 12 8 0 := ⟨_, rfl, by decide, Or.inl (tbm (tt_2 8 (by rfl)) rfl)⟩
theorem ff_X9_12 : FF RX9 12 8 0 (.object "FormFields$Tree") := ⟨_, rfl, by decide, tbm (tt_2 8 (by rfl)) rfl, rfl, rfl, by decide +kernel⟩
theorem fl_X9_21 : FL RX9 21 8 1 := ⟨_, rfl, by decide, Or.inl (tbm (tt_2 9 (by rfl)) rfl)⟩
theorem ff_X9_21 : FF RX9 21 8 1 (.object "FormFields$View") := ⟨_, rfl, by decide, tbm (tt_2 9 (by rfl)) rfl, rfl, rfl, by decide +kernel⟩
theorem fl_X9_30 : FL RX9 30 8 2 := ⟨_, rfl, by decide, Or.inl (tbm (tt_2 10 (by rfl)) rfl)⟩
theorem ff_X9_30 : FF RX9 30 8 2 (.object "FormFields$Calculator") := ⟨_, rfl, by decide, tbm (tt_2 10 (by rfl)) rfl, rfl, rfl, by decide +kernel⟩
theorem fl_X9_37 : FL RX9 37 8 3 := ⟨_, rfl, by decide, Or.inl (tbm (tt_2 11 (by rfl)) rfl)⟩
theorem ff_X9_37 : FF RX9 37 8 3 (.object "FormFields$Writer") := ⟨_, rfl, by decide, tbm (tt_2 11 (by rfl)) rfl, rfl, rfl, by decide +kernel⟩
theorem fl_X9_44 : FL RX9 44 8 4 := ⟨_, rfl, by decide, Or.inl (tbm (tt_2 12 (by rfl)) rfl)⟩
theorem ff_X9_44 : FF RX9 44 8 4 (.object "FormFields$Reader") := ⟨_, rfl, by decide, tbm (tt_2 12 (by rfl)) rfl, rfl, rfl, by decide +kernel⟩
theorem fl_X9_53 : FL RX9 53 8 5 := ⟨_, rfl, by decide, Or.inl (tbm (tt_2 13 (by rfl)) rfl)⟩
theorem ff_X9_53 : FF RX9 53 8 5 (.object "FormFields$Marks") := ⟨_, rfl, by decide, tbm (tt_2 13 (by rfl)) rfl, rfl, rfl, by decide +kernel⟩
theorem fl_X9_57 : FL RX9 57 8 6 := ⟨_, rfl, by decide, Or.inl (tbm (tt_2 14 (by rfl)) rfl)⟩
theorem ff_X9_57 : FF RX9 57 8 6 (.object "FormFields$Marks") := ⟨_, rfl, by decide, tbm (tt_2 14 (by rfl)) rfl, rfl, rfl, by decide +kernel⟩
theorem fl_X9_64 : FL RX9 64 1 4 := ⟨_, rfl, by decide, Or.inr ⟨"FormFields", nbm (tt_1 78 (by rfl)) rfl⟩⟩
theorem fp_X9_64 : FP RX9 64 1 4 (.int) := ⟨_, rfl, by decide, Or.inr ⟨"FormFields", nbm (tt_1 78 (by rfl)) rfl⟩, rfl, by decide +kernel⟩
theorem fl_X9_73 : FL RX9 73 1 1 := ⟨_, rfl, by decide, Or.inr ⟨"FormFields", nbm (tt_1 67 (by rfl)) rfl⟩⟩
theorem fp_X9_73 : FP RX9 73 1 1 (.int) := ⟨_, rfl, by decide, Or.inr ⟨"FormFields", nbm (tt_1 67 (by rfl)) rfl⟩, rfl, by decide +kernel⟩
theorem fl_X9_94 : FL RX9 94 1 6 := ⟨_, rfl, by decide, Or.inr ⟨"FormFields", nbm (tt_1 83 (by rfl)) rfl⟩⟩
theorem fp_X9_94 : FP RX9 94 1 6 (.boolean) := ⟨_, rfl, by decide, Or.inr ⟨"FormFields", nbm (tt_1 83 (by rfl)) rfl⟩, rfl, by decide +kernel⟩
theorem fl_X9_98 : FL RX9 98 1 5 := ⟨_, rfl, by decide, Or.inr ⟨"FormFields", nbm (tt_1 82 (by rfl)) rfl⟩⟩
theorem fp_X9_98 : FP RX9 98 1 5 (.boolean) := ⟨_, rfl, by decide, Or.inr ⟨"FormFields", nbm (tt_1 82 (by rfl)) rfl⟩, rfl, by decide +kernel⟩
theorem fl_X9_116 : FL RX9 116 1 9 := ⟨_, rfl, by decide, Or.inr ⟨"FormFields", nbm (tt_1 94 (by rfl)) rfl⟩⟩
theorem fl_X9_147 : FL RX9 147 1 11 := ⟨_, rfl, by decide, Or.inr ⟨"FormFields", nbm (tt_1 102 (by rfl)) rfl⟩⟩
theorem fp_X9_147 : FP RX9 147 1 11 (.long) := ⟨_, rfl, by decide, Or.inr ⟨"FormFields", nbm (tt_1 102 (by rfl)) rfl⟩, rfl, by decide +kernel⟩
theorem fl_X9_151 : FL RX9 151 1 12 := ⟨_, rfl, by decide, Or.inr ⟨"FormFields", nbm (tt_1 104 (by rfl)) rfl⟩⟩
theorem fp_X9_151 : FP RX9 151 1 12 (.long) := ⟨_, rfl, by decide, Or.inr ⟨"FormFields", nbm (tt_1 104 (by rfl)) rfl⟩, rfl, by decide +kernel⟩
theorem fl_X9_158 : FL RX9 158 1 13 := ⟨_, rfl, by decide, Or.inr ⟨"FormFields", nbm (tt_1 106 (by rfl)) rfl⟩⟩
theorem fp_X9_158 : FP RX9 158 1 13 (.int) := ⟨_, rfl, by decide, Or.inr ⟨"FormFields", nbm (tt_1 106 (by rfl)) rfl⟩, rfl, by decide +kernel⟩
theorem fl_X9_161 : FL RX9 161 1 14 := ⟨_, rfl, by decide, Or.inr ⟨"FormFields", nbm (tt_1 108 (by rfl)) rfl⟩⟩
theorem fp_X9_161 : FP RX9 161 1 14 (.int) := ⟨_, rfl, by decide, Or.inr ⟨"FormFields", nbm (tt_1 108 (by rfl)) rfl⟩, rfl, by decide +kernel⟩
theorem fl_X9_164 : FL RX9 164 1 15 := ⟨_, rfl, by decide, Or.inr ⟨"FormFields", nbm (tt_1 110 (by rfl)) rfl⟩⟩
theorem fp_X9_164 : FP RX9 164 1 15 (.int) := ⟨_, rfl, by decide, Or.inr ⟨"FormFields", nbm (tt_1 110 (by rfl)) rfl⟩, rfl, by decide +kernel⟩
theorem fl_X9_170 : FL RX9 170 0 4 := ⟨_, rfl, by decide, Or.inr ⟨"FormFields", nbm (tt_1 181 (by rfl)) rfl⟩⟩
theorem fl_X9_181 : FL RX9 181 1 16 := ⟨_, rfl, by decide, Or.inr ⟨"FormFields", nbm (tt_1 112 (by rfl)) rfl⟩⟩
theorem fp_X9_181 : FP RX9 181 1 16 (.boolean) := ⟨_, rfl, by decide, Or.inr ⟨"FormFields", nbm (tt_1 112 (by rfl)) rfl⟩, rfl, by decide +kernel⟩
theorem fl_X9_213 : FL RX9 213 7 1 := ⟨_, rfl, by decide, Or.inr ⟨"FormFields", nbm (tt_1 204 (by rfl)) rfl⟩⟩
theorem fl_X9_222 : FL RX9 222 3 1 := ⟨_, rfl, by decide, Or.inr ⟨"FormFields", nbm (tt_1 223 (by rfl)) rfl⟩⟩
theorem fl_X1_9 : FL RX1 9 0 1 := ⟨_, rfl, by decide, Or.inl (tbm (tt_1 177 (by rfl)) rfl)⟩
theorem ff_X1_9 : FF RX1 9 0 1 (.array .long) := ⟨_, rfl, by decide, tbm (tt_1 177 (by rfl)) rfl, rfl, rfl, by decide +kernel⟩
theorem fl_X1_15 : FL RX1 15 0 2 := ⟨_, rfl, by decide, Or.inl (tbm (tt_1 178 (by rfl)) rfl)⟩
theorem ff_X1_15 : FF RX1 15 0 2 (.array .long) := ⟨_, rfl, by decide, tbm (tt_1 178 (by rfl)) rfl, rfl, rfl, by decide +kernel⟩
theorem fl_X1_23 : FL RX1 23 0 3 := ⟨_, rfl, by decide, Or.inl (tbm (tt_1 179 (by rfl)) rfl)⟩
theorem ff_X1_23 : FF RX1 23 0 3 (.object "FormFields$Row") := ⟨_, rfl, by decide, tbm (tt_1 179 (by rfl)) rfl, rfl, rfl, by decide +kernel⟩
theorem fl_X1_27 : FL RX1 27 0 4 := ⟨_, rfl, by decide, Or.inl (tbm (tt_1 180 (by rfl)) rfl)⟩
theorem ff_X1_27 : FF RX1 27 0 4 (.object "FormFields$Row") := ⟨_, rfl, by decide, tbm (tt_1 180 (by rfl)) rfl, rfl, rfl, by decide +kernel⟩
theorem fl_X1_30 : FL RX1 30 0 0 := ⟨_, rfl, by decide, Or.inl (tbm (tt_1 176 (by rfl)) rfl)⟩
theorem ff_X1_30 : FF RX1 30 0 0 (.object "FormFields$Tree") := ⟨_, rfl, by decide, tbm (tt_1 176 (by rfl)) rfl, rfl, rfl, by decide +kernel⟩
theorem fl_X1_44 : FL RX1 44 1 1 := ⟨_, rfl, by decide, Or.inr ⟨"FormFields", nbm (tt_1 68 (by rfl)) rfl⟩⟩
theorem fp_X1_44 : FP RX1 44 1 1 (.int) := ⟨_, rfl, by decide, Or.inr ⟨"FormFields", nbm (tt_1 68 (by rfl)) rfl⟩, rfl, by decide +kernel⟩
theorem fl_X1_85 : FL RX1 85 1 13 := ⟨_, rfl, by decide, Or.inr ⟨"FormFields", nbm (tt_1 107 (by rfl)) rfl⟩⟩
theorem fp_X1_85 : FP RX1 85 1 13 (.int) := ⟨_, rfl, by decide, Or.inr ⟨"FormFields", nbm (tt_1 107 (by rfl)) rfl⟩, rfl, by decide +kernel⟩
theorem fl_X1_88 : FL RX1 88 1 14 := ⟨_, rfl, by decide, Or.inr ⟨"FormFields", nbm (tt_1 109 (by rfl)) rfl⟩⟩
theorem fp_X1_88 : FP RX1 88 1 14 (.int) := ⟨_, rfl, by decide, Or.inr ⟨"FormFields", nbm (tt_1 109 (by rfl)) rfl⟩, rfl, by decide +kernel⟩
theorem fl_X1_91 : FL RX1 91 1 4 := ⟨_, rfl, by decide, Or.inr ⟨"FormFields", nbm (tt_1 81 (by rfl)) rfl⟩⟩
theorem fp_X1_91 : FP RX1 91 1 4 (.int) := ⟨_, rfl, by decide, Or.inr ⟨"FormFields", nbm (tt_1 81 (by rfl)) rfl⟩, rfl, by decide +kernel⟩
theorem fl_X1_94 : FL RX1 94 1 15 := ⟨_, rfl, by decide, Or.inr ⟨"FormFields", nbm (tt_1 111 (by rfl)) rfl⟩⟩
theorem fp_X1_94 : FP RX1 94 1 15 (.int) := ⟨_, rfl, by decide, Or.inr ⟨"FormFields", nbm (tt_1 111 (by rfl)) rfl⟩, rfl, by decide +kernel⟩
theorem fl_X1_130 : FL RX1 130 1 8 := ⟨_, rfl, by decide, Or.inr ⟨"FormFields", nbm (tt_1 91 (by rfl)) rfl⟩⟩
theorem fl_X1_141 : FL RX1 141 1 16 := ⟨_, rfl, by decide, Or.inr ⟨"FormFields", nbm (tt_1 113 (by rfl)) rfl⟩⟩
theorem fp_X1_141 : FP RX1 141 1 16 (.boolean) := ⟨_, rfl, by decide, Or.inr ⟨"FormFields", nbm (tt_1 113 (by rfl)) rfl⟩, rfl, by decide +kernel⟩
theorem fl_X2_9 : FL RX2 9 1 7 := ⟨_, rfl, by decide, Or.inl (tbm (tt_1 85 (by rfl)) rfl)⟩
theorem ff_X2_9 : FF RX2 9 1 7 (.array .int) := ⟨_, rfl, by decide, tbm (tt_1 85 (by rfl)) rfl, rfl, rfl, by decide +kernel⟩
theorem fl_X2_20 : FL RX2 20 1 8 := ⟨_, rfl, by decide, Or.inl (tbm (tt_1 87 (by rfl)) rfl)⟩
theorem ff_X2_20 : FF RX2 20 1 8 (.object "FormFields$Row") := ⟨_, rfl, by decide, tbm (tt_1 87 (by rfl)) rfl, rfl, rfl, by decide +kernel⟩
theorem fl_X2_24 : FL RX2 24 1 9 := ⟨_, rfl, by decide, Or.inl (tbm (tt_1 92 (by rfl)) rfl)⟩
theorem ff_X2_24 : FF RX2 24 1 9 (.object "FormFields$Row") := ⟨_, rfl, by decide, tbm (tt_1 92 (by rfl)) rfl, rfl, rfl, by decide +kernel⟩
theorem fl_X2_29 : FL RX2 29 1 11 := ⟨_, rfl, by decide, Or.inl (tbm (tt_1 101 (by rfl)) rfl)⟩
theorem fp_X2_29 : FP RX2 29 1 11 (.long) := ⟨_, rfl, by decide, Or.inl (tbm (tt_1 101 (by rfl)) rfl), rfl, by decide +kernel⟩
theorem fl_X2_35 : FL RX2 35 1 12 := ⟨_, rfl, by decide, Or.inl (tbm (tt_1 103 (by rfl)) rfl)⟩
theorem fp_X2_35 : FP RX2 35 1 12 (.long) := ⟨_, rfl, by decide, Or.inl (tbm (tt_1 103 (by rfl)) rfl), rfl, by decide +kernel⟩
theorem fl_X2_38 : FL RX2 38 1 13 := ⟨_, rfl, by decide, Or.inl (tbm (tt_1 105 (by rfl)) rfl)⟩
theorem fp_X2_38 : FP RX2 38 1 13 (.int) := ⟨_, rfl, by decide, Or.inl (tbm (tt_1 105 (by rfl)) rfl), rfl, by decide +kernel⟩
theorem fl_X2_42 : FL RX2 42 1 0 := ⟨_, rfl, by decide, Or.inl (tbm (tt_1 63 (by rfl)) rfl)⟩
theorem fp_X2_42 : FP RX2 42 1 0 (.int) := ⟨_, rfl, by decide, Or.inl (tbm (tt_1 63 (by rfl)) rfl), rfl, by decide +kernel⟩
theorem fl_X2_45 : FL RX2 45 1 2 := ⟨_, rfl, by decide, Or.inl (tbm (tt_1 72 (by rfl)) rfl)⟩
theorem fp_X2_45 : FP RX2 45 1 2 (.int) := ⟨_, rfl, by decide, Or.inl (tbm (tt_1 72 (by rfl)) rfl), rfl, by decide +kernel⟩
theorem fl_X2_48 : FL RX2 48 1 1 := ⟨_, rfl, by decide, Or.inl (tbm (tt_1 66 (by rfl)) rfl)⟩
theorem fp_X2_48 : FP RX2 48 1 1 (.int) := ⟨_, rfl, by decide, Or.inl (tbm (tt_1 66 (by rfl)) rfl), rfl, by decide +kernel⟩
theorem fl_X2_51 : FL RX2 51 1 3 := ⟨_, rfl, by decide, Or.inl (tbm (tt_1 75 (by rfl)) rfl)⟩
theorem fp_X2_51 : FP RX2 51 1 3 (.int) := ⟨_, rfl, by decide, Or.inl (tbm (tt_1 75 (by rfl)) rfl), rfl, by decide +kernel⟩
theorem fl_X2_54 : FL RX2 54 1 4 := ⟨_, rfl, by decide, Or.inl (tbm (tt_1 79 (by rfl)) rfl)⟩
theorem fp_X2_54 : FP RX2 54 1 4 (.int) := ⟨_, rfl, by decide, Or.inl (tbm (tt_1 79 (by rfl)) rfl), rfl, by decide +kernel⟩
theorem fl_X2_61 : FL RX2 61 1 10 := ⟨_, rfl, by decide, Or.inl (tbm (tt_1 97 (by rfl)) rfl)⟩
theorem fp_X2_61 : FP RX2 61 1 10 (.int) := ⟨_, rfl, by decide, Or.inl (tbm (tt_1 97 (by rfl)) rfl), rfl, by decide +kernel⟩
theorem fl_X3_15 : FL RX3 15 2 1 := ⟨_, rfl, by decide, Or.inl (tbm (tt_1 239 (by rfl)) rfl)⟩
theorem ff_X3_15 : FF RX3 15 2 1 (.int) := ⟨_, rfl, by decide, tbm (tt_1 239 (by rfl)) rfl, rfl, rfl, by decide +kernel⟩
theorem fl_X3_23 : FL RX3 23 2 0 := ⟨_, rfl, by decide, Or.inl (tbm (tt_1 238 (by rfl)) rfl)⟩
theorem ff_X3_23 : FF RX3 23 2 0 (.array (.array .int)) := ⟨_, rfl, by decide, tbm (tt_1 238 (by rfl)) rfl, rfl, rfl, by decide +kernel⟩
theorem fl_X3_26 : FL RX3 26 2 2 := ⟨_, rfl, by decide, Or.inl (tbm (tt_2 0 (by rfl)) rfl)⟩
theorem fp_X3_26 : FP RX3 26 2 2 (.int) := ⟨_, rfl, by decide, Or.inl (tbm (tt_2 0 (by rfl)) rfl), rfl, by decide +kernel⟩
theorem fl_X4_14 : FL RX4 14 3 1 := ⟨_, rfl, by decide, Or.inl (tbm (tt_1 222 (by rfl)) rfl)⟩
theorem ff_X4_14 : FF RX4 14 3 1 (.object "FormFields$Row") := ⟨_, rfl, by decide, tbm (tt_1 222 (by rfl)) rfl, rfl, rfl, by decide +kernel⟩
theorem fl_X4_20 : FL RX4 20 3 0 := ⟨_, rfl, by decide, Or.inl (tbm (tt_1 221 (by rfl)) rfl)⟩
theorem ff_X4_20 : FF RX4 20 3 0 (.object "FormFields$Tree") := ⟨_, rfl, by decide, tbm (tt_1 221 (by rfl)) rfl, rfl, rfl, by decide +kernel⟩
theorem fl_X4_65 : FL RX4 65 1 6 := ⟨_, rfl, by decide, Or.inr ⟨"FormFields", nbm (tt_1 84 (by rfl)) rfl⟩⟩
theorem fp_X4_65 : FP RX4 65 1 6 (.boolean) := ⟨_, rfl, by decide, Or.inr ⟨"FormFields", nbm (tt_1 84 (by rfl)) rfl⟩, rfl, by decide +kernel⟩
theorem fl_X4_79 : FL RX4 79 1 8 := ⟨_, rfl, by decide, Or.inr ⟨"FormFields", nbm (tt_1 90 (by rfl)) rfl⟩⟩
theorem fl_X4_86 : FL RX4 86 1 1 := ⟨_, rfl, by decide, Or.inr ⟨"FormFields", nbm (tt_1 71 (by rfl)) rfl⟩⟩
theorem fp_X4_86 : FP RX4 86 1 1 (.int) := ⟨_, rfl, by decide, Or.inr ⟨"FormFields", nbm (tt_1 71 (by rfl)) rfl⟩, rfl, by decide +kernel⟩
theorem fl_X4_90 : FL RX4 90 1 10 := ⟨_, rfl, by decide, Or.inr ⟨"FormFields", nbm (tt_1 100 (by rfl)) rfl⟩⟩
theorem fp_X4_90 : FP RX4 90 1 10 (.int) := ⟨_, rfl, by decide, Or.inr ⟨"FormFields", nbm (tt_1 100 (by rfl)) rfl⟩, rfl, by decide +kernel⟩
theorem fl_X4_93 : FL RX4 93 1 9 := ⟨_, rfl, by decide, Or.inr ⟨"FormFields", nbm (tt_1 96 (by rfl)) rfl⟩⟩
theorem fl_X5_15 : FL RX5 15 4 0 := ⟨_, rfl, by decide, Or.inl (tbm (tt_1 53 (by rfl)) rfl)⟩
theorem ff_X5_15 : FF RX5 15 4 0 (.array .int) := ⟨_, rfl, by decide, tbm (tt_1 53 (by rfl)) rfl, rfl, rfl, by decide +kernel⟩
theorem fl_X5_21 : FL RX5 21 4 1 := ⟨_, rfl, by decide, Or.inl (tbm (tt_1 54 (by rfl)) rfl)⟩
theorem fp_X5_21 : FP RX5 21 4 1 (.int) := ⟨_, rfl, by decide, Or.inl (tbm (tt_1 54 (by rfl)) rfl), rfl, by decide +kernel⟩
theorem fl_X6_11 : FL RX6 11 5 0 := ⟨_, rfl, by decide, Or.inl (tbm (tt_1 149 (by rfl)) rfl)⟩
theorem ff_X6_11 : FF RX6 11 5 0 (.array (.object "FormFields$Field")) := ⟨_, rfl, by decide, tbm (tt_1 149 (by rfl)) rfl, rfl, rfl, by decide +kernel⟩
theorem fl_X6_18 : FL RX6 18 5 1 := ⟨_, rfl, by decide, Or.inl (tbm (tt_1 150 (by rfl)) rfl)⟩
theorem fp_X6_18 : FP RX6 18 5 1 (.int) := ⟨_, rfl, by decide, Or.inl (tbm (tt_1 150 (by rfl)) rfl), rfl, by decide +kernel⟩
theorem fl_X6_29 : FL RX6 29 1 4 := ⟨_, rfl, by decide, Or.inr ⟨"FormFields", nbm (tt_1 80 (by rfl)) rfl⟩⟩
theorem fp_X6_29 : FP RX6 29 1 4 (.int) := ⟨_, rfl, by decide, Or.inr ⟨"FormFields", nbm (tt_1 80 (by rfl)) rfl⟩, rfl, by decide +kernel⟩
theorem fl_X6_39 : FL RX6 39 1 2 := ⟨_, rfl, by decide, Or.inr ⟨"FormFields", nbm (tt_1 74 (by rfl)) rfl⟩⟩
theorem fp_X6_39 : FP RX6 39 1 2 (.int) := ⟨_, rfl, by decide, Or.inr ⟨"FormFields", nbm (tt_1 74 (by rfl)) rfl⟩, rfl, by decide +kernel⟩
theorem fl_X6_42 : FL RX6 42 1 3 := ⟨_, rfl, by decide, Or.inr ⟨"FormFields", nbm (tt_1 77 (by rfl)) rfl⟩⟩
theorem fp_X6_42 : FP RX6 42 1 3 (.int) := ⟨_, rfl, by decide, Or.inr ⟨"FormFields", nbm (tt_1 77 (by rfl)) rfl⟩, rfl, by decide +kernel⟩
theorem fl_X6_45 : FL RX6 45 1 1 := ⟨_, rfl, by decide, Or.inr ⟨"FormFields", nbm (tt_1 70 (by rfl)) rfl⟩⟩
theorem fp_X6_45 : FP RX6 45 1 1 (.int) := ⟨_, rfl, by decide, Or.inr ⟨"FormFields", nbm (tt_1 70 (by rfl)) rfl⟩, rfl, by decide +kernel⟩
theorem fl_X7_14 : FL RX7 14 6 0 := ⟨_, rfl, by decide, Or.inl (tbm (tt_1 164 (by rfl)) rfl)⟩
theorem ff_X7_14 : FF RX7 14 6 0 (.object "FormFields$Row") := ⟨_, rfl, by decide, tbm (tt_1 164 (by rfl)) rfl, rfl, rfl, by decide +kernel⟩
theorem fl_X7_23 : FL RX7 23 1 1 := ⟨_, rfl, by decide, Or.inr ⟨"FormFields", nbm (tt_1 65 (by rfl)) rfl⟩⟩
theorem fp_X7_23 : FP RX7 23 1 1 (.int) := ⟨_, rfl, by decide, Or.inr ⟨"FormFields", nbm (tt_1 65 (by rfl)) rfl⟩, rfl, by decide +kernel⟩
theorem fl_X7_29 : FL RX7 29 1 8 := ⟨_, rfl, by decide, Or.inr ⟨"FormFields", nbm (tt_1 88 (by rfl)) rfl⟩⟩
theorem fl_X7_38 : FL RX7 38 1 10 := ⟨_, rfl, by decide, Or.inr ⟨"FormFields", nbm (tt_1 98 (by rfl)) rfl⟩⟩
theorem fp_X7_38 : FP RX7 38 1 10 (.int) := ⟨_, rfl, by decide, Or.inr ⟨"FormFields", nbm (tt_1 98 (by rfl)) rfl⟩, rfl, by decide +kernel⟩
theorem fl_X7_45 : FL RX7 45 1 9 := ⟨_, rfl, by decide, Or.inr ⟨"FormFields", nbm (tt_1 93 (by rfl)) rfl⟩⟩
theorem fl_X7_71 : FL RX7 71 1 7 := ⟨_, rfl, by decide, Or.inr ⟨"FormFields", nbm (tt_1 86 (by rfl)) rfl⟩⟩
theorem fl_X7_95 : FL RX7 95 1 0 := ⟨_, rfl, by decide, Or.inr ⟨"FormFields", nbm (tt_1 64 (by rfl)) rfl⟩⟩
theorem fp_X7_95 : FP RX7 95 1 0 (.int) := ⟨_, rfl, by decide, Or.inr ⟨"FormFields", nbm (tt_1 64 (by rfl)) rfl⟩, rfl, by decide +kernel⟩
theorem fl_X8_14 : FL RX8 14 7 1 := ⟨_, rfl, by decide, Or.inl (tbm (tt_1 203 (by rfl)) rfl)⟩
theorem ff_X8_14 : FF RX8 14 7 1 (.object "FormFields$Row") := ⟨_, rfl, by decide, tbm (tt_1 203 (by rfl)) rfl, rfl, rfl, by decide +kernel⟩
theorem fl_X8_20 : FL RX8 20 7 2 := ⟨_, rfl, by decide, Or.inl (tbm (tt_1 205 (by rfl)) rfl)⟩
theorem ff_X8_20 : FF RX8 20 7 2 (.object "FormFields$Row") := ⟨_, rfl, by decide, tbm (tt_1 205 (by rfl)) rfl, rfl, rfl, by decide +kernel⟩
theorem fl_X8_23 : FL RX8 23 7 0 := ⟨_, rfl, by decide, Or.inl (tbm (tt_1 202 (by rfl)) rfl)⟩
theorem ff_X8_23 : FF RX8 23 7 0 (.object "FormFields$Tree") := ⟨_, rfl, by decide, tbm (tt_1 202 (by rfl)) rfl, rfl, rfl, by decide +kernel⟩
theorem fl_X8_55 : FL RX8 55 1 3 := ⟨_, rfl, by decide, Or.inr ⟨"FormFields", nbm (tt_1 76 (by rfl)) rfl⟩⟩
theorem fp_X8_55 : FP RX8 55 1 3 (.int) := ⟨_, rfl, by decide, Or.inr ⟨"FormFields", nbm (tt_1 76 (by rfl)) rfl⟩, rfl, by decide +kernel⟩
theorem fl_X8_61 : FL RX8 61 1 2 := ⟨_, rfl, by decide, Or.inr ⟨"FormFields", nbm (tt_1 73 (by rfl)) rfl⟩⟩
theorem fp_X8_61 : FP RX8 61 1 2 (.int) := ⟨_, rfl, by decide, Or.inr ⟨"FormFields", nbm (tt_1 73 (by rfl)) rfl⟩, rfl, by decide +kernel⟩
theorem fl_X8_77 : FL RX8 77 1 8 := ⟨_, rfl, by decide, Or.inr ⟨"FormFields", nbm (tt_1 89 (by rfl)) rfl⟩⟩
theorem fl_X8_84 : FL RX8 84 1 1 := ⟨_, rfl, by decide, Or.inr ⟨"FormFields", nbm (tt_1 69 (by rfl)) rfl⟩⟩
theorem fp_X8_84 : FP RX8 84 1 1 (.int) := ⟨_, rfl, by decide, Or.inr ⟨"FormFields", nbm (tt_1 69 (by rfl)) rfl⟩, rfl, by decide +kernel⟩
theorem fl_X8_87 : FL RX8 87 1 10 := ⟨_, rfl, by decide, Or.inr ⟨"FormFields", nbm (tt_1 99 (by rfl)) rfl⟩⟩
theorem fp_X8_87 : FP RX8 87 1 10 (.int) := ⟨_, rfl, by decide, Or.inr ⟨"FormFields", nbm (tt_1 99 (by rfl)) rfl⟩, rfl, by decide +kernel⟩
theorem fl_X8_90 : FL RX8 90 1 9 := ⟨_, rfl, by decide, Or.inr ⟨"FormFields", nbm (tt_1 95 (by rfl)) rfl⟩⟩
theorem fl_X10_7 : FL RX10 7 9 2 := ⟨_, rfl, by decide, Or.inl (tbm (tt_5 27 (by rfl)) rfl)⟩
theorem ff_X10_7 : FF RX10 7 9 2 (.array .int) := ⟨_, rfl, by decide, tbm (tt_5 27 (by rfl)) rfl, rfl, rfl, by decide +kernel⟩
theorem fl_X10_13 : FL RX10 13 9 3 := ⟨_, rfl, by decide, Or.inl (tbm (tt_5 28 (by rfl)) rfl)⟩
theorem ff_X10_13 : FF RX10 13 9 3 (.array .int) := ⟨_, rfl, by decide, tbm (tt_5 28 (by rfl)) rfl, rfl, rfl, by decide +kernel⟩
theorem fl_X10_16 : FL RX10 16 9 4 := ⟨_, rfl, by decide, Or.inl (tbm (tt_5 29 (by rfl)) rfl)⟩
theorem ff_X10_16 : FF RX10 16 9 4 (.array .int) := ⟨_, rfl, by decide, tbm (tt_5 29 (by rfl)) rfl, rfl, rfl, by decide +kernel⟩
theorem fl_X10_19 : FL RX10 19 9 5 := ⟨_, rfl, by decide, Or.inl (tbm (tt_5 30 (by rfl)) rfl)⟩
theorem ff_X10_19 : FF RX10 19 9 5 (.array .int) := ⟨_, rfl, by decide, tbm (tt_5 30 (by rfl)) rfl, rfl, rfl, by decide +kernel⟩
theorem fl_X10_22 : FL RX10 22 9 6 := ⟨_, rfl, by decide, Or.inl (tbm (tt_5 31 (by rfl)) rfl)⟩
theorem ff_X10_22 : FF RX10 22 9 6 (.array .int) := ⟨_, rfl, by decide, tbm (tt_5 31 (by rfl)) rfl, rfl, rfl, by decide +kernel⟩
theorem fl_X10_25 : FL RX10 25 9 7 := ⟨_, rfl, by decide, Or.inl (tbm (tt_5 32 (by rfl)) rfl)⟩
theorem ff_X10_25 : FF RX10 25 9 7 (.array .int) := ⟨_, rfl, by decide, tbm (tt_5 32 (by rfl)) rfl, rfl, rfl, by decide +kernel⟩
theorem fl_X10_28 : FL RX10 28 9 8 := ⟨_, rfl, by decide, Or.inl (tbm (tt_5 33 (by rfl)) rfl)⟩
theorem ff_X10_28 : FF RX10 28 9 8 (.array .int) := ⟨_, rfl, by decide, tbm (tt_5 33 (by rfl)) rfl, rfl, rfl, by decide +kernel⟩
theorem fl_X10_31 : FL RX10 31 9 9 := ⟨_, rfl, by decide, Or.inl (tbm (tt_5 34 (by rfl)) rfl)⟩
theorem ff_X10_31 : FF RX10 31 9 9 (.array .boolean) := ⟨_, rfl, by decide, tbm (tt_5 34 (by rfl)) rfl, rfl, rfl, by decide +kernel⟩
theorem fl_X10_35 : FL RX10 35 9 10 := ⟨_, rfl, by decide, Or.inl (tbm (tt_5 35 (by rfl)) rfl)⟩
theorem ff_X10_35 : FF RX10 35 9 10 (.array .int) := ⟨_, rfl, by decide, tbm (tt_5 35 (by rfl)) rfl, rfl, rfl, by decide +kernel⟩
theorem fl_X10_38 : FL RX10 38 9 11 := ⟨_, rfl, by decide, Or.inl (tbm (tt_5 36 (by rfl)) rfl)⟩
theorem ff_X10_38 : FF RX10 38 9 11 (.array .int) := ⟨_, rfl, by decide, tbm (tt_5 36 (by rfl)) rfl, rfl, rfl, by decide +kernel⟩
theorem fl_X10_41 : FL RX10 41 9 12 := ⟨_, rfl, by decide, Or.inl (tbm (tt_5 37 (by rfl)) rfl)⟩
theorem ff_X10_41 : FF RX10 41 9 12 (.array .int) := ⟨_, rfl, by decide, tbm (tt_5 37 (by rfl)) rfl, rfl, rfl, by decide +kernel⟩
theorem fl_X10_44 : FL RX10 44 9 13 := ⟨_, rfl, by decide, Or.inl (tbm (tt_5 38 (by rfl)) rfl)⟩
theorem ff_X10_44 : FF RX10 44 9 13 (.array .int) := ⟨_, rfl, by decide, tbm (tt_5 38 (by rfl)) rfl, rfl, rfl, by decide +kernel⟩
theorem fl_X10_47 : FL RX10 47 9 14 := ⟨_, rfl, by decide, Or.inl (tbm (tt_5 39 (by rfl)) rfl)⟩
theorem ff_X10_47 : FF RX10 47 9 14 (.array .int) := ⟨_, rfl, by decide, tbm (tt_5 39 (by rfl)) rfl, rfl, rfl, by decide +kernel⟩
theorem fl_X10_50 : FL RX10 50 9 15 := ⟨_, rfl, by decide, Or.inl (tbm (tt_5 40 (by rfl)) rfl)⟩
theorem ff_X10_50 : FF RX10 50 9 15 (.array .int) := ⟨_, rfl, by decide, tbm (tt_5 40 (by rfl)) rfl, rfl, rfl, by decide +kernel⟩
theorem fl_X10_53 : FL RX10 53 9 16 := ⟨_, rfl, by decide, Or.inl (tbm (tt_5 41 (by rfl)) rfl)⟩
theorem ff_X10_53 : FF RX10 53 9 16 (.array .long) := ⟨_, rfl, by decide, tbm (tt_5 41 (by rfl)) rfl, rfl, rfl, by decide +kernel⟩
theorem fl_X10_57 : FL RX10 57 9 17 := ⟨_, rfl, by decide, Or.inl (tbm (tt_5 42 (by rfl)) rfl)⟩
theorem ff_X10_57 : FF RX10 57 9 17 (.array .long) := ⟨_, rfl, by decide, tbm (tt_5 42 (by rfl)) rfl, rfl, rfl, by decide +kernel⟩
theorem fl_X10_60 : FL RX10 60 9 18 := ⟨_, rfl, by decide, Or.inl (tbm (tt_5 43 (by rfl)) rfl)⟩
theorem ff_X10_60 : FF RX10 60 9 18 (.array .int) := ⟨_, rfl, by decide, tbm (tt_5 43 (by rfl)) rfl, rfl, rfl, by decide +kernel⟩
theorem fl_X10_63 : FL RX10 63 9 19 := ⟨_, rfl, by decide, Or.inl (tbm (tt_5 44 (by rfl)) rfl)⟩
theorem ff_X10_63 : FF RX10 63 9 19 (.array .int) := ⟨_, rfl, by decide, tbm (tt_5 44 (by rfl)) rfl, rfl, rfl, by decide +kernel⟩
theorem fl_X10_66 : FL RX10 66 9 20 := ⟨_, rfl, by decide, Or.inl (tbm (tt_5 45 (by rfl)) rfl)⟩
theorem ff_X10_66 : FF RX10 66 9 20 (.array .int) := ⟨_, rfl, by decide, tbm (tt_5 45 (by rfl)) rfl, rfl, rfl, by decide +kernel⟩
theorem fl_X10_69 : FL RX10 69 9 21 := ⟨_, rfl, by decide, Or.inl (tbm (tt_5 46 (by rfl)) rfl)⟩
theorem ff_X10_69 : FF RX10 69 9 21 (.array .boolean) := ⟨_, rfl, by decide, tbm (tt_5 46 (by rfl)) rfl, rfl, rfl, by decide +kernel⟩
theorem fl_X10_72 : FL RX10 72 9 22 := ⟨_, rfl, by decide, Or.inl (tbm (tt_5 47 (by rfl)) rfl)⟩
theorem ff_X10_72 : FF RX10 72 9 22 (.array .boolean) := ⟨_, rfl, by decide, tbm (tt_5 47 (by rfl)) rfl, rfl, rfl, by decide +kernel⟩
theorem fl_X10_75 : FL RX10 75 9 23 := ⟨_, rfl, by decide, Or.inl (tbm (tt_5 48 (by rfl)) rfl)⟩
theorem ff_X10_75 : FF RX10 75 9 23 (.array .boolean) := ⟨_, rfl, by decide, tbm (tt_5 48 (by rfl)) rfl, rfl, rfl, by decide +kernel⟩
theorem fl_X10_78 : FL RX10 78 9 24 := ⟨_, rfl, by decide, Or.inl (tbm (tt_5 49 (by rfl)) rfl)⟩
theorem ff_X10_78 : FF RX10 78 9 24 (.array .boolean) := ⟨_, rfl, by decide, tbm (tt_5 49 (by rfl)) rfl, rfl, rfl, by decide +kernel⟩
theorem fl_X10_81 : FL RX10 81 9 25 := ⟨_, rfl, by decide, Or.inl (tbm (tt_5 50 (by rfl)) rfl)⟩
theorem ff_X10_81 : FF RX10 81 9 25 (.array .int) := ⟨_, rfl, by decide, tbm (tt_5 50 (by rfl)) rfl, rfl, rfl, by decide +kernel⟩
theorem fl_X10_84 : FL RX10 84 9 27 := ⟨_, rfl, by decide, Or.inl (tbm (tt_5 52 (by rfl)) rfl)⟩
theorem ff_X10_84 : FF RX10 84 9 27 (.array .int) := ⟨_, rfl, by decide, tbm (tt_5 52 (by rfl)) rfl, rfl, rfl, by decide +kernel⟩
theorem fl_X10_87 : FL RX10 87 9 29 := ⟨_, rfl, by decide, Or.inl (tbm (tt_5 54 (by rfl)) rfl)⟩
theorem ff_X10_87 : FF RX10 87 9 29 (.array .int) := ⟨_, rfl, by decide, tbm (tt_5 54 (by rfl)) rfl, rfl, rfl, by decide +kernel⟩
theorem fl_X10_90 : FL RX10 90 9 31 := ⟨_, rfl, by decide, Or.inl (tbm (tt_5 56 (by rfl)) rfl)⟩
theorem ff_X10_90 : FF RX10 90 9 31 (.array .int) := ⟨_, rfl, by decide, tbm (tt_5 56 (by rfl)) rfl, rfl, rfl, by decide +kernel⟩
theorem fl_X10_93 : FL RX10 93 9 32 := ⟨_, rfl, by decide, Or.inl (tbm (tt_5 57 (by rfl)) rfl)⟩
theorem ff_X10_93 : FF RX10 93 9 32 (.array .int) := ⟨_, rfl, by decide, tbm (tt_5 57 (by rfl)) rfl, rfl, rfl, by decide +kernel⟩
theorem fl_X10_96 : FL RX10 96 9 34 := ⟨_, rfl, by decide, Or.inl (tbm (tt_5 59 (by rfl)) rfl)⟩
theorem ff_X10_96 : FF RX10 96 9 34 (.array .int) := ⟨_, rfl, by decide, tbm (tt_5 59 (by rfl)) rfl, rfl, rfl, by decide +kernel⟩
theorem fl_X10_99 : FL RX10 99 9 36 := ⟨_, rfl, by decide, Or.inl (tbm (tt_5 61 (by rfl)) rfl)⟩
theorem ff_X10_99 : FF RX10 99 9 36 (.array .int) := ⟨_, rfl, by decide, tbm (tt_5 61 (by rfl)) rfl, rfl, rfl, by decide +kernel⟩
theorem fl_X10_102 : FL RX10 102 9 0 := ⟨_, rfl, by decide, Or.inl (tbm (tt_5 25 (by rfl)) rfl)⟩
theorem fp_X10_102 : FP RX10 102 9 0 (.int) := ⟨_, rfl, by decide, Or.inl (tbm (tt_5 25 (by rfl)) rfl), rfl, by decide +kernel⟩
theorem fl_X10_106 : FL RX10 106 9 1 := ⟨_, rfl, by decide, Or.inl (tbm (tt_5 26 (by rfl)) rfl)⟩
theorem fp_X10_106 : FP RX10 106 9 1 (.int) := ⟨_, rfl, by decide, Or.inl (tbm (tt_5 26 (by rfl)) rfl), rfl, by decide +kernel⟩
theorem fl_X10_180 : FL RX10 180 9 28 := ⟨_, rfl, by decide, Or.inl (tbm (tt_5 53 (by rfl)) rfl)⟩
theorem fp_X10_180 : FP RX10 180 9 28 (.int) := ⟨_, rfl, by decide, Or.inl (tbm (tt_5 53 (by rfl)) rfl), rfl, by decide +kernel⟩
theorem fl_X10_229 : FL RX10 229 9 26 := ⟨_, rfl, by decide, Or.inl (tbm (tt_5 51 (by rfl)) rfl)⟩
theorem fp_X10_229 : FP RX10 229 9 26 (.int) := ⟨_, rfl, by decide, Or.inl (tbm (tt_5 51 (by rfl)) rfl), rfl, by decide +kernel⟩
theorem fl_X10_276 : FL RX10 276 9 30 := ⟨_, rfl, by decide, Or.inl (tbm (tt_5 55 (by rfl)) rfl)⟩
theorem fp_X10_276 : FP RX10 276 9 30 (.int) := ⟨_, rfl, by decide, Or.inl (tbm (tt_5 55 (by rfl)) rfl), rfl, by decide +kernel⟩
theorem fl_X10_279 : FL RX10 279 9 33 := ⟨_, rfl, by decide, Or.inl (tbm (tt_5 58 (by rfl)) rfl)⟩
theorem fp_X10_279 : FP RX10 279 9 33 (.int) := ⟨_, rfl, by decide, Or.inl (tbm (tt_5 58 (by rfl)) rfl), rfl, by decide +kernel⟩
theorem fl_X10_284 : FL RX10 284 9 35 := ⟨_, rfl, by decide, Or.inl (tbm (tt_5 60 (by rfl)) rfl)⟩
theorem fp_X10_284 : FP RX10 284 9 35 (.int) := ⟨_, rfl, by decide, Or.inl (tbm (tt_5 60 (by rfl)) rfl), rfl, by decide +kernel⟩
theorem fl_X10_299 : FL RX10 299 9 37 := ⟨_, rfl, by decide, Or.inl (tbm (tt_5 62 (by rfl)) rfl)⟩
theorem fp_X10_299 : FP RX10 299 9 37 (.int) := ⟨_, rfl, by decide, Or.inl (tbm (tt_5 62 (by rfl)) rfl), rfl, by decide +kernel⟩
theorem ml_X9_11 : mlI RX9 11 yX6_init := ⟨Or.inl (tbm (tt_1 33 (by rfl)) rfl), tbm (tt_1 34 (by rfl)) rfl, tbm (tt_1 2 (by rfl)) rfl, rfl⟩
theorem ml_X9_20 : mlI RX9 20 yX7_init := ⟨Or.inr ⟨"FormFields", nbm (tt_1 158 (by rfl)) rfl⟩, tbm (tt_1 159 (by rfl)) rfl, tbm (tt_1 6 (by rfl)) rfl, rfl⟩
theorem ml_X9_27 : mlI RX9 27 yX1_init := ⟨Or.inl (tbm (tt_1 170 (by rfl)) rfl), tbm (tt_1 171 (by rfl)) rfl, tbm (tt_1 7 (by rfl)) rfl, rfl⟩
theorem ml_X9_36 : mlI RX9 36 yX8_init := ⟨Or.inl (tbm (tt_1 196 (by rfl)) rfl), tbm (tt_1 197 (by rfl)) rfl, tbm (tt_1 8 (by rfl)) rfl, rfl⟩
theorem ml_X9_43 : mlI RX9 43 yX4_init := ⟨Or.inl (tbm (tt_1 215 (by rfl)) rfl), tbm (tt_1 216 (by rfl)) rfl, tbm (tt_1 9 (by rfl)) rfl, rfl⟩
theorem ml_X9_50 : mlI RX9 50 yX3_init := ⟨Or.inl (tbm (tt_1 231 (by rfl)) rfl), tbm (tt_1 232 (by rfl)) rfl, tbm (tt_1 10 (by rfl)) rfl, rfl⟩
theorem ml_X9_60 : mlV RX9 60 yX6_get := ⟨tbm (tt_3 60 (by rfl)) rfl, tbm (tt_2 47 (by rfl)) rfl, tbm (tt_2 48 (by rfl)) rfl, tbm (tt_1 2 (by rfl)) rfl⟩
theorem ml_X9_76 : mlV RX9 76 yX6_firstNamed := ⟨tbm (tt_3 76 (by rfl)) rfl, tbm (tt_3 77 (by rfl)) rfl, tbm (tt_3 78 (by rfl)) rfl, tbm (tt_1 2 (by rfl)) rfl⟩
theorem ml_X9_83 : mlV RX9 83 yX6_add := ⟨tbm (tt_3 95 (by rfl)) rfl, tbm (tt_3 96 (by rfl)) rfl, tbm (tt_3 97 (by rfl)) rfl, tbm (tt_1 2 (by rfl)) rfl⟩
theorem ml_X9_87 : mlV RX9 87 yX6_masterOf := ⟨tbm (tt_3 129 (by rfl)) rfl, tbm (tt_2 188 (by rfl)) rfl, tbm (tt_2 189 (by rfl)) rfl, tbm (tt_1 2 (by rfl)) rfl⟩
theorem ml_X9_90 : mlV RX9 90 yX2_couldTake := ⟨tbm (tt_3 130 (by rfl)) rfl, tbm (tt_3 131 (by rfl)) rfl, tbm (tt_3 132 (by rfl)) rfl, tbm (tt_1 3 (by rfl)) rfl⟩
theorem ml_X9_101 : mlV RX9 101 yX2_hasSigns := ⟨tbm (tt_3 147 (by rfl)) rfl, tbm (tt_3 41 (by rfl)) rfl, tbm (tt_3 42 (by rfl)) rfl, tbm (tt_1 3 (by rfl)) rfl⟩
theorem ml_X9_105 : mlV RX9 105 yX2_takeSign := ⟨tbm (tt_3 148 (by rfl)) rfl, tbm (tt_3 149 (by rfl)) rfl, tbm (tt_3 150 (by rfl)) rfl, tbm (tt_1 3 (by rfl)) rfl⟩
theorem ml_X9_109 : mlV RX9 109 yX2_pick := ⟨tbm (tt_3 161 (by rfl)) rfl, tbm (tt_3 162 (by rfl)) rfl, tbm (tt_3 163 (by rfl)) rfl, tbm (tt_1 3 (by rfl)) rfl⟩
theorem ml_X9_112 : mlV RX9 112 yX2_hasOptions := ⟨tbm (tt_3 172 (by rfl)) rfl, tbm (tt_3 119 (by rfl)) rfl, tbm (tt_3 120 (by rfl)) rfl, tbm (tt_1 3 (by rfl)) rfl⟩
theorem ml_X9_120 : mlV RX9 120 yX5_find := ⟨tbm (tt_3 174 (by rfl)) rfl, tbm (tt_3 175 (by rfl)) rfl, tbm (tt_3 176 (by rfl)) rfl, tbm (tt_1 4 (by rfl)) rfl⟩
theorem ml_X9_125 : mlV RX9 125 yX5_add := ⟨tbm (tt_3 178 (by rfl)) rfl, tbm (tt_2 217 (by rfl)) rfl, tbm (tt_2 218 (by rfl)) rfl, tbm (tt_1 4 (by rfl)) rfl⟩
theorem ml_X9_130 : mlV RX9 130 yX5_count := ⟨tbm (tt_3 181 (by rfl)) rfl, tbm (tt_2 169 (by rfl)) rfl, tbm (tt_2 170 (by rfl)) rfl, tbm (tt_1 4 (by rfl)) rfl⟩
theorem ml_X9_134 : mlV RX9 134 yX2_maySetTo := ⟨tbm (tt_3 189 (by rfl)) rfl, tbm (tt_3 190 (by rfl)) rfl, tbm (tt_3 191 (by rfl)) rfl, tbm (tt_1 3 (by rfl)) rfl⟩
theorem ml_X9_138 : mlV RX9 138 yX2_change := ⟨tbm (tt_3 194 (by rfl)) rfl, tbm (tt_3 195 (by rfl)) rfl, tbm (tt_3 196 (by rfl)) rfl, tbm (tt_1 3 (by rfl)) rfl⟩
theorem ml_X9_141 : mlS RX9 141 yX0_isBeyond := ⟨tbm (tt_3 205 (by rfl)) rfl, tbm (tt_2 212 (by rfl)) rfl, tbm (tt_1 19 (by rfl)) rfl⟩
theorem ml_X9_154 : mlV RX9 154 yX1_mayWorkWith := ⟨tbm (tt_3 213 (by rfl)) rfl, tbm (tt_3 214 (by rfl)) rfl, tbm (tt_3 215 (by rfl)) rfl, tbm (tt_1 7 (by rfl)) rfl⟩
theorem ml_X9_167 : mlV RX9 167 yX1_workOutAll := ⟨tbm (tt_2 34 (by rfl)) rfl, tbm (tt_2 35 (by rfl)) rfl, tbm (tt_2 36 (by rfl)) rfl, tbm (tt_1 7 (by rfl)) rfl⟩
theorem ml_X9_173 : mlV RX9 173 yX5_has := ⟨tbm (tt_4 20 (by rfl)) rfl, tbm (tt_3 46 (by rfl)) rfl, tbm (tt_3 47 (by rfl)) rfl, tbm (tt_1 4 (by rfl)) rfl⟩
theorem ml_X9_179 : mlV RX9 179 yX5_get := ⟨tbm (tt_4 36 (by rfl)) rfl, tbm (tt_2 173 (by rfl)) rfl, tbm (tt_2 174 (by rfl)) rfl, tbm (tt_1 4 (by rfl)) rfl⟩
theorem ml_X9_184 : mlV RX9 184 yX7_show := ⟨tbm (tt_4 51 (by rfl)) rfl, tbm (tt_4 52 (by rfl)) rfl, tbm (tt_4 53 (by rfl)) rfl, tbm (tt_1 6 (by rfl)) rfl⟩
theorem ml_X9_188 : mlV RX9 188 yX9_masterWithValue := ⟨tbm (tt_4 84 (by rfl)) rfl, tbm (tt_4 86 (by rfl)) rfl, tbp 12 (by rfl) rfl, tbm (tt_1 1 (by rfl)) rfl⟩
theorem ml_X9_191 : mlV RX9 191 yX7_fittingSize := ⟨tbm (tt_4 88 (by rfl)) rfl, tbm (tt_4 89 (by rfl)) rfl, tbm (tt_4 90 (by rfl)) rfl, tbm (tt_1 6 (by rfl)) rfl⟩
theorem ml_X9_195 : mlV RX9 195 yX2_verdict := ⟨tbm (tt_4 103 (by rfl)) rfl, tbm (tt_4 104 (by rfl)) rfl, tbm (tt_4 105 (by rfl)) rfl, tbm (tt_1 3 (by rfl)) rfl⟩
theorem ml_X9_198 : mlV RX9 198 yX3_clear := ⟨tbm (tt_4 119 (by rfl)) rfl, tbm (tt_4 120 (by rfl)) rfl, tbm (tt_4 121 (by rfl)) rfl, tbm (tt_1 10 (by rfl)) rfl⟩
theorem ml_X9_201 : mlV RX9 201 yX7_addMarks := ⟨tbm (tt_4 123 (by rfl)) rfl, tbm (tt_4 124 (by rfl)) rfl, tbm (tt_4 125 (by rfl)) rfl, tbm (tt_1 6 (by rfl)) rfl⟩
theorem ml_X9_205 : mlV RX9 205 yX3_count := ⟨tbm (tt_4 140 (by rfl)) rfl, tbm (tt_4 141 (by rfl)) rfl, tbm (tt_4 142 (by rfl)) rfl, tbm (tt_1 10 (by rfl)) rfl⟩
theorem ml_X9_206 : mlV RX9 206 yX3_has := ⟨tbm (tt_4 151 (by rfl)) rfl, tbm (tt_4 152 (by rfl)) rfl, tbm (tt_4 153 (by rfl)) rfl, tbm (tt_1 10 (by rfl)) rfl⟩
theorem ml_X9_208 : mlV RX9 208 yX3_get := ⟨tbm (tt_4 155 (by rfl)) rfl, tbm (tt_4 156 (by rfl)) rfl, tbm (tt_4 157 (by rfl)) rfl, tbm (tt_1 10 (by rfl)) rfl⟩
theorem ml_X9_210 : mlV RX9 210 yX8_writeAll := ⟨tbm (tt_3 17 (by rfl)) rfl, tbm (tt_3 18 (by rfl)) rfl, tbm (tt_3 19 (by rfl)) rfl, tbm (tt_1 8 (by rfl)) rfl⟩
theorem ml_X9_218 : mlI RX9 218 yJx00060_init_da8c8 := ⟨Or.inl (tbm (tt_4 183 (by rfl)) rfl), tbm (tt_4 184 (by rfl)) rfl, tbm (tt_1 21 (by rfl)) rfl, rfl⟩
theorem ml_X9_219 : mlV RX9 219 yX4_readAll := ⟨tbm (tt_4 194 (by rfl)) rfl, tbm (tt_4 195 (by rfl)) rfl, tbm (tt_4 196 (by rfl)) rfl, tbm (tt_1 9 (by rfl)) rfl⟩
theorem ml_X0_13 : mlV RX0 13 yX5_count := ⟨tbm (tt_2 168 (by rfl)) rfl, tbm (tt_2 169 (by rfl)) rfl, tbm (tt_2 170 (by rfl)) rfl, tbm (tt_1 4 (by rfl)) rfl⟩
theorem ml_X0_19 : mlV RX0 19 yX5_get := ⟨tbm (tt_2 172 (by rfl)) rfl, tbm (tt_2 173 (by rfl)) rfl, tbm (tt_2 174 (by rfl)) rfl, tbm (tt_1 4 (by rfl)) rfl⟩
theorem ml_X0_23 : mlS RX0 23 yX0_isDigit := ⟨tbm (tt_2 176 (by rfl)) rfl, tbm (tt_2 177 (by rfl)) rfl, tbm (tt_1 19 (by rfl)) rfl⟩
theorem ml_X0_35 : mlS RX0 35 yX0_partOf := ⟨tbm (tt_2 182 (by rfl)) rfl, tbm (tt_2 183 (by rfl)) rfl, tbm (tt_1 19 (by rfl)) rfl⟩
theorem ml_X0_41 : mlS RX0 41 yX0_cut := ⟨tbm (tt_2 227 (by rfl)) rfl, tbm (tt_2 228 (by rfl)) rfl, tbm (tt_1 19 (by rfl)) rfl⟩
theorem ml_X0_45 : mlS RX0 45 yX0_digitSign := ⟨tbm (tt_2 230 (by rfl)) rfl, tbm (tt_2 231 (by rfl)) rfl, tbm (tt_1 19 (by rfl)) rfl⟩
theorem ml_X0_49 : mlV RX0 49 yX5_add := ⟨tbm (tt_2 223 (by rfl)) rfl, tbm (tt_2 217 (by rfl)) rfl, tbm (tt_2 218 (by rfl)) rfl, tbm (tt_1 4 (by rfl)) rfl⟩
theorem ml_X0_52 : mlS RX0 52 yJ9_abs_067f4 := ⟨tbm (tt_2 198 (by rfl)) rfl, tbm (tt_2 199 (by rfl)) rfl, tbm (tt_1 5 (by rfl)) rfl⟩
theorem ml_X0_58 : mlS RX0 58 yX0_addNumber := ⟨tbm (tt_2 224 (by rfl)) rfl, tbm (tt_2 225 (by rfl)) rfl, tbm (tt_1 19 (by rfl)) rfl⟩
theorem ml_X0_62 : mlS RX0 62 yX0_addPart := ⟨tbm (tt_2 233 (by rfl)) rfl, tbm (tt_2 234 (by rfl)) rfl, tbm (tt_1 19 (by rfl)) rfl⟩
theorem ml_X0_66 : mlS RX0 66 yX0_halfOfLast := ⟨tbm (tt_4 67 (by rfl)) rfl, tbm (tt_4 68 (by rfl)) rfl, tbm (tt_1 19 (by rfl)) rfl⟩
theorem ml_X0_76 : mlS RX0 76 yX0_product := ⟨tbm (tt_2 194 (by rfl)) rfl, tbm (tt_2 195 (by rfl)) rfl, tbm (tt_1 19 (by rfl)) rfl⟩
theorem ml_X0_80 : mlS RX0 80 yJ9_min_f86c9 := ⟨tbm (tt_2 201 (by rfl)) rfl, tbm (tt_2 202 (by rfl)) rfl, tbm (tt_1 5 (by rfl)) rfl⟩
theorem ml_X0_83 : mlS RX0 83 yJ9_max_f86c9 := ⟨tbm (tt_2 204 (by rfl)) rfl, tbm (tt_2 205 (by rfl)) rfl, tbm (tt_1 5 (by rfl)) rfl⟩
theorem ml_X1_20 : mlI RX1 20 yX5_init := ⟨Or.inl (tbm (tt_1 175 (by rfl)) rfl), tbm (tt_1 47 (by rfl)) rfl, tbm (tt_1 4 (by rfl)) rfl, rfl⟩
theorem ml_X1_34 : mlV RX1 34 yX6_get := ⟨tbm (tt_2 46 (by rfl)) rfl, tbm (tt_2 47 (by rfl)) rfl, tbm (tt_2 48 (by rfl)) rfl, tbm (tt_1 2 (by rfl)) rfl⟩
theorem ml_X1_40 : mlS RX1 40 yX1_canBeReckoned := ⟨tbm (tt_3 217 (by rfl)) rfl, tbm (tt_3 218 (by rfl)) rfl, tbm (tt_1 7 (by rfl)) rfl⟩
theorem ml_X1_50 : mlV RX1 50 yX1_gatherNeeds := ⟨tbm (tt_2 38 (by rfl)) rfl, tbm (tt_2 40 (by rfl)) rfl, tbp 0 (by rfl) rfl, tbm (tt_1 7 (by rfl)) rfl⟩
theorem ml_X1_54 : mlV RX1 54 yX1_leastInRing := ⟨tbm (tt_2 133 (by rfl)) rfl, tbm (tt_2 135 (by rfl)) rfl, tbp 4 (by rfl) rfl, tbm (tt_1 7 (by rfl)) rfl⟩
theorem ml_X1_58 : mlV RX1 58 yX5_clear := ⟨tbm (tt_2 143 (by rfl)) rfl, tbm (tt_2 144 (by rfl)) rfl, tbm (tt_2 145 (by rfl)) rfl, tbm (tt_1 4 (by rfl)) rfl⟩
theorem ml_X1_61 : mlV RX1 61 yX1_leastReady := ⟨tbm (tt_2 147 (by rfl)) rfl, tbm (tt_2 149 (by rfl)) rfl, tbp 5 (by rfl) rfl, tbm (tt_1 7 (by rfl)) rfl⟩
theorem ml_X1_65 : mlV RX1 65 yX1_resultOf := ⟨tbm (tt_2 151 (by rfl)) rfl, tbm (tt_2 153 (by rfl)) rfl, tbp 6 (by rfl) rfl, tbm (tt_1 7 (by rfl)) rfl⟩
theorem ml_X1_69 : mlV RX1 69 yX1_writeResult := ⟨tbm (tt_2 207 (by rfl)) rfl, tbm (tt_2 209 (by rfl)) rfl, tbp 8 (by rfl) rfl, tbm (tt_1 7 (by rfl)) rfl⟩
theorem ml_X1_73 : mlS RX1 73 yX1_bit := ⟨tbm (tt_2 121 (by rfl)) rfl, tbm (tt_2 122 (by rfl)) rfl, tbm (tt_1 7 (by rfl)) rfl⟩
theorem ml_X1_79 : mlV RX1 79 yX6_count := ⟨tbm (tt_2 42 (by rfl)) rfl, tbm (tt_2 43 (by rfl)) rfl, tbm (tt_2 44 (by rfl)) rfl, tbm (tt_1 2 (by rfl)) rfl⟩
theorem ml_X1_82 : mlV RX1 82 yX1_needsOf := ⟨tbm (tt_2 117 (by rfl)) rfl, tbm (tt_2 119 (by rfl)) rfl, tbp 2 (by rfl) rfl, tbm (tt_1 7 (by rfl)) rfl⟩
theorem ml_X1_97 : mlV RX1 97 yX1_numbersIn := ⟨tbm (tt_2 124 (by rfl)) rfl, tbm (tt_2 126 (by rfl)) rfl, tbp 3 (by rfl) rfl, tbm (tt_1 7 (by rfl)) rfl⟩
theorem ml_X1_100 : mlV RX1 100 yX6_isInside := ⟨tbm (tt_2 128 (by rfl)) rfl, tbm (tt_2 129 (by rfl)) rfl, tbm (tt_2 130 (by rfl)) rfl, tbm (tt_1 2 (by rfl)) rfl⟩
theorem ml_X1_104 : mlS RX1 104 yJ9_min_7cf53 := ⟨tbm (tt_2 137 (by rfl)) rfl, tbm (tt_2 138 (by rfl)) rfl, tbm (tt_1 5 (by rfl)) rfl⟩
theorem ml_X1_110 : mlS RX1 110 yX1_isIn := ⟨tbm (tt_2 140 (by rfl)) rfl, tbm (tt_2 141 (by rfl)) rfl, tbm (tt_1 7 (by rfl)) rfl⟩
theorem ml_X1_116 : mlS RX1 116 yX0_isBeyond := ⟨tbm (tt_2 211 (by rfl)) rfl, tbm (tt_2 212 (by rfl)) rfl, tbm (tt_1 19 (by rfl)) rfl⟩
theorem ml_X1_122 : mlV RX1 122 yX5_add := ⟨tbm (tt_2 216 (by rfl)) rfl, tbm (tt_2 217 (by rfl)) rfl, tbm (tt_2 218 (by rfl)) rfl, tbm (tt_1 4 (by rfl)) rfl⟩
theorem ml_X1_126 : mlS RX1 126 yX0_addWritten := ⟨tbm (tt_2 220 (by rfl)) rfl, tbm (tt_2 221 (by rfl)) rfl, tbm (tt_1 19 (by rfl)) rfl⟩
theorem ml_X1_133 : mlV RX1 133 yX5_isSameAs := ⟨tbm (tt_2 236 (by rfl)) rfl, tbm (tt_2 237 (by rfl)) rfl, tbm (tt_2 238 (by rfl)) rfl, tbm (tt_1 4 (by rfl)) rfl⟩
theorem ml_X1_137 : mlV RX1 137 yX5_become := ⟨tbm (tt_3 2 (by rfl)) rfl, tbm (tt_3 3 (by rfl)) rfl, tbm (tt_3 4 (by rfl)) rfl, tbm (tt_1 4 (by rfl)) rfl⟩
theorem ml_X1_145 : mlV RX1 145 yX1_sumOf := ⟨tbm (tt_2 156 (by rfl)) rfl, tbm (tt_2 158 (by rfl)) rfl, tbp 7 (by rfl) rfl, tbm (tt_1 7 (by rfl)) rfl⟩
theorem ml_X1_149 : mlV RX1 149 yX6_masterOf := ⟨tbm (tt_2 187 (by rfl)) rfl, tbm (tt_2 188 (by rfl)) rfl, tbm (tt_2 189 (by rfl)) rfl, tbm (tt_1 2 (by rfl)) rfl⟩
theorem ml_X1_152 : mlV RX1 152 yX2_amount := ⟨tbm (tt_2 160 (by rfl)) rfl, tbm (tt_2 161 (by rfl)) rfl, tbm (tt_2 162 (by rfl)) rfl, tbm (tt_1 3 (by rfl)) rfl⟩
theorem ml_X1_155 : mlS RX1 155 yX0_combine := ⟨tbm (tt_2 191 (by rfl)) rfl, tbm (tt_2 192 (by rfl)) rfl, tbm (tt_1 19 (by rfl)) rfl⟩
theorem ml_X2_17 : mlI RX2 17 yX5_init := ⟨Or.inl (tbm (tt_1 46 (by rfl)) rfl), tbm (tt_1 47 (by rfl)) rfl, tbm (tt_1 4 (by rfl)) rfl, rfl⟩
theorem ml_X2_57 : mlV RX2 57 yX2_hasOptions := ⟨tbm (tt_3 118 (by rfl)) rfl, tbm (tt_3 119 (by rfl)) rfl, tbm (tt_3 120 (by rfl)) rfl, tbm (tt_1 3 (by rfl)) rfl⟩
theorem ml_X2_64 : mlV RX2 64 yX2_hasSigns := ⟨tbm (tt_3 134 (by rfl)) rfl, tbm (tt_3 41 (by rfl)) rfl, tbm (tt_3 42 (by rfl)) rfl, tbm (tt_1 3 (by rfl)) rfl⟩
theorem ml_X2_67 : mlV RX2 67 yX2_isSign := ⟨tbm (tt_3 135 (by rfl)) rfl, tbm (tt_3 136 (by rfl)) rfl, tbm (tt_3 137 (by rfl)) rfl, tbm (tt_1 3 (by rfl)) rfl⟩
theorem ml_X2_71 : mlV RX2 71 yX2_mayBeNone := ⟨tbm (tt_3 139 (by rfl)) rfl, tbm (tt_3 140 (by rfl)) rfl, tbm (tt_3 141 (by rfl)) rfl, tbm (tt_1 3 (by rfl)) rfl⟩
theorem ml_X2_74 : mlV RX2 74 yX5_has := ⟨tbm (tt_3 143 (by rfl)) rfl, tbm (tt_3 46 (by rfl)) rfl, tbm (tt_3 47 (by rfl)) rfl, tbm (tt_1 4 (by rfl)) rfl⟩
theorem ml_X2_77 : mlS RX2 77 yX2_isFlag := ⟨tbm (tt_3 144 (by rfl)) rfl, tbm (tt_3 145 (by rfl)) rfl, tbm (tt_1 3 (by rfl)) rfl⟩
theorem ml_X2_80 : mlV RX2 80 yX5_clear := ⟨tbm (tt_3 152 (by rfl)) rfl, tbm (tt_2 144 (by rfl)) rfl, tbm (tt_2 145 (by rfl)) rfl, tbm (tt_1 4 (by rfl)) rfl⟩
theorem ml_X2_83 : mlV RX2 83 yX5_count := ⟨tbm (tt_3 153 (by rfl)) rfl, tbm (tt_2 169 (by rfl)) rfl, tbm (tt_2 170 (by rfl)) rfl, tbm (tt_1 4 (by rfl)) rfl⟩
theorem ml_X2_87 : mlV RX2 87 yX2_room := ⟨tbm (tt_3 154 (by rfl)) rfl, tbm (tt_3 155 (by rfl)) rfl, tbm (tt_3 156 (by rfl)) rfl, tbm (tt_1 3 (by rfl)) rfl⟩
theorem ml_X2_93 : mlV RX2 93 yX5_add := ⟨tbm (tt_3 160 (by rfl)) rfl, tbm (tt_2 217 (by rfl)) rfl, tbm (tt_2 218 (by rfl)) rfl, tbm (tt_1 4 (by rfl)) rfl⟩
theorem ml_X2_99 : mlS RX2 99 yX0_of := ⟨tbm (tt_2 165 (by rfl)) rfl, tbm (tt_2 166 (by rfl)) rfl, tbm (tt_1 19 (by rfl)) rfl⟩
theorem ml_X2_107 : mlV RX2 107 yX2_isEmpty := ⟨tbm (tt_4 107 (by rfl)) rfl, tbm (tt_4 108 (by rfl)) rfl, tbm (tt_4 109 (by rfl)) rfl, tbm (tt_1 3 (by rfl)) rfl⟩
theorem ml_X2_110 : mlV RX2 110 yX2_amount := ⟨tbm (tt_4 111 (by rfl)) rfl, tbm (tt_2 161 (by rfl)) rfl, tbm (tt_2 162 (by rfl)) rfl, tbm (tt_1 3 (by rfl)) rfl⟩
theorem ml_X3_9 : mlS RX3 9 yJ9_max_7cf53 := ⟨tbm (tt_1 235 (by rfl)) rfl, tbm (tt_1 51 (by rfl)) rfl, tbm (tt_1 5 (by rfl)) rfl⟩
theorem ml_X3_29 : mlV RX3 29 yX3_has := ⟨tbm (tt_4 159 (by rfl)) rfl, tbm (tt_4 152 (by rfl)) rfl, tbm (tt_4 153 (by rfl)) rfl, tbm (tt_1 10 (by rfl)) rfl⟩
theorem ml_X4_11 : mlI RX4 11 yX5_init := ⟨Or.inl (tbm (tt_1 220 (by rfl)) rfl), tbm (tt_1 47 (by rfl)) rfl, tbm (tt_1 4 (by rfl)) rfl, rfl⟩
theorem ml_X4_24 : mlV RX4 24 yX4_checkAll := ⟨tbm (tt_4 198 (by rfl)) rfl, tbm (tt_4 200 (by rfl)) rfl, tbp 13 (by rfl) rfl, tbm (tt_1 9 (by rfl)) rfl⟩
theorem ml_X4_28 : mlV RX4 28 yX4_takeAll := ⟨tbm (tt_5 2 (by rfl)) rfl, tbm (tt_5 4 (by rfl)) rfl, tbp 21 (by rfl) rfl, tbm (tt_1 9 (by rfl)) rfl⟩
theorem ml_X4_31 : mlV RX4 31 yX5_clear := ⟨tbm (tt_5 10 (by rfl)) rfl, tbm (tt_2 144 (by rfl)) rfl, tbm (tt_2 145 (by rfl)) rfl, tbm (tt_1 4 (by rfl)) rfl⟩
theorem ml_X4_34 : mlV RX4 34 yX5_count := ⟨tbm (tt_4 202 (by rfl)) rfl, tbm (tt_2 169 (by rfl)) rfl, tbm (tt_2 170 (by rfl)) rfl, tbm (tt_1 4 (by rfl)) rfl⟩
theorem ml_X4_37 : mlV RX4 37 yX4_endOf := ⟨tbm (tt_4 203 (by rfl)) rfl, tbm (tt_4 205 (by rfl)) rfl, tbp 14 (by rfl) rfl, tbm (tt_1 9 (by rfl)) rfl⟩
theorem ml_X4_41 : mlV RX4 41 yX4_isGood := ⟨tbm (tt_4 212 (by rfl)) rfl, tbm (tt_4 214 (by rfl)) rfl, tbp 16 (by rfl) rfl, tbm (tt_1 9 (by rfl)) rfl⟩
theorem ml_X4_45 : mlV RX4 45 yX4_take := ⟨tbm (tt_5 6 (by rfl)) rfl, tbm (tt_5 8 (by rfl)) rfl, tbp 22 (by rfl) rfl, tbm (tt_1 9 (by rfl)) rfl⟩
theorem ml_X4_49 : mlV RX4 49 yX4_next := ⟨tbm (tt_4 207 (by rfl)) rfl, tbm (tt_4 209 (by rfl)) rfl, tbp 15 (by rfl) rfl, tbm (tt_1 9 (by rfl)) rfl⟩
theorem ml_X4_53 : mlV RX4 53 yX5_get := ⟨tbm (tt_4 211 (by rfl)) rfl, tbm (tt_2 173 (by rfl)) rfl, tbm (tt_2 174 (by rfl)) rfl, tbm (tt_1 4 (by rfl)) rfl⟩
theorem ml_X4_56 : mlV RX4 56 yX4_masterNamed := ⟨tbm (tt_4 216 (by rfl)) rfl, tbm (tt_4 218 (by rfl)) rfl, tbp 17 (by rfl) rfl, tbm (tt_1 9 (by rfl)) rfl⟩
theorem ml_X4_60 : mlV RX4 60 yX6_get := ⟨tbm (tt_4 227 (by rfl)) rfl, tbm (tt_2 47 (by rfl)) rfl, tbm (tt_2 48 (by rfl)) rfl, tbm (tt_1 2 (by rfl)) rfl⟩
theorem ml_X4_71 : mlV RX4 71 yX4_couldTake := ⟨tbm (tt_4 228 (by rfl)) rfl, tbm (tt_4 230 (by rfl)) rfl, tbp 19 (by rfl) rfl, tbm (tt_1 9 (by rfl)) rfl⟩
theorem ml_X4_75 : mlV RX4 75 yX2_hasSigns := ⟨tbm (tt_4 232 (by rfl)) rfl, tbm (tt_3 41 (by rfl)) rfl, tbm (tt_3 42 (by rfl)) rfl, tbm (tt_1 3 (by rfl)) rfl⟩
theorem ml_X4_82 : mlV RX4 82 yX5_addAll := ⟨tbm (tt_5 11 (by rfl)) rfl, tbm (tt_3 8 (by rfl)) rfl, tbm (tt_3 9 (by rfl)) rfl, tbm (tt_1 4 (by rfl)) rfl⟩
theorem ml_X4_96 : mlV RX4 96 yX4_plainNumber := ⟨tbm (tt_4 220 (by rfl)) rfl, tbm (tt_4 222 (by rfl)) rfl, tbp 18 (by rfl) rfl, tbm (tt_1 9 (by rfl)) rfl⟩
theorem ml_X4_99 : mlV RX4 99 yX5_find := ⟨tbm (tt_5 1 (by rfl)) rfl, tbm (tt_3 175 (by rfl)) rfl, tbm (tt_3 176 (by rfl)) rfl, tbm (tt_1 4 (by rfl)) rfl⟩
theorem ml_X4_102 : mlV RX4 102 yX6_firstNamed := ⟨tbm (tt_4 225 (by rfl)) rfl, tbm (tt_3 77 (by rfl)) rfl, tbm (tt_3 78 (by rfl)) rfl, tbm (tt_1 2 (by rfl)) rfl⟩
theorem ml_X4_105 : mlV RX4 105 yX6_isMaster := ⟨tbm (tt_4 226 (by rfl)) rfl, tbm (tt_3 24 (by rfl)) rfl, tbm (tt_3 25 (by rfl)) rfl, tbm (tt_1 2 (by rfl)) rfl⟩
theorem ml_X4_109 : mlS RX4 109 yX0_isDigit := ⟨tbm (tt_4 224 (by rfl)) rfl, tbm (tt_2 177 (by rfl)) rfl, tbm (tt_1 19 (by rfl)) rfl⟩
theorem ml_X4_114 : mlV RX4 114 yX4_couldTakeSigns := ⟨tbm (tt_4 233 (by rfl)) rfl, tbm (tt_4 235 (by rfl)) rfl, tbp 20 (by rfl) rfl, tbm (tt_1 9 (by rfl)) rfl⟩
theorem ml_X4_117 : mlS RX4 117 yX2_isFlag := ⟨tbm (tt_4 239 (by rfl)) rfl, tbm (tt_3 145 (by rfl)) rfl, tbm (tt_1 3 (by rfl)) rfl⟩
theorem ml_X4_120 : mlV RX4 120 yX2_mayBeNone := ⟨tbm (tt_5 0 (by rfl)) rfl, tbm (tt_3 140 (by rfl)) rfl, tbm (tt_3 141 (by rfl)) rfl, tbm (tt_1 3 (by rfl)) rfl⟩
theorem ml_X4_123 : mlV RX4 123 yX2_room := ⟨tbm (tt_4 237 (by rfl)) rfl, tbm (tt_3 155 (by rfl)) rfl, tbm (tt_3 156 (by rfl)) rfl, tbm (tt_1 3 (by rfl)) rfl⟩
theorem ml_X4_126 : mlV RX4 126 yX2_isSign := ⟨tbm (tt_4 238 (by rfl)) rfl, tbm (tt_3 136 (by rfl)) rfl, tbm (tt_3 137 (by rfl)) rfl, tbm (tt_1 3 (by rfl)) rfl⟩
theorem ml_X5_9 : mlS RX5 9 yJ9_max_7cf53 := ⟨tbm (tt_1 50 (by rfl)) rfl, tbm (tt_1 51 (by rfl)) rfl, tbm (tt_1 5 (by rfl)) rfl⟩
theorem ml_X5_25 : mlV RX5 25 yX5_get := ⟨tbm (tt_3 1 (by rfl)) rfl, tbm (tt_2 173 (by rfl)) rfl, tbm (tt_2 174 (by rfl)) rfl, tbm (tt_1 4 (by rfl)) rfl⟩
theorem ml_X5_29 : mlV RX5 29 yX5_add := ⟨tbm (tt_3 11 (by rfl)) rfl, tbm (tt_2 217 (by rfl)) rfl, tbm (tt_2 218 (by rfl)) rfl, tbm (tt_1 4 (by rfl)) rfl⟩
theorem ml_X5_33 : mlV RX5 33 yX5_clear := ⟨tbm (tt_3 6 (by rfl)) rfl, tbm (tt_2 144 (by rfl)) rfl, tbm (tt_2 145 (by rfl)) rfl, tbm (tt_1 4 (by rfl)) rfl⟩
theorem ml_X5_36 : mlV RX5 36 yX5_count := ⟨tbm (tt_3 0 (by rfl)) rfl, tbm (tt_2 169 (by rfl)) rfl, tbm (tt_2 170 (by rfl)) rfl, tbm (tt_1 4 (by rfl)) rfl⟩
theorem ml_X5_39 : mlV RX5 39 yX5_addAll := ⟨tbm (tt_3 7 (by rfl)) rfl, tbm (tt_3 8 (by rfl)) rfl, tbm (tt_3 9 (by rfl)) rfl, tbm (tt_1 4 (by rfl)) rfl⟩
theorem ml_X6_17 : mlI RX6 17 yX2_init := ⟨Or.inr ⟨"FormFields", nbm (tt_1 40 (by rfl)) rfl⟩, tbm (tt_1 41 (by rfl)) rfl, tbm (tt_1 3 (by rfl)) rfl, rfl⟩
theorem ml_X6_25 : mlV RX6 25 yX6_get := ⟨tbm (tt_2 132 (by rfl)) rfl, tbm (tt_2 47 (by rfl)) rfl, tbm (tt_2 48 (by rfl)) rfl, tbm (tt_1 2 (by rfl)) rfl⟩
theorem ml_X6_35 : mlV RX6 35 yX2_begin := ⟨tbm (tt_3 114 (by rfl)) rfl, tbm (tt_3 115 (by rfl)) rfl, tbm (tt_3 116 (by rfl)) rfl, tbm (tt_1 3 (by rfl)) rfl⟩
theorem ml_X7_11 : mlI RX7 11 yX5_init := ⟨Or.inl (tbm (tt_1 163 (by rfl)) rfl), tbm (tt_1 47 (by rfl)) rfl, tbm (tt_1 4 (by rfl)) rfl, rfl⟩
theorem ml_X7_20 : mlV RX7 20 yX5_clear := ⟨tbm (tt_4 55 (by rfl)) rfl, tbm (tt_2 144 (by rfl)) rfl, tbm (tt_2 145 (by rfl)) rfl, tbm (tt_1 4 (by rfl)) rfl⟩
theorem ml_X7_30 : mlV RX7 30 yX5_become := ⟨tbm (tt_4 56 (by rfl)) rfl, tbm (tt_3 3 (by rfl)) rfl, tbm (tt_3 4 (by rfl)) rfl, tbm (tt_1 4 (by rfl)) rfl⟩
theorem ml_X7_34 : mlV RX7 34 yX7_showNumber := ⟨tbm (tt_4 57 (by rfl)) rfl, tbm (tt_4 59 (by rfl)) rfl, tbp 11 (by rfl) rfl, tbm (tt_1 6 (by rfl)) rfl⟩
theorem ml_X7_41 : mlV RX7 41 yX5_add := ⟨tbm (tt_4 73 (by rfl)) rfl, tbm (tt_2 217 (by rfl)) rfl, tbm (tt_2 218 (by rfl)) rfl, tbm (tt_1 4 (by rfl)) rfl⟩
theorem ml_X7_48 : mlV RX7 48 yX5_has := ⟨tbm (tt_4 74 (by rfl)) rfl, tbm (tt_3 46 (by rfl)) rfl, tbm (tt_3 47 (by rfl)) rfl, tbm (tt_1 4 (by rfl)) rfl⟩
theorem ml_X7_51 : mlV RX7 51 yX5_get := ⟨tbm (tt_4 75 (by rfl)) rfl, tbm (tt_2 173 (by rfl)) rfl, tbm (tt_2 174 (by rfl)) rfl, tbm (tt_1 4 (by rfl)) rfl⟩
theorem ml_X7_55 : mlS RX7 55 yX0_addNumber := ⟨tbm (tt_4 76 (by rfl)) rfl, tbm (tt_2 225 (by rfl)) rfl, tbm (tt_1 19 (by rfl)) rfl⟩
theorem ml_X7_61 : mlV RX7 61 yX2_amount := ⟨tbm (tt_4 61 (by rfl)) rfl, tbm (tt_2 161 (by rfl)) rfl, tbm (tt_2 162 (by rfl)) rfl, tbm (tt_1 3 (by rfl)) rfl⟩
theorem ml_X7_67 : mlV RX7 67 yX5_count := ⟨tbm (tt_4 63 (by rfl)) rfl, tbm (tt_2 169 (by rfl)) rfl, tbm (tt_2 170 (by rfl)) rfl, tbm (tt_1 4 (by rfl)) rfl⟩
theorem ml_X7_75 : mlS RX7 75 yX0_addShown := ⟨tbm (tt_4 64 (by rfl)) rfl, tbm (tt_4 65 (by rfl)) rfl, tbm (tt_1 19 (by rfl)) rfl⟩
theorem ml_X7_79 : mlV RX7 79 yX7_show := ⟨tbm (tt_4 92 (by rfl)) rfl, tbm (tt_4 52 (by rfl)) rfl, tbm (tt_4 53 (by rfl)) rfl, tbm (tt_1 6 (by rfl)) rfl⟩
theorem ml_X7_83 : mlS RX7 83 yX7_sizeFor := ⟨tbm (tt_4 93 (by rfl)) rfl, tbm (tt_4 94 (by rfl)) rfl, tbm (tt_1 6 (by rfl)) rfl⟩
theorem ml_X7_87 : mlS RX7 87 yJ9_abs_0f7a4 := ⟨tbm (tt_4 127 (by rfl)) rfl, tbm (tt_4 128 (by rfl)) rfl, tbm (tt_1 5 (by rfl)) rfl⟩
theorem ml_X7_92 : mlS RX7 92 yX7_beginning := ⟨tbm (tt_4 130 (by rfl)) rfl, tbm (tt_4 131 (by rfl)) rfl, tbm (tt_1 6 (by rfl)) rfl⟩
theorem ml_X7_98 : mlV RX7 98 yX3_add := ⟨tbm (tt_4 133 (by rfl)) rfl, tbm (tt_4 134 (by rfl)) rfl, tbm (tt_4 135 (by rfl)) rfl, tbm (tt_1 10 (by rfl)) rfl⟩
theorem ml_X7_103 : mlS RX7 103 yX7_cellX := ⟨tbm (tt_4 137 (by rfl)) rfl, tbm (tt_4 138 (by rfl)) rfl, tbm (tt_1 6 (by rfl)) rfl⟩
theorem ml_X8_11 : mlI RX8 11 yX5_init := ⟨Or.inl (tbm (tt_1 201 (by rfl)) rfl), tbm (tt_1 47 (by rfl)) rfl, tbm (tt_1 4 (by rfl)) rfl, rfl⟩
theorem ml_X8_27 : mlV RX8 27 yX5_clear := ⟨tbm (tt_3 21 (by rfl)) rfl, tbm (tt_2 144 (by rfl)) rfl, tbm (tt_2 145 (by rfl)) rfl, tbm (tt_1 4 (by rfl)) rfl⟩
theorem ml_X8_30 : mlV RX8 30 yX6_count := ⟨tbm (tt_3 22 (by rfl)) rfl, tbm (tt_2 43 (by rfl)) rfl, tbm (tt_2 44 (by rfl)) rfl, tbm (tt_1 2 (by rfl)) rfl⟩
theorem ml_X8_36 : mlV RX8 36 yX6_isMaster := ⟨tbm (tt_3 23 (by rfl)) rfl, tbm (tt_3 24 (by rfl)) rfl, tbm (tt_3 25 (by rfl)) rfl, tbm (tt_1 2 (by rfl)) rfl⟩
theorem ml_X8_40 : mlV RX8 40 yX8_addFullName := ⟨tbm (tt_3 27 (by rfl)) rfl, tbm (tt_3 29 (by rfl)) rfl, tbp 9 (by rfl) rfl, tbm (tt_1 8 (by rfl)) rfl⟩
theorem ml_X8_43 : mlV RX8 43 yX5_add := ⟨tbm (tt_3 32 (by rfl)) rfl, tbm (tt_2 217 (by rfl)) rfl, tbm (tt_2 218 (by rfl)) rfl, tbm (tt_1 4 (by rfl)) rfl⟩
theorem ml_X8_46 : mlV RX8 46 yX6_get := ⟨tbm (tt_3 31 (by rfl)) rfl, tbm (tt_2 47 (by rfl)) rfl, tbm (tt_2 48 (by rfl)) rfl, tbm (tt_1 2 (by rfl)) rfl⟩
theorem ml_X8_50 : mlV RX8 50 yX8_addContent := ⟨tbm (tt_3 36 (by rfl)) rfl, tbm (tt_3 38 (by rfl)) rfl, tbp 10 (by rfl) rfl, tbm (tt_1 8 (by rfl)) rfl⟩
theorem ml_X8_54 : mlV RX8 54 yX5_count := ⟨tbm (tt_3 33 (by rfl)) rfl, tbm (tt_2 169 (by rfl)) rfl, tbm (tt_2 170 (by rfl)) rfl, tbm (tt_1 4 (by rfl)) rfl⟩
theorem ml_X8_64 : mlV RX8 64 yX5_get := ⟨tbm (tt_3 34 (by rfl)) rfl, tbm (tt_2 173 (by rfl)) rfl, tbm (tt_2 174 (by rfl)) rfl, tbm (tt_1 4 (by rfl)) rfl⟩
theorem ml_X8_67 : mlS RX8 67 yX0_addNumber := ⟨tbm (tt_3 35 (by rfl)) rfl, tbm (tt_2 225 (by rfl)) rfl, tbm (tt_1 19 (by rfl)) rfl⟩
theorem ml_X8_73 : mlV RX8 73 yX2_hasSigns := ⟨tbm (tt_3 40 (by rfl)) rfl, tbm (tt_3 41 (by rfl)) rfl, tbm (tt_3 42 (by rfl)) rfl, tbm (tt_1 3 (by rfl)) rfl⟩
theorem ml_X8_80 : mlV RX8 80 yX5_addAll := ⟨tbm (tt_3 44 (by rfl)) rfl, tbm (tt_3 8 (by rfl)) rfl, tbm (tt_3 9 (by rfl)) rfl, tbm (tt_1 4 (by rfl)) rfl⟩
theorem ml_X8_93 : mlV RX8 93 yX5_has := ⟨tbm (tt_3 45 (by rfl)) rfl, tbm (tt_3 46 (by rfl)) rfl, tbm (tt_3 47 (by rfl)) rfl, tbm (tt_1 4 (by rfl)) rfl⟩
theorem ml_L_7 : mlV RL 7 yX9_field := ⟨tbm (tt_3 56 (by rfl)) rfl, tbm (tt_3 57 (by rfl)) rfl, tbm (tt_3 58 (by rfl)) rfl, tbm (tt_1 1 (by rfl)) rfl⟩
theorem ml_L_21 : mlV RL 21 yX9_value := ⟨tbm (tt_3 125 (by rfl)) rfl, tbm (tt_3 126 (by rfl)) rfl, tbm (tt_3 127 (by rfl)) rfl, tbm (tt_1 1 (by rfl)) rfl⟩
theorem ml_L_25 : mlV RL 25 yX9_option := ⟨tbm (tt_3 168 (by rfl)) rfl, tbm (tt_3 169 (by rfl)) rfl, tbm (tt_3 170 (by rfl)) rfl, tbm (tt_1 1 (by rfl)) rfl⟩
theorem ml_L_28 : mlV RL 28 yX9_set := ⟨tbm (tt_3 185 (by rfl)) rfl, tbm (tt_3 186 (by rfl)) rfl, tbm (tt_3 187 (by rfl)) rfl, tbm (tt_1 1 (by rfl)) rfl⟩
theorem ml_L_31 : mlV RL 31 yX9_bounds := ⟨tbm (tt_3 201 (by rfl)) rfl, tbm (tt_3 202 (by rfl)) rfl, tbm (tt_3 203 (by rfl)) rfl, tbm (tt_1 1 (by rfl)) rfl⟩
theorem ml_L_35 : mlV RL 35 yX9_formula := ⟨tbm (tt_3 209 (by rfl)) rfl, tbm (tt_3 210 (by rfl)) rfl, tbm (tt_3 211 (by rfl)) rfl, tbm (tt_1 1 (by rfl)) rfl⟩
theorem ml_L_39 : mlV RL 39 yX9_failed := ⟨tbm (tt_4 16 (by rfl)) rfl, tbm (tt_4 17 (by rfl)) rfl, tbm (tt_4 18 (by rfl)) rfl, tbm (tt_1 1 (by rfl)) rfl⟩
theorem ml_L_45 : mlV RL 45 yX9_fails := ⟨tbm (tt_4 40 (by rfl)) rfl, tbm (tt_4 41 (by rfl)) rfl, tbm (tt_4 42 (by rfl)) rfl, tbm (tt_1 1 (by rfl)) rfl⟩
theorem ml_L_49 : mlV RL 49 yX9_shown := ⟨tbm (tt_4 47 (by rfl)) rfl, tbm (tt_4 48 (by rfl)) rfl, tbm (tt_4 49 (by rfl)) rfl, tbm (tt_1 1 (by rfl)) rfl⟩
theorem ml_L_52 : mlV RL 52 yX9_size := ⟨tbm (tt_4 80 (by rfl)) rfl, tbm (tt_4 81 (by rfl)) rfl, tbm (tt_4 82 (by rfl)) rfl, tbm (tt_1 1 (by rfl)) rfl⟩
theorem ml_L_55 : mlV RL 55 yX9_validate := ⟨tbm (tt_4 99 (by rfl)) rfl, tbm (tt_4 100 (by rfl)) rfl, tbm (tt_4 101 (by rfl)) rfl, tbm (tt_1 1 (by rfl)) rfl⟩
theorem ml_L_58 : mlV RL 58 yX9_appearance := ⟨tbm (tt_4 115 (by rfl)) rfl, tbm (tt_4 116 (by rfl)) rfl, tbm (tt_4 117 (by rfl)) rfl, tbm (tt_1 1 (by rfl)) rfl⟩
theorem ml_L_61 : mlV RL 61 yX9_mark := ⟨tbm (tt_4 147 (by rfl)) rfl, tbm (tt_4 148 (by rfl)) rfl, tbm (tt_4 149 (by rfl)) rfl, tbm (tt_1 1 (by rfl)) rfl⟩
theorem ml_L_64 : mlV RL 64 yX9_flatten := ⟨tbm (tt_4 163 (by rfl)) rfl, tbm (tt_4 164 (by rfl)) rfl, tbm (tt_4 165 (by rfl)) rfl, tbm (tt_1 1 (by rfl)) rfl⟩
theorem ml_L_67 : mlV RL 67 yX9_page := ⟨tbm (tt_4 170 (by rfl)) rfl, tbm (tt_4 171 (by rfl)) rfl, tbm (tt_4 172 (by rfl)) rfl, tbm (tt_1 1 (by rfl)) rfl⟩
theorem ml_L_70 : mlV RL 70 yX9_at := ⟨tbm (tt_4 178 (by rfl)) rfl, tbm (tt_4 179 (by rfl)) rfl, tbm (tt_4 180 (by rfl)) rfl, tbm (tt_1 1 (by rfl)) rfl⟩
theorem ml_L_75 : mlV RL 75 yX9_read := ⟨tbm (tt_4 190 (by rfl)) rfl, tbm (tt_4 191 (by rfl)) rfl, tbm (tt_4 192 (by rfl)) rfl, tbm (tt_1 1 (by rfl)) rfl⟩
theorem ml_L_78 : mlV RL 78 yX9_lock := ⟨tbm (tt_5 15 (by rfl)) rfl, tbm (tt_5 16 (by rfl)) rfl, tbm (tt_5 17 (by rfl)) rfl, tbm (tt_1 1 (by rfl)) rfl⟩
theorem ml_L_81 : mlI RL 81 yX9_init := ⟨Or.inl (tbm (tt_1 25 (by rfl)) rfl), tbm (tt_1 26 (by rfl)) rfl, tbm (tt_1 1 (by rfl)) rfl, rfl⟩
theorem ml_L_84 : mlI RL 84 yX10_init := ⟨Or.inl (tbm (tt_5 21 (by rfl)) rfl), tbm (tt_5 22 (by rfl)) rfl, tbm (tt_1 11 (by rfl)) rfl, rfl⟩
theorem ml_L_85 : mlS RL 85 yL_field := ⟨tbm (tt_3 49 (by rfl)) rfl, tbm (tt_3 50 (by rfl)) rfl, tbm (tt_1 0 (by rfl)) rfl⟩
theorem ml_L_90 : mlV RL 90 yX10_field := ⟨tbm (tt_5 145 (by rfl)) rfl, tbm (tt_5 146 (by rfl)) rfl, tbm (tt_5 147 (by rfl)) rfl, tbm (tt_1 11 (by rfl)) rfl⟩
theorem ml_L_91 : mlV RL 91 yX10_thrown := ⟨tbm (tt_5 141 (by rfl)) rfl, tbm (tt_5 142 (by rfl)) rfl, tbm (tt_5 143 (by rfl)) rfl, tbm (tt_1 11 (by rfl)) rfl⟩
theorem ml_L_95 : mlS RL 95 yL_value := ⟨tbm (tt_3 122 (by rfl)) rfl, tbm (tt_3 123 (by rfl)) rfl, tbm (tt_1 0 (by rfl)) rfl⟩
theorem ml_L_98 : mlV RL 98 yX10_value := ⟨tbm (tt_5 168 (by rfl)) rfl, tbm (tt_5 169 (by rfl)) rfl, tbm (tt_5 170 (by rfl)) rfl, tbm (tt_1 11 (by rfl)) rfl⟩
theorem ml_L_99 : mlS RL 99 yL_option := ⟨tbm (tt_3 165 (by rfl)) rfl, tbm (tt_3 166 (by rfl)) rfl, tbm (tt_1 0 (by rfl)) rfl⟩
theorem ml_L_101 : mlV RL 101 yX10_option := ⟨tbm (tt_5 197 (by rfl)) rfl, tbm (tt_5 198 (by rfl)) rfl, tbm (tt_5 199 (by rfl)) rfl, tbm (tt_1 11 (by rfl)) rfl⟩
theorem ml_L_102 : mlS RL 102 yL_set := ⟨tbm (tt_3 182 (by rfl)) rfl, tbm (tt_3 183 (by rfl)) rfl, tbm (tt_1 0 (by rfl)) rfl⟩
theorem ml_L_104 : mlV RL 104 yX10_set := ⟨tbm (tt_5 202 (by rfl)) rfl, tbm (tt_5 203 (by rfl)) rfl, tbm (tt_5 204 (by rfl)) rfl, tbm (tt_1 11 (by rfl)) rfl⟩
theorem ml_L_107 : mlS RL 107 yL_bounds := ⟨tbm (tt_3 198 (by rfl)) rfl, tbm (tt_3 199 (by rfl)) rfl, tbm (tt_1 0 (by rfl)) rfl⟩
theorem ml_L_110 : mlV RL 110 yX10_bounds := ⟨tbm (tt_5 214 (by rfl)) rfl, tbm (tt_5 215 (by rfl)) rfl, tbm (tt_5 216 (by rfl)) rfl, tbm (tt_1 11 (by rfl)) rfl⟩
theorem ml_L_111 : mlS RL 111 yL_formula := ⟨tbm (tt_3 206 (by rfl)) rfl, tbm (tt_3 207 (by rfl)) rfl, tbm (tt_1 0 (by rfl)) rfl⟩
theorem ml_L_114 : mlV RL 114 yX10_formula := ⟨tbm (tt_5 218 (by rfl)) rfl, tbm (tt_5 219 (by rfl)) rfl, tbm (tt_5 220 (by rfl)) rfl, tbm (tt_1 11 (by rfl)) rfl⟩
theorem ml_L_115 : mlV RL 115 yX9_calculate := ⟨tbm (tt_2 30 (by rfl)) rfl, tbm (tt_2 31 (by rfl)) rfl, tbm (tt_2 32 (by rfl)) rfl, tbm (tt_1 1 (by rfl)) rfl⟩
theorem ml_L_118 : mlV RL 118 yX10_calculate := ⟨tbm (tt_5 228 (by rfl)) rfl, tbm (tt_5 229 (by rfl)) rfl, tbm (tt_5 230 (by rfl)) rfl, tbm (tt_1 11 (by rfl)) rfl⟩
theorem ml_L_119 : mlS RL 119 yL_failed := ⟨tbm (tt_3 220 (by rfl)) rfl, tbm (tt_3 221 (by rfl)) rfl, tbm (tt_1 0 (by rfl)) rfl⟩
theorem ml_L_122 : mlV RL 122 yX10_failed := ⟨tbm (tt_6 58 (by rfl)) rfl, tbm (tt_6 59 (by rfl)) rfl, tbm (tt_6 60 (by rfl)) rfl, tbm (tt_1 11 (by rfl)) rfl⟩
theorem ml_L_123 : mlS RL 123 yL_fails := ⟨tbm (tt_4 37 (by rfl)) rfl, tbm (tt_4 38 (by rfl)) rfl, tbm (tt_1 0 (by rfl)) rfl⟩
theorem ml_L_126 : mlV RL 126 yX10_fails := ⟨tbm (tt_6 62 (by rfl)) rfl, tbm (tt_6 63 (by rfl)) rfl, tbm (tt_6 64 (by rfl)) rfl, tbm (tt_1 11 (by rfl)) rfl⟩
theorem ml_L_127 : mlS RL 127 yL_shown := ⟨tbm (tt_4 44 (by rfl)) rfl, tbm (tt_4 45 (by rfl)) rfl, tbm (tt_1 0 (by rfl)) rfl⟩
theorem ml_L_129 : mlV RL 129 yX10_shown := ⟨tbm (tt_6 66 (by rfl)) rfl, tbm (tt_6 67 (by rfl)) rfl, tbm (tt_6 68 (by rfl)) rfl, tbm (tt_1 11 (by rfl)) rfl⟩
theorem ml_L_130 : mlS RL 130 yL_size := ⟨tbm (tt_4 77 (by rfl)) rfl, tbm (tt_4 78 (by rfl)) rfl, tbm (tt_1 0 (by rfl)) rfl⟩
theorem ml_L_132 : mlV RL 132 yX10_size := ⟨tbm (tt_6 82 (by rfl)) rfl, tbm (tt_6 83 (by rfl)) rfl, tbm (tt_6 84 (by rfl)) rfl, tbm (tt_1 11 (by rfl)) rfl⟩
theorem ml_L_133 : mlS RL 133 yL_validate := ⟨tbm (tt_4 96 (by rfl)) rfl, tbm (tt_4 97 (by rfl)) rfl, tbm (tt_1 0 (by rfl)) rfl⟩
theorem ml_L_135 : mlV RL 135 yX10_validate := ⟨tbm (tt_6 98 (by rfl)) rfl, tbm (tt_6 99 (by rfl)) rfl, tbm (tt_6 100 (by rfl)) rfl, tbm (tt_1 11 (by rfl)) rfl⟩
theorem ml_L_136 : mlS RL 136 yL_appearance := ⟨tbm (tt_4 112 (by rfl)) rfl, tbm (tt_4 113 (by rfl)) rfl, tbm (tt_1 0 (by rfl)) rfl⟩
theorem ml_L_138 : mlV RL 138 yX10_appearance := ⟨tbm (tt_6 102 (by rfl)) rfl, tbm (tt_6 103 (by rfl)) rfl, tbm (tt_6 104 (by rfl)) rfl, tbm (tt_1 11 (by rfl)) rfl⟩
theorem ml_L_139 : mlS RL 139 yL_mark := ⟨tbm (tt_4 144 (by rfl)) rfl, tbm (tt_4 145 (by rfl)) rfl, tbm (tt_1 0 (by rfl)) rfl⟩
theorem ml_L_141 : mlV RL 141 yX10_mark_ := ⟨tbm (tt_6 113 (by rfl)) rfl, tbm (tt_6 114 (by rfl)) rfl, tbm (tt_6 115 (by rfl)) rfl, tbm (tt_1 11 (by rfl)) rfl⟩
theorem ml_L_142 : mlS RL 142 yL_flatten := ⟨tbm (tt_4 160 (by rfl)) rfl, tbm (tt_4 161 (by rfl)) rfl, tbm (tt_1 0 (by rfl)) rfl⟩
theorem ml_L_144 : mlV RL 144 yX10_flatten := ⟨tbm (tt_6 117 (by rfl)) rfl, tbm (tt_6 118 (by rfl)) rfl, tbm (tt_6 119 (by rfl)) rfl, tbm (tt_1 11 (by rfl)) rfl⟩
theorem ml_L_145 : mlS RL 145 yL_page := ⟨tbm (tt_4 167 (by rfl)) rfl, tbm (tt_4 168 (by rfl)) rfl, tbm (tt_1 0 (by rfl)) rfl⟩
theorem ml_L_147 : mlV RL 147 yX10_page := ⟨tbm (tt_6 121 (by rfl)) rfl, tbm (tt_6 122 (by rfl)) rfl, tbm (tt_6 123 (by rfl)) rfl, tbm (tt_1 11 (by rfl)) rfl⟩
theorem ml_L_148 : mlV RL 148 yX9_write := ⟨tbm (tt_3 13 (by rfl)) rfl, tbm (tt_3 14 (by rfl)) rfl, tbm (tt_3 15 (by rfl)) rfl, tbm (tt_1 1 (by rfl)) rfl⟩
theorem ml_L_151 : mlV RL 151 yX10_write := ⟨tbm (tt_6 126 (by rfl)) rfl, tbm (tt_6 127 (by rfl)) rfl, tbm (tt_6 128 (by rfl)) rfl, tbm (tt_1 11 (by rfl)) rfl⟩
theorem ml_L_152 : mlS RL 152 yL_at := ⟨tbm (tt_4 174 (by rfl)) rfl, tbm (tt_4 175 (by rfl)) rfl, tbm (tt_1 0 (by rfl)) rfl⟩
theorem ml_L_154 : mlV RL 154 yX10_at := ⟨tbm (tt_6 146 (by rfl)) rfl, tbm (tt_6 147 (by rfl)) rfl, tbm (tt_6 148 (by rfl)) rfl, tbm (tt_1 11 (by rfl)) rfl⟩
theorem ml_L_155 : mlS RL 155 yL_read := ⟨tbm (tt_4 187 (by rfl)) rfl, tbm (tt_4 188 (by rfl)) rfl, tbm (tt_1 0 (by rfl)) rfl⟩
theorem ml_L_157 : mlV RL 157 yX10_read := ⟨tbm (tt_6 150 (by rfl)) rfl, tbm (tt_6 151 (by rfl)) rfl, tbm (tt_6 152 (by rfl)) rfl, tbm (tt_1 11 (by rfl)) rfl⟩
theorem ml_L_158 : mlS RL 158 yL_lock := ⟨tbm (tt_5 12 (by rfl)) rfl, tbm (tt_5 13 (by rfl)) rfl, tbm (tt_1 0 (by rfl)) rfl⟩
theorem ml_L_160 : mlV RL 160 yX10_lock := ⟨tbm (tt_6 176 (by rfl)) rfl, tbm (tt_6 177 (by rfl)) rfl, tbm (tt_6 178 (by rfl)) rfl, tbm (tt_1 11 (by rfl)) rfl⟩
theorem ml_X10_109 : mlV RX10 109 yX10_no := ⟨tbm (tt_5 149 (by rfl)) rfl, tbm (tt_5 151 (by rfl)) rfl, tbp 23 (by rfl) rfl, tbm (tt_1 11 (by rfl)) rfl⟩
theorem ml_X10_115 : mlS RX10 115 yX10_isIn := ⟨tbm (tt_5 154 (by rfl)) rfl, tbm (tt_5 155 (by rfl)) rfl, tbm (tt_1 11 (by rfl)) rfl⟩
theorem ml_X10_121 : mlV RX10 121 yX10_lookUp := ⟨tbm (tt_5 158 (by rfl)) rfl, tbm (tt_5 160 (by rfl)) rfl, tbp 24 (by rfl) rfl, tbm (tt_1 11 (by rfl)) rfl⟩
theorem ml_X10_129 : mlV RX10 129 yX10_isSameName := ⟨tbm (tt_5 162 (by rfl)) rfl, tbm (tt_5 164 (by rfl)) rfl, tbp 25 (by rfl) rfl, tbm (tt_1 11 (by rfl)) rfl⟩
theorem ml_X10_137 : mlS RX10 137 yX10_isNumberSign := ⟨tbm (tt_5 182 (by rfl)) rfl, tbm (tt_5 183 (by rfl)) rfl, tbm (tt_1 11 (by rfl)) rfl⟩
theorem ml_X10_140 : mlV RX10 140 yX10_isSigned := ⟨tbm (tt_5 172 (by rfl)) rfl, tbm (tt_5 174 (by rfl)) rfl, tbp 26 (by rfl) rfl, tbm (tt_1 11 (by rfl)) rfl⟩
theorem ml_X10_143 : mlV RX10 143 yX10_isSign := ⟨tbm (tt_5 176 (by rfl)) rfl, tbm (tt_5 178 (by rfl)) rfl, tbp 27 (by rfl) rfl, tbm (tt_1 11 (by rfl)) rfl⟩
theorem ml_X10_146 : mlV RX10 146 yX10_isPicked := ⟨tbm (tt_5 185 (by rfl)) rfl, tbm (tt_5 187 (by rfl)) rfl, tbp 28 (by rfl) rfl, tbm (tt_1 11 (by rfl)) rfl⟩
theorem ml_X10_149 : mlV RX10 149 yX10_mayPick := ⟨tbm (tt_5 189 (by rfl)) rfl, tbm (tt_5 191 (by rfl)) rfl, tbp 29 (by rfl) rfl, tbm (tt_1 11 (by rfl)) rfl⟩
theorem ml_X10_152 : mlV RX10 152 yX10_most := ⟨tbm (tt_5 193 (by rfl)) rfl, tbm (tt_5 195 (by rfl)) rfl, tbp 30 (by rfl) rfl, tbm (tt_1 11 (by rfl)) rfl⟩
theorem ml_X10_166 : mlV RX10 166 yX10_maySet := ⟨tbm (tt_5 206 (by rfl)) rfl, tbm (tt_5 208 (by rfl)) rfl, tbp 31 (by rfl) rfl, tbm (tt_1 11 (by rfl)) rfl⟩
theorem ml_X10_183 : mlV RX10 183 yX10_put := ⟨tbm (tt_6 49 (by rfl)) rfl, tbm (tt_6 51 (by rfl)) rfl, tbp 45 (by rfl) rfl, tbm (tt_1 11 (by rfl)) rfl⟩
theorem ml_X10_187 : mlV RX10 187 yX10_putNumber := ⟨tbm (tt_6 53 (by rfl)) rfl, tbm (tt_6 55 (by rfl)) rfl, tbp 46 (by rfl) rfl, tbm (tt_1 11 (by rfl)) rfl⟩
theorem ml_X10_197 : mlV RX10 197 yX10_isAmount := ⟨tbm (tt_5 224 (by rfl)) rfl, tbm (tt_5 226 (by rfl)) rfl, tbp 32 (by rfl) rfl, tbm (tt_1 11 (by rfl)) rfl⟩
theorem ml_X10_200 : mlV RX10 200 yX10_isUnder := ⟨tbm (tt_6 4 (by rfl)) rfl, tbm (tt_6 6 (by rfl)) rfl, tbp 36 (by rfl) rfl, tbm (tt_1 11 (by rfl)) rfl⟩
theorem ml_X10_203 : mlV RX10 203 yX10_isFormula := ⟨tbm (tt_5 236 (by rfl)) rfl, tbm (tt_5 238 (by rfl)) rfl, tbp 34 (by rfl) rfl, tbm (tt_1 11 (by rfl)) rfl⟩
theorem ml_X10_206 : mlV RX10 206 yX10_has := ⟨tbm (tt_6 0 (by rfl)) rfl, tbm (tt_6 2 (by rfl)) rfl, tbp 35 (by rfl) rfl, tbm (tt_1 11 (by rfl)) rfl⟩
theorem ml_X10_209 : mlV RX10 209 yX10_amountOf := ⟨tbm (tt_6 29 (by rfl)) rfl, tbm (tt_6 31 (by rfl)) rfl, tbp 42 (by rfl) rfl, tbm (tt_1 11 (by rfl)) rfl⟩
theorem ml_X10_213 : mlS RX10 213 yX10_abs := ⟨tbm (tt_6 41 (by rfl)) rfl, tbm (tt_6 42 (by rfl)) rfl, tbm (tt_1 11 (by rfl)) rfl⟩
theorem ml_X10_219 : mlV RX10 219 yX10_group := ⟨tbm (tt_6 25 (by rfl)) rfl, tbm (tt_6 27 (by rfl)) rfl, tbp 41 (by rfl) rfl, tbm (tt_1 11 (by rfl)) rfl⟩
theorem ml_X10_222 : mlV RX10 222 yX10_product := ⟨tbm (tt_6 37 (by rfl)) rfl, tbm (tt_6 39 (by rfl)) rfl, tbp 43 (by rfl) rfl, tbm (tt_1 11 (by rfl)) rfl⟩
theorem ml_X10_226 : mlV RX10 226 yX10_result := ⟨tbm (tt_6 20 (by rfl)) rfl, tbm (tt_6 22 (by rfl)) rfl, tbp 40 (by rfl) rfl, tbm (tt_1 11 (by rfl)) rfl⟩
theorem ml_X10_232 : mlV RX10 232 yX10_putAmount := ⟨tbm (tt_6 45 (by rfl)) rfl, tbm (tt_6 47 (by rfl)) rfl, tbp 44 (by rfl) rfl, tbm (tt_1 11 (by rfl)) rfl⟩
theorem ml_X10_236 : mlV RX10 236 yX10_learn := ⟨tbm (tt_5 232 (by rfl)) rfl, tbm (tt_5 234 (by rfl)) rfl, tbp 33 (by rfl) rfl, tbm (tt_1 11 (by rfl)) rfl⟩
theorem ml_X10_239 : mlV RX10 239 yX10_ring := ⟨tbm (tt_6 8 (by rfl)) rfl, tbm (tt_6 10 (by rfl)) rfl, tbp 37 (by rfl) rfl, tbm (tt_1 11 (by rfl)) rfl⟩
theorem ml_X10_243 : mlV RX10 243 yX10_isReady := ⟨tbm (tt_6 12 (by rfl)) rfl, tbm (tt_6 14 (by rfl)) rfl, tbp 38 (by rfl) rfl, tbm (tt_1 11 (by rfl)) rfl⟩
theorem ml_X10_246 : mlV RX10 246 yX10_work := ⟨tbm (tt_6 16 (by rfl)) rfl, tbm (tt_6 18 (by rfl)) rfl, tbp 39 (by rfl) rfl, tbm (tt_1 11 (by rfl)) rfl⟩
theorem ml_X10_249 : mlV RX10 249 yX10_putRounded := ⟨tbm (tt_6 74 (by rfl)) rfl, tbm (tt_6 76 (by rfl)) rfl, tbp 48 (by rfl) rfl, tbm (tt_1 11 (by rfl)) rfl⟩
theorem ml_X10_253 : mlV RX10 253 yX10_putSigns := ⟨tbm (tt_6 78 (by rfl)) rfl, tbm (tt_6 80 (by rfl)) rfl, tbp 49 (by rfl) rfl, tbm (tt_1 11 (by rfl)) rfl⟩
theorem ml_X10_256 : mlV RX10 256 yX10_show := ⟨tbm (tt_6 70 (by rfl)) rfl, tbm (tt_6 72 (by rfl)) rfl, tbp 47 (by rfl) rfl, tbm (tt_1 11 (by rfl)) rfl⟩
theorem ml_X10_259 : mlV RX10 259 yX10_cells := ⟨tbm (tt_6 94 (by rfl)) rfl, tbm (tt_6 96 (by rfl)) rfl, tbp 52 (by rfl) rfl, tbm (tt_1 11 (by rfl)) rfl⟩
theorem ml_X10_262 : mlV RX10 262 yX10_checkField := ⟨tbm (tt_6 86 (by rfl)) rfl, tbm (tt_6 88 (by rfl)) rfl, tbp 50 (by rfl) rfl, tbm (tt_1 11 (by rfl)) rfl⟩
theorem ml_X10_265 : mlV RX10 265 yX10_sizeOf := ⟨tbm (tt_6 90 (by rfl)) rfl, tbm (tt_6 92 (by rfl)) rfl, tbp 51 (by rfl) rfl, tbm (tt_1 11 (by rfl)) rfl⟩
theorem ml_X10_268 : mlS RX10 268 yX10_mark := ⟨tbm (tt_6 110 (by rfl)) rfl, tbm (tt_6 111 (by rfl)) rfl, tbm (tt_1 11 (by rfl)) rfl⟩
theorem ml_X10_272 : mlV RX10 272 yX10_make := ⟨tbm (tt_6 106 (by rfl)) rfl, tbm (tt_6 108 (by rfl)) rfl, tbp 53 (by rfl) rfl, tbm (tt_1 11 (by rfl)) rfl⟩
theorem ml_X10_287 : mlV RX10 287 yX10_isMaster := ⟨tbm (tt_6 130 (by rfl)) rfl, tbm (tt_6 132 (by rfl)) rfl, tbp 54 (by rfl) rfl, tbm (tt_1 11 (by rfl)) rfl⟩
theorem ml_X10_290 : mlV RX10 290 yX10_nameOut := ⟨tbm (tt_6 134 (by rfl)) rfl, tbm (tt_6 136 (by rfl)) rfl, tbp 55 (by rfl) rfl, tbm (tt_1 11 (by rfl)) rfl⟩
theorem ml_X10_293 : mlV RX10 293 yX10_putValue := ⟨tbm (tt_6 142 (by rfl)) rfl, tbm (tt_6 144 (by rfl)) rfl, tbp 57 (by rfl) rfl, tbm (tt_1 11 (by rfl)) rfl⟩
theorem ml_X10_296 : mlV RX10 296 yX10_out := ⟨tbm (tt_6 138 (by rfl)) rfl, tbm (tt_6 140 (by rfl)) rfl, tbp 56 (by rfl) rfl, tbm (tt_1 11 (by rfl)) rfl⟩
theorem ml_X10_304 : mlV RX10 304 yX10_behindName := ⟨tbm (tt_6 167 (by rfl)) rfl, tbm (tt_6 169 (by rfl)) rfl, tbp 61 (by rfl) rfl, tbm (tt_1 11 (by rfl)) rfl⟩
theorem ml_X10_307 : mlV RX10 307 yX10_takeValue := ⟨tbm (tt_6 171 (by rfl)) rfl, tbm (tt_6 173 (by rfl)) rfl, tbp 62 (by rfl) rfl, tbm (tt_1 11 (by rfl)) rfl⟩
theorem ml_X10_311 : mlV RX10 311 yX10_takeLine := ⟨tbm (tt_6 163 (by rfl)) rfl, tbm (tt_6 165 (by rfl)) rfl, tbp 60 (by rfl) rfl, tbm (tt_1 11 (by rfl)) rfl⟩
theorem ml_X10_315 : mlV RX10 315 yX10_goOver := ⟨tbm (tt_6 159 (by rfl)) rfl, tbm (tt_6 161 (by rfl)) rfl, tbp 59 (by rfl) rfl, tbm (tt_1 11 (by rfl)) rfl⟩
theorem ml_X10_321 : mlV RX10 321 yX10_readAll := ⟨tbm (tt_6 155 (by rfl)) rfl, tbm (tt_6 157 (by rfl)) rfl, tbp 58 (by rfl) rfl, tbm (tt_1 11 (by rfl)) rfl⟩
theorem ok_X0_isBeyond : mOk yX0_isBeyond cX0_isBeyond 2 (Option.some Jvm.ClassFile.FieldType.boolean) 1 := ⟨tbm (tt_2 213 (by rfl)) rfl, ⟨by decide +kernel, by decide +kernel, by decide +kernel⟩, by decide⟩
theorem ok_X0_isDigit : mOk yX0_isDigit cX0_isDigit 1 (Option.some Jvm.ClassFile.FieldType.boolean) 1 := ⟨tbm (tt_2 178 (by rfl)) rfl, ⟨by decide +kernel, by decide +kernel, by decide +kernel⟩, by decide⟩
theorem ok_X0_of : mOk yX0_of cX0_of 8 (Option.some Jvm.ClassFile.FieldType.long) 1 := ⟨tbm (tt_2 167 (by rfl)) rfl, ⟨by decide +kernel, by decide +kernel, by decide +kernel⟩, by decide⟩
theorem ok_X0_partOf : mOk yX0_partOf cX0_partOf 7 (Option.some Jvm.ClassFile.FieldType.long) 2 := ⟨tbm (tt_2 184 (by rfl)) rfl, ⟨by decide +kernel, by decide +kernel, by decide +kernel⟩, by decide⟩
theorem ok_X0_cut : mOk yX0_cut cX0_cut 6 (Option.some Jvm.ClassFile.FieldType.long) 2 := ⟨tbm (tt_2 229 (by rfl)) rfl, ⟨by decide +kernel, by decide +kernel, by decide +kernel⟩, by decide⟩
theorem ok_X0_digitSign : mOk yX0_digitSign cX0_digitSign 3 (Option.some Jvm.ClassFile.FieldType.int) 2 := ⟨tbm (tt_2 232 (by rfl)) rfl, ⟨by decide +kernel, by decide +kernel, by decide +kernel⟩, by decide⟩
theorem ok_X0_addNumber : mOk yX0_addNumber cX0_addNumber 6 (Option.none : Option Jvm.ClassFile.FieldType) 3 := ⟨tbm (tt_2 226 (by rfl)) rfl, ⟨by decide +kernel, by decide +kernel, by decide +kernel⟩, by decide⟩
theorem ok_X0_addPart : mOk yX0_addPart cX0_addPart 5 (Option.none : Option Jvm.ClassFile.FieldType) 3 := ⟨tbm (tt_2 235 (by rfl)) rfl, ⟨by decide +kernel, by decide +kernel, by decide +kernel⟩, by decide⟩
theorem ok_X0_addWritten : mOk yX0_addWritten cX0_addWritten 9 (Option.none : Option Jvm.ClassFile.FieldType) 2 := ⟨tbm (tt_2 222 (by rfl)) rfl, ⟨by decide +kernel, by decide +kernel, by decide +kernel⟩, by decide⟩
theorem ok_X0_addShown : mOk yX0_addShown cX0_addShown 7 (Option.none : Option Jvm.ClassFile.FieldType) 4 := ⟨tbm (tt_4 66 (by rfl)) rfl, ⟨by decide +kernel, by decide +kernel, by decide +kernel⟩, by decide⟩
theorem ok_X0_halfOfLast : mOk yX0_halfOfLast cX0_halfOfLast 1 (Option.some Jvm.ClassFile.FieldType.long) 1 := ⟨tbm (tt_4 69 (by rfl)) rfl, ⟨by decide +kernel, by decide +kernel, by decide +kernel⟩, by decide⟩
theorem ok_X0_combine : mOk yX0_combine cX0_combine 5 (Option.some Jvm.ClassFile.FieldType.long) 3 := ⟨tbm (tt_2 193 (by rfl)) rfl, ⟨by decide +kernel, by decide +kernel, by decide +kernel⟩, by decide⟩
theorem ok_X0_product : mOk yX0_product cX0_product 6 (Option.some Jvm.ClassFile.FieldType.long) 2 := ⟨tbm (tt_2 196 (by rfl)) rfl, ⟨by decide +kernel, by decide +kernel, by decide +kernel⟩, by decide⟩
theorem ok_X1_init : mOk yX1_init cX1_init 2 (Option.none : Option Jvm.ClassFile.FieldType) 1 := ⟨tbm (tt_1 172 (by rfl)) rfl, ⟨by decide +kernel, by decide +kernel, by decide +kernel⟩, by decide⟩
theorem ok_X1_mayWorkWith : mOk yX1_mayWorkWith cX1_mayWorkWith 6 (Option.some Jvm.ClassFile.FieldType.boolean) 3 := ⟨tbm (tt_3 216 (by rfl)) rfl, ⟨by decide +kernel, by decide +kernel, by decide +kernel⟩, by decide⟩
theorem ok_X1_canBeReckoned : mOk yX1_canBeReckoned cX1_canBeReckoned 1 (Option.some Jvm.ClassFile.FieldType.boolean) 1 := ⟨tbm (tt_3 219 (by rfl)) rfl, ⟨by decide +kernel, by decide +kernel, by decide +kernel⟩, by decide⟩
theorem ok_X1_workOutAll : mOk yX1_workOutAll cX1_workOutAll 7 (Option.some Jvm.ClassFile.FieldType.int) 0 := ⟨tbm (tt_2 37 (by rfl)) rfl, ⟨by decide +kernel, by decide +kernel, by decide +kernel⟩, by decide⟩
theorem ok_X1_bit : mOk yX1_bit cX1_bit 1 (Option.some Jvm.ClassFile.FieldType.long) 1 := ⟨tbm (tt_2 123 (by rfl)) rfl, ⟨by decide +kernel, by decide +kernel, by decide +kernel⟩, by decide⟩
theorem ok_X1_isIn : mOk yX1_isIn cX1_isIn 3 (Option.some Jvm.ClassFile.FieldType.boolean) 2 := ⟨tbm (tt_2 142 (by rfl)) rfl, ⟨by decide +kernel, by decide +kernel, by decide +kernel⟩, by decide⟩
theorem ok_X1_gatherNeeds : mOk yX1_gatherNeeds cX1_gatherNeeds 5 (Option.some Jvm.ClassFile.FieldType.long) 0 := ⟨tbm (tt_2 41 (by rfl)) rfl, ⟨by decide +kernel, by decide +kernel, by decide +kernel⟩, by decide⟩
theorem ok_X1_needsOf : mOk yX1_needsOf cX1_needsOf 2 (Option.some Jvm.ClassFile.FieldType.long) 1 := ⟨tbm (tt_2 120 (by rfl)) rfl, ⟨by decide +kernel, by decide +kernel, by decide +kernel⟩, by decide⟩
theorem ok_X1_numbersIn : mOk yX1_numbersIn cX1_numbersIn 5 (Option.some Jvm.ClassFile.FieldType.long) 1 := ⟨tbm (tt_2 127 (by rfl)) rfl, ⟨by decide +kernel, by decide +kernel, by decide +kernel⟩, by decide⟩
theorem ok_X1_leastInRing : mOk yX1_leastInRing cX1_leastInRing 4 (Option.some Jvm.ClassFile.FieldType.int) 0 := ⟨tbm (tt_2 136 (by rfl)) rfl, ⟨by decide +kernel, by decide +kernel, by decide +kernel⟩, by decide⟩
theorem ok_X1_leastReady : mOk yX1_leastReady cX1_leastReady 4 (Option.some Jvm.ClassFile.FieldType.int) 1 := ⟨tbm (tt_2 150 (by rfl)) rfl, ⟨by decide +kernel, by decide +kernel, by decide +kernel⟩, by decide⟩
theorem ok_X1_writeResult : mOk yX1_writeResult cX1_writeResult 5 (Option.some Jvm.ClassFile.FieldType.int) 2 := ⟨tbm (tt_2 210 (by rfl)) rfl, ⟨by decide +kernel, by decide +kernel, by decide +kernel⟩, by decide⟩
theorem ok_X1_resultOf : mOk yX1_resultOf cX1_resultOf 6 (Option.some Jvm.ClassFile.FieldType.long) 1 := ⟨tbm (tt_2 154 (by rfl)) rfl, ⟨by decide +kernel, by decide +kernel, by decide +kernel⟩, by decide⟩
theorem ok_X1_sumOf : mOk yX1_sumOf cX1_sumOf 8 (Option.some Jvm.ClassFile.FieldType.long) 1 := ⟨tbm (tt_2 159 (by rfl)) rfl, ⟨by decide +kernel, by decide +kernel, by decide +kernel⟩, by decide⟩
theorem ok_X2_init : mOk yX2_init cX2_init 1 (Option.none : Option Jvm.ClassFile.FieldType) 0 := ⟨tbm (tt_1 42 (by rfl)) rfl, ⟨by decide +kernel, by decide +kernel, by decide +kernel⟩, by decide⟩
theorem ok_X2_begin : mOk yX2_begin cX2_begin 6 (Option.none : Option Jvm.ClassFile.FieldType) 5 := ⟨tbm (tt_3 117 (by rfl)) rfl, ⟨by decide +kernel, by decide +kernel, by decide +kernel⟩, by decide⟩
theorem ok_X2_hasSigns : mOk yX2_hasSigns cX2_hasSigns 1 (Option.some Jvm.ClassFile.FieldType.boolean) 0 := ⟨tbm (tt_3 43 (by rfl)) rfl, ⟨by decide +kernel, by decide +kernel, by decide +kernel⟩, by decide⟩
theorem ok_X2_hasOptions : mOk yX2_hasOptions cX2_hasOptions 1 (Option.some Jvm.ClassFile.FieldType.boolean) 0 := ⟨tbm (tt_3 121 (by rfl)) rfl, ⟨by decide +kernel, by decide +kernel, by decide +kernel⟩, by decide⟩
theorem ok_X2_isSign : mOk yX2_isSign cX2_isSign 2 (Option.some Jvm.ClassFile.FieldType.boolean) 1 := ⟨tbm (tt_3 138 (by rfl)) rfl, ⟨by decide +kernel, by decide +kernel, by decide +kernel⟩, by decide⟩
theorem ok_X2_room : mOk yX2_room cX2_room 1 (Option.some Jvm.ClassFile.FieldType.int) 0 := ⟨tbm (tt_3 157 (by rfl)) rfl, ⟨by decide +kernel, by decide +kernel, by decide +kernel⟩, by decide⟩
theorem ok_X2_mayBeNone : mOk yX2_mayBeNone cX2_mayBeNone 1 (Option.some Jvm.ClassFile.FieldType.boolean) 0 := ⟨tbm (tt_3 142 (by rfl)) rfl, ⟨by decide +kernel, by decide +kernel, by decide +kernel⟩, by decide⟩
theorem ok_X2_couldTake : mOk yX2_couldTake cX2_couldTake 2 (Option.some Jvm.ClassFile.FieldType.boolean) 1 := ⟨tbm (tt_3 133 (by rfl)) rfl, ⟨by decide +kernel, by decide +kernel, by decide +kernel⟩, by decide⟩
theorem ok_X2_takeSign : mOk yX2_takeSign cX2_takeSign 2 (Option.some Jvm.ClassFile.FieldType.int) 1 := ⟨tbm (tt_3 151 (by rfl)) rfl, ⟨by decide +kernel, by decide +kernel, by decide +kernel⟩, by decide⟩
theorem ok_X2_pick : mOk yX2_pick cX2_pick 2 (Option.some Jvm.ClassFile.FieldType.int) 1 := ⟨tbm (tt_3 164 (by rfl)) rfl, ⟨by decide +kernel, by decide +kernel, by decide +kernel⟩, by decide⟩
theorem ok_X2_isFlag : mOk yX2_isFlag cX2_isFlag 1 (Option.some Jvm.ClassFile.FieldType.boolean) 1 := ⟨tbm (tt_3 146 (by rfl)) rfl, ⟨by decide +kernel, by decide +kernel, by decide +kernel⟩, by decide⟩
theorem ok_X2_maySetTo : mOk yX2_maySetTo cX2_maySetTo 3 (Option.some Jvm.ClassFile.FieldType.boolean) 2 := ⟨tbm (tt_3 192 (by rfl)) rfl, ⟨by decide +kernel, by decide +kernel, by decide +kernel⟩, by decide⟩
theorem ok_X2_change : mOk yX2_change cX2_change 4 (Option.some Jvm.ClassFile.FieldType.int) 2 := ⟨tbm (tt_3 197 (by rfl)) rfl, ⟨by decide +kernel, by decide +kernel, by decide +kernel⟩, by decide⟩
theorem ok_X2_isEmpty : mOk yX2_isEmpty cX2_isEmpty 1 (Option.some Jvm.ClassFile.FieldType.boolean) 0 := ⟨tbm (tt_4 110 (by rfl)) rfl, ⟨by decide +kernel, by decide +kernel, by decide +kernel⟩, by decide⟩
theorem ok_X2_amount : mOk yX2_amount cX2_amount 1 (Option.some Jvm.ClassFile.FieldType.long) 0 := ⟨tbm (tt_2 163 (by rfl)) rfl, ⟨by decide +kernel, by decide +kernel, by decide +kernel⟩, by decide⟩
theorem ok_X2_verdict : mOk yX2_verdict cX2_verdict 3 (Option.some Jvm.ClassFile.FieldType.int) 0 := ⟨tbm (tt_4 106 (by rfl)) rfl, ⟨by decide +kernel, by decide +kernel, by decide +kernel⟩, by decide⟩
theorem ok_X3_init : mOk yX3_init cX3_init 2 (Option.none : Option Jvm.ClassFile.FieldType) 1 := ⟨tbm (tt_1 233 (by rfl)) rfl, ⟨by decide +kernel, by decide +kernel, by decide +kernel⟩, by decide⟩
theorem ok_X3_count : mOk yX3_count cX3_count 1 (Option.some Jvm.ClassFile.FieldType.int) 0 := ⟨tbm (tt_4 143 (by rfl)) rfl, ⟨by decide +kernel, by decide +kernel, by decide +kernel⟩, by decide⟩
theorem ok_X3_clear : mOk yX3_clear cX3_clear 1 (Option.none : Option Jvm.ClassFile.FieldType) 0 := ⟨tbm (tt_4 122 (by rfl)) rfl, ⟨by decide +kernel, by decide +kernel, by decide +kernel⟩, by decide⟩
theorem ok_X3_has : mOk yX3_has cX3_has 3 (Option.some Jvm.ClassFile.FieldType.boolean) 2 := ⟨tbm (tt_4 154 (by rfl)) rfl, ⟨by decide +kernel, by decide +kernel, by decide +kernel⟩, by decide⟩
theorem ok_X3_get : mOk yX3_get cX3_get 3 (Option.some Jvm.ClassFile.FieldType.int) 2 := ⟨tbm (tt_4 158 (by rfl)) rfl, ⟨by decide +kernel, by decide +kernel, by decide +kernel⟩, by decide⟩
theorem ok_X3_add : mOk yX3_add cX3_add 6 (Option.none : Option Jvm.ClassFile.FieldType) 5 := ⟨tbm (tt_4 136 (by rfl)) rfl, ⟨by decide +kernel, by decide +kernel, by decide +kernel⟩, by decide⟩
theorem ok_X4_init : mOk yX4_init cX4_init 2 (Option.none : Option Jvm.ClassFile.FieldType) 1 := ⟨tbm (tt_1 217 (by rfl)) rfl, ⟨by decide +kernel, by decide +kernel, by decide +kernel⟩, by decide⟩
theorem ok_X4_readAll : mOk yX4_readAll cX4_readAll 2 (Option.some Jvm.ClassFile.FieldType.int) 0 := ⟨tbm (tt_4 197 (by rfl)) rfl, ⟨by decide +kernel, by decide +kernel, by decide +kernel⟩, by decide⟩
theorem ok_X4_checkAll : mOk yX4_checkAll cX4_checkAll 5 (Option.some Jvm.ClassFile.FieldType.int) 0 := ⟨tbm (tt_4 201 (by rfl)) rfl, ⟨by decide +kernel, by decide +kernel, by decide +kernel⟩, by decide⟩
theorem ok_X4_takeAll : mOk yX4_takeAll cX4_takeAll 5 (Option.none : Option Jvm.ClassFile.FieldType) 1 := ⟨tbm (tt_5 5 (by rfl)) rfl, ⟨by decide +kernel, by decide +kernel, by decide +kernel⟩, by decide⟩
theorem ok_X4_endOf : mOk yX4_endOf cX4_endOf 2 (Option.some Jvm.ClassFile.FieldType.int) 1 := ⟨tbm (tt_4 206 (by rfl)) rfl, ⟨by decide +kernel, by decide +kernel, by decide +kernel⟩, by decide⟩
theorem ok_X4_next : mOk yX4_next cX4_next 5 (Option.some Jvm.ClassFile.FieldType.int) 3 := ⟨tbm (tt_4 210 (by rfl)) rfl, ⟨by decide +kernel, by decide +kernel, by decide +kernel⟩, by decide⟩
theorem ok_X4_isGood : mOk yX4_isGood cX4_isGood 6 (Option.some Jvm.ClassFile.FieldType.boolean) 2 := ⟨tbm (tt_4 215 (by rfl)) rfl, ⟨by decide +kernel, by decide +kernel, by decide +kernel⟩, by decide⟩
theorem ok_X4_take : mOk yX4_take cX4_take 6 (Option.none : Option Jvm.ClassFile.FieldType) 2 := ⟨tbm (tt_5 9 (by rfl)) rfl, ⟨by decide +kernel, by decide +kernel, by decide +kernel⟩, by decide⟩
theorem ok_X4_masterNamed : mOk yX4_masterNamed cX4_masterNamed 8 (Option.some Jvm.ClassFile.FieldType.int) 2 := ⟨tbm (tt_4 219 (by rfl)) rfl, ⟨by decide +kernel, by decide +kernel, by decide +kernel⟩, by decide⟩
theorem ok_X4_plainNumber : mOk yX4_plainNumber cX4_plainNumber 6 (Option.some Jvm.ClassFile.FieldType.int) 2 := ⟨tbm (tt_4 223 (by rfl)) rfl, ⟨by decide +kernel, by decide +kernel, by decide +kernel⟩, by decide⟩
theorem ok_X4_couldTake : mOk yX4_couldTake cX4_couldTake 5 (Option.some Jvm.ClassFile.FieldType.boolean) 3 := ⟨tbm (tt_4 231 (by rfl)) rfl, ⟨by decide +kernel, by decide +kernel, by decide +kernel⟩, by decide⟩
theorem ok_X4_couldTakeSigns : mOk yX4_couldTakeSigns cX4_couldTakeSigns 5 (Option.some Jvm.ClassFile.FieldType.boolean) 3 := ⟨tbm (tt_4 236 (by rfl)) rfl, ⟨by decide +kernel, by decide +kernel, by decide +kernel⟩, by decide⟩
theorem ok_X5_init : mOk yX5_init cX5_init 2 (Option.none : Option Jvm.ClassFile.FieldType) 1 := ⟨tbm (tt_1 48 (by rfl)) rfl, ⟨by decide +kernel, by decide +kernel, by decide +kernel⟩, by decide⟩
theorem ok_X5_count : mOk yX5_count cX5_count 1 (Option.some Jvm.ClassFile.FieldType.int) 0 := ⟨tbm (tt_2 171 (by rfl)) rfl, ⟨by decide +kernel, by decide +kernel, by decide +kernel⟩, by decide⟩
theorem ok_X5_has : mOk yX5_has cX5_has 2 (Option.some Jvm.ClassFile.FieldType.boolean) 1 := ⟨tbm (tt_3 48 (by rfl)) rfl, ⟨by decide +kernel, by decide +kernel, by decide +kernel⟩, by decide⟩
theorem ok_X5_get : mOk yX5_get cX5_get 2 (Option.some Jvm.ClassFile.FieldType.int) 1 := ⟨tbm (tt_2 175 (by rfl)) rfl, ⟨by decide +kernel, by decide +kernel, by decide +kernel⟩, by decide⟩
theorem ok_X5_find : mOk yX5_find cX5_find 3 (Option.some Jvm.ClassFile.FieldType.int) 1 := ⟨tbm (tt_3 177 (by rfl)) rfl, ⟨by decide +kernel, by decide +kernel, by decide +kernel⟩, by decide⟩
theorem ok_X5_add : mOk yX5_add cX5_add 2 (Option.some Jvm.ClassFile.FieldType.boolean) 1 := ⟨tbm (tt_2 219 (by rfl)) rfl, ⟨by decide +kernel, by decide +kernel, by decide +kernel⟩, by decide⟩
theorem ok_X5_clear : mOk yX5_clear cX5_clear 1 (Option.none : Option Jvm.ClassFile.FieldType) 0 := ⟨tbm (tt_2 146 (by rfl)) rfl, ⟨by decide +kernel, by decide +kernel, by decide +kernel⟩, by decide⟩
theorem ok_X5_addAll : mOk yX5_addAll cX5_addAll 5 (Option.none : Option Jvm.ClassFile.FieldType) 3 := ⟨tbm (tt_3 10 (by rfl)) rfl, ⟨by decide +kernel, by decide +kernel, by decide +kernel⟩, by decide⟩
theorem ok_X5_become : mOk yX5_become cX5_become 2 (Option.none : Option Jvm.ClassFile.FieldType) 1 := ⟨tbm (tt_3 5 (by rfl)) rfl, ⟨by decide +kernel, by decide +kernel, by decide +kernel⟩, by decide⟩
theorem ok_X5_isSameAs : mOk yX5_isSameAs cX5_isSameAs 3 (Option.some Jvm.ClassFile.FieldType.boolean) 1 := ⟨tbm (tt_2 239 (by rfl)) rfl, ⟨by decide +kernel, by decide +kernel, by decide +kernel⟩, by decide⟩
theorem ok_X6_init : mOk yX6_init cX6_init 2 (Option.none : Option Jvm.ClassFile.FieldType) 0 := ⟨tbm (tt_1 35 (by rfl)) rfl, ⟨by decide +kernel, by decide +kernel, by decide +kernel⟩, by decide⟩
theorem ok_X6_count : mOk yX6_count cX6_count 1 (Option.some Jvm.ClassFile.FieldType.int) 0 := ⟨tbm (tt_2 45 (by rfl)) rfl, ⟨by decide +kernel, by decide +kernel, by decide +kernel⟩, by decide⟩
theorem ok_X6_get : mOk yX6_get cX6_get 2 (Option.some (Jvm.ClassFile.FieldType.object "FormFields$Field")) 1 := ⟨tbm (tt_2 49 (by rfl)) rfl, ⟨by decide +kernel, by decide +kernel, by decide +kernel⟩, by decide⟩
theorem ok_X6_masterOf : mOk yX6_masterOf cX6_masterOf 2 (Option.some (Jvm.ClassFile.FieldType.object "FormFields$Field")) 1 := ⟨tbm (tt_2 190 (by rfl)) rfl, ⟨by decide +kernel, by decide +kernel, by decide +kernel⟩, by decide⟩
theorem ok_X6_add : mOk yX6_add cX6_add 6 (Option.some Jvm.ClassFile.FieldType.int) 4 := ⟨tbm (tt_3 98 (by rfl)) rfl, ⟨by decide +kernel, by decide +kernel, by decide +kernel⟩, by decide⟩
theorem ok_X6_firstNamed : mOk yX6_firstNamed cX6_firstNamed 6 (Option.some Jvm.ClassFile.FieldType.int) 2 := ⟨tbm (tt_3 79 (by rfl)) rfl, ⟨by decide +kernel, by decide +kernel, by decide +kernel⟩, by decide⟩
theorem ok_X6_isMaster : mOk yX6_isMaster cX6_isMaster 3 (Option.some Jvm.ClassFile.FieldType.boolean) 1 := ⟨tbm (tt_3 26 (by rfl)) rfl, ⟨by decide +kernel, by decide +kernel, by decide +kernel⟩, by decide⟩
theorem ok_X6_isInside : mOk yX6_isInside cX6_isInside 5 (Option.some Jvm.ClassFile.FieldType.boolean) 2 := ⟨tbm (tt_2 131 (by rfl)) rfl, ⟨by decide +kernel, by decide +kernel, by decide +kernel⟩, by decide⟩
theorem ok_X7_init : mOk yX7_init cX7_init 1 (Option.none : Option Jvm.ClassFile.FieldType) 0 := ⟨tbm (tt_1 160 (by rfl)) rfl, ⟨by decide +kernel, by decide +kernel, by decide +kernel⟩, by decide⟩
theorem ok_X7_show : mOk yX7_show cX7_show 2 (Option.some (Jvm.ClassFile.FieldType.object "FormFields$Row")) 1 := ⟨tbm (tt_4 54 (by rfl)) rfl, ⟨by decide +kernel, by decide +kernel, by decide +kernel⟩, by decide⟩
theorem ok_X7_showNumber : mOk yX7_showNumber cX7_showNumber 4 (Option.none : Option Jvm.ClassFile.FieldType) 1 := ⟨tbm (tt_4 60 (by rfl)) rfl, ⟨by decide +kernel, by decide +kernel, by decide +kernel⟩, by decide⟩
theorem ok_X7_fittingSize : mOk yX7_fittingSize cX7_fittingSize 4 (Option.some Jvm.ClassFile.FieldType.int) 2 := ⟨tbm (tt_4 91 (by rfl)) rfl, ⟨by decide +kernel, by decide +kernel, by decide +kernel⟩, by decide⟩
theorem ok_X7_sizeFor : mOk yX7_sizeFor cX7_sizeFor 4 (Option.some Jvm.ClassFile.FieldType.int) 2 := ⟨tbm (tt_4 95 (by rfl)) rfl, ⟨by decide +kernel, by decide +kernel, by decide +kernel⟩, by decide⟩
theorem ok_X7_addMarks : mOk yX7_addMarks cX7_addMarks 11 (Option.none : Option Jvm.ClassFile.FieldType) 3 := ⟨tbm (tt_4 126 (by rfl)) rfl, ⟨by decide +kernel, by decide +kernel, by decide +kernel⟩, by decide⟩
theorem ok_X7_beginning : mOk yX7_beginning cX7_beginning 3 (Option.some Jvm.ClassFile.FieldType.int) 2 := ⟨tbm (tt_4 132 (by rfl)) rfl, ⟨by decide +kernel, by decide +kernel, by decide +kernel⟩, by decide⟩
theorem ok_X7_cellX : mOk yX7_cellX cX7_cellX 4 (Option.some Jvm.ClassFile.FieldType.int) 4 := ⟨tbm (tt_4 139 (by rfl)) rfl, ⟨by decide +kernel, by decide +kernel, by decide +kernel⟩, by decide⟩
theorem ok_X8_init : mOk yX8_init cX8_init 2 (Option.none : Option Jvm.ClassFile.FieldType) 1 := ⟨tbm (tt_1 198 (by rfl)) rfl, ⟨by decide +kernel, by decide +kernel, by decide +kernel⟩, by decide⟩
theorem ok_X8_writeAll : mOk yX8_writeAll cX8_writeAll 2 (Option.some Jvm.ClassFile.FieldType.int) 0 := ⟨tbm (tt_3 20 (by rfl)) rfl, ⟨by decide +kernel, by decide +kernel, by decide +kernel⟩, by decide⟩
theorem ok_X8_addFullName : mOk yX8_addFullName cX8_addFullName 4 (Option.none : Option Jvm.ClassFile.FieldType) 1 := ⟨tbm (tt_3 30 (by rfl)) rfl, ⟨by decide +kernel, by decide +kernel, by decide +kernel⟩, by decide⟩
theorem ok_X8_addContent : mOk yX8_addContent cX8_addContent 2 (Option.none : Option Jvm.ClassFile.FieldType) 1 := ⟨tbm (tt_3 39 (by rfl)) rfl, ⟨by decide +kernel, by decide +kernel, by decide +kernel⟩, by decide⟩
theorem ok_X9_init : mOk yX9_init cX9_init 1 (Option.none : Option Jvm.ClassFile.FieldType) 0 := ⟨tbm (tt_1 27 (by rfl)) rfl, ⟨by decide +kernel, by decide +kernel, by decide +kernel⟩, by decide⟩
theorem ok_X9_field : mOk yX9_field cX9_field 6 (Option.some Jvm.ClassFile.FieldType.int) 3 := ⟨tbm (tt_3 59 (by rfl)) rfl, ⟨by decide +kernel, by decide +kernel, by decide +kernel⟩, by decide⟩
theorem ok_X9_value : mOk yX9_value cX9_value 5 (Option.some Jvm.ClassFile.FieldType.int) 2 := ⟨tbm (tt_3 128 (by rfl)) rfl, ⟨by decide +kernel, by decide +kernel, by decide +kernel⟩, by decide⟩
theorem ok_X9_option : mOk yX9_option cX9_option 4 (Option.some Jvm.ClassFile.FieldType.int) 2 := ⟨tbm (tt_3 171 (by rfl)) rfl, ⟨by decide +kernel, by decide +kernel, by decide +kernel⟩, by decide⟩
theorem ok_X9_set : mOk yX9_set cX9_set 6 (Option.some Jvm.ClassFile.FieldType.int) 3 := ⟨tbm (tt_3 188 (by rfl)) rfl, ⟨by decide +kernel, by decide +kernel, by decide +kernel⟩, by decide⟩
theorem ok_X9_bounds : mOk yX9_bounds cX9_bounds 7 (Option.none : Option Jvm.ClassFile.FieldType) 3 := ⟨tbm (tt_3 204 (by rfl)) rfl, ⟨by decide +kernel, by decide +kernel, by decide +kernel⟩, by decide⟩
theorem ok_X9_formula : mOk yX9_formula cX9_formula 7 (Option.some Jvm.ClassFile.FieldType.int) 4 := ⟨tbm (tt_3 212 (by rfl)) rfl, ⟨by decide +kernel, by decide +kernel, by decide +kernel⟩, by decide⟩
theorem ok_X9_calculate : mOk yX9_calculate cX9_calculate 1 (Option.some Jvm.ClassFile.FieldType.int) 0 := ⟨tbm (tt_2 33 (by rfl)) rfl, ⟨by decide +kernel, by decide +kernel, by decide +kernel⟩, by decide⟩
theorem ok_X9_failed : mOk yX9_failed cX9_failed 2 (Option.some Jvm.ClassFile.FieldType.int) 1 := ⟨tbm (tt_4 19 (by rfl)) rfl, ⟨by decide +kernel, by decide +kernel, by decide +kernel⟩, by decide⟩
theorem ok_X9_fails : mOk yX9_fails cX9_fails 5 (Option.some Jvm.ClassFile.FieldType.int) 2 := ⟨tbm (tt_4 43 (by rfl)) rfl, ⟨by decide +kernel, by decide +kernel, by decide +kernel⟩, by decide⟩
theorem ok_X9_shown : mOk yX9_shown cX9_shown 3 (Option.some Jvm.ClassFile.FieldType.int) 2 := ⟨tbm (tt_4 50 (by rfl)) rfl, ⟨by decide +kernel, by decide +kernel, by decide +kernel⟩, by decide⟩
theorem ok_X9_size : mOk yX9_size cX9_size 2 (Option.some Jvm.ClassFile.FieldType.int) 1 := ⟨tbm (tt_4 83 (by rfl)) rfl, ⟨by decide +kernel, by decide +kernel, by decide +kernel⟩, by decide⟩
theorem ok_X9_validate : mOk yX9_validate cX9_validate 2 (Option.some Jvm.ClassFile.FieldType.int) 1 := ⟨tbm (tt_4 102 (by rfl)) rfl, ⟨by decide +kernel, by decide +kernel, by decide +kernel⟩, by decide⟩
theorem ok_X9_appearance : mOk yX9_appearance cX9_appearance 3 (Option.some Jvm.ClassFile.FieldType.int) 1 := ⟨tbm (tt_4 118 (by rfl)) rfl, ⟨by decide +kernel, by decide +kernel, by decide +kernel⟩, by decide⟩
theorem ok_X9_mark : mOk yX9_mark cX9_mark 3 (Option.some Jvm.ClassFile.FieldType.int) 2 := ⟨tbm (tt_4 150 (by rfl)) rfl, ⟨by decide +kernel, by decide +kernel, by decide +kernel⟩, by decide⟩
theorem ok_X9_flatten : mOk yX9_flatten cX9_flatten 4 (Option.some Jvm.ClassFile.FieldType.int) 1 := ⟨tbm (tt_4 166 (by rfl)) rfl, ⟨by decide +kernel, by decide +kernel, by decide +kernel⟩, by decide⟩
theorem ok_X9_page : mOk yX9_page cX9_page 3 (Option.some Jvm.ClassFile.FieldType.int) 2 := ⟨tbm (tt_4 173 (by rfl)) rfl, ⟨by decide +kernel, by decide +kernel, by decide +kernel⟩, by decide⟩
theorem ok_X9_write : mOk yX9_write cX9_write 1 (Option.some Jvm.ClassFile.FieldType.int) 0 := ⟨tbm (tt_3 16 (by rfl)) rfl, ⟨by decide +kernel, by decide +kernel, by decide +kernel⟩, by decide⟩
theorem ok_X9_at : mOk yX9_at cX9_at 2 (Option.some Jvm.ClassFile.FieldType.int) 1 := ⟨tbm (tt_4 181 (by rfl)) rfl, ⟨by decide +kernel, by decide +kernel, by decide +kernel⟩, by decide⟩
theorem ok_X9_read : mOk yX9_read cX9_read 2 (Option.some Jvm.ClassFile.FieldType.int) 1 := ⟨tbm (tt_4 193 (by rfl)) rfl, ⟨by decide +kernel, by decide +kernel, by decide +kernel⟩, by decide⟩
theorem ok_X9_lock : mOk yX9_lock cX9_lock 5 (Option.some Jvm.ClassFile.FieldType.int) 2 := ⟨tbm (tt_5 18 (by rfl)) rfl, ⟨by decide +kernel, by decide +kernel, by decide +kernel⟩, by decide⟩
theorem ok_X9_masterWithValue : mOk yX9_masterWithValue cX9_masterWithValue 3 (Option.some (Jvm.ClassFile.FieldType.object "FormFields$Field")) 1 := ⟨tbm (tt_4 87 (by rfl)) rfl, ⟨by decide +kernel, by decide +kernel, by decide +kernel⟩, by decide⟩
theorem ok_X10_init : mOk yX10_init cX10_init 1 (Option.none : Option Jvm.ClassFile.FieldType) 0 := ⟨tbm (tt_5 23 (by rfl)) rfl, ⟨by decide +kernel, by decide +kernel, by decide +kernel⟩, by decide⟩
theorem ok_X10_thrown : mOk yX10_thrown cX10_thrown 1 (Option.some Jvm.ClassFile.FieldType.int) 0 := ⟨tbm (tt_5 144 (by rfl)) rfl, ⟨by decide +kernel, by decide +kernel, by decide +kernel⟩, by decide⟩
theorem ok_X10_isIn : mOk yX10_isIn cX10_isIn 6 (Option.some Jvm.ClassFile.FieldType.boolean) 3 := ⟨tbm (tt_5 156 (by rfl)) rfl, ⟨by decide +kernel, by decide +kernel, by decide +kernel⟩, by decide⟩
theorem ok_X10_no : mOk yX10_no cX10_no 2 (Option.some Jvm.ClassFile.FieldType.boolean) 1 := ⟨tbm (tt_5 152 (by rfl)) rfl, ⟨by decide +kernel, by decide +kernel, by decide +kernel⟩, by decide⟩
theorem ok_X10_isSameName : mOk yX10_isSameName cX10_isSameName 5 (Option.some Jvm.ClassFile.FieldType.boolean) 2 := ⟨tbm (tt_5 165 (by rfl)) rfl, ⟨by decide +kernel, by decide +kernel, by decide +kernel⟩, by decide⟩
theorem ok_X10_field : mOk yX10_field cX10_field 6 (Option.some Jvm.ClassFile.FieldType.int) 3 := ⟨tbm (tt_5 148 (by rfl)) rfl, ⟨by decide +kernel, by decide +kernel, by decide +kernel⟩, by decide⟩
theorem ok_X10_lookUp : mOk yX10_lookUp cX10_lookUp 5 (Option.some Jvm.ClassFile.FieldType.int) 2 := ⟨tbm (tt_5 161 (by rfl)) rfl, ⟨by decide +kernel, by decide +kernel, by decide +kernel⟩, by decide⟩
theorem ok_X10_isSigned : mOk yX10_isSigned cX10_isSigned 2 (Option.some Jvm.ClassFile.FieldType.boolean) 1 := ⟨tbm (tt_5 175 (by rfl)) rfl, ⟨by decide +kernel, by decide +kernel, by decide +kernel⟩, by decide⟩
theorem ok_X10_isPicked : mOk yX10_isPicked cX10_isPicked 2 (Option.some Jvm.ClassFile.FieldType.boolean) 1 := ⟨tbm (tt_5 188 (by rfl)) rfl, ⟨by decide +kernel, by decide +kernel, by decide +kernel⟩, by decide⟩
theorem ok_X10_isNumberSign : mOk yX10_isNumberSign cX10_isNumberSign 1 (Option.some Jvm.ClassFile.FieldType.boolean) 1 := ⟨tbm (tt_5 184 (by rfl)) rfl, ⟨by decide +kernel, by decide +kernel, by decide +kernel⟩, by decide⟩
theorem ok_X10_isSign : mOk yX10_isSign cX10_isSign 3 (Option.some Jvm.ClassFile.FieldType.boolean) 2 := ⟨tbm (tt_5 179 (by rfl)) rfl, ⟨by decide +kernel, by decide +kernel, by decide +kernel⟩, by decide⟩
theorem ok_X10_most : mOk yX10_most cX10_most 3 (Option.some Jvm.ClassFile.FieldType.int) 1 := ⟨tbm (tt_5 196 (by rfl)) rfl, ⟨by decide +kernel, by decide +kernel, by decide +kernel⟩, by decide⟩
theorem ok_X10_mayPick : mOk yX10_mayPick cX10_mayPick 3 (Option.some Jvm.ClassFile.FieldType.boolean) 2 := ⟨tbm (tt_5 192 (by rfl)) rfl, ⟨by decide +kernel, by decide +kernel, by decide +kernel⟩, by decide⟩
theorem ok_X10_value : mOk yX10_value cX10_value 5 (Option.some Jvm.ClassFile.FieldType.int) 2 := ⟨tbm (tt_5 171 (by rfl)) rfl, ⟨by decide +kernel, by decide +kernel, by decide +kernel⟩, by decide⟩
theorem ok_X10_option : mOk yX10_option cX10_option 6 (Option.some Jvm.ClassFile.FieldType.int) 2 := ⟨tbm (tt_5 200 (by rfl)) rfl, ⟨by decide +kernel, by decide +kernel, by decide +kernel⟩, by decide⟩
theorem ok_X10_maySet : mOk yX10_maySet cX10_maySet 4 (Option.some Jvm.ClassFile.FieldType.boolean) 3 := ⟨tbm (tt_5 209 (by rfl)) rfl, ⟨by decide +kernel, by decide +kernel, by decide +kernel⟩, by decide⟩
theorem ok_X10_set : mOk yX10_set cX10_set 6 (Option.some Jvm.ClassFile.FieldType.int) 3 := ⟨tbm (tt_5 205 (by rfl)) rfl, ⟨by decide +kernel, by decide +kernel, by decide +kernel⟩, by decide⟩
theorem ok_X10_bounds : mOk yX10_bounds cX10_bounds 6 (Option.none : Option Jvm.ClassFile.FieldType) 3 := ⟨tbm (tt_5 217 (by rfl)) rfl, ⟨by decide +kernel, by decide +kernel, by decide +kernel⟩, by decide⟩
theorem ok_X10_amountOf : mOk yX10_amountOf cX10_amountOf 11 (Option.some Jvm.ClassFile.FieldType.long) 1 := ⟨tbm (tt_6 32 (by rfl)) rfl, ⟨by decide +kernel, by decide +kernel, by decide +kernel⟩, by decide⟩
theorem ok_X10_put : mOk yX10_put cX10_put 2 (Option.none : Option Jvm.ClassFile.FieldType) 1 := ⟨tbm (tt_6 52 (by rfl)) rfl, ⟨by decide +kernel, by decide +kernel, by decide +kernel⟩, by decide⟩
theorem ok_X10_putNumber : mOk yX10_putNumber cX10_putNumber 8 (Option.none : Option Jvm.ClassFile.FieldType) 2 := ⟨tbm (tt_6 56 (by rfl)) rfl, ⟨by decide +kernel, by decide +kernel, by decide +kernel⟩, by decide⟩
theorem ok_X10_putAmount : mOk yX10_putAmount cX10_putAmount 7 (Option.none : Option Jvm.ClassFile.FieldType) 1 := ⟨tbm (tt_6 48 (by rfl)) rfl, ⟨by decide +kernel, by decide +kernel, by decide +kernel⟩, by decide⟩
theorem ok_X10_isAmount : mOk yX10_isAmount cX10_isAmount 2 (Option.some Jvm.ClassFile.FieldType.boolean) 1 := ⟨tbm (tt_5 227 (by rfl)) rfl, ⟨by decide +kernel, by decide +kernel, by decide +kernel⟩, by decide⟩
theorem ok_X10_formula : mOk yX10_formula cX10_formula 9 (Option.some Jvm.ClassFile.FieldType.int) 4 := ⟨tbm (tt_5 221 (by rfl)) rfl, ⟨by decide +kernel, by decide +kernel, by decide +kernel⟩, by decide⟩
theorem ok_X10_isUnder : mOk yX10_isUnder cX10_isUnder 4 (Option.some Jvm.ClassFile.FieldType.boolean) 2 := ⟨tbm (tt_6 7 (by rfl)) rfl, ⟨by decide +kernel, by decide +kernel, by decide +kernel⟩, by decide⟩
theorem ok_X10_has : mOk yX10_has cX10_has 4 (Option.some Jvm.ClassFile.FieldType.boolean) 2 := ⟨tbm (tt_6 3 (by rfl)) rfl, ⟨by decide +kernel, by decide +kernel, by decide +kernel⟩, by decide⟩
theorem ok_X10_isFormula : mOk yX10_isFormula cX10_isFormula 2 (Option.some Jvm.ClassFile.FieldType.boolean) 1 := ⟨tbm (tt_5 239 (by rfl)) rfl, ⟨by decide +kernel, by decide +kernel, by decide +kernel⟩, by decide⟩
theorem ok_X10_learn : mOk yX10_learn cX10_learn 4 (Option.none : Option Jvm.ClassFile.FieldType) 0 := ⟨tbm (tt_5 235 (by rfl)) rfl, ⟨by decide +kernel, by decide +kernel, by decide +kernel⟩, by decide⟩
theorem ok_X10_ring : mOk yX10_ring cX10_ring 4 (Option.some Jvm.ClassFile.FieldType.int) 0 := ⟨tbm (tt_6 11 (by rfl)) rfl, ⟨by decide +kernel, by decide +kernel, by decide +kernel⟩, by decide⟩
theorem ok_X10_group : mOk yX10_group cX10_group 7 (Option.some Jvm.ClassFile.FieldType.long) 1 := ⟨tbm (tt_6 28 (by rfl)) rfl, ⟨by decide +kernel, by decide +kernel, by decide +kernel⟩, by decide⟩
theorem ok_X10_abs : mOk yX10_abs cX10_abs 2 (Option.some Jvm.ClassFile.FieldType.long) 1 := ⟨tbm (tt_6 43 (by rfl)) rfl, ⟨by decide +kernel, by decide +kernel, by decide +kernel⟩, by decide⟩
theorem ok_X10_product : mOk yX10_product cX10_product 5 (Option.some Jvm.ClassFile.FieldType.long) 2 := ⟨tbm (tt_6 40 (by rfl)) rfl, ⟨by decide +kernel, by decide +kernel, by decide +kernel⟩, by decide⟩
theorem ok_X10_result : mOk yX10_result cX10_result 7 (Option.some Jvm.ClassFile.FieldType.long) 1 := ⟨tbm (tt_6 23 (by rfl)) rfl, ⟨by decide +kernel, by decide +kernel, by decide +kernel⟩, by decide⟩
theorem ok_X10_work : mOk yX10_work cX10_work 6 (Option.some Jvm.ClassFile.FieldType.boolean) 1 := ⟨tbm (tt_6 19 (by rfl)) rfl, ⟨by decide +kernel, by decide +kernel, by decide +kernel⟩, by decide⟩
theorem ok_X10_isReady : mOk yX10_isReady cX10_isReady 4 (Option.some Jvm.ClassFile.FieldType.boolean) 1 := ⟨tbm (tt_6 15 (by rfl)) rfl, ⟨by decide +kernel, by decide +kernel, by decide +kernel⟩, by decide⟩
theorem ok_X10_calculate : mOk yX10_calculate cX10_calculate 4 (Option.some Jvm.ClassFile.FieldType.int) 0 := ⟨tbm (tt_5 231 (by rfl)) rfl, ⟨by decide +kernel, by decide +kernel, by decide +kernel⟩, by decide⟩
theorem ok_X10_failed : mOk yX10_failed cX10_failed 2 (Option.some Jvm.ClassFile.FieldType.int) 1 := ⟨tbm (tt_6 61 (by rfl)) rfl, ⟨by decide +kernel, by decide +kernel, by decide +kernel⟩, by decide⟩
theorem ok_X10_fails : mOk yX10_fails cX10_fails 4 (Option.some Jvm.ClassFile.FieldType.int) 2 := ⟨tbm (tt_6 65 (by rfl)) rfl, ⟨by decide +kernel, by decide +kernel, by decide +kernel⟩, by decide⟩
theorem ok_X10_putRounded : mOk yX10_putRounded cX10_putRounded 15 (Option.none : Option Jvm.ClassFile.FieldType) 2 := ⟨tbm (tt_6 77 (by rfl)) rfl, ⟨by decide +kernel, by decide +kernel, by decide +kernel⟩, by decide⟩
theorem ok_X10_putSigns : mOk yX10_putSigns cX10_putSigns 3 (Option.none : Option Jvm.ClassFile.FieldType) 1 := ⟨tbm (tt_6 81 (by rfl)) rfl, ⟨by decide +kernel, by decide +kernel, by decide +kernel⟩, by decide⟩
theorem ok_X10_show : mOk yX10_show cX10_show 2 (Option.none : Option Jvm.ClassFile.FieldType) 1 := ⟨tbm (tt_6 73 (by rfl)) rfl, ⟨by decide +kernel, by decide +kernel, by decide +kernel⟩, by decide⟩
theorem ok_X10_shown : mOk yX10_shown cX10_shown 3 (Option.some Jvm.ClassFile.FieldType.int) 2 := ⟨tbm (tt_6 69 (by rfl)) rfl, ⟨by decide +kernel, by decide +kernel, by decide +kernel⟩, by decide⟩
theorem ok_X10_cells : mOk yX10_cells cX10_cells 2 (Option.some Jvm.ClassFile.FieldType.int) 1 := ⟨tbm (tt_6 97 (by rfl)) rfl, ⟨by decide +kernel, by decide +kernel, by decide +kernel⟩, by decide⟩
theorem ok_X10_sizeOf : mOk yX10_sizeOf cX10_sizeOf 6 (Option.some Jvm.ClassFile.FieldType.int) 1 := ⟨tbm (tt_6 93 (by rfl)) rfl, ⟨by decide +kernel, by decide +kernel, by decide +kernel⟩, by decide⟩
theorem ok_X10_checkField : mOk yX10_checkField cX10_checkField 2 (Option.some Jvm.ClassFile.FieldType.int) 1 := ⟨tbm (tt_6 89 (by rfl)) rfl, ⟨by decide +kernel, by decide +kernel, by decide +kernel⟩, by decide⟩
theorem ok_X10_size : mOk yX10_size cX10_size 2 (Option.some Jvm.ClassFile.FieldType.int) 1 := ⟨tbm (tt_6 85 (by rfl)) rfl, ⟨by decide +kernel, by decide +kernel, by decide +kernel⟩, by decide⟩
theorem ok_X10_validate : mOk yX10_validate cX10_validate 6 (Option.some Jvm.ClassFile.FieldType.int) 1 := ⟨tbm (tt_6 101 (by rfl)) rfl, ⟨by decide +kernel, by decide +kernel, by decide +kernel⟩, by decide⟩
theorem ok_X10_mark : mOk yX10_mark cX10_mark 6 (Option.none : Option Jvm.ClassFile.FieldType) 6 := ⟨tbm (tt_6 112 (by rfl)) rfl, ⟨by decide +kernel, by decide +kernel, by decide +kernel⟩, by decide⟩
theorem ok_X10_make : mOk yX10_make cX10_make 11 (Option.some Jvm.ClassFile.FieldType.int) 2 := ⟨tbm (tt_6 109 (by rfl)) rfl, ⟨by decide +kernel, by decide +kernel, by decide +kernel⟩, by decide⟩
theorem ok_X10_appearance : mOk yX10_appearance cX10_appearance 2 (Option.some Jvm.ClassFile.FieldType.int) 1 := ⟨tbm (tt_6 105 (by rfl)) rfl, ⟨by decide +kernel, by decide +kernel, by decide +kernel⟩, by decide⟩
theorem ok_X10_mark_ : mOk yX10_mark_ cX10_mark_ 3 (Option.some Jvm.ClassFile.FieldType.int) 2 := ⟨tbm (tt_6 116 (by rfl)) rfl, ⟨by decide +kernel, by decide +kernel, by decide +kernel⟩, by decide⟩
theorem ok_X10_flatten : mOk yX10_flatten cX10_flatten 6 (Option.some Jvm.ClassFile.FieldType.int) 1 := ⟨tbm (tt_6 120 (by rfl)) rfl, ⟨by decide +kernel, by decide +kernel, by decide +kernel⟩, by decide⟩
theorem ok_X10_page : mOk yX10_page cX10_page 3 (Option.some Jvm.ClassFile.FieldType.int) 2 := ⟨tbm (tt_6 124 (by rfl)) rfl, ⟨by decide +kernel, by decide +kernel, by decide +kernel⟩, by decide⟩
theorem ok_X10_out : mOk yX10_out cX10_out 2 (Option.none : Option Jvm.ClassFile.FieldType) 0 := ⟨tbm (tt_6 141 (by rfl)) rfl, ⟨by decide +kernel, by decide +kernel, by decide +kernel⟩, by decide⟩
theorem ok_X10_putValue : mOk yX10_putValue cX10_putValue 2 (Option.none : Option Jvm.ClassFile.FieldType) 1 := ⟨tbm (tt_6 145 (by rfl)) rfl, ⟨by decide +kernel, by decide +kernel, by decide +kernel⟩, by decide⟩
theorem ok_X10_isMaster : mOk yX10_isMaster cX10_isMaster 2 (Option.some Jvm.ClassFile.FieldType.boolean) 1 := ⟨tbm (tt_6 133 (by rfl)) rfl, ⟨by decide +kernel, by decide +kernel, by decide +kernel⟩, by decide⟩
theorem ok_X10_write : mOk yX10_write cX10_write 2 (Option.some Jvm.ClassFile.FieldType.int) 0 := ⟨tbm (tt_6 129 (by rfl)) rfl, ⟨by decide +kernel, by decide +kernel, by decide +kernel⟩, by decide⟩
theorem ok_X10_nameOut : mOk yX10_nameOut cX10_nameOut 6 (Option.none : Option Jvm.ClassFile.FieldType) 1 := ⟨tbm (tt_6 137 (by rfl)) rfl, ⟨by decide +kernel, by decide +kernel, by decide +kernel⟩, by decide⟩
theorem ok_X10_at : mOk yX10_at cX10_at 2 (Option.some Jvm.ClassFile.FieldType.int) 1 := ⟨tbm (tt_6 149 (by rfl)) rfl, ⟨by decide +kernel, by decide +kernel, by decide +kernel⟩, by decide⟩
theorem ok_X10_behindName : mOk yX10_behindName cX10_behindName 8 (Option.some Jvm.ClassFile.FieldType.int) 2 := ⟨tbm (tt_6 170 (by rfl)) rfl, ⟨by decide +kernel, by decide +kernel, by decide +kernel⟩, by decide⟩
theorem ok_X10_takeValue : mOk yX10_takeValue cX10_takeValue 8 (Option.some Jvm.ClassFile.FieldType.boolean) 4 := ⟨tbm (tt_6 174 (by rfl)) rfl, ⟨by decide +kernel, by decide +kernel, by decide +kernel⟩, by decide⟩
theorem ok_X10_takeLine : mOk yX10_takeLine cX10_takeLine 6 (Option.some Jvm.ClassFile.FieldType.boolean) 3 := ⟨tbm (tt_6 166 (by rfl)) rfl, ⟨by decide +kernel, by decide +kernel, by decide +kernel⟩, by decide⟩
theorem ok_X10_goOver : mOk yX10_goOver cX10_goOver 6 (Option.some Jvm.ClassFile.FieldType.int) 1 := ⟨tbm (tt_6 162 (by rfl)) rfl, ⟨by decide +kernel, by decide +kernel, by decide +kernel⟩, by decide⟩
theorem ok_X10_readAll : mOk yX10_readAll cX10_readAll 2 (Option.some Jvm.ClassFile.FieldType.int) 0 := ⟨tbm (tt_6 158 (by rfl)) rfl, ⟨by decide +kernel, by decide +kernel, by decide +kernel⟩, by decide⟩
theorem ok_X10_read : mOk yX10_read cX10_read 2 (Option.some Jvm.ClassFile.FieldType.int) 1 := ⟨tbm (tt_6 153 (by rfl)) rfl, ⟨by decide +kernel, by decide +kernel, by decide +kernel⟩, by decide⟩
theorem ok_X10_lock : mOk yX10_lock cX10_lock 4 (Option.some Jvm.ClassFile.FieldType.int) 2 := ⟨tbm (tt_6 179 (by rfl)) rfl, ⟨by decide +kernel, by decide +kernel, by decide +kernel⟩, by decide⟩
theorem ok_J9_abs_0f7a4 : mOk yJ9_abs_0f7a4 cJ9_abs_0f7a4 1 (Option.some Jvm.ClassFile.FieldType.int) 1 := ⟨tbm (tt_4 129 (by rfl)) rfl, ⟨by decide +kernel, by decide +kernel, by decide +kernel⟩, by decide⟩
theorem ok_J9_abs_067f4 : mOk yJ9_abs_067f4 cJ9_abs_067f4 2 (Option.some Jvm.ClassFile.FieldType.long) 1 := ⟨tbm (tt_2 200 (by rfl)) rfl, ⟨by decide +kernel, by decide +kernel, by decide +kernel⟩, by decide⟩
theorem ok_J9_max_7cf53 : mOk yJ9_max_7cf53 cJ9_max_7cf53 2 (Option.some Jvm.ClassFile.FieldType.int) 2 := ⟨tbm (tt_1 52 (by rfl)) rfl, ⟨by decide +kernel, by decide +kernel, by decide +kernel⟩, by decide⟩
theorem ok_J9_max_f86c9 : mOk yJ9_max_f86c9 cJ9_max_f86c9 4 (Option.some Jvm.ClassFile.FieldType.long) 2 := ⟨tbm (tt_2 206 (by rfl)) rfl, ⟨by decide +kernel, by decide +kernel, by decide +kernel⟩, by decide⟩
theorem ok_J9_min_7cf53 : mOk yJ9_min_7cf53 cJ9_min_7cf53 2 (Option.some Jvm.ClassFile.FieldType.int) 2 := ⟨tbm (tt_2 139 (by rfl)) rfl, ⟨by decide +kernel, by decide +kernel, by decide +kernel⟩, by decide⟩
theorem ok_J9_min_f86c9 : mOk yJ9_min_f86c9 cJ9_min_f86c9 4 (Option.some Jvm.ClassFile.FieldType.long) 2 := ⟨tbm (tt_2 203 (by rfl)) rfl, ⟨by decide +kernel, by decide +kernel, by decide +kernel⟩, by decide⟩
theorem kc_X9_115 : Cond.constant RX9 115 (99999 : Int32) ∈ TB := tbm (tt_3 173 (by rfl)) rfl
theorem kc_X0_9 : Cond.constantLong RX0 9 (-999999999999 : Int64) ∈ TB := tbm (tt_2 214 (by rfl)) rfl
theorem kc_X0_11 : Cond.constantLong RX0 11 (999999999999 : Int64) ∈ TB := tbm (tt_2 215 (by rfl)) rfl
theorem kc_X0_29 : Cond.constantLong RX0 29 (10 : Int64) ∈ TB := tbm (tt_2 179 (by rfl)) rfl
theorem kc_X0_31 : Cond.constantLong RX0 31 (48 : Int64) ∈ TB := tbm (tt_2 180 (by rfl)) rfl
theorem kc_X0_33 : Cond.constantLong RX0 33 (-9223372036854775808 : Int64) ∈ TB := tbm (tt_2 181 (by rfl)) rfl
theorem kc_X0_39 : Cond.constantLong RX0 39 (1000 : Int64) ∈ TB := tbm (tt_2 185 (by rfl)) rfl
theorem kc_X0_70 : Cond.constantLong RX0 70 (500 : Int64) ∈ TB := tbm (tt_4 70 (by rfl)) rfl
theorem kc_X0_72 : Cond.constantLong RX0 72 (50 : Int64) ∈ TB := tbm (tt_4 71 (by rfl)) rfl
theorem kc_X0_74 : Cond.constantLong RX0 74 (5 : Int64) ∈ TB := tbm (tt_4 72 (by rfl)) rfl
theorem kc_X0_86 : Cond.constantLong RX0 86 (999999999999999 : Int64) ∈ TB := tbm (tt_2 197 (by rfl)) rfl
theorem kc_X1_77 : Cond.constantLong RX1 77 (-1 : Int64) ∈ TB := tbm (tt_3 12 (by rfl)) rfl
theorem kc_X1_114 : Cond.constantLong RX1 114 (-9223372036854775808 : Int64) ∈ TB := tbm (tt_2 155 (by rfl)) rfl
theorem kc_X2_27 : Cond.constantLong RX2 27 (-999999999999 : Int64) ∈ TB := tbm (tt_1 61 (by rfl)) rfl
theorem kc_X2_33 : Cond.constantLong RX2 33 (999999999999 : Int64) ∈ TB := tbm (tt_1 62 (by rfl)) rfl
theorem kc_X2_96 : Cond.constant RX2 96 (100000 : Int32) ∈ TB := tbm (tt_3 193 (by rfl)) rfl
theorem kc_X2_97 : Cond.constantLong RX2 97 (1000 : Int64) ∈ TB := tbm (tt_2 164 (by rfl)) rfl
theorem kc_X2_105 : Cond.constantLong RX2 105 (-9223372036854775808 : Int64) ∈ TB := tbm (tt_2 186 (by rfl)) rfl
theorem kc_X7_65 : Cond.constantLong RX7 65 (-9223372036854775808 : Int64) ∈ TB := tbm (tt_4 62 (by rfl)) rfl
theorem kc_L_105 : Cond.constantLong RL 105 (4294967295 : Int64) ∈ TB := tbm (tt_6 180 (by rfl)) rfl
theorem kc_X10_113 : Cond.constantLong RX10 113 (5 : Int64) ∈ TB := tbm (tt_5 153 (by rfl)) rfl
theorem kc_X10_119 : Cond.constantLong RX10 119 (999 : Int64) ∈ TB := tbm (tt_5 157 (by rfl)) rfl
theorem kc_X10_125 : Cond.constantLong RX10 125 (-999999999999 : Int64) ∈ TB := tbm (tt_5 166 (by rfl)) rfl
theorem kc_X10_127 : Cond.constantLong RX10 127 (999999999999 : Int64) ∈ TB := tbm (tt_5 167 (by rfl)) rfl
theorem kc_X10_133 : Cond.constantLong RX10 133 (32 : Int64) ∈ TB := tbm (tt_5 180 (by rfl)) rfl
theorem kc_X10_135 : Cond.constantLong RX10 135 (126 : Int64) ∈ TB := tbm (tt_5 181 (by rfl)) rfl
theorem kc_X10_156 : Cond.constantLong RX10 156 (99999 : Int64) ∈ TB := tbm (tt_5 201 (by rfl)) rfl
theorem kc_X10_158 : Cond.constantLong RX10 158 (30 : Int64) ∈ TB := tbm (tt_5 210 (by rfl)) rfl
theorem kc_X10_160 : Cond.constantLong RX10 160 (3 : Int64) ∈ TB := tbm (tt_5 211 (by rfl)) rfl
theorem kc_X10_162 : Cond.constantLong RX10 162 (100000 : Int64) ∈ TB := tbm (tt_5 212 (by rfl)) rfl
theorem kc_X10_164 : Cond.constantLong RX10 164 (2 : Int64) ∈ TB := tbm (tt_5 213 (by rfl)) rfl
theorem kc_X10_170 : Cond.constantLong RX10 170 (1000 : Int64) ∈ TB := tbm (tt_6 33 (by rfl)) rfl
theorem kc_X10_172 : Cond.constantLong RX10 172 (48 : Int64) ∈ TB := tbm (tt_6 34 (by rfl)) rfl
theorem kc_X10_174 : Cond.constantLong RX10 174 (57 : Int64) ∈ TB := tbm (tt_6 35 (by rfl)) rfl
theorem kc_X10_176 : Cond.constantLong RX10 176 (10 : Int64) ∈ TB := tbm (tt_6 36 (by rfl)) rfl
theorem kc_X10_178 : Cond.constantLong RX10 178 (9000000000000000000 : Int64) ∈ TB := tbm (tt_6 24 (by rfl)) rfl
theorem kc_X10_191 : Cond.constantLong RX10 191 (100 : Int64) ∈ TB := tbm (tt_6 57 (by rfl)) rfl
theorem kc_X10_193 : Cond.constantLong RX10 193 (-1 : Int64) ∈ TB := tbm (tt_5 222 (by rfl)) rfl
theorem kc_X10_195 : Cond.constantLong RX10 195 (7 : Int64) ∈ TB := tbm (tt_5 223 (by rfl)) rfl
theorem kc_X10_217 : Cond.constantLong RX10 217 (1000000000000000 : Int64) ∈ TB := tbm (tt_6 44 (by rfl)) rfl
theorem kc_X10_282 : Cond.constantLong RX10 282 (4 : Int64) ∈ TB := tbm (tt_6 125 (by rfl)) rfl
theorem kc_X10_302 : Cond.constantLong RX10 302 (49 : Int64) ∈ TB := tbm (tt_6 175 (by rfl)) rfl
theorem kc_X10_319 : Cond.constantLong RX10 319 (255 : Int64) ∈ TB := tbm (tt_6 154 (by rfl)) rfl
theorem th_X2_90_92 : thr RX2 90 92 "java/lang/UnsupportedOperationException" ["java/lang/RuntimeException", "java/lang/Exception"] := ⟨⟨by decide +kernel, by decide +kernel⟩, tbm (tt_3 158 (by rfl)) rfl, tbm (tt_1 18 (by rfl)) rfl, by decide +kernel, by decide⟩
theorem th_X6_22_24 : thr RX6 22 24 "java/util/NoSuchElementException" ["java/lang/RuntimeException", "java/lang/Exception"] := ⟨⟨by decide +kernel, by decide +kernel⟩, tbm (tt_2 50 (by rfl)) rfl, tbm (tt_1 15 (by rfl)) rfl, by decide +kernel, by decide⟩
theorem th_X6_32_34 : thr RX6 32 34 "java/lang/UnsupportedOperationException" ["java/lang/RuntimeException", "java/lang/Exception"] := ⟨⟨by decide +kernel, by decide +kernel⟩, tbm (tt_3 99 (by rfl)) rfl, tbm (tt_1 18 (by rfl)) rfl, by decide +kernel, by decide⟩
theorem th_X9_70_72 : thr RX9 70 72 "java/lang/IllegalArgumentException" ["java/lang/RuntimeException", "java/lang/Exception"] := ⟨⟨by decide +kernel, by decide +kernel⟩, tbm (tt_3 61 (by rfl)) rfl, tbm (tt_1 16 (by rfl)) rfl, by decide +kernel, by decide⟩
theorem th_X9_80_82 : thr RX9 80 82 "java/lang/IllegalStateException" ["java/lang/RuntimeException", "java/lang/Exception"] := ⟨⟨by decide +kernel, by decide +kernel⟩, tbm (tt_3 80 (by rfl)) rfl, tbm (tt_1 17 (by rfl)) rfl, by decide +kernel, by decide⟩
theorem th_X9_127_129 : thr RX9 127 129 "java/lang/UnsupportedOperationException" ["java/lang/RuntimeException", "java/lang/Exception"] := ⟨⟨by decide +kernel, by decide +kernel⟩, tbm (tt_3 179 (by rfl)) rfl, tbm (tt_1 18 (by rfl)) rfl, by decide +kernel, by decide⟩
theorem th_X9_176_178 : thr RX9 176 178 "java/lang/IndexOutOfBoundsException" ["java/lang/RuntimeException", "java/lang/Exception"] := ⟨⟨by decide +kernel, by decide +kernel⟩, tbm (tt_4 21 (by rfl)) rfl, tbm (tt_1 20 (by rfl)) rfl, by decide +kernel, by decide⟩
theorem th_X9_216_218 : thr RX9 216 218 "java/lang/ArrayIndexOutOfBoundsException" ["java/lang/IndexOutOfBoundsException", "java/lang/RuntimeException", "java/lang/Exception"] := ⟨⟨by decide +kernel, by decide +kernel⟩, tbm (tt_4 182 (by rfl)) rfl, tbm (tt_1 21 (by rfl)) rfl, by decide +kernel, by decide⟩
end
