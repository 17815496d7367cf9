-- ===== PART A: goes FIRST, ahead of the names: the tables' words, and 'selects' of the private methods out of them =====
/-- a private method of a class that the tables say can be made, by its rows of tables_1 -/
def lw_okq (q : MethodName × Nat) : Prop := (q.1.cls ≠ "java/lang/invoke/MethodHandle" ∧ q.1.cls ≠ "java/lang/invoke/VarHandle") ∧ Cond.instantiable q.1.cls q.2 ∈ tables_1 ∧ Cond.privateMethod q.1 ∈ tables_1 ∧ Cond.instanceMethod q.1 ∈ tables_1
theorem lw_p0 : lw_okq (⟨"WhatWasSaid", "comesFrom", "(LWhatWasSaid$Shelf;J)Z"⟩, 7) := ⟨⟨by decide +kernel, by decide +kernel⟩, List.mem_of_getElem? (i := 17) (by decide +kernel), List.mem_of_getElem? (i := 275) (by decide +kernel), List.mem_of_getElem? (i := 276) (by decide +kernel)⟩
theorem lw_p1 : lw_okq (⟨"WhatWasSaid$Changes", "dropFirst", "()V"⟩, 3) := ⟨⟨by decide +kernel, by decide +kernel⟩, List.mem_of_getElem? (i := 41) (by decide +kernel), List.mem_of_getElem? (i := 313) (by decide +kernel), List.mem_of_getElem? (i := 314) (by decide +kernel)⟩
theorem lw_p2 : lw_okq (⟨"WhatWasSaid$Tape", "line", "()V"⟩, 6) := ⟨⟨by decide +kernel, by decide +kernel⟩, List.mem_of_getElem? (i := 58) (by decide +kernel), List.mem_of_getElem? (i := 352) (by decide +kernel), List.mem_of_getElem? (i := 353) (by decide +kernel)⟩
theorem lw_p3 : lw_okq (⟨"WhatWasSaid$Tape", "either", "(I)V"⟩, 6) := ⟨⟨by decide +kernel, by decide +kernel⟩, List.mem_of_getElem? (i := 58) (by decide +kernel), List.mem_of_getElem? (i := 356) (by decide +kernel), List.mem_of_getElem? (i := 357) (by decide +kernel)⟩
theorem lw_p4 : lw_okq (⟨"WhatWasSaid$Tape", "both", "(I)V"⟩, 6) := ⟨⟨by decide +kernel, by decide +kernel⟩, List.mem_of_getElem? (i := 58) (by decide +kernel), List.mem_of_getElem? (i := 360) (by decide +kernel), List.mem_of_getElem? (i := 361) (by decide +kernel)⟩
theorem lw_p5 : lw_okq (⟨"WhatWasSaid$Tape", "compared", "(I)V"⟩, 6) := ⟨⟨by decide +kernel, by decide +kernel⟩, List.mem_of_getElem? (i := 58) (by decide +kernel), List.mem_of_getElem? (i := 364) (by decide +kernel), List.mem_of_getElem? (i := 365) (by decide +kernel)⟩
theorem lw_p6 : lw_okq (⟨"WhatWasSaid$Tape", "sum", "(I)V"⟩, 6) := ⟨⟨by decide +kernel, by decide +kernel⟩, List.mem_of_getElem? (i := 58) (by decide +kernel), List.mem_of_getElem? (i := 368) (by decide +kernel), List.mem_of_getElem? (i := 369) (by decide +kernel)⟩
theorem lw_p7 : lw_okq (⟨"WhatWasSaid$Tape", "product", "(I)V"⟩, 6) := ⟨⟨by decide +kernel, by decide +kernel⟩, List.mem_of_getElem? (i := 58) (by decide +kernel), List.mem_of_getElem? (i := 372) (by decide +kernel), List.mem_of_getElem? (i := 373) (by decide +kernel)⟩
theorem lw_p8 : lw_okq (⟨"WhatWasSaid$Tape", "operand", "(I)V"⟩, 6) := ⟨⟨by decide +kernel, by decide +kernel⟩, List.mem_of_getElem? (i := 58) (by decide +kernel), List.mem_of_getElem? (i := 376) (by decide +kernel), List.mem_of_getElem? (i := 377) (by decide +kernel)⟩
theorem lw_p9 : lw_okq (⟨"WhatWasSaid$Tape", "sign", "()I"⟩, 6) := ⟨⟨by decide +kernel, by decide +kernel⟩, List.mem_of_getElem? (i := 58) (by decide +kernel), List.mem_of_getElem? (i := 380) (by decide +kernel), List.mem_of_getElem? (i := 381) (by decide +kernel)⟩
theorem lw_p10 : lw_okq (⟨"WhatWasSaid$Tape", "number", "()V"⟩, 6) := ⟨⟨by decide +kernel, by decide +kernel⟩, List.mem_of_getElem? (i := 58) (by decide +kernel), List.mem_of_getElem? (i := 387) (by decide +kernel), List.mem_of_getElem? (i := 388) (by decide +kernel)⟩
theorem lw_p11 : lw_okq (⟨"WhatWasSaid$Tape", "code", "(I)V"⟩, 6) := ⟨⟨by decide +kernel, by decide +kernel⟩, List.mem_of_getElem? (i := 58) (by decide +kernel), List.mem_of_getElem? (i := 391) (by decide +kernel), List.mem_of_getElem? (i := 392) (by decide +kernel)⟩
theorem lw_p12 : lw_okq (⟨"WhatWasSaid$Tape", "emit", "(I)V"⟩, 6) := ⟨⟨by decide +kernel, by decide +kernel⟩, List.mem_of_getElem? (i := 58) (by decide +kernel), List.mem_of_getElem? (i := 398) (by decide +kernel), List.mem_of_getElem? (i := 399) (by decide +kernel)⟩
theorem lw_p13 : lw_okq (⟨"WhatWasSaid$Tape", "passes", "(I)Z"⟩, 6) := ⟨⟨by decide +kernel, by decide +kernel⟩, List.mem_of_getElem? (i := 58) (by decide +kernel), List.mem_of_getElem? (i := 402) (by decide +kernel), List.mem_of_getElem? (i := 403) (by decide +kernel)⟩
theorem lw_p14 : lw_okq (⟨"WhatWasSaid$Tape", "fail", "()V"⟩, 6) := ⟨⟨by decide +kernel, by decide +kernel⟩, List.mem_of_getElem? (i := 58) (by decide +kernel), List.mem_of_getElem? (i := 406) (by decide +kernel), List.mem_of_getElem? (i := 407) (by decide +kernel)⟩
theorem lw_p15 : lw_okq (⟨"WhatWasSaid$Tape", "passesOneOf", "(III)I"⟩, 6) := ⟨⟨by decide +kernel, by decide +kernel⟩, List.mem_of_getElem? (i := 58) (by decide +kernel), List.mem_of_getElem? (i := 410) (by decide +kernel), List.mem_of_getElem? (i := 411) (by decide +kernel)⟩
def lw_privs_1 : List (MethodName × Nat) := [(⟨"WhatWasSaid", "comesFrom", "(LWhatWasSaid$Shelf;J)Z"⟩, 7), (⟨"WhatWasSaid$Changes", "dropFirst", "()V"⟩, 3), (⟨"WhatWasSaid$Tape", "line", "()V"⟩, 6), (⟨"WhatWasSaid$Tape", "either", "(I)V"⟩, 6), (⟨"WhatWasSaid$Tape", "both", "(I)V"⟩, 6), (⟨"WhatWasSaid$Tape", "compared", "(I)V"⟩, 6), (⟨"WhatWasSaid$Tape", "sum", "(I)V"⟩, 6), (⟨"WhatWasSaid$Tape", "product", "(I)V"⟩, 6), (⟨"WhatWasSaid$Tape", "operand", "(I)V"⟩, 6), (⟨"WhatWasSaid$Tape", "sign", "()I"⟩, 6), (⟨"WhatWasSaid$Tape", "number", "()V"⟩, 6), (⟨"WhatWasSaid$Tape", "code", "(I)V"⟩, 6), (⟨"WhatWasSaid$Tape", "emit", "(I)V"⟩, 6), (⟨"WhatWasSaid$Tape", "passes", "(I)Z"⟩, 6), (⟨"WhatWasSaid$Tape", "fail", "()V"⟩, 6), (⟨"WhatWasSaid$Tape", "passesOneOf", "(III)I"⟩, 6)]
theorem lw_r1 : ∀ q ∈ lw_privs_1, lw_okq q := List.forall_mem_cons.mpr ⟨lw_p0, List.forall_mem_cons.mpr ⟨lw_p1, List.forall_mem_cons.mpr ⟨lw_p2, List.forall_mem_cons.mpr ⟨lw_p3, List.forall_mem_cons.mpr ⟨lw_p4, List.forall_mem_cons.mpr ⟨lw_p5, List.forall_mem_cons.mpr ⟨lw_p6, List.forall_mem_cons.mpr ⟨lw_p7, List.forall_mem_cons.mpr ⟨lw_p8, List.forall_mem_cons.mpr ⟨lw_p9, List.forall_mem_cons.mpr ⟨lw_p10, List.forall_mem_cons.mpr ⟨lw_p11, List.forall_mem_cons.mpr ⟨lw_p12, List.forall_mem_cons.mpr ⟨lw_p13, List.forall_mem_cons.mpr ⟨lw_p14, List.forall_mem_cons.mpr ⟨lw_p15, fun _ h => absurd h List.not_mem_nil⟩⟩⟩⟩⟩⟩⟩⟩⟩⟩⟩⟩⟩⟩⟩⟩
theorem lw_p16 : lw_okq (⟨"WhatWasSaid$Reckoner", "name", "(LWhatWasSaid$Law;I)V"⟩, 4) := ⟨⟨by decide +kernel, by decide +kernel⟩, List.mem_of_getElem? (i := 91) (by decide +kernel), List.mem_of_getElem? (i := 452) (by decide +kernel), List.mem_of_getElem? (i := 453) (by decide +kernel)⟩
theorem lw_p17 : lw_okq (⟨"WhatWasSaid$Reckoner", "pop", "()I"⟩, 4) := ⟨⟨by decide +kernel, by decide +kernel⟩, List.mem_of_getElem? (i := 91) (by decide +kernel), List.mem_of_getElem? (i := 474) (by decide +kernel), List.mem_of_getElem? (i := 475) (by decide +kernel)⟩
theorem lw_p18 : lw_okq (⟨"WhatWasSaid$Reckoner", "valueOf", "(I)I"⟩, 4) := ⟨⟨by decide +kernel, by decide +kernel⟩, List.mem_of_getElem? (i := 91) (by decide +kernel), List.mem_of_getElem? (i := 478) (by decide +kernel), List.mem_of_getElem? (i := 479) (by decide +kernel)⟩
theorem lw_p19 : lw_okq (⟨"WhatWasSaid$Reckoner", "push", "(I)V"⟩, 4) := ⟨⟨by decide +kernel, by decide +kernel⟩, List.mem_of_getElem? (i := 91) (by decide +kernel), List.mem_of_getElem? (i := 486) (by decide +kernel), List.mem_of_getElem? (i := 487) (by decide +kernel)⟩
theorem lw_p20 : lw_okq (⟨"WhatWasSaid$Paper", "join", "(LWhatWasSaid$Meeting;)V"⟩, 3) := ⟨⟨by decide +kernel, by decide +kernel⟩, List.mem_of_getElem? (i := 149) (by decide +kernel), List.mem_of_getElem? (i := 534) (by decide +kernel), List.mem_of_getElem? (i := 535) (by decide +kernel)⟩
theorem lw_p21 : lw_okq (⟨"WhatWasSaid$Paper", "soften", "()V"⟩, 3) := ⟨⟨by decide +kernel, by decide +kernel⟩, List.mem_of_getElem? (i := 149) (by decide +kernel), List.mem_of_getElem? (i := 555) (by decide +kernel), List.mem_of_getElem? (i := 556) (by decide +kernel)⟩
theorem lw_p22 : lw_okq (⟨"WhatWasSaid$Paper", "decisionsLast", "()V"⟩, 3) := ⟨⟨by decide +kernel, by decide +kernel⟩, List.mem_of_getElem? (i := 149) (by decide +kernel), List.mem_of_getElem? (i := 559) (by decide +kernel), List.mem_of_getElem? (i := 560) (by decide +kernel)⟩
theorem lw_p23 : lw_okq (⟨"WhatWasSaid$Paper", "shortest", "()I"⟩, 3) := ⟨⟨by decide +kernel, by decide +kernel⟩, List.mem_of_getElem? (i := 149) (by decide +kernel), List.mem_of_getElem? (i := 614) (by decide +kernel), List.mem_of_getElem? (i := 615) (by decide +kernel)⟩
theorem lw_p24 : lw_okq (⟨"WhatWasSaid$Archive", "countLeads", "()V"⟩, 4) := ⟨⟨by decide +kernel, by decide +kernel⟩, List.mem_of_getElem? (i := 141) (by decide +kernel), List.mem_of_getElem? (i := 701) (by decide +kernel), List.mem_of_getElem? (i := 702) (by decide +kernel)⟩
theorem lw_p25 : lw_okq (⟨"WhatWasSaid$Archive", "countLeadsOf", "(LWhatWasSaid$Paper;)V"⟩, 4) := ⟨⟨by decide +kernel, by decide +kernel⟩, List.mem_of_getElem? (i := 141) (by decide +kernel), List.mem_of_getElem? (i := 705) (by decide +kernel), List.mem_of_getElem? (i := 706) (by decide +kernel)⟩
theorem lw_p26 : lw_okq (⟨"WhatWasSaid$Archive", "countLead", "(II)V"⟩, 4) := ⟨⟨by decide +kernel, by decide +kernel⟩, List.mem_of_getElem? (i := 141) (by decide +kernel), List.mem_of_getElem? (i := 711) (by decide +kernel), List.mem_of_getElem? (i := 712) (by decide +kernel)⟩
theorem lw_p27 : lw_okq (⟨"WhatWasSaid$Archive", "foremost", "(I)I"⟩, 4) := ⟨⟨by decide +kernel, by decide +kernel⟩, List.mem_of_getElem? (i := 141) (by decide +kernel), List.mem_of_getElem? (i := 715) (by decide +kernel), List.mem_of_getElem? (i := 716) (by decide +kernel)⟩
theorem lw_p28 : lw_okq (⟨"WhatWasSaid$Archive", "beatenBy", "(II)I"⟩, 4) := ⟨⟨by decide +kernel, by decide +kernel⟩, List.mem_of_getElem? (i := 141) (by decide +kernel), List.mem_of_getElem? (i := 719) (by decide +kernel), List.mem_of_getElem? (i := 720) (by decide +kernel)⟩
theorem lw_p29 : lw_okq (⟨"WhatWasSaid$Desk", "chanceOf", "(ILWhatWasSaid$Paper;)J"⟩, 4) := ⟨⟨by decide +kernel, by decide +kernel⟩, List.mem_of_getElem? (i := 83) (by decide +kernel), List.mem_of_getElem? (i := 753) (by decide +kernel), List.mem_of_getElem? (i := 754) (by decide +kernel)⟩
theorem lw_p30 : lw_okq (⟨"WhatWasSaid$Acts", "own", "(III)I"⟩, 5) := ⟨⟨by decide +kernel, by decide +kernel⟩, List.mem_of_getElem? (i := 179) (by decide +kernel), List.mem_of_getElem? (i := 865) (by decide +kernel), List.mem_of_getElem? (i := 866) (by decide +kernel)⟩
theorem lw_p31 : lw_okq (⟨"WhatWasSaid$Acts", "from", "(IIII)I"⟩, 5) := ⟨⟨by decide +kernel, by decide +kernel⟩, List.mem_of_getElem? (i := 179) (by decide +kernel), List.mem_of_getElem? (i := 873) (by decide +kernel), List.mem_of_getElem? (i := 874) (by decide +kernel)⟩
def lw_privs_2 : List (MethodName × Nat) := [(⟨"WhatWasSaid$Reckoner", "name", "(LWhatWasSaid$Law;I)V"⟩, 4), (⟨"WhatWasSaid$Reckoner", "pop", "()I"⟩, 4), (⟨"WhatWasSaid$Reckoner", "valueOf", "(I)I"⟩, 4), (⟨"WhatWasSaid$Reckoner", "push", "(I)V"⟩, 4), (⟨"WhatWasSaid$Paper", "join", "(LWhatWasSaid$Meeting;)V"⟩, 3), (⟨"WhatWasSaid$Paper", "soften", "()V"⟩, 3), (⟨"WhatWasSaid$Paper", "decisionsLast", "()V"⟩, 3), (⟨"WhatWasSaid$Paper", "shortest", "()I"⟩, 3), (⟨"WhatWasSaid$Archive", "countLeads", "()V"⟩, 4), (⟨"WhatWasSaid$Archive", "countLeadsOf", "(LWhatWasSaid$Paper;)V"⟩, 4), (⟨"WhatWasSaid$Archive", "countLead", "(II)V"⟩, 4), (⟨"WhatWasSaid$Archive", "foremost", "(I)I"⟩, 4), (⟨"WhatWasSaid$Archive", "beatenBy", "(II)I"⟩, 4), (⟨"WhatWasSaid$Desk", "chanceOf", "(ILWhatWasSaid$Paper;)J"⟩, 4), (⟨"WhatWasSaid$Acts", "own", "(III)I"⟩, 5), (⟨"WhatWasSaid$Acts", "from", "(IIII)I"⟩, 5)]
theorem lw_r2 : ∀ q ∈ lw_privs_2, lw_okq q := List.forall_mem_cons.mpr ⟨lw_p16, List.forall_mem_cons.mpr ⟨lw_p17, List.forall_mem_cons.mpr ⟨lw_p18, List.forall_mem_cons.mpr ⟨lw_p19, List.forall_mem_cons.mpr ⟨lw_p20, List.forall_mem_cons.mpr ⟨lw_p21, List.forall_mem_cons.mpr ⟨lw_p22, List.forall_mem_cons.mpr ⟨lw_p23, List.forall_mem_cons.mpr ⟨lw_p24, List.forall_mem_cons.mpr ⟨lw_p25, List.forall_mem_cons.mpr ⟨lw_p26, List.forall_mem_cons.mpr ⟨lw_p27, List.forall_mem_cons.mpr ⟨lw_p28, List.forall_mem_cons.mpr ⟨lw_p29, List.forall_mem_cons.mpr ⟨lw_p30, List.forall_mem_cons.mpr ⟨lw_p31, fun _ h => absurd h List.not_mem_nil⟩⟩⟩⟩⟩⟩⟩⟩⟩⟩⟩⟩⟩⟩⟩⟩
theorem lw_p32 : lw_okq (⟨"WhatWasSaid$Acts", "run", "(IIII)I"⟩, 5) := ⟨⟨by decide +kernel, by decide +kernel⟩, List.mem_of_getElem? (i := 179) (by decide +kernel), List.mem_of_getElem? (i := 882) (by decide +kernel), List.mem_of_getElem? (i := 883) (by decide +kernel)⟩
theorem lw_p33 : lw_okq (⟨"WhatWasSaid$Acts", "note", "(I)V"⟩, 5) := ⟨⟨by decide +kernel, by decide +kernel⟩, List.mem_of_getElem? (i := 179) (by decide +kernel), List.mem_of_getElem? (i := 886) (by decide +kernel), List.mem_of_getElem? (i := 887) (by decide +kernel)⟩
theorem lw_p34 : lw_okq (⟨"WhatWasSaid", "placeRefusal", "(II)I"⟩, 7) := ⟨⟨by decide +kernel, by decide +kernel⟩, List.mem_of_getElem? (i := 17) (by decide +kernel), List.mem_of_getElem? (i := 924) (by decide +kernel), List.mem_of_getElem? (i := 925) (by decide +kernel)⟩
theorem lw_p35 : lw_okq (⟨"WhatWasSaid$Shelf", "lowest", "(J)J"⟩, 4) := ⟨⟨by decide +kernel, by decide +kernel⟩, List.mem_of_getElem? (i := 202) (by decide +kernel), List.mem_of_getElem? (i := 937) (by decide +kernel), List.mem_of_getElem? (i := 938) (by decide +kernel)⟩
theorem lw_p36 : lw_okq (⟨"WhatWasSaidModel", "adds", "(IIII)V"⟩, 37) := ⟨⟨by decide +kernel, by decide +kernel⟩, List.mem_of_getElem? (i := 982) (by decide +kernel), List.mem_of_getElem? (i := 1123) (by decide +kernel), List.mem_of_getElem? (i := 1124) (by decide +kernel)⟩
theorem lw_p37 : lw_okq (⟨"WhatWasSaidModel", "isSaying", "(I)Z"⟩, 37) := ⟨⟨by decide +kernel, by decide +kernel⟩, List.mem_of_getElem? (i := 982) (by decide +kernel), List.mem_of_getElem? (i := 1140) (by decide +kernel), List.mem_of_getElem? (i := 1141) (by decide +kernel)⟩
theorem lw_p38 : lw_okq (⟨"WhatWasSaidModel", "becomes", "(II)I"⟩, 37) := ⟨⟨by decide +kernel, by decide +kernel⟩, List.mem_of_getElem? (i := 982) (by decide +kernel), List.mem_of_getElem? (i := 1144) (by decide +kernel), List.mem_of_getElem? (i := 1145) (by decide +kernel)⟩
theorem lw_p39 : lw_okq (⟨"WhatWasSaidModel", "minuteOf", "(I)I"⟩, 37) := ⟨⟨by decide +kernel, by decide +kernel⟩, List.mem_of_getElem? (i := 982) (by decide +kernel), List.mem_of_getElem? (i := 1153) (by decide +kernel), List.mem_of_getElem? (i := 1154) (by decide +kernel)⟩
theorem lw_p40 : lw_okq (⟨"WhatWasSaidModel", "workOut", "(II)I"⟩, 37) := ⟨⟨by decide +kernel, by decide +kernel⟩, List.mem_of_getElem? (i := 982) (by decide +kernel), List.mem_of_getElem? (i := 1166) (by decide +kernel), List.mem_of_getElem? (i := 1167) (by decide +kernel)⟩
theorem lw_p41 : lw_okq (⟨"WhatWasSaidModel", "either", "()I"⟩, 37) := ⟨⟨by decide +kernel, by decide +kernel⟩, List.mem_of_getElem? (i := 982) (by decide +kernel), List.mem_of_getElem? (i := 1170) (by decide +kernel), List.mem_of_getElem? (i := 1171) (by decide +kernel)⟩
theorem lw_p42 : lw_okq (⟨"WhatWasSaidModel", "both", "()I"⟩, 37) := ⟨⟨by decide +kernel, by decide +kernel⟩, List.mem_of_getElem? (i := 982) (by decide +kernel), List.mem_of_getElem? (i := 1174) (by decide +kernel), List.mem_of_getElem? (i := 1175) (by decide +kernel)⟩
theorem lw_p43 : lw_okq (⟨"WhatWasSaidModel", "compared", "()I"⟩, 37) := ⟨⟨by decide +kernel, by decide +kernel⟩, List.mem_of_getElem? (i := 982) (by decide +kernel), List.mem_of_getElem? (i := 1178) (by decide +kernel), List.mem_of_getElem? (i := 1179) (by decide +kernel)⟩
theorem lw_p44 : lw_okq (⟨"WhatWasSaidModel", "sums", "()I"⟩, 37) := ⟨⟨by decide +kernel, by decide +kernel⟩, List.mem_of_getElem? (i := 982) (by decide +kernel), List.mem_of_getElem? (i := 1182) (by decide +kernel), List.mem_of_getElem? (i := 1183) (by decide +kernel)⟩
theorem lw_p45 : lw_okq (⟨"WhatWasSaidModel", "product", "()I"⟩, 37) := ⟨⟨by decide +kernel, by decide +kernel⟩, List.mem_of_getElem? (i := 982) (by decide +kernel), List.mem_of_getElem? (i := 1186) (by decide +kernel), List.mem_of_getElem? (i := 1187) (by decide +kernel)⟩
theorem lw_p46 : lw_okq (⟨"WhatWasSaidModel", "one", "()I"⟩, 37) := ⟨⟨by decide +kernel, by decide +kernel⟩, List.mem_of_getElem? (i := 982) (by decide +kernel), List.mem_of_getElem? (i := 1190) (by decide +kernel), List.mem_of_getElem? (i := 1191) (by decide +kernel)⟩
theorem lw_p47 : lw_okq (⟨"WhatWasSaidModel", "byteAt", "()I"⟩, 37) := ⟨⟨by decide +kernel, by decide +kernel⟩, List.mem_of_getElem? (i := 982) (by decide +kernel), List.mem_of_getElem? (i := 1194) (by decide +kernel), List.mem_of_getElem? (i := 1195) (by decide +kernel)⟩
def lw_privs_3 : List (MethodName × Nat) := [(⟨"WhatWasSaid$Acts", "run", "(IIII)I"⟩, 5), (⟨"WhatWasSaid$Acts", "note", "(I)V"⟩, 5), (⟨"WhatWasSaid", "placeRefusal", "(II)I"⟩, 7), (⟨"WhatWasSaid$Shelf", "lowest", "(J)J"⟩, 4), (⟨"WhatWasSaidModel", "adds", "(IIII)V"⟩, 37), (⟨"WhatWasSaidModel", "isSaying", "(I)Z"⟩, 37), (⟨"WhatWasSaidModel", "becomes", "(II)I"⟩, 37), (⟨"WhatWasSaidModel", "minuteOf", "(I)I"⟩, 37), (⟨"WhatWasSaidModel", "workOut", "(II)I"⟩, 37), (⟨"WhatWasSaidModel", "either", "()I"⟩, 37), (⟨"WhatWasSaidModel", "both", "()I"⟩, 37), (⟨"WhatWasSaidModel", "compared", "()I"⟩, 37), (⟨"WhatWasSaidModel", "sums", "()I"⟩, 37), (⟨"WhatWasSaidModel", "product", "()I"⟩, 37), (⟨"WhatWasSaidModel", "one", "()I"⟩, 37), (⟨"WhatWasSaidModel", "byteAt", "()I"⟩, 37)]
theorem lw_r3 : ∀ q ∈ lw_privs_3, lw_okq q := List.forall_mem_cons.mpr ⟨lw_p32, List.forall_mem_cons.mpr ⟨lw_p33, List.forall_mem_cons.mpr ⟨lw_p34, List.forall_mem_cons.mpr ⟨lw_p35, List.forall_mem_cons.mpr ⟨lw_p36, List.forall_mem_cons.mpr ⟨lw_p37, List.forall_mem_cons.mpr ⟨lw_p38, List.forall_mem_cons.mpr ⟨lw_p39, List.forall_mem_cons.mpr ⟨lw_p40, List.forall_mem_cons.mpr ⟨lw_p41, List.forall_mem_cons.mpr ⟨lw_p42, List.forall_mem_cons.mpr ⟨lw_p43, List.forall_mem_cons.mpr ⟨lw_p44, List.forall_mem_cons.mpr ⟨lw_p45, List.forall_mem_cons.mpr ⟨lw_p46, List.forall_mem_cons.mpr ⟨lw_p47, fun _ h => absurd h List.not_mem_nil⟩⟩⟩⟩⟩⟩⟩⟩⟩⟩⟩⟩⟩⟩⟩⟩
theorem lw_p48 : lw_okq (⟨"WhatWasSaidModel", "wrong", "()I"⟩, 37) := ⟨⟨by decide +kernel, by decide +kernel⟩, List.mem_of_getElem? (i := 982) (by decide +kernel), List.mem_of_getElem? (i := 1198) (by decide +kernel), List.mem_of_getElem? (i := 1199) (by decide +kernel)⟩
theorem lw_p49 : lw_okq (⟨"WhatWasSaidModel", "takes", "(I)Z"⟩, 37) := ⟨⟨by decide +kernel, by decide +kernel⟩, List.mem_of_getElem? (i := 982) (by decide +kernel), List.mem_of_getElem? (i := 1202) (by decide +kernel), List.mem_of_getElem? (i := 1203) (by decide +kernel)⟩
theorem lw_p50 : lw_okq (⟨"WhatWasSaidModel", "isWriter", "(I)Z"⟩, 37) := ⟨⟨by decide +kernel, by decide +kernel⟩, List.mem_of_getElem? (i := 982) (by decide +kernel), List.mem_of_getElem? (i := 1213) (by decide +kernel), List.mem_of_getElem? (i := 1214) (by decide +kernel)⟩
theorem lw_p51 : lw_okq (⟨"WhatWasSaidModel", "heedOf", "(II)I"⟩, 37) := ⟨⟨by decide +kernel, by decide +kernel⟩, List.mem_of_getElem? (i := 982) (by decide +kernel), List.mem_of_getElem? (i := 1217) (by decide +kernel), List.mem_of_getElem? (i := 1218) (by decide +kernel)⟩
theorem lw_p52 : lw_okq (⟨"WhatWasSaidModel", "puts", "(IIIIIZ)V"⟩, 37) := ⟨⟨by decide +kernel, by decide +kernel⟩, List.mem_of_getElem? (i := 982) (by decide +kernel), List.mem_of_getElem? (i := 1226) (by decide +kernel), List.mem_of_getElem? (i := 1227) (by decide +kernel)⟩
theorem lw_p53 : lw_okq (⟨"WhatWasSaidModel", "joinsAll", "(I)V"⟩, 37) := ⟨⟨by decide +kernel, by decide +kernel⟩, List.mem_of_getElem? (i := 982) (by decide +kernel), List.mem_of_getElem? (i := 1230) (by decide +kernel), List.mem_of_getElem? (i := 1231) (by decide +kernel)⟩
theorem lw_p54 : lw_okq (⟨"WhatWasSaidModel", "fallsAway", "(II)V"⟩, 37) := ⟨⟨by decide +kernel, by decide +kernel⟩, List.mem_of_getElem? (i := 982) (by decide +kernel), List.mem_of_getElem? (i := 1234) (by decide +kernel), List.mem_of_getElem? (i := 1235) (by decide +kernel)⟩
theorem lw_p55 : lw_okq (⟨"WhatWasSaidModel", "moves", "(III)V"⟩, 37) := ⟨⟨by decide +kernel, by decide +kernel⟩, List.mem_of_getElem? (i := 982) (by decide +kernel), List.mem_of_getElem? (i := 1238) (by decide +kernel), List.mem_of_getElem? (i := 1239) (by decide +kernel)⟩
theorem lw_p56 : lw_okq (⟨"WhatWasSaidModel", "softensAll", "(I)V"⟩, 37) := ⟨⟨by decide +kernel, by decide +kernel⟩, List.mem_of_getElem? (i := 982) (by decide +kernel), List.mem_of_getElem? (i := 1242) (by decide +kernel), List.mem_of_getElem? (i := 1243) (by decide +kernel)⟩
theorem lw_p57 : lw_okq (⟨"WhatWasSaidModel", "putsLast", "(I)V"⟩, 37) := ⟨⟨by decide +kernel, by decide +kernel⟩, List.mem_of_getElem? (i := 982) (by decide +kernel), List.mem_of_getElem? (i := 1246) (by decide +kernel), List.mem_of_getElem? (i := 1247) (by decide +kernel)⟩
theorem lw_p58 : lw_okq (⟨"WhatWasSaidModel", "isPaper", "(I)Z"⟩, 37) := ⟨⟨by decide +kernel, by decide +kernel⟩, List.mem_of_getElem? (i := 982) (by decide +kernel), List.mem_of_getElem? (i := 1258) (by decide +kernel), List.mem_of_getElem? (i := 1259) (by decide +kernel)⟩
theorem lw_p59 : lw_okq (⟨"WhatWasSaidModel", "has", "(II)Z"⟩, 37) := ⟨⟨by decide +kernel, by decide +kernel⟩, List.mem_of_getElem? (i := 982) (by decide +kernel), List.mem_of_getElem? (i := 1262) (by decide +kernel), List.mem_of_getElem? (i := 1263) (by decide +kernel)⟩
theorem lw_p60 : lw_okq (⟨"WhatWasSaidModel", "placeOf", "(II)I"⟩, 37) := ⟨⟨by decide +kernel, by decide +kernel⟩, List.mem_of_getElem? (i := 982) (by decide +kernel), List.mem_of_getElem? (i := 1266) (by decide +kernel), List.mem_of_getElem? (i := 1267) (by decide +kernel)⟩
theorem lw_p61 : lw_okq (⟨"WhatWasSaidModel", "bitsOf", "(I)I"⟩, 37) := ⟨⟨by decide +kernel, by decide +kernel⟩, List.mem_of_getElem? (i := 982) (by decide +kernel), List.mem_of_getElem? (i := 1288) (by decide +kernel), List.mem_of_getElem? (i := 1289) (by decide +kernel)⟩
theorem lw_p62 : lw_okq (⟨"WhatWasSaidModel", "allLong", "(I)I"⟩, 37) := ⟨⟨by decide +kernel, by decide +kernel⟩, List.mem_of_getElem? (i := 982) (by decide +kernel), List.mem_of_getElem? (i := 1292) (by decide +kernel), List.mem_of_getElem? (i := 1293) (by decide +kernel)⟩
theorem lw_p63 : lw_okq (⟨"WhatWasSaidModel", "hadBy", "(I)I"⟩, 37) := ⟨⟨by decide +kernel, by decide +kernel⟩, List.mem_of_getElem? (i := 982) (by decide +kernel), List.mem_of_getElem? (i := 1304) (by decide +kernel), List.mem_of_getElem? (i := 1305) (by decide +kernel)⟩
def lw_privs_4 : List (MethodName × Nat) := [(⟨"WhatWasSaidModel", "wrong", "()I"⟩, 37), (⟨"WhatWasSaidModel", "takes", "(I)Z"⟩, 37), (⟨"WhatWasSaidModel", "isWriter", "(I)Z"⟩, 37), (⟨"WhatWasSaidModel", "heedOf", "(II)I"⟩, 37), (⟨"WhatWasSaidModel", "puts", "(IIIIIZ)V"⟩, 37), (⟨"WhatWasSaidModel", "joinsAll", "(I)V"⟩, 37), (⟨"WhatWasSaidModel", "fallsAway", "(II)V"⟩, 37), (⟨"WhatWasSaidModel", "moves", "(III)V"⟩, 37), (⟨"WhatWasSaidModel", "softensAll", "(I)V"⟩, 37), (⟨"WhatWasSaidModel", "putsLast", "(I)V"⟩, 37), (⟨"WhatWasSaidModel", "isPaper", "(I)Z"⟩, 37), (⟨"WhatWasSaidModel", "has", "(II)Z"⟩, 37), (⟨"WhatWasSaidModel", "placeOf", "(II)I"⟩, 37), (⟨"WhatWasSaidModel", "bitsOf", "(I)I"⟩, 37), (⟨"WhatWasSaidModel", "allLong", "(I)I"⟩, 37), (⟨"WhatWasSaidModel", "hadBy", "(I)I"⟩, 37)]
theorem lw_r4 : ∀ q ∈ lw_privs_4, lw_okq q := List.forall_mem_cons.mpr ⟨lw_p48, List.forall_mem_cons.mpr ⟨lw_p49, List.forall_mem_cons.mpr ⟨lw_p50, List.forall_mem_cons.mpr ⟨lw_p51, List.forall_mem_cons.mpr ⟨lw_p52, List.forall_mem_cons.mpr ⟨lw_p53, List.forall_mem_cons.mpr ⟨lw_p54, List.forall_mem_cons.mpr ⟨lw_p55, List.forall_mem_cons.mpr ⟨lw_p56, List.forall_mem_cons.mpr ⟨lw_p57, List.forall_mem_cons.mpr ⟨lw_p58, List.forall_mem_cons.mpr ⟨lw_p59, List.forall_mem_cons.mpr ⟨lw_p60, List.forall_mem_cons.mpr ⟨lw_p61, List.forall_mem_cons.mpr ⟨lw_p62, List.forall_mem_cons.mpr ⟨lw_p63, fun _ h => absurd h List.not_mem_nil⟩⟩⟩⟩⟩⟩⟩⟩⟩⟩⟩⟩⟩⟩⟩⟩
theorem lw_p64 : lw_okq (⟨"WhatWasSaidModel", "nextOf", "(I)I"⟩, 37) := ⟨⟨by decide +kernel, by decide +kernel⟩, List.mem_of_getElem? (i := 982) (by decide +kernel), List.mem_of_getElem? (i := 1320) (by decide +kernel), List.mem_of_getElem? (i := 1321) (by decide +kernel)⟩
theorem lw_p65 : lw_okq (⟨"WhatWasSaidModel", "beats", "(II)Z"⟩, 37) := ⟨⟨by decide +kernel, by decide +kernel⟩, List.mem_of_getElem? (i := 982) (by decide +kernel), List.mem_of_getElem? (i := 1324) (by decide +kernel), List.mem_of_getElem? (i := 1325) (by decide +kernel)⟩
theorem lw_p66 : lw_okq (⟨"WhatWasSaidModel", "likeOf", "(II)J"⟩, 37) := ⟨⟨by decide +kernel, by decide +kernel⟩, List.mem_of_getElem? (i := 982) (by decide +kernel), List.mem_of_getElem? (i := 1342) (by decide +kernel), List.mem_of_getElem? (i := 1343) (by decide +kernel)⟩
theorem lw_p67 : lw_okq (⟨"WhatWasSaidModel", "isBody", "(I)Z"⟩, 37) := ⟨⟨by decide +kernel, by decide +kernel⟩, List.mem_of_getElem? (i := 982) (by decide +kernel), List.mem_of_getElem? (i := 1374) (by decide +kernel), List.mem_of_getElem? (i := 1375) (by decide +kernel)⟩
theorem lw_p68 : lw_okq (⟨"WhatWasSaidModel", "saysAs", "(II)I"⟩, 37) := ⟨⟨by decide +kernel, by decide +kernel⟩, List.mem_of_getElem? (i := 982) (by decide +kernel), List.mem_of_getElem? (i := 1378) (by decide +kernel), List.mem_of_getElem? (i := 1379) (by decide +kernel)⟩
theorem lw_p69 : lw_okq (⟨"WhatWasSaidModel", "begins", "(I)V"⟩, 37) := ⟨⟨by decide +kernel, by decide +kernel⟩, List.mem_of_getElem? (i := 982) (by decide +kernel), List.mem_of_getElem? (i := 1382) (by decide +kernel), List.mem_of_getElem? (i := 1383) (by decide +kernel)⟩
theorem lw_p70 : lw_okq (⟨"WhatWasSaidModel", "takesAs", "(II)I"⟩, 37) := ⟨⟨by decide +kernel, by decide +kernel⟩, List.mem_of_getElem? (i := 982) (by decide +kernel), List.mem_of_getElem? (i := 1386) (by decide +kernel), List.mem_of_getElem? (i := 1387) (by decide +kernel)⟩
theorem lw_p71 : lw_okq (⟨"WhatWasSaidModel", "mendsAs", "(II)I"⟩, 37) := ⟨⟨by decide +kernel, by decide +kernel⟩, List.mem_of_getElem? (i := 982) (by decide +kernel), List.mem_of_getElem? (i := 1390) (by decide +kernel), List.mem_of_getElem? (i := 1391) (by decide +kernel)⟩
theorem lw_p72 : lw_okq (⟨"WhatWasSaidModel", "joinsAs", "(II)I"⟩, 37) := ⟨⟨by decide +kernel, by decide +kernel⟩, List.mem_of_getElem? (i := 982) (by decide +kernel), List.mem_of_getElem? (i := 1394) (by decide +kernel), List.mem_of_getElem? (i := 1395) (by decide +kernel)⟩
theorem lw_p73 : lw_okq (⟨"WhatWasSaidModel", "refusal", "(II)I"⟩, 37) := ⟨⟨by decide +kernel, by decide +kernel⟩, List.mem_of_getElem? (i := 982) (by decide +kernel), List.mem_of_getElem? (i := 1414) (by decide +kernel), List.mem_of_getElem? (i := 1415) (by decide +kernel)⟩
theorem lw_p74 : lw_okq (⟨"WhatWasSaidModel", "kindOf", "(I)I"⟩, 37) := ⟨⟨by decide +kernel, by decide +kernel⟩, List.mem_of_getElem? (i := 982) (by decide +kernel), List.mem_of_getElem? (i := 1433) (by decide +kernel), List.mem_of_getElem? (i := 1434) (by decide +kernel)⟩
def lw_privs_5 : List (MethodName × Nat) := [(⟨"WhatWasSaidModel", "nextOf", "(I)I"⟩, 37), (⟨"WhatWasSaidModel", "beats", "(II)Z"⟩, 37), (⟨"WhatWasSaidModel", "likeOf", "(II)J"⟩, 37), (⟨"WhatWasSaidModel", "isBody", "(I)Z"⟩, 37), (⟨"WhatWasSaidModel", "saysAs", "(II)I"⟩, 37), (⟨"WhatWasSaidModel", "begins", "(I)V"⟩, 37), (⟨"WhatWasSaidModel", "takesAs", "(II)I"⟩, 37), (⟨"WhatWasSaidModel", "mendsAs", "(II)I"⟩, 37), (⟨"WhatWasSaidModel", "joinsAs", "(II)I"⟩, 37), (⟨"WhatWasSaidModel", "refusal", "(II)I"⟩, 37), (⟨"WhatWasSaidModel", "kindOf", "(I)I"⟩, 37)]
theorem lw_r5 : ∀ q ∈ lw_privs_5, lw_okq q := List.forall_mem_cons.mpr ⟨lw_p64, List.forall_mem_cons.mpr ⟨lw_p65, List.forall_mem_cons.mpr ⟨lw_p66, List.forall_mem_cons.mpr ⟨lw_p67, List.forall_mem_cons.mpr ⟨lw_p68, List.forall_mem_cons.mpr ⟨lw_p69, List.forall_mem_cons.mpr ⟨lw_p70, List.forall_mem_cons.mpr ⟨lw_p71, List.forall_mem_cons.mpr ⟨lw_p72, List.forall_mem_cons.mpr ⟨lw_p73, List.forall_mem_cons.mpr ⟨lw_p74, fun _ h => absurd h List.not_mem_nil⟩⟩⟩⟩⟩⟩⟩⟩⟩⟩⟩
def lw_privs : List (MethodName × Nat) := lw_privs_1 ++ (lw_privs_2 ++ (lw_privs_3 ++ (lw_privs_4 ++ (lw_privs_5))))
def lw_tbl : List Cond := k2_sels lw_privs ++ tables_1
theorem lw_privs_ok : ∀ q ∈ lw_privs, lw_okq q := by
  show ∀ q ∈ lw_privs_1 ++ (lw_privs_2 ++ (lw_privs_3 ++ (lw_privs_4 ++ (lw_privs_5)))), lw_okq q
  exact List.forall_mem_append.mpr ⟨lw_r1, List.forall_mem_append.mpr ⟨lw_r2, List.forall_mem_append.mpr ⟨lw_r3, List.forall_mem_append.mpr ⟨lw_r4, lw_r5⟩⟩⟩⟩
-- ===== end of PART A; then your names; then what follows =====
def RX0 : String := "WhatWasSaid$Acts"
def TX0 : u_T := fun k => match k with
  | 0 => ("WhatWasSaid$Acts", "kinds", "[I", true)
  | 1 => ("WhatWasSaid$Acts", "tracedBodies", "[I", true)
  | 2 => ("WhatWasSaid$Acts", "size", "I", false)
  | 3 => ("WhatWasSaid$Acts", "ran", "I", false)
  | _ => ("WhatWasSaid$Acts", "actor", "I", false)
def tyX0 : Nat → FieldType := fun k => match k with
  | 0 => .array .int
  | 1 => .array .int
  | 2 => .int
  | 3 => .int
  | _ => .int
abbrev wsX00 : List Cond := u_ws RX0 TX0 5
theorem nmX0 : ∀ a, a < 5 → ∀ b, b < 5 → a ≠ b → (TX0 a).2.1 ≠ (TX0 b).2.1 := by decide +kernel
theorem tyX0_ok : ∀ k, k < 5 → parseFieldDescriptor (TX0 k).2.2.1 = some (tyX0 k) := by decide +kernel
abbrev cX0_init : ByteArray := prog_2_method_1_code
def yX0_init : MethodName := ⟨RX0, "<init>", "()V"⟩
abbrev cX0_isKind : ByteArray := prog_2_method_2_code
def yX0_isKind : MethodName := ⟨RX0, "isKind", "(I)Z"⟩
abbrev cX0_isUnder : ByteArray := prog_2_method_3_code
def yX0_isUnder : MethodName := ⟨RX0, "isUnder", "(II)Z"⟩
abbrev cX0_size : ByteArray := prog_2_method_4_code
def yX0_size : MethodName := ⟨RX0, "size", "()I"⟩
abbrev cX0_ran : ByteArray := prog_2_method_5_code
def yX0_ran : MethodName := ⟨RX0, "ran", "()I"⟩
abbrev cX0_has : ByteArray := prog_2_method_6_code
def yX0_has : MethodName := ⟨RX0, "has", "(I)Z"⟩
abbrev cX0_kindOf : ByteArray := prog_2_method_7_code
def yX0_kindOf : MethodName := ⟨RX0, "kindOf", "(I)I"⟩
abbrev cX0_admit : ByteArray := prog_2_method_8_code
/-- a method's name, out of the printed tables: its word is one that no row may hold -/
def zyN : Cond → MethodName
  | .methodLink _ _ y => y
  | _ => x
def yX0_admit : MethodName := zyN (tables_1_4[128]?.getD .returned)
abbrev cX0_traced : ByteArray := prog_2_method_9_code
def yX0_traced : MethodName := ⟨RX0, "traced", "(I)I"⟩
abbrev cX0_begin : ByteArray := prog_2_method_10_code
def yX0_begin : MethodName := ⟨RX0, "begin", "(III)I"⟩
abbrev cX0_own : ByteArray := prog_2_method_11_code
def yX0_own : MethodName := ⟨RX0, "own", "(III)I"⟩
abbrev cX0_from : ByteArray := prog_2_method_12_code
def yX0_from : MethodName := ⟨RX0, "from", "(IIII)I"⟩
abbrev cX0_run : ByteArray := prog_2_method_13_code
def yX0_run : MethodName := ⟨RX0, "run", "(IIII)I"⟩
abbrev cX0_note : ByteArray := prog_2_method_14_code
def yX0_note : MethodName := ⟨RX0, "note", "(I)V"⟩
def RX1 : String := "WhatWasSaid$Archive"
def TX1 : u_T := fun k => match k with
  | 0 => ("WhatWasSaid$Archive", "meeting", "LWhatWasSaid$Meeting;", true)
  | 1 => ("WhatWasSaid$Archive", "papers", "[LWhatWasSaid$Paper;", true)
  | 2 => ("WhatWasSaid$Archive", "leads", "[[I", true)
  | _ => ("WhatWasSaid$Archive", "size", "I", false)
def tyX1 : Nat → FieldType := fun k => match k with
  | 0 => .object "WhatWasSaid$Meeting"
  | 1 => .array (.object "WhatWasSaid$Paper")
  | 2 => .array (.array .int)
  | _ => .int
abbrev wsX10 : List Cond := u_ws RX1 TX1 4
theorem nmX1 : ∀ a, a < 4 → ∀ b, b < 4 → a ≠ b → (TX1 a).2.1 ≠ (TX1 b).2.1 := by decide +kernel
theorem tyX1_ok : ∀ k, k < 4 → parseFieldDescriptor (TX1 k).2.2.1 = some (tyX1 k) := by decide +kernel
abbrev cX1_init : ByteArray := prog_3_method_1_code
def yX1_init : MethodName := ⟨RX1, "<init>", "(LWhatWasSaid$Meeting;)V"⟩
abbrev cX1_size : ByteArray := prog_3_method_2_code
def yX1_size : MethodName := ⟨RX1, "size", "()I"⟩
abbrev cX1_open : ByteArray := prog_3_method_3_code
def yX1_open : MethodName := ⟨RX1, "open", "(I)I"⟩
abbrev cX1_paper : ByteArray := prog_3_method_4_code
def yX1_paper : MethodName := ⟨RX1, "paper", "(I)LWhatWasSaid$Paper;"⟩
abbrev cX1_papersWith : ByteArray := prog_3_method_5_code
def yX1_papersWith : MethodName := ⟨RX1, "papersWith", "(I)I"⟩
abbrev cX1_papersWith_ : ByteArray := prog_3_method_6_code
def yX1_papersWith_ : MethodName := ⟨RX1, "papersWith", "(II)I"⟩
abbrev cX1_writersWith : ByteArray := prog_3_method_7_code
def yX1_writersWith : MethodName := ⟨RX1, "writersWith", "(I)I"⟩
abbrev cX1_onlyOnce : ByteArray := prog_3_method_8_code
def yX1_onlyOnce : MethodName := ⟨RX1, "onlyOnce", "()I"⟩
abbrev cX1_fightsOf : ByteArray := prog_3_method_9_code
def yX1_fightsOf : MethodName := ⟨RX1, "fightsOf", "(LWhatWasSaid$Paper;LWhatWasSaid$Paper;)I"⟩
abbrev cX1_firstFight : ByteArray := prog_3_method_10_code
def yX1_firstFight : MethodName := ⟨RX1, "firstFight", "(LWhatWasSaid$Paper;LWhatWasSaid$Paper;)I"⟩
abbrev cX1_isFight : ByteArray := prog_3_method_11_code
def yX1_isFight : MethodName := ⟨RX1, "isFight", "(LWhatWasSaid$Paper;LWhatWasSaid$Paper;II)Z"⟩
abbrev cX1_inOrder : ByteArray := prog_3_method_12_code
def yX1_inOrder : MethodName := ⟨RX1, "inOrder", "(I)I"⟩
abbrev cX1_countLeads : ByteArray := prog_3_method_13_code
def yX1_countLeads : MethodName := ⟨RX1, "countLeads", "()V"⟩
abbrev cX1_countLeadsOf : ByteArray := prog_3_method_14_code
def yX1_countLeadsOf : MethodName := ⟨RX1, "countLeadsOf", "(LWhatWasSaid$Paper;)V"⟩
abbrev cX1_countLead : ByteArray := prog_3_method_15_code
def yX1_countLead : MethodName := ⟨RX1, "countLead", "(II)V"⟩
abbrev cX1_foremost : ByteArray := prog_3_method_16_code
def yX1_foremost : MethodName := ⟨RX1, "foremost", "(I)I"⟩
abbrev cX1_beatenBy : ByteArray := prog_3_method_17_code
def yX1_beatenBy : MethodName := ⟨RX1, "beatenBy", "(II)I"⟩
abbrev cX1_chanceIfSaid : ByteArray := prog_3_method_18_code
def yX1_chanceIfSaid : MethodName := ⟨RX1, "chanceIfSaid", "(ILWhatWasSaid$Desk;)J"⟩
abbrev cX1_chanceIfNot : ByteArray := prog_3_method_19_code
def yX1_chanceIfNot : MethodName := ⟨RX1, "chanceIfNot", "(I)J"⟩
abbrev cX1_longestGap : ByteArray := prog_3_method_20_code
def yX1_longestGap : MethodName := ⟨RX1, "longestGap", "(LWhatWasSaid$Paper;)I"⟩
abbrev cX1_spanFrom : ByteArray := prog_3_method_21_code
def yX1_spanFrom : MethodName := ⟨RX1, "spanFrom", "(LWhatWasSaid$Paper;I)I"⟩
def RX2 : String := "WhatWasSaid$Changes"
def TX2 : u_T := fun k => match k with
  | 0 => ("WhatWasSaid$Changes", "rows", "[[I", true)
  | 1 => ("WhatWasSaid$Changes", "done", "I", false)
  | _ => ("WhatWasSaid$Changes", "kept", "I", false)
def tyX2 : Nat → FieldType := fun k => match k with
  | 0 => .array (.array .int)
  | 1 => .int
  | _ => .int
abbrev wsX20 : List Cond := u_ws RX2 TX2 3
theorem nmX2 : ∀ a, a < 3 → ∀ b, b < 3 → a ≠ b → (TX2 a).2.1 ≠ (TX2 b).2.1 := by decide +kernel
theorem tyX2_ok : ∀ k, k < 3 → parseFieldDescriptor (TX2 k).2.2.1 = some (tyX2 k) := by decide +kernel
abbrev cX2_init : ByteArray := prog_4_method_1_code
def yX2_init : MethodName := ⟨RX2, "<init>", "()V"⟩
abbrev cX2_done : ByteArray := prog_4_method_2_code
def yX2_done : MethodName := ⟨RX2, "done", "()I"⟩
abbrev cX2_undone : ByteArray := prog_4_method_3_code
def yX2_undone : MethodName := ⟨RX2, "undone", "()I"⟩
abbrev cX2_note : ByteArray := prog_4_method_4_code
def yX2_note : MethodName := ⟨RX2, "note", "(IIII)V"⟩
abbrev cX2_stepBack : ByteArray := prog_4_method_5_code
def yX2_stepBack : MethodName := ⟨RX2, "stepBack", "(LWhatWasSaid$Meeting;)Z"⟩
abbrev cX2_stepOn : ByteArray := prog_4_method_6_code
def yX2_stepOn : MethodName := ⟨RX2, "stepOn", "(LWhatWasSaid$Meeting;)Z"⟩
abbrev cX2_dropFirst : ByteArray := prog_4_method_7_code
def yX2_dropFirst : MethodName := ⟨RX2, "dropFirst", "()V"⟩
def RX3 : String := "WhatWasSaid$Desk"
def TX3 : u_T := fun k => match k with
  | 0 => ("WhatWasSaid$Desk", "meeting", "LWhatWasSaid$Meeting;", true)
  | 1 => ("WhatWasSaid$Desk", "reckoner", "LWhatWasSaid$Reckoner;", true)
  | 2 => ("WhatWasSaid$Desk", "laws", "[LWhatWasSaid$Law;", true)
  | _ => ("WhatWasSaid$Desk", "size", "I", false)
def tyX3 : Nat → FieldType := fun k => match k with
  | 0 => .object "WhatWasSaid$Meeting"
  | 1 => .object "WhatWasSaid$Reckoner"
  | 2 => .array (.object "WhatWasSaid$Law")
  | _ => .int
abbrev wsX30 : List Cond := u_ws RX3 TX3 4
theorem nmX3 : ∀ a, a < 4 → ∀ b, b < 4 → a ≠ b → (TX3 a).2.1 ≠ (TX3 b).2.1 := by decide +kernel
theorem tyX3_ok : ∀ k, k < 4 → parseFieldDescriptor (TX3 k).2.2.1 = some (tyX3 k) := by decide +kernel
abbrev cX3_init : ByteArray := prog_5_method_1_code
def yX3_init : MethodName := ⟨RX3, "<init>", "(LWhatWasSaid$Meeting;)V"⟩
abbrev cX3_size : ByteArray := prog_5_method_2_code
def yX3_size : MethodName := ⟨RX3, "size", "()I"⟩
abbrev cX3_isEmpty : ByteArray := prog_5_method_3_code
def yX3_isEmpty : MethodName := ⟨RX3, "isEmpty", "()Z"⟩
abbrev cX3_isFull : ByteArray := prog_5_method_4_code
def yX3_isFull : MethodName := ⟨RX3, "isFull", "()Z"⟩
abbrev cX3_has : ByteArray := prog_5_method_5_code
def yX3_has : MethodName := ⟨RX3, "has", "(I)Z"⟩
abbrev cX3_admit : ByteArray := prog_5_method_6_code
def yX3_admit : MethodName := zyN (tables_1_2[173]?.getD .returned)
abbrev cX3_heedOf : ByteArray := prog_5_method_7_code
def yX3_heedOf : MethodName := ⟨RX3, "heedOf", "(II)I"⟩
abbrev cX3_takeDown : ByteArray := prog_5_method_8_code
def yX3_takeDown : MethodName := ⟨RX3, "takeDown", "(IILWhatWasSaid$Paper;)V"⟩
abbrev cX3_likeliest : ByteArray := prog_5_method_9_code
def yX3_likeliest : MethodName := ⟨RX3, "likeliest", "(LWhatWasSaid$Paper;)I"⟩
abbrev cX3_chanceOf : ByteArray := prog_5_method_10_code
def yX3_chanceOf : MethodName := ⟨RX3, "chanceOf", "(ILWhatWasSaid$Paper;)J"⟩
abbrev cX3_leastOff : ByteArray := prog_5_method_11_code
def yX3_leastOff : MethodName := ⟨RX3, "leastOff", "(ILWhatWasSaid$Archive;)I"⟩
abbrev cX3_offOf : ByteArray := prog_5_method_12_code
def yX3_offOf : MethodName := ⟨RX3, "offOf", "(IILWhatWasSaid$Archive;)I"⟩
abbrev cX3_bestPair : ByteArray := prog_5_method_13_code
def yX3_bestPair : MethodName := ⟨RX3, "bestPair", "()I"⟩
abbrev cX3_pairChance : ByteArray := prog_5_method_14_code
def yX3_pairChance : MethodName := ⟨RX3, "pairChance", "(II)I"⟩
def RX4 : String := "WhatWasSaid$Law"
def TX4 : u_T := fun k => match k with
  | 0 => ("WhatWasSaid$Law", "codes", "[I", true)
  | 1 => ("WhatWasSaid$Law", "size", "I", false)
  | 2 => ("WhatWasSaid$Law", "self", "I", false)
  | _ => ("WhatWasSaid$Law", "habits", "I", false)
def tyX4 : Nat → FieldType := fun k => match k with
  | 0 => .array .int
  | 1 => .int
  | 2 => .int
  | _ => .int
abbrev wsX40 : List Cond := u_ws RX4 TX4 4
theorem nmX4 : ∀ a, a < 4 → ∀ b, b < 4 → a ≠ b → (TX4 a).2.1 ≠ (TX4 b).2.1 := by decide +kernel
theorem tyX4_ok : ∀ k, k < 4 → parseFieldDescriptor (TX4 k).2.2.1 = some (tyX4 k) := by decide +kernel
abbrev cX4_init : ByteArray := prog_6_method_1_code
def yX4_init : MethodName := ⟨RX4, "<init>", "()V"⟩
abbrev cX4_become : ByteArray := prog_6_method_2_code
def yX4_become : MethodName := ⟨RX4, "become", "(LWhatWasSaid$Tape;II)V"⟩
abbrev cX4_size : ByteArray := prog_6_method_3_code
def yX4_size : MethodName := ⟨RX4, "size", "()I"⟩
abbrev cX4_codeAt : ByteArray := prog_6_method_4_code
def yX4_codeAt : MethodName := ⟨RX4, "codeAt", "(I)I"⟩
abbrev cX4_isSelf : ByteArray := prog_6_method_5_code
def yX4_isSelf : MethodName := ⟨RX4, "isSelf", "(I)Z"⟩
abbrev cX4_has : ByteArray := prog_6_method_6_code
def yX4_has : MethodName := ⟨RX4, "has", "(I)Z"⟩
def RX5 : String := "WhatWasSaid$Meeting"
def TX5 : u_T := fun k => match k with
  | 0 => ("WhatWasSaid$Meeting", "parts", "[[I", true)
  | _ => ("WhatWasSaid$Meeting", "size", "I", false)
def tyX5 : Nat → FieldType := fun k => match k with
  | 0 => .array (.array .int)
  | _ => .int
abbrev wsX50 : List Cond := u_ws RX5 TX5 2
theorem nmX5 : ∀ a, a < 2 → ∀ b, b < 2 → a ≠ b → (TX5 a).2.1 ≠ (TX5 b).2.1 := by decide +kernel
theorem tyX5_ok : ∀ k, k < 2 → parseFieldDescriptor (TX5 k).2.2.1 = some (tyX5 k) := by decide +kernel
abbrev cX5_init : ByteArray := prog_7_method_1_code
def yX5_init : MethodName := ⟨RX5, "<init>", "()V"⟩
abbrev cX5_fits : ByteArray := prog_7_method_2_code
def yX5_fits : MethodName := ⟨RX5, "fits", "(II)Z"⟩
abbrev cX5_size : ByteArray := prog_7_method_3_code
def yX5_size : MethodName := ⟨RX5, "size", "()I"⟩
abbrev cX5_has : ByteArray := prog_7_method_4_code
def yX5_has : MethodName := ⟨RX5, "has", "(I)Z"⟩
abbrev cX5_part : ByteArray := prog_7_method_5_code
def yX5_part : MethodName := ⟨RX5, "part", "(II)I"⟩
abbrev cX5_append : ByteArray := prog_7_method_6_code
def yX5_append : MethodName := ⟨RX5, "append", "(IIII)I"⟩
abbrev cX5_change : ByteArray := prog_7_method_7_code
def yX5_change : MethodName := ⟨RX5, "change", "(III)V"⟩
abbrev cX5_minute : ByteArray := prog_7_method_8_code
def yX5_minute : MethodName := ⟨RX5, "minute", "(I)I"⟩
abbrev cX5_aheadOnSame : ByteArray := prog_7_method_9_code
def yX5_aheadOnSame : MethodName := ⟨RX5, "aheadOnSame", "(I)I"⟩
def RX6 : String := "WhatWasSaid$Paper"
def TX6 : u_T := fun k => match k with
  | 0 => ("WhatWasSaid$Paper", "entries", "[[I", true)
  | 1 => ("WhatWasSaid$Paper", "size", "I", false)
  | _ => ("WhatWasSaid$Paper", "writer", "I", false)
def tyX6 : Nat → FieldType := fun k => match k with
  | 0 => .array (.array .int)
  | 1 => .int
  | _ => .int
abbrev wsX60 : List Cond := u_ws RX6 TX6 3
theorem nmX6 : ∀ a, a < 3 → ∀ b, b < 3 → a ≠ b → (TX6 a).2.1 ≠ (TX6 b).2.1 := by decide +kernel
theorem tyX6_ok : ∀ k, k < 3 → parseFieldDescriptor (TX6 k).2.2.1 = some (tyX6 k) := by decide +kernel
abbrev cX6_init : ByteArray := prog_8_method_1_code
def yX6_init : MethodName := ⟨RX6, "<init>", "()V"⟩
abbrev cX6_begin : ByteArray := prog_8_method_2_code
def yX6_begin : MethodName := ⟨RX6, "begin", "(I)V"⟩
abbrev cX6_size : ByteArray := prog_8_method_3_code
def yX6_size : MethodName := ⟨RX6, "size", "()I"⟩
abbrev cX6_by : ByteArray := prog_8_method_4_code
def yX6_by : MethodName := ⟨RX6, "by", "()I"⟩
abbrev cX6_hasPlace : ByteArray := prog_8_method_5_code
def yX6_hasPlace : MethodName := ⟨RX6, "hasPlace", "(I)Z"⟩
abbrev cX6_part : ByteArray := prog_8_method_6_code
def yX6_part : MethodName := ⟨RX6, "part", "(II)I"⟩
abbrev cX6_placeOf : ByteArray := prog_8_method_7_code
def yX6_placeOf : MethodName := ⟨RX6, "placeOf", "(I)I"⟩
abbrev cX6_bits : ByteArray := prog_8_method_8_code
def yX6_bits : MethodName := ⟨RX6, "bits", "()I"⟩
abbrev cX6_total : ByteArray := prog_8_method_9_code
def yX6_total : MethodName := ⟨RX6, "total", "()I"⟩
abbrev cX6_append : ByteArray := prog_8_method_10_code
def yX6_append : MethodName := ⟨RX6, "append", "(III)Z"⟩
abbrev cX6_markAdded : ByteArray := prog_8_method_11_code
def yX6_markAdded : MethodName := ⟨RX6, "markAdded", "(I)V"⟩
abbrev cX6_drop : ByteArray := prog_8_method_12_code
def yX6_drop : MethodName := ⟨RX6, "drop", "(I)V"⟩
abbrev cX6_move : ByteArray := prog_8_method_13_code
def yX6_move : MethodName := ⟨RX6, "move", "(II)V"⟩
abbrev cX6_follow : ByteArray := prog_8_method_14_code
def yX6_follow : MethodName := ⟨RX6, "follow", "(LWhatWasSaid$Law;LWhatWasSaid$Meeting;)V"⟩
abbrev cX6_join : ByteArray := prog_8_method_15_code
def yX6_join : MethodName := ⟨RX6, "join", "(LWhatWasSaid$Meeting;)V"⟩
abbrev cX6_isAlike : ByteArray := prog_8_method_16_code
def yX6_isAlike : MethodName := ⟨RX6, "isAlike", "(LWhatWasSaid$Meeting;II)Z"⟩
abbrev cX6_soften : ByteArray := prog_8_method_17_code
def yX6_soften : MethodName := ⟨RX6, "soften", "()V"⟩
abbrev cX6_decisionsLast : ByteArray := prog_8_method_18_code
def yX6_decisionsLast : MethodName := ⟨RX6, "decisionsLast", "()V"⟩
abbrev cX6_hear : ByteArray := prog_8_method_19_code
def yX6_hear : MethodName := ⟨RX6, "hear", "(LWhatWasSaid$Meeting;I)I"⟩
abbrev cX6_shorten : ByteArray := prog_8_method_20_code
def yX6_shorten : MethodName := ⟨RX6, "shorten", "(I)I"⟩
abbrev cX6_shortest : ByteArray := prog_8_method_21_code
def yX6_shortest : MethodName := ⟨RX6, "shortest", "()I"⟩
def RX7 : String := "WhatWasSaid$Reckoner"
def TX7 : u_T := fun k => match k with
  | 0 => ("WhatWasSaid$Reckoner", "meeting", "LWhatWasSaid$Meeting;", true)
  | 1 => ("WhatWasSaid$Reckoner", "named", "[I", true)
  | 2 => ("WhatWasSaid$Reckoner", "stack", "[I", true)
  | _ => ("WhatWasSaid$Reckoner", "top", "I", false)
def tyX7 : Nat → FieldType := fun k => match k with
  | 0 => .object "WhatWasSaid$Meeting"
  | 1 => .array .int
  | 2 => .array .int
  | _ => .int
abbrev wsX70 : List Cond := u_ws RX7 TX7 4
theorem nmX7 : ∀ a, a < 4 → ∀ b, b < 4 → a ≠ b → (TX7 a).2.1 ≠ (TX7 b).2.1 := by decide +kernel
theorem tyX7_ok : ∀ k, k < 4 → parseFieldDescriptor (TX7 k).2.2.1 = some (tyX7 k) := by decide +kernel
abbrev cX7_init : ByteArray := prog_9_method_1_code
def yX7_init : MethodName := ⟨RX7, "<init>", "(LWhatWasSaid$Meeting;)V"⟩
abbrev cX7_work : ByteArray := prog_9_method_2_code
def yX7_work : MethodName := ⟨RX7, "work", "(LWhatWasSaid$Law;I)I"⟩
abbrev cX7_name : ByteArray := prog_9_method_3_code
def yX7_name : MethodName := ⟨RX7, "name", "(LWhatWasSaid$Law;I)V"⟩
abbrev cX7_valueOf : ByteArray := prog_9_method_4_code
def yX7_valueOf : MethodName := ⟨RX7, "valueOf", "(I)I"⟩
abbrev cX7_joint : ByteArray := prog_9_method_5_code
def yX7_joint : MethodName := ⟨RX7, "joint", "(III)I"⟩
abbrev cX7_push : ByteArray := prog_9_method_6_code
def yX7_push : MethodName := ⟨RX7, "push", "(I)V"⟩
abbrev cX7_pop : ByteArray := prog_9_method_7_code
def yX7_pop : MethodName := ⟨RX7, "pop", "()I"⟩
def RX8 : String := "WhatWasSaid$Shelf"
def TX8 : u_T := fun k => match k with
  | 0 => ("WhatWasSaid$Shelf", "elements", "[J", true)
  | 1 => ("WhatWasSaid$Shelf", "body", "I", false)
  | 2 => ("WhatWasSaid$Shelf", "sort", "I", false)
  | _ => ("WhatWasSaid$Shelf", "length", "I", false)
def tyX8 : Nat → FieldType := fun k => match k with
  | 0 => .array .long
  | 1 => .int
  | 2 => .int
  | _ => .int
abbrev wsX80 : List Cond := u_ws RX8 TX8 4
theorem nmX8 : ∀ a, a < 4 → ∀ b, b < 4 → a ≠ b → (TX8 a).2.1 ≠ (TX8 b).2.1 := by decide +kernel
theorem tyX8_ok : ∀ k, k < 4 → parseFieldDescriptor (TX8 k).2.2.1 = some (tyX8 k) := by decide +kernel
abbrev cX8_init : ByteArray := prog_10_method_1_code
def yX8_init : MethodName := ⟨RX8, "<init>", "()V"⟩
abbrev cX8_isRowSort : ByteArray := prog_10_method_2_code
def yX8_isRowSort : MethodName := ⟨RX8, "isRowSort", "(I)Z"⟩
abbrev cX8_isBare : ByteArray := prog_10_method_3_code
def yX8_isBare : MethodName := ⟨RX8, "isBare", "()Z"⟩
abbrev cX8_holdsRow : ByteArray := prog_10_method_4_code
def yX8_holdsRow : MethodName := ⟨RX8, "holdsRow", "()Z"⟩
abbrev cX8_holdsBytes : ByteArray := prog_10_method_5_code
def yX8_holdsBytes : MethodName := ⟨RX8, "holdsBytes", "()Z"⟩
abbrev cX8_heldBody : ByteArray := prog_10_method_6_code
def yX8_heldBody : MethodName := ⟨RX8, "heldBody", "()I"⟩
abbrev cX8_sort : ByteArray := prog_10_method_7_code
def yX8_sort : MethodName := ⟨RX8, "sort", "()I"⟩
abbrev cX8_length : ByteArray := prog_10_method_8_code
def yX8_length : MethodName := ⟨RX8, "length", "()I"⟩
abbrev cX8_holdBody : ByteArray := prog_10_method_9_code
def yX8_holdBody : MethodName := ⟨RX8, "holdBody", "(I)V"⟩
abbrev cX8_holdRow : ByteArray := prog_10_method_10_code
def yX8_holdRow : MethodName := ⟨RX8, "holdRow", "(II)V"⟩
abbrev cX8_hasRange : ByteArray := prog_10_method_11_code
def yX8_hasRange : MethodName := ⟨RX8, "hasRange", "(II)Z"⟩
abbrev cX8_at : ByteArray := prog_10_method_12_code
def yX8_at : MethodName := ⟨RX8, "at", "(I)J"⟩
abbrev cX8_set : ByteArray := prog_10_method_13_code
def yX8_set : MethodName := ⟨RX8, "set", "(IJ)V"⟩
abbrev cX8_copyTo : ByteArray := prog_10_method_14_code
def yX8_copyTo : MethodName := ⟨RX8, "copyTo", "(ILWhatWasSaid$Shelf;II)V"⟩
abbrev cX8_lowest : ByteArray := prog_10_method_15_code
def yX8_lowest : MethodName := ⟨RX8, "lowest", "(J)J"⟩
def RX9 : String := "WhatWasSaid$Tape"
def TX9 : u_T := fun k => match k with
  | 0 => ("WhatWasSaid$Tape", "bytes", "[I", true)
  | 1 => ("WhatWasSaid$Tape", "codes", "[I", true)
  | 2 => ("WhatWasSaid$Tape", "length", "I", false)
  | 3 => ("WhatWasSaid$Tape", "codeCount", "I", false)
  | 4 => ("WhatWasSaid$Tape", "at", "I", false)
  | _ => ("WhatWasSaid$Tape", "fault", "I", false)
def tyX9 : Nat → FieldType := fun k => match k with
  | 0 => .array .int
  | 1 => .array .int
  | 2 => .int
  | 3 => .int
  | 4 => .int
  | _ => .int
abbrev wsX90 : List Cond := u_ws RX9 TX9 6
theorem nmX9 : ∀ a, a < 6 → ∀ b, b < 6 → a ≠ b → (TX9 a).2.1 ≠ (TX9 b).2.1 := by decide +kernel
theorem tyX9_ok : ∀ k, k < 6 → parseFieldDescriptor (TX9 k).2.2.1 = some (tyX9 k) := by decide +kernel
abbrev cX9_init : ByteArray := prog_11_method_1_code
def yX9_init : MethodName := ⟨RX9, "<init>", "()V"⟩
abbrev cX9_length : ByteArray := prog_11_method_2_code
def yX9_length : MethodName := ⟨RX9, "length", "()I"⟩
abbrev cX9_append : ByteArray := prog_11_method_3_code
def yX9_append : MethodName := ⟨RX9, "append", "(I)Z"⟩
abbrev cX9_clear : ByteArray := prog_11_method_4_code
def yX9_clear : MethodName := ⟨RX9, "clear", "()V"⟩
abbrev cX9_copyCodes : ByteArray := prog_11_method_5_code
def yX9_copyCodes : MethodName := ⟨RX9, "copyCodes", "([I)I"⟩
abbrev cX9_parse : ByteArray := prog_11_method_6_code
def yX9_parse : MethodName := ⟨RX9, "parse", "()I"⟩
abbrev cX9_line : ByteArray := prog_11_method_7_code
def yX9_line : MethodName := ⟨RX9, "line", "()V"⟩
abbrev cX9_either : ByteArray := prog_11_method_8_code
def yX9_either : MethodName := ⟨RX9, "either", "(I)V"⟩
abbrev cX9_both : ByteArray := prog_11_method_9_code
def yX9_both : MethodName := ⟨RX9, "both", "(I)V"⟩
abbrev cX9_compared : ByteArray := prog_11_method_10_code
def yX9_compared : MethodName := ⟨RX9, "compared", "(I)V"⟩
abbrev cX9_sum : ByteArray := prog_11_method_11_code
def yX9_sum : MethodName := ⟨RX9, "sum", "(I)V"⟩
abbrev cX9_product : ByteArray := prog_11_method_12_code
def yX9_product : MethodName := ⟨RX9, "product", "(I)V"⟩
abbrev cX9_operand : ByteArray := prog_11_method_13_code
def yX9_operand : MethodName := ⟨RX9, "operand", "(I)V"⟩
abbrev cX9_number : ByteArray := prog_11_method_14_code
def yX9_number : MethodName := ⟨RX9, "number", "()V"⟩
abbrev cX9_sign : ByteArray := prog_11_method_15_code
def yX9_sign : MethodName := ⟨RX9, "sign", "()I"⟩
abbrev cX9_passes : ByteArray := prog_11_method_16_code
def yX9_passes : MethodName := ⟨RX9, "passes", "(I)Z"⟩
abbrev cX9_passesOneOf : ByteArray := prog_11_method_17_code
def yX9_passesOneOf : MethodName := ⟨RX9, "passesOneOf", "(III)I"⟩
abbrev cX9_emit : ByteArray := prog_11_method_18_code
def yX9_emit : MethodName := ⟨RX9, "emit", "(I)V"⟩
abbrev cX9_code : ByteArray := prog_11_method_19_code
def yX9_code : MethodName := ⟨RX9, "code", "(I)V"⟩
abbrev cX9_fail : ByteArray := prog_11_method_20_code
def yX9_fail : MethodName := ⟨RX9, "fail", "()V"⟩
abbrev cX9_isDigit : ByteArray := prog_11_method_21_code
def yX9_isDigit : MethodName := ⟨RX9, "isDigit", "(I)Z"⟩
abbrev cX9_nameOf : ByteArray := prog_11_method_22_code
def yX9_nameOf : MethodName := ⟨RX9, "nameOf", "(I)I"⟩
def RX10 : String := "WhatWasSaid"
def TX10 : u_T := fun k => match k with
  | 0 => ("WhatWasSaid", "meeting", "LWhatWasSaid$Meeting;", true)
  | 1 => ("WhatWasSaid", "changes", "LWhatWasSaid$Changes;", true)
  | 2 => ("WhatWasSaid", "tape", "LWhatWasSaid$Tape;", true)
  | 3 => ("WhatWasSaid", "desk", "LWhatWasSaid$Desk;", true)
  | 4 => ("WhatWasSaid", "archive", "LWhatWasSaid$Archive;", true)
  | 5 => ("WhatWasSaid", "acts", "LWhatWasSaid$Acts;", true)
  | _ => ("WhatWasSaid", "shelves", "[LWhatWasSaid$Shelf;", true)
def tyX10 : Nat → FieldType := fun k => match k with
  | 0 => .object "WhatWasSaid$Meeting"
  | 1 => .object "WhatWasSaid$Changes"
  | 2 => .object "WhatWasSaid$Tape"
  | 3 => .object "WhatWasSaid$Desk"
  | 4 => .object "WhatWasSaid$Archive"
  | 5 => .object "WhatWasSaid$Acts"
  | _ => .array (.object "WhatWasSaid$Shelf")
abbrev wsX100 : List Cond := u_ws RX10 TX10 7
theorem nmX10 : ∀ a, a < 7 → ∀ b, b < 7 → a ≠ b → (TX10 a).2.1 ≠ (TX10 b).2.1 := by decide +kernel
theorem tyX10_ok : ∀ k, k < 7 → parseFieldDescriptor (TX10 k).2.2.1 = some (tyX10 k) := by decide +kernel
abbrev cX10_init : ByteArray := prog_1_method_1_code
def yX10_init : MethodName := ⟨RX10, "<init>", "()V"⟩
abbrev cX10_saying : ByteArray := prog_1_method_2_code
def yX10_saying : MethodName := ⟨RX10, "saying", "(II)I"⟩
abbrev cX10_sayings : ByteArray := prog_1_method_3_code
def yX10_sayings : MethodName := ⟨RX10, "sayings", "(III)I"⟩
abbrev cX10_mend : ByteArray := prog_1_method_4_code
def yX10_mend : MethodName := ⟨RX10, "mend", "(III)I"⟩
abbrev cX10_of : ByteArray := prog_1_method_5_code
def yX10_of : MethodName := ⟨RX10, "of", "(II)I"⟩
abbrev cX10_feed : ByteArray := prog_1_method_6_code
def yX10_feed : MethodName := ⟨RX10, "feed", "(I)I"⟩
abbrev cX10_writer : ByteArray := prog_1_method_7_code
def yX10_writer : MethodName := ⟨RX10, "writer", "(II)I"⟩
abbrev cX10_heed : ByteArray := prog_1_method_8_code
def yX10_heed : MethodName := ⟨RX10, "heed", "(II)I"⟩
abbrev cX10_take : ByteArray := prog_1_method_9_code
def yX10_take : MethodName := ⟨RX10, "take", "(II)I"⟩
abbrev cX10_told : ByteArray := prog_1_method_10_code
def yX10_told : MethodName := ⟨RX10, "told", "(II)I"⟩
abbrev cX10_add : ByteArray := prog_1_method_11_code
def yX10_add : MethodName := ⟨RX10, "add", "(III)I"⟩
abbrev cX10_strike : ByteArray := prog_1_method_12_code
def yX10_strike : MethodName := ⟨RX10, "strike", "(II)I"⟩
abbrev cX10_read : ByteArray := prog_1_method_13_code
def yX10_read : MethodName := ⟨RX10, "read", "(II)I"⟩
abbrev cX10_cut : ByteArray := prog_1_method_14_code
def yX10_cut : MethodName := ⟨RX10, "cut", "(II)I"⟩
abbrev cX10_page : ByteArray := prog_1_method_15_code
def yX10_page : MethodName := ⟨RX10, "page", "(II)I"⟩
abbrev cX10_led : ByteArray := prog_1_method_16_code
def yX10_led : MethodName := ⟨RX10, "led", "(II)I"⟩
abbrev cX10_sure : ByteArray := prog_1_method_17_code
def yX10_sure : MethodName := ⟨RX10, "sure", "(II)I"⟩
abbrev cX10_only : ByteArray := prog_1_method_18_code
def yX10_only : MethodName := ⟨RX10, "only", "()I"⟩
abbrev cX10_fight : ByteArray := prog_1_method_19_code
def yX10_fight : MethodName := ⟨RX10, "fight", "(II)I"⟩
abbrev cX10_order : ByteArray := prog_1_method_20_code
def yX10_order : MethodName := ⟨RX10, "order", "(I)I"⟩
abbrev cX10_said : ByteArray := prog_1_method_21_code
def yX10_said : MethodName := ⟨RX10, "said", "(III)J"⟩
abbrev cX10_whose : ByteArray := prog_1_method_22_code
def yX10_whose : MethodName := ⟨RX10, "whose", "(I)I"⟩
abbrev cX10_learnt : ByteArray := prog_1_method_23_code
def yX10_learnt : MethodName := ⟨RX10, "learnt", "(II)I"⟩
abbrev cX10_asleep : ByteArray := prog_1_method_24_code
def yX10_asleep : MethodName := ⟨RX10, "asleep", "(II)I"⟩
abbrev cX10_ask : ByteArray := prog_1_method_25_code
def yX10_ask : MethodName := ⟨RX10, "ask", "(I)I"⟩
abbrev cX10_years : ByteArray := prog_1_method_26_code
def yX10_years : MethodName := ⟨RX10, "years", "(II)I"⟩
abbrev cX10_undo : ByteArray := prog_1_method_27_code
def yX10_undo : MethodName := ⟨RX10, "undo", "()I"⟩
abbrev cX10_redo : ByteArray := prog_1_method_28_code
def yX10_redo : MethodName := ⟨RX10, "redo", "()I"⟩
abbrev cX10_body : ByteArray := prog_1_method_29_code
def yX10_body : MethodName := ⟨RX10, "body", "(I)I"⟩
abbrev cX10_act : ByteArray := prog_1_method_30_code
def yX10_act : MethodName := ⟨RX10, "act", "(III)I"⟩
abbrev cX10_trace : ByteArray := prog_1_method_31_code
def yX10_trace : MethodName := ⟨RX10, "trace", "(I)I"⟩
abbrev cX10_keep : ByteArray := prog_1_method_32_code
def yX10_keep : MethodName := ⟨RX10, "keep", "(II)I"⟩
abbrev cX10_row : ByteArray := prog_1_method_33_code
def yX10_row : MethodName := ⟨RX10, "row", "(III)I"⟩
abbrev cX10_put : ByteArray := prog_1_method_34_code
def yX10_put : MethodName := ⟨RX10, "put", "(IIJ)I"⟩
abbrev cX10_element : ByteArray := prog_1_method_35_code
def yX10_element : MethodName := ⟨RX10, "element", "(II)J"⟩
abbrev cX10_shift : ByteArray := prog_1_method_36_code
def yX10_shift : MethodName := ⟨RX10, "shift", "(IIIII)I"⟩
abbrev cX10_taken : ByteArray := prog_1_method_37_code
def yX10_taken : MethodName := ⟨RX10, "taken", "(II)I"⟩
abbrev cX10_count : ByteArray := prog_1_method_38_code
def yX10_count : MethodName := ⟨RX10, "count", "(I)I"⟩
abbrev cX10_isShelf : ByteArray := prog_1_method_39_code
def yX10_isShelf : MethodName := ⟨RX10, "isShelf", "(I)Z"⟩
abbrev cX10_isChoice : ByteArray := prog_1_method_40_code
def yX10_isChoice : MethodName := ⟨RX10, "isChoice", "(I)Z"⟩
abbrev cX10_comesFrom : ByteArray := prog_1_method_41_code
def yX10_comesFrom : MethodName := ⟨RX10, "comesFrom", "(LWhatWasSaid$Shelf;J)Z"⟩
abbrev cX10_placeRefusal : ByteArray := prog_1_method_42_code
def yX10_placeRefusal : MethodName := ⟨RX10, "placeRefusal", "(II)I"⟩
abbrev cX10_commonDivisor : ByteArray := prog_1_method_43_code
def yX10_commonDivisor : MethodName := ⟨RX10, "commonDivisor", "(JJ)J"⟩
def RX11 : String := "WhatWasSaidModel"
def TX11 : u_T := fun k => match k with
  | 0 => ("WhatWasSaidModel", "may", "[I", true)
  | 1 => ("WhatWasSaidModel", "changeAt", "[I", true)
  | 2 => ("WhatWasSaidModel", "changeWas", "[I", true)
  | 3 => ("WhatWasSaidModel", "changeIs", "[I", true)
  | 4 => ("WhatWasSaidModel", "keptMany", "I", false)
  | 5 => ("WhatWasSaidModel", "done", "I", false)
  | 6 => ("WhatWasSaidModel", "sayings", "I", false)
  | 7 => ("WhatWasSaidModel", "tape", "[I", true)
  | 8 => ("WhatWasSaidModel", "tapeMany", "I", false)
  | 9 => ("WhatWasSaidModel", "writers", "I", false)
  | 10 => ("WhatWasSaidModel", "self1", "[I", true)
  | 11 => ("WhatWasSaidModel", "habits", "[I", true)
  | 12 => ("WhatWasSaidModel", "text", "[I", true)
  | 13 => ("WhatWasSaidModel", "textMany", "[I", true)
  | 14 => ("WhatWasSaidModel", "base", "I", false)
  | 15 => ("WhatWasSaidModel", "at", "I", false)
  | 16 => ("WhatWasSaidModel", "ends", "I", false)
  | 17 => ("WhatWasSaidModel", "fault", "I", false)
  | 18 => ("WhatWasSaidModel", "opened", "I", false)
  | 19 => ("WhatWasSaidModel", "names", "[I", true)
  | 20 => ("WhatWasSaidModel", "papers", "I", false)
  | 21 => ("WhatWasSaidModel", "writerOf", "[I", true)
  | 22 => ("WhatWasSaidModel", "entryMany", "[I", true)
  | 23 => ("WhatWasSaidModel", "first", "[I", true)
  | 24 => ("WhatWasSaidModel", "sortOf", "[I", true)
  | 25 => ("WhatWasSaidModel", "longOf", "[I", true)
  | 26 => ("WhatWasSaidModel", "isAdded", "[Z", true)
  | 27 => ("WhatWasSaidModel", "bodies", "I", false)
  | 28 => ("WhatWasSaidModel", "bodyKind", "[I", true)
  | 29 => ("WhatWasSaidModel", "trace", "[I", true)
  | 30 => ("WhatWasSaidModel", "ran", "I", false)
  | 31 => ("WhatWasSaidModel", "ownKind", "I", false)
  | 32 => ("WhatWasSaidModel", "ownNumber", "I", false)
  | 33 => ("WhatWasSaidModel", "shelf", "[I", true)
  | 34 => ("WhatWasSaidModel", "many", "[I", true)
  | 35 => ("WhatWasSaidModel", "items", "[J", true)
  | _ => ("WhatWasSaidModel", "carried", "[J", true)
def tyX11 : Nat → FieldType := fun k => match k with
  | 0 => .array .int
  | 1 => .array .int
  | 2 => .array .int
  | 3 => .array .int
  | 4 => .int
  | 5 => .int
  | 6 => .int
  | 7 => .array .int
  | 8 => .int
  | 9 => .int
  | 10 => .array .int
  | 11 => .array .int
  | 12 => .array .int
  | 13 => .array .int
  | 14 => .int
  | 15 => .int
  | 16 => .int
  | 17 => .int
  | 18 => .int
  | 19 => .array .int
  | 20 => .int
  | 21 => .array .int
  | 22 => .array .int
  | 23 => .array .int
  | 24 => .array .int
  | 25 => .array .int
  | 26 => .array .boolean
  | 27 => .int
  | 28 => .array .int
  | 29 => .array .int
  | 30 => .int
  | 31 => .int
  | 32 => .int
  | 33 => .array .int
  | 34 => .array .int
  | 35 => .array .long
  | _ => .array .long
abbrev wsX110 : List Cond := u_ws RX11 TX11 37
theorem nmX11 : ∀ a, a < 37 → ∀ b, b < 37 → a ≠ b → (TX11 a).2.1 ≠ (TX11 b).2.1 := by decide +kernel
theorem tyX11_ok : ∀ k, k < 37 → parseFieldDescriptor (TX11 k).2.2.1 = some (tyX11 k) := by decide +kernel
abbrev cX11_within : ByteArray := prog_13_method_1_code
def yX11_within : MethodName := ⟨RX11, "within", "(JJJ)Z"⟩
abbrev cX11_size : ByteArray := prog_13_method_2_code
def yX11_size : MethodName := ⟨RX11, "size", "(I)I"⟩
abbrev cX11_init : ByteArray := prog_13_method_3_code
def yX11_init : MethodName := ⟨RX11, "<init>", "()V"⟩
abbrev cX11_becomes : ByteArray := prog_13_method_4_code
def yX11_becomes : MethodName := ⟨RX11, "becomes", "(II)I"⟩
abbrev cX11_undo : ByteArray := prog_13_method_5_code
def yX11_undo : MethodName := ⟨RX11, "undo", "()I"⟩
abbrev cX11_redo : ByteArray := prog_13_method_6_code
def yX11_redo : MethodName := ⟨RX11, "redo", "()I"⟩
abbrev cX11_isSaying : ByteArray := prog_13_method_7_code
def yX11_isSaying : MethodName := ⟨RX11, "isSaying", "(I)Z"⟩
abbrev cX11_isOne : ByteArray := prog_13_method_8_code
def yX11_isOne : MethodName := ⟨RX11, "isOne", "(JJJJ)Z"⟩
abbrev cX11_adds : ByteArray := prog_13_method_9_code
def yX11_adds : MethodName := ⟨RX11, "adds", "(IIII)V"⟩
abbrev cX11_saying : ByteArray := prog_13_method_10_code
def yX11_saying : MethodName := ⟨RX11, "saying", "(II)I"⟩
abbrev cX11_sayings : ByteArray := prog_13_method_11_code
def yX11_sayings : MethodName := ⟨RX11, "sayings", "(III)I"⟩
abbrev cX11_mend : ByteArray := prog_13_method_12_code
def yX11_mend : MethodName := ⟨RX11, "mend", "(III)I"⟩
abbrev cX11_minuteOf : ByteArray := prog_13_method_13_code
def yX11_minuteOf : MethodName := ⟨RX11, "minuteOf", "(I)I"⟩
abbrev cX11_of : ByteArray := prog_13_method_14_code
def yX11_of : MethodName := ⟨RX11, "of", "(II)I"⟩
abbrev cX11_isWriter : ByteArray := prog_13_method_15_code
def yX11_isWriter : MethodName := ⟨RX11, "isWriter", "(I)Z"⟩
abbrev cX11_feed : ByteArray := prog_13_method_16_code
def yX11_feed : MethodName := ⟨RX11, "feed", "(I)I"⟩
abbrev cX11_byteAt : ByteArray := prog_13_method_17_code
def yX11_byteAt : MethodName := ⟨RX11, "byteAt", "()I"⟩
abbrev cX11_wrong : ByteArray := prog_13_method_18_code
def yX11_wrong : MethodName := ⟨RX11, "wrong", "()I"⟩
abbrev cX11_takes : ByteArray := prog_13_method_19_code
def yX11_takes : MethodName := ⟨RX11, "takes", "(I)Z"⟩
abbrev cX11_either : ByteArray := prog_13_method_20_code
def yX11_either : MethodName := ⟨RX11, "either", "()I"⟩
abbrev cX11_both : ByteArray := prog_13_method_21_code
def yX11_both : MethodName := ⟨RX11, "both", "()I"⟩
abbrev cX11_compared : ByteArray := prog_13_method_22_code
def yX11_compared : MethodName := ⟨RX11, "compared", "()I"⟩
abbrev cX11_sums : ByteArray := prog_13_method_23_code
def yX11_sums : MethodName := ⟨RX11, "sums", "()I"⟩
abbrev cX11_product : ByteArray := prog_13_method_24_code
def yX11_product : MethodName := ⟨RX11, "product", "()I"⟩
abbrev cX11_nameOf : ByteArray := prog_13_method_25_code
def yX11_nameOf : MethodName := ⟨RX11, "nameOf", "(I)I"⟩
abbrev cX11_one : ByteArray := prog_13_method_26_code
def yX11_one : MethodName := ⟨RX11, "one", "()I"⟩
abbrev cX11_workOut : ByteArray := prog_13_method_27_code
def yX11_workOut : MethodName := ⟨RX11, "workOut", "(II)I"⟩
abbrev cX11_writer : ByteArray := prog_13_method_28_code
def yX11_writer : MethodName := ⟨RX11, "writer", "(II)I"⟩
abbrev cX11_heedOf : ByteArray := prog_13_method_29_code
def yX11_heedOf : MethodName := ⟨RX11, "heedOf", "(II)I"⟩
abbrev cX11_heed : ByteArray := prog_13_method_30_code
def yX11_heed : MethodName := ⟨RX11, "heed", "(II)I"⟩
abbrev cX11_isPaper : ByteArray := prog_13_method_31_code
def yX11_isPaper : MethodName := ⟨RX11, "isPaper", "(I)Z"⟩
abbrev cX11_puts : ByteArray := prog_13_method_32_code
def yX11_puts : MethodName := ⟨RX11, "puts", "(IIIIIZ)V"⟩
abbrev cX11_moves : ByteArray := prog_13_method_33_code
def yX11_moves : MethodName := ⟨RX11, "moves", "(III)V"⟩
abbrev cX11_fallsAway : ByteArray := prog_13_method_34_code
def yX11_fallsAway : MethodName := ⟨RX11, "fallsAway", "(II)V"⟩
abbrev cX11_joinsAll : ByteArray := prog_13_method_35_code
def yX11_joinsAll : MethodName := ⟨RX11, "joinsAll", "(I)V"⟩
abbrev cX11_softensAll : ByteArray := prog_13_method_36_code
def yX11_softensAll : MethodName := ⟨RX11, "softensAll", "(I)V"⟩
abbrev cX11_putsLast : ByteArray := prog_13_method_37_code
def yX11_putsLast : MethodName := ⟨RX11, "putsLast", "(I)V"⟩
abbrev cX11_take : ByteArray := prog_13_method_38_code
def yX11_take : MethodName := ⟨RX11, "take", "(II)I"⟩
abbrev cX11_told : ByteArray := prog_13_method_39_code
def yX11_told : MethodName := ⟨RX11, "told", "(II)I"⟩
abbrev cX11_placeOf : ByteArray := prog_13_method_40_code
def yX11_placeOf : MethodName := ⟨RX11, "placeOf", "(II)I"⟩
abbrev cX11_has : ByteArray := prog_13_method_41_code
def yX11_has : MethodName := ⟨RX11, "has", "(II)Z"⟩
abbrev cX11_add : ByteArray := prog_13_method_42_code
def yX11_add : MethodName := ⟨RX11, "add", "(III)I"⟩
abbrev cX11_strike : ByteArray := prog_13_method_43_code
def yX11_strike : MethodName := ⟨RX11, "strike", "(II)I"⟩
abbrev cX11_read : ByteArray := prog_13_method_44_code
def yX11_read : MethodName := ⟨RX11, "read", "(II)I"⟩
abbrev cX11_cut : ByteArray := prog_13_method_45_code
def yX11_cut : MethodName := ⟨RX11, "cut", "(II)I"⟩
abbrev cX11_bitsOf : ByteArray := prog_13_method_46_code
def yX11_bitsOf : MethodName := ⟨RX11, "bitsOf", "(I)I"⟩
abbrev cX11_allLong : ByteArray := prog_13_method_47_code
def yX11_allLong : MethodName := ⟨RX11, "allLong", "(I)I"⟩
abbrev cX11_page : ByteArray := prog_13_method_48_code
def yX11_page : MethodName := ⟨RX11, "page", "(II)I"⟩
abbrev cX11_led : ByteArray := prog_13_method_49_code
def yX11_led : MethodName := ⟨RX11, "led", "(II)I"⟩
abbrev cX11_hadBy : ByteArray := prog_13_method_50_code
def yX11_hadBy : MethodName := ⟨RX11, "hadBy", "(I)I"⟩
abbrev cX11_sure : ByteArray := prog_13_method_51_code
def yX11_sure : MethodName := ⟨RX11, "sure", "(II)I"⟩
abbrev cX11_only : ByteArray := prog_13_method_52_code
def yX11_only : MethodName := ⟨RX11, "only", "()I"⟩
abbrev cX11_fight : ByteArray := prog_13_method_53_code
def yX11_fight : MethodName := ⟨RX11, "fight", "(II)I"⟩
abbrev cX11_beats : ByteArray := prog_13_method_54_code
def yX11_beats : MethodName := ⟨RX11, "beats", "(II)Z"⟩
abbrev cX11_nextOf : ByteArray := prog_13_method_55_code
def yX11_nextOf : MethodName := ⟨RX11, "nextOf", "(I)I"⟩
abbrev cX11_order : ByteArray := prog_13_method_56_code
def yX11_order : MethodName := ⟨RX11, "order", "(I)I"⟩
abbrev cX11_common : ByteArray := prog_13_method_57_code
def yX11_common : MethodName := ⟨RX11, "common", "(JJ)J"⟩
abbrev cX11_said : ByteArray := prog_13_method_58_code
def yX11_said : MethodName := ⟨RX11, "said", "(III)J"⟩
abbrev cX11_likeOf : ByteArray := prog_13_method_59_code
def yX11_likeOf : MethodName := ⟨RX11, "likeOf", "(II)J"⟩
abbrev cX11_whose : ByteArray := prog_13_method_60_code
def yX11_whose : MethodName := ⟨RX11, "whose", "(I)I"⟩
abbrev cX11_learnt : ByteArray := prog_13_method_61_code
def yX11_learnt : MethodName := ⟨RX11, "learnt", "(II)I"⟩
abbrev cX11_asleep : ByteArray := prog_13_method_62_code
def yX11_asleep : MethodName := ⟨RX11, "asleep", "(II)I"⟩
abbrev cX11_ask : ByteArray := prog_13_method_63_code
def yX11_ask : MethodName := ⟨RX11, "ask", "(I)I"⟩
abbrev cX11_years : ByteArray := prog_13_method_64_code
def yX11_years : MethodName := ⟨RX11, "years", "(II)I"⟩
abbrev cX11_isBody : ByteArray := prog_13_method_65_code
def yX11_isBody : MethodName := ⟨RX11, "isBody", "(I)Z"⟩
abbrev cX11_kindOf : ByteArray := prog_13_method_66_code
def yX11_kindOf : MethodName := ⟨RX11, "kindOf", "(I)I"⟩
abbrev cX11_body : ByteArray := prog_13_method_67_code
def yX11_body : MethodName := ⟨RX11, "body", "(I)I"⟩
abbrev cX11_above : ByteArray := prog_13_method_68_code
def yX11_above : MethodName := ⟨RX11, "above", "(I)I"⟩
abbrev cX11_begins : ByteArray := prog_13_method_69_code
def yX11_begins : MethodName := ⟨RX11, "begins", "(I)V"⟩
abbrev cX11_saysAs : ByteArray := prog_13_method_70_code
def yX11_saysAs : MethodName := ⟨RX11, "saysAs", "(II)I"⟩
abbrev cX11_takesAs : ByteArray := prog_13_method_71_code
def yX11_takesAs : MethodName := ⟨RX11, "takesAs", "(II)I"⟩
abbrev cX11_mendsAs : ByteArray := prog_13_method_72_code
def yX11_mendsAs : MethodName := ⟨RX11, "mendsAs", "(II)I"⟩
abbrev cX11_joinsAs : ByteArray := prog_13_method_73_code
def yX11_joinsAs : MethodName := ⟨RX11, "joinsAs", "(II)I"⟩
abbrev cX11_act : ByteArray := prog_13_method_74_code
def yX11_act : MethodName := ⟨RX11, "act", "(III)I"⟩
abbrev cX11_trace : ByteArray := prog_13_method_75_code
def yX11_trace : MethodName := ⟨RX11, "trace", "(I)I"⟩
abbrev cX11_isShelf : ByteArray := prog_13_method_76_code
def yX11_isShelf : MethodName := ⟨RX11, "isShelf", "(I)Z"⟩
abbrev cX11_keep : ByteArray := prog_13_method_77_code
def yX11_keep : MethodName := ⟨RX11, "keep", "(II)I"⟩
abbrev cX11_row : ByteArray := prog_13_method_78_code
def yX11_row : MethodName := ⟨RX11, "row", "(III)I"⟩
abbrev cX11_refusal : ByteArray := prog_13_method_79_code
def yX11_refusal : MethodName := ⟨RX11, "refusal", "(II)I"⟩
abbrev cX11_asSort : ByteArray := prog_13_method_80_code
def yX11_asSort : MethodName := ⟨RX11, "asSort", "(IJ)J"⟩
abbrev cX11_put : ByteArray := prog_13_method_81_code
def yX11_put : MethodName := ⟨RX11, "put", "(IIJ)I"⟩
abbrev cX11_element : ByteArray := prog_13_method_82_code
def yX11_element : MethodName := ⟨RX11, "element", "(II)J"⟩
abbrev cX11_shift : ByteArray := prog_13_method_83_code
def yX11_shift : MethodName := ⟨RX11, "shift", "(IIIII)I"⟩
abbrev cX11_taken : ByteArray := prog_13_method_84_code
def yX11_taken : MethodName := ⟨RX11, "taken", "(II)I"⟩
abbrev cX11_count : ByteArray := prog_13_method_85_code
def yX11_count : MethodName := ⟨RX11, "count", "(I)I"⟩
def RJ6 : String := "java/lang/Integer"
abbrev cJ6_bitCount_0f7a4 : ByteArray := prog_14_method_49_code
def yJ6_bitCount_0f7a4 : MethodName := ⟨RJ6, "bitCount", "(I)I"⟩
def RJ9 : String := "java/lang/Math"
abbrev cJ9_abs_0f7a4 : ByteArray := prog_15_method_59_code
def yJ9_abs_0f7a4 : MethodName := ⟨RJ9, "abs", "(I)I"⟩
abbrev cJ9_max_7cf53 : ByteArray := prog_15_method_65_code
def yJ9_max_7cf53 : MethodName := ⟨RJ9, "max", "(II)I"⟩
abbrev cJ9_min_7cf53 : ByteArray := prog_15_method_69_code
def yJ9_min_7cf53 : MethodName := ⟨RJ9, "min", "(II)I"⟩
def RJ10 : String := "java/lang/System"
def RL : String := "WhatWasSaidLaw"
abbrev cL_law : ByteArray := code
def yL_law : MethodName := ⟨RL, "law", "([I)Z"⟩
abbrev vwCl : List vw_C := [(RX0, TX0, 5), (RX1, TX1, 4), (RX2, TX2, 3), (RX3, TX3, 4), (RX4, TX4, 4), (RX5, TX5, 2), (RX6, TX6, 3), (RX7, TX7, 4), (RX8, TX8, 4), (RX9, TX9, 6), (RX10, TX10, 7), (RX11, TX11, 37)]
/-! ===== the cells that the law makes, in their order: kind and size ===== -/
def zSHL : List (Nat × Nat) := [(27, 0), (20, 4), (20, 4), (20, 8), (20, 32), (10, 7), (5, 2), (26, 4), (20, 16), (20, 16), (20, 16), (20, 16), (2, 3), (26, 4), (20, 40), (20, 40), (20, 40), (20, 40), (9, 6), (20, 120), (20, 121), (3, 4), (25, 4), (7, 4), (20, 8), (20, 64), (4, 4), (20, 121), (4, 4), (20, 121), (4, 4), (20, 121), (4, 4), (20, 121), (1, 4), (24, 10), (26, 16), (20, 16), (20, 16), (20, 16), (20, 16), (20, 16), (20, 16), (20, 16), (20, 16), (20, 16), (20, 16), (20, 16), (20, 16), (20, 16), (20, 16), (20, 16), (20, 16), (6, 3), (26, 4), (20, 16), (20, 16), (20, 16), (20, 16), (6, 3), (26, 4), (20, 16), (20, 16), (20, 16), (20, 16), (6, 3), (26, 4), (20, 16), (20, 16), (20, 16), (20, 16), (6, 3), (26, 4), (20, 16), (20, 16), (20, 16), (20, 16), (6, 3), (26, 4), (20, 16), (20, 16), (20, 16), (20, 16), (6, 3), (26, 4), (20, 16), (20, 16), (20, 16), (20, 16), (6, 3), (26, 4), (20, 16), (20, 16), (20, 16), (20, 16), (6, 3), (26, 4), (20, 16), (20, 16), (20, 16), (20, 16), (6, 3), (26, 4), (20, 16), (20, 16), (20, 16), (20, 16), (6, 3), (26, 4), (20, 16), (20, 16), (20, 16), (20, 16), (0, 5), (20, 50), (20, 24), (23, 6), (8, 4), (21, 60), (8, 4), (21, 60), (8, 4), (21, 60), (8, 4), (21, 60), (8, 4), (21, 60), (8, 4), (21, 60), (11, 37), (20, 64), (20, 40), (20, 40), (20, 40), (20, 120), (20, 4), (20, 4), (20, 480), (20, 4), (20, 8), (20, 10), (20, 10), (20, 160), (20, 160), (20, 160), (22, 160), (20, 50), (20, 24), (20, 6), (20, 6), (21, 360), (21, 60)]
def zSVL : List (List Int) := [[], [0, 0, 0, 1], [10, 3, 7, 30], [-1, 0, 1, 1, 0, 3, 0, 2], [1, 10, 11, 2, 20, 0, 0, 0, 0, 30, 0, 0, 0, 41, 40, 0, 0, 0, 0, 50, 0, 0, 60, 61, 70, 0, 0, 0, 0, 80, 0, 81]]
def zSTL : List (String × String) := [("", ""), ("WhatWasSaid$Meeting", "LEAST"), ("WhatWasSaid$Meeting", "GREATEST"), ("WhatWasSaid$Acts", "ABOVE"), ("WhatWasSaid$Acts", "BODIES")]
