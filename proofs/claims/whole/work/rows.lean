section
-- ===== PART A: goes FIRST, ahead of the names: the tables' words, and 'selects' of the private methods out of them =====
/-- a private method of a class that the tables say can be made, by its rows of tables_1 -/
def lw_okq (q : MethodName × Nat) : Prop := (q.1.cls ≠ "java/lang/invoke/MethodHandle" ∧ q.1.cls ≠ "java/lang/invoke/VarHandle") ∧ Cond.instantiable q.1.cls q.2 ∈ tables_1 ∧ Cond.privateMethod q.1 ∈ tables_1 ∧ Cond.instanceMethod q.1 ∈ tables_1
theorem lw_p0 : lw_okq (⟨"GrainSilo", "isDamp", "(I)Z"⟩, 15) := ⟨⟨by decide +kernel, by decide +kernel⟩, List.mem_of_getElem? (i := 13) (by decide +kernel), List.mem_of_getElem? (i := 98) (by decide +kernel), List.mem_of_getElem? (i := 99) (by decide +kernel)⟩
theorem lw_p1 : lw_okq (⟨"GrainSilo", "weighSamples", "()V"⟩, 15) := ⟨⟨by decide +kernel, by decide +kernel⟩, List.mem_of_getElem? (i := 13) (by decide +kernel), List.mem_of_getElem? (i := 106) (by decide +kernel), List.mem_of_getElem? (i := 107) (by decide +kernel)⟩
theorem lw_p2 : lw_okq (⟨"GrainSilo", "weighNothing", "()V"⟩, 15) := ⟨⟨by decide +kernel, by decide +kernel⟩, List.mem_of_getElem? (i := 13) (by decide +kernel), List.mem_of_getElem? (i := 110) (by decide +kernel), List.mem_of_getElem? (i := 111) (by decide +kernel)⟩
theorem lw_p3 : lw_okq (⟨"GrainSilo", "heed", "(III)V"⟩, 15) := ⟨⟨by decide +kernel, by decide +kernel⟩, List.mem_of_getElem? (i := 13) (by decide +kernel), List.mem_of_getElem? (i := 114) (by decide +kernel), List.mem_of_getElem? (i := 115) (by decide +kernel)⟩
theorem lw_p4 : lw_okq (⟨"GrainSilo", "countSurelyDry", "()I"⟩, 15) := ⟨⟨by decide +kernel, by decide +kernel⟩, List.mem_of_getElem? (i := 13) (by decide +kernel), List.mem_of_getElem? (i := 121) (by decide +kernel), List.mem_of_getElem? (i := 122) (by decide +kernel)⟩
theorem lw_p5 : lw_okq (⟨"GrainSilo", "greatest", "(II)I"⟩, 15) := ⟨⟨by decide +kernel, by decide +kernel⟩, List.mem_of_getElem? (i := 13) (by decide +kernel), List.mem_of_getElem? (i := 125) (by decide +kernel), List.mem_of_getElem? (i := 126) (by decide +kernel)⟩
theorem lw_p6 : lw_okq (⟨"GrainSilo", "countSurelyDamp", "()I"⟩, 15) := ⟨⟨by decide +kernel, by decide +kernel⟩, List.mem_of_getElem? (i := 13) (by decide +kernel), List.mem_of_getElem? (i := 133) (by decide +kernel), List.mem_of_getElem? (i := 134) (by decide +kernel)⟩
theorem lw_p7 : lw_okq (⟨"GrainSilo", "least", "(II)I"⟩, 15) := ⟨⟨by decide +kernel, by decide +kernel⟩, List.mem_of_getElem? (i := 13) (by decide +kernel), List.mem_of_getElem? (i := 137) (by decide +kernel), List.mem_of_getElem? (i := 138) (by decide +kernel)⟩
theorem lw_p8 : lw_okq (⟨"GrainSilo", "doubtNow", "()I"⟩, 15) := ⟨⟨by decide +kernel, by decide +kernel⟩, List.mem_of_getElem? (i := 13) (by decide +kernel), List.mem_of_getElem? (i := 145) (by decide +kernel), List.mem_of_getElem? (i := 146) (by decide +kernel)⟩
theorem lw_p9 : lw_okq (⟨"GrainSilo", "copyDampnessAhead", "()V"⟩, 15) := ⟨⟨by decide +kernel, by decide +kernel⟩, List.mem_of_getElem? (i := 13) (by decide +kernel), List.mem_of_getElem? (i := 153) (by decide +kernel), List.mem_of_getElem? (i := 154) (by decide +kernel)⟩
theorem lw_p10 : lw_okq (⟨"GrainSilo", "letDayGoBy", "([I)I"⟩, 15) := ⟨⟨by decide +kernel, by decide +kernel⟩, List.mem_of_getElem? (i := 13) (by decide +kernel), List.mem_of_getElem? (i := 157) (by decide +kernel), List.mem_of_getElem? (i := 158) (by decide +kernel)⟩
theorem lw_p11 : lw_okq (⟨"GrainSilo", "turnOf", "([II)I"⟩, 15) := ⟨⟨by decide +kernel, by decide +kernel⟩, List.mem_of_getElem? (i := 13) (by decide +kernel), List.mem_of_getElem? (i := 161) (by decide +kernel), List.mem_of_getElem? (i := 162) (by decide +kernel)⟩
theorem lw_p12 : lw_okq (⟨"GrainSilo", "pullOf", "([III)I"⟩, 15) := ⟨⟨by decide +kernel, by decide +kernel⟩, List.mem_of_getElem? (i := 13) (by decide +kernel), List.mem_of_getElem? (i := 165) (by decide +kernel), List.mem_of_getElem? (i := 166) (by decide +kernel)⟩
theorem lw_p13 : lw_okq (⟨"GrainSilo", "sumNow", "(II)I"⟩, 15) := ⟨⟨by decide +kernel, by decide +kernel⟩, List.mem_of_getElem? (i := 13) (by decide +kernel), List.mem_of_getElem? (i := 173) (by decide +kernel), List.mem_of_getElem? (i := 174) (by decide +kernel)⟩
theorem lw_p14 : lw_okq (⟨"GrainSilo", "digestOfLayers", "(J)J"⟩, 15) := ⟨⟨by decide +kernel, by decide +kernel⟩, List.mem_of_getElem? (i := 13) (by decide +kernel), List.mem_of_getElem? (i := 186) (by decide +kernel), List.mem_of_getElem? (i := 187) (by decide +kernel)⟩
theorem lw_p15 : lw_okq (⟨"GrainSilo", "digestOfSamples", "(J)J"⟩, 15) := ⟨⟨by decide +kernel, by decide +kernel⟩, List.mem_of_getElem? (i := 13) (by decide +kernel), List.mem_of_getElem? (i := 190) (by decide +kernel), List.mem_of_getElem? (i := 191) (by decide +kernel)⟩
def lw_privs_1 : List (MethodName × Nat) := [(⟨"GrainSilo", "isDamp", "(I)Z"⟩, 15), (⟨"GrainSilo", "weighSamples", "()V"⟩, 15), (⟨"GrainSilo", "weighNothing", "()V"⟩, 15), (⟨"GrainSilo", "heed", "(III)V"⟩, 15), (⟨"GrainSilo", "countSurelyDry", "()I"⟩, 15), (⟨"GrainSilo", "greatest", "(II)I"⟩, 15), (⟨"GrainSilo", "countSurelyDamp", "()I"⟩, 15), (⟨"GrainSilo", "least", "(II)I"⟩, 15), (⟨"GrainSilo", "doubtNow", "()I"⟩, 15), (⟨"GrainSilo", "copyDampnessAhead", "()V"⟩, 15), (⟨"GrainSilo", "letDayGoBy", "([I)I"⟩, 15), (⟨"GrainSilo", "turnOf", "([II)I"⟩, 15), (⟨"GrainSilo", "pullOf", "([III)I"⟩, 15), (⟨"GrainSilo", "sumNow", "(II)I"⟩, 15), (⟨"GrainSilo", "digestOfLayers", "(J)J"⟩, 15), (⟨"GrainSilo", "digestOfSamples", "(J)J"⟩, 15)]
theorem lw_r1 : ∀ q ∈ lw_privs_1, lw_okq q := List.forall_mem_cons.mpr ⟨lw_p0, List.forall_mem_cons.mpr ⟨lw_p1, List.forall_mem_cons.mpr ⟨lw_p2, List.forall_mem_cons.mpr ⟨lw_p3, List.forall_mem_cons.mpr ⟨lw_p4, List.forall_mem_cons.mpr ⟨lw_p5, List.forall_mem_cons.mpr ⟨lw_p6, List.forall_mem_cons.mpr ⟨lw_p7, List.forall_mem_cons.mpr ⟨lw_p8, List.forall_mem_cons.mpr ⟨lw_p9, List.forall_mem_cons.mpr ⟨lw_p10, List.forall_mem_cons.mpr ⟨lw_p11, List.forall_mem_cons.mpr ⟨lw_p12, List.forall_mem_cons.mpr ⟨lw_p13, List.forall_mem_cons.mpr ⟨lw_p14, List.forall_mem_cons.mpr ⟨lw_p15, fun _ h => absurd h List.not_mem_nil⟩⟩⟩⟩⟩⟩⟩⟩⟩⟩⟩⟩⟩⟩⟩⟩
theorem lw_p16 : lw_okq (⟨"java/lang/Throwable", "fillInStackTrace", "(I)Ljava/lang/Throwable;"⟩, 6) := ⟨⟨by decide +kernel, by decide +kernel⟩, List.mem_of_getElem? (i := 247) (by decide +kernel), List.mem_of_getElem? (i := 245) (by decide +kernel), List.mem_of_getElem? (i := 246) (by decide +kernel)⟩
theorem lw_p17 : lw_okq (⟨"GrainSilo", "putOnTop", "(II)I"⟩, 15) := ⟨⟨by decide +kernel, by decide +kernel⟩, List.mem_of_getElem? (i := 13) (by decide +kernel), List.mem_of_getElem? (i := 293) (by decide +kernel), List.mem_of_getElem? (i := 294) (by decide +kernel)⟩
theorem lw_p18 : lw_okq (⟨"GrainSilo", "countOut", "(I)V"⟩, 15) := ⟨⟨by decide +kernel, by decide +kernel⟩, List.mem_of_getElem? (i := 13) (by decide +kernel), List.mem_of_getElem? (i := 305) (by decide +kernel), List.mem_of_getElem? (i := 306) (by decide +kernel)⟩
theorem lw_p19 : lw_okq (⟨"GrainSilo", "lowerLayers", "()V"⟩, 15) := ⟨⟨by decide +kernel, by decide +kernel⟩, List.mem_of_getElem? (i := 13) (by decide +kernel), List.mem_of_getElem? (i := 309) (by decide +kernel), List.mem_of_getElem? (i := 310) (by decide +kernel)⟩
theorem lw_p20 : lw_okq (⟨"GrainSilo", "cutLowestOffSamples", "(I)V"⟩, 15) := ⟨⟨by decide +kernel, by decide +kernel⟩, List.mem_of_getElem? (i := 13) (by decide +kernel), List.mem_of_getElem? (i := 313) (by decide +kernel), List.mem_of_getElem? (i := 314) (by decide +kernel)⟩
theorem lw_p21 : lw_okq (⟨"GrainSilo", "dropSamplesOfLowest", "()V"⟩, 15) := ⟨⟨by decide +kernel, by decide +kernel⟩, List.mem_of_getElem? (i := 13) (by decide +kernel), List.mem_of_getElem? (i := 317) (by decide +kernel), List.mem_of_getElem? (i := 318) (by decide +kernel)⟩
theorem lw_p22 : lw_okq (⟨"GrainSilo", "moveSample", "(II)V"⟩, 15) := ⟨⟨by decide +kernel, by decide +kernel⟩, List.mem_of_getElem? (i := 13) (by decide +kernel), List.mem_of_getElem? (i := 321) (by decide +kernel), List.mem_of_getElem? (i := 322) (by decide +kernel)⟩
theorem lw_p23 : lw_okq (⟨"GrainSilo", "lowerSamples", "()V"⟩, 15) := ⟨⟨by decide +kernel, by decide +kernel⟩, List.mem_of_getElem? (i := 13) (by decide +kernel), List.mem_of_getElem? (i := 325) (by decide +kernel), List.mem_of_getElem? (i := 326) (by decide +kernel)⟩
theorem lw_p24 : lw_okq (⟨"GrainSilo", "letDaysGoBy", "([II)I"⟩, 15) := ⟨⟨by decide +kernel, by decide +kernel⟩, List.mem_of_getElem? (i := 13) (by decide +kernel), List.mem_of_getElem? (i := 356) (by decide +kernel), List.mem_of_getElem? (i := 357) (by decide +kernel)⟩
theorem lw_p25 : lw_okq (⟨"GrainSilo", "addDoubt", "(I)V"⟩, 15) := ⟨⟨by decide +kernel, by decide +kernel⟩, List.mem_of_getElem? (i := 13) (by decide +kernel), List.mem_of_getElem? (i := 360) (by decide +kernel), List.mem_of_getElem? (i := 361) (by decide +kernel)⟩
theorem lw_p26 : lw_okq (⟨"GrainSilo", "checkLayers", "(II)V"⟩, 15) := ⟨⟨by decide +kernel, by decide +kernel⟩, List.mem_of_getElem? (i := 13) (by decide +kernel), List.mem_of_getElem? (i := 372) (by decide +kernel), List.mem_of_getElem? (i := 373) (by decide +kernel)⟩
theorem lw_p27 : lw_okq (⟨"GrainSilo", "checkSample", "(I)V"⟩, 15) := ⟨⟨by decide +kernel, by decide +kernel⟩, List.mem_of_getElem? (i := 13) (by decide +kernel), List.mem_of_getElem? (i := 400) (by decide +kernel), List.mem_of_getElem? (i := 401) (by decide +kernel)⟩
theorem lw_p28 : lw_okq (⟨"GrainSilo", "checkLayer", "(I)V"⟩, 15) := ⟨⟨by decide +kernel, by decide +kernel⟩, List.mem_of_getElem? (i := 13) (by decide +kernel), List.mem_of_getElem? (i := 440) (by decide +kernel), List.mem_of_getElem? (i := 441) (by decide +kernel)⟩
theorem lw_p29 : lw_okq (⟨"GrainSilo", "checkNotEmpty", "()V"⟩, 15) := ⟨⟨by decide +kernel, by decide +kernel⟩, List.mem_of_getElem? (i := 13) (by decide +kernel), List.mem_of_getElem? (i := 488) (by decide +kernel), List.mem_of_getElem? (i := 489) (by decide +kernel)⟩
theorem lw_p30 : lw_okq (⟨"GrainSilo", "doubtIfDrawn", "(II)I"⟩, 15) := ⟨⟨by decide +kernel, by decide +kernel⟩, List.mem_of_getElem? (i := 13) (by decide +kernel), List.mem_of_getElem? (i := 513) (by decide +kernel), List.mem_of_getElem? (i := 514) (by decide +kernel)⟩
theorem lw_p31 : lw_okq (⟨"GrainSilo", "mostIfTold", "(IIIII)I"⟩, 15) := ⟨⟨by decide +kernel, by decide +kernel⟩, List.mem_of_getElem? (i := 13) (by decide +kernel), List.mem_of_getElem? (i := 517) (by decide +kernel), List.mem_of_getElem? (i := 518) (by decide +kernel)⟩
def lw_privs_2 : List (MethodName × Nat) := [(⟨"java/lang/Throwable", "fillInStackTrace", "(I)Ljava/lang/Throwable;"⟩, 6), (⟨"GrainSilo", "putOnTop", "(II)I"⟩, 15), (⟨"GrainSilo", "countOut", "(I)V"⟩, 15), (⟨"GrainSilo", "lowerLayers", "()V"⟩, 15), (⟨"GrainSilo", "cutLowestOffSamples", "(I)V"⟩, 15), (⟨"GrainSilo", "dropSamplesOfLowest", "()V"⟩, 15), (⟨"GrainSilo", "moveSample", "(II)V"⟩, 15), (⟨"GrainSilo", "lowerSamples", "()V"⟩, 15), (⟨"GrainSilo", "letDaysGoBy", "([II)I"⟩, 15), (⟨"GrainSilo", "addDoubt", "(I)V"⟩, 15), (⟨"GrainSilo", "checkLayers", "(II)V"⟩, 15), (⟨"GrainSilo", "checkSample", "(I)V"⟩, 15), (⟨"GrainSilo", "checkLayer", "(I)V"⟩, 15), (⟨"GrainSilo", "checkNotEmpty", "()V"⟩, 15), (⟨"GrainSilo", "doubtIfDrawn", "(II)I"⟩, 15), (⟨"GrainSilo", "mostIfTold", "(IIIII)I"⟩, 15)]
theorem lw_r2 : ∀ q ∈ lw_privs_2, lw_okq q := List.forall_mem_cons.mpr ⟨lw_p16, List.forall_mem_cons.mpr ⟨lw_p17, List.forall_mem_cons.mpr ⟨lw_p18, List.forall_mem_cons.mpr ⟨lw_p19, List.forall_mem_cons.mpr ⟨lw_p20, List.forall_mem_cons.mpr ⟨lw_p21, List.forall_mem_cons.mpr ⟨lw_p22, List.forall_mem_cons.mpr ⟨lw_p23, List.forall_mem_cons.mpr ⟨lw_p24, List.forall_mem_cons.mpr ⟨lw_p25, List.forall_mem_cons.mpr ⟨lw_p26, List.forall_mem_cons.mpr ⟨lw_p27, List.forall_mem_cons.mpr ⟨lw_p28, List.forall_mem_cons.mpr ⟨lw_p29, List.forall_mem_cons.mpr ⟨lw_p30, List.forall_mem_cons.mpr ⟨lw_p31, fun _ h => absurd h List.not_mem_nil⟩⟩⟩⟩⟩⟩⟩⟩⟩⟩⟩⟩⟩⟩⟩⟩
theorem lw_p32 : lw_okq (⟨"GrainSiloModel", "no", "(I)I"⟩, 16) := ⟨⟨by decide +kernel, by decide +kernel⟩, List.mem_of_getElem? (i := 535) (by decide +kernel), List.mem_of_getElem? (i := 601) (by decide +kernel), List.mem_of_getElem? (i := 602) (by decide +kernel)⟩
theorem lw_p33 : lw_okq (⟨"GrainSiloModel", "out", "()I"⟩, 16) := ⟨⟨by decide +kernel, by decide +kernel⟩, List.mem_of_getElem? (i := 535) (by decide +kernel), List.mem_of_getElem? (i := 609) (by decide +kernel), List.mem_of_getElem? (i := 610) (by decide +kernel)⟩
theorem lw_p34 : lw_okq (⟨"GrainSiloModel", "drop", "(I)V"⟩, 16) := ⟨⟨by decide +kernel, by decide +kernel⟩, List.mem_of_getElem? (i := 535) (by decide +kernel), List.mem_of_getElem? (i := 613) (by decide +kernel), List.mem_of_getElem? (i := 614) (by decide +kernel)⟩
theorem lw_p35 : lw_okq (⟨"GrainSiloModel", "sink", "()V"⟩, 16) := ⟨⟨by decide +kernel, by decide +kernel⟩, List.mem_of_getElem? (i := 535) (by decide +kernel), List.mem_of_getElem? (i := 617) (by decide +kernel), List.mem_of_getElem? (i := 618) (by decide +kernel)⟩
theorem lw_p36 : lw_okq (⟨"GrainSiloModel", "evenOut", "()I"⟩, 16) := ⟨⟨by decide +kernel, by decide +kernel⟩, List.mem_of_getElem? (i := 535) (by decide +kernel), List.mem_of_getElem? (i := 633) (by decide +kernel), List.mem_of_getElem? (i := 634) (by decide +kernel)⟩
theorem lw_p37 : lw_okq (⟨"GrainSiloModel", "towards", "(II)I"⟩, 16) := ⟨⟨by decide +kernel, by decide +kernel⟩, List.mem_of_getElem? (i := 535) (by decide +kernel), List.mem_of_getElem? (i := 637) (by decide +kernel), List.mem_of_getElem? (i := 638) (by decide +kernel)⟩
theorem lw_p38 : lw_okq (⟨"GrainSiloModel", "isLayer", "(I)Z"⟩, 16) := ⟨⟨by decide +kernel, by decide +kernel⟩, List.mem_of_getElem? (i := 535) (by decide +kernel), List.mem_of_getElem? (i := 641) (by decide +kernel), List.mem_of_getElem? (i := 642) (by decide +kernel)⟩
theorem lw_p39 : lw_okq (⟨"GrainSiloModel", "areLayers", "(II)Z"⟩, 16) := ⟨⟨by decide +kernel, by decide +kernel⟩, List.mem_of_getElem? (i := 535) (by decide +kernel), List.mem_of_getElem? (i := 652) (by decide +kernel), List.mem_of_getElem? (i := 653) (by decide +kernel)⟩
theorem lw_p40 : lw_okq (⟨"GrainSiloModel", "added", "(II)I"⟩, 16) := ⟨⟨by decide +kernel, by decide +kernel⟩, List.mem_of_getElem? (i := 535) (by decide +kernel), List.mem_of_getElem? (i := 656) (by decide +kernel), List.mem_of_getElem? (i := 657) (by decide +kernel)⟩
theorem lw_p41 : lw_okq (⟨"GrainSiloModel", "isSample", "(I)Z"⟩, 16) := ⟨⟨by decide +kernel, by decide +kernel⟩, List.mem_of_getElem? (i := 535) (by decide +kernel), List.mem_of_getElem? (i := 664) (by decide +kernel), List.mem_of_getElem? (i := 665) (by decide +kernel)⟩
theorem lw_p42 : lw_okq (⟨"GrainSiloModel", "ok", "(I)I"⟩, 16) := ⟨⟨by decide +kernel, by decide +kernel⟩, List.mem_of_getElem? (i := 535) (by decide +kernel), List.mem_of_getElem? (i := 672) (by decide +kernel), List.mem_of_getElem? (i := 673) (by decide +kernel)⟩
theorem lw_p43 : lw_okq (⟨"GrainSiloModel", "ofSample", "(I[I)I"⟩, 16) := ⟨⟨by decide +kernel, by decide +kernel⟩, List.mem_of_getElem? (i := 535) (by decide +kernel), List.mem_of_getElem? (i := 680) (by decide +kernel), List.mem_of_getElem? (i := 681) (by decide +kernel)⟩
theorem lw_p44 : lw_okq (⟨"GrainSiloModel", "reckon", "()V"⟩, 16) := ⟨⟨by decide +kernel, by decide +kernel⟩, List.mem_of_getElem? (i := 535) (by decide +kernel), List.mem_of_getElem? (i := 740) (by decide +kernel), List.mem_of_getElem? (i := 741) (by decide +kernel)⟩
theorem lw_p45 : lw_okq (⟨"GrainSiloModel", "begin", "()V"⟩, 16) := ⟨⟨by decide +kernel, by decide +kernel⟩, List.mem_of_getElem? (i := 535) (by decide +kernel), List.mem_of_getElem? (i := 744) (by decide +kernel), List.mem_of_getElem? (i := 745) (by decide +kernel)⟩
theorem lw_p46 : lw_okq (⟨"GrainSiloModel", "bound", "(III)V"⟩, 16) := ⟨⟨by decide +kernel, by decide +kernel⟩, List.mem_of_getElem? (i := 535) (by decide +kernel), List.mem_of_getElem? (i := 749) (by decide +kernel), List.mem_of_getElem? (i := 750) (by decide +kernel)⟩
theorem lw_p47 : lw_okq (⟨"GrainSiloModel", "tell", "(IIII)V"⟩, 16) := ⟨⟨by decide +kernel, by decide +kernel⟩, List.mem_of_getElem? (i := 535) (by decide +kernel), List.mem_of_getElem? (i := 754) (by decide +kernel), List.mem_of_getElem? (i := 755) (by decide +kernel)⟩
def lw_privs_3 : List (MethodName × Nat) := [(⟨"GrainSiloModel", "no", "(I)I"⟩, 16), (⟨"GrainSiloModel", "out", "()I"⟩, 16), (⟨"GrainSiloModel", "drop", "(I)V"⟩, 16), (⟨"GrainSiloModel", "sink", "()V"⟩, 16), (⟨"GrainSiloModel", "evenOut", "()I"⟩, 16), (⟨"GrainSiloModel", "towards", "(II)I"⟩, 16), (⟨"GrainSiloModel", "isLayer", "(I)Z"⟩, 16), (⟨"GrainSiloModel", "areLayers", "(II)Z"⟩, 16), (⟨"GrainSiloModel", "added", "(II)I"⟩, 16), (⟨"GrainSiloModel", "isSample", "(I)Z"⟩, 16), (⟨"GrainSiloModel", "ok", "(I)I"⟩, 16), (⟨"GrainSiloModel", "ofSample", "(I[I)I"⟩, 16), (⟨"GrainSiloModel", "reckon", "()V"⟩, 16), (⟨"GrainSiloModel", "begin", "()V"⟩, 16), (⟨"GrainSiloModel", "bound", "(III)V"⟩, 16), (⟨"GrainSiloModel", "tell", "(IIII)V"⟩, 16)]
theorem lw_r3 : ∀ q ∈ lw_privs_3, lw_okq q := List.forall_mem_cons.mpr ⟨lw_p32, List.forall_mem_cons.mpr ⟨lw_p33, List.forall_mem_cons.mpr ⟨lw_p34, List.forall_mem_cons.mpr ⟨lw_p35, List.forall_mem_cons.mpr ⟨lw_p36, List.forall_mem_cons.mpr ⟨lw_p37, List.forall_mem_cons.mpr ⟨lw_p38, List.forall_mem_cons.mpr ⟨lw_p39, List.forall_mem_cons.mpr ⟨lw_p40, List.forall_mem_cons.mpr ⟨lw_p41, List.forall_mem_cons.mpr ⟨lw_p42, List.forall_mem_cons.mpr ⟨lw_p43, List.forall_mem_cons.mpr ⟨lw_p44, List.forall_mem_cons.mpr ⟨lw_p45, List.forall_mem_cons.mpr ⟨lw_p46, List.forall_mem_cons.mpr ⟨lw_p47, fun _ h => absurd h List.not_mem_nil⟩⟩⟩⟩⟩⟩⟩⟩⟩⟩⟩⟩⟩⟩⟩⟩
theorem lw_p48 : lw_okq (⟨"GrainSiloModel", "goOn", "()V"⟩, 16) := ⟨⟨by decide +kernel, by decide +kernel⟩, List.mem_of_getElem? (i := 535) (by decide +kernel), List.mem_of_getElem? (i := 758) (by decide +kernel), List.mem_of_getElem? (i := 759) (by decide +kernel)⟩
theorem lw_p49 : lw_okq (⟨"GrainSiloModel", "least", "(II)I"⟩, 16) := ⟨⟨by decide +kernel, by decide +kernel⟩, List.mem_of_getElem? (i := 535) (by decide +kernel), List.mem_of_getElem? (i := 762) (by decide +kernel), List.mem_of_getElem? (i := 763) (by decide +kernel)⟩
theorem lw_p50 : lw_okq (⟨"GrainSiloModel", "greatest", "(II)I"⟩, 16) := ⟨⟨by decide +kernel, by decide +kernel⟩, List.mem_of_getElem? (i := 535) (by decide +kernel), List.mem_of_getElem? (i := 774) (by decide +kernel), List.mem_of_getElem? (i := 775) (by decide +kernel)⟩
theorem lw_p51 : lw_okq (⟨"GrainSiloModel", "isNot", "(I)Z"⟩, 16) := ⟨⟨by decide +kernel, by decide +kernel⟩, List.mem_of_getElem? (i := 535) (by decide +kernel), List.mem_of_getElem? (i := 782) (by decide +kernel), List.mem_of_getElem? (i := 783) (by decide +kernel)⟩
theorem lw_p52 : lw_okq (⟨"GrainSiloModel", "surely", "(Z)I"⟩, 16) := ⟨⟨by decide +kernel, by decide +kernel⟩, List.mem_of_getElem? (i := 535) (by decide +kernel), List.mem_of_getElem? (i := 790) (by decide +kernel), List.mem_of_getElem? (i := 791) (by decide +kernel)⟩
theorem lw_p53 : lw_okq (⟨"GrainSiloModel", "allDoubt", "()I"⟩, 16) := ⟨⟨by decide +kernel, by decide +kernel⟩, List.mem_of_getElem? (i := 535) (by decide +kernel), List.mem_of_getElem? (i := 806) (by decide +kernel), List.mem_of_getElem? (i := 807) (by decide +kernel)⟩
theorem lw_p54 : lw_okq (⟨"GrainSiloModel", "behind", "(II)I"⟩, 16) := ⟨⟨by decide +kernel, by decide +kernel⟩, List.mem_of_getElem? (i := 535) (by decide +kernel), List.mem_of_getElem? (i := 816) (by decide +kernel), List.mem_of_getElem? (i := 817) (by decide +kernel)⟩
theorem lw_p55 : lw_okq (⟨"GrainSiloModel", "keep", "()V"⟩, 16) := ⟨⟨by decide +kernel, by decide +kernel⟩, List.mem_of_getElem? (i := 535) (by decide +kernel), List.mem_of_getElem? (i := 828) (by decide +kernel), List.mem_of_getElem? (i := 829) (by decide +kernel)⟩
theorem lw_p56 : lw_okq (⟨"GrainSiloModel", "bringBack", "()V"⟩, 16) := ⟨⟨by decide +kernel, by decide +kernel⟩, List.mem_of_getElem? (i := 535) (by decide +kernel), List.mem_of_getElem? (i := 835) (by decide +kernel), List.mem_of_getElem? (i := 836) (by decide +kernel)⟩
def lw_privs_4 : List (MethodName × Nat) := [(⟨"GrainSiloModel", "goOn", "()V"⟩, 16), (⟨"GrainSiloModel", "least", "(II)I"⟩, 16), (⟨"GrainSiloModel", "greatest", "(II)I"⟩, 16), (⟨"GrainSiloModel", "isNot", "(I)Z"⟩, 16), (⟨"GrainSiloModel", "surely", "(Z)I"⟩, 16), (⟨"GrainSiloModel", "allDoubt", "()I"⟩, 16), (⟨"GrainSiloModel", "behind", "(II)I"⟩, 16), (⟨"GrainSiloModel", "keep", "()V"⟩, 16), (⟨"GrainSiloModel", "bringBack", "()V"⟩, 16)]
theorem lw_r4 : ∀ q ∈ lw_privs_4, lw_okq q := List.forall_mem_cons.mpr ⟨lw_p48, List.forall_mem_cons.mpr ⟨lw_p49, List.forall_mem_cons.mpr ⟨lw_p50, List.forall_mem_cons.mpr ⟨lw_p51, List.forall_mem_cons.mpr ⟨lw_p52, List.forall_mem_cons.mpr ⟨lw_p53, List.forall_mem_cons.mpr ⟨lw_p54, List.forall_mem_cons.mpr ⟨lw_p55, List.forall_mem_cons.mpr ⟨lw_p56, fun _ h => absurd h List.not_mem_nil⟩⟩⟩⟩⟩⟩⟩⟩⟩
def lw_privs : List (MethodName × Nat) := lw_privs_1 ++ (lw_privs_2 ++ (lw_privs_3 ++ (lw_privs_4)))
def lw_tbl : List Cond := k2_sels lw_privs ++ tables_1
theorem lw_privs_ok : ∀ q ∈ lw_privs, lw_okq q := by
  show ∀ q ∈ lw_privs_1 ++ (lw_privs_2 ++ (lw_privs_3 ++ (lw_privs_4))), lw_okq q
  exact List.forall_mem_append.mpr ⟨lw_r1, List.forall_mem_append.mpr ⟨lw_r2, List.forall_mem_append.mpr ⟨lw_r3, lw_r4⟩⟩⟩
/-- the streams that the claim lets the run draw from -/
abbrev lw_cs : List Choice := [Jvm.Choice.named "NaN.bits"]
theorem lw_bits : nanBits ∈ lw_cs := by first | decide | exact List.mem_cons_self | simp [lw_cs, nanBits]
end
section
/-! ===== BEGIN words of one list among another's, by their places ===== -/
theorem goodIn_r {big : List Cond} (ws : List Cond) (ps : List Nat) (hp : ws = ps.filterMap (fun i => big[i]?)) (h : ws.all goodWord = true) : GoodIn big ws := by
  intro w hw
  have h1 := List.all_eq_true.mp h w hw
  rw [hp] at hw
  obtain ⟨i, -, hi⟩ := List.mem_filterMap.mp hw
  have hm : w ∈ big := by first | exact List.mem_of_getElem? hi | exact List.getElem?_mem hi
  exact ⟨hm, good_of_word h1⟩
theorem goodIn_app {big a b : List Cond} (ha : GoodIn big a) (hb : GoodIn big b) : GoodIn big (a ++ b) := fun w h => (List.mem_append.mp h).elim (ha w) (hb w)
theorem goodIn_ca {big a b : List Cond} {c : Cond} (ha : GoodIn big (c :: a)) (hb : GoodIn big b) : GoodIn big (c :: (a ++ b)) := fun w h => (List.mem_cons.mp h).elim (fun e => ha w (List.mem_cons.mpr (Or.inl e))) (fun h => (List.mem_append.mp h).elim (fun h => ha w (List.mem_cons.mpr (Or.inr h))) (hb w))
theorem goodIn_sub {big ws : List Cond} (hm : ∀ w ∈ ws, w ∈ big) (h : ws.all goodWord = true) : GoodIn big ws := fun w hw => ⟨hm w hw, good_of_word (List.all_eq_true.mp h w hw)⟩
/-! ===== END ===== -/

/-- an array class over arrays of that type has been made -/
def va_AOA (t : FieldType) (U : State) : Prop := (Cond.arrayOver (.array t)).before #[] U = true
theorem va_AOA.of {t : FieldType} {A : Array Value} {U : State} (h : (Cond.arrayOver (.array t)).before A U = true) : va_AOA t U := h
theorem va_AOA.use {t : FieldType} {A : Array Value} {U : State} (h : va_AOA t U) : (Cond.arrayOver (.array t)).before A U = true := h
theorem va_AOA.moved {t : FieldType} {u U : State} (hvm : u.vm.Alike U.vm) (h : va_AOA t u) : va_AOA t U := Jvm.Stand.arrayOver_alikeB (args := #[]) (args' := #[]) hvm h
/-! ===== BEGIN new T[n][m]: the outer array a place, the inner ones among the pooled ===== -/
/-- f, but v at every address of l -/
def vr_up {α : Type} (f : Nat → α) (l : List Nat) (v : α) : Nat → α := fun a => if a ∈ l then v else f a
theorem vr_up_in {α : Type} {f : Nat → α} {l : List Nat} {v : α} {a : Nat} (h : a ∈ l) : vr_up f l v a = v := if_pos h
theorem vr_up_ne {α : Type} {f : Nat → α} {l : List Nat} {v : α} {a : Nat} (h : a ∉ l) : vr_up f l v a = f a := if_neg h
theorem vr_rows {L l : List Nat} {f : Nat → va_E} {e : va_E} (h : ∀ a, a ∈ l → a ∉ L) : va_pl L f ++ l.map (fun a => (a, e)) = va_pl (L ++ l) (vr_up f l e) := by
  unfold va_pl
  rw [List.map_append]
  congr 1
  · apply List.map_congr_left
    intro a ha
    rw [vr_up_ne (fun q => h a q ha)]
  · apply List.map_congr_left
    intro a ha
    rw [vr_up_in ha]
theorem vr_lay {X rows : va_W} {x : Nat × va_E} {pl : va_W} {D : va_G} {cl : List vw_C} {H : Heap} (hP : va_P D cl (((X ++ pl) ++ [x]) ++ rows) H) : va_P D cl ((X ++ [x]) ++ (pl ++ rows)) H := by
  rw [List.append_assoc (X ++ pl)] at hP
  have h := va_P.swap hP
  rw [← List.append_assoc X] at h
  have h2 := va_P.swap h
  rw [List.append_assoc (X ++ [x])] at h2
  exact h2
theorem vr_layD {X rows : va_W} {x : Nat × va_E} {pl : va_W} {A : Nat → Prop} (hD : va_D A (((X ++ pl) ++ [x]) ++ rows)) : va_D A ((X ++ [x]) ++ (pl ++ rows)) := by
  rw [List.append_assoc (X ++ pl)] at hD
  have h := va_D.swap hD
  rw [← List.append_assoc X] at h
  have h2 := va_D.swap h
  rw [List.append_assoc (X ++ [x])] at h2
  exact h2
theorem vr_outer (c : ClassId) (N h0 : Nat) : ∀ i : Nat, Jvm.Free.Multi.outerC c N h0 i = arrV c N (fun j => va_rf (if j < i then some (h0 + 1 + j) else none))
  | 0 => by
    show ({ cls := c, slots := Array.replicate N .null, vm := .none } : Cell) = _
    rw [arrV_new]
    refine congrArg (arrV c N) (funext fun j => ?_)
    simp [va_rf]
  | i + 1 => by
    show (Jvm.Free.Multi.outerC c N h0 i).setSlot i (.ref (h0 + 1 + i)) = _
    rw [vr_outer c N h0 i, arrV_store]
    refine congrArg (arrV c N) (funext fun j => ?_)
    by_cases e : j = i
    · subst e
      simp [updV, va_rf]
    · by_cases h : j < i
      · simp [updV, e, h, Nat.lt_succ_of_lt h]
      · simp [updV, e, h, show ¬ j < i + 1 by omega]
section VGM
variable {p : Program} {l : Launch} {e : Env} {R : Room} {s : State} {m : MethodId} {args : Array Value} {below : List Frame} {meth : Method} {c : Code} {H : Heap} {locs : List Loc} {cells slots : Nat} {Q : State → Prop}
variable {cc : ByteArray} {pc : Nat} {ls : Array Slot} {rest : List Value} {D : va_G} {cl : List vw_C} {A : Nat → Prop} {a : Nat} {tys : List (ClassId × FieldType)} {ws : va_W} {H0 : Heap}
theorem va_mna {X : va_W} {L : List Nat} {f : Nat → va_E} {cc : ByteArray} (hexec : p.tables.exec = Jvm.exec) (hb : c.code = cc) {own : String} {index : Nat} {ty : FieldType} {cy : ClassId} (hown : s.vm.findClass own = some m.cls) (hclink : (Cond.classLink own index ("[" ++ (FieldType.array ty).toString)).before args s = true) (hover : va_AOA ty s) (harr : (Cond.arrayClass ty).before args s = true) (hcy : s.vm.findClass (FieldType.array ty).toString = some cy)
    (hK : va_K D cl tys s) (hP : va_P D cl (X ++ va_pl L f) H) (hD : va_D A (X ++ va_pl L f)) (hS : va_S A H0 H locs) (hA : ∀ q, H0.size ≤ q → A q) {n k : Int32} {N' K' : Nat} {z : vp_A} (hn : ¬ n < 0) (hk : ¬ k < 0) (hN : n.toNatClampNeg = N') (hM : k.toNatClampNeg = K')
    (hb1 : N' * 4 ≤ 536870912) (hb2 : K' * componentBytes ty ≤ 536870912) (hb3 : K' ≤ 536870912) (hdf : fits ty (defaultValue ty) = true) (hdd : (defaultValue ty).isDefault = true) (hcells : cells + (1 + N') ≤ R.cells) (hslots : slots + (N' + N' * K') ≤ R.slots) (hz : ∀ c : ClassId, Jvm.Free.Multi.innerC c K' (defaultValue ty) = vp_cell c z) (hdg : decode cc pc = .ok (.multianewarray index 2, 4))
    (kk : ∀ (q : Nat) (r : Nat → Nat) (cA : ClassId) (H1 : Heap), (∀ i j : Nat, i < N' → j < N' → r i = r j → i = j) → (∀ i : Nat, i < N' → r i ∉ L) → va_K D cl (tys ++ [(cA, .array ty)]) s →
      va_P D cl ((X ++ [(q, .inl (cA, N', .inr (.inr (.inr (.inr (fun i => if i < N' then some (r i) else none))))))]) ++ va_pl (L ++ (List.range N').map r) (vr_up f ((List.range N').map r) (.inl (cy, z)))) H1 → va_D A ((X ++ [(q, .inl (cA, N', .inr (.inr (.inr (.inr (fun i => if i < N' then some (r i) else none))))))]) ++ va_pl (L ++ (List.range N').map r) (vr_up f ((List.range N').map r) (.inl (cy, z)))) → va_S A H0 H1 locs →
      W p l e R s m args below meth c H1 locs (cells + 1 + N') (slots + N' + N' * K') Q (F0 m (pc + 4) ls (.ref q :: rest))) : W p l e R s m args below meth c H locs cells slots Q (F0 m pc ls (.int k :: .int n :: rest)) := by
  subst hN
  subst hM
  intro T hT Xs
  obtain ⟨vm₁, cA, comp, -, fA, fC, hO, -, X', step⟩ := Xs.multianewarray2F hexec hown hclink (va_AOA.use hover) harr (g := F0 m pc ls (.int k :: .int n :: rest)) rfl (by rw [hb]; exact hdg) rfl hn hk hb1 hb2 hb3 hdf hdd hcells hslots
  have ec : some cy = some comp := hcy.symm.trans fC
  cases ec
  generalize hF : Jvm.Free.Multi.fill (T.setVm vm₁) cA cy n.toNatClampNeg k.toNatClampNeg (defaultValue ty) n.toNatClampNeg = F at X' step
  have hTh : (T.setVm vm₁).heap = H := hT
  obtain ⟨f1, f2, -, -⟩ := Jvm.Free.Multi.fill_facts (T.setVm vm₁) cA cy n.toNatClampNeg k.toNatClampNeg (defaultValue ty) n.toNatClampNeg
  rw [hF, hTh] at f1 f2
  have hold : ∀ x : Nat, x < H.size → F.heap[x]? = H[x]? := fun x hx => by
    have := Jvm.Free.Multi.fill_old (T.setVm vm₁) cA cy n.toNatClampNeg k.toNatClampNeg (defaultValue ty) (a := x) (by rw [hTh]; exact hx) n.toNatClampNeg
    rw [hF, hTh] at this
    exact this
  have hrow : ∀ j : Nat, j < n.toNatClampNeg → F.heap[H.size + 1 + j]? = some (vp_cell cy z) := fun j hj => by
    have := Jvm.Free.Multi.fill_inner (T.setVm vm₁) cA cy n.toNatClampNeg k.toNatClampNeg (defaultValue ty) n.toNatClampNeg j hj
    rw [hF, hTh, hz] at this
    exact this
  have hout : Jvm.Free.Multi.outerC cA n.toNatClampNeg H.size n.toNatClampNeg = vp_cell cA (n.toNatClampNeg, .inr (.inr (.inr (.inr (fun i => if i < n.toNatClampNeg then some (H.size + 1 + i) else none))))) := by
    rw [vp_cell_q]
    exact vr_outer cA n.toNatClampNeg H.size n.toNatClampNeg
  rw [hout] at f2
  have hlt : ∀ a, a ∈ L → a < H.size := fun a ha => by
    obtain ⟨k9, hk9⟩ := va_pl_get (X := X) (f := f) ha
    exact (hP k9 _ hk9).lt
  have hnl : ∀ i : Nat, i < n.toNatClampNeg → H.size + 1 + i ∉ L := fun i _ h => by
    have := hlt _ h
    omega
  have hnm : ∀ a, a ∈ (List.range n.toNatClampNeg).map (fun i => H.size + 1 + i) → a ∉ L := fun a ha h => by
    obtain ⟨i, -, rfl⟩ := List.mem_map.mp ha
    have := hlt _ h
    omega
  have hP0 : va_P D cl (X ++ va_pl L f) F.heap := hP.kept (fun k9 x hx => hold x.1 ((hP k9 x hx).lt))
  have hP1 : va_P D cl ((X ++ va_pl L f) ++ [(H.size, .inl (cA, n.toNatClampNeg, .inr (.inr (.inr (.inr (fun i => if i < n.toNatClampNeg then some (H.size + 1 + i) else none))))))]) F.heap := hP0.app (fun k9 x hx => by
    have h0 : k9 < 1 := (List.getElem?_eq_some_iff.mp hx).1
    rw [show k9 = 0 by omega] at hx
    cases hx
    exact f2)
  have hP2 : va_P D cl (((X ++ va_pl L f) ++ [(H.size, .inl (cA, n.toNatClampNeg, .inr (.inr (.inr (.inr (fun i => if i < n.toNatClampNeg then some (H.size + 1 + i) else none))))))]) ++ ((List.range n.toNatClampNeg).map (fun i => H.size + 1 + i)).map (fun a => (a, .inl (cy, z)))) F.heap := hP1.app (fun k9 x hx => by
    obtain ⟨a, ha, rfl⟩ := List.mem_map.mp (List.mem_of_getElem? hx)
    obtain ⟨i, hi, rfl⟩ := List.mem_map.mp ha
    exact hrow i (List.mem_range.mp hi))
  have hD2 : va_D A (((X ++ va_pl L f) ++ [(H.size, .inl (cA, n.toNatClampNeg, .inr (.inr (.inr (.inr (fun i => if i < n.toNatClampNeg then some (H.size + 1 + i) else none))))))]) ++ ((List.range n.toNatClampNeg).map (fun i => H.size + 1 + i)).map (fun a => (a, .inl (cy, z)))) := by
    have hD1 := hD.push (e := .inl (cA, n.toNatClampNeg, .inr (.inr (.inr (.inr (fun i => if i < n.toNatClampNeg then some (H.size + 1 + i) else none)))))) hP rfl (hA _ hS.1)
    generalize hW1 : (X ++ va_pl L f) ++ [(H.size, .inl (cA, n.toNatClampNeg, .inr (.inr (.inr (.inr (fun i => if i < n.toNatClampNeg then some (H.size + 1 + i) else none))))))] = W1 at hD1 hP1 ⊢
    have hle : ∀ (k9 : Nat) (x : Nat × va_E), W1[k9]? = some x → x.1 ≤ H.size := fun k9 x hx => by
      rw [← hW1] at hx
      by_cases hl : k9 < (X ++ va_pl L f).length
      · rw [List.getElem?_append_left hl] at hx
        exact Nat.le_of_lt ((hP k9 x hx).lt)
      · rw [List.getElem?_append_right (by omega)] at hx
        have h0 : k9 - (X ++ va_pl L f).length < 1 := (List.getElem?_eq_some_iff.mp hx).1
        rw [show k9 - (X ++ va_pl L f).length = 0 by omega] at hx
        cases hx
        exact Nat.le_refl _
    have hr : ∀ (k9 : Nat) (x : Nat × va_E), (((List.range n.toNatClampNeg).map (fun i => H.size + 1 + i)).map (fun a => ((a, .inl (cy, z)) : Nat × va_E)))[k9]? = some x → x.1 = H.size + 1 + k9 := fun k9 x hx => by
      rw [List.getElem?_map, List.getElem?_map] at hx
      by_cases h9 : k9 < n.toNatClampNeg
      · rw [List.getElem?_range h9] at hx
        cases hx
        rfl
      · have hn0 : (List.range n.toNatClampNeg)[k9]? = none := List.getElem?_eq_none (by rw [List.length_range]; omega)
        rw [hn0] at hx
        cases hx
    refine ⟨fun i j x y hi hj hxy => ?_, fun k9 x hx => ?_⟩
    · by_cases h1 : i < W1.length <;> by_cases h2 : j < W1.length
      · rw [List.getElem?_append_left h1] at hi
        rw [List.getElem?_append_left h2] at hj
        exact hD1.1 i j x y hi hj hxy
      · rw [List.getElem?_append_left h1] at hi
        rw [List.getElem?_append_right (by omega)] at hj
        have := hle _ _ hi
        have := hr _ _ hj
        omega
      · rw [List.getElem?_append_right (by omega)] at hi
        rw [List.getElem?_append_left h2] at hj
        have := hle _ _ hj
        have := hr _ _ hi
        omega
      · rw [List.getElem?_append_right (by omega)] at hi hj
        have := hr _ _ hi
        have := hr _ _ hj
        omega
    · by_cases h1 : k9 < W1.length
      · rw [List.getElem?_append_left h1] at hx
        exact hD1.2 k9 x hx
      · rw [List.getElem?_append_right (by omega)] at hx
        have := hr _ _ hx
        exact hA _ (by have := hS.1; omega)
  have hAr : ArrOfT s cA (.array ty) := fun N9 z9 => by
    obtain ⟨-, k9, hk9, cm9, hkk9⟩ := (hO 0 0 0).1
    exact ⟨(fun q hq => by cases hq), k9, hk9, cm9, hkk9⟩
  have hK2 : va_K D cl (tys ++ [(cA, .array ty)]) s := ⟨hK.1, fun k9 x hx => by
    by_cases hl : k9 < tys.length
    · rw [List.getElem?_append_left hl] at hx
      exact hK.2 k9 x hx
    · rw [List.getElem?_append_right (by omega)] at hx
      have h0 : k9 - tys.length < 1 := (List.getElem?_eq_some_iff.mp hx).1
      rw [show k9 - tys.length = 0 by omega] at hx
      cases hx
      exact ⟨hAr, fA⟩⟩
  obtain ⟨t, a1, b1⟩ := kk H.size (fun i => H.size + 1 + i) cA F.heap (fun i j _ _ h => by have h9 : H.size + 1 + i = H.size + 1 + j := h; omega) hnl hK2 (by rw [← vr_rows hnm]; exact vr_lay hP2) (by rw [← vr_rows hnm]; exact vr_layD hD2) ⟨by rw [f1]; have := hS.1; omega, fun x h1 h2 => (hold x (Nat.lt_of_lt_of_le h1 hS.1)).trans (hS.2.1 x h1 h2), hS.2.2⟩ F rfl X'
  refine ⟨t, step t ?_, b1⟩
  have e : T.heap.size = H.size := by rw [hT]
  rw [e]
  exact a1
end VGM
/-! ===== END ===== -/

/-! ===== BEGIN exceptions that leave a method, and their catching by the caller (launches without stack traces) ===== -/
section VXA
/-! The laws vx_back, vx_callV, vx_callS, vx_callSW, vx_throw0, vx_throwS follow proofs of the library, with one case more: JvmDerived/Free/Laws.lean (Back.of_free), Shelf42/LK1.lean (callV, callS), Shelf/KitTraced.lean (throwNew0V, throwNewS). -/
/-- where a method has thrown q: the class by its name, the cell, what was written, the world -/
def vx_T (XC : String → State → State → Prop) (st : State) (q : Addr) (t : State) (mc ms : Nat) (free : Addr → Prop) : Prop :=
  ∃ (E : String) (ce : Cell) (L : List Loc), XC E st t ∧ t.heap[q]? = some ce ∧ ce.vm = .none ∧ st.vm.findClass E = some ce.cls ∧ st.WarmedH t.vm ∧ st.sameButNew ({ t with vm := st.vm } : State) L mc ms ∧ ∀ z ∈ L, free z.base
def vx_Q (Qc : Array Value → State → Outcome → State → Prop) (XC : String → State → State → Prop) (mc ms : Nat) (free : Addr → Prop) : Array Value → State → Outcome → State → Prop := fun a st o t =>
  (Qc a st o t ∧ ∃ L, FrameEnd st o t L mc ms ∧ ∀ q ∈ L, free q.base) ∨ ∃ q, o = .threw q ∧ vx_T XC st q t mc ms free
/-- a callee that returns or throws -/
def vx_Met (l : Launch) (y : MethodName) (ws : List Cond) (rm : Room) (Pc : Array Value → State → Prop) (Qc : Array Value → State → Outcome → State → Prop) (XC : String → State → State → Prop) (mc ms : Nat) (free : Addr → Prop) : Prop :=
  MetFree l y (headSpec ws rm) Pc (fun _ _ _ _ _ => True) (vx_Q Qc XC mc ms free)
def vx_Post (XC : String → State → State → Prop) (mc ms : Nat) (free : Addr → Prop) : Pt → Array Value → Addr → Pt → Prop := fun A a q B =>
  ∃ (g : JFrame) (mk : MethodId) (t : State) (L : List Loc) (E : String) (ce : Cell), B.U.heap = t.heap ∧ B.U.vm = t.vm ∧ XC E (A.U.calling g mk a) t ∧ t.heap[q]? = some ce ∧ ce.vm = .none ∧ A.U.vm.findClass E = some ce.cls ∧ B.locs = A.locs ++ L ∧ (∀ z ∈ L, free z.base) ∧ B.cells = A.cells + mc ∧ B.slots = A.slots + ms
def vx_Back (l : Launch) (R : Room) (p : Program) (e : Env) (below : List Frame) (s : State) (sargs : Array Value) (y : MethodName) (len W9 : Nat)
    (Pre : Pt → Array Value → Prop) (Post : Pt → Array Value → Option Value → Pt → Prop) (PostX : Pt → Array Value → Addr → Pt → Prop) : Prop :=
  ∀ (m : MethodId) (meth : Method) (c : Code) (A : Pt) (g : JFrame) (ig : Instr) (mk : MethodId) (a : Array Value),
    Stand p l e R s m sargs below meth c A.U A.locs A.cells A.slots → g.method = m → g.locals.size = c.maxLocals → decode c.code g.pc = .ok (ig, len) →
    2 * g.monitorRoom + (g.stack.map fun v => v.category).sum ≤ W9 → A.U.methodNamed? y = some mk → Pre A a →
    (∃ (v : Option Value) (B : Pt), Stand p l e R s m sargs below meth c B.U B.locs B.cells B.slots ∧ Post A a v B ∧
      Steps p.tables e below (doInvoke e (A.U.setTop g) [] mk a).1 (B.U.setTop { g with pc := g.pc + len, stack := v.toList ++ g.stack })) ∨
    (∃ (q : Addr) (B : Pt), Stand p l e R s m sargs below meth c B.U B.locs B.cells B.slots ∧ PostX A a q B ∧
      Steps p.tables e below (doInvoke e (A.U.setTop g) [] mk a).1 ((B.U.setTop g).pushFrame (.throwing q)))
section Payer
variable {l : Launch} {R : Room} {p : Program} {e : Env} {below : List Frame} {s : State} {sargs : Array Value} {y : MethodName} {len W9 : Nat}
theorem vx_back {ws : List Cond} {rm : Room} {Pc : Array Value → State → Prop} {Qc : Array Value → State → Outcome → State → Prop} {XC : String → State → State → Prop} {mc ms : Nat} {free : Addr → Prop} {bytes : ByteArray} {maxL : Nat} {ret : Option FieldType}
    (hM : vx_Met l y ws rm Pc Qc XC mc ms free) (hblind : FrameBlind Pc) (hrc : rm.cells = mc) (hrs : rm.slots = ms)
    (hframes : rm.frames + 1 ≤ R.frames) (hlocals : W9 + (maxL + 11) + rm.locals ≤ R.locals)
    (hws : ∀ w ∈ ws, ∀ a' U, s.WarmedH U.vm → w.before a' U = true) (hcode : Cond.code y bytes maxL ret ∈ ws) (hinit : ∀ a' U, s.WarmedH U.vm → (Cond.initialized y.cls).before a' U = true) :
    vx_Back l R p e below s sargs y len W9 (PreOf R mc ms Pc) (PostOf Qc mc ms free) (vx_Post XC mc ms free) := by
  intro m meth c A g ig mk a X hg hsize hdg hW hn hp
  have h1 : (headSpec ws rm).pre.before a A.U = true := atoms_intro fun w hw => hws w hw _ _ X.warmed
  have h2 : (Cond.code y bytes maxL ret).before a A.U = true := hws _ hcode _ _ X.warmed
  have h3 : (Cond.initialized y.cls).before a A.U = true := hinit _ _ X.warmed
  have h4 : A.cells + (headSpec ws rm).room.cells ≤ R.cells := by rw [show (headSpec ws rm).room.cells = mc from hrc]; exact hp.1
  have h5 : A.slots + (headSpec ws rm).room.slots ≤ R.slots := by rw [show (headSpec ws rm).room.slots = ms from hrs]; exact hp.2.1
  have hPc : Pc a (A.U.calling g mk a) := hblind _ _ _ _ hp.2.2
  obtain ⟨U, Ls, c0, s0⟩ := A
  dsimp only [Pt.U, Pt.locs, Pt.cells, Pt.slots] at h1 h2 h3 h4 h5 X hn hPc ⊢
  obtain ⟨methY, cY, hmY, hcY, -, hlY, -, -, -, -⟩ := Cond.code_spec hn h2
  obtain ⟨kY, hkY, -⟩ := className_of_methodNamed hn
  have hinitY : kY.init = .initialized := Cond.initialized_spec (findClass_of_methodNamed hn) hkY h3
  have h : At U g.method c below := by rw [hg]; exact X.here
  have hlocals9 : W9 + (maxL + 11) + (headSpec ws rm).room.locals ≤ R.locals := hlocals
  have happ : (headSpec ws rm).appliesLoose y e.platform (U.calling g mk a) = true :=
    Spec.appliesLoose_calling (g := g) h hdg hn hkY hinitY
      (X.room_calling (g := g) (R' := (headSpec ws rm).room) hsize hmY hcY hframes (by rw [hlY]; omega) h4 h5) h1
  obtain ⟨mid, hmid⟩ := h.above
  have hfr : (U.setTop g).frames = (.java g :: mid) ++ below := by rw [State.frames_setTop' g h.top, hmid]; rfl
  obtain ⟨o, s₂, hsteps, -, hend, hq⟩ := Steps.callFree hM p X.admits X.cas X.clock (acts := []) hfr happ hPc trivial
  have hq' : vx_Q Qc XC mc ms free a (U.calling g mk a) o s₂ := hq
  rw [State.frames_setTop' g h.top] at hend
  obtain ⟨g₀, hg0⟩ := Option.isSome_iff_exists.mp h.top
  obtain ⟨r, hr⟩ := State.topJava?_eq_some.mp hg0
  have hr' : (({ U with heap := s₂.heap, slotsUsed := s₂.slotsUsed } : State).setVm s₂.vm).frames = .java g₀ :: r := hr
  rcases hq' with ⟨hqc, L, hfe, hL⟩ | ⟨q, rfl, E, ce, L, hx, hce, hcv, hcl, hW₂, hsm, hL⟩
  · obtain ⟨⟨v, rfl⟩, hW₂, e2, q2, q3, q4, q5, q6⟩ := id hfe
    have e3 : s₂ = ({ (U.calling g mk a).setFrames s₂.frames with heap := s₂.heap, slotsUsed := s₂.slotsUsed } : State).setVm s₂.vm := by
      have : s₂ = ({ s₂ with vm := (U.calling g mk a).vm } : State).setVm s₂.vm := rfl
      rw [e2] at this
      exact this
    obtain ⟨c₂, i₂, len₂, hc₂, hd₂, hf₂⟩ := hend
    have hW' : U.WarmedH s₂.vm := hW₂
    have hcc : c₂ = c := by
      have h1 : s₂.code? g.method = U.code? g.method := by
        rw [State.code?_eq, State.code?_eq, hW'.alike.method?]
      exact Option.some.inj (hc₂.symm.trans (h1.trans h.code))
    subst hcc
    have hlen : len₂ = len := by rw [hdg] at hd₂; cases hd₂; rfl
    subst hlen
    have hs₂ : s₂ = (({ U with heap := s₂.heap, slotsUsed := s₂.slotsUsed } : State).setVm s₂.vm).setTop { g with pc := g.pc + len₂, stack := v.toList ++ g.stack } := by
      refine e3.trans ?_
      rw [hf₂, State.calling_eq h.top, State.setFrames_setFrames, State.setTop_of_frames _ hr', hr]
      rfl
    have hsame : U.sameButNew ({ U with heap := s₂.heap, slotsUsed := s₂.slotsUsed } : State) L mc ms := by
      refine ⟨?_, q2, q3, q4, q5, q6⟩
      obtain ⟨t, ht, -⟩ := State.frames_cons hr
      show ({ U with heap := s₂.heap, slotsUsed := s₂.slotsUsed } : State) = { U.setFrames U.frames with heap := s₂.heap, slotsUsed := s₂.slotsUsed }
      rw [State.setFrames_self ht]
    subst hg
    refine Or.inl ⟨v, ⟨(({ U with heap := s₂.heap, slotsUsed := s₂.slotsUsed } : State).setVm s₂.vm), Ls ++ L, c0 + mc, s0 + ms⟩,
      ⟨X.admits, X.cas, X.clock, X.frames, X.room, X.hears, X.method, X.code, (X.here.setHeapUsed s₂.heap s₂.slotsUsed).setVm hW'.alike, X.tail, State.WarmedH.trans X.warmed hW', X.limits, X.bytes, X.same.trans (hsame.setVm s.vm)⟩,
      ⟨g, mk, s₂, L, rfl, rfl, hqc, rfl, hL, rfl, rfl⟩, ?_⟩
    show Steps p.tables e below _ ((({ U with heap := s₂.heap, slotsUsed := s₂.slotsUsed } : State).setVm s₂.vm).setTop { g with pc := g.pc + len₂, stack := v.toList ++ g.stack })
    rw [← hs₂]
    exact hsteps
  · obtain ⟨e2, q2, q3, q4, q5, q6⟩ := id hsm
    have e3 : s₂ = ({ (U.calling g mk a).setFrames s₂.frames with heap := s₂.heap, slotsUsed := s₂.slotsUsed } : State).setVm s₂.vm := by
      have : s₂ = ({ s₂ with vm := (U.calling g mk a).vm } : State).setVm s₂.vm := rfl
      rw [e2] at this
      exact this
    have hf₂ : s₂.frames = .throwing q :: .java g :: U.frames.tail := hend
    have hW' : U.WarmedH s₂.vm := hW₂
    have hs₂ : s₂ = ((({ U with heap := s₂.heap, slotsUsed := s₂.slotsUsed } : State).setVm s₂.vm).setTop g).pushFrame (.throwing q) := by
      refine e3.trans ?_
      rw [hf₂, State.calling_eq h.top, State.setFrames_setFrames, State.pushFrame, State.frames_setTop _ hr', State.setTop_of_frames _ hr', State.setFrames_setFrames, hr]
      rfl
    have hsame : U.sameButNew ({ U with heap := s₂.heap, slotsUsed := s₂.slotsUsed } : State) L mc ms := by
      refine ⟨?_, q2, q3, q4, q5, q6⟩
      obtain ⟨t, ht, -⟩ := State.frames_cons hr
      show ({ U with heap := s₂.heap, slotsUsed := s₂.slotsUsed } : State) = { U.setFrames U.frames with heap := s₂.heap, slotsUsed := s₂.slotsUsed }
      rw [State.setFrames_self ht]
    subst hg
    refine Or.inr ⟨q, ⟨(({ U with heap := s₂.heap, slotsUsed := s₂.slotsUsed } : State).setVm s₂.vm), Ls ++ L, c0 + mc, s0 + ms⟩,
      ⟨X.admits, X.cas, X.clock, X.frames, X.room, X.hears, X.method, X.code, (X.here.setHeapUsed s₂.heap s₂.slotsUsed).setVm hW'.alike, X.tail, State.WarmedH.trans X.warmed hW', X.limits, X.bytes, X.same.trans (hsame.setVm s.vm)⟩,
      ⟨g, mk, s₂, L, E, ce, rfl, rfl, hx, hce, hcv, hcl, rfl, hL, rfl, rfl⟩, ?_⟩
    show Steps p.tables e below _ (((({ U with heap := s₂.heap, slotsUsed := s₂.slotsUsed } : State).setVm s₂.vm).setTop g).pushFrame (.throwing q))
    rw [← hs₂]
    exact hsteps
end Payer
section Calls
variable {p : Program} {l : Launch} {e : Env} {R : Room} {s : State} {m : MethodId} {args : Array Value} {below : List Frame} {meth : Method} {c : Code} {T : State} {locs : List Loc} {cells slots : Nat}
theorem vx_callV (X : Stand p l e R s m args below meth c T locs cells slots) (hexec : p.tables.exec = Jvm.exec) {own C : String} {index : Nat} {y : MethodName} {bytes : ByteArray} {maxL : Nat} {ret : Option FieldType}
    (hown : s.vm.findClass own = some m.cls) (hlink : (Cond.methodLink own index y).before args s = true) (hinst : (Cond.instanceMethod y).before args s = true) (hsel : (Cond.selects C y y).before args s = true)
    (hcode : (Cond.code y bytes maxL ret).before args s = true) (hy : y.cls ≠ "java/lang/invoke/MethodHandle" ∧ y.cls ≠ "java/lang/invoke/VarHandle")
    {W9 : Nat} {Pre : Pt → Array Value → Prop} {Post : Pt → Array Value → Option Value → Pt → Prop} {PostX : Pt → Array Value → Addr → Pt → Prop} (hK : vx_Back l R p e below s args y 3 W9 Pre Post PostX)
    {b : Addr} {cellB : Cell} (hcell : T.heap[b]? = some cellB) (hobj : cellB.vm.isStatics = false) (hcls : s.vm.findClass C = some cellB.cls)
    {g : JFrame} (hg : g.method = m) (hsize : g.locals.size = c.maxLocals) {argsL rest : List Value} (hlen : ∀ sig, parseMethodDescriptor y.desc = some sig → argsL.length = sig.parameters.length)
    (hstack : g.stack = argsL.reverse ++ .ref b :: rest) (hW : 2 * g.monitorRoom + (rest.map fun v => v.category).sum ≤ W9) (hdg : decode c.code g.pc = .ok (.invokevirtual index, 3))
    (hpre : ∀ vm₁, s.WarmedH vm₁ → Pre ⟨T.setVm vm₁, locs, cells, slots⟩ (Value.ref b :: argsL).toArray) :
    (∃ (v : Option Value) (vm₁ : Vm) (B : Pt), s.WarmedH vm₁ ∧ Stand p l e R s m args below meth c B.U B.locs B.cells B.slots ∧ Post ⟨T.setVm vm₁, locs, cells, slots⟩ (Value.ref b :: argsL).toArray v B ∧
      ∀ target, Steps p.tables e below (B.U.setTop { g with pc := g.pc + 3, stack := v.toList ++ rest }) target → Steps p.tables e below (T.setTop g) target) ∨
    (∃ (q : Addr) (vm₁ : Vm) (B : Pt), s.WarmedH vm₁ ∧ Stand p l e R s m args below meth c B.U B.locs B.cells B.slots ∧ PostX ⟨T.setVm vm₁, locs, cells, slots⟩ (Value.ref b :: argsL).toArray q B ∧
      Steps p.tables e below (T.setTop g) ((B.U.setTop { g with stack := rest }).pushFrame (.throwing q))) := by
  obtain ⟨mk, methM, hnamed, hmethM, hstM, habM⟩ := Cond.instanceMethod_spec hinst
  obtain ⟨methM', cM, hmethM', -, -, -, -, -, -, hsigM⟩ := Cond.code_spec hnamed hcode
  cases hmethM.symm.trans hmethM'
  obtain ⟨c2, r2, m2, q1, q2, q3, q4, kP, hkP, hkPi⟩ := Cond.selects_spec hsel
  cases hcls.symm.trans q1
  cases (State.methodFound?_of_named hnamed hy).symm.trans q2
  cases hnamed.symm.trans q3
  have hselP : selectMethod e.platform s.vm cellB.cls mk = .method mk := by rw [Launch.admits_selectMethod X.admits]; exact q4
  obtain ⟨vm₁, X₁, hstep₁⟩ := X.invokevirtual hexec hown hlink hnamed hmethM hstM hkP hkPi hy (a := b) (cell := cellB) hcell
    (fun z h => by rw [h] at hobj; cases hobj) hselP hmethM habM hkP hkPi (g := g) hg (argsL := argsL) (rest := rest) (hlen _ hsigM) hstack hdg
  rcases hK m meth c ⟨T.setVm vm₁, locs, cells, slots⟩ { g with stack := rest } (.invokevirtual index) mk (Value.ref b :: argsL).toArray X₁ hg hsize hdg hW (X₁.named hnamed) (hpre vm₁ X₁.warmed) with ⟨v, B, X', hpost, hsteps⟩ | ⟨q, B, X', hpost, hsteps⟩
  · exact Or.inl ⟨v, vm₁, B, X₁.warmed, X', hpost, fun target h => hstep₁ _ fun acts => by rw [doInvoke_state]; exact hsteps.trans h⟩
  · exact Or.inr ⟨q, vm₁, B, X₁.warmed, X', hpost, hstep₁ _ fun acts => by rw [doInvoke_state]; exact hsteps⟩
theorem vx_callS (X : Stand p l e R s m args below meth c T locs cells slots) (hexec : p.tables.exec = Jvm.exec) {own : String} {index : Nat} {y : MethodName} {bytes : ByteArray} {maxL : Nat} {ret : Option FieldType}
    (hown : s.vm.findClass own = some m.cls) (hlink : (Cond.methodLink own index y).before args s = true) (hstat : (Cond.static y).before args s = true) (hinit : (Cond.initialized y.cls).before args s = true)
    (hcode : (Cond.code y bytes maxL ret).before args s = true) (hy : y.cls ≠ "java/lang/invoke/MethodHandle" ∧ y.cls ≠ "java/lang/invoke/VarHandle")
    {W9 : Nat} {Pre : Pt → Array Value → Prop} {Post : Pt → Array Value → Option Value → Pt → Prop} {PostX : Pt → Array Value → Addr → Pt → Prop} (hK : vx_Back l R p e below s args y 3 W9 Pre Post PostX)
    {g : JFrame} (hg : g.method = m) (hsize : g.locals.size = c.maxLocals) {argsL rest : List Value} (hlen : ∀ sig, parseMethodDescriptor y.desc = some sig → argsL.length = sig.parameters.length)
    (hstack : g.stack = argsL.reverse ++ rest) (hW : 2 * g.monitorRoom + (rest.map fun v => v.category).sum ≤ W9) (hdg : decode c.code g.pc = .ok (.invokestatic index, 3))
    (hpre : ∀ vm₁, s.WarmedH vm₁ → Pre ⟨T.setVm vm₁, locs, cells, slots⟩ argsL.toArray) :
    (∃ (v : Option Value) (vm₁ : Vm) (B : Pt), s.WarmedH vm₁ ∧ Stand p l e R s m args below meth c B.U B.locs B.cells B.slots ∧ Post ⟨T.setVm vm₁, locs, cells, slots⟩ argsL.toArray v B ∧
      ∀ target, Steps p.tables e below (B.U.setTop { g with pc := g.pc + 3, stack := v.toList ++ rest }) target → Steps p.tables e below (T.setTop g) target) ∨
    (∃ (q : Addr) (vm₁ : Vm) (B : Pt), s.WarmedH vm₁ ∧ Stand p l e R s m args below meth c B.U B.locs B.cells B.slots ∧ PostX ⟨T.setVm vm₁, locs, cells, slots⟩ argsL.toArray q B ∧
      Steps p.tables e below (T.setTop g) ((B.U.setTop { g with stack := rest }).pushFrame (.throwing q))) := by
  obtain ⟨mk, hnamed⟩ := Cond.code_named hcode
  obtain ⟨methM, cM, hmethM, -, -, -, -, -, -, hsigM⟩ := Cond.code_spec hnamed hcode
  have hstatic : methM.isStatic = true := Cond.static_spec hnamed hmethM hstat
  obtain ⟨kP, hkP, -⟩ := className_of_methodNamed hnamed
  have hinitP : kP.init = .initialized := Cond.initialized_spec (findClass_of_methodNamed hnamed) hkP hinit
  obtain ⟨vm₁, X₁, hstep₁⟩ := X.invokestatic hexec hown hlink hnamed hmethM hstatic hkP hinitP hy (g := g) hg (argsL := argsL) (rest := rest) (hlen _ hsigM) hstack hdg
  rcases hK m meth c ⟨T.setVm vm₁, locs, cells, slots⟩ { g with stack := rest } (.invokestatic index) mk argsL.toArray X₁ hg hsize hdg hW (X₁.named hnamed) (hpre vm₁ X₁.warmed) with ⟨v, B, X', hpost, hsteps⟩ | ⟨q, B, X', hpost, hsteps⟩
  · exact Or.inl ⟨v, vm₁, B, X₁.warmed, X', hpost, fun target h => hstep₁ _ fun acts => by rw [doInvoke_state]; exact hsteps.trans h⟩
  · exact Or.inr ⟨q, vm₁, B, X₁.warmed, X', hpost, hstep₁ _ fun acts => by rw [doInvoke_state]; exact hsteps⟩
end Calls
theorem vx_cls {s : State} {T : State} {vm₁ : Vm} {E : String} {k : ClassId} (hW : s.WarmedH vm₁) (h : (T.setVm vm₁).vm.findClass E = some k) : s.vm.findClass E = some k := by
  have h1 : vm₁.findClass E = some k := h
  rw [hW.alike.findClass] at h1
  exact h1
/-- the method's frame g, with q thrown over it -/
def vx_W (p : Program) (l : Launch) (e : Env) (R : Room) (s : State) (m : MethodId) (args : Array Value) (below : List Frame) (meth : Method) (c : Code) (H : Heap) (locs : List Loc) (cells slots : Nat) (Q : State → Prop) (g : JFrame) (q : Addr) : Prop :=
  ∀ T : State, T.heap = H → Stand p l e R s m args below meth c T locs cells slots → ∃ t, Steps p.tables e below ((T.setTop g).pushFrame (.throwing q)) t ∧ Q t
def vx_Run (p : Program) (l : Launch) (e : Env) (R : Room) (s : State) (m : MethodId) (args : Array Value) (below : List Frame) (meth : Method) (c : Code) (H : Heap) (locs : List Loc) (cells slots mc ms : Nat) (g : JFrame) (rest : List Value) (Qa : State → Outcome → State → Prop) (XC : String → State → State → Prop) (free : Addr → Prop) : Prop :=
  ∀ T : State, T.heap = H → Stand p l e R s m args below meth c T locs cells slots →
    (∃ (v : Option Value) (st₀ t T' : State) (L : List Loc), st₀.heap = H ∧ Stand p l e R s m args below meth c T' (locs ++ L) (cells + mc) (slots + ms) ∧ (∀ q ∈ L, free q.base) ∧ T'.heap = t.heap ∧ T'.vm = t.vm ∧ Qa st₀ (.returned v) t ∧
      Goes p e below T g T' { g with pc := g.pc + 3, stack := v.toList ++ rest }) ∨
    (∃ (q : Addr) (st₀ t T' : State) (L : List Loc) (E : String) (ce : Cell), st₀.heap = H ∧ Stand p l e R s m args below meth c T' (locs ++ L) (cells + mc) (slots + ms) ∧ (∀ z ∈ L, free z.base) ∧ T'.heap = t.heap ∧ T'.vm = t.vm ∧ XC E st₀ t ∧ t.heap[q]? = some ce ∧ ce.vm = .none ∧ s.vm.findClass E = some ce.cls ∧
      Steps p.tables e below (T.setTop g) ((T'.setTop { g with stack := rest }).pushFrame (.throwing q)))
def vx_X {S : Type} (px : S → Prop) (B : String → S → State → Prop) (A : Nat → Prop) : String → State → State → Prop := fun E st t => ∃ u : S, px u ∧ B E u t ∧ va_F A st t
section Runs
variable {p : Program} {l : Launch} {e : Env} {R : Room} {s : State} {m : MethodId} {args : Array Value} {below : List Frame} {meth : Method} {c : Code} {H : Heap} {locs : List Loc} {cells slots : Nat}
variable {y : MethodName} {bytes cc : ByteArray} {maxL nL mc ms n index : Nat} {ret : Option FieldType} {ws : List Cond} {rm : Room} {Pc : Array Value → State → Prop} {Qc : Array Value → State → Outcome → State → Prop} {XC : String → State → State → Prop} {free : Addr → Prop} {Ts : List Cond} {own C : String} {b : Addr} {As rest : List Value} {g : JFrame}
theorem vx_callBack (cb : CallB R s args own index y bytes maxL ret ws rm mc ms n) (hM : vx_Met l y ws rm Pc Qc XC mc ms free) (hbl : FrameBlind Pc) : vx_Back l R p e below s args y 3 8 (PreOf R mc ms Pc) (PostOf Qc mc ms free) (vx_Post XC mc ms free) := by
  obtain ⟨hrc, hrs, hfr, hlo, hws, hcw, -, hini, -⟩ := cb
  exact vx_back (bytes := bytes) (maxL := maxL) (ret := ret) hM hbl hrc hrs hfr hlo hws hcw (fun a' U hW => word_at hW (Or.inl (by first | rfl | simp [Cond.onTables, Cond.keeps, Cond.steady])) hini)
theorem vx_runV (S : CallFix p m c cc nL s args Ts own) (hM : vx_Met l y ws rm Pc Qc XC mc ms free) (cw : CallW R s args own C index y bytes maxL ret ws rm mc ms n) (hp : PreV s H C b Pc As)
    (hg : g.method = m) (hn : As.length = n) (hsize : g.locals.size = nL) (hstack : g.stack = As.reverse ++ .ref b :: rest) (hW : 2 * g.monitorRoom + (rest.map fun v => v.category).sum ≤ 8) (hdg : decode cc g.pc = .ok (.invokevirtual index, 3)) (hf : cells + mc ≤ R.cells ∧ slots + ms ≤ R.slots) :
    vx_Run p l e R s m args below meth c H locs cells slots mc ms g rest (Qc (Value.ref b :: As).toArray) XC free := by
  have hK : vx_Back l R p e below s args y 3 8 (PreOf R mc ms Pc) (PostOf Qc mc ms free) (vx_Post XC mc ms free) := vx_callBack cw.1 hM hp.1
  obtain ⟨⟨-, -, -, -, -, -, hcode, -, hy, hlen, hl⟩, hin, hse⟩ := cw
  obtain ⟨hx, hb, hml, ho, -⟩ := S
  obtain ⟨-, ⟨cellB, hcB, hoB, hclB⟩, hPc⟩ := hp
  intro T hT X
  rcases vx_callV X hx (C := C) (bytes := bytes) (maxL := maxL) (ret := ret) ho hl hin hse hcode hy hK (by rw [hT]; exact hcB) hoB hclB hg (hsize.trans hml.symm) (argsL := As) (rest := rest) (fun sig h => hn.trans (hlen sig h)) hstack hW (by rw [hb]; exact hdg)
    (fun vm₁ hW₁ => ⟨hf.1, hf.2, hPc (T.setVm vm₁) hT hW₁⟩) with ⟨v, vm₁, ⟨U', l2, c2, s2⟩, hW₁, X', ⟨g', mk, t, L, e1, e2, hq, h1, hL, h2, h3⟩, st⟩ | ⟨q, vm₁, ⟨U', l2, c2, s2⟩, hW₁, X', ⟨g', mk, t, L, E, ce, e1, e2, hq, hce, hcv, hcl, h1, hL, h2, h3⟩, st⟩
  · dsimp only [Pt.U, Pt.locs, Pt.cells, Pt.slots] at X' e1 e2 h1 h2 h3 st
    subst h1; subst h2; subst h3
    exact Or.inl ⟨v, (T.setVm vm₁).calling g' mk (Value.ref b :: As).toArray, t, U', L, hT, X', hL, e1, e2, hq, st⟩
  · dsimp only [Pt.U, Pt.locs, Pt.cells, Pt.slots] at X' e1 e2 h1 h2 h3 st hcl
    subst h1; subst h2; subst h3
    exact Or.inr ⟨q, (T.setVm vm₁).calling g' mk (Value.ref b :: As).toArray, t, U', L, E, ce, hT, X', hL, e1, e2, hq, hce, hcv, vx_cls hW₁ hcl, st⟩
theorem vx_runS (S : CallFix p m c cc nL s args Ts own) (hM : vx_Met l y ws rm Pc Qc XC mc ms free) (cw : CallB R s args own index y bytes maxL ret ws rm mc ms n ∧ (Cond.static y).before args s = true) (hp : PreS s H Pc As)
    (hg : g.method = m) (hn : As.length = n) (hsize : g.locals.size = nL) (hstack : g.stack = As.reverse ++ rest) (hW : 2 * g.monitorRoom + (rest.map fun v => v.category).sum ≤ 8) (hdg : decode cc g.pc = .ok (.invokestatic index, 3)) (hf : cells + mc ≤ R.cells ∧ slots + ms ≤ R.slots) :
    vx_Run p l e R s m args below meth c H locs cells slots mc ms g rest (Qc As.toArray) XC free := by
  have hK : vx_Back l R p e below s args y 3 8 (PreOf R mc ms Pc) (PostOf Qc mc ms free) (vx_Post XC mc ms free) := vx_callBack cw.1 hM hp.1
  obtain ⟨⟨-, -, -, -, -, -, hcode, hini, hy, hlen, hl⟩, hstt⟩ := cw
  obtain ⟨hx, hb, hml, ho, -⟩ := S
  intro T hT X
  rcases vx_callS X hx (bytes := bytes) (maxL := maxL) (ret := ret) ho hl hstt hini hcode hy hK hg (hsize.trans hml.symm) (argsL := As) (rest := rest) (fun sig h => hn.trans (hlen sig h)) hstack hW (by rw [hb]; exact hdg)
    (fun vm₁ hW₁ => ⟨hf.1, hf.2, hp.2 (T.setVm vm₁) hT hW₁⟩) with ⟨v, vm₁, ⟨U', l2, c2, s2⟩, hW₁, X', ⟨g', mk, t, L, e1, e2, hq, h1, hL, h2, h3⟩, st⟩ | ⟨q, vm₁, ⟨U', l2, c2, s2⟩, hW₁, X', ⟨g', mk, t, L, E, ce, e1, e2, hq, hce, hcv, hcl, h1, hL, h2, h3⟩, st⟩
  · dsimp only [Pt.U, Pt.locs, Pt.cells, Pt.slots] at X' e1 e2 h1 h2 h3 st
    subst h1; subst h2; subst h3
    exact Or.inl ⟨v, (T.setVm vm₁).calling g' mk As.toArray, t, U', L, hT, X', hL, e1, e2, hq, st⟩
  · dsimp only [Pt.U, Pt.locs, Pt.cells, Pt.slots] at X' e1 e2 h1 h2 h3 st hcl
    subst h1; subst h2; subst h3
    exact Or.inr ⟨q, (T.setVm vm₁).calling g' mk As.toArray, t, U', L, E, ce, hT, X', hL, e1, e2, hq, hce, hcv, vx_cls hW₁ hcl, st⟩
end Runs
section Rows
variable {p : Program} {l : Launch} {e : Env} {R : Room} {s : State} {m : MethodId} {args : Array Value} {below : List Frame} {meth : Method} {c : Code} {H : Heap} {locs : List Loc} {cells slots : Nat} {Q : State → Prop}
variable {mc ms : Nat} {free : Addr → Prop} {A0 A1 : Nat → Prop} {H0 : Heap} {a : Array Value} {pc : Nat} {ls : Array Slot} {st0 rest : List Value}
theorem vx_keep {st₀ t T' : State} {L : List Loc} (h0 : st₀.heap = H) (e1 : T'.heap = t.heap) (hS : va_S A0 H0 H locs) (hA : ∀ q, q < H.size → A1 q → A0 q) (hf : ∀ q, free q → A0 q) (hL : ∀ q ∈ L, free q.base) (hF : va_F A1 st₀ t) :
    H.size ≤ T'.heap.size ∧ (∀ q : Nat, q < H.size → ¬ A1 q → T'.heap[q]? = H[q]?) ∧ va_S A0 H0 T'.heap (locs ++ L) := by
  obtain ⟨hz, hk⟩ := hF
  rw [h0] at hz hk
  exact ⟨by rw [e1]; exact hz, fun q h1 h2 => by rw [e1]; exact hk q h1 h2,
    ⟨Nat.le_trans hS.1 (by rw [e1]; exact hz), fun q h1 h2 => by rw [e1, hk q (Nat.lt_of_lt_of_le h1 hS.1) (fun z => h2 (hA q (Nat.lt_of_lt_of_le h1 hS.1) z))]; exact hS.2.1 q h1 h2, fun q hq => by
      rcases List.mem_append.mp hq with h | h
      · exact hS.2.2 q h
      · exact hf _ (hL q h)⟩⟩
theorem vx_calli {S SX : Type} {post : Int32 → S → Prop} {px : SX → Prop} {B : S → State → Prop} {BX : String → SX → State → Prop} {AX : Nat → Prop} (hr : vx_Run p l e R s m args below meth c H locs cells slots mc ms (F0 m pc ls st0) rest (va_Qi post B A1 a) (vx_X px BX AX) free) (hS : va_S A0 H0 H locs) (hA : ∀ q, q < H.size → A1 q → A0 q) (hf : ∀ q, free q → A0 q) (hAX : ∀ q, q < H.size → AX q → A0 q)
    (kx : ∀ (E : String) (ce : Cell) (q9 : Addr) (u : SX) (t : State) (H1 : Heap) (locs1 : List Loc), t.heap = H1 → s.vm.Alike t.vm → px u → BX E u t → H.size ≤ H1.size → (∀ q : Nat, q < H.size → ¬ AX q → H1[q]? = H[q]?) → va_S A0 H0 H1 locs1 → H1[q9]? = some ce → ce.vm = .none → s.vm.findClass E = some ce.cls → vx_W p l e R s m args below meth c H1 locs1 (cells + mc) (slots + ms) Q (F0 m pc ls rest) q9)
    (kk : ∀ (r : Int32) (u : S) (t : State) (H1 : Heap) (locs1 : List Loc), t.heap = H1 → s.vm.Alike t.vm → post r u → B u t → H.size ≤ H1.size → (∀ q : Nat, q < H.size → ¬ A1 q → H1[q]? = H[q]?) → va_S A0 H0 H1 locs1 → W p l e R s m args below meth c H1 locs1 (cells + mc) (slots + ms) Q (F0 m (pc + 3) ls (.int r :: rest))) : W p l e R s m args below meth c H locs cells slots Q (F0 m pc ls st0) := by
  intro T hT X
  rcases hr T hT X with ⟨v, st₀, t, T', L, h0, X', hL, e1, e2, ⟨⟨r, u, hv, hp, hb⟩, hF⟩, st⟩ | ⟨q, st₀, t, T', L, E, ce, h0, X', hL, e1, e2, ⟨u, hp, hb, hF⟩, hce, hcv, hcl, st⟩
  · cases hv
    obtain ⟨k1, k2, k3⟩ := vx_keep h0 e1 hS hA hf hL hF
    obtain ⟨t2, a1, b1⟩ := kk r u t T'.heap (locs ++ L) e1.symm (by rw [← e2]; exact X'.warmed.alike) hp hb k1 k2 k3 T' rfl X'
    exact ⟨t2, st t2 a1, b1⟩
  · obtain ⟨k1, k2, k3⟩ := vx_keep h0 e1 hS hAX hf hL hF
    obtain ⟨t2, a1, b1⟩ := kx E ce q u t T'.heap (locs ++ L) e1.symm (by rw [← e2]; exact X'.warmed.alike) hp hb k1 k2 k3 (by rw [e1]; exact hce) hcv hcl T' rfl X'
    exact ⟨t2, st.trans a1, b1⟩
theorem vx_calll {S SX : Type} {post : Int64 → S → Prop} {px : SX → Prop} {B : S → State → Prop} {BX : String → SX → State → Prop} {AX : Nat → Prop} (hr : vx_Run p l e R s m args below meth c H locs cells slots mc ms (F0 m pc ls st0) rest (va_Ql post B A1 a) (vx_X px BX AX) free) (hS : va_S A0 H0 H locs) (hA : ∀ q, q < H.size → A1 q → A0 q) (hf : ∀ q, free q → A0 q) (hAX : ∀ q, q < H.size → AX q → A0 q)
    (kx : ∀ (E : String) (ce : Cell) (q9 : Addr) (u : SX) (t : State) (H1 : Heap) (locs1 : List Loc), t.heap = H1 → s.vm.Alike t.vm → px u → BX E u t → H.size ≤ H1.size → (∀ q : Nat, q < H.size → ¬ AX q → H1[q]? = H[q]?) → va_S A0 H0 H1 locs1 → H1[q9]? = some ce → ce.vm = .none → s.vm.findClass E = some ce.cls → vx_W p l e R s m args below meth c H1 locs1 (cells + mc) (slots + ms) Q (F0 m pc ls rest) q9)
    (kk : ∀ (r : Int64) (u : S) (t : State) (H1 : Heap) (locs1 : List Loc), t.heap = H1 → s.vm.Alike t.vm → post r u → B u t → H.size ≤ H1.size → (∀ q : Nat, q < H.size → ¬ A1 q → H1[q]? = H[q]?) → va_S A0 H0 H1 locs1 → W p l e R s m args below meth c H1 locs1 (cells + mc) (slots + ms) Q (F0 m (pc + 3) ls (.long r :: rest))) : W p l e R s m args below meth c H locs cells slots Q (F0 m pc ls st0) := by
  intro T hT X
  rcases hr T hT X with ⟨v, st₀, t, T', L, h0, X', hL, e1, e2, ⟨⟨r, u, hv, hp, hb⟩, hF⟩, st⟩ | ⟨q, st₀, t, T', L, E, ce, h0, X', hL, e1, e2, ⟨u, hp, hb, hF⟩, hce, hcv, hcl, st⟩
  · cases hv
    obtain ⟨k1, k2, k3⟩ := vx_keep h0 e1 hS hA hf hL hF
    obtain ⟨t2, a1, b1⟩ := kk r u t T'.heap (locs ++ L) e1.symm (by rw [← e2]; exact X'.warmed.alike) hp hb k1 k2 k3 T' rfl X'
    exact ⟨t2, st t2 a1, b1⟩
  · obtain ⟨k1, k2, k3⟩ := vx_keep h0 e1 hS hAX hf hL hF
    obtain ⟨t2, a1, b1⟩ := kx E ce q u t T'.heap (locs ++ L) e1.symm (by rw [← e2]; exact X'.warmed.alike) hp hb k1 k2 k3 (by rw [e1]; exact hce) hcv hcl T' rfl X'
    exact ⟨t2, st.trans a1, b1⟩
theorem vx_callf {S SX : Type} {post : UInt32 → S → Prop} {px : SX → Prop} {B : S → State → Prop} {BX : String → SX → State → Prop} {AX : Nat → Prop} (hr : vx_Run p l e R s m args below meth c H locs cells slots mc ms (F0 m pc ls st0) rest (va_Qf post B A1 a) (vx_X px BX AX) free) (hS : va_S A0 H0 H locs) (hA : ∀ q, q < H.size → A1 q → A0 q) (hf : ∀ q, free q → A0 q) (hAX : ∀ q, q < H.size → AX q → A0 q)
    (kx : ∀ (E : String) (ce : Cell) (q9 : Addr) (u : SX) (t : State) (H1 : Heap) (locs1 : List Loc), t.heap = H1 → s.vm.Alike t.vm → px u → BX E u t → H.size ≤ H1.size → (∀ q : Nat, q < H.size → ¬ AX q → H1[q]? = H[q]?) → va_S A0 H0 H1 locs1 → H1[q9]? = some ce → ce.vm = .none → s.vm.findClass E = some ce.cls → vx_W p l e R s m args below meth c H1 locs1 (cells + mc) (slots + ms) Q (F0 m pc ls rest) q9)
    (kk : ∀ (r : UInt32) (u : S) (t : State) (H1 : Heap) (locs1 : List Loc), t.heap = H1 → s.vm.Alike t.vm → post r u → B u t → H.size ≤ H1.size → (∀ q : Nat, q < H.size → ¬ A1 q → H1[q]? = H[q]?) → va_S A0 H0 H1 locs1 → W p l e R s m args below meth c H1 locs1 (cells + mc) (slots + ms) Q (F0 m (pc + 3) ls (.float r :: rest))) : W p l e R s m args below meth c H locs cells slots Q (F0 m pc ls st0) := by
  intro T hT X
  rcases hr T hT X with ⟨v, st₀, t, T', L, h0, X', hL, e1, e2, ⟨⟨r, u, hv, hp, hb⟩, hF⟩, st⟩ | ⟨q, st₀, t, T', L, E, ce, h0, X', hL, e1, e2, ⟨u, hp, hb, hF⟩, hce, hcv, hcl, st⟩
  · cases hv
    obtain ⟨k1, k2, k3⟩ := vx_keep h0 e1 hS hA hf hL hF
    obtain ⟨t2, a1, b1⟩ := kk r u t T'.heap (locs ++ L) e1.symm (by rw [← e2]; exact X'.warmed.alike) hp hb k1 k2 k3 T' rfl X'
    exact ⟨t2, st t2 a1, b1⟩
  · obtain ⟨k1, k2, k3⟩ := vx_keep h0 e1 hS hAX hf hL hF
    obtain ⟨t2, a1, b1⟩ := kx E ce q u t T'.heap (locs ++ L) e1.symm (by rw [← e2]; exact X'.warmed.alike) hp hb k1 k2 k3 (by rw [e1]; exact hce) hcv hcl T' rfl X'
    exact ⟨t2, st.trans a1, b1⟩
theorem vx_calld {S SX : Type} {post : UInt64 → S → Prop} {px : SX → Prop} {B : S → State → Prop} {BX : String → SX → State → Prop} {AX : Nat → Prop} (hr : vx_Run p l e R s m args below meth c H locs cells slots mc ms (F0 m pc ls st0) rest (va_Qd post B A1 a) (vx_X px BX AX) free) (hS : va_S A0 H0 H locs) (hA : ∀ q, q < H.size → A1 q → A0 q) (hf : ∀ q, free q → A0 q) (hAX : ∀ q, q < H.size → AX q → A0 q)
    (kx : ∀ (E : String) (ce : Cell) (q9 : Addr) (u : SX) (t : State) (H1 : Heap) (locs1 : List Loc), t.heap = H1 → s.vm.Alike t.vm → px u → BX E u t → H.size ≤ H1.size → (∀ q : Nat, q < H.size → ¬ AX q → H1[q]? = H[q]?) → va_S A0 H0 H1 locs1 → H1[q9]? = some ce → ce.vm = .none → s.vm.findClass E = some ce.cls → vx_W p l e R s m args below meth c H1 locs1 (cells + mc) (slots + ms) Q (F0 m pc ls rest) q9)
    (kk : ∀ (r : UInt64) (u : S) (t : State) (H1 : Heap) (locs1 : List Loc), t.heap = H1 → s.vm.Alike t.vm → post r u → B u t → H.size ≤ H1.size → (∀ q : Nat, q < H.size → ¬ A1 q → H1[q]? = H[q]?) → va_S A0 H0 H1 locs1 → W p l e R s m args below meth c H1 locs1 (cells + mc) (slots + ms) Q (F0 m (pc + 3) ls (.double r :: rest))) : W p l e R s m args below meth c H locs cells slots Q (F0 m pc ls st0) := by
  intro T hT X
  rcases hr T hT X with ⟨v, st₀, t, T', L, h0, X', hL, e1, e2, ⟨⟨r, u, hv, hp, hb⟩, hF⟩, st⟩ | ⟨q, st₀, t, T', L, E, ce, h0, X', hL, e1, e2, ⟨u, hp, hb, hF⟩, hce, hcv, hcl, st⟩
  · cases hv
    obtain ⟨k1, k2, k3⟩ := vx_keep h0 e1 hS hA hf hL hF
    obtain ⟨t2, a1, b1⟩ := kk r u t T'.heap (locs ++ L) e1.symm (by rw [← e2]; exact X'.warmed.alike) hp hb k1 k2 k3 T' rfl X'
    exact ⟨t2, st t2 a1, b1⟩
  · obtain ⟨k1, k2, k3⟩ := vx_keep h0 e1 hS hAX hf hL hF
    obtain ⟨t2, a1, b1⟩ := kx E ce q u t T'.heap (locs ++ L) e1.symm (by rw [← e2]; exact X'.warmed.alike) hp hb k1 k2 k3 (by rw [e1]; exact hce) hcv hcl T' rfl X'
    exact ⟨t2, st.trans a1, b1⟩
theorem vx_callv {S SX : Type} {post : S → Prop} {px : SX → Prop} {B : S → State → Prop} {BX : String → SX → State → Prop} {AX : Nat → Prop} (hr : vx_Run p l e R s m args below meth c H locs cells slots mc ms (F0 m pc ls st0) rest (va_Qv post B A1 a) (vx_X px BX AX) free) (hS : va_S A0 H0 H locs) (hA : ∀ q, q < H.size → A1 q → A0 q) (hf : ∀ q, free q → A0 q) (hAX : ∀ q, q < H.size → AX q → A0 q)
    (kx : ∀ (E : String) (ce : Cell) (q9 : Addr) (u : SX) (t : State) (H1 : Heap) (locs1 : List Loc), t.heap = H1 → s.vm.Alike t.vm → px u → BX E u t → H.size ≤ H1.size → (∀ q : Nat, q < H.size → ¬ AX q → H1[q]? = H[q]?) → va_S A0 H0 H1 locs1 → H1[q9]? = some ce → ce.vm = .none → s.vm.findClass E = some ce.cls → vx_W p l e R s m args below meth c H1 locs1 (cells + mc) (slots + ms) Q (F0 m pc ls rest) q9)
    (kk : ∀ (u : S) (t : State) (H1 : Heap) (locs1 : List Loc), t.heap = H1 → s.vm.Alike t.vm → post u → B u t → H.size ≤ H1.size → (∀ q : Nat, q < H.size → ¬ A1 q → H1[q]? = H[q]?) → va_S A0 H0 H1 locs1 → W p l e R s m args below meth c H1 locs1 (cells + mc) (slots + ms) Q (F0 m (pc + 3) ls (rest))) : W p l e R s m args below meth c H locs cells slots Q (F0 m pc ls st0) := by
  intro T hT X
  rcases hr T hT X with ⟨v, st₀, t, T', L, h0, X', hL, e1, e2, ⟨⟨u, hv, hp, hb⟩, hF⟩, st⟩ | ⟨q, st₀, t, T', L, E, ce, h0, X', hL, e1, e2, ⟨u, hp, hb, hF⟩, hce, hcv, hcl, st⟩
  · cases hv
    obtain ⟨k1, k2, k3⟩ := vx_keep h0 e1 hS hA hf hL hF
    obtain ⟨t2, a1, b1⟩ := kk u t T'.heap (locs ++ L) e1.symm (by rw [← e2]; exact X'.warmed.alike) hp hb k1 k2 k3 T' rfl X'
    exact ⟨t2, st t2 a1, b1⟩
  · obtain ⟨k1, k2, k3⟩ := vx_keep h0 e1 hS hAX hf hL hF
    obtain ⟨t2, a1, b1⟩ := kx E ce q u t T'.heap (locs ++ L) e1.symm (by rw [← e2]; exact X'.warmed.alike) hp hb k1 k2 k3 (by rw [e1]; exact hce) hcv hcl T' rfl X'
    exact ⟨t2, st.trans a1, b1⟩
/-- caught by the row x of this method's table; the rows ahead don't take it -/
theorem vx_catch {own name : String} {E : String} {ce : Cell} {q : Addr} (hown : s.vm.findClass own = some m.cls) (pre : List ExceptionTableEntry) (x : ExceptionTableEntry) (suf : List ExceptionTableEntry) (hsplit : c.exceptionTable.toList = pre ++ x :: suf)
    (hpass : ∀ z ∈ pre, covers z pc = false ∨ (z.catchType ≠ 0 ∧ ∃ nm : String, (Cond.classLink own z.catchType nm).before args s = true ∧ va_Nc E nm s)) (hx : covers x pc = true) (h0 : x.catchType ≠ 0)
    (hlink : (Cond.classLink own x.catchType name).before args s = true) (hcast : (Cond.castable E name).before args s = true) (hcell : H[q]? = some ce) (hv : ce.vm = .none) (hcl : s.vm.findClass E = some ce.cls)
    (kk : W p l e R s m args below meth c H locs cells slots Q (F0 m x.handlerPc ls [.ref q])) : vx_W p l e R s m args below meth c H locs cells slots Q (F0 m pc ls rest) q := by
  intro T hT X
  have hpl : e.platform.magicAccessors = ({} : Platform).magicAccessors := by rw [X.admits.platform]
  obtain ⟨c3, c4, hc3, hc4, hasg⟩ := Cond.castable_spec hcast
  cases Option.some.inj (hc3.symm.trans hcl)
  obtain ⟨c5, hc5, hcl5⟩ := Cond.classLink_spec hown hlink e.platform hpl
  cases Option.some.inj (hc4.symm.trans hc5)
  obtain ⟨vm', X', st⟩ := X.thenCaughtThrough q (g := F0 m pc ls rest) rfl (Steps.refl _) (by rw [hT]; exact hcell) (by rw [hv]; rfl) (by obtain ⟨k9, h9, -⟩ := Vm.findClass_spec hcl; exact ⟨k9, h9⟩) pre x suf hsplit
    (fun z hz => by
      rcases hpass z hz with h | ⟨hz0, nm, hl1, hn1⟩
      · exact Or.inl h
      · obtain ⟨c6, hc6, hcl6⟩ := Cond.classLink_spec hown hl1 e.platform hpl
        obtain ⟨a8, b8, h1, h2, h3⟩ := hn1
        cases Option.some.inj (h1.symm.trans hcl)
        cases Option.some.inj (h2.symm.trans hc6)
        exact Or.inr ⟨hz0, _, hcl6, h3⟩) hx (Or.inr ⟨h0, c4, hcl5, hasg⟩)
  obtain ⟨t, a1, b1⟩ := kk (T.setVm vm') hT X'
  exact ⟨t, st.trans a1, b1⟩
end Rows
section Ends
variable {p : Program} {l : Launch} {e : Env} {R : Room} {s : State} {m : MethodId} {args : Array Value} {below : List Frame} {meth : Method} {c : Code} {H : Heap} {locs : List Loc} {cells slots : Nat} {Q : State → Prop}
variable {mc ms : Nat} {free : Addr → Prop} {A0 A1 : Nat → Prop} {H0 : Heap} {a : Array Value} {ls : Array Slot} {st0 rest : List Value}
variable {Qc : Array Value → State → Outcome → State → Prop} {XC : String → State → State → Prop}
/-- what a body that may throw owes at its end -/
def vx_MQ (below : List Frame) (Qc : Array Value → State → Outcome → State → Prop) (XC : String → State → State → Prop) (a : Array Value) (s : State) (mc ms : Nat) (free : Addr → Prop) : State → Prop := fun t =>
  ∃ o, t.status = .running ∧ Ended t below o ∧ vx_Q Qc XC mc ms free a s o t
theorem vx_ret {g : JFrame} {mc ms : Nat} (k : W p l e R s m args below meth c H locs cells slots (MQ below Qc args s mc ms free) g) : W p l e R s m args below meth c H locs cells slots (vx_MQ below Qc XC args s mc ms free) g := by
  intro T hT X
  obtain ⟨t, a1, o, b1, b2, b3, b4⟩ := k T hT X
  exact ⟨t, a1, o, b1, b2, Or.inl ⟨b3, b4⟩⟩
/-- not caught here: it goes on to the caller -/
theorem vx_widen {g : JFrame} {q : Addr} {k n : Nat} (h1 : cells ≤ k) (h2 : slots ≤ n) (kk : vx_W p l e R s m args below meth c H locs k n Q g q) : vx_W p l e R s m args below meth c H locs cells slots Q g q := fun T hT X => kk T hT (stand_widen X h1 h2)
theorem vx_out {pc : Nat} {E : String} {ce : Cell} {q : Addr} {mc ms : Nat} (hout : ∀ x ∈ c.exceptionTable.toList, covers x pc = false) (hlocks : meth.locks = false) (hcell : H[q]? = some ce) (hv : ce.vm = .none) (hcl : s.vm.findClass E = some ce.cls)
    (hx : ∀ t : State, t.heap = H → s.vm.Alike t.vm → XC E s t) (hf : ∀ z ∈ locs, free z.base) (hc : cells ≤ mc) (hs : slots ≤ ms) :
    vx_W p l e R s m args below meth c H locs cells slots (vx_MQ below Qc XC args s mc ms free) (F0 m pc ls rest) q := by
  intro T hT X
  obtain ⟨st1, hrun, hend, hW, hsm⟩ := X.leaveThrown q (g := F0 m pc ls rest) rfl rfl rfl hout hlocks
  have hcell9 : (T.setFrames (.throwing q :: below)).heap[q]? = some ce := by
    show T.heap[q]? = some ce
    rw [hT]; exact hcell
  exact ⟨_, st1, .threw q, hrun, hend, Or.inr ⟨q, rfl, E, ce, locs, hx _ hT hW.alike, hcell9, hv, hcl, hW, hsm.mono hc hs, hf⟩⟩
theorem vx_frame {U : State} {k n : Nat} (h : s.sameButNew ({ U with vm := s.vm } : State) locs k n) : s.heap.size ≤ U.heap.size ∧ ∀ q : Nat, q < s.heap.size → (∀ z ∈ locs, z.base ≠ q) → U.heap[q]? = s.heap[q]? := by
  obtain ⟨-, h2, -, -, -, h6⟩ := h
  refine ⟨h2, fun q hq hz => ?_⟩
  obtain ⟨c9, e1, e2, e3, e4⟩ := h6 q _ (Array.getElem?_eq_getElem hq)
  have hs : c9.slots = (s.heap[q]).slots := Array.ext_getElem? fun i => e4 i fun hm => hz _ hm rfl
  have h9 : c9 = s.heap[q] := by
    rw [hs] at e2
    exact e2
  have e5 : U.heap[q]? = some c9 := e1
  rw [e5, h9, Array.getElem?_eq_getElem hq]
/-- the words of a throw but the four that speak of the heap -/
def vx_no (w : Cond) : Bool := decide (w ≠ .isRef (.static Bundle.tN "UNASSIGNED_STACK" Bundle.steD)) && decide (w ≠ .isRef (.static Bundle.tN "SUPPRESSED_SENTINEL" Bundle.listD)) && decide (w ≠ .laysStatic Bundle.tN "UNASSIGNED_STACK" Bundle.steD) && decide (w ≠ .laysStatic Bundle.tN "SUPPRESSED_SENTINEL" Bundle.listD)
def vx_at0 (own : String) (ic : Nat) (X : String) (names : List String) : List Cond := (Bundle.ownAtoms0 own ic X names).filter vx_no
def vx_atS (own : String) (ic : Nat) (X : String) (names : List String) : List Cond := (Bundle.ownAtoms own ic X names).filter vx_no
/-- a word that the tables alone decide, or a good one -/
def vx_ot (w : Cond) : Bool := w.onTables || goodWord w
theorem vx_ot_at {args a' : Array Value} {s U : State} {w : Cond} (hW : s.WarmedH U.vm) (hvm : s.vm = U.vm) (hg : vx_ot w = true) (h : w.before args s = true) : w.before a' U = true := by
  simp only [vx_ot, Bool.or_eq_true] at hg
  rcases hg with hg | hg
  · exact va_tabs hg hvm h
  · exact word_at hW (good_of_word hg) h
/-- a list's words: the good ones out of the method's own list, the others by premises of their own -/
theorem vx_hat {args : Array Value} {s : State} {L B : List Cond} (h1 : ∀ w ∈ L.filter goodWord, w.before args s = true) (h2 : ∀ w ∈ L.filter (fun w => !goodWord w), w ∈ B) (h3 : ∀ w ∈ B, w.before args s = true) : ∀ w ∈ L, w.before args s = true := by
  intro w hw
  by_cases g : goodWord w = true
  · exact h1 w (List.mem_filter.mpr ⟨hw, g⟩)
  · refine h3 w (h2 w (List.mem_filter.mpr ⟨hw, ?_⟩))
    show (!goodWord w) = true
    cases hgw : goodWord w
    · rfl
    · exact absurd hgw g
theorem vx_c {args : Array Value} {s : State} {w : Cond} {B : List Cond} (h : w.before args s = true) (t : ∀ w ∈ B, w.before args s = true) : ∀ w' ∈ w :: B, w'.before args s = true := fun w' h' => (List.mem_cons.mp h').elim (fun e => by rw [e]; exact h) (t w')
theorem vx_n {args : Array Value} {s : State} : ∀ w ∈ ([] : List Cond), w.before args s = true := fun _ h => nomatch h
theorem vx_own {args : Array Value} {s : State} {L : List Cond} (h1 : ∀ w ∈ L.filter vx_no, w.before args s = true)
    (hU : (Cond.isRef (.static Bundle.tN "UNASSIGNED_STACK" Bundle.steD)).before args s = true) (hN : (Cond.isRef (.static Bundle.tN "SUPPRESSED_SENTINEL" Bundle.listD)).before args s = true)
    (lU : (Cond.laysStatic Bundle.tN "UNASSIGNED_STACK" Bundle.steD).before args s = true) (lN : (Cond.laysStatic Bundle.tN "SUPPRESSED_SENTINEL" Bundle.listD).before args s = true) : ∀ w ∈ L, w.before args s = true := by
  intro w hw
  by_cases e1 : w = .isRef (.static Bundle.tN "UNASSIGNED_STACK" Bundle.steD)
  · rw [e1]; exact hU
  · by_cases e2 : w = .isRef (.static Bundle.tN "SUPPRESSED_SENTINEL" Bundle.listD)
    · rw [e2]; exact hN
    · by_cases e3 : w = .laysStatic Bundle.tN "UNASSIGNED_STACK" Bundle.steD
      · rw [e3]; exact lU
      · by_cases e4 : w = .laysStatic Bundle.tN "SUPPRESSED_SENTINEL" Bundle.listD
        · rw [e4]; exact lN
        · exact h1 w (List.mem_filter.mpr ⟨hw, by unfold vx_no; rw [decide_eq_true e1, decide_eq_true e2, decide_eq_true e3, decide_eq_true e4]; rfl⟩)
/-- where a static field lies, its class's statics cell in H -/
def vx_L (C n d : String) (A : Nat → Prop) (U : State) (H : Heap) : Prop := ∃ (c : ClassId) (k : Class) (i : Nat) (f : Field) (a : Nat) (cell : Cell), U.vm.findClass C = some c ∧ U.fieldFound? C n d = some (c, k, i, f) ∧ f.isStatic = true ∧ k.statics = some a ∧ H[a]? = some cell ∧ cell.vm.isStatics = true ∧ cell.cls = c ∧ f.slot < cell.slots.size ∧ k.staticTypes[f.slot]? = some f.type ∧ ¬ A a
theorem vx_L.moved {C n d : String} {A : Nat → Prop} {u U : State} {H : Heap} (hvm : u.vm.Alike U.vm) (h : vx_L C n d A u H) : vx_L C n d A U H := by
  obtain ⟨c, k, i, f, a, cell, h1, h2, h3, h4, h5, h6, h7, h8, h9, h10⟩ := h
  obtain ⟨k', hi', he⟩ := State.fieldFound?_setVm hvm h2
  exact ⟨c, k', i, f, a, cell, by rw [hvm.findClass]; exact h1, hi', h3, by rw [he]; exact h4, h5, h6, h7, h8, by rw [he]; exact h9, h10⟩
theorem vx_L.kept {C n d : String} {A : Nat → Prop} {U : State} {H H1 : Heap} (h : vx_L C n d A U H) (hq : ∀ a : Nat, a < H.size → ¬ A a → H1[a]? = H[a]?) : vx_L C n d A U H1 := by
  obtain ⟨c, k, i, f, a, cell, h1, h2, h3, h4, h5, h6, h7, h8, h9, h10⟩ := h
  exact ⟨c, k, i, f, a, cell, h1, h2, h3, h4, by rw [hq a (Array.getElem?_eq_some_iff.mp h5).1 h10]; exact h5, h6, h7, h8, h9, h10⟩
theorem vx_L.narrow {C n d : String} {A B : Nat → Prop} {U : State} {H : Heap} (h : vx_L C n d A U H) (hAB : ∀ q, B q → A q) : vx_L C n d B U H := by
  obtain ⟨c, k, i, f, a, cell, h1, h2, h3, h4, h5, h6, h7, h8, h9, h10⟩ := h
  exact ⟨c, k, i, f, a, cell, h1, h2, h3, h4, h5, h6, h7, h8, h9, fun z => h10 (hAB _ z)⟩
theorem vx_L.word {C n d : String} {A : Nat → Prop} {s : State} {args : Array Value} (h : vx_L C n d A s s.heap) : (Cond.laysStatic C n d).before args s = true := by
  obtain ⟨c, k, i, f, a, cell, h1, h2, h3, h4, h5, h6, h7, h8, h9, -⟩ := h
  show (Cond.laysStatic C n d).holds args s none s [] = true
  exact Cond.laysStatic_of h1 h2 h3 h4 h5 h6 h7 h8 h9
/-- .. and what it holds: null or some reference -/
def vx_Zq (C n d : String) (A : Nat → Prop) (U : State) (H : Heap) : Prop := va_Zq C n d A U H ∧ vx_L C n d A U H
theorem vx_Zq.moved {C n d : String} {A : Nat → Prop} {u U : State} {H : Heap} (hvm : u.vm.Alike U.vm) (h : vx_Zq C n d A u H) : vx_Zq C n d A U H := ⟨va_Zq.moved hvm h.1, vx_L.moved hvm h.2⟩
theorem vx_Zq.kept {C n d : String} {A : Nat → Prop} {U : State} {H H1 : Heap} (h : vx_Zq C n d A U H) (hq : ∀ a : Nat, a < H.size → ¬ A a → H1[a]? = H[a]?) : vx_Zq C n d A U H1 := ⟨va_Zq.kept h.1 hq, vx_L.kept h.2 hq⟩
theorem vx_Zq.narrow {C n d : String} {A B : Nat → Prop} {U : State} {H : Heap} (h : vx_Zq C n d A U H) (hAB : ∀ q, B q → A q) : vx_Zq C n d B U H := ⟨va_Zq.narrow h.1 hAB, vx_L.narrow h.2 hAB⟩
theorem vx_Zqof {args : Array Value} {s : State} {C n d : String} {A : Nat → Prop} (hl : (Cond.laysStatic C n d).before args s = true) (hini : (Cond.initialized C).before args s = true) (h : (Cond.isRef (.static C n d)).before args s = true) (hA : ∀ a : Nat, a < s.heap.size → ¬ A a) : vx_Zq C n d A s s.heap := by
  refine ⟨va_Zqof hl hini h hA, ?_⟩
  obtain ⟨c, k, i, f, a, cell, h1, h2, h3, h4, h5, h6, h7, h8, h9⟩ := Cond.laysStatic_spec hl
  exact ⟨c, k, i, f, a, cell, h1, h2, h3, h4, h5, h6, h7, h8, h9, hA a (Array.getElem?_eq_some_iff.mp h5).1⟩
theorem vx_isRef {C n d : String} {v : Value} {A : Nat → Prop} {s : State} {args : Array Value} (h : va_Z C n d v A s s.heap) (hv : v.isRef = true) : (Cond.isRef (.static C n d)).before args s = true := by
  obtain ⟨cf, kf, fi, f, a, cell, h1, h2, h3, h4, h5, h6, h7, -⟩ := h
  have he : (Term.static C n d).eval args s none [] s = some v := by
    simp [Term.eval, State.fieldNamed?, h1, h2, h4, h5, h6, h7]
  simp only [Cond.before, Cond.holds, Cond.value, he]
  cases v <;> simp_all [Value.isRef]
theorem vx_isRefq {C n d : String} {A : Nat → Prop} {s : State} {args : Array Value} (h : va_Zq C n d A s s.heap) : (Cond.isRef (.static C n d)).before args s = true := by
  rcases h with h | ⟨t, h⟩
  · exact vx_isRef h rfl
  · exact vx_isRef h rfl
/-- the same frame, seen from here: as if the method were called anew in this heap -/
theorem vx_rebase {T : State} (X : Stand p l e R s m args below meth c T locs cells slots) {R' : Room} (hf : R'.frames ≤ R.frames) (hl : R'.locals ≤ R.locals) (hc : cells + R'.cells ≤ R.cells) (hs : slots + R'.slots ≤ R.slots) :
    Stand p l e R' ((T.setVm s.vm).setFrames (.invoking m args :: below)) m args below meth c T [] 0 0 := by
  have htop : (T.setVm s.vm).topJava?.isSome := X.here.top
  have hF : ((T.setVm s.vm).setFrames (.invoking m args :: below)).frames = .invoking m args :: below := State.frames_setFrames _ (State.cur_lt_of_top htop)
  obtain ⟨g₀, hg0⟩ := Option.isSome_iff_exists.mp htop
  obtain ⟨r, hr⟩ := State.topJava?_eq_some.mp hg0
  have hl9 : e.platform.stackLimits (T.setVm s.vm).me = e.platform.stackLimits s.me := X.limits
  have hb9 : (T.setVm s.vm).me.stackBytes = s.me.stackBytes := X.bytes
  refine ⟨X.admits, X.cas, X.clock, hF, ?_, X.hears, X.method, X.code, X.here, X.tail, X.warmed, ?_, ?_, ?_⟩
  · have h := X.room
    have hU : ((T.setVm s.vm).setFrames (.invoking m args :: below)).localsInUse = s.localsInUse := by
      rw [State.localsInUse_invoking hF (meth := meth) (c := c) X.method X.code, State.localsInUse_invoking X.frames X.method X.code]
    simp only [State.hasRoom, Bool.and_eq_true, decide_eq_true_eq] at h ⊢
    obtain ⟨⟨⟨⟨h1, h2, h3, h4, h5, h6⟩, h7⟩, h8⟩, h9⟩ := h
    rw [X.frames, List.length_cons] at h2 h3
    have q1 := X.heapSize
    have q2 := X.used
    simp only [hF, hU, List.length_cons, State.stackLimits_setFrames, State.stackBytes_setFrames, hl9, hb9]
    refine ⟨⟨⟨⟨by omega, by omega, by omega, by omega, by omega, h6⟩, ?_⟩, ?_⟩, X.book⟩
    · show T.heap.size + R'.cells ≤ e.platform.maxCells
      omega
    · show T.slotsUsed + R'.slots ≤ e.platform.maxSlots
      omega
  · rw [State.stackLimits_setFrames]; rfl
  · rw [State.stackBytes_setFrames]; rfl
  · refine ⟨?_, Nat.le_refl _, Nat.le_refl _, ?_, ?_, fun a c9 h9 => ⟨c9, h9, rfl, rfl, fun _ _ => rfl⟩⟩
    · obtain ⟨t, ht, -⟩ := State.frames_cons hr
      show T.setVm s.vm = { ((T.setVm s.vm).setFrames (.invoking m args :: below)).setFrames (T.setVm s.vm).frames with heap := T.heap, slotsUsed := T.slotsUsed }
      rw [State.setFrames_setFrames, State.setFrames_self ht]
      rfl
    · show T.slotsUsed = T.slotsUsed + ((T.heap.toList.drop T.heap.size).map (·.slots.size)).sum
      rw [List.drop_eq_nil_of_le (Nat.le_of_eq Array.length_toList)]
      rfl
    · show ((T.heap.toList.drop T.heap.size).map (·.slots.size)).sum ≤ 0
      rw [List.drop_eq_nil_of_le (Nat.le_of_eq Array.length_toList)]
      exact Nat.le_refl _
/-- 'throw new E()': new; dup; invokespecial; athrow -/
theorem vx_throw0 {cc : ByteArray} {pc : Nat} (hexec : p.tables.exec = Jvm.exec) (hb : c.code = cc) (hl : l.stackTraces = false) {own cls : String} {names : List String} {ik ic mc ms : Nat} {A : Nat → Prop}
    (hown : s.vm.findClass own = some m.cls) (hcls : Bundle.fit cls = true) (hnames : ∀ n ∈ names, Bundle.fit n = true)
    (hk : (Cond.classLink own ik cls).before args s = true) (hini : (Cond.initialized cls).before args s = true) (hat : ∀ w ∈ vx_at0 own ic cls names, w.before args s = true)
    (hgood : ∀ w ∈ Cond.classLink own ik cls :: Cond.initialized cls :: vx_at0 own ic cls names, vx_ot w = true)
    (hU : vx_Zq Bundle.tN "UNASSIGNED_STACK" Bundle.steD A s s.heap) (hN : vx_Zq Bundle.tN "SUPPRESSED_SENTINEL" Bundle.listD A s s.heap) (hS : va_S A s.heap H locs) (hsize : ls.size = c.maxLocals)
    (d0 : decode cc pc = .ok (.new ik, 3)) (d3 : decode cc (pc + 3) = .ok (.dup, 1)) (d4 : decode cc (pc + 4) = .ok (.invokespecial ic, 3)) (d7 : decode cc (pc + 7) = .ok (.athrow, 1))
    (hout : ∀ x ∈ c.exceptionTable.toList, covers x (pc + 7) = false)
    (hRframes : names.length + 3 < R.frames) (hRlocals : (rest.map fun v => v.category).sum + (13 * (names.length + 1) + 42) ≤ R.locals) (hRcells : cells + 1 ≤ R.cells) (hRslots : slots + 6 ≤ R.slots) (hlocks : meth.locks = false)
    (hx : ∀ t : State, s.vm.Alike t.vm → H.size ≤ t.heap.size → (∀ q : Nat, q < H.size → t.heap[q]? = H[q]?) → XC cls s t)
    (hf : ∀ z ∈ locs, free z.base) (hc : cells + 1 ≤ mc) (hs : slots + 6 ≤ ms) :
    W p l e R s m args below meth c H locs cells slots (vx_MQ below Qc XC args s mc ms free) (F0 m pc ls rest) := by
  intro T hT X
  have htr : e.platform.stackTraces = false := (show e.platform.stackTraces = l.stackTraces by rw [X.admits.platform]).trans hl
  have Y := vx_rebase X (R' := { frames := R.frames, locals := R.locals, cells := 1, slots := 6 }) (Nat.le_refl _) (Nat.le_refl _) hRcells hRslots
  obtain ⟨s', hA⟩ : ∃ z, z = (T.setVm s.vm).setFrames (.invoking m args :: below) := ⟨_, rfl⟩
  rw [← hA] at Y
  have hvm : s'.vm = s.vm := by rw [hA]; rfl
  have hhp : s'.heap = H := by rw [hA]; exact hT
  have hW0 : s.WarmedH s'.vm := by rw [hvm]; exact State.WarmedH.refl s
  have hat' : ∀ w ∈ vx_at0 own ic cls names, w.before args s' = true := fun w hw => vx_ot_at hW0 hvm.symm (hgood w (List.mem_cons_of_mem _ (List.mem_cons_of_mem _ hw))) (hat w hw)
  have hk' : (Cond.classLink own ik cls).before args s' = true := vx_ot_at hW0 hvm.symm (hgood _ List.mem_cons_self) hk
  have hini' : (Cond.initialized cls).before args s' = true := vx_ot_at hW0 hvm.symm (hgood _ (List.mem_cons_of_mem _ List.mem_cons_self)) hini
  have hU' : vx_Zq Bundle.tN "UNASSIGNED_STACK" Bundle.steD A s' s'.heap := by rw [hhp]; exact vx_Zq.moved hW0.alike (hU.kept hS.2.1)
  have hN' : vx_Zq Bundle.tN "SUPPRESSED_SENTINEL" Bundle.listD A s' s'.heap := by rw [hhp]; exact vx_Zq.moved hW0.alike (hN.kept hS.2.1)
  have h : ∀ w ∈ Bundle.ownAtoms0 own ic cls names, w.before args s' = true := vx_own hat' (vx_isRefq hU'.1) (vx_isRefq hN'.1) hU'.2.word hN'.2.word
  have hown' : s'.vm.findClass own = some m.cls := by rw [hvm]; exact hown
  have hins : (Cond.instantiable cls 6).before args s' = true := h _ (by simp [Bundle.ownAtoms0])
  obtain ⟨vm₁, cX, kX, hfX, hkX, -, -, X₁, st1⟩ := Y.newCold hexec (own := own) (C := cls) (index := ik) (n := 6) hown' hk' hins hini'
    (g := F0 m pc ls rest) rfl (by rw [hb]; exact d0) (Nat.le_refl _) (Nat.le_refl _)
  generalize hT1 : (T.setVm vm₁).pushCell { cls := cX, slots := kX.instanceTypes.map defaultValue, vm := .none } = T1 at X₁ st1
  have hcat : (Value.ref T.heap.size).category = 1 := rfl
  have hcellA : T1.heap[T.heap.size]? = some (freshCell cX kX) := by rw [← hT1]; exact State.heap_pushCell_size _ _
  have d3' : decode c.code (pc + 3) = .ok (.dup, 1) := by rw [hb]; exact d3
  obtain ⟨U, hsteps, hrun, hend, hW, hsame, ce, hce, hO⟩ := X₁.ctorThrow0 hexec htr (own := own) (cls := cls) (names := names) (ic := ic) hown' hcls hnames h (fun x hx => nomatch hx) hfX hkX hcellA (by rw [hhp, hT]; exact Nat.le_refl _)
    (g := { method := m, pc := pc + 4, locals := ls, stack := .ref T.heap.size :: .ref T.heap.size :: rest, locked := none }) rfl hsize rfl rfl (rest := rest) rfl
    (by rw [hb]; exact d4) (by rw [hb]; exact d7) hout hRframes (by simp only [List.map_cons, List.sum_cons, hcat]; omega) hlocks
  obtain ⟨f1, f2⟩ := vx_frame hsame
  rw [hhp] at f1 f2
  have hWs : s.WarmedH U.vm := State.WarmedH.trans hW0 hW
  have hcl : s.vm.findClass cls = some ce.cls := by
    have h9 := hO.cls
    rw [hvm] at h9
    exact h9
  have hall : s.sameButNew ({ U with vm := s.vm } : State) locs mc ms := by
    subst hA
    obtain ⟨e1, e2⟩ := hsame
    rw [State.setFrames_setFrames] at e1
    have h2 : (T.setVm s.vm).sameButNew ({ U with vm := s.vm } : State) [] (0 + 1) (0 + 6) := ⟨e1, e2⟩
    have h3 := X.same.trans h2
    rw [List.append_nil] at h3
    exact h3.mono hc hs
  refine ⟨U, ?_, .threw T.heap.size, hrun, hend, Or.inr ⟨T.heap.size, rfl, cls, ce, locs, hx U hWs.alike f1 (fun q hq => f2 q hq (fun z hz => nomatch hz)), hce, hO.vm, hcl, hWs, hall, hf⟩⟩
  refine st1 _ ?_
  show Steps p.tables e below (T1.setTop { method := m, pc := pc + 3, locals := ls, stack := .ref T.heap.size :: rest, locked := none }) _
  jvm_step X₁.here [X₁.here.top, hexec, d3', Value.category]
  exact hsteps
/-- 'throw new E("text")': new; dup; ldc; invokespecial; athrow -/
theorem vx_throwS {cc : ByteArray} {pc : Nat} (hexec : p.tables.exec = Jvm.exec) (hb : c.code = cc) (hl : l.stackTraces = false) {own cls text : String} {names : List String} {ik is ic mc ms sa : Nat} {A : Nat → Prop}
    (hown : s.vm.findClass own = some m.cls) (hcls : Bundle.fit cls = true) (hnames : ∀ n ∈ names, Bundle.fit n = true)
    (hk : (Cond.classLink own ik cls).before args s = true) (hini : (Cond.initialized cls).before args s = true) (hstr : vk_R own is text sa s) (hat : ∀ w ∈ vx_atS own ic cls names, w.before args s = true)
    (hgood : ∀ w ∈ Cond.classLink own ik cls :: Cond.initialized cls :: vx_atS own ic cls names, vx_ot w = true)
    (hU : vx_Zq Bundle.tN "UNASSIGNED_STACK" Bundle.steD A s s.heap) (hN : vx_Zq Bundle.tN "SUPPRESSED_SENTINEL" Bundle.listD A s s.heap) (hS : va_S A s.heap H locs) (hsize : ls.size = c.maxLocals)
    (d0 : decode cc pc = .ok (.new ik, 3)) (d3 : decode cc (pc + 3) = .ok (.dup, 1)) (d4 : decode cc (pc + 4) = .ok (.ldc is, 2)) (d6 : decode cc (pc + 6) = .ok (.invokespecial ic, 3)) (d9 : decode cc (pc + 9) = .ok (.athrow, 1))
    (hout : ∀ x ∈ c.exceptionTable.toList, covers x (pc + 9) = false)
    (hRframes : names.length + 3 < R.frames) (hRlocals : (rest.map fun v => v.category).sum + (13 * (names.length + 1) + 43) ≤ R.locals) (hRcells : cells + 1 ≤ R.cells) (hRslots : slots + 6 ≤ R.slots) (hlocks : meth.locks = false)
    (hx : ∀ t : State, s.vm.Alike t.vm → H.size ≤ t.heap.size → (∀ q : Nat, q < H.size → t.heap[q]? = H[q]?) → XC cls s t)
    (hf : ∀ z ∈ locs, free z.base) (hc : cells + 1 ≤ mc) (hs : slots + 6 ≤ ms) :
    W p l e R s m args below meth c H locs cells slots (vx_MQ below Qc XC args s mc ms free) (F0 m pc ls rest) := by
  intro T hT X
  have htr : e.platform.stackTraces = false := (show e.platform.stackTraces = l.stackTraces by rw [X.admits.platform]).trans hl
  have Y := vx_rebase X (R' := { frames := R.frames, locals := R.locals, cells := 1, slots := 6 }) (Nat.le_refl _) (Nat.le_refl _) hRcells hRslots
  obtain ⟨s', hA⟩ : ∃ z, z = (T.setVm s.vm).setFrames (.invoking m args :: below) := ⟨_, rfl⟩
  rw [← hA] at Y
  have hvm : s'.vm = s.vm := by rw [hA]; rfl
  have hhp : s'.heap = H := by rw [hA]; exact hT
  have hW0 : s.WarmedH s'.vm := by rw [hvm]; exact State.WarmedH.refl s
  have hat' : ∀ w ∈ vx_atS own ic cls names, w.before args s' = true := fun w hw => vx_ot_at hW0 hvm.symm (hgood w (List.mem_cons_of_mem _ (List.mem_cons_of_mem _ hw))) (hat w hw)
  have hk' : (Cond.classLink own ik cls).before args s' = true := vx_ot_at hW0 hvm.symm (hgood _ List.mem_cons_self) hk
  have hini' : (Cond.initialized cls).before args s' = true := vx_ot_at hW0 hvm.symm (hgood _ (List.mem_cons_of_mem _ List.mem_cons_self)) hini
  have hU' : vx_Zq Bundle.tN "UNASSIGNED_STACK" Bundle.steD A s' s'.heap := by rw [hhp]; exact vx_Zq.moved hW0.alike (hU.kept hS.2.1)
  have hN' : vx_Zq Bundle.tN "SUPPRESSED_SENTINEL" Bundle.listD A s' s'.heap := by rw [hhp]; exact vx_Zq.moved hW0.alike (hN.kept hS.2.1)
  have h : ∀ w ∈ Bundle.ownAtoms own ic cls names, w.before args s' = true := vx_own hat' (vx_isRefq hU'.1) (vx_isRefq hN'.1) hU'.2.word hN'.2.word
  have hown' : s'.vm.findClass own = some m.cls := by rw [hvm]; exact hown
  have hins : (Cond.instantiable cls 6).before args s' = true := h _ (by simp [Bundle.ownAtoms])
  obtain ⟨vm₁, cX, kX, hfX, hkX, -, -, X₁, st1⟩ := Y.newCold hexec (own := own) (C := cls) (index := ik) (n := 6) hown' hk' hins hini'
    (g := F0 m pc ls rest) rfl (by rw [hb]; exact d0) (Nat.le_refl _) (Nat.le_refl _)
  generalize hT1 : (T.setVm vm₁).pushCell { cls := cX, slots := kX.instanceTypes.map defaultValue, vm := .none } = T1 at X₁ st1
  have hcat : (Value.ref T.heap.size).category = 1 := rfl
  have hcellA : T1.heap[T.heap.size]? = some (freshCell cX kX) := by rw [← hT1]; exact State.heap_pushCell_size _ _
  have d3' : decode c.code (pc + 3) = .ok (.dup, 1) := by rw [hb]; exact d3
  have d4' : decode c.code (pc + 4) = .ok (.ldc is, 2) := by rw [hb]; exact d4
  have hstr' : vk_R own is text sa s' := vk_R.warm hW0 hstr
  obtain ⟨U, hsteps, hrun, hend, hW, hsame, ce, hce, hO⟩ := X₁.ctorThrowS hexec htr (own := own) (cls := cls) (names := names) (ic := ic) hown' hcls hnames h (fun x hx => nomatch hx) hfX hkX hcellA (by rw [hhp, hT]; exact Nat.le_refl _) (msg := .ref sa) rfl
    (g := { method := m, pc := pc + 6, locals := ls, stack := .ref sa :: .ref T.heap.size :: .ref T.heap.size :: rest, locked := none }) rfl hsize rfl rfl (rest := rest) rfl
    (by rw [hb]; exact d6) (by rw [hb]; exact d9) hout hRframes (by simp only [List.map_cons, List.sum_cons, hcat]; omega) hlocks
  obtain ⟨f1, f2⟩ := vx_frame hsame
  rw [hhp] at f1 f2
  have hWs : s.WarmedH U.vm := State.WarmedH.trans hW0 hW
  have hcl : s.vm.findClass cls = some ce.cls := by
    have h9 := hO.cls
    rw [hvm] at h9
    exact h9
  have hall : s.sameButNew ({ U with vm := s.vm } : State) locs mc ms := by
    subst hA
    obtain ⟨e1, e2⟩ := hsame
    rw [State.setFrames_setFrames] at e1
    have h2 : (T.setVm s.vm).sameButNew ({ U with vm := s.vm } : State) [] (0 + 1) (0 + 6) := ⟨e1, e2⟩
    have h3 := X.same.trans h2
    rw [List.append_nil] at h3
    exact h3.mono hc hs
  refine ⟨U, ?_, .threw T.heap.size, hrun, hend, Or.inr ⟨T.heap.size, rfl, cls, ce, locs, hx U hWs.alike f1 (fun q hq => f2 q hq (fun z hz => nomatch hz)), hce, hO.vm, hcl, hWs, hall, hf⟩⟩
  refine st1 _ ?_
  show Steps p.tables e below (T1.setTop { method := m, pc := pc + 3, locals := ls, stack := .ref T.heap.size :: rest, locked := none }) _
  jvm_step X₁.here [X₁.here.top, hexec, d3', Value.category]
  exact X₁.ldcString hexec (own := own) (text := text) (index := is) (a := sa) hown' hstr'.1 hstr'.2
    (g := { method := m, pc := pc + 4, locals := ls, stack := .ref T.heap.size :: .ref T.heap.size :: rest, locked := none }) rfl d4' _ hsteps
/-- 'throw new E("text")', the text by a wide index -/
theorem vx_throwSW {cc : ByteArray} {pc : Nat} (hexec : p.tables.exec = Jvm.exec) (hb : c.code = cc) (hl : l.stackTraces = false) {own cls text : String} {names : List String} {ik is ic mc ms sa : Nat} {A : Nat → Prop}
    (hown : s.vm.findClass own = some m.cls) (hcls : Bundle.fit cls = true) (hnames : ∀ n ∈ names, Bundle.fit n = true)
    (hk : (Cond.classLink own ik cls).before args s = true) (hini : (Cond.initialized cls).before args s = true) (hstr : vk_R own is text sa s) (hat : ∀ w ∈ vx_atS own ic cls names, w.before args s = true)
    (hgood : ∀ w ∈ Cond.classLink own ik cls :: Cond.initialized cls :: vx_atS own ic cls names, vx_ot w = true)
    (hU : vx_Zq Bundle.tN "UNASSIGNED_STACK" Bundle.steD A s s.heap) (hN : vx_Zq Bundle.tN "SUPPRESSED_SENTINEL" Bundle.listD A s s.heap) (hS : va_S A s.heap H locs) (hsize : ls.size = c.maxLocals)
    (d0 : decode cc pc = .ok (.new ik, 3)) (d3 : decode cc (pc + 3) = .ok (.dup, 1)) (d4 : decode cc (pc + 4) = .ok (.ldc_w is, 3)) (d7 : decode cc (pc + 7) = .ok (.invokespecial ic, 3)) (d10 : decode cc (pc + 10) = .ok (.athrow, 1))
    (hout : ∀ x ∈ c.exceptionTable.toList, covers x (pc + 10) = false)
    (hRframes : names.length + 3 < R.frames) (hRlocals : (rest.map fun v => v.category).sum + (13 * (names.length + 1) + 43) ≤ R.locals) (hRcells : cells + 1 ≤ R.cells) (hRslots : slots + 6 ≤ R.slots) (hlocks : meth.locks = false)
    (hx : ∀ t : State, s.vm.Alike t.vm → H.size ≤ t.heap.size → (∀ q : Nat, q < H.size → t.heap[q]? = H[q]?) → XC cls s t)
    (hf : ∀ z ∈ locs, free z.base) (hc : cells + 1 ≤ mc) (hs : slots + 6 ≤ ms) :
    W p l e R s m args below meth c H locs cells slots (vx_MQ below Qc XC args s mc ms free) (F0 m pc ls rest) := by
  intro T hT X
  have htr : e.platform.stackTraces = false := (show e.platform.stackTraces = l.stackTraces by rw [X.admits.platform]).trans hl
  have Y := vx_rebase X (R' := { frames := R.frames, locals := R.locals, cells := 1, slots := 6 }) (Nat.le_refl _) (Nat.le_refl _) hRcells hRslots
  obtain ⟨s', hA⟩ : ∃ z, z = (T.setVm s.vm).setFrames (.invoking m args :: below) := ⟨_, rfl⟩
  rw [← hA] at Y
  have hvm : s'.vm = s.vm := by rw [hA]; rfl
  have hhp : s'.heap = H := by rw [hA]; exact hT
  have hW0 : s.WarmedH s'.vm := by rw [hvm]; exact State.WarmedH.refl s
  have hat' : ∀ w ∈ vx_atS own ic cls names, w.before args s' = true := fun w hw => vx_ot_at hW0 hvm.symm (hgood w (List.mem_cons_of_mem _ (List.mem_cons_of_mem _ hw))) (hat w hw)
  have hk' : (Cond.classLink own ik cls).before args s' = true := vx_ot_at hW0 hvm.symm (hgood _ List.mem_cons_self) hk
  have hini' : (Cond.initialized cls).before args s' = true := vx_ot_at hW0 hvm.symm (hgood _ (List.mem_cons_of_mem _ List.mem_cons_self)) hini
  have hU' : vx_Zq Bundle.tN "UNASSIGNED_STACK" Bundle.steD A s' s'.heap := by rw [hhp]; exact vx_Zq.moved hW0.alike (hU.kept hS.2.1)
  have hN' : vx_Zq Bundle.tN "SUPPRESSED_SENTINEL" Bundle.listD A s' s'.heap := by rw [hhp]; exact vx_Zq.moved hW0.alike (hN.kept hS.2.1)
  have h : ∀ w ∈ Bundle.ownAtoms own ic cls names, w.before args s' = true := vx_own hat' (vx_isRefq hU'.1) (vx_isRefq hN'.1) hU'.2.word hN'.2.word
  have hown' : s'.vm.findClass own = some m.cls := by rw [hvm]; exact hown
  have hins : (Cond.instantiable cls 6).before args s' = true := h _ (by simp [Bundle.ownAtoms])
  obtain ⟨vm₁, cX, kX, hfX, hkX, -, -, X₁, st1⟩ := Y.newCold hexec (own := own) (C := cls) (index := ik) (n := 6) hown' hk' hins hini'
    (g := F0 m pc ls rest) rfl (by rw [hb]; exact d0) (Nat.le_refl _) (Nat.le_refl _)
  generalize hT1 : (T.setVm vm₁).pushCell { cls := cX, slots := kX.instanceTypes.map defaultValue, vm := .none } = T1 at X₁ st1
  have hcat : (Value.ref T.heap.size).category = 1 := rfl
  have hcellA : T1.heap[T.heap.size]? = some (freshCell cX kX) := by rw [← hT1]; exact State.heap_pushCell_size _ _
  have d3' : decode c.code (pc + 3) = .ok (.dup, 1) := by rw [hb]; exact d3
  have d4' : decode c.code (pc + 4) = .ok (.ldc_w is, 3) := by rw [hb]; exact d4
  have hstr' : vk_R own is text sa s' := vk_R.warm hW0 hstr
  obtain ⟨U, hsteps, hrun, hend, hW, hsame, ce, hce, hO⟩ := X₁.ctorThrowS hexec htr (own := own) (cls := cls) (names := names) (ic := ic) hown' hcls hnames h (fun x hx => nomatch hx) hfX hkX hcellA (by rw [hhp, hT]; exact Nat.le_refl _) (msg := .ref sa) rfl
    (g := { method := m, pc := pc + 7, locals := ls, stack := .ref sa :: .ref T.heap.size :: .ref T.heap.size :: rest, locked := none }) rfl hsize rfl rfl (rest := rest) rfl
    (by rw [hb]; exact d7) (by rw [hb]; exact d10) hout hRframes (by simp only [List.map_cons, List.sum_cons, hcat]; omega) hlocks
  obtain ⟨f1, f2⟩ := vx_frame hsame
  rw [hhp] at f1 f2
  have hWs : s.WarmedH U.vm := State.WarmedH.trans hW0 hW
  have hcl : s.vm.findClass cls = some ce.cls := by
    have h9 := hO.cls
    rw [hvm] at h9
    exact h9
  have hall : s.sameButNew ({ U with vm := s.vm } : State) locs mc ms := by
    subst hA
    obtain ⟨e1, e2⟩ := hsame
    rw [State.setFrames_setFrames] at e1
    have h2 : (T.setVm s.vm).sameButNew ({ U with vm := s.vm } : State) [] (0 + 1) (0 + 6) := ⟨e1, e2⟩
    have h3 := X.same.trans h2
    rw [List.append_nil] at h3
    exact h3.mono hc hs
  refine ⟨U, ?_, .threw T.heap.size, hrun, hend, Or.inr ⟨T.heap.size, rfl, cls, ce, locs, hx U hWs.alike f1 (fun q hq => f2 q hq (fun z hz => nomatch hz)), hce, hO.vm, hcl, hWs, hall, hf⟩⟩
  refine st1 _ ?_
  show Steps p.tables e below (T1.setTop { method := m, pc := pc + 3, locals := ls, stack := .ref T.heap.size :: rest, locked := none }) _
  jvm_step X₁.here [X₁.here.top, hexec, d3', Value.category]
  exact X₁.ldcStringW hexec (own := own) (text := text) (index := is) (a := sa) hown' hstr'.1 hstr'.2
    (g := { method := m, pc := pc + 4, locals := ls, stack := .ref T.heap.size :: .ref T.heap.size :: rest, locked := none }) rfl d4' _ hsteps
end Ends
section Bodies
variable {l : Launch}
theorem vx_ofW {y : MethodName} {ws ws' : List Cond} {rm : Room} {Pc : Array Value → State → Prop} {Qc : Array Value → State → Outcome → State → Prop} {XC : String → State → State → Prop} {mc ms : Nat} {free : Addr → Prop} {cc : ByteArray} {maxL : Nat} {ret : Option FieldType}
    (hy : plainName y.cls = true) (hw : ws = Cond.code y cc maxL ret :: ws')
    (body : ∀ p e s m args below meth c s₁, BodyLoose p l y (headSpec ws rm) cc maxL ret e s m args below meth c s₁ → c.maxLocals = maxL → (∀ x ∈ c.exceptionTable.toList, False) → Pc args s →
      W p l e (headSpec ws rm).room s m args below meth c s.heap [] 0 0 (vx_MQ below Qc XC args s mc ms free) (entryFrame m args maxL)) : vx_Met l y ws rm Pc Qc XC mc ms free := by
  refine MetFree.of_bodyS (code := cc) (maxLocals := maxL) (ret := ret) hy ?_ ?_
  · intro args s m h hn
    obtain ⟨meth, c, h1, h2, h3, h4, h5, h6, -, -⟩ := Cond.code_spec hn (atoms_spec (ws := ws) h _ (by rw [hw]; exact List.mem_cons_self))
    exact ⟨meth, c, h1, h2, h3, h4, h5, h6⟩
  · intro p e s m args below meth c s₁ B hml hP _
    have hh0 : s₁.heap = s.heap := by rw [B.state]; rfl
    have ht : ∀ x ∈ c.exceptionTable.toList, False := by
      obtain ⟨meth9, c9, h1, h2, -, -, -, -, h7, -⟩ := Cond.code_spec B.named (atoms_spec (ws := ws) B.pre _ (by rw [hw]; exact List.mem_cons_self))
      cases Option.some.inj (h1.symm.trans B.method)
      cases Option.some.inj (h2.symm.trans (Stand.of_body B).code)
      intro x hx
      rw [Array.isEmpty_iff.mp h7] at hx
      cases hx
    obtain ⟨t, a1, o, b1, b2, b3⟩ := body p e s m args below meth c s₁ B hml ht hP s₁ hh0 (Stand.of_body B)
    exact ⟨t, o, a1, b1, b2, b3⟩
/-- the table of a body with handlers -/
theorem vx_table {p : Program} {x y : MethodName} {S : Spec} {cc bytes : ByteArray} {maxL maxL' : Nat} {ret ret' : Option FieldType} {e : Env} {s s₁ : State} {m : MethodId} {args : Array Value} {below : List Frame} {meth : Method} {c : Code} {hh : List (Nat × Nat × Nat × Nat)}
    (B : BodyLoose p l y S cc maxL ret e s m args below meth c s₁) (h : (Cond.codeWith y bytes maxL' ret' hh).before args s = true) : c.exceptionTable.toList = tableOf hh := by
  obtain ⟨m9, meth9, c9, hn9, h1, h2, -, -, h6, -⟩ := Cond.codeWith_spec h
  cases Option.some.inj (hn9.symm.trans B.named)
  cases Option.some.inj (h1.symm.trans B.method)
  cases Option.some.inj (h2.symm.trans (Stand.of_body B).code)
  rw [← h6, table_eq]
end Bodies
end VXA
/-! ===== END ===== -/
/-! ===== BEGIN a static call of a method with an exception table ===== -/
section VXS
variable {p : Program} {l : Launch} {e : Env} {R : Room} {s : State} {m : MethodId} {args : Array Value} {below : List Frame} {meth : Method} {c : Code} {T : State} {H : Heap} {locs : List Loc} {cells slots : Nat}
abbrev vx_CSW (R : Room) (s : State) (args : Array Value) (own : String) (index : Nat) (y : MethodName) (bytes : ByteArray) (maxL : Nat) (ret : Option FieldType) (hh : List (Nat × Nat × Nat × Nat)) (ws : List Cond) (rm : Room) (mc ms n : Nat) : Prop :=
  (rm.cells = mc ∧ rm.slots = ms ∧ rm.frames + 1 ≤ R.frames ∧ 8 + (maxL + 11) + rm.locals ≤ R.locals ∧ (∀ w ∈ ws, ∀ (a' : Array Value) (U : State), s.WarmedH U.vm → w.before a' U = true) ∧ Cond.codeWith y bytes maxL ret hh ∈ ws) ∧
  (Cond.codeWith y bytes maxL ret hh).before args s = true ∧ (Cond.initialized y.cls).before args s = true ∧ (y.cls ≠ "java/lang/invoke/MethodHandle" ∧ y.cls ≠ "java/lang/invoke/VarHandle") ∧
  (∀ sig, parseMethodDescriptor y.desc = some sig → n = sig.parameters.length) ∧ (Cond.methodLink own index y).before args s = true ∧ (Cond.static y).before args s = true
theorem vx_cwSW {own : String} {index maxL mc ms : Nat} {y : MethodName} {bytes : ByteArray} {ret : Option FieldType} {hh : List (Nat × Nat × Nat × Nat)} {Ts ws ws' : List Cond} {rm : Room} (n : Nat) (ht : ∀ w ∈ Ts, w.before args s = true) (hT : GoodIn Ts (va_wsS own index y ws)) (hw : ws = Cond.codeWith y bytes maxL ret hh :: ws') (hrc : rm.cells = mc) (hrs : rm.slots = ms)
    (hd : y.cls ≠ "java/lang/invoke/MethodHandle" ∧ y.cls ≠ "java/lang/invoke/VarHandle" ∧ (parseMethodDescriptor y.desc).map (fun d => d.parameters.length) = some n) (hR : rm.frames + 1 ≤ R.frames ∧ 8 + (maxL + 11) + rm.locals ≤ R.locals) :
    vx_CSW R s args own index y bytes maxL ret hh ws rm mc ms n := by
  have ok : ∀ w ∈ va_wsS own index y ws, w.before args s = true := fun w h => ht w (hT w h).1
  have hG : GoodIn Ts ws := fun w h => hT w (by unfold va_wsS; exact List.mem_append_right _ h)
  have hc : Cond.codeWith y bytes maxL ret hh ∈ ws := by rw [hw]; exact List.mem_cons_self
  refine ⟨⟨hrc, hrs, hR.1, hR.2, pay_in ht hG, hc⟩, ht _ (hG _ hc).1, ok _ (by simp [va_wsS]), ⟨hd.1, hd.2.1⟩, fun sig h => ?_, ok _ (by simp [va_wsS]), ok _ (by simp [va_wsS])⟩
  have h2 := hd.2.2
  rw [h] at h2
  exact (Option.some.inj h2).symm
theorem vx_callSW (X : Stand p l e R s m args below meth c T locs cells slots) (hexec : p.tables.exec = Jvm.exec) {own : String} {index : Nat} {y : MethodName} {bytes : ByteArray} {maxL : Nat} {ret : Option FieldType} {hh : List (Nat × Nat × Nat × Nat)}
    (hown : s.vm.findClass own = some m.cls) (hlink : (Cond.methodLink own index y).before args s = true) (hstat : (Cond.static y).before args s = true) (hinit : (Cond.initialized y.cls).before args s = true)
    (hcode : (Cond.codeWith y bytes maxL ret hh).before args s = true) (hy : y.cls ≠ "java/lang/invoke/MethodHandle" ∧ y.cls ≠ "java/lang/invoke/VarHandle")
    {W9 : Nat} {Pre : Pt → Array Value → Prop} {Post : Pt → Array Value → Option Value → Pt → Prop} (hK : Back l R p e below s args y 3 W9 Pre Post)
    {g : JFrame} (hg : g.method = m) (hsize : g.locals.size = c.maxLocals) {argsL rest : List Value} (hlen : ∀ sig, parseMethodDescriptor y.desc = some sig → argsL.length = sig.parameters.length)
    (hstack : g.stack = argsL.reverse ++ rest) (hW : 2 * g.monitorRoom + (rest.map fun v => v.category).sum ≤ W9) (hdg : decode c.code g.pc = .ok (.invokestatic index, 3))
    (hpre : ∀ vm₁, s.WarmedH vm₁ → Pre ⟨T.setVm vm₁, locs, cells, slots⟩ argsL.toArray) :
    ∃ (v : Option Value) (vm₁ : Vm) (B : Pt), s.WarmedH vm₁ ∧ Stand p l e R s m args below meth c B.U B.locs B.cells B.slots ∧ Post ⟨T.setVm vm₁, locs, cells, slots⟩ argsL.toArray v B ∧
      ∀ target, Steps p.tables e below (B.U.setTop { g with pc := g.pc + 3, stack := v.toList ++ rest }) target → Steps p.tables e below (T.setTop g) target := by
  obtain ⟨mk, methM, cM, hnamed, hmethM, -, -, -, -, -, -, hsigM⟩ := Cond.codeWith_spec hcode
  have hstatic : methM.isStatic = true := Cond.static_spec hnamed hmethM hstat
  obtain ⟨kP, hkP, -⟩ := className_of_methodNamed hnamed
  have hinitP : kP.init = .initialized := Cond.initialized_spec (findClass_of_methodNamed hnamed) hkP hinit
  obtain ⟨vm₁, X₁, hstep₁⟩ := X.invokestatic hexec hown hlink hnamed hmethM hstatic hkP hinitP hy (g := g) hg (argsL := argsL) (rest := rest) (hlen _ hsigM) hstack hdg
  obtain ⟨v, B, X', hpost, hsteps⟩ := hK m meth c ⟨T.setVm vm₁, locs, cells, slots⟩ { g with stack := rest } (.invokestatic index) mk argsL.toArray X₁ hg hsize hdg hW (X₁.named hnamed) (hpre vm₁ X₁.warmed)
  exact ⟨v, vm₁, B, X₁.warmed, X', hpost, fun target h => hstep₁ _ fun acts => by rw [doInvoke_state]; exact hsteps.trans h⟩
theorem vx_runSW {y : MethodName} {bytes cc : ByteArray} {maxL nL mc ms n index : Nat} {ret : Option FieldType} {hh : List (Nat × Nat × Nat × Nat)} {ws : List Cond} {rm : Room} {Pc : Array Value → State → Prop} {Qc : Array Value → State → Outcome → State → Prop} {free : Addr → Prop} {Ts : List Cond} {own : String} {As rest : List Value} {g : JFrame}
    (S : CallFix p m c cc nL s args Ts own) (hM : Met l y ws rm Pc Qc mc ms free) (cw : vx_CSW R s args own index y bytes maxL ret hh ws rm mc ms n) (hp : PreS s H Pc As)
    (hg : g.method = m) (hn : As.length = n) (hsize : g.locals.size = nL) (hstack : g.stack = As.reverse ++ rest) (hW : 2 * g.monitorRoom + (rest.map fun v => v.category).sum ≤ 8) (hdg : decode cc g.pc = .ok (.invokestatic index, 3)) (hf : cells + mc ≤ R.cells ∧ slots + ms ≤ R.slots) :
    va_Run p l e R s m args below meth c H locs cells slots mc ms g rest (Qc As.toArray) (free) := by
  obtain ⟨⟨hrc, hrs, hfr, hlo, hws, hcw⟩, hcode, hini, hy, hlen, hl, hstt⟩ := cw
  have hK : Back l R p e below s args y 3 8 (PreOf R mc ms Pc) (PostOf Qc mc ms free) := va_backW (hh := hh) (bytes := bytes) (maxL := maxL) (ret := ret) hM hp.1 hrc hrs hfr hlo hws hcw (fun a' U hW => word_at hW (Or.inl (by first | rfl | simp [Cond.onTables, Cond.keeps, Cond.steady])) hini)
  obtain ⟨hx, hb, hml, ho, -⟩ := S
  intro T hT X
  obtain ⟨v, vm₁, ⟨U', l2, c2, s2⟩, hW₁, X', ⟨g', mk, t, L, e1, e2, hq, h1, hL, h2, h3⟩, st⟩ := vx_callSW X hx (hh := hh) (bytes := bytes) (maxL := maxL) (ret := ret) ho hl hstt hini hcode hy hK hg (hsize.trans hml.symm) (argsL := As) (rest := rest) (fun sig h => hn.trans (hlen sig h)) hstack hW (by rw [hb]; exact hdg)
    (fun vm₁ hW₁ => ⟨hf.1, hf.2, hp.2 (T.setVm vm₁) hT hW₁⟩)
  dsimp only [Pt.U, Pt.locs, Pt.cells, Pt.slots] at X' e1 e2 h1 h2 h3 st
  subst h1; subst h2; subst h3
  exact ⟨v, (T.setVm vm₁).calling g' mk As.toArray, t, U', L, hT, X', hL, e1, e2, hq, st⟩
/-- not caught here, past rows that name other classes: it goes on to the caller -/
theorem vx_outP {p : Program} {l : Launch} {e : Env} {R : Room} {s : State} {m : MethodId} {args : Array Value} {below : List Frame} {meth : Method} {c : Code} {H : Heap} {locs : List Loc} {cells slots : Nat} {free : Addr → Prop} {ls : Array Slot} {rest : List Value} {Qc : Array Value → State → Outcome → State → Prop} {XC : String → State → State → Prop}
    {pc : Nat} {own E : String} {ce : Cell} {q : Addr} {mc ms : Nat} (hown : s.vm.findClass own = some m.cls) (hlocks : meth.locks = false)
    (hpass : ∀ z ∈ c.exceptionTable.toList, covers z pc = false ∨ (z.catchType ≠ 0 ∧ ∃ nm : String, (Cond.classLink own z.catchType nm).before args s = true ∧ va_Nc E nm s)) (hcell : H[q]? = some ce) (hv : ce.vm = .none) (hcl : s.vm.findClass E = some ce.cls)
    (hx : ∀ t : State, t.heap = H → s.vm.Alike t.vm → XC E s t) (hf : ∀ z ∈ locs, free z.base) (hc : cells ≤ mc) (hs : slots ≤ ms) :
    vx_W p l e R s m args below meth c H locs cells slots (vx_MQ below Qc XC args s mc ms free) (F0 m pc ls rest) q := by
  intro T hT X
  have hpl : e.platform.magicAccessors = ({} : Platform).magicAccessors := by rw [X.admits.platform]
  obtain ⟨vm', hW', X', st⟩ := X.outThrough hlocks q (g := F0 m pc ls rest) rfl rfl rfl (cell := ce) (by rw [hT]; exact hcell) (by rw [hv]; rfl)
    (by obtain ⟨k9, h9, -⟩ := Vm.findClass_spec hcl; exact ⟨k9, h9⟩) (fun z hz => by
      rcases hpass z hz with h | ⟨hz0, nm, hl1, hn1⟩
      · exact Or.inl h
      · obtain ⟨c6, hc6, hcl6⟩ := Cond.classLink_spec hown hl1 e.platform hpl
        obtain ⟨a8, b8, h1, h2, h3⟩ := hn1
        cases Option.some.inj (h1.symm.trans hcl)
        cases Option.some.inj (h2.symm.trans hc6)
        exact Or.inr ⟨hz0, _, hcl6, h3⟩)
  obtain ⟨g₀, hfr⟩ := X'.frames_eq
  have hcell9 : ((T.setVm vm').setFrames (.throwing q :: below)).heap[q]? = some ce := by
    show T.heap[q]? = some ce
    rw [hT]; exact hcell
  have hend : Ended ((T.setVm vm').setFrames (.throwing q :: below)) below (.threw q) := State.frames_setFrames _ (State.cur_lt_of_frames hfr)
  refine ⟨(T.setVm vm').setFrames (.throwing q :: below), ?_, .threw q, X'.here.running, hend, Or.inr ⟨q, rfl, E, ce, locs, hx _ hT (X'.ends _).1.alike, hcell9, hv, hcl, (X'.ends _).1, (X'.ends _).2.mono hc hs, hf⟩⟩
  rw [X.pushThrowing_eq]
  exact st
/-- a thing of a world lies in the heap -/
theorem vx_lt {D : va_G} {cl : List vw_C} {ws : va_W} {H1 : Heap} (h : va_P D cl ws H1) {k : Nat} {q : Nat × va_E} (hk : ws[k]? = some q) : q.1 < H1.size := (h k q hk).lt
end VXS
/-! ===== END ===== -/
/-! ===== BEGIN methods with a table of their own: called by a name, returning or throwing ===== -/
section VXH
/-! vx_backW, vx_callVX, vx_callSX, vx_callVW, vx_runVW, vx_runVX, vx_runSX, vx_ofWH follow the same proofs as their sisters above (Free/Laws.lean, Shelf42/LK1.lean); vx_outP calls Shelf42/NT130.lean (outThrough). -/
section
variable {l : Launch} {R : Room} {p : Program} {e : Env} {below : List Frame} {s : State} {sargs : Array Value} {y : MethodName} {len W9 : Nat}
theorem vx_backW {ws : List Cond} {rm : Room} {Pc : Array Value → State → Prop} {Qc : Array Value → State → Outcome → State → Prop} {XC : String → State → State → Prop} {mc ms : Nat} {free : Addr → Prop} {bytes : ByteArray} {maxL : Nat} {ret : Option FieldType} {hh : List (Nat × Nat × Nat × Nat)}
    (hM : vx_Met l y ws rm Pc Qc XC mc ms free) (hblind : FrameBlind Pc) (hrc : rm.cells = mc) (hrs : rm.slots = ms)
    (hframes : rm.frames + 1 ≤ R.frames) (hlocals : W9 + (maxL + 11) + rm.locals ≤ R.locals)
    (hws : ∀ w ∈ ws, ∀ a' U, s.WarmedH U.vm → w.before a' U = true) (hcode : Cond.codeWith y bytes maxL ret hh ∈ ws) (hinit : ∀ a' U, s.WarmedH U.vm → (Cond.initialized y.cls).before a' U = true) :
    vx_Back l R p e below s sargs y len W9 (PreOf R mc ms Pc) (PostOf Qc mc ms free) (vx_Post XC mc ms free) := by
  intro m meth c A g ig mk a X hg hsize hdg hW hn hp
  have h1 : (headSpec ws rm).pre.before a A.U = true := atoms_intro fun w hw => hws w hw _ _ X.warmed
  have h2 : (Cond.codeWith y bytes maxL ret hh).before a A.U = true := hws _ hcode _ _ X.warmed
  have h3 : (Cond.initialized y.cls).before a A.U = true := hinit _ _ X.warmed
  have h4 : A.cells + (headSpec ws rm).room.cells ≤ R.cells := by rw [show (headSpec ws rm).room.cells = mc from hrc]; exact hp.1
  have h5 : A.slots + (headSpec ws rm).room.slots ≤ R.slots := by rw [show (headSpec ws rm).room.slots = ms from hrs]; exact hp.2.1
  have hPc : Pc a (A.U.calling g mk a) := hblind _ _ _ _ hp.2.2
  obtain ⟨U, Ls, c0, s0⟩ := A
  dsimp only [Pt.U, Pt.locs, Pt.cells, Pt.slots] at h1 h2 h3 h4 h5 X hn hPc ⊢
  obtain ⟨m9, methY, cY, hn9, hmY, hcY, -, hlY, -⟩ := Cond.codeWith_spec h2
  cases Option.some.inj (hn9.symm.trans hn)
  obtain ⟨kY, hkY, -⟩ := className_of_methodNamed hn
  have hinitY : kY.init = .initialized := Cond.initialized_spec (findClass_of_methodNamed hn) hkY h3
  have h : At U g.method c below := by rw [hg]; exact X.here
  have hlocals9 : W9 + (maxL + 11) + (headSpec ws rm).room.locals ≤ R.locals := hlocals
  have happ : (headSpec ws rm).appliesLoose y e.platform (U.calling g mk a) = true :=
    Spec.appliesLoose_calling (g := g) h hdg hn hkY hinitY
      (X.room_calling (g := g) (R' := (headSpec ws rm).room) hsize hmY hcY hframes (by rw [hlY]; omega) h4 h5) h1
  obtain ⟨mid, hmid⟩ := h.above
  have hfr : (U.setTop g).frames = (.java g :: mid) ++ below := by rw [State.frames_setTop' g h.top, hmid]; rfl
  obtain ⟨o, s₂, hsteps, -, hend, hq⟩ := Steps.callFree hM p X.admits X.cas X.clock (acts := []) hfr happ hPc trivial
  have hq' : vx_Q Qc XC mc ms free a (U.calling g mk a) o s₂ := hq
  rw [State.frames_setTop' g h.top] at hend
  obtain ⟨g₀, hg0⟩ := Option.isSome_iff_exists.mp h.top
  obtain ⟨r, hr⟩ := State.topJava?_eq_some.mp hg0
  have hr' : (({ U with heap := s₂.heap, slotsUsed := s₂.slotsUsed } : State).setVm s₂.vm).frames = .java g₀ :: r := hr
  rcases hq' with ⟨hqc, L, hfe, hL⟩ | ⟨q, rfl, E, ce, L, hx, hce, hcv, hcl, hW₂, hsm, hL⟩
  · obtain ⟨⟨v, rfl⟩, hW₂, e2, q2, q3, q4, q5, q6⟩ := id hfe
    have e3 : s₂ = ({ (U.calling g mk a).setFrames s₂.frames with heap := s₂.heap, slotsUsed := s₂.slotsUsed } : State).setVm s₂.vm := by
      have : s₂ = ({ s₂ with vm := (U.calling g mk a).vm } : State).setVm s₂.vm := rfl
      rw [e2] at this
      exact this
    obtain ⟨c₂, i₂, len₂, hc₂, hd₂, hf₂⟩ := hend
    have hW' : U.WarmedH s₂.vm := hW₂
    have hcc : c₂ = c := by
      have h1 : s₂.code? g.method = U.code? g.method := by
        rw [State.code?_eq, State.code?_eq, hW'.alike.method?]
      exact Option.some.inj (hc₂.symm.trans (h1.trans h.code))
    subst hcc
    have hlen : len₂ = len := by rw [hdg] at hd₂; cases hd₂; rfl
    subst hlen
    have hs₂ : s₂ = (({ U with heap := s₂.heap, slotsUsed := s₂.slotsUsed } : State).setVm s₂.vm).setTop { g with pc := g.pc + len₂, stack := v.toList ++ g.stack } := by
      refine e3.trans ?_
      rw [hf₂, State.calling_eq h.top, State.setFrames_setFrames, State.setTop_of_frames _ hr', hr]
      rfl
    have hsame : U.sameButNew ({ U with heap := s₂.heap, slotsUsed := s₂.slotsUsed } : State) L mc ms := by
      refine ⟨?_, q2, q3, q4, q5, q6⟩
      obtain ⟨t, ht, -⟩ := State.frames_cons hr
      show ({ U with heap := s₂.heap, slotsUsed := s₂.slotsUsed } : State) = { U.setFrames U.frames with heap := s₂.heap, slotsUsed := s₂.slotsUsed }
      rw [State.setFrames_self ht]
    subst hg
    refine Or.inl ⟨v, ⟨(({ U with heap := s₂.heap, slotsUsed := s₂.slotsUsed } : State).setVm s₂.vm), Ls ++ L, c0 + mc, s0 + ms⟩,
      ⟨X.admits, X.cas, X.clock, X.frames, X.room, X.hears, X.method, X.code, (X.here.setHeapUsed s₂.heap s₂.slotsUsed).setVm hW'.alike, X.tail, State.WarmedH.trans X.warmed hW', X.limits, X.bytes, X.same.trans (hsame.setVm s.vm)⟩,
      ⟨g, mk, s₂, L, rfl, rfl, hqc, rfl, hL, rfl, rfl⟩, ?_⟩
    show Steps p.tables e below _ ((({ U with heap := s₂.heap, slotsUsed := s₂.slotsUsed } : State).setVm s₂.vm).setTop { g with pc := g.pc + len₂, stack := v.toList ++ g.stack })
    rw [← hs₂]
    exact hsteps
  · obtain ⟨e2, q2, q3, q4, q5, q6⟩ := id hsm
    have e3 : s₂ = ({ (U.calling g mk a).setFrames s₂.frames with heap := s₂.heap, slotsUsed := s₂.slotsUsed } : State).setVm s₂.vm := by
      have : s₂ = ({ s₂ with vm := (U.calling g mk a).vm } : State).setVm s₂.vm := rfl
      rw [e2] at this
      exact this
    have hf₂ : s₂.frames = .throwing q :: .java g :: U.frames.tail := hend
    have hW' : U.WarmedH s₂.vm := hW₂
    have hs₂ : s₂ = ((({ U with heap := s₂.heap, slotsUsed := s₂.slotsUsed } : State).setVm s₂.vm).setTop g).pushFrame (.throwing q) := by
      refine e3.trans ?_
      rw [hf₂, State.calling_eq h.top, State.setFrames_setFrames, State.pushFrame, State.frames_setTop _ hr', State.setTop_of_frames _ hr', State.setFrames_setFrames, hr]
      rfl
    have hsame : U.sameButNew ({ U with heap := s₂.heap, slotsUsed := s₂.slotsUsed } : State) L mc ms := by
      refine ⟨?_, q2, q3, q4, q5, q6⟩
      obtain ⟨t, ht, -⟩ := State.frames_cons hr
      show ({ U with heap := s₂.heap, slotsUsed := s₂.slotsUsed } : State) = { U.setFrames U.frames with heap := s₂.heap, slotsUsed := s₂.slotsUsed }
      rw [State.setFrames_self ht]
    subst hg
    refine Or.inr ⟨q, ⟨(({ U with heap := s₂.heap, slotsUsed := s₂.slotsUsed } : State).setVm s₂.vm), Ls ++ L, c0 + mc, s0 + ms⟩,
      ⟨X.admits, X.cas, X.clock, X.frames, X.room, X.hears, X.method, X.code, (X.here.setHeapUsed s₂.heap s₂.slotsUsed).setVm hW'.alike, X.tail, State.WarmedH.trans X.warmed hW', X.limits, X.bytes, X.same.trans (hsame.setVm s.vm)⟩,
      ⟨g, mk, s₂, L, E, ce, rfl, rfl, hx, hce, hcv, hcl, rfl, hL, rfl, rfl⟩, ?_⟩
    show Steps p.tables e below _ (((({ U with heap := s₂.heap, slotsUsed := s₂.slotsUsed } : State).setVm s₂.vm).setTop g).pushFrame (.throwing q))
    rw [← hs₂]
    exact hsteps
end
variable {p : Program} {l : Launch} {e : Env} {R : Room} {s : State} {m : MethodId} {args : Array Value} {below : List Frame} {meth : Method} {c : Code} {T : State} {H : Heap} {locs : List Loc} {cells slots : Nat}
theorem vx_callVX (X : Stand p l e R s m args below meth c T locs cells slots) (hexec : p.tables.exec = Jvm.exec) {own C : String} {index : Nat} {y : MethodName} {bytes : ByteArray} {maxL : Nat} {ret : Option FieldType} {hh : List (Nat × Nat × Nat × Nat)}
    (hown : s.vm.findClass own = some m.cls) (hlink : (Cond.methodLink own index y).before args s = true) (hinst : (Cond.instanceMethod y).before args s = true) (hsel : (Cond.selects C y y).before args s = true)
    (hcode : (Cond.codeWith y bytes maxL ret hh).before args s = true) (hy : y.cls ≠ "java/lang/invoke/MethodHandle" ∧ y.cls ≠ "java/lang/invoke/VarHandle")
    {W9 : Nat} {Pre : Pt → Array Value → Prop} {Post : Pt → Array Value → Option Value → Pt → Prop} {PostX : Pt → Array Value → Addr → Pt → Prop} (hK : vx_Back l R p e below s args y 3 W9 Pre Post PostX)
    {b : Addr} {cellB : Cell} (hcell : T.heap[b]? = some cellB) (hobj : cellB.vm.isStatics = false) (hcls : s.vm.findClass C = some cellB.cls)
    {g : JFrame} (hg : g.method = m) (hsize : g.locals.size = c.maxLocals) {argsL rest : List Value} (hlen : ∀ sig, parseMethodDescriptor y.desc = some sig → argsL.length = sig.parameters.length)
    (hstack : g.stack = argsL.reverse ++ .ref b :: rest) (hW : 2 * g.monitorRoom + (rest.map fun v => v.category).sum ≤ W9) (hdg : decode c.code g.pc = .ok (.invokevirtual index, 3))
    (hpre : ∀ vm₁, s.WarmedH vm₁ → Pre ⟨T.setVm vm₁, locs, cells, slots⟩ (Value.ref b :: argsL).toArray) :
    (∃ (v : Option Value) (vm₁ : Vm) (B : Pt), s.WarmedH vm₁ ∧ Stand p l e R s m args below meth c B.U B.locs B.cells B.slots ∧ Post ⟨T.setVm vm₁, locs, cells, slots⟩ (Value.ref b :: argsL).toArray v B ∧
      ∀ target, Steps p.tables e below (B.U.setTop { g with pc := g.pc + 3, stack := v.toList ++ rest }) target → Steps p.tables e below (T.setTop g) target) ∨
    (∃ (q : Addr) (vm₁ : Vm) (B : Pt), s.WarmedH vm₁ ∧ Stand p l e R s m args below meth c B.U B.locs B.cells B.slots ∧ PostX ⟨T.setVm vm₁, locs, cells, slots⟩ (Value.ref b :: argsL).toArray q B ∧
      Steps p.tables e below (T.setTop g) ((B.U.setTop { g with stack := rest }).pushFrame (.throwing q))) := by
  obtain ⟨mk, methM, hnamed, hmethM, hstM, habM⟩ := Cond.instanceMethod_spec hinst
  obtain ⟨m8, methM', cM, hn8, hmethM', -, -, -, -, -, -, hsigM⟩ := Cond.codeWith_spec hcode
  cases Option.some.inj (hn8.symm.trans hnamed)
  cases hmethM.symm.trans hmethM'
  obtain ⟨c2, r2, m2, q1, q2, q3, q4, kP, hkP, hkPi⟩ := Cond.selects_spec hsel
  cases hcls.symm.trans q1
  cases (State.methodFound?_of_named hnamed hy).symm.trans q2
  cases hnamed.symm.trans q3
  have hselP : selectMethod e.platform s.vm cellB.cls mk = .method mk := by rw [Launch.admits_selectMethod X.admits]; exact q4
  obtain ⟨vm₁, X₁, hstep₁⟩ := X.invokevirtual hexec hown hlink hnamed hmethM hstM hkP hkPi hy (a := b) (cell := cellB) hcell
    (fun z h => by rw [h] at hobj; cases hobj) hselP hmethM habM hkP hkPi (g := g) hg (argsL := argsL) (rest := rest) (hlen _ hsigM) hstack hdg
  rcases hK m meth c ⟨T.setVm vm₁, locs, cells, slots⟩ { g with stack := rest } (.invokevirtual index) mk (Value.ref b :: argsL).toArray X₁ hg hsize hdg hW (X₁.named hnamed) (hpre vm₁ X₁.warmed) with ⟨v, B, X', hpost, hsteps⟩ | ⟨q, B, X', hpost, hsteps⟩
  · exact Or.inl ⟨v, vm₁, B, X₁.warmed, X', hpost, fun target h => hstep₁ _ fun acts => by rw [doInvoke_state]; exact hsteps.trans h⟩
  · exact Or.inr ⟨q, vm₁, B, X₁.warmed, X', hpost, hstep₁ _ fun acts => by rw [doInvoke_state]; exact hsteps⟩
theorem vx_callSX (X : Stand p l e R s m args below meth c T locs cells slots) (hexec : p.tables.exec = Jvm.exec) {own : String} {index : Nat} {y : MethodName} {bytes : ByteArray} {maxL : Nat} {ret : Option FieldType} {hh : List (Nat × Nat × Nat × Nat)}
    (hown : s.vm.findClass own = some m.cls) (hlink : (Cond.methodLink own index y).before args s = true) (hstat : (Cond.static y).before args s = true) (hinit : (Cond.initialized y.cls).before args s = true)
    (hcode : (Cond.codeWith y bytes maxL ret hh).before args s = true) (hy : y.cls ≠ "java/lang/invoke/MethodHandle" ∧ y.cls ≠ "java/lang/invoke/VarHandle")
    {W9 : Nat} {Pre : Pt → Array Value → Prop} {Post : Pt → Array Value → Option Value → Pt → Prop} {PostX : Pt → Array Value → Addr → Pt → Prop} (hK : vx_Back l R p e below s args y 3 W9 Pre Post PostX)
    {g : JFrame} (hg : g.method = m) (hsize : g.locals.size = c.maxLocals) {argsL rest : List Value} (hlen : ∀ sig, parseMethodDescriptor y.desc = some sig → argsL.length = sig.parameters.length)
    (hstack : g.stack = argsL.reverse ++ rest) (hW : 2 * g.monitorRoom + (rest.map fun v => v.category).sum ≤ W9) (hdg : decode c.code g.pc = .ok (.invokestatic index, 3))
    (hpre : ∀ vm₁, s.WarmedH vm₁ → Pre ⟨T.setVm vm₁, locs, cells, slots⟩ argsL.toArray) :
    (∃ (v : Option Value) (vm₁ : Vm) (B : Pt), s.WarmedH vm₁ ∧ Stand p l e R s m args below meth c B.U B.locs B.cells B.slots ∧ Post ⟨T.setVm vm₁, locs, cells, slots⟩ argsL.toArray v B ∧
      ∀ target, Steps p.tables e below (B.U.setTop { g with pc := g.pc + 3, stack := v.toList ++ rest }) target → Steps p.tables e below (T.setTop g) target) ∨
    (∃ (q : Addr) (vm₁ : Vm) (B : Pt), s.WarmedH vm₁ ∧ Stand p l e R s m args below meth c B.U B.locs B.cells B.slots ∧ PostX ⟨T.setVm vm₁, locs, cells, slots⟩ argsL.toArray q B ∧
      Steps p.tables e below (T.setTop g) ((B.U.setTop { g with stack := rest }).pushFrame (.throwing q))) := by
  obtain ⟨mk, methM, cM, hnamed, hmethM, -, -, -, -, -, -, hsigM⟩ := Cond.codeWith_spec hcode
  have hstatic : methM.isStatic = true := Cond.static_spec hnamed hmethM hstat
  obtain ⟨kP, hkP, -⟩ := className_of_methodNamed hnamed
  have hinitP : kP.init = .initialized := Cond.initialized_spec (findClass_of_methodNamed hnamed) hkP hinit
  obtain ⟨vm₁, X₁, hstep₁⟩ := X.invokestatic hexec hown hlink hnamed hmethM hstatic hkP hinitP hy (g := g) hg (argsL := argsL) (rest := rest) (hlen _ hsigM) hstack hdg
  rcases hK m meth c ⟨T.setVm vm₁, locs, cells, slots⟩ { g with stack := rest } (.invokestatic index) mk argsL.toArray X₁ hg hsize hdg hW (X₁.named hnamed) (hpre vm₁ X₁.warmed) with ⟨v, B, X', hpost, hsteps⟩ | ⟨q, B, X', hpost, hsteps⟩
  · exact Or.inl ⟨v, vm₁, B, X₁.warmed, X', hpost, fun target h => hstep₁ _ fun acts => by rw [doInvoke_state]; exact hsteps.trans h⟩
  · exact Or.inr ⟨q, vm₁, B, X₁.warmed, X', hpost, hstep₁ _ fun acts => by rw [doInvoke_state]; exact hsteps⟩
theorem vx_callVW (X : Stand p l e R s m args below meth c T locs cells slots) (hexec : p.tables.exec = Jvm.exec) {own C : String} {index : Nat} {y : MethodName} {bytes : ByteArray} {maxL : Nat} {ret : Option FieldType} {hh : List (Nat × Nat × Nat × Nat)}
    (hown : s.vm.findClass own = some m.cls) (hlink : (Cond.methodLink own index y).before args s = true) (hinst : (Cond.instanceMethod y).before args s = true) (hsel : (Cond.selects C y y).before args s = true)
    (hcode : (Cond.codeWith y bytes maxL ret hh).before args s = true) (hy : y.cls ≠ "java/lang/invoke/MethodHandle" ∧ y.cls ≠ "java/lang/invoke/VarHandle")
    {W9 : Nat} {Pre : Pt → Array Value → Prop} {Post : Pt → Array Value → Option Value → Pt → Prop} (hK : Back l R p e below s args y 3 W9 Pre Post)
    {b : Addr} {cellB : Cell} (hcell : T.heap[b]? = some cellB) (hobj : cellB.vm.isStatics = false) (hcls : s.vm.findClass C = some cellB.cls)
    {g : JFrame} (hg : g.method = m) (hsize : g.locals.size = c.maxLocals) {argsL rest : List Value} (hlen : ∀ sig, parseMethodDescriptor y.desc = some sig → argsL.length = sig.parameters.length)
    (hstack : g.stack = argsL.reverse ++ .ref b :: rest) (hW : 2 * g.monitorRoom + (rest.map fun v => v.category).sum ≤ W9) (hdg : decode c.code g.pc = .ok (.invokevirtual index, 3))
    (hpre : ∀ vm₁, s.WarmedH vm₁ → Pre ⟨T.setVm vm₁, locs, cells, slots⟩ (Value.ref b :: argsL).toArray) :
    ∃ (v : Option Value) (vm₁ : Vm) (B : Pt), s.WarmedH vm₁ ∧ Stand p l e R s m args below meth c B.U B.locs B.cells B.slots ∧ Post ⟨T.setVm vm₁, locs, cells, slots⟩ (Value.ref b :: argsL).toArray v B ∧
      ∀ target, Steps p.tables e below (B.U.setTop { g with pc := g.pc + 3, stack := v.toList ++ rest }) target → Steps p.tables e below (T.setTop g) target := by
  obtain ⟨mk, methM, hnamed, hmethM, hstM, habM⟩ := Cond.instanceMethod_spec hinst
  obtain ⟨m8, methM', cM, hn8, hmethM', -, -, -, -, -, -, hsigM⟩ := Cond.codeWith_spec hcode
  cases Option.some.inj (hn8.symm.trans hnamed)
  cases hmethM.symm.trans hmethM'
  obtain ⟨c2, r2, m2, q1, q2, q3, q4, kP, hkP, hkPi⟩ := Cond.selects_spec hsel
  cases hcls.symm.trans q1
  cases (State.methodFound?_of_named hnamed hy).symm.trans q2
  cases hnamed.symm.trans q3
  have hselP : selectMethod e.platform s.vm cellB.cls mk = .method mk := by rw [Launch.admits_selectMethod X.admits]; exact q4
  obtain ⟨vm₁, X₁, hstep₁⟩ := X.invokevirtual hexec hown hlink hnamed hmethM hstM hkP hkPi hy (a := b) (cell := cellB) hcell
    (fun z h => by rw [h] at hobj; cases hobj) hselP hmethM habM hkP hkPi (g := g) hg (argsL := argsL) (rest := rest) (hlen _ hsigM) hstack hdg
  obtain ⟨v, B, X', hpost, hsteps⟩ := hK m meth c ⟨T.setVm vm₁, locs, cells, slots⟩ { g with stack := rest } (.invokevirtual index) mk (Value.ref b :: argsL).toArray X₁ hg hsize hdg hW (X₁.named hnamed) (hpre vm₁ X₁.warmed)
  exact ⟨v, vm₁, B, X₁.warmed, X', hpost, fun target h => hstep₁ _ fun acts => by rw [doInvoke_state]; exact hsteps.trans h⟩
abbrev vx_CVW (R : Room) (s : State) (args : Array Value) (own C : String) (index : Nat) (y : MethodName) (bytes : ByteArray) (maxL : Nat) (ret : Option FieldType) (hh : List (Nat × Nat × Nat × Nat)) (ws : List Cond) (rm : Room) (mc ms n : Nat) : Prop :=
  (rm.cells = mc ∧ rm.slots = ms ∧ rm.frames + 1 ≤ R.frames ∧ 8 + (maxL + 11) + rm.locals ≤ R.locals ∧ (∀ w ∈ ws, ∀ (a' : Array Value) (U : State), s.WarmedH U.vm → w.before a' U = true) ∧ Cond.codeWith y bytes maxL ret hh ∈ ws) ∧
  (Cond.codeWith y bytes maxL ret hh).before args s = true ∧ (Cond.initialized y.cls).before args s = true ∧ (y.cls ≠ "java/lang/invoke/MethodHandle" ∧ y.cls ≠ "java/lang/invoke/VarHandle") ∧
  (∀ sig, parseMethodDescriptor y.desc = some sig → n = sig.parameters.length) ∧ (Cond.methodLink own index y).before args s = true ∧ (Cond.instanceMethod y).before args s = true ∧ (Cond.selects C y y).before args s = true
theorem vx_cwVW {own C : String} {index maxL mc ms : Nat} {y : MethodName} {bytes : ByteArray} {ret : Option FieldType} {hh : List (Nat × Nat × Nat × Nat)} {Ts ws ws' : List Cond} {rm : Room} (n : Nat) (ht : ∀ w ∈ Ts, w.before args s = true) (hT : GoodIn Ts (wsV own index C y ws)) (hw : ws = Cond.codeWith y bytes maxL ret hh :: ws') (hrc : rm.cells = mc) (hrs : rm.slots = ms)
    (hd : y.cls = C ∧ y.cls ≠ "java/lang/invoke/MethodHandle" ∧ y.cls ≠ "java/lang/invoke/VarHandle" ∧ (parseMethodDescriptor y.desc).map (fun d => d.parameters.length) = some n) (hR : rm.frames + 1 ≤ R.frames ∧ 8 + (maxL + 11) + rm.locals ≤ R.locals) :
    vx_CVW R s args own C index y bytes maxL ret hh ws rm mc ms n := by
  obtain ⟨hC, hd⟩ := hd
  subst hC
  have ok : ∀ w ∈ wsV own index y.cls y ws, w.before args s = true := fun w h => ht w (hT w h).1
  have hG : GoodIn Ts ws := fun w h => hT w (by unfold wsV; exact List.mem_append_right _ h)
  have hc : Cond.codeWith y bytes maxL ret hh ∈ ws := by rw [hw]; exact List.mem_cons_self
  refine ⟨⟨hrc, hrs, hR.1, hR.2, pay_in ht hG, hc⟩, ht _ (hG _ hc).1, ok _ (by simp [wsV]), ⟨hd.1, hd.2.1⟩, fun sig h => ?_, ok _ (by simp [wsV]), ok _ (by simp [wsV]), ok _ (by simp [wsV])⟩
  have h2 := hd.2.2
  rw [h] at h2
  exact (Option.some.inj h2).symm
theorem vx_runVW {y : MethodName} {bytes cc : ByteArray} {maxL nL mc ms n index : Nat} {ret : Option FieldType} {hh : List (Nat × Nat × Nat × Nat)} {ws : List Cond} {rm : Room} {Pc : Array Value → State → Prop} {Qc : Array Value → State → Outcome → State → Prop} {free : Addr → Prop} {Ts : List Cond} {own C : String} {b : Addr} {As rest : List Value} {g : JFrame}
    (S : CallFix p m c cc nL s args Ts own) (hM : Met l y ws rm Pc Qc mc ms free) (cw : vx_CVW R s args own C index y bytes maxL ret hh ws rm mc ms n) (hp : PreV s H C b Pc As)
    (hg : g.method = m) (hn : As.length = n) (hsize : g.locals.size = nL) (hstack : g.stack = As.reverse ++ .ref b :: rest) (hW : 2 * g.monitorRoom + (rest.map fun v => v.category).sum ≤ 8) (hdg : decode cc g.pc = .ok (.invokevirtual index, 3)) (hf : cells + mc ≤ R.cells ∧ slots + ms ≤ R.slots) :
    va_Run p l e R s m args below meth c H locs cells slots mc ms g rest (Qc (Value.ref b :: As).toArray) free := by
  obtain ⟨⟨hrc, hrs, hfr, hlo, hws, hcw⟩, hcode, hini, hy, hlen, hl, hin, hse⟩ := cw
  have hK : Back l R p e below s args y 3 8 (PreOf R mc ms Pc) (PostOf Qc mc ms free) := va_backW (hh := hh) (bytes := bytes) (maxL := maxL) (ret := ret) hM hp.1 hrc hrs hfr hlo hws hcw (fun a' U hW => word_at hW (Or.inl (by first | rfl | simp [Cond.onTables, Cond.keeps, Cond.steady])) hini)
  obtain ⟨hx, hb, hml, ho, -⟩ := S
  obtain ⟨-, ⟨cellB, hcB, hoB, hclB⟩, hPc⟩ := hp
  intro T hT X
  obtain ⟨v, vm₁, ⟨U', l2, c2, s2⟩, hW₁, X', ⟨g', mk, t, L, e1, e2, hq, h1, hL, h2, h3⟩, st⟩ := vx_callVW X hx (C := C) (hh := hh) (bytes := bytes) (maxL := maxL) (ret := ret) ho hl hin hse hcode hy hK (by rw [hT]; exact hcB) hoB hclB hg (hsize.trans hml.symm) (argsL := As) (rest := rest) (fun sig h => hn.trans (hlen sig h)) hstack hW (by rw [hb]; exact hdg)
    (fun vm₁ hW₁ => ⟨hf.1, hf.2, hPc (T.setVm vm₁) hT hW₁⟩)
  dsimp only [Pt.U, Pt.locs, Pt.cells, Pt.slots] at X' e1 e2 h1 h2 h3 st
  subst h1; subst h2; subst h3
  exact ⟨v, (T.setVm vm₁).calling g' mk (Value.ref b :: As).toArray, t, U', L, hT, X', hL, e1, e2, hq, st⟩
section
variable {y : MethodName} {bytes cc : ByteArray} {maxL nL mc ms n index : Nat} {ret : Option FieldType} {ws : List Cond} {rm : Room} {Pc : Array Value → State → Prop} {Qc : Array Value → State → Outcome → State → Prop} {XC : String → State → State → Prop} {free : Addr → Prop} {Ts : List Cond} {own C : String} {b : Addr} {As rest : List Value} {g : JFrame}
theorem vx_runVX {hh : List (Nat × Nat × Nat × Nat)} (S : CallFix p m c cc nL s args Ts own) (hM : vx_Met l y ws rm Pc Qc XC mc ms free) (cw : vx_CVW R s args own C index y bytes maxL ret hh ws rm mc ms n) (hp : PreV s H C b Pc As)
    (hg : g.method = m) (hn : As.length = n) (hsize : g.locals.size = nL) (hstack : g.stack = As.reverse ++ .ref b :: rest) (hW : 2 * g.monitorRoom + (rest.map fun v => v.category).sum ≤ 8) (hdg : decode cc g.pc = .ok (.invokevirtual index, 3)) (hf : cells + mc ≤ R.cells ∧ slots + ms ≤ R.slots) :
    vx_Run p l e R s m args below meth c H locs cells slots mc ms g rest (Qc (Value.ref b :: As).toArray) XC free := by
  obtain ⟨⟨hrc, hrs, hfr, hlo, hws, hcw⟩, hcode, hini, hy, hlen, hl, hin, hse⟩ := cw
  have hK : vx_Back l R p e below s args y 3 8 (PreOf R mc ms Pc) (PostOf Qc mc ms free) (vx_Post XC mc ms free) := vx_backW (hh := hh) (bytes := bytes) (maxL := maxL) (ret := ret) hM hp.1 hrc hrs hfr hlo hws hcw (fun a' U hW => word_at hW (Or.inl (by first | rfl | simp [Cond.onTables, Cond.keeps, Cond.steady])) hini)
  obtain ⟨hx, hb, hml, ho, -⟩ := S
  obtain ⟨-, ⟨cellB, hcB, hoB, hclB⟩, hPc⟩ := hp
  intro T hT X
  rcases vx_callVX X hx (C := C) (hh := hh) (bytes := bytes) (maxL := maxL) (ret := ret) ho hl hin hse hcode hy hK (by rw [hT]; exact hcB) hoB hclB hg (hsize.trans hml.symm) (argsL := As) (rest := rest) (fun sig h => hn.trans (hlen sig h)) hstack hW (by rw [hb]; exact hdg)
    (fun vm₁ hW₁ => ⟨hf.1, hf.2, hPc (T.setVm vm₁) hT hW₁⟩) with ⟨v, vm₁, ⟨U', l2, c2, s2⟩, hW₁, X', ⟨g', mk, t, L, e1, e2, hq, h1, hL, h2, h3⟩, st⟩ | ⟨q, vm₁, ⟨U', l2, c2, s2⟩, hW₁, X', ⟨g', mk, t, L, E, ce, e1, e2, hq, hce, hcv, hcl, h1, hL, h2, h3⟩, st⟩
  · dsimp only [Pt.U, Pt.locs, Pt.cells, Pt.slots] at X' e1 e2 h1 h2 h3 st
    subst h1; subst h2; subst h3
    exact Or.inl ⟨v, (T.setVm vm₁).calling g' mk (Value.ref b :: As).toArray, t, U', L, hT, X', hL, e1, e2, hq, st⟩
  · dsimp only [Pt.U, Pt.locs, Pt.cells, Pt.slots] at X' e1 e2 h1 h2 h3 st hcl
    subst h1; subst h2; subst h3
    exact Or.inr ⟨q, (T.setVm vm₁).calling g' mk (Value.ref b :: As).toArray, t, U', L, E, ce, hT, X', hL, e1, e2, hq, hce, hcv, vx_cls hW₁ hcl, st⟩
theorem vx_runSX {hh : List (Nat × Nat × Nat × Nat)} (S : CallFix p m c cc nL s args Ts own) (hM : vx_Met l y ws rm Pc Qc XC mc ms free) (cw : vx_CSW R s args own index y bytes maxL ret hh ws rm mc ms n) (hp : PreS s H Pc As)
    (hg : g.method = m) (hn : As.length = n) (hsize : g.locals.size = nL) (hstack : g.stack = As.reverse ++ rest) (hW : 2 * g.monitorRoom + (rest.map fun v => v.category).sum ≤ 8) (hdg : decode cc g.pc = .ok (.invokestatic index, 3)) (hf : cells + mc ≤ R.cells ∧ slots + ms ≤ R.slots) :
    vx_Run p l e R s m args below meth c H locs cells slots mc ms g rest (Qc As.toArray) XC free := by
  obtain ⟨⟨hrc, hrs, hfr, hlo, hws, hcw⟩, hcode, hini, hy, hlen, hl, hstt⟩ := cw
  have hK : vx_Back l R p e below s args y 3 8 (PreOf R mc ms Pc) (PostOf Qc mc ms free) (vx_Post XC mc ms free) := vx_backW (hh := hh) (bytes := bytes) (maxL := maxL) (ret := ret) hM hp.1 hrc hrs hfr hlo hws hcw (fun a' U hW => word_at hW (Or.inl (by first | rfl | simp [Cond.onTables, Cond.keeps, Cond.steady])) hini)
  obtain ⟨hx, hb, hml, ho, -⟩ := S
  intro T hT X
  rcases vx_callSX X hx (hh := hh) (bytes := bytes) (maxL := maxL) (ret := ret) ho hl hstt hini hcode hy hK hg (hsize.trans hml.symm) (argsL := As) (rest := rest) (fun sig h => hn.trans (hlen sig h)) hstack hW (by rw [hb]; exact hdg)
    (fun vm₁ hW₁ => ⟨hf.1, hf.2, hp.2 (T.setVm vm₁) hT hW₁⟩) with ⟨v, vm₁, ⟨U', l2, c2, s2⟩, hW₁, X', ⟨g', mk, t, L, e1, e2, hq, h1, hL, h2, h3⟩, st⟩ | ⟨q, vm₁, ⟨U', l2, c2, s2⟩, hW₁, X', ⟨g', mk, t, L, E, ce, e1, e2, hq, hce, hcv, hcl, h1, hL, h2, h3⟩, st⟩
  · dsimp only [Pt.U, Pt.locs, Pt.cells, Pt.slots] at X' e1 e2 h1 h2 h3 st
    subst h1; subst h2; subst h3
    exact Or.inl ⟨v, (T.setVm vm₁).calling g' mk As.toArray, t, U', L, hT, X', hL, e1, e2, hq, st⟩
  · dsimp only [Pt.U, Pt.locs, Pt.cells, Pt.slots] at X' e1 e2 h1 h2 h3 st hcl
    subst h1; subst h2; subst h3
    exact Or.inr ⟨q, (T.setVm vm₁).calling g' mk As.toArray, t, U', L, E, ce, hT, X', hL, e1, e2, hq, hce, hcv, vx_cls hW₁ hcl, st⟩
end
end VXH
theorem vx_ofWH {l : Launch} {y : MethodName} {ws ws' : List Cond} {rm : Room} {Pc : Array Value → State → Prop} {Qc : Array Value → State → Outcome → State → Prop} {XC : String → State → State → Prop} {mc ms : Nat} {free : Addr → Prop} {cc : ByteArray} {maxL : Nat} {ret : Option FieldType} {hh : List (Nat × Nat × Nat × Nat)}
    (hy : plainName y.cls = true) (hw : ws = Cond.codeWith y cc maxL ret hh :: ws')
    (body : ∀ p e s m args below meth c s₁, BodyLoose p l y (headSpec ws rm) cc maxL ret e s m args below meth c s₁ → c.maxLocals = maxL → Pc args s →
      W p l e (headSpec ws rm).room s m args below meth c s.heap [] 0 0 (vx_MQ below Qc XC args s mc ms free) (entryFrame m args maxL)) : vx_Met l y ws rm Pc Qc XC mc ms free := by
  refine MetFree.of_bodyS (code := cc) (maxLocals := maxL) (ret := ret) hy ?_ ?_
  · intro args s m h hn
    obtain ⟨m9, meth, c, hn9, h1, h2, h3, h4, -, h5, h6, -⟩ := Cond.codeWith_spec (atoms_spec (ws := ws) h _ (by rw [hw]; exact List.mem_cons_self))
    cases hn.symm.trans hn9
    exact ⟨meth, c, h1, h2, h3, h4, h5, h6⟩
  · intro p e s m args below meth c s₁ B hml hP _
    have hh0 : s₁.heap = s.heap := by rw [B.state]; rfl
    obtain ⟨t, a1, o, b1, b2, b3⟩ := body p e s m args below meth c s₁ B hml hP s₁ hh0 (Stand.of_body B)
    exact ⟨t, o, a1, b1, b2, b3⟩
/-! ===== END ===== -/
end
section
/-! ===== BEGIN printed: names, fields, word lists, decode rows ===== -/
def RX0 : String := "GrainSilo"
def TX0 : u_T := fun k => match k with
  | 0 => ("GrainSilo", "kinds", "[I", true)
  | 1 => ("GrainSilo", "dampness", "[I", true)
  | 2 => ("GrainSilo", "layers", "I", false)
  | 3 => ("GrainSilo", "lowest", "[I", true)
  | 4 => ("GrainSilo", "highest", "[I", true)
  | 5 => ("GrainSilo", "sums", "[I", true)
  | 6 => ("GrainSilo", "doubts", "[I", true)
  | 7 => ("GrainSilo", "samples", "I", false)
  | 8 => ("GrainSilo", "day", "I", false)
  | 9 => ("GrainSilo", "limit", "I", false)
  | 10 => ("GrainSilo", "sold", "I", false)
  | 11 => ("GrainSilo", "spoilt", "I", false)
  | 12 => ("GrainSilo", "turns", "[I", true)
  | 13 => ("GrainSilo", "ahead", "[I", true)
  | _ => ("GrainSilo", "most", "[[I", true)
def tyX0 : Nat → FieldType := fun k => match k with
  | 0 => .array .int
  | 1 => .array .int
  | 2 => .int
  | 3 => .array .int
  | 4 => .array .int
  | 5 => .array .int
  | 6 => .array .int
  | 7 => .int
  | 8 => .int
  | 9 => .int
  | 10 => .int
  | 11 => .int
  | 12 => .array .int
  | 13 => .array .int
  | _ => .array (.array .int)
abbrev wsX00 : List Cond := u_ws RX0 TX0 15
theorem nmX0 : ∀ a, a < 15 → ∀ b, b < 15 → a ≠ b → (TX0 a).2.1 ≠ (TX0 b).2.1 := by decide +kernel
theorem tyX0_ok : ∀ k, k < 15 → parseFieldDescriptor (TX0 k).2.2.1 = some (tyX0 k) := by decide +kernel
abbrev cX0_init : ByteArray := prog_1_method_1_code
def yX0_init : MethodName := ⟨RX0, "<init>", "()V"⟩
abbrev cX0_fill : ByteArray := prog_1_method_2_code
def yX0_fill : MethodName := ⟨RX0, "fill", "(II)I"⟩
abbrev cX0_letOut : ByteArray := prog_1_method_3_code
def yX0_letOut : MethodName := ⟨RX0, "letOut", "()I"⟩
abbrev cX0_turnOver : ByteArray := prog_1_method_4_code
def yX0_turnOver : MethodName := ⟨RX0, "turnOver", "()I"⟩
abbrev cX0_setLimit : ByteArray := prog_1_method_5_code
def yX0_setLimit : MethodName := ⟨RX0, "setLimit", "(I)I"⟩
abbrev cX0_pass : ByteArray := prog_1_method_6_code
def yX0_pass : MethodName := ⟨RX0, "pass", "(I)I"⟩
abbrev cX0_draw : ByteArray := prog_1_method_7_code
def yX0_draw : MethodName := ⟨RX0, "draw", "(II)I"⟩
abbrev cX0_throwAway : ByteArray := prog_1_method_8_code
def yX0_throwAway : MethodName := ⟨RX0, "throwAway", "(I)I"⟩
abbrev cX0_samples : ByteArray := prog_1_method_9_code
def yX0_samples : MethodName := ⟨RX0, "samples", "()I"⟩
abbrev cX0_lowestOf : ByteArray := prog_1_method_10_code
def yX0_lowestOf : MethodName := ⟨RX0, "lowestOf", "(I)I"⟩
abbrev cX0_highestOf : ByteArray := prog_1_method_11_code
def yX0_highestOf : MethodName := ⟨RX0, "highestOf", "(I)I"⟩
abbrev cX0_sumOf : ByteArray := prog_1_method_12_code
def yX0_sumOf : MethodName := ⟨RX0, "sumOf", "(I)I"⟩
abbrev cX0_doubtOf : ByteArray := prog_1_method_13_code
def yX0_doubtOf : MethodName := ⟨RX0, "doubtOf", "(I)I"⟩
abbrev cX0_layers : ByteArray := prog_1_method_14_code
def yX0_layers : MethodName := ⟨RX0, "layers", "()I"⟩
abbrev cX0_day : ByteArray := prog_1_method_15_code
def yX0_day : MethodName := ⟨RX0, "day", "()I"⟩
abbrev cX0_limit : ByteArray := prog_1_method_16_code
def yX0_limit : MethodName := ⟨RX0, "limit", "()I"⟩
abbrev cX0_sold : ByteArray := prog_1_method_17_code
def yX0_sold : MethodName := ⟨RX0, "sold", "()I"⟩
abbrev cX0_spoilt : ByteArray := prog_1_method_18_code
def yX0_spoilt : MethodName := ⟨RX0, "spoilt", "()I"⟩
abbrev cX0_kindOf : ByteArray := prog_1_method_19_code
def yX0_kindOf : MethodName := ⟨RX0, "kindOf", "(I)I"⟩
abbrev cX0_dampnessOf : ByteArray := prog_1_method_20_code
def yX0_dampnessOf : MethodName := ⟨RX0, "dampnessOf", "(I)I"⟩
abbrev cX0_dampLayers : ByteArray := prog_1_method_21_code
def yX0_dampLayers : MethodName := ⟨RX0, "dampLayers", "()I"⟩
abbrev cX0_layersAheadOf : ByteArray := prog_1_method_22_code
def yX0_layersAheadOf : MethodName := ⟨RX0, "layersAheadOf", "(I)I"⟩
abbrev cX0_leastOf : ByteArray := prog_1_method_23_code
def yX0_leastOf : MethodName := ⟨RX0, "leastOf", "(I)I"⟩
abbrev cX0_greatestOf : ByteArray := prog_1_method_24_code
def yX0_greatestOf : MethodName := ⟨RX0, "greatestOf", "(I)I"⟩
abbrev cX0_isKnown : ByteArray := prog_1_method_25_code
def yX0_isKnown : MethodName := ⟨RX0, "isKnown", "(I)Z"⟩
abbrev cX0_surelyDry : ByteArray := prog_1_method_26_code
def yX0_surelyDry : MethodName := ⟨RX0, "surelyDry", "()I"⟩
abbrev cX0_surelyDamp : ByteArray := prog_1_method_27_code
def yX0_surelyDamp : MethodName := ⟨RX0, "surelyDamp", "()I"⟩
abbrev cX0_worstLayer : ByteArray := prog_1_method_28_code
def yX0_worstLayer : MethodName := ⟨RX0, "worstLayer", "()I"⟩
abbrev cX0_doubt : ByteArray := prog_1_method_29_code
def yX0_doubt : MethodName := ⟨RX0, "doubt", "()I"⟩
abbrev cX0_leastSum : ByteArray := prog_1_method_30_code
def yX0_leastSum : MethodName := ⟨RX0, "leastSum", "(II)I"⟩
abbrev cX0_greatestSum : ByteArray := prog_1_method_31_code
def yX0_greatestSum : MethodName := ⟨RX0, "greatestSum", "(II)I"⟩
abbrev cX0_doubtBehind : ByteArray := prog_1_method_32_code
def yX0_doubtBehind : MethodName := ⟨RX0, "doubtBehind", "(II)I"⟩
abbrev cX0_bestToLookAt : ByteArray := prog_1_method_33_code
def yX0_bestToLookAt : MethodName := ⟨RX0, "bestToLookAt", "()I"⟩
abbrev cX0_dampnessIn : ByteArray := prog_1_method_34_code
def yX0_dampnessIn : MethodName := ⟨RX0, "dampnessIn", "(II)I"⟩
abbrev cX0_daysUntilEven : ByteArray := prog_1_method_35_code
def yX0_daysUntilEven : MethodName := ⟨RX0, "daysUntilEven", "()I"⟩
abbrev cX0_meanDampness : ByteArray := prog_1_method_36_code
def yX0_meanDampness : MethodName := ⟨RX0, "meanDampness", "()D"⟩
abbrev cX0_digest : ByteArray := prog_1_method_37_code
def yX0_digest : MethodName := ⟨RX0, "digest", "()J"⟩
abbrev cX0_isKind : ByteArray := prog_1_method_38_code
def yX0_isKind : MethodName := ⟨RX0, "isKind", "(I)Z"⟩
abbrev cX0_isDampness : ByteArray := prog_1_method_39_code
def yX0_isDampness : MethodName := ⟨RX0, "isDampness", "(I)Z"⟩
abbrev cX0_checkDays : ByteArray := prog_1_method_40_code
def yX0_checkDays : MethodName := ⟨RX0, "checkDays", "(I)V"⟩
abbrev cX0_checkLayer : ByteArray := prog_1_method_41_code
def yX0_checkLayer : MethodName := ⟨RX0, "checkLayer", "(I)V"⟩
abbrev cX0_checkLayers : ByteArray := prog_1_method_42_code
def yX0_checkLayers : MethodName := ⟨RX0, "checkLayers", "(II)V"⟩
abbrev cX0_checkSample : ByteArray := prog_1_method_43_code
def yX0_checkSample : MethodName := ⟨RX0, "checkSample", "(I)V"⟩
abbrev cX0_checkNotEmpty : ByteArray := prog_1_method_44_code
def yX0_checkNotEmpty : MethodName := ⟨RX0, "checkNotEmpty", "()V"⟩
abbrev cX0_isDamp : ByteArray := prog_1_method_45_code
def yX0_isDamp : MethodName := ⟨RX0, "isDamp", "(I)Z"⟩
abbrev cX0_putOnTop : ByteArray := prog_1_method_46_code
def yX0_putOnTop : MethodName := ⟨RX0, "putOnTop", "(II)I"⟩
abbrev cX0_countOut : ByteArray := prog_1_method_47_code
def yX0_countOut : MethodName := ⟨RX0, "countOut", "(I)V"⟩
abbrev cX0_lowerLayers : ByteArray := prog_1_method_48_code
def yX0_lowerLayers : MethodName := ⟨RX0, "lowerLayers", "()V"⟩
abbrev cX0_sumNow : ByteArray := prog_1_method_49_code
def yX0_sumNow : MethodName := ⟨RX0, "sumNow", "(II)I"⟩
abbrev cX0_moveSample : ByteArray := prog_1_method_50_code
def yX0_moveSample : MethodName := ⟨RX0, "moveSample", "(II)V"⟩
abbrev cX0_cutLowestOffSamples : ByteArray := prog_1_method_51_code
def yX0_cutLowestOffSamples : MethodName := ⟨RX0, "cutLowestOffSamples", "(I)V"⟩
abbrev cX0_dropSamplesOfLowest : ByteArray := prog_1_method_52_code
def yX0_dropSamplesOfLowest : MethodName := ⟨RX0, "dropSamplesOfLowest", "()V"⟩
abbrev cX0_lowerSamples : ByteArray := prog_1_method_53_code
def yX0_lowerSamples : MethodName := ⟨RX0, "lowerSamples", "()V"⟩
abbrev cX0_addDoubt : ByteArray := prog_1_method_54_code
def yX0_addDoubt : MethodName := ⟨RX0, "addDoubt", "(I)V"⟩
abbrev cX0_copyDampnessAhead : ByteArray := prog_1_method_55_code
def yX0_copyDampnessAhead : MethodName := ⟨RX0, "copyDampnessAhead", "()V"⟩
abbrev cX0_letDaysGoBy : ByteArray := prog_1_method_56_code
def yX0_letDaysGoBy : MethodName := ⟨RX0, "letDaysGoBy", "([II)I"⟩
abbrev cX0_letDayGoBy : ByteArray := prog_1_method_57_code
def yX0_letDayGoBy : MethodName := ⟨RX0, "letDayGoBy", "([I)I"⟩
abbrev cX0_turnOf : ByteArray := prog_1_method_58_code
def yX0_turnOf : MethodName := ⟨RX0, "turnOf", "([II)I"⟩
abbrev cX0_pullOf : ByteArray := prog_1_method_59_code
def yX0_pullOf : MethodName := ⟨RX0, "pullOf", "([III)I"⟩
abbrev cX0_weighSamples : ByteArray := prog_1_method_60_code
def yX0_weighSamples : MethodName := ⟨RX0, "weighSamples", "()V"⟩
abbrev cX0_weighNothing : ByteArray := prog_1_method_61_code
def yX0_weighNothing : MethodName := ⟨RX0, "weighNothing", "()V"⟩
abbrev cX0_heed : ByteArray := prog_1_method_62_code
def yX0_heed : MethodName := ⟨RX0, "heed", "(III)V"⟩
abbrev cX0_least : ByteArray := prog_1_method_63_code
def yX0_least : MethodName := ⟨RX0, "least", "(II)I"⟩
abbrev cX0_greatest : ByteArray := prog_1_method_64_code
def yX0_greatest : MethodName := ⟨RX0, "greatest", "(II)I"⟩
abbrev cX0_countSurelyDry : ByteArray := prog_1_method_65_code
def yX0_countSurelyDry : MethodName := ⟨RX0, "countSurelyDry", "()I"⟩
abbrev cX0_countSurelyDamp : ByteArray := prog_1_method_66_code
def yX0_countSurelyDamp : MethodName := ⟨RX0, "countSurelyDamp", "()I"⟩
abbrev cX0_doubtNow : ByteArray := prog_1_method_67_code
def yX0_doubtNow : MethodName := ⟨RX0, "doubtNow", "()I"⟩
abbrev cX0_doubtIfDrawn : ByteArray := prog_1_method_68_code
def yX0_doubtIfDrawn : MethodName := ⟨RX0, "doubtIfDrawn", "(II)I"⟩
abbrev cX0_mostIfTold : ByteArray := prog_1_method_69_code
def yX0_mostIfTold : MethodName := ⟨RX0, "mostIfTold", "(IIIII)I"⟩
abbrev cX0_digestOf : ByteArray := prog_1_method_70_code
def yX0_digestOf : MethodName := ⟨RX0, "digestOf", "(JJ)J"⟩
abbrev cX0_digestOfLayers : ByteArray := prog_1_method_71_code
def yX0_digestOfLayers : MethodName := ⟨RX0, "digestOfLayers", "(J)J"⟩
abbrev cX0_digestOfSamples : ByteArray := prog_1_method_72_code
def yX0_digestOfSamples : MethodName := ⟨RX0, "digestOfSamples", "(J)J"⟩
def RX1 : String := "GrainSiloModel"
def TX1 : u_T := fun k => match k with
  | 0 => ("GrainSiloModel", "thrown", "I", false)
  | 1 => ("GrainSiloModel", "layers", "I", false)
  | 2 => ("GrainSiloModel", "kind", "[I", true)
  | 3 => ("GrainSiloModel", "damp", "[I", true)
  | 4 => ("GrainSiloModel", "samples", "I", false)
  | 5 => ("GrainSiloModel", "low", "[I", true)
  | 6 => ("GrainSiloModel", "high", "[I", true)
  | 7 => ("GrainSiloModel", "sum", "[I", true)
  | 8 => ("GrainSiloModel", "doubt", "[I", true)
  | 9 => ("GrainSiloModel", "day", "I", false)
  | 10 => ("GrainSiloModel", "limit", "I", false)
  | 11 => ("GrainSiloModel", "sold", "I", false)
  | 12 => ("GrainSiloModel", "spoilt", "I", false)
  | 13 => ("GrainSiloModel", "most", "[I", true)
  | 14 => ("GrainSiloModel", "kept", "[I", true)
  | _ => ("GrainSiloModel", "step", "[I", true)
def tyX1 : Nat → FieldType := fun k => match k with
  | 0 => .int
  | 1 => .int
  | 2 => .array .int
  | 3 => .array .int
  | 4 => .int
  | 5 => .array .int
  | 6 => .array .int
  | 7 => .array .int
  | 8 => .array .int
  | 9 => .int
  | 10 => .int
  | 11 => .int
  | 12 => .int
  | 13 => .array .int
  | 14 => .array .int
  | _ => .array .int
abbrev wsX10 : List Cond := u_ws RX1 TX1 16
theorem nmX1 : ∀ a, a < 16 → ∀ b, b < 16 → a ≠ b → (TX1 a).2.1 ≠ (TX1 b).2.1 := by decide +kernel
theorem tyX1_ok : ∀ k, k < 16 → parseFieldDescriptor (TX1 k).2.2.1 = some (tyX1 k) := by decide +kernel
abbrev cX1_init : ByteArray := prog_3_method_1_code
def yX1_init : MethodName := ⟨RX1, "<init>", "()V"⟩
abbrev cX1_thrown : ByteArray := prog_3_method_2_code
def yX1_thrown : MethodName := ⟨RX1, "thrown", "()I"⟩
abbrev cX1_no : ByteArray := prog_3_method_3_code
def yX1_no : MethodName := ⟨RX1, "no", "(I)I"⟩
abbrev cX1_isNot : ByteArray := prog_3_method_4_code
def yX1_isNot : MethodName := ⟨RX1, "isNot", "(I)Z"⟩
abbrev cX1_ok : ByteArray := prog_3_method_5_code
def yX1_ok : MethodName := ⟨RX1, "ok", "(I)I"⟩
abbrev cX1_isIn : ByteArray := prog_3_method_6_code
def yX1_isIn : MethodName := ⟨RX1, "isIn", "(III)Z"⟩
abbrev cX1_isLayer : ByteArray := prog_3_method_7_code
def yX1_isLayer : MethodName := ⟨RX1, "isLayer", "(I)Z"⟩
abbrev cX1_areLayers : ByteArray := prog_3_method_8_code
def yX1_areLayers : MethodName := ⟨RX1, "areLayers", "(II)Z"⟩
abbrev cX1_isSample : ByteArray := prog_3_method_9_code
def yX1_isSample : MethodName := ⟨RX1, "isSample", "(I)Z"⟩
abbrev cX1_bound : ByteArray := prog_3_method_10_code
def yX1_bound : MethodName := ⟨RX1, "bound", "(III)V"⟩
abbrev cX1_tell : ByteArray := prog_3_method_11_code
def yX1_tell : MethodName := ⟨RX1, "tell", "(IIII)V"⟩
abbrev cX1_begin : ByteArray := prog_3_method_12_code
def yX1_begin : MethodName := ⟨RX1, "begin", "()V"⟩
abbrev cX1_goOn : ByteArray := prog_3_method_13_code
def yX1_goOn : MethodName := ⟨RX1, "goOn", "()V"⟩
abbrev cX1_reckon : ByteArray := prog_3_method_14_code
def yX1_reckon : MethodName := ⟨RX1, "reckon", "()V"⟩
abbrev cX1_least : ByteArray := prog_3_method_15_code
def yX1_least : MethodName := ⟨RX1, "least", "(II)I"⟩
abbrev cX1_greatest : ByteArray := prog_3_method_16_code
def yX1_greatest : MethodName := ⟨RX1, "greatest", "(II)I"⟩
abbrev cX1_allDoubt : ByteArray := prog_3_method_17_code
def yX1_allDoubt : MethodName := ⟨RX1, "allDoubt", "()I"⟩
abbrev cX1_added : ByteArray := prog_3_method_18_code
def yX1_added : MethodName := ⟨RX1, "added", "(II)I"⟩
abbrev cX1_behind : ByteArray := prog_3_method_19_code
def yX1_behind : MethodName := ⟨RX1, "behind", "(II)I"⟩
abbrev cX1_fill : ByteArray := prog_3_method_20_code
def yX1_fill : MethodName := ⟨RX1, "fill", "(II)I"⟩
abbrev cX1_drop : ByteArray := prog_3_method_21_code
def yX1_drop : MethodName := ⟨RX1, "drop", "(I)V"⟩
abbrev cX1_sink : ByteArray := prog_3_method_22_code
def yX1_sink : MethodName := ⟨RX1, "sink", "()V"⟩
abbrev cX1_out : ByteArray := prog_3_method_23_code
def yX1_out : MethodName := ⟨RX1, "out", "()I"⟩
abbrev cX1_letOut : ByteArray := prog_3_method_24_code
def yX1_letOut : MethodName := ⟨RX1, "letOut", "()I"⟩
abbrev cX1_turnOver : ByteArray := prog_3_method_25_code
def yX1_turnOver : MethodName := ⟨RX1, "turnOver", "()I"⟩
abbrev cX1_setLimit : ByteArray := prog_3_method_26_code
def yX1_setLimit : MethodName := ⟨RX1, "setLimit", "(I)I"⟩
abbrev cX1_towards : ByteArray := prog_3_method_27_code
def yX1_towards : MethodName := ⟨RX1, "towards", "(II)I"⟩
abbrev cX1_evenOut : ByteArray := prog_3_method_28_code
def yX1_evenOut : MethodName := ⟨RX1, "evenOut", "()I"⟩
abbrev cX1_pass : ByteArray := prog_3_method_29_code
def yX1_pass : MethodName := ⟨RX1, "pass", "(I)I"⟩
abbrev cX1_draw : ByteArray := prog_3_method_30_code
def yX1_draw : MethodName := ⟨RX1, "draw", "(II)I"⟩
abbrev cX1_throwAway : ByteArray := prog_3_method_31_code
def yX1_throwAway : MethodName := ⟨RX1, "throwAway", "(I)I"⟩
abbrev cX1_samples : ByteArray := prog_3_method_32_code
def yX1_samples : MethodName := ⟨RX1, "samples", "()I"⟩
abbrev cX1_ofSample : ByteArray := prog_3_method_33_code
def yX1_ofSample : MethodName := ⟨RX1, "ofSample", "(I[I)I"⟩
abbrev cX1_lowestOf : ByteArray := prog_3_method_34_code
def yX1_lowestOf : MethodName := ⟨RX1, "lowestOf", "(I)I"⟩
abbrev cX1_highestOf : ByteArray := prog_3_method_35_code
def yX1_highestOf : MethodName := ⟨RX1, "highestOf", "(I)I"⟩
abbrev cX1_sumOf : ByteArray := prog_3_method_36_code
def yX1_sumOf : MethodName := ⟨RX1, "sumOf", "(I)I"⟩
abbrev cX1_doubtOf : ByteArray := prog_3_method_37_code
def yX1_doubtOf : MethodName := ⟨RX1, "doubtOf", "(I)I"⟩
abbrev cX1_layers : ByteArray := prog_3_method_38_code
def yX1_layers : MethodName := ⟨RX1, "layers", "()I"⟩
abbrev cX1_day : ByteArray := prog_3_method_39_code
def yX1_day : MethodName := ⟨RX1, "day", "()I"⟩
abbrev cX1_limit : ByteArray := prog_3_method_40_code
def yX1_limit : MethodName := ⟨RX1, "limit", "()I"⟩
abbrev cX1_sold : ByteArray := prog_3_method_41_code
def yX1_sold : MethodName := ⟨RX1, "sold", "()I"⟩
abbrev cX1_spoilt : ByteArray := prog_3_method_42_code
def yX1_spoilt : MethodName := ⟨RX1, "spoilt", "()I"⟩
abbrev cX1_kindOf : ByteArray := prog_3_method_43_code
def yX1_kindOf : MethodName := ⟨RX1, "kindOf", "(I)I"⟩
abbrev cX1_dampnessOf : ByteArray := prog_3_method_44_code
def yX1_dampnessOf : MethodName := ⟨RX1, "dampnessOf", "(I)I"⟩
abbrev cX1_dampLayers : ByteArray := prog_3_method_45_code
def yX1_dampLayers : MethodName := ⟨RX1, "dampLayers", "()I"⟩
abbrev cX1_layersAheadOf : ByteArray := prog_3_method_46_code
def yX1_layersAheadOf : MethodName := ⟨RX1, "layersAheadOf", "(I)I"⟩
abbrev cX1_leastOf : ByteArray := prog_3_method_47_code
def yX1_leastOf : MethodName := ⟨RX1, "leastOf", "(I)I"⟩
abbrev cX1_greatestOf : ByteArray := prog_3_method_48_code
def yX1_greatestOf : MethodName := ⟨RX1, "greatestOf", "(I)I"⟩
abbrev cX1_isKnown : ByteArray := prog_3_method_49_code
def yX1_isKnown : MethodName := ⟨RX1, "isKnown", "(I)Z"⟩
abbrev cX1_surely : ByteArray := prog_3_method_50_code
def yX1_surely : MethodName := ⟨RX1, "surely", "(Z)I"⟩
abbrev cX1_surelyDry : ByteArray := prog_3_method_51_code
def yX1_surelyDry : MethodName := ⟨RX1, "surelyDry", "()I"⟩
abbrev cX1_surelyDamp : ByteArray := prog_3_method_52_code
def yX1_surelyDamp : MethodName := ⟨RX1, "surelyDamp", "()I"⟩
abbrev cX1_worstLayer : ByteArray := prog_3_method_53_code
def yX1_worstLayer : MethodName := ⟨RX1, "worstLayer", "()I"⟩
abbrev cX1_doubt : ByteArray := prog_3_method_54_code
def yX1_doubt : MethodName := ⟨RX1, "doubt", "()I"⟩
abbrev cX1_leastSum : ByteArray := prog_3_method_55_code
def yX1_leastSum : MethodName := ⟨RX1, "leastSum", "(II)I"⟩
abbrev cX1_greatestSum : ByteArray := prog_3_method_56_code
def yX1_greatestSum : MethodName := ⟨RX1, "greatestSum", "(II)I"⟩
abbrev cX1_doubtBehind : ByteArray := prog_3_method_57_code
def yX1_doubtBehind : MethodName := ⟨RX1, "doubtBehind", "(II)I"⟩
abbrev cX1_bestToLookAt : ByteArray := prog_3_method_58_code
def yX1_bestToLookAt : MethodName := ⟨RX1, "bestToLookAt", "()I"⟩
abbrev cX1_keep : ByteArray := prog_3_method_59_code
def yX1_keep : MethodName := ⟨RX1, "keep", "()V"⟩
abbrev cX1_bringBack : ByteArray := prog_3_method_60_code
def yX1_bringBack : MethodName := ⟨RX1, "bringBack", "()V"⟩
abbrev cX1_dampnessIn : ByteArray := prog_3_method_61_code
def yX1_dampnessIn : MethodName := ⟨RX1, "dampnessIn", "(II)I"⟩
abbrev cX1_daysUntilEven : ByteArray := prog_3_method_62_code
def yX1_daysUntilEven : MethodName := ⟨RX1, "daysUntilEven", "()I"⟩
abbrev cX1_meanDampness : ByteArray := prog_3_method_63_code
def yX1_meanDampness : MethodName := ⟨RX1, "meanDampness", "()D"⟩
abbrev cX1_digest : ByteArray := prog_3_method_64_code
def yX1_digest : MethodName := ⟨RX1, "digest", "()J"⟩
def RJ6 : String := "java/lang/Integer"
def TJ6 : u_T := fun k => match k with
  | _ => ("", "", "", false)
def tyJ6 : Nat → FieldType := fun k => match k with
  | _ => .int
abbrev wsJ60 : List Cond := u_ws RJ6 TJ6 0
theorem nmJ6 : ∀ a, a < 0 → ∀ b, b < 0 → a ≠ b → (TJ6 a).2.1 ≠ (TJ6 b).2.1 := by decide +kernel
theorem tyJ6_ok : ∀ k, k < 0 → parseFieldDescriptor (TJ6 k).2.2.1 = some (tyJ6 k) := by decide +kernel
abbrev cJ6_signum_0f7a4 : ByteArray := prog_8_method_56_code
def yJ6_signum_0f7a4 : MethodName := ⟨RJ6, "signum", "(I)I"⟩
def RJ9 : String := "java/lang/Math"
def TJ9 : u_T := fun k => match k with
  | _ => ("", "", "", false)
def tyJ9 : Nat → FieldType := fun k => match k with
  | _ => .int
abbrev wsJ90 : List Cond := u_ws RJ9 TJ9 0
theorem nmJ9 : ∀ a, a < 0 → ∀ b, b < 0 → a ≠ b → (TJ9 a).2.1 ≠ (TJ9 b).2.1 := by decide +kernel
theorem tyJ9_ok : ∀ k, k < 0 → parseFieldDescriptor (TJ9 k).2.2.1 = some (tyJ9 k) := by decide +kernel
abbrev cJ9_min_7cf53 : ByteArray := prog_9_method_69_code
def yJ9_min_7cf53 : MethodName := ⟨RJ9, "min", "(II)I"⟩
def RJ0 : String := "java/lang/String"
def TJ0 : u_T := fun k => match k with
  | _ => ("", "", "", false)
def tyJ0 : Nat → FieldType := fun k => match k with
  | _ => .int
abbrev wsJ00 : List Cond := u_ws RJ0 TJ0 0
theorem nmJ0 : ∀ a, a < 0 → ∀ b, b < 0 → a ≠ b → (TJ0 a).2.1 ≠ (TJ0 b).2.1 := by decide +kernel
theorem tyJ0_ok : ∀ k, k < 0 → parseFieldDescriptor (TJ0 k).2.2.1 = some (tyJ0 k) := by decide +kernel
def RJ10 : String := "java/lang/System"
def TJ10 : u_T := fun k => match k with
  | _ => ("", "", "", false)
def tyJ10 : Nat → FieldType := fun k => match k with
  | _ => .int
abbrev wsJ100 : List Cond := u_ws RJ10 TJ10 0
theorem nmJ10 : ∀ a, a < 0 → ∀ b, b < 0 → a ≠ b → (TJ10 a).2.1 ≠ (TJ10 b).2.1 := by decide +kernel
theorem tyJ10_ok : ∀ k, k < 0 → parseFieldDescriptor (TJ10 k).2.2.1 = some (tyJ10 k) := by decide +kernel
def RL : String := "GrainSiloLaw"
abbrev cL_fill : ByteArray := method_3_code
def yL_fill : MethodName := ⟨RL, "fill", "(LGrainSilo;II[J)I"⟩
abbrev cL_letOut : ByteArray := method_4_code
def yL_letOut : MethodName := ⟨RL, "letOut", "(LGrainSilo;[J)I"⟩
abbrev cL_turnOver : ByteArray := method_5_code
def yL_turnOver : MethodName := ⟨RL, "turnOver", "(LGrainSilo;[J)I"⟩
abbrev cL_setLimit : ByteArray := method_6_code
def yL_setLimit : MethodName := ⟨RL, "setLimit", "(LGrainSilo;I[J)I"⟩
abbrev cL_pass : ByteArray := method_7_code
def yL_pass : MethodName := ⟨RL, "pass", "(LGrainSilo;I[J)I"⟩
abbrev cL_draw : ByteArray := method_8_code
def yL_draw : MethodName := ⟨RL, "draw", "(LGrainSilo;II[J)I"⟩
abbrev cL_throwAway : ByteArray := method_9_code
def yL_throwAway : MethodName := ⟨RL, "throwAway", "(LGrainSilo;I[J)I"⟩
abbrev cL_lowestOf : ByteArray := method_10_code
def yL_lowestOf : MethodName := ⟨RL, "lowestOf", "(LGrainSilo;I[J)I"⟩
abbrev cL_highestOf : ByteArray := method_11_code
def yL_highestOf : MethodName := ⟨RL, "highestOf", "(LGrainSilo;I[J)I"⟩
abbrev cL_sumOf : ByteArray := method_12_code
def yL_sumOf : MethodName := ⟨RL, "sumOf", "(LGrainSilo;I[J)I"⟩
abbrev cL_doubtOf : ByteArray := method_13_code
def yL_doubtOf : MethodName := ⟨RL, "doubtOf", "(LGrainSilo;I[J)I"⟩
abbrev cL_kindOf : ByteArray := method_14_code
def yL_kindOf : MethodName := ⟨RL, "kindOf", "(LGrainSilo;I[J)I"⟩
abbrev cL_dampnessOf : ByteArray := method_15_code
def yL_dampnessOf : MethodName := ⟨RL, "dampnessOf", "(LGrainSilo;I[J)I"⟩
abbrev cL_layersAheadOf : ByteArray := method_16_code
def yL_layersAheadOf : MethodName := ⟨RL, "layersAheadOf", "(LGrainSilo;I[J)I"⟩
abbrev cL_leastOf : ByteArray := method_17_code
def yL_leastOf : MethodName := ⟨RL, "leastOf", "(LGrainSilo;I[J)I"⟩
abbrev cL_greatestOf : ByteArray := method_18_code
def yL_greatestOf : MethodName := ⟨RL, "greatestOf", "(LGrainSilo;I[J)I"⟩
abbrev cL_isKnown : ByteArray := method_19_code
def yL_isKnown : MethodName := ⟨RL, "isKnown", "(LGrainSilo;I[J)I"⟩
abbrev cL_worstLayer : ByteArray := method_20_code
def yL_worstLayer : MethodName := ⟨RL, "worstLayer", "(LGrainSilo;[J)I"⟩
abbrev cL_leastSum : ByteArray := method_21_code
def yL_leastSum : MethodName := ⟨RL, "leastSum", "(LGrainSilo;II[J)I"⟩
abbrev cL_greatestSum : ByteArray := method_22_code
def yL_greatestSum : MethodName := ⟨RL, "greatestSum", "(LGrainSilo;II[J)I"⟩
abbrev cL_doubtBehind : ByteArray := method_23_code
def yL_doubtBehind : MethodName := ⟨RL, "doubtBehind", "(LGrainSilo;II[J)I"⟩
abbrev cL_bestToLookAt : ByteArray := method_24_code
def yL_bestToLookAt : MethodName := ⟨RL, "bestToLookAt", "(LGrainSilo;[J)I"⟩
abbrev cL_dampnessIn : ByteArray := method_25_code
def yL_dampnessIn : MethodName := ⟨RL, "dampnessIn", "(LGrainSilo;II[J)I"⟩
abbrev cL_law : ByteArray := code
def yL_law : MethodName := ⟨RL, "law", "([I)Z"⟩
def wsX0_init : List Cond := .code yX0_init cX0_init 1 none :: ([.methodLink RX0 1 objectInit, .instanceMethod objectInit, .code objectInit ⟨#[0xb1]⟩ 1 none, .arrayClass .int, .fieldLink RX0 9 "GrainSilo" "kinds" "[I", .fieldLink RX0 13 "GrainSilo" "dampness" "[I", .fieldLink RX0 16 "GrainSilo" "lowest" "[I", .fieldLink RX0 19 "GrainSilo" "highest" "[I", .fieldLink RX0 22 "GrainSilo" "sums" "[I", .fieldLink RX0 25 "GrainSilo" "doubts" "[I", .fieldLink RX0 28 "GrainSilo" "turns" "[I", .fieldLink RX0 31 "GrainSilo" "ahead" "[I", .classLink RX0 34 "[[I", .fieldLink RX0 36 "GrainSilo" "most" "[[I", .fieldLink RX0 39 "GrainSilo" "limit" "I"] ++ wsX00)
def wsX0_isKind : List Cond := .code yX0_isKind cX0_isKind 1 (some .boolean) :: ([])
def wsX0_isDampness : List Cond := .code yX0_isDampness cX0_isDampness 1 (some .boolean) :: ([])
def wsX0_putOnTop : List Cond := .code yX0_putOnTop cX0_putOnTop 4 (some .int) :: ([.fieldLink RX0 57 "GrainSilo" "layers" "I", .fieldLink RX0 9 "GrainSilo" "kinds" "[I", .fieldLink RX0 13 "GrainSilo" "dampness" "[I"] ++ wsX00)
def wsX0_fill : List Cond := .code yX0_fill cX0_fill 3 (some .int) :: ([.classLink RX0 50 "java/lang/IllegalArgumentException", .initialized "java/lang/IllegalArgumentException", .classLink RX0 60 "java/lang/IllegalStateException", .initialized "java/lang/IllegalStateException", .fieldLink RX0 57 "GrainSilo" "layers" "I", .methodLink RX0 43 yX0_isKind, .static yX0_isKind, .initialized RX0, .code yX0_isKind cX0_isKind 1 (some .boolean), .methodLink RX0 47 yX0_isDampness, .static yX0_isDampness, .code yX0_isDampness cX0_isDampness 1 (some .boolean), .methodLink RX0 65 yX0_putOnTop, .instanceMethod yX0_putOnTop, .selects RX0 yX0_putOnTop yX0_putOnTop, .code yX0_putOnTop cX0_putOnTop 4 (some .int), .fieldLink RX0 9 "GrainSilo" "kinds" "[I", .fieldLink RX0 13 "GrainSilo" "dampness" "[I"] ++ wsX00 ++ (vx_atS RX0 54 "java/lang/IllegalArgumentException" ["java/lang/RuntimeException", "java/lang/Exception"]).filter goodWord ++ (vx_atS RX0 64 "java/lang/IllegalStateException" ["java/lang/RuntimeException", "java/lang/Exception"]).filter goodWord)
def wsX0_isDamp : List Cond := .code yX0_isDamp cX0_isDamp 2 (some .boolean) :: ([.fieldLink RX0 39 "GrainSilo" "limit" "I"] ++ wsX00)
def wsX0_countOut : List Cond := .code yX0_countOut cX0_countOut 2 none :: ([.fieldLink RX0 125 "GrainSilo" "spoilt" "I", .fieldLink RX0 122 "GrainSilo" "sold" "I", .methodLink RX0 131 yX0_isDamp, .instanceMethod yX0_isDamp, .selects RX0 yX0_isDamp yX0_isDamp, .initialized RX0, .code yX0_isDamp cX0_isDamp 2 (some .boolean), .fieldLink RX0 39 "GrainSilo" "limit" "I"] ++ wsX00)
def wsX0_lowerLayers : List Cond := .code yX0_lowerLayers cX0_lowerLayers 2 none :: ([.fieldLink RX0 57 "GrainSilo" "layers" "I", .fieldLink RX0 9 "GrainSilo" "kinds" "[I", .fieldLink RX0 13 "GrainSilo" "dampness" "[I"] ++ wsX00)
def wsX0_moveSample : List Cond := .code yX0_moveSample cX0_moveSample 3 none :: ([.fieldLink RX0 16 "GrainSilo" "lowest" "[I", .fieldLink RX0 19 "GrainSilo" "highest" "[I", .fieldLink RX0 22 "GrainSilo" "sums" "[I", .fieldLink RX0 25 "GrainSilo" "doubts" "[I"] ++ wsX00)
def wsX0_dropSamplesOfLowest : List Cond := .code yX0_dropSamplesOfLowest cX0_dropSamplesOfLowest 3 none :: ([.fieldLink RX0 86 "GrainSilo" "samples" "I", .fieldLink RX0 16 "GrainSilo" "lowest" "[I", .methodLink RX0 119 yX0_moveSample, .instanceMethod yX0_moveSample, .selects RX0 yX0_moveSample yX0_moveSample, .initialized RX0, .code yX0_moveSample cX0_moveSample 3 none, .fieldLink RX0 19 "GrainSilo" "highest" "[I", .fieldLink RX0 22 "GrainSilo" "sums" "[I", .fieldLink RX0 25 "GrainSilo" "doubts" "[I"] ++ wsX00)
def wsX0_cutLowestOffSamples : List Cond := .code yX0_cutLowestOffSamples cX0_cutLowestOffSamples 3 none :: ([.fieldLink RX0 86 "GrainSilo" "samples" "I", .fieldLink RX0 16 "GrainSilo" "lowest" "[I", .fieldLink RX0 19 "GrainSilo" "highest" "[I", .fieldLink RX0 22 "GrainSilo" "sums" "[I", .methodLink RX0 89 yX0_dropSamplesOfLowest, .instanceMethod yX0_dropSamplesOfLowest, .selects RX0 yX0_dropSamplesOfLowest yX0_dropSamplesOfLowest, .initialized RX0, .code yX0_dropSamplesOfLowest cX0_dropSamplesOfLowest 3 none, .methodLink RX0 119 yX0_moveSample, .instanceMethod yX0_moveSample, .selects RX0 yX0_moveSample yX0_moveSample, .code yX0_moveSample cX0_moveSample 3 none, .fieldLink RX0 25 "GrainSilo" "doubts" "[I"] ++ wsX00)
def wsX0_lowerSamples : List Cond := .code yX0_lowerSamples cX0_lowerSamples 2 none :: ([.fieldLink RX0 86 "GrainSilo" "samples" "I", .fieldLink RX0 16 "GrainSilo" "lowest" "[I", .fieldLink RX0 19 "GrainSilo" "highest" "[I"] ++ wsX00)
def wsX0_letOut_r1 : List Cond := [Cond.classLink RX0 60 "java/lang/IllegalStateException", Cond.initialized "java/lang/IllegalStateException", Cond.fieldLink RX0 57 "GrainSilo" "layers" "I", Cond.fieldLink RX0 13 "GrainSilo" "dampness" "[I", Cond.methodLink RX0 71 yX0_countOut, Cond.instanceMethod yX0_countOut, Cond.selects RX0 yX0_countOut yX0_countOut, Cond.initialized RX0, Cond.code yX0_countOut cX0_countOut 2 none, Cond.fieldLink RX0 125 "GrainSilo" "spoilt" "I", Cond.fieldLink RX0 122 "GrainSilo" "sold" "I", Cond.methodLink RX0 131 yX0_isDamp, Cond.instanceMethod yX0_isDamp, Cond.selects RX0 yX0_isDamp yX0_isDamp, Cond.code yX0_isDamp cX0_isDamp 2 (some .boolean), Cond.fieldLink RX0 39 "GrainSilo" "limit" "I", Cond.methodLink RX0 75 yX0_lowerLayers, Cond.instanceMethod yX0_lowerLayers, Cond.selects RX0 yX0_lowerLayers yX0_lowerLayers, Cond.code yX0_lowerLayers cX0_lowerLayers 2 none, Cond.fieldLink RX0 9 "GrainSilo" "kinds" "[I", Cond.methodLink RX0 78 yX0_cutLowestOffSamples, Cond.instanceMethod yX0_cutLowestOffSamples, Cond.selects RX0 yX0_cutLowestOffSamples yX0_cutLowestOffSamples]
def wsX0_letOut_r2 : List Cond := [Cond.code yX0_cutLowestOffSamples cX0_cutLowestOffSamples 3 none, Cond.fieldLink RX0 86 "GrainSilo" "samples" "I", Cond.fieldLink RX0 16 "GrainSilo" "lowest" "[I", Cond.fieldLink RX0 19 "GrainSilo" "highest" "[I", Cond.fieldLink RX0 22 "GrainSilo" "sums" "[I", Cond.methodLink RX0 89 yX0_dropSamplesOfLowest, Cond.instanceMethod yX0_dropSamplesOfLowest, Cond.selects RX0 yX0_dropSamplesOfLowest yX0_dropSamplesOfLowest, Cond.code yX0_dropSamplesOfLowest cX0_dropSamplesOfLowest 3 none, Cond.methodLink RX0 119 yX0_moveSample, Cond.instanceMethod yX0_moveSample, Cond.selects RX0 yX0_moveSample yX0_moveSample, Cond.code yX0_moveSample cX0_moveSample 3 none, Cond.fieldLink RX0 25 "GrainSilo" "doubts" "[I", Cond.methodLink RX0 81 yX0_lowerSamples, Cond.instanceMethod yX0_lowerSamples, Cond.selects RX0 yX0_lowerSamples yX0_lowerSamples, Cond.code yX0_lowerSamples cX0_lowerSamples 2 none]
def wsX0_letOut : List Cond := .code yX0_letOut cX0_letOut 2 (some .int) :: ((wsX0_letOut_r1 ++ wsX0_letOut_r2) ++ wsX00 ++ (vx_atS RX0 64 "java/lang/IllegalStateException" ["java/lang/RuntimeException", "java/lang/Exception"]).filter goodWord)
def wsX0_turnOver_r1 : List Cond := [Cond.classLink RX0 60 "java/lang/IllegalStateException", Cond.initialized "java/lang/IllegalStateException", Cond.fieldLink RX0 57 "GrainSilo" "layers" "I", Cond.fieldLink RX0 9 "GrainSilo" "kinds" "[I", Cond.fieldLink RX0 13 "GrainSilo" "dampness" "[I", Cond.fieldLink RX0 86 "GrainSilo" "samples" "I", Cond.methodLink RX0 75 yX0_lowerLayers, Cond.instanceMethod yX0_lowerLayers, Cond.selects RX0 yX0_lowerLayers yX0_lowerLayers, Cond.initialized RX0, Cond.code yX0_lowerLayers cX0_lowerLayers 2 none, Cond.methodLink RX0 65 yX0_putOnTop, Cond.instanceMethod yX0_putOnTop, Cond.selects RX0 yX0_putOnTop yX0_putOnTop, Cond.code yX0_putOnTop cX0_putOnTop 4 (some .int), Cond.methodLink RX0 89 yX0_dropSamplesOfLowest, Cond.instanceMethod yX0_dropSamplesOfLowest, Cond.selects RX0 yX0_dropSamplesOfLowest yX0_dropSamplesOfLowest, Cond.code yX0_dropSamplesOfLowest cX0_dropSamplesOfLowest 3 none, Cond.fieldLink RX0 16 "GrainSilo" "lowest" "[I", Cond.methodLink RX0 119 yX0_moveSample, Cond.instanceMethod yX0_moveSample, Cond.selects RX0 yX0_moveSample yX0_moveSample, Cond.code yX0_moveSample cX0_moveSample 3 none]
def wsX0_turnOver_r2 : List Cond := [Cond.fieldLink RX0 19 "GrainSilo" "highest" "[I", Cond.fieldLink RX0 22 "GrainSilo" "sums" "[I", Cond.fieldLink RX0 25 "GrainSilo" "doubts" "[I", Cond.methodLink RX0 81 yX0_lowerSamples, Cond.instanceMethod yX0_lowerSamples, Cond.selects RX0 yX0_lowerSamples yX0_lowerSamples, Cond.code yX0_lowerSamples cX0_lowerSamples 2 none]
def wsX0_turnOver : List Cond := .code yX0_turnOver cX0_turnOver 4 (some .int) :: ((wsX0_turnOver_r1 ++ wsX0_turnOver_r2) ++ wsX00 ++ (vx_atS RX0 64 "java/lang/IllegalStateException" ["java/lang/RuntimeException", "java/lang/Exception"]).filter goodWord)
def wsX0_setLimit : List Cond := .code yX0_setLimit cX0_setLimit 3 (some .int) :: ([.classLink RX0 50 "java/lang/IllegalArgumentException", .initialized "java/lang/IllegalArgumentException", .fieldLink RX0 39 "GrainSilo" "limit" "I", .methodLink RX0 47 yX0_isDampness, .static yX0_isDampness, .initialized RX0, .code yX0_isDampness cX0_isDampness 1 (some .boolean)] ++ wsX00 ++ (vx_atS RX0 54 "java/lang/IllegalArgumentException" ["java/lang/RuntimeException", "java/lang/Exception"]).filter goodWord)
def wsX0_checkDays : List Cond := .code yX0_checkDays cX0_checkDays 1 none :: ([.classLink RX0 50 "java/lang/IllegalArgumentException", .initialized "java/lang/IllegalArgumentException"] ++ (vx_atS RX0 54 "java/lang/IllegalArgumentException" ["java/lang/RuntimeException", "java/lang/Exception"]).filter goodWord)
def wsX0_pullOf : List Cond := .code yX0_pullOf cX0_pullOf 5 (some .int) :: ([.fieldLink RX0 57 "GrainSilo" "layers" "I"] ++ wsX00)
def wsX0_turnOf : List Cond := .code yX0_turnOf cX0_turnOf 4 (some .int) :: ([.methodLink RX0 195 yX0_pullOf, .instanceMethod yX0_pullOf, .selects RX0 yX0_pullOf yX0_pullOf, .initialized RX0, .code yX0_pullOf cX0_pullOf 5 (some .int), .fieldLink RX0 57 "GrainSilo" "layers" "I"] ++ wsX00)
def wsX0_letDayGoBy : List Cond := .code yX0_letDayGoBy cX0_letDayGoBy 4 (some .int) :: ([.fieldLink RX0 57 "GrainSilo" "layers" "I", .fieldLink RX0 28 "GrainSilo" "turns" "[I", .methodLink RX0 192 yX0_turnOf, .instanceMethod yX0_turnOf, .selects RX0 yX0_turnOf yX0_turnOf, .initialized RX0, .code yX0_turnOf cX0_turnOf 4 (some .int), .methodLink RX0 195 yX0_pullOf, .instanceMethod yX0_pullOf, .selects RX0 yX0_pullOf yX0_pullOf, .code yX0_pullOf cX0_pullOf 5 (some .int)] ++ wsX00)
def wsX0_letDaysGoBy : List Cond := .code yX0_letDaysGoBy cX0_letDaysGoBy 5 (some .int) :: ([.methodLink RX0 167 yX0_letDayGoBy, .instanceMethod yX0_letDayGoBy, .selects RX0 yX0_letDayGoBy yX0_letDayGoBy, .initialized RX0, .code yX0_letDayGoBy cX0_letDayGoBy 4 (some .int), .fieldLink RX0 57 "GrainSilo" "layers" "I", .fieldLink RX0 28 "GrainSilo" "turns" "[I", .methodLink RX0 192 yX0_turnOf, .instanceMethod yX0_turnOf, .selects RX0 yX0_turnOf yX0_turnOf, .code yX0_turnOf cX0_turnOf 4 (some .int), .methodLink RX0 195 yX0_pullOf, .instanceMethod yX0_pullOf, .selects RX0 yX0_pullOf yX0_pullOf, .code yX0_pullOf cX0_pullOf 5 (some .int)] ++ wsX00)
def wsX0_addDoubt : List Cond := .code yX0_addDoubt cX0_addDoubt 3 none :: ([.fieldLink RX0 86 "GrainSilo" "samples" "I", .fieldLink RX0 25 "GrainSilo" "doubts" "[I", .fieldLink RX0 19 "GrainSilo" "highest" "[I", .fieldLink RX0 16 "GrainSilo" "lowest" "[I"] ++ wsX00)
def wsX0_pass_r1 : List Cond := [Cond.fieldLink RX0 13 "GrainSilo" "dampness" "[I", Cond.fieldLink RX0 104 "GrainSilo" "day" "I", Cond.methodLink RX0 94 yX0_checkDays, Cond.static yX0_checkDays, Cond.initialized RX0, Cond.code yX0_checkDays cX0_checkDays 1 none, Cond.classLink RX0 50 "java/lang/IllegalArgumentException", Cond.initialized "java/lang/IllegalArgumentException", Cond.methodLink RX0 97 yX0_letDaysGoBy, Cond.instanceMethod yX0_letDaysGoBy, Cond.selects RX0 yX0_letDaysGoBy yX0_letDaysGoBy, Cond.code yX0_letDaysGoBy cX0_letDaysGoBy 5 (some .int), Cond.methodLink RX0 167 yX0_letDayGoBy, Cond.instanceMethod yX0_letDayGoBy, Cond.selects RX0 yX0_letDayGoBy yX0_letDayGoBy, Cond.code yX0_letDayGoBy cX0_letDayGoBy 4 (some .int), Cond.fieldLink RX0 57 "GrainSilo" "layers" "I", Cond.fieldLink RX0 28 "GrainSilo" "turns" "[I", Cond.methodLink RX0 192 yX0_turnOf, Cond.instanceMethod yX0_turnOf, Cond.selects RX0 yX0_turnOf yX0_turnOf, Cond.code yX0_turnOf cX0_turnOf 4 (some .int), Cond.methodLink RX0 195 yX0_pullOf, Cond.instanceMethod yX0_pullOf]
def wsX0_pass_r2 : List Cond := [Cond.selects RX0 yX0_pullOf yX0_pullOf, Cond.code yX0_pullOf cX0_pullOf 5 (some .int), Cond.methodLink RX0 101 yX0_addDoubt, Cond.instanceMethod yX0_addDoubt, Cond.selects RX0 yX0_addDoubt yX0_addDoubt, Cond.code yX0_addDoubt cX0_addDoubt 3 none, Cond.fieldLink RX0 86 "GrainSilo" "samples" "I", Cond.fieldLink RX0 25 "GrainSilo" "doubts" "[I", Cond.fieldLink RX0 19 "GrainSilo" "highest" "[I", Cond.fieldLink RX0 16 "GrainSilo" "lowest" "[I"]
def wsX0_pass : List Cond := .code yX0_pass cX0_pass 3 (some .int) :: ((wsX0_pass_r1 ++ wsX0_pass_r2) ++ wsX00 ++ (vx_atS RX0 54 "java/lang/IllegalArgumentException" ["java/lang/RuntimeException", "java/lang/Exception"]).filter goodWord)
def wsX0_checkLayers : List Cond := .code yX0_checkLayers cX0_checkLayers 3 none :: ([.classLink RX0 134 "java/lang/IndexOutOfBoundsException", .initialized "java/lang/IndexOutOfBoundsException", .fieldLink RX0 57 "GrainSilo" "layers" "I"] ++ wsX00 ++ (vx_atS RX0 138 "java/lang/IndexOutOfBoundsException" ["java/lang/RuntimeException", "java/lang/Exception"]).filter goodWord)
def wsX0_sumNow : List Cond := .code yX0_sumNow cX0_sumNow 5 (some .int) :: ([.fieldLink RX0 13 "GrainSilo" "dampness" "[I"] ++ wsX00)
def wsX0_draw : List Cond := .code yX0_draw cX0_draw 4 (some .int) :: ([.classLink RX0 60 "java/lang/IllegalStateException", .initialized "java/lang/IllegalStateException", .fieldLink RX0 86 "GrainSilo" "samples" "I", .fieldLink RX0 16 "GrainSilo" "lowest" "[I", .fieldLink RX0 19 "GrainSilo" "highest" "[I", .fieldLink RX0 22 "GrainSilo" "sums" "[I", .fieldLink RX0 25 "GrainSilo" "doubts" "[I", .methodLink RX0 107 yX0_checkLayers, .instanceMethod yX0_checkLayers, .selects RX0 yX0_checkLayers yX0_checkLayers, .initialized RX0, .code yX0_checkLayers cX0_checkLayers 3 none, .classLink RX0 134 "java/lang/IndexOutOfBoundsException", .initialized "java/lang/IndexOutOfBoundsException", .fieldLink RX0 57 "GrainSilo" "layers" "I", .methodLink RX0 113 yX0_sumNow, .instanceMethod yX0_sumNow, .selects RX0 yX0_sumNow yX0_sumNow, .code yX0_sumNow cX0_sumNow 5 (some .int), .fieldLink RX0 13 "GrainSilo" "dampness" "[I"] ++ wsX00 ++ (vx_atS RX0 64 "java/lang/IllegalStateException" ["java/lang/RuntimeException", "java/lang/Exception"]).filter goodWord ++ (vx_atS RX0 138 "java/lang/IndexOutOfBoundsException" ["java/lang/RuntimeException", "java/lang/Exception"]).filter goodWord)
def wsX0_checkSample : List Cond := .code yX0_checkSample cX0_checkSample 2 none :: ([.classLink RX0 134 "java/lang/IndexOutOfBoundsException", .initialized "java/lang/IndexOutOfBoundsException", .fieldLink RX0 86 "GrainSilo" "samples" "I"] ++ wsX00 ++ (vx_atS RX0 138 "java/lang/IndexOutOfBoundsException" ["java/lang/RuntimeException", "java/lang/Exception"]).filter goodWord)
def wsX0_throwAway : List Cond := .code yX0_throwAway cX0_throwAway 3 (some .int) :: ([.fieldLink RX0 86 "GrainSilo" "samples" "I", .methodLink RX0 116 yX0_checkSample, .instanceMethod yX0_checkSample, .selects RX0 yX0_checkSample yX0_checkSample, .initialized RX0, .code yX0_checkSample cX0_checkSample 2 none, .classLink RX0 134 "java/lang/IndexOutOfBoundsException", .initialized "java/lang/IndexOutOfBoundsException", .methodLink RX0 119 yX0_moveSample, .instanceMethod yX0_moveSample, .selects RX0 yX0_moveSample yX0_moveSample, .code yX0_moveSample cX0_moveSample 3 none, .fieldLink RX0 16 "GrainSilo" "lowest" "[I", .fieldLink RX0 19 "GrainSilo" "highest" "[I", .fieldLink RX0 22 "GrainSilo" "sums" "[I", .fieldLink RX0 25 "GrainSilo" "doubts" "[I"] ++ wsX00 ++ (vx_atS RX0 138 "java/lang/IndexOutOfBoundsException" ["java/lang/RuntimeException", "java/lang/Exception"]).filter goodWord)
def wsX0_samples : List Cond := .code yX0_samples cX0_samples 1 (some .int) :: ([.fieldLink RX0 86 "GrainSilo" "samples" "I"] ++ wsX00)
def wsX0_lowestOf : List Cond := .code yX0_lowestOf cX0_lowestOf 2 (some .int) :: ([.fieldLink RX0 16 "GrainSilo" "lowest" "[I", .methodLink RX0 116 yX0_checkSample, .instanceMethod yX0_checkSample, .selects RX0 yX0_checkSample yX0_checkSample, .initialized RX0, .code yX0_checkSample cX0_checkSample 2 none, .classLink RX0 134 "java/lang/IndexOutOfBoundsException", .initialized "java/lang/IndexOutOfBoundsException", .fieldLink RX0 86 "GrainSilo" "samples" "I"] ++ wsX00 ++ (vx_atS RX0 138 "java/lang/IndexOutOfBoundsException" ["java/lang/RuntimeException", "java/lang/Exception"]).filter goodWord)
def wsX0_highestOf : List Cond := .code yX0_highestOf cX0_highestOf 2 (some .int) :: ([.fieldLink RX0 19 "GrainSilo" "highest" "[I", .methodLink RX0 116 yX0_checkSample, .instanceMethod yX0_checkSample, .selects RX0 yX0_checkSample yX0_checkSample, .initialized RX0, .code yX0_checkSample cX0_checkSample 2 none, .classLink RX0 134 "java/lang/IndexOutOfBoundsException", .initialized "java/lang/IndexOutOfBoundsException", .fieldLink RX0 86 "GrainSilo" "samples" "I"] ++ wsX00 ++ (vx_atS RX0 138 "java/lang/IndexOutOfBoundsException" ["java/lang/RuntimeException", "java/lang/Exception"]).filter goodWord)
def wsX0_sumOf : List Cond := .code yX0_sumOf cX0_sumOf 2 (some .int) :: ([.fieldLink RX0 22 "GrainSilo" "sums" "[I", .methodLink RX0 116 yX0_checkSample, .instanceMethod yX0_checkSample, .selects RX0 yX0_checkSample yX0_checkSample, .initialized RX0, .code yX0_checkSample cX0_checkSample 2 none, .classLink RX0 134 "java/lang/IndexOutOfBoundsException", .initialized "java/lang/IndexOutOfBoundsException", .fieldLink RX0 86 "GrainSilo" "samples" "I"] ++ wsX00 ++ (vx_atS RX0 138 "java/lang/IndexOutOfBoundsException" ["java/lang/RuntimeException", "java/lang/Exception"]).filter goodWord)
def wsX0_doubtOf : List Cond := .code yX0_doubtOf cX0_doubtOf 2 (some .int) :: ([.fieldLink RX0 25 "GrainSilo" "doubts" "[I", .methodLink RX0 116 yX0_checkSample, .instanceMethod yX0_checkSample, .selects RX0 yX0_checkSample yX0_checkSample, .initialized RX0, .code yX0_checkSample cX0_checkSample 2 none, .classLink RX0 134 "java/lang/IndexOutOfBoundsException", .initialized "java/lang/IndexOutOfBoundsException", .fieldLink RX0 86 "GrainSilo" "samples" "I"] ++ wsX00 ++ (vx_atS RX0 138 "java/lang/IndexOutOfBoundsException" ["java/lang/RuntimeException", "java/lang/Exception"]).filter goodWord)
def wsX0_layers : List Cond := .code yX0_layers cX0_layers 1 (some .int) :: ([.fieldLink RX0 57 "GrainSilo" "layers" "I"] ++ wsX00)
def wsX0_day : List Cond := .code yX0_day cX0_day 1 (some .int) :: ([.fieldLink RX0 104 "GrainSilo" "day" "I"] ++ wsX00)
def wsX0_limit : List Cond := .code yX0_limit cX0_limit 1 (some .int) :: ([.fieldLink RX0 39 "GrainSilo" "limit" "I"] ++ wsX00)
def wsX0_sold : List Cond := .code yX0_sold cX0_sold 1 (some .int) :: ([.fieldLink RX0 122 "GrainSilo" "sold" "I"] ++ wsX00)
def wsX0_spoilt : List Cond := .code yX0_spoilt cX0_spoilt 1 (some .int) :: ([.fieldLink RX0 125 "GrainSilo" "spoilt" "I"] ++ wsX00)
def wsX0_checkLayer : List Cond := .code yX0_checkLayer cX0_checkLayer 2 none :: ([.classLink RX0 134 "java/lang/IndexOutOfBoundsException", .initialized "java/lang/IndexOutOfBoundsException", .fieldLink RX0 57 "GrainSilo" "layers" "I"] ++ wsX00 ++ (vx_atS RX0 138 "java/lang/IndexOutOfBoundsException" ["java/lang/RuntimeException", "java/lang/Exception"]).filter goodWord)
def wsX0_kindOf : List Cond := .code yX0_kindOf cX0_kindOf 2 (some .int) :: ([.fieldLink RX0 9 "GrainSilo" "kinds" "[I", .methodLink RX0 128 yX0_checkLayer, .instanceMethod yX0_checkLayer, .selects RX0 yX0_checkLayer yX0_checkLayer, .initialized RX0, .code yX0_checkLayer cX0_checkLayer 2 none, .classLink RX0 134 "java/lang/IndexOutOfBoundsException", .initialized "java/lang/IndexOutOfBoundsException", .fieldLink RX0 57 "GrainSilo" "layers" "I"] ++ wsX00 ++ (vx_atS RX0 138 "java/lang/IndexOutOfBoundsException" ["java/lang/RuntimeException", "java/lang/Exception"]).filter goodWord)
def wsX0_dampnessOf : List Cond := .code yX0_dampnessOf cX0_dampnessOf 2 (some .int) :: ([.fieldLink RX0 13 "GrainSilo" "dampness" "[I", .methodLink RX0 128 yX0_checkLayer, .instanceMethod yX0_checkLayer, .selects RX0 yX0_checkLayer yX0_checkLayer, .initialized RX0, .code yX0_checkLayer cX0_checkLayer 2 none, .classLink RX0 134 "java/lang/IndexOutOfBoundsException", .initialized "java/lang/IndexOutOfBoundsException", .fieldLink RX0 57 "GrainSilo" "layers" "I"] ++ wsX00 ++ (vx_atS RX0 138 "java/lang/IndexOutOfBoundsException" ["java/lang/RuntimeException", "java/lang/Exception"]).filter goodWord)
def wsX0_dampLayers : List Cond := .code yX0_dampLayers cX0_dampLayers 3 (some .int) :: ([.fieldLink RX0 57 "GrainSilo" "layers" "I", .fieldLink RX0 13 "GrainSilo" "dampness" "[I", .methodLink RX0 131 yX0_isDamp, .instanceMethod yX0_isDamp, .selects RX0 yX0_isDamp yX0_isDamp, .initialized RX0, .code yX0_isDamp cX0_isDamp 2 (some .boolean), .fieldLink RX0 39 "GrainSilo" "limit" "I"] ++ wsX00)
def wsX0_layersAheadOf : List Cond := .code yX0_layersAheadOf cX0_layersAheadOf 3 (some .int) :: ([.classLink RX0 134 "java/lang/IndexOutOfBoundsException", .initialized "java/lang/IndexOutOfBoundsException", .fieldLink RX0 57 "GrainSilo" "layers" "I", .fieldLink RX0 9 "GrainSilo" "kinds" "[I", .methodLink RX0 43 yX0_isKind, .static yX0_isKind, .initialized RX0, .code yX0_isKind cX0_isKind 1 (some .boolean)] ++ wsX00 ++ (vx_atS RX0 138 "java/lang/IndexOutOfBoundsException" ["java/lang/RuntimeException", "java/lang/Exception"]).filter goodWord)
def wsX0_weighNothing : List Cond := .code yX0_weighNothing cX0_weighNothing 3 none :: ([.fieldLink RX0 57 "GrainSilo" "layers" "I", .fieldLink RX0 36 "GrainSilo" "most" "[[I"] ++ wsX00)
def wsX0_heed : List Cond := .code yX0_heed cX0_heed 6 none :: ([.fieldLink RX0 36 "GrainSilo" "most" "[[I", .fieldLink RX0 57 "GrainSilo" "layers" "I", .methodLink RX0 206 Lib.Math.min.name, .static Lib.Math.min.name, .initialized "java/lang/Math", .code Lib.Math.min.name Lib.Math.min.code 2 (some .int)] ++ wsX00)
def wsX0_weighSamples : List Cond := .code yX0_weighSamples cX0_weighSamples 4 none :: ([.fieldLink RX0 86 "GrainSilo" "samples" "I", .fieldLink RX0 16 "GrainSilo" "lowest" "[I", .fieldLink RX0 19 "GrainSilo" "highest" "[I", .fieldLink RX0 22 "GrainSilo" "sums" "[I", .fieldLink RX0 25 "GrainSilo" "doubts" "[I", .methodLink RX0 199 yX0_weighNothing, .instanceMethod yX0_weighNothing, .selects RX0 yX0_weighNothing yX0_weighNothing, .initialized RX0, .code yX0_weighNothing cX0_weighNothing 3 none, .fieldLink RX0 57 "GrainSilo" "layers" "I", .fieldLink RX0 36 "GrainSilo" "most" "[[I", .methodLink RX0 202 yX0_heed, .instanceMethod yX0_heed, .selects RX0 yX0_heed yX0_heed, .code yX0_heed cX0_heed 6 none, .methodLink RX0 206 Lib.Math.min.name, .static Lib.Math.min.name, .initialized "java/lang/Math", .code Lib.Math.min.name Lib.Math.min.code 2 (some .int)] ++ wsX00)
def wsX0_least : List Cond := .code yX0_least cX0_least 3 (some .int) :: ([.fieldLink RX0 36 "GrainSilo" "most" "[[I"] ++ wsX00)
def wsX0_leastOf_r1 : List Cond := [Cond.methodLink RX0 128 yX0_checkLayer, Cond.instanceMethod yX0_checkLayer, Cond.selects RX0 yX0_checkLayer yX0_checkLayer, Cond.initialized RX0, Cond.code yX0_checkLayer cX0_checkLayer 2 none, Cond.classLink RX0 134 "java/lang/IndexOutOfBoundsException", Cond.initialized "java/lang/IndexOutOfBoundsException", Cond.fieldLink RX0 57 "GrainSilo" "layers" "I", Cond.methodLink RX0 139 yX0_weighSamples, Cond.instanceMethod yX0_weighSamples, Cond.selects RX0 yX0_weighSamples yX0_weighSamples, Cond.code yX0_weighSamples cX0_weighSamples 4 none, Cond.fieldLink RX0 86 "GrainSilo" "samples" "I", Cond.fieldLink RX0 16 "GrainSilo" "lowest" "[I", Cond.fieldLink RX0 19 "GrainSilo" "highest" "[I", Cond.fieldLink RX0 22 "GrainSilo" "sums" "[I", Cond.fieldLink RX0 25 "GrainSilo" "doubts" "[I", Cond.methodLink RX0 199 yX0_weighNothing, Cond.instanceMethod yX0_weighNothing, Cond.selects RX0 yX0_weighNothing yX0_weighNothing, Cond.code yX0_weighNothing cX0_weighNothing 3 none, Cond.fieldLink RX0 36 "GrainSilo" "most" "[[I", Cond.methodLink RX0 202 yX0_heed, Cond.instanceMethod yX0_heed]
def wsX0_leastOf_r2 : List Cond := [Cond.selects RX0 yX0_heed yX0_heed, Cond.code yX0_heed cX0_heed 6 none, Cond.methodLink RX0 206 Lib.Math.min.name, Cond.static Lib.Math.min.name, Cond.initialized "java/lang/Math", Cond.code Lib.Math.min.name Lib.Math.min.code 2 (some .int), Cond.methodLink RX0 142 yX0_least, Cond.instanceMethod yX0_least, Cond.selects RX0 yX0_least yX0_least, Cond.code yX0_least cX0_least 3 (some .int)]
def wsX0_leastOf : List Cond := .code yX0_leastOf cX0_leastOf 2 (some .int) :: ((wsX0_leastOf_r1 ++ wsX0_leastOf_r2) ++ wsX00 ++ (vx_atS RX0 138 "java/lang/IndexOutOfBoundsException" ["java/lang/RuntimeException", "java/lang/Exception"]).filter goodWord)
def wsX0_greatest : List Cond := .code yX0_greatest cX0_greatest 3 (some .int) :: ([.fieldLink RX0 36 "GrainSilo" "most" "[[I"] ++ wsX00)
def wsX0_greatestOf_r1 : List Cond := [Cond.methodLink RX0 128 yX0_checkLayer, Cond.instanceMethod yX0_checkLayer, Cond.selects RX0 yX0_checkLayer yX0_checkLayer, Cond.initialized RX0, Cond.code yX0_checkLayer cX0_checkLayer 2 none, Cond.classLink RX0 134 "java/lang/IndexOutOfBoundsException", Cond.initialized "java/lang/IndexOutOfBoundsException", Cond.fieldLink RX0 57 "GrainSilo" "layers" "I", Cond.methodLink RX0 139 yX0_weighSamples, Cond.instanceMethod yX0_weighSamples, Cond.selects RX0 yX0_weighSamples yX0_weighSamples, Cond.code yX0_weighSamples cX0_weighSamples 4 none, Cond.fieldLink RX0 86 "GrainSilo" "samples" "I", Cond.fieldLink RX0 16 "GrainSilo" "lowest" "[I", Cond.fieldLink RX0 19 "GrainSilo" "highest" "[I", Cond.fieldLink RX0 22 "GrainSilo" "sums" "[I", Cond.fieldLink RX0 25 "GrainSilo" "doubts" "[I", Cond.methodLink RX0 199 yX0_weighNothing, Cond.instanceMethod yX0_weighNothing, Cond.selects RX0 yX0_weighNothing yX0_weighNothing, Cond.code yX0_weighNothing cX0_weighNothing 3 none, Cond.fieldLink RX0 36 "GrainSilo" "most" "[[I", Cond.methodLink RX0 202 yX0_heed, Cond.instanceMethod yX0_heed]
def wsX0_greatestOf_r2 : List Cond := [Cond.selects RX0 yX0_heed yX0_heed, Cond.code yX0_heed cX0_heed 6 none, Cond.methodLink RX0 206 Lib.Math.min.name, Cond.static Lib.Math.min.name, Cond.initialized "java/lang/Math", Cond.code Lib.Math.min.name Lib.Math.min.code 2 (some .int), Cond.methodLink RX0 145 yX0_greatest, Cond.instanceMethod yX0_greatest, Cond.selects RX0 yX0_greatest yX0_greatest, Cond.code yX0_greatest cX0_greatest 3 (some .int)]
def wsX0_greatestOf : List Cond := .code yX0_greatestOf cX0_greatestOf 2 (some .int) :: ((wsX0_greatestOf_r1 ++ wsX0_greatestOf_r2) ++ wsX00 ++ (vx_atS RX0 138 "java/lang/IndexOutOfBoundsException" ["java/lang/RuntimeException", "java/lang/Exception"]).filter goodWord)
def wsX0_isKnown_r1 : List Cond := [Cond.methodLink RX0 128 yX0_checkLayer, Cond.instanceMethod yX0_checkLayer, Cond.selects RX0 yX0_checkLayer yX0_checkLayer, Cond.initialized RX0, Cond.code yX0_checkLayer cX0_checkLayer 2 none, Cond.classLink RX0 134 "java/lang/IndexOutOfBoundsException", Cond.initialized "java/lang/IndexOutOfBoundsException", Cond.fieldLink RX0 57 "GrainSilo" "layers" "I", Cond.methodLink RX0 139 yX0_weighSamples, Cond.instanceMethod yX0_weighSamples, Cond.selects RX0 yX0_weighSamples yX0_weighSamples, Cond.code yX0_weighSamples cX0_weighSamples 4 none, Cond.fieldLink RX0 86 "GrainSilo" "samples" "I", Cond.fieldLink RX0 16 "GrainSilo" "lowest" "[I", Cond.fieldLink RX0 19 "GrainSilo" "highest" "[I", Cond.fieldLink RX0 22 "GrainSilo" "sums" "[I", Cond.fieldLink RX0 25 "GrainSilo" "doubts" "[I", Cond.methodLink RX0 199 yX0_weighNothing, Cond.instanceMethod yX0_weighNothing, Cond.selects RX0 yX0_weighNothing yX0_weighNothing, Cond.code yX0_weighNothing cX0_weighNothing 3 none, Cond.fieldLink RX0 36 "GrainSilo" "most" "[[I", Cond.methodLink RX0 202 yX0_heed, Cond.instanceMethod yX0_heed]
def wsX0_isKnown_r2 : List Cond := [Cond.selects RX0 yX0_heed yX0_heed, Cond.code yX0_heed cX0_heed 6 none, Cond.methodLink RX0 206 Lib.Math.min.name, Cond.static Lib.Math.min.name, Cond.initialized "java/lang/Math", Cond.code Lib.Math.min.name Lib.Math.min.code 2 (some .int), Cond.methodLink RX0 142 yX0_least, Cond.instanceMethod yX0_least, Cond.selects RX0 yX0_least yX0_least, Cond.code yX0_least cX0_least 3 (some .int), Cond.methodLink RX0 145 yX0_greatest, Cond.instanceMethod yX0_greatest, Cond.selects RX0 yX0_greatest yX0_greatest, Cond.code yX0_greatest cX0_greatest 3 (some .int)]
def wsX0_isKnown : List Cond := .code yX0_isKnown cX0_isKnown 2 (some .boolean) :: ((wsX0_isKnown_r1 ++ wsX0_isKnown_r2) ++ wsX00 ++ (vx_atS RX0 138 "java/lang/IndexOutOfBoundsException" ["java/lang/RuntimeException", "java/lang/Exception"]).filter goodWord)
def wsX0_countSurelyDry : List Cond := .code yX0_countSurelyDry cX0_countSurelyDry 3 (some .int) :: ([.fieldLink RX0 57 "GrainSilo" "layers" "I", .methodLink RX0 145 yX0_greatest, .instanceMethod yX0_greatest, .selects RX0 yX0_greatest yX0_greatest, .initialized RX0, .code yX0_greatest cX0_greatest 3 (some .int), .fieldLink RX0 36 "GrainSilo" "most" "[[I", .methodLink RX0 131 yX0_isDamp, .instanceMethod yX0_isDamp, .selects RX0 yX0_isDamp yX0_isDamp, .code yX0_isDamp cX0_isDamp 2 (some .boolean), .fieldLink RX0 39 "GrainSilo" "limit" "I"] ++ wsX00)
def wsX0_surelyDry_r1 : List Cond := [Cond.methodLink RX0 139 yX0_weighSamples, Cond.instanceMethod yX0_weighSamples, Cond.selects RX0 yX0_weighSamples yX0_weighSamples, Cond.initialized RX0, Cond.code yX0_weighSamples cX0_weighSamples 4 none, Cond.fieldLink RX0 86 "GrainSilo" "samples" "I", Cond.fieldLink RX0 16 "GrainSilo" "lowest" "[I", Cond.fieldLink RX0 19 "GrainSilo" "highest" "[I", Cond.fieldLink RX0 22 "GrainSilo" "sums" "[I", Cond.fieldLink RX0 25 "GrainSilo" "doubts" "[I", Cond.methodLink RX0 199 yX0_weighNothing, Cond.instanceMethod yX0_weighNothing, Cond.selects RX0 yX0_weighNothing yX0_weighNothing, Cond.code yX0_weighNothing cX0_weighNothing 3 none, Cond.fieldLink RX0 57 "GrainSilo" "layers" "I", Cond.fieldLink RX0 36 "GrainSilo" "most" "[[I", Cond.methodLink RX0 202 yX0_heed, Cond.instanceMethod yX0_heed, Cond.selects RX0 yX0_heed yX0_heed, Cond.code yX0_heed cX0_heed 6 none, Cond.methodLink RX0 206 Lib.Math.min.name, Cond.static Lib.Math.min.name, Cond.initialized "java/lang/Math", Cond.code Lib.Math.min.name Lib.Math.min.code 2 (some .int)]
def wsX0_surelyDry_r2 : List Cond := [Cond.methodLink RX0 148 yX0_countSurelyDry, Cond.instanceMethod yX0_countSurelyDry, Cond.selects RX0 yX0_countSurelyDry yX0_countSurelyDry, Cond.code yX0_countSurelyDry cX0_countSurelyDry 3 (some .int), Cond.methodLink RX0 145 yX0_greatest, Cond.instanceMethod yX0_greatest, Cond.selects RX0 yX0_greatest yX0_greatest, Cond.code yX0_greatest cX0_greatest 3 (some .int), Cond.methodLink RX0 131 yX0_isDamp, Cond.instanceMethod yX0_isDamp, Cond.selects RX0 yX0_isDamp yX0_isDamp, Cond.code yX0_isDamp cX0_isDamp 2 (some .boolean), Cond.fieldLink RX0 39 "GrainSilo" "limit" "I"]
def wsX0_surelyDry : List Cond := .code yX0_surelyDry cX0_surelyDry 1 (some .int) :: ((wsX0_surelyDry_r1 ++ wsX0_surelyDry_r2) ++ wsX00)
def wsX0_countSurelyDamp : List Cond := .code yX0_countSurelyDamp cX0_countSurelyDamp 3 (some .int) :: ([.fieldLink RX0 57 "GrainSilo" "layers" "I", .methodLink RX0 142 yX0_least, .instanceMethod yX0_least, .selects RX0 yX0_least yX0_least, .initialized RX0, .code yX0_least cX0_least 3 (some .int), .fieldLink RX0 36 "GrainSilo" "most" "[[I", .methodLink RX0 131 yX0_isDamp, .instanceMethod yX0_isDamp, .selects RX0 yX0_isDamp yX0_isDamp, .code yX0_isDamp cX0_isDamp 2 (some .boolean), .fieldLink RX0 39 "GrainSilo" "limit" "I"] ++ wsX00)
def wsX0_surelyDamp_r1 : List Cond := [Cond.methodLink RX0 139 yX0_weighSamples, Cond.instanceMethod yX0_weighSamples, Cond.selects RX0 yX0_weighSamples yX0_weighSamples, Cond.initialized RX0, Cond.code yX0_weighSamples cX0_weighSamples 4 none, Cond.fieldLink RX0 86 "GrainSilo" "samples" "I", Cond.fieldLink RX0 16 "GrainSilo" "lowest" "[I", Cond.fieldLink RX0 19 "GrainSilo" "highest" "[I", Cond.fieldLink RX0 22 "GrainSilo" "sums" "[I", Cond.fieldLink RX0 25 "GrainSilo" "doubts" "[I", Cond.methodLink RX0 199 yX0_weighNothing, Cond.instanceMethod yX0_weighNothing, Cond.selects RX0 yX0_weighNothing yX0_weighNothing, Cond.code yX0_weighNothing cX0_weighNothing 3 none, Cond.fieldLink RX0 57 "GrainSilo" "layers" "I", Cond.fieldLink RX0 36 "GrainSilo" "most" "[[I", Cond.methodLink RX0 202 yX0_heed, Cond.instanceMethod yX0_heed, Cond.selects RX0 yX0_heed yX0_heed, Cond.code yX0_heed cX0_heed 6 none, Cond.methodLink RX0 206 Lib.Math.min.name, Cond.static Lib.Math.min.name, Cond.initialized "java/lang/Math", Cond.code Lib.Math.min.name Lib.Math.min.code 2 (some .int)]
def wsX0_surelyDamp_r2 : List Cond := [Cond.methodLink RX0 152 yX0_countSurelyDamp, Cond.instanceMethod yX0_countSurelyDamp, Cond.selects RX0 yX0_countSurelyDamp yX0_countSurelyDamp, Cond.code yX0_countSurelyDamp cX0_countSurelyDamp 3 (some .int), Cond.methodLink RX0 142 yX0_least, Cond.instanceMethod yX0_least, Cond.selects RX0 yX0_least yX0_least, Cond.code yX0_least cX0_least 3 (some .int), Cond.methodLink RX0 131 yX0_isDamp, Cond.instanceMethod yX0_isDamp, Cond.selects RX0 yX0_isDamp yX0_isDamp, Cond.code yX0_isDamp cX0_isDamp 2 (some .boolean), Cond.fieldLink RX0 39 "GrainSilo" "limit" "I"]
def wsX0_surelyDamp : List Cond := .code yX0_surelyDamp cX0_surelyDamp 1 (some .int) :: ((wsX0_surelyDamp_r1 ++ wsX0_surelyDamp_r2) ++ wsX00)
def wsX0_checkNotEmpty : List Cond := .code yX0_checkNotEmpty cX0_checkNotEmpty 1 none :: ([.classLink RX0 60 "java/lang/IllegalStateException", .initialized "java/lang/IllegalStateException", .fieldLink RX0 57 "GrainSilo" "layers" "I"] ++ wsX00 ++ (vx_atS RX0 64 "java/lang/IllegalStateException" ["java/lang/RuntimeException", "java/lang/Exception"]).filter goodWord)
def wsX0_worstLayer_r1 : List Cond := [Cond.fieldLink RX0 57 "GrainSilo" "layers" "I", Cond.methodLink RX0 155 yX0_checkNotEmpty, Cond.instanceMethod yX0_checkNotEmpty, Cond.selects RX0 yX0_checkNotEmpty yX0_checkNotEmpty, Cond.initialized RX0, Cond.code yX0_checkNotEmpty cX0_checkNotEmpty 1 none, Cond.classLink RX0 60 "java/lang/IllegalStateException", Cond.initialized "java/lang/IllegalStateException", Cond.methodLink RX0 139 yX0_weighSamples, Cond.instanceMethod yX0_weighSamples, Cond.selects RX0 yX0_weighSamples yX0_weighSamples, Cond.code yX0_weighSamples cX0_weighSamples 4 none, Cond.fieldLink RX0 86 "GrainSilo" "samples" "I", Cond.fieldLink RX0 16 "GrainSilo" "lowest" "[I", Cond.fieldLink RX0 19 "GrainSilo" "highest" "[I", Cond.fieldLink RX0 22 "GrainSilo" "sums" "[I", Cond.fieldLink RX0 25 "GrainSilo" "doubts" "[I", Cond.methodLink RX0 199 yX0_weighNothing, Cond.instanceMethod yX0_weighNothing, Cond.selects RX0 yX0_weighNothing yX0_weighNothing, Cond.code yX0_weighNothing cX0_weighNothing 3 none, Cond.fieldLink RX0 36 "GrainSilo" "most" "[[I", Cond.methodLink RX0 202 yX0_heed, Cond.instanceMethod yX0_heed]
def wsX0_worstLayer_r2 : List Cond := [Cond.selects RX0 yX0_heed yX0_heed, Cond.code yX0_heed cX0_heed 6 none, Cond.methodLink RX0 206 Lib.Math.min.name, Cond.static Lib.Math.min.name, Cond.initialized "java/lang/Math", Cond.code Lib.Math.min.name Lib.Math.min.code 2 (some .int), Cond.methodLink RX0 145 yX0_greatest, Cond.instanceMethod yX0_greatest, Cond.selects RX0 yX0_greatest yX0_greatest, Cond.code yX0_greatest cX0_greatest 3 (some .int)]
def wsX0_worstLayer : List Cond := .code yX0_worstLayer cX0_worstLayer 3 (some .int) :: ((wsX0_worstLayer_r1 ++ wsX0_worstLayer_r2) ++ wsX00 ++ (vx_atS RX0 64 "java/lang/IllegalStateException" ["java/lang/RuntimeException", "java/lang/Exception"]).filter goodWord)
def wsX0_doubtNow : List Cond := .code yX0_doubtNow cX0_doubtNow 3 (some .int) :: ([.fieldLink RX0 57 "GrainSilo" "layers" "I", .methodLink RX0 145 yX0_greatest, .instanceMethod yX0_greatest, .selects RX0 yX0_greatest yX0_greatest, .initialized RX0, .code yX0_greatest cX0_greatest 3 (some .int), .fieldLink RX0 36 "GrainSilo" "most" "[[I", .methodLink RX0 142 yX0_least, .instanceMethod yX0_least, .selects RX0 yX0_least yX0_least, .code yX0_least cX0_least 3 (some .int)] ++ wsX00)
def wsX0_doubt_r1 : List Cond := [Cond.methodLink RX0 139 yX0_weighSamples, Cond.instanceMethod yX0_weighSamples, Cond.selects RX0 yX0_weighSamples yX0_weighSamples, Cond.initialized RX0, Cond.code yX0_weighSamples cX0_weighSamples 4 none, Cond.fieldLink RX0 86 "GrainSilo" "samples" "I", Cond.fieldLink RX0 16 "GrainSilo" "lowest" "[I", Cond.fieldLink RX0 19 "GrainSilo" "highest" "[I", Cond.fieldLink RX0 22 "GrainSilo" "sums" "[I", Cond.fieldLink RX0 25 "GrainSilo" "doubts" "[I", Cond.methodLink RX0 199 yX0_weighNothing, Cond.instanceMethod yX0_weighNothing, Cond.selects RX0 yX0_weighNothing yX0_weighNothing, Cond.code yX0_weighNothing cX0_weighNothing 3 none, Cond.fieldLink RX0 57 "GrainSilo" "layers" "I", Cond.fieldLink RX0 36 "GrainSilo" "most" "[[I", Cond.methodLink RX0 202 yX0_heed, Cond.instanceMethod yX0_heed, Cond.selects RX0 yX0_heed yX0_heed, Cond.code yX0_heed cX0_heed 6 none, Cond.methodLink RX0 206 Lib.Math.min.name, Cond.static Lib.Math.min.name, Cond.initialized "java/lang/Math", Cond.code Lib.Math.min.name Lib.Math.min.code 2 (some .int)]
def wsX0_doubt_r2 : List Cond := [Cond.methodLink RX0 158 yX0_doubtNow, Cond.instanceMethod yX0_doubtNow, Cond.selects RX0 yX0_doubtNow yX0_doubtNow, Cond.code yX0_doubtNow cX0_doubtNow 3 (some .int), Cond.methodLink RX0 145 yX0_greatest, Cond.instanceMethod yX0_greatest, Cond.selects RX0 yX0_greatest yX0_greatest, Cond.code yX0_greatest cX0_greatest 3 (some .int), Cond.methodLink RX0 142 yX0_least, Cond.instanceMethod yX0_least, Cond.selects RX0 yX0_least yX0_least, Cond.code yX0_least cX0_least 3 (some .int)]
def wsX0_doubt : List Cond := .code yX0_doubt cX0_doubt 1 (some .int) :: ((wsX0_doubt_r1 ++ wsX0_doubt_r2) ++ wsX00)
def wsX0_leastSum_r1 : List Cond := [Cond.methodLink RX0 107 yX0_checkLayers, Cond.instanceMethod yX0_checkLayers, Cond.selects RX0 yX0_checkLayers yX0_checkLayers, Cond.initialized RX0, Cond.code yX0_checkLayers cX0_checkLayers 3 none, Cond.classLink RX0 134 "java/lang/IndexOutOfBoundsException", Cond.initialized "java/lang/IndexOutOfBoundsException", Cond.fieldLink RX0 57 "GrainSilo" "layers" "I", Cond.methodLink RX0 139 yX0_weighSamples, Cond.instanceMethod yX0_weighSamples, Cond.selects RX0 yX0_weighSamples yX0_weighSamples, Cond.code yX0_weighSamples cX0_weighSamples 4 none, Cond.fieldLink RX0 86 "GrainSilo" "samples" "I", Cond.fieldLink RX0 16 "GrainSilo" "lowest" "[I", Cond.fieldLink RX0 19 "GrainSilo" "highest" "[I", Cond.fieldLink RX0 22 "GrainSilo" "sums" "[I", Cond.fieldLink RX0 25 "GrainSilo" "doubts" "[I", Cond.methodLink RX0 199 yX0_weighNothing, Cond.instanceMethod yX0_weighNothing, Cond.selects RX0 yX0_weighNothing yX0_weighNothing, Cond.code yX0_weighNothing cX0_weighNothing 3 none, Cond.fieldLink RX0 36 "GrainSilo" "most" "[[I", Cond.methodLink RX0 202 yX0_heed, Cond.instanceMethod yX0_heed]
def wsX0_leastSum_r2 : List Cond := [Cond.selects RX0 yX0_heed yX0_heed, Cond.code yX0_heed cX0_heed 6 none, Cond.methodLink RX0 206 Lib.Math.min.name, Cond.static Lib.Math.min.name, Cond.initialized "java/lang/Math", Cond.code Lib.Math.min.name Lib.Math.min.code 2 (some .int), Cond.methodLink RX0 142 yX0_least, Cond.instanceMethod yX0_least, Cond.selects RX0 yX0_least yX0_least, Cond.code yX0_least cX0_least 3 (some .int)]
def wsX0_leastSum : List Cond := .code yX0_leastSum cX0_leastSum 3 (some .int) :: ((wsX0_leastSum_r1 ++ wsX0_leastSum_r2) ++ wsX00 ++ (vx_atS RX0 138 "java/lang/IndexOutOfBoundsException" ["java/lang/RuntimeException", "java/lang/Exception"]).filter goodWord)
def wsX0_greatestSum_r1 : List Cond := [Cond.methodLink RX0 107 yX0_checkLayers, Cond.instanceMethod yX0_checkLayers, Cond.selects RX0 yX0_checkLayers yX0_checkLayers, Cond.initialized RX0, Cond.code yX0_checkLayers cX0_checkLayers 3 none, Cond.classLink RX0 134 "java/lang/IndexOutOfBoundsException", Cond.initialized "java/lang/IndexOutOfBoundsException", Cond.fieldLink RX0 57 "GrainSilo" "layers" "I", Cond.methodLink RX0 139 yX0_weighSamples, Cond.instanceMethod yX0_weighSamples, Cond.selects RX0 yX0_weighSamples yX0_weighSamples, Cond.code yX0_weighSamples cX0_weighSamples 4 none, Cond.fieldLink RX0 86 "GrainSilo" "samples" "I", Cond.fieldLink RX0 16 "GrainSilo" "lowest" "[I", Cond.fieldLink RX0 19 "GrainSilo" "highest" "[I", Cond.fieldLink RX0 22 "GrainSilo" "sums" "[I", Cond.fieldLink RX0 25 "GrainSilo" "doubts" "[I", Cond.methodLink RX0 199 yX0_weighNothing, Cond.instanceMethod yX0_weighNothing, Cond.selects RX0 yX0_weighNothing yX0_weighNothing, Cond.code yX0_weighNothing cX0_weighNothing 3 none, Cond.fieldLink RX0 36 "GrainSilo" "most" "[[I", Cond.methodLink RX0 202 yX0_heed, Cond.instanceMethod yX0_heed]
def wsX0_greatestSum_r2 : List Cond := [Cond.selects RX0 yX0_heed yX0_heed, Cond.code yX0_heed cX0_heed 6 none, Cond.methodLink RX0 206 Lib.Math.min.name, Cond.static Lib.Math.min.name, Cond.initialized "java/lang/Math", Cond.code Lib.Math.min.name Lib.Math.min.code 2 (some .int), Cond.methodLink RX0 145 yX0_greatest, Cond.instanceMethod yX0_greatest, Cond.selects RX0 yX0_greatest yX0_greatest, Cond.code yX0_greatest cX0_greatest 3 (some .int)]
def wsX0_greatestSum : List Cond := .code yX0_greatestSum cX0_greatestSum 3 (some .int) :: ((wsX0_greatestSum_r1 ++ wsX0_greatestSum_r2) ++ wsX00 ++ (vx_atS RX0 138 "java/lang/IndexOutOfBoundsException" ["java/lang/RuntimeException", "java/lang/Exception"]).filter goodWord)
def wsX0_mostIfTold : List Cond := .code yX0_mostIfTold cX0_mostIfTold 8 (some .int) :: ([.fieldLink RX0 36 "GrainSilo" "most" "[[I", .methodLink RX0 206 Lib.Math.min.name, .static Lib.Math.min.name, .initialized "java/lang/Math", .code Lib.Math.min.name Lib.Math.min.code 2 (some .int)] ++ wsX00)
def wsX0_doubtIfDrawn : List Cond := .code yX0_doubtIfDrawn cX0_doubtIfDrawn 6 (some .int) :: ([.fieldLink RX0 57 "GrainSilo" "layers" "I", .methodLink RX0 113 yX0_sumNow, .instanceMethod yX0_sumNow, .selects RX0 yX0_sumNow yX0_sumNow, .initialized RX0, .code yX0_sumNow cX0_sumNow 5 (some .int), .fieldLink RX0 13 "GrainSilo" "dampness" "[I", .methodLink RX0 211 yX0_mostIfTold, .instanceMethod yX0_mostIfTold, .selects RX0 yX0_mostIfTold yX0_mostIfTold, .code yX0_mostIfTold cX0_mostIfTold 8 (some .int), .fieldLink RX0 36 "GrainSilo" "most" "[[I", .methodLink RX0 206 Lib.Math.min.name, .static Lib.Math.min.name, .initialized "java/lang/Math", .code Lib.Math.min.name Lib.Math.min.code 2 (some .int)] ++ wsX00)
def wsX0_doubtBehind_r1 : List Cond := [Cond.methodLink RX0 107 yX0_checkLayers, Cond.instanceMethod yX0_checkLayers, Cond.selects RX0 yX0_checkLayers yX0_checkLayers, Cond.initialized RX0, Cond.code yX0_checkLayers cX0_checkLayers 3 none, Cond.classLink RX0 134 "java/lang/IndexOutOfBoundsException", Cond.initialized "java/lang/IndexOutOfBoundsException", Cond.fieldLink RX0 57 "GrainSilo" "layers" "I", Cond.methodLink RX0 139 yX0_weighSamples, Cond.instanceMethod yX0_weighSamples, Cond.selects RX0 yX0_weighSamples yX0_weighSamples, Cond.code yX0_weighSamples cX0_weighSamples 4 none, Cond.fieldLink RX0 86 "GrainSilo" "samples" "I", Cond.fieldLink RX0 16 "GrainSilo" "lowest" "[I", Cond.fieldLink RX0 19 "GrainSilo" "highest" "[I", Cond.fieldLink RX0 22 "GrainSilo" "sums" "[I", Cond.fieldLink RX0 25 "GrainSilo" "doubts" "[I", Cond.methodLink RX0 199 yX0_weighNothing, Cond.instanceMethod yX0_weighNothing, Cond.selects RX0 yX0_weighNothing yX0_weighNothing, Cond.code yX0_weighNothing cX0_weighNothing 3 none, Cond.fieldLink RX0 36 "GrainSilo" "most" "[[I", Cond.methodLink RX0 202 yX0_heed, Cond.instanceMethod yX0_heed]
def wsX0_doubtBehind_r2 : List Cond := [Cond.selects RX0 yX0_heed yX0_heed, Cond.code yX0_heed cX0_heed 6 none, Cond.methodLink RX0 206 Lib.Math.min.name, Cond.static Lib.Math.min.name, Cond.initialized "java/lang/Math", Cond.code Lib.Math.min.name Lib.Math.min.code 2 (some .int), Cond.methodLink RX0 161 yX0_doubtIfDrawn, Cond.instanceMethod yX0_doubtIfDrawn, Cond.selects RX0 yX0_doubtIfDrawn yX0_doubtIfDrawn, Cond.code yX0_doubtIfDrawn cX0_doubtIfDrawn 6 (some .int), Cond.methodLink RX0 113 yX0_sumNow, Cond.instanceMethod yX0_sumNow, Cond.selects RX0 yX0_sumNow yX0_sumNow, Cond.code yX0_sumNow cX0_sumNow 5 (some .int), Cond.fieldLink RX0 13 "GrainSilo" "dampness" "[I", Cond.methodLink RX0 211 yX0_mostIfTold, Cond.instanceMethod yX0_mostIfTold, Cond.selects RX0 yX0_mostIfTold yX0_mostIfTold, Cond.code yX0_mostIfTold cX0_mostIfTold 8 (some .int)]
def wsX0_doubtBehind : List Cond := .code yX0_doubtBehind cX0_doubtBehind 3 (some .int) :: ((wsX0_doubtBehind_r1 ++ wsX0_doubtBehind_r2) ++ wsX00 ++ (vx_atS RX0 138 "java/lang/IndexOutOfBoundsException" ["java/lang/RuntimeException", "java/lang/Exception"]).filter goodWord)
def wsX0_bestToLookAt_r1 : List Cond := [Cond.fieldLink RX0 57 "GrainSilo" "layers" "I", Cond.methodLink RX0 155 yX0_checkNotEmpty, Cond.instanceMethod yX0_checkNotEmpty, Cond.selects RX0 yX0_checkNotEmpty yX0_checkNotEmpty, Cond.initialized RX0, Cond.code yX0_checkNotEmpty cX0_checkNotEmpty 1 none, Cond.classLink RX0 60 "java/lang/IllegalStateException", Cond.initialized "java/lang/IllegalStateException", Cond.methodLink RX0 139 yX0_weighSamples, Cond.instanceMethod yX0_weighSamples, Cond.selects RX0 yX0_weighSamples yX0_weighSamples, Cond.code yX0_weighSamples cX0_weighSamples 4 none, Cond.fieldLink RX0 86 "GrainSilo" "samples" "I", Cond.fieldLink RX0 16 "GrainSilo" "lowest" "[I", Cond.fieldLink RX0 19 "GrainSilo" "highest" "[I", Cond.fieldLink RX0 22 "GrainSilo" "sums" "[I", Cond.fieldLink RX0 25 "GrainSilo" "doubts" "[I", Cond.methodLink RX0 199 yX0_weighNothing, Cond.instanceMethod yX0_weighNothing, Cond.selects RX0 yX0_weighNothing yX0_weighNothing, Cond.code yX0_weighNothing cX0_weighNothing 3 none, Cond.fieldLink RX0 36 "GrainSilo" "most" "[[I", Cond.methodLink RX0 202 yX0_heed, Cond.instanceMethod yX0_heed]
def wsX0_bestToLookAt_r2 : List Cond := [Cond.selects RX0 yX0_heed yX0_heed, Cond.code yX0_heed cX0_heed 6 none, Cond.methodLink RX0 206 Lib.Math.min.name, Cond.static Lib.Math.min.name, Cond.initialized "java/lang/Math", Cond.code Lib.Math.min.name Lib.Math.min.code 2 (some .int), Cond.methodLink RX0 161 yX0_doubtIfDrawn, Cond.instanceMethod yX0_doubtIfDrawn, Cond.selects RX0 yX0_doubtIfDrawn yX0_doubtIfDrawn, Cond.code yX0_doubtIfDrawn cX0_doubtIfDrawn 6 (some .int), Cond.methodLink RX0 113 yX0_sumNow, Cond.instanceMethod yX0_sumNow, Cond.selects RX0 yX0_sumNow yX0_sumNow, Cond.code yX0_sumNow cX0_sumNow 5 (some .int), Cond.fieldLink RX0 13 "GrainSilo" "dampness" "[I", Cond.methodLink RX0 211 yX0_mostIfTold, Cond.instanceMethod yX0_mostIfTold, Cond.selects RX0 yX0_mostIfTold yX0_mostIfTold, Cond.code yX0_mostIfTold cX0_mostIfTold 8 (some .int)]
def wsX0_bestToLookAt : List Cond := .code yX0_bestToLookAt cX0_bestToLookAt 5 (some .int) :: ((wsX0_bestToLookAt_r1 ++ wsX0_bestToLookAt_r2) ++ wsX00 ++ (vx_atS RX0 64 "java/lang/IllegalStateException" ["java/lang/RuntimeException", "java/lang/Exception"]).filter goodWord)
def wsX0_copyDampnessAhead : List Cond := .code yX0_copyDampnessAhead cX0_copyDampnessAhead 2 none :: ([.fieldLink RX0 57 "GrainSilo" "layers" "I", .fieldLink RX0 31 "GrainSilo" "ahead" "[I", .fieldLink RX0 13 "GrainSilo" "dampness" "[I"] ++ wsX00)
def wsX0_dampnessIn_r1 : List Cond := [Cond.fieldLink RX0 31 "GrainSilo" "ahead" "[I", Cond.methodLink RX0 128 yX0_checkLayer, Cond.instanceMethod yX0_checkLayer, Cond.selects RX0 yX0_checkLayer yX0_checkLayer, Cond.initialized RX0, Cond.code yX0_checkLayer cX0_checkLayer 2 none, Cond.classLink RX0 134 "java/lang/IndexOutOfBoundsException", Cond.initialized "java/lang/IndexOutOfBoundsException", Cond.fieldLink RX0 57 "GrainSilo" "layers" "I", Cond.methodLink RX0 94 yX0_checkDays, Cond.static yX0_checkDays, Cond.code yX0_checkDays cX0_checkDays 1 none, Cond.classLink RX0 50 "java/lang/IllegalArgumentException", Cond.initialized "java/lang/IllegalArgumentException", Cond.methodLink RX0 164 yX0_copyDampnessAhead, Cond.instanceMethod yX0_copyDampnessAhead, Cond.selects RX0 yX0_copyDampnessAhead yX0_copyDampnessAhead, Cond.code yX0_copyDampnessAhead cX0_copyDampnessAhead 2 none, Cond.fieldLink RX0 13 "GrainSilo" "dampness" "[I", Cond.methodLink RX0 97 yX0_letDaysGoBy, Cond.instanceMethod yX0_letDaysGoBy, Cond.selects RX0 yX0_letDaysGoBy yX0_letDaysGoBy, Cond.code yX0_letDaysGoBy cX0_letDaysGoBy 5 (some .int), Cond.methodLink RX0 167 yX0_letDayGoBy]
def wsX0_dampnessIn_r2 : List Cond := [Cond.instanceMethod yX0_letDayGoBy, Cond.selects RX0 yX0_letDayGoBy yX0_letDayGoBy, Cond.code yX0_letDayGoBy cX0_letDayGoBy 4 (some .int), Cond.fieldLink RX0 28 "GrainSilo" "turns" "[I", Cond.methodLink RX0 192 yX0_turnOf, Cond.instanceMethod yX0_turnOf, Cond.selects RX0 yX0_turnOf yX0_turnOf, Cond.code yX0_turnOf cX0_turnOf 4 (some .int), Cond.methodLink RX0 195 yX0_pullOf, Cond.instanceMethod yX0_pullOf, Cond.selects RX0 yX0_pullOf yX0_pullOf, Cond.code yX0_pullOf cX0_pullOf 5 (some .int)]
def wsX0_dampnessIn : List Cond := .code yX0_dampnessIn cX0_dampnessIn 3 (some .int) :: ((wsX0_dampnessIn_r1 ++ wsX0_dampnessIn_r2) ++ wsX00 ++ (vx_atS RX0 138 "java/lang/IndexOutOfBoundsException" ["java/lang/RuntimeException", "java/lang/Exception"]).filter goodWord ++ (vx_atS RX0 54 "java/lang/IllegalArgumentException" ["java/lang/RuntimeException", "java/lang/Exception"]).filter goodWord)
def wsX0_daysUntilEven : List Cond := .code yX0_daysUntilEven cX0_daysUntilEven 2 (some .int) :: ([.fieldLink RX0 31 "GrainSilo" "ahead" "[I", .methodLink RX0 164 yX0_copyDampnessAhead, .instanceMethod yX0_copyDampnessAhead, .selects RX0 yX0_copyDampnessAhead yX0_copyDampnessAhead, .initialized RX0, .code yX0_copyDampnessAhead cX0_copyDampnessAhead 2 none, .fieldLink RX0 57 "GrainSilo" "layers" "I", .fieldLink RX0 13 "GrainSilo" "dampness" "[I", .methodLink RX0 167 yX0_letDayGoBy, .instanceMethod yX0_letDayGoBy, .selects RX0 yX0_letDayGoBy yX0_letDayGoBy, .code yX0_letDayGoBy cX0_letDayGoBy 4 (some .int), .fieldLink RX0 28 "GrainSilo" "turns" "[I", .methodLink RX0 192 yX0_turnOf, .instanceMethod yX0_turnOf, .selects RX0 yX0_turnOf yX0_turnOf, .code yX0_turnOf cX0_turnOf 4 (some .int), .methodLink RX0 195 yX0_pullOf, .instanceMethod yX0_pullOf, .selects RX0 yX0_pullOf yX0_pullOf, .code yX0_pullOf cX0_pullOf 5 (some .int)] ++ wsX00)
def wsX0_meanDampness : List Cond := .code yX0_meanDampness cX0_meanDampness 1 (some .double) :: ([.fieldLink RX0 57 "GrainSilo" "layers" "I", .methodLink RX0 113 yX0_sumNow, .instanceMethod yX0_sumNow, .selects RX0 yX0_sumNow yX0_sumNow, .initialized RX0, .code yX0_sumNow cX0_sumNow 5 (some .int), .fieldLink RX0 13 "GrainSilo" "dampness" "[I"] ++ wsX00)
def wsX0_digestOf : List Cond := .code yX0_digestOf cX0_digestOf 4 (some .long) :: ([.constantLong RX0 215 (31)])
def wsX0_digestOfLayers : List Cond := .code yX0_digestOfLayers cX0_digestOfLayers 6 (some .long) :: ([.fieldLink RX0 57 "GrainSilo" "layers" "I", .fieldLink RX0 9 "GrainSilo" "kinds" "[I", .fieldLink RX0 13 "GrainSilo" "dampness" "[I", .methodLink RX0 173 yX0_digestOf, .static yX0_digestOf, .initialized RX0, .code yX0_digestOf cX0_digestOf 4 (some .long), .constantLong RX0 215 (31), .methodLink RX0 142 yX0_least, .instanceMethod yX0_least, .selects RX0 yX0_least yX0_least, .code yX0_least cX0_least 3 (some .int), .fieldLink RX0 36 "GrainSilo" "most" "[[I", .methodLink RX0 145 yX0_greatest, .instanceMethod yX0_greatest, .selects RX0 yX0_greatest yX0_greatest, .code yX0_greatest cX0_greatest 3 (some .int)] ++ wsX00)
def wsX0_digestOfSamples : List Cond := .code yX0_digestOfSamples cX0_digestOfSamples 6 (some .long) :: ([.fieldLink RX0 86 "GrainSilo" "samples" "I", .fieldLink RX0 16 "GrainSilo" "lowest" "[I", .fieldLink RX0 19 "GrainSilo" "highest" "[I", .fieldLink RX0 22 "GrainSilo" "sums" "[I", .fieldLink RX0 25 "GrainSilo" "doubts" "[I", .methodLink RX0 173 yX0_digestOf, .static yX0_digestOf, .initialized RX0, .code yX0_digestOf cX0_digestOf 4 (some .long), .constantLong RX0 215 (31)] ++ wsX00)
def wsX0_digest_r1 : List Cond := [Cond.constantLong RX0 171 (1907), Cond.fieldLink RX0 57 "GrainSilo" "layers" "I", Cond.fieldLink RX0 86 "GrainSilo" "samples" "I", Cond.fieldLink RX0 104 "GrainSilo" "day" "I", Cond.fieldLink RX0 39 "GrainSilo" "limit" "I", Cond.fieldLink RX0 122 "GrainSilo" "sold" "I", Cond.fieldLink RX0 125 "GrainSilo" "spoilt" "I", Cond.methodLink RX0 139 yX0_weighSamples, Cond.instanceMethod yX0_weighSamples, Cond.selects RX0 yX0_weighSamples yX0_weighSamples, Cond.initialized RX0, Cond.code yX0_weighSamples cX0_weighSamples 4 none, Cond.fieldLink RX0 16 "GrainSilo" "lowest" "[I", Cond.fieldLink RX0 19 "GrainSilo" "highest" "[I", Cond.fieldLink RX0 22 "GrainSilo" "sums" "[I", Cond.fieldLink RX0 25 "GrainSilo" "doubts" "[I", Cond.methodLink RX0 199 yX0_weighNothing, Cond.instanceMethod yX0_weighNothing, Cond.selects RX0 yX0_weighNothing yX0_weighNothing, Cond.code yX0_weighNothing cX0_weighNothing 3 none, Cond.fieldLink RX0 36 "GrainSilo" "most" "[[I", Cond.methodLink RX0 202 yX0_heed, Cond.instanceMethod yX0_heed, Cond.selects RX0 yX0_heed yX0_heed]
def wsX0_digest_r2 : List Cond := [Cond.code yX0_heed cX0_heed 6 none, Cond.methodLink RX0 206 Lib.Math.min.name, Cond.static Lib.Math.min.name, Cond.initialized "java/lang/Math", Cond.code Lib.Math.min.name Lib.Math.min.code 2 (some .int), Cond.methodLink RX0 173 yX0_digestOf, Cond.static yX0_digestOf, Cond.code yX0_digestOf cX0_digestOf 4 (some .long), Cond.constantLong RX0 215 (31), Cond.methodLink RX0 158 yX0_doubtNow, Cond.instanceMethod yX0_doubtNow, Cond.selects RX0 yX0_doubtNow yX0_doubtNow, Cond.code yX0_doubtNow cX0_doubtNow 3 (some .int), Cond.methodLink RX0 145 yX0_greatest, Cond.instanceMethod yX0_greatest, Cond.selects RX0 yX0_greatest yX0_greatest, Cond.code yX0_greatest cX0_greatest 3 (some .int), Cond.methodLink RX0 142 yX0_least, Cond.instanceMethod yX0_least, Cond.selects RX0 yX0_least yX0_least, Cond.code yX0_least cX0_least 3 (some .int), Cond.methodLink RX0 148 yX0_countSurelyDry, Cond.instanceMethod yX0_countSurelyDry, Cond.selects RX0 yX0_countSurelyDry yX0_countSurelyDry]
def wsX0_digest_r3 : List Cond := [Cond.code yX0_countSurelyDry cX0_countSurelyDry 3 (some .int), Cond.methodLink RX0 131 yX0_isDamp, Cond.instanceMethod yX0_isDamp, Cond.selects RX0 yX0_isDamp yX0_isDamp, Cond.code yX0_isDamp cX0_isDamp 2 (some .boolean), Cond.methodLink RX0 152 yX0_countSurelyDamp, Cond.instanceMethod yX0_countSurelyDamp, Cond.selects RX0 yX0_countSurelyDamp yX0_countSurelyDamp, Cond.code yX0_countSurelyDamp cX0_countSurelyDamp 3 (some .int), Cond.methodLink RX0 177 yX0_digestOfLayers, Cond.instanceMethod yX0_digestOfLayers, Cond.selects RX0 yX0_digestOfLayers yX0_digestOfLayers, Cond.code yX0_digestOfLayers cX0_digestOfLayers 6 (some .long), Cond.fieldLink RX0 9 "GrainSilo" "kinds" "[I", Cond.fieldLink RX0 13 "GrainSilo" "dampness" "[I", Cond.methodLink RX0 181 yX0_digestOfSamples, Cond.instanceMethod yX0_digestOfSamples, Cond.selects RX0 yX0_digestOfSamples yX0_digestOfSamples, Cond.code yX0_digestOfSamples cX0_digestOfSamples 6 (some .long)]
def wsX0_digest : List Cond := .code yX0_digest cX0_digest 3 (some .long) :: ((wsX0_digest_r1 ++ (wsX0_digest_r2 ++ wsX0_digest_r3)) ++ wsX00)
def wsX1_init : List Cond := .code yX1_init cX1_init 1 none :: ([.methodLink RX1 3 objectInit, .instanceMethod objectInit, .code objectInit ⟨#[0xb1]⟩ 1 none, .arrayClass .int, .fieldLink RX1 9 "GrainSiloModel" "kind" "[I", .fieldLink RX1 13 "GrainSiloModel" "damp" "[I", .fieldLink RX1 16 "GrainSiloModel" "low" "[I", .fieldLink RX1 19 "GrainSiloModel" "high" "[I", .fieldLink RX1 22 "GrainSiloModel" "sum" "[I", .fieldLink RX1 25 "GrainSiloModel" "doubt" "[I", .fieldLink RX1 28 "GrainSiloModel" "limit" "I", .fieldLink RX1 32 "GrainSiloModel" "most" "[I", .fieldLink RX1 35 "GrainSiloModel" "kept" "[I", .fieldLink RX1 38 "GrainSiloModel" "step" "[I"] ++ wsX10)
def wsX1_thrown : List Cond := .code yX1_thrown cX1_thrown 1 (some .int) :: ([.fieldLink RX1 41 "GrainSiloModel" "thrown" "I"] ++ wsX10)
def wsX1_no : List Cond := .code yX1_no cX1_no 2 (some .int) :: ([.fieldLink RX1 41 "GrainSiloModel" "thrown" "I"] ++ wsX10)
def wsX1_isNot : List Cond := .code yX1_isNot cX1_isNot 2 (some .boolean) :: ([.fieldLink RX1 41 "GrainSiloModel" "thrown" "I"] ++ wsX10)
def wsX1_ok : List Cond := .code yX1_ok cX1_ok 2 (some .int) :: ([.fieldLink RX1 41 "GrainSiloModel" "thrown" "I"] ++ wsX10)
def wsX1_isIn : List Cond := .code yX1_isIn cX1_isIn 3 (some .boolean) :: ([])
def wsX1_isLayer : List Cond := .code yX1_isLayer cX1_isLayer 2 (some .boolean) :: ([.fieldLink RX1 44 "GrainSiloModel" "layers" "I", .methodLink RX1 47 yX1_isIn, .static yX1_isIn, .initialized RX1, .code yX1_isIn cX1_isIn 3 (some .boolean)] ++ wsX10)
def wsX1_areLayers : List Cond := .code yX1_areLayers cX1_areLayers 3 (some .boolean) :: ([.methodLink RX1 51 yX1_isLayer, .instanceMethod yX1_isLayer, .selects RX1 yX1_isLayer yX1_isLayer, .initialized RX1, .code yX1_isLayer cX1_isLayer 2 (some .boolean), .fieldLink RX1 44 "GrainSiloModel" "layers" "I", .methodLink RX1 47 yX1_isIn, .static yX1_isIn, .code yX1_isIn cX1_isIn 3 (some .boolean)] ++ wsX10)
def wsX1_isSample : List Cond := .code yX1_isSample cX1_isSample 2 (some .boolean) :: ([.fieldLink RX1 55 "GrainSiloModel" "samples" "I", .methodLink RX1 47 yX1_isIn, .static yX1_isIn, .initialized RX1, .code yX1_isIn cX1_isIn 3 (some .boolean)] ++ wsX10)
def wsX1_bound : List Cond := .code yX1_bound cX1_bound 4 none :: ([.fieldLink RX1 32 "GrainSiloModel" "most" "[I", .methodLink RX1 58 Lib.Math.min.name, .static Lib.Math.min.name, .initialized "java/lang/Math", .code Lib.Math.min.name Lib.Math.min.code 2 (some .int)] ++ wsX10)
def wsX1_tell : List Cond := .code yX1_tell cX1_tell 5 none :: ([.methodLink RX1 64 yX1_bound, .instanceMethod yX1_bound, .selects RX1 yX1_bound yX1_bound, .initialized RX1, .code yX1_bound cX1_bound 4 none, .fieldLink RX1 32 "GrainSiloModel" "most" "[I", .methodLink RX1 58 Lib.Math.min.name, .static Lib.Math.min.name, .initialized "java/lang/Math", .code Lib.Math.min.name Lib.Math.min.code 2 (some .int)] ++ wsX10)
def wsX1_begin : List Cond := .code yX1_begin cX1_begin 3 none :: ([.fieldLink RX1 44 "GrainSiloModel" "layers" "I", .fieldLink RX1 32 "GrainSiloModel" "most" "[I", .constant RX1 68 (1000000), .fieldLink RX1 55 "GrainSiloModel" "samples" "I", .fieldLink RX1 16 "GrainSiloModel" "low" "[I", .fieldLink RX1 19 "GrainSiloModel" "high" "[I", .fieldLink RX1 22 "GrainSiloModel" "sum" "[I", .fieldLink RX1 25 "GrainSiloModel" "doubt" "[I", .methodLink RX1 64 yX1_bound, .instanceMethod yX1_bound, .selects RX1 yX1_bound yX1_bound, .initialized RX1, .code yX1_bound cX1_bound 4 none, .methodLink RX1 58 Lib.Math.min.name, .static Lib.Math.min.name, .initialized "java/lang/Math", .code Lib.Math.min.name Lib.Math.min.code 2 (some .int), .methodLink RX1 69 yX1_tell, .instanceMethod yX1_tell, .selects RX1 yX1_tell yX1_tell, .code yX1_tell cX1_tell 5 none] ++ wsX10)
def wsX1_goOn : List Cond := .code yX1_goOn cX1_goOn 4 none :: ([.fieldLink RX1 44 "GrainSiloModel" "layers" "I", .fieldLink RX1 32 "GrainSiloModel" "most" "[I", .methodLink RX1 64 yX1_bound, .instanceMethod yX1_bound, .selects RX1 yX1_bound yX1_bound, .initialized RX1, .code yX1_bound cX1_bound 4 none, .methodLink RX1 58 Lib.Math.min.name, .static Lib.Math.min.name, .initialized "java/lang/Math", .code Lib.Math.min.name Lib.Math.min.code 2 (some .int)] ++ wsX10)
def wsX1_reckon_r1 : List Cond := [Cond.methodLink RX1 73 yX1_begin, Cond.instanceMethod yX1_begin, Cond.selects RX1 yX1_begin yX1_begin, Cond.initialized RX1, Cond.code yX1_begin cX1_begin 3 none, Cond.fieldLink RX1 44 "GrainSiloModel" "layers" "I", Cond.fieldLink RX1 32 "GrainSiloModel" "most" "[I", Cond.constant RX1 68 (1000000), Cond.fieldLink RX1 55 "GrainSiloModel" "samples" "I", Cond.fieldLink RX1 16 "GrainSiloModel" "low" "[I", Cond.fieldLink RX1 19 "GrainSiloModel" "high" "[I", Cond.fieldLink RX1 22 "GrainSiloModel" "sum" "[I", Cond.fieldLink RX1 25 "GrainSiloModel" "doubt" "[I", Cond.methodLink RX1 64 yX1_bound, Cond.instanceMethod yX1_bound, Cond.selects RX1 yX1_bound yX1_bound, Cond.code yX1_bound cX1_bound 4 none, Cond.methodLink RX1 58 Lib.Math.min.name, Cond.static Lib.Math.min.name, Cond.initialized "java/lang/Math", Cond.code Lib.Math.min.name Lib.Math.min.code 2 (some .int), Cond.methodLink RX1 69 yX1_tell, Cond.instanceMethod yX1_tell, Cond.selects RX1 yX1_tell yX1_tell]
def wsX1_reckon_r2 : List Cond := [Cond.code yX1_tell cX1_tell 5 none, Cond.methodLink RX1 76 yX1_goOn, Cond.instanceMethod yX1_goOn, Cond.selects RX1 yX1_goOn yX1_goOn, Cond.code yX1_goOn cX1_goOn 4 none]
def wsX1_reckon : List Cond := .code yX1_reckon cX1_reckon 1 none :: ((wsX1_reckon_r1 ++ wsX1_reckon_r2) ++ wsX10)
def wsX1_least : List Cond := .code yX1_least cX1_least 3 (some .int) :: ([.fieldLink RX1 32 "GrainSiloModel" "most" "[I"] ++ wsX10)
def wsX1_greatest : List Cond := .code yX1_greatest cX1_greatest 3 (some .int) :: ([.fieldLink RX1 32 "GrainSiloModel" "most" "[I"] ++ wsX10)
def wsX1_allDoubt : List Cond := .code yX1_allDoubt cX1_allDoubt 3 (some .int) :: ([.fieldLink RX1 44 "GrainSiloModel" "layers" "I", .methodLink RX1 79 yX1_greatest, .instanceMethod yX1_greatest, .selects RX1 yX1_greatest yX1_greatest, .initialized RX1, .code yX1_greatest cX1_greatest 3 (some .int), .fieldLink RX1 32 "GrainSiloModel" "most" "[I", .methodLink RX1 82 yX1_least, .instanceMethod yX1_least, .selects RX1 yX1_least yX1_least, .code yX1_least cX1_least 3 (some .int)] ++ wsX10)
def wsX1_added : List Cond := .code yX1_added cX1_added 5 (some .int) :: ([.fieldLink RX1 13 "GrainSiloModel" "damp" "[I"] ++ wsX10)
def wsX1_behind_r1 : List Cond := [Cond.methodLink RX1 73 yX1_begin, Cond.instanceMethod yX1_begin, Cond.selects RX1 yX1_begin yX1_begin, Cond.initialized RX1, Cond.code yX1_begin cX1_begin 3 none, Cond.fieldLink RX1 44 "GrainSiloModel" "layers" "I", Cond.fieldLink RX1 32 "GrainSiloModel" "most" "[I", Cond.constant RX1 68 (1000000), Cond.fieldLink RX1 55 "GrainSiloModel" "samples" "I", Cond.fieldLink RX1 16 "GrainSiloModel" "low" "[I", Cond.fieldLink RX1 19 "GrainSiloModel" "high" "[I", Cond.fieldLink RX1 22 "GrainSiloModel" "sum" "[I", Cond.fieldLink RX1 25 "GrainSiloModel" "doubt" "[I", Cond.methodLink RX1 64 yX1_bound, Cond.instanceMethod yX1_bound, Cond.selects RX1 yX1_bound yX1_bound, Cond.code yX1_bound cX1_bound 4 none, Cond.methodLink RX1 58 Lib.Math.min.name, Cond.static Lib.Math.min.name, Cond.initialized "java/lang/Math", Cond.code Lib.Math.min.name Lib.Math.min.code 2 (some .int), Cond.methodLink RX1 69 yX1_tell, Cond.instanceMethod yX1_tell, Cond.selects RX1 yX1_tell yX1_tell]
def wsX1_behind_r2 : List Cond := [Cond.code yX1_tell cX1_tell 5 none, Cond.methodLink RX1 85 yX1_added, Cond.instanceMethod yX1_added, Cond.selects RX1 yX1_added yX1_added, Cond.code yX1_added cX1_added 5 (some .int), Cond.fieldLink RX1 13 "GrainSiloModel" "damp" "[I", Cond.methodLink RX1 76 yX1_goOn, Cond.instanceMethod yX1_goOn, Cond.selects RX1 yX1_goOn yX1_goOn, Cond.code yX1_goOn cX1_goOn 4 none, Cond.methodLink RX1 88 yX1_allDoubt, Cond.instanceMethod yX1_allDoubt, Cond.selects RX1 yX1_allDoubt yX1_allDoubt, Cond.code yX1_allDoubt cX1_allDoubt 3 (some .int), Cond.methodLink RX1 79 yX1_greatest, Cond.instanceMethod yX1_greatest, Cond.selects RX1 yX1_greatest yX1_greatest, Cond.code yX1_greatest cX1_greatest 3 (some .int), Cond.methodLink RX1 82 yX1_least, Cond.instanceMethod yX1_least, Cond.selects RX1 yX1_least yX1_least, Cond.code yX1_least cX1_least 3 (some .int)]
def wsX1_behind : List Cond := .code yX1_behind cX1_behind 3 (some .int) :: ((wsX1_behind_r1 ++ wsX1_behind_r2) ++ wsX10)
def wsX1_fill : List Cond := .code yX1_fill cX1_fill 3 (some .int) :: ([.fieldLink RX1 41 "GrainSiloModel" "thrown" "I", .fieldLink RX1 44 "GrainSiloModel" "layers" "I", .fieldLink RX1 9 "GrainSiloModel" "kind" "[I", .fieldLink RX1 13 "GrainSiloModel" "damp" "[I", .methodLink RX1 47 yX1_isIn, .static yX1_isIn, .initialized RX1, .code yX1_isIn cX1_isIn 3 (some .boolean), .methodLink RX1 92 yX1_no, .instanceMethod yX1_no, .selects RX1 yX1_no yX1_no, .code yX1_no cX1_no 2 (some .int)] ++ wsX10)
def wsX1_drop : List Cond := .code yX1_drop cX1_drop 3 none :: ([.fieldLink RX1 55 "GrainSiloModel" "samples" "I", .fieldLink RX1 16 "GrainSiloModel" "low" "[I", .fieldLink RX1 19 "GrainSiloModel" "high" "[I", .fieldLink RX1 22 "GrainSiloModel" "sum" "[I", .fieldLink RX1 25 "GrainSiloModel" "doubt" "[I"] ++ wsX10)
def wsX1_sink : List Cond := .code yX1_sink cX1_sink 2 none :: ([.fieldLink RX1 44 "GrainSiloModel" "layers" "I", .fieldLink RX1 9 "GrainSiloModel" "kind" "[I", .fieldLink RX1 13 "GrainSiloModel" "damp" "[I", .fieldLink RX1 55 "GrainSiloModel" "samples" "I", .fieldLink RX1 16 "GrainSiloModel" "low" "[I", .fieldLink RX1 19 "GrainSiloModel" "high" "[I"] ++ wsX10)
def wsX1_out : List Cond := .code yX1_out cX1_out 3 (some .int) :: ([.fieldLink RX1 13 "GrainSiloModel" "damp" "[I", .fieldLink RX1 28 "GrainSiloModel" "limit" "I", .fieldLink RX1 96 "GrainSiloModel" "spoilt" "I", .fieldLink RX1 99 "GrainSiloModel" "sold" "I", .fieldLink RX1 55 "GrainSiloModel" "samples" "I", .fieldLink RX1 16 "GrainSiloModel" "low" "[I", .fieldLink RX1 19 "GrainSiloModel" "high" "[I", .fieldLink RX1 22 "GrainSiloModel" "sum" "[I", .fieldLink RX1 44 "GrainSiloModel" "layers" "I", .methodLink RX1 102 yX1_drop, .instanceMethod yX1_drop, .selects RX1 yX1_drop yX1_drop, .initialized RX1, .code yX1_drop cX1_drop 3 none, .fieldLink RX1 25 "GrainSiloModel" "doubt" "[I", .methodLink RX1 106 yX1_sink, .instanceMethod yX1_sink, .selects RX1 yX1_sink yX1_sink, .code yX1_sink cX1_sink 2 none, .fieldLink RX1 9 "GrainSiloModel" "kind" "[I"] ++ wsX10)
def wsX1_letOut_r1 : List Cond := [Cond.fieldLink RX1 41 "GrainSiloModel" "thrown" "I", Cond.fieldLink RX1 44 "GrainSiloModel" "layers" "I", Cond.methodLink RX1 92 yX1_no, Cond.instanceMethod yX1_no, Cond.selects RX1 yX1_no yX1_no, Cond.initialized RX1, Cond.code yX1_no cX1_no 2 (some .int), Cond.methodLink RX1 109 yX1_out, Cond.instanceMethod yX1_out, Cond.selects RX1 yX1_out yX1_out, Cond.code yX1_out cX1_out 3 (some .int), Cond.fieldLink RX1 13 "GrainSiloModel" "damp" "[I", Cond.fieldLink RX1 28 "GrainSiloModel" "limit" "I", Cond.fieldLink RX1 96 "GrainSiloModel" "spoilt" "I", Cond.fieldLink RX1 99 "GrainSiloModel" "sold" "I", Cond.fieldLink RX1 55 "GrainSiloModel" "samples" "I", Cond.fieldLink RX1 16 "GrainSiloModel" "low" "[I", Cond.fieldLink RX1 19 "GrainSiloModel" "high" "[I", Cond.fieldLink RX1 22 "GrainSiloModel" "sum" "[I", Cond.methodLink RX1 102 yX1_drop, Cond.instanceMethod yX1_drop, Cond.selects RX1 yX1_drop yX1_drop, Cond.code yX1_drop cX1_drop 3 none, Cond.fieldLink RX1 25 "GrainSiloModel" "doubt" "[I"]
def wsX1_letOut_r2 : List Cond := [Cond.methodLink RX1 106 yX1_sink, Cond.instanceMethod yX1_sink, Cond.selects RX1 yX1_sink yX1_sink, Cond.code yX1_sink cX1_sink 2 none, Cond.fieldLink RX1 9 "GrainSiloModel" "kind" "[I"]
def wsX1_letOut : List Cond := .code yX1_letOut cX1_letOut 1 (some .int) :: ((wsX1_letOut_r1 ++ wsX1_letOut_r2) ++ wsX10)
def wsX1_turnOver : List Cond := .code yX1_turnOver cX1_turnOver 5 (some .int) :: ([.fieldLink RX1 41 "GrainSiloModel" "thrown" "I", .fieldLink RX1 44 "GrainSiloModel" "layers" "I", .fieldLink RX1 13 "GrainSiloModel" "damp" "[I", .fieldLink RX1 9 "GrainSiloModel" "kind" "[I", .fieldLink RX1 55 "GrainSiloModel" "samples" "I", .fieldLink RX1 16 "GrainSiloModel" "low" "[I", .methodLink RX1 92 yX1_no, .instanceMethod yX1_no, .selects RX1 yX1_no yX1_no, .initialized RX1, .code yX1_no cX1_no 2 (some .int), .methodLink RX1 102 yX1_drop, .instanceMethod yX1_drop, .selects RX1 yX1_drop yX1_drop, .code yX1_drop cX1_drop 3 none, .fieldLink RX1 19 "GrainSiloModel" "high" "[I", .fieldLink RX1 22 "GrainSiloModel" "sum" "[I", .fieldLink RX1 25 "GrainSiloModel" "doubt" "[I", .methodLink RX1 106 yX1_sink, .instanceMethod yX1_sink, .selects RX1 yX1_sink yX1_sink, .code yX1_sink cX1_sink 2 none] ++ wsX10)
def wsX1_setLimit : List Cond := .code yX1_setLimit cX1_setLimit 3 (some .int) :: ([.fieldLink RX1 41 "GrainSiloModel" "thrown" "I", .fieldLink RX1 28 "GrainSiloModel" "limit" "I", .methodLink RX1 47 yX1_isIn, .static yX1_isIn, .initialized RX1, .code yX1_isIn cX1_isIn 3 (some .boolean), .methodLink RX1 92 yX1_no, .instanceMethod yX1_no, .selects RX1 yX1_no yX1_no, .code yX1_no cX1_no 2 (some .int)] ++ wsX10)
def wsX1_towards : List Cond := .code yX1_towards cX1_towards 4 (some .int) :: ([.fieldLink RX1 13 "GrainSiloModel" "damp" "[I", .methodLink RX1 51 yX1_isLayer, .instanceMethod yX1_isLayer, .selects RX1 yX1_isLayer yX1_isLayer, .initialized RX1, .code yX1_isLayer cX1_isLayer 2 (some .boolean), .fieldLink RX1 44 "GrainSiloModel" "layers" "I", .methodLink RX1 47 yX1_isIn, .static yX1_isIn, .code yX1_isIn cX1_isIn 3 (some .boolean)] ++ wsX10)
def wsJ6_signum_0f7a4 : List Cond := .code yJ6_signum_0f7a4 cJ6_signum_0f7a4 1 (some .int) :: ([])
def wsX1_evenOut : List Cond := .code yX1_evenOut cX1_evenOut 3 (some .int) :: ([.fieldLink RX1 44 "GrainSiloModel" "layers" "I", .fieldLink RX1 38 "GrainSiloModel" "step" "[I", .fieldLink RX1 13 "GrainSiloModel" "damp" "[I", .methodLink RX1 112 yX1_towards, .instanceMethod yX1_towards, .selects RX1 yX1_towards yX1_towards, .initialized RX1, .code yX1_towards cX1_towards 4 (some .int), .methodLink RX1 51 yX1_isLayer, .instanceMethod yX1_isLayer, .selects RX1 yX1_isLayer yX1_isLayer, .code yX1_isLayer cX1_isLayer 2 (some .boolean), .methodLink RX1 47 yX1_isIn, .static yX1_isIn, .code yX1_isIn cX1_isIn 3 (some .boolean), .methodLink RX1 115 yJ6_signum_0f7a4, .static yJ6_signum_0f7a4, .initialized RJ6, .code yJ6_signum_0f7a4 cJ6_signum_0f7a4 1 (some .int)] ++ wsX10)
def wsX1_pass_r1 : List Cond := [Cond.fieldLink RX1 41 "GrainSiloModel" "thrown" "I", Cond.fieldLink RX1 55 "GrainSiloModel" "samples" "I", Cond.fieldLink RX1 25 "GrainSiloModel" "doubt" "[I", Cond.fieldLink RX1 19 "GrainSiloModel" "high" "[I", Cond.fieldLink RX1 16 "GrainSiloModel" "low" "[I", Cond.fieldLink RX1 123 "GrainSiloModel" "day" "I", Cond.methodLink RX1 47 yX1_isIn, Cond.static yX1_isIn, Cond.initialized RX1, Cond.code yX1_isIn cX1_isIn 3 (some .boolean), Cond.methodLink RX1 92 yX1_no, Cond.instanceMethod yX1_no, Cond.selects RX1 yX1_no yX1_no, Cond.code yX1_no cX1_no 2 (some .int), Cond.methodLink RX1 120 yX1_evenOut, Cond.instanceMethod yX1_evenOut, Cond.selects RX1 yX1_evenOut yX1_evenOut, Cond.code yX1_evenOut cX1_evenOut 3 (some .int), Cond.fieldLink RX1 44 "GrainSiloModel" "layers" "I", Cond.fieldLink RX1 38 "GrainSiloModel" "step" "[I", Cond.fieldLink RX1 13 "GrainSiloModel" "damp" "[I", Cond.methodLink RX1 112 yX1_towards, Cond.instanceMethod yX1_towards, Cond.selects RX1 yX1_towards yX1_towards]
def wsX1_pass_r2 : List Cond := [Cond.code yX1_towards cX1_towards 4 (some .int), Cond.methodLink RX1 51 yX1_isLayer, Cond.instanceMethod yX1_isLayer, Cond.selects RX1 yX1_isLayer yX1_isLayer, Cond.code yX1_isLayer cX1_isLayer 2 (some .boolean), Cond.methodLink RX1 115 yJ6_signum_0f7a4, Cond.static yJ6_signum_0f7a4, Cond.initialized RJ6, Cond.code yJ6_signum_0f7a4 cJ6_signum_0f7a4 1 (some .int)]
def wsX1_pass : List Cond := .code yX1_pass cX1_pass 4 (some .int) :: ((wsX1_pass_r1 ++ wsX1_pass_r2) ++ wsX10)
def wsX1_draw_r1 : List Cond := [Cond.fieldLink RX1 41 "GrainSiloModel" "thrown" "I", Cond.fieldLink RX1 55 "GrainSiloModel" "samples" "I", Cond.fieldLink RX1 16 "GrainSiloModel" "low" "[I", Cond.fieldLink RX1 19 "GrainSiloModel" "high" "[I", Cond.fieldLink RX1 22 "GrainSiloModel" "sum" "[I", Cond.fieldLink RX1 25 "GrainSiloModel" "doubt" "[I", Cond.methodLink RX1 126 yX1_areLayers, Cond.instanceMethod yX1_areLayers, Cond.selects RX1 yX1_areLayers yX1_areLayers, Cond.initialized RX1, Cond.code yX1_areLayers cX1_areLayers 3 (some .boolean), Cond.methodLink RX1 51 yX1_isLayer, Cond.instanceMethod yX1_isLayer, Cond.selects RX1 yX1_isLayer yX1_isLayer, Cond.code yX1_isLayer cX1_isLayer 2 (some .boolean), Cond.fieldLink RX1 44 "GrainSiloModel" "layers" "I", Cond.methodLink RX1 47 yX1_isIn, Cond.static yX1_isIn, Cond.code yX1_isIn cX1_isIn 3 (some .boolean), Cond.methodLink RX1 92 yX1_no, Cond.instanceMethod yX1_no, Cond.selects RX1 yX1_no yX1_no, Cond.code yX1_no cX1_no 2 (some .int), Cond.methodLink RX1 85 yX1_added]
def wsX1_draw_r2 : List Cond := [Cond.instanceMethod yX1_added, Cond.selects RX1 yX1_added yX1_added, Cond.code yX1_added cX1_added 5 (some .int), Cond.fieldLink RX1 13 "GrainSiloModel" "damp" "[I"]
def wsX1_draw : List Cond := .code yX1_draw cX1_draw 3 (some .int) :: ((wsX1_draw_r1 ++ wsX1_draw_r2) ++ wsX10)
def wsX1_throwAway : List Cond := .code yX1_throwAway cX1_throwAway 2 (some .int) :: ([.fieldLink RX1 41 "GrainSiloModel" "thrown" "I", .fieldLink RX1 55 "GrainSiloModel" "samples" "I", .methodLink RX1 130 yX1_isSample, .instanceMethod yX1_isSample, .selects RX1 yX1_isSample yX1_isSample, .initialized RX1, .code yX1_isSample cX1_isSample 2 (some .boolean), .methodLink RX1 47 yX1_isIn, .static yX1_isIn, .code yX1_isIn cX1_isIn 3 (some .boolean), .methodLink RX1 92 yX1_no, .instanceMethod yX1_no, .selects RX1 yX1_no yX1_no, .code yX1_no cX1_no 2 (some .int), .methodLink RX1 102 yX1_drop, .instanceMethod yX1_drop, .selects RX1 yX1_drop yX1_drop, .code yX1_drop cX1_drop 3 none, .fieldLink RX1 16 "GrainSiloModel" "low" "[I", .fieldLink RX1 19 "GrainSiloModel" "high" "[I", .fieldLink RX1 22 "GrainSiloModel" "sum" "[I", .fieldLink RX1 25 "GrainSiloModel" "doubt" "[I"] ++ wsX10)
def wsX1_samples : List Cond := .code yX1_samples cX1_samples 1 (some .int) :: ([.fieldLink RX1 55 "GrainSiloModel" "samples" "I", .methodLink RX1 133 yX1_ok, .instanceMethod yX1_ok, .selects RX1 yX1_ok yX1_ok, .initialized RX1, .code yX1_ok cX1_ok 2 (some .int), .fieldLink RX1 41 "GrainSiloModel" "thrown" "I"] ++ wsX10)
def wsX1_ofSample : List Cond := .code yX1_ofSample cX1_ofSample 3 (some .int) :: ([.fieldLink RX1 41 "GrainSiloModel" "thrown" "I", .methodLink RX1 130 yX1_isSample, .instanceMethod yX1_isSample, .selects RX1 yX1_isSample yX1_isSample, .initialized RX1, .code yX1_isSample cX1_isSample 2 (some .boolean), .fieldLink RX1 55 "GrainSiloModel" "samples" "I", .methodLink RX1 47 yX1_isIn, .static yX1_isIn, .code yX1_isIn cX1_isIn 3 (some .boolean), .methodLink RX1 92 yX1_no, .instanceMethod yX1_no, .selects RX1 yX1_no yX1_no, .code yX1_no cX1_no 2 (some .int)] ++ wsX10)
def wsX1_lowestOf : List Cond := .code yX1_lowestOf cX1_lowestOf 2 (some .int) :: ([.fieldLink RX1 16 "GrainSiloModel" "low" "[I", .methodLink RX1 136 yX1_ofSample, .instanceMethod yX1_ofSample, .selects RX1 yX1_ofSample yX1_ofSample, .initialized RX1, .code yX1_ofSample cX1_ofSample 3 (some .int), .fieldLink RX1 41 "GrainSiloModel" "thrown" "I", .methodLink RX1 130 yX1_isSample, .instanceMethod yX1_isSample, .selects RX1 yX1_isSample yX1_isSample, .code yX1_isSample cX1_isSample 2 (some .boolean), .fieldLink RX1 55 "GrainSiloModel" "samples" "I", .methodLink RX1 47 yX1_isIn, .static yX1_isIn, .code yX1_isIn cX1_isIn 3 (some .boolean), .methodLink RX1 92 yX1_no, .instanceMethod yX1_no, .selects RX1 yX1_no yX1_no, .code yX1_no cX1_no 2 (some .int)] ++ wsX10)
def wsX1_highestOf : List Cond := .code yX1_highestOf cX1_highestOf 2 (some .int) :: ([.fieldLink RX1 19 "GrainSiloModel" "high" "[I", .methodLink RX1 136 yX1_ofSample, .instanceMethod yX1_ofSample, .selects RX1 yX1_ofSample yX1_ofSample, .initialized RX1, .code yX1_ofSample cX1_ofSample 3 (some .int), .fieldLink RX1 41 "GrainSiloModel" "thrown" "I", .methodLink RX1 130 yX1_isSample, .instanceMethod yX1_isSample, .selects RX1 yX1_isSample yX1_isSample, .code yX1_isSample cX1_isSample 2 (some .boolean), .fieldLink RX1 55 "GrainSiloModel" "samples" "I", .methodLink RX1 47 yX1_isIn, .static yX1_isIn, .code yX1_isIn cX1_isIn 3 (some .boolean), .methodLink RX1 92 yX1_no, .instanceMethod yX1_no, .selects RX1 yX1_no yX1_no, .code yX1_no cX1_no 2 (some .int)] ++ wsX10)
def wsX1_sumOf : List Cond := .code yX1_sumOf cX1_sumOf 2 (some .int) :: ([.fieldLink RX1 22 "GrainSiloModel" "sum" "[I", .methodLink RX1 136 yX1_ofSample, .instanceMethod yX1_ofSample, .selects RX1 yX1_ofSample yX1_ofSample, .initialized RX1, .code yX1_ofSample cX1_ofSample 3 (some .int), .fieldLink RX1 41 "GrainSiloModel" "thrown" "I", .methodLink RX1 130 yX1_isSample, .instanceMethod yX1_isSample, .selects RX1 yX1_isSample yX1_isSample, .code yX1_isSample cX1_isSample 2 (some .boolean), .fieldLink RX1 55 "GrainSiloModel" "samples" "I", .methodLink RX1 47 yX1_isIn, .static yX1_isIn, .code yX1_isIn cX1_isIn 3 (some .boolean), .methodLink RX1 92 yX1_no, .instanceMethod yX1_no, .selects RX1 yX1_no yX1_no, .code yX1_no cX1_no 2 (some .int)] ++ wsX10)
def wsX1_doubtOf : List Cond := .code yX1_doubtOf cX1_doubtOf 2 (some .int) :: ([.fieldLink RX1 25 "GrainSiloModel" "doubt" "[I", .methodLink RX1 136 yX1_ofSample, .instanceMethod yX1_ofSample, .selects RX1 yX1_ofSample yX1_ofSample, .initialized RX1, .code yX1_ofSample cX1_ofSample 3 (some .int), .fieldLink RX1 41 "GrainSiloModel" "thrown" "I", .methodLink RX1 130 yX1_isSample, .instanceMethod yX1_isSample, .selects RX1 yX1_isSample yX1_isSample, .code yX1_isSample cX1_isSample 2 (some .boolean), .fieldLink RX1 55 "GrainSiloModel" "samples" "I", .methodLink RX1 47 yX1_isIn, .static yX1_isIn, .code yX1_isIn cX1_isIn 3 (some .boolean), .methodLink RX1 92 yX1_no, .instanceMethod yX1_no, .selects RX1 yX1_no yX1_no, .code yX1_no cX1_no 2 (some .int)] ++ wsX10)
def wsX1_layers : List Cond := .code yX1_layers cX1_layers 1 (some .int) :: ([.fieldLink RX1 44 "GrainSiloModel" "layers" "I", .methodLink RX1 133 yX1_ok, .instanceMethod yX1_ok, .selects RX1 yX1_ok yX1_ok, .initialized RX1, .code yX1_ok cX1_ok 2 (some .int), .fieldLink RX1 41 "GrainSiloModel" "thrown" "I"] ++ wsX10)
def wsX1_day : List Cond := .code yX1_day cX1_day 1 (some .int) :: ([.fieldLink RX1 123 "GrainSiloModel" "day" "I", .methodLink RX1 133 yX1_ok, .instanceMethod yX1_ok, .selects RX1 yX1_ok yX1_ok, .initialized RX1, .code yX1_ok cX1_ok 2 (some .int), .fieldLink RX1 41 "GrainSiloModel" "thrown" "I"] ++ wsX10)
def wsX1_limit : List Cond := .code yX1_limit cX1_limit 1 (some .int) :: ([.fieldLink RX1 28 "GrainSiloModel" "limit" "I", .methodLink RX1 133 yX1_ok, .instanceMethod yX1_ok, .selects RX1 yX1_ok yX1_ok, .initialized RX1, .code yX1_ok cX1_ok 2 (some .int), .fieldLink RX1 41 "GrainSiloModel" "thrown" "I"] ++ wsX10)
def wsX1_sold : List Cond := .code yX1_sold cX1_sold 1 (some .int) :: ([.fieldLink RX1 99 "GrainSiloModel" "sold" "I", .methodLink RX1 133 yX1_ok, .instanceMethod yX1_ok, .selects RX1 yX1_ok yX1_ok, .initialized RX1, .code yX1_ok cX1_ok 2 (some .int), .fieldLink RX1 41 "GrainSiloModel" "thrown" "I"] ++ wsX10)
def wsX1_spoilt : List Cond := .code yX1_spoilt cX1_spoilt 1 (some .int) :: ([.fieldLink RX1 96 "GrainSiloModel" "spoilt" "I", .methodLink RX1 133 yX1_ok, .instanceMethod yX1_ok, .selects RX1 yX1_ok yX1_ok, .initialized RX1, .code yX1_ok cX1_ok 2 (some .int), .fieldLink RX1 41 "GrainSiloModel" "thrown" "I"] ++ wsX10)
def wsX1_kindOf : List Cond := .code yX1_kindOf cX1_kindOf 2 (some .int) :: ([.fieldLink RX1 41 "GrainSiloModel" "thrown" "I", .fieldLink RX1 9 "GrainSiloModel" "kind" "[I", .methodLink RX1 51 yX1_isLayer, .instanceMethod yX1_isLayer, .selects RX1 yX1_isLayer yX1_isLayer, .initialized RX1, .code yX1_isLayer cX1_isLayer 2 (some .boolean), .fieldLink RX1 44 "GrainSiloModel" "layers" "I", .methodLink RX1 47 yX1_isIn, .static yX1_isIn, .code yX1_isIn cX1_isIn 3 (some .boolean), .methodLink RX1 92 yX1_no, .instanceMethod yX1_no, .selects RX1 yX1_no yX1_no, .code yX1_no cX1_no 2 (some .int)] ++ wsX10)
def wsX1_dampnessOf : List Cond := .code yX1_dampnessOf cX1_dampnessOf 2 (some .int) :: ([.fieldLink RX1 41 "GrainSiloModel" "thrown" "I", .fieldLink RX1 13 "GrainSiloModel" "damp" "[I", .methodLink RX1 51 yX1_isLayer, .instanceMethod yX1_isLayer, .selects RX1 yX1_isLayer yX1_isLayer, .initialized RX1, .code yX1_isLayer cX1_isLayer 2 (some .boolean), .fieldLink RX1 44 "GrainSiloModel" "layers" "I", .methodLink RX1 47 yX1_isIn, .static yX1_isIn, .code yX1_isIn cX1_isIn 3 (some .boolean), .methodLink RX1 92 yX1_no, .instanceMethod yX1_no, .selects RX1 yX1_no yX1_no, .code yX1_no cX1_no 2 (some .int)] ++ wsX10)
def wsX1_dampLayers : List Cond := .code yX1_dampLayers cX1_dampLayers 3 (some .int) :: ([.fieldLink RX1 41 "GrainSiloModel" "thrown" "I", .fieldLink RX1 44 "GrainSiloModel" "layers" "I", .fieldLink RX1 13 "GrainSiloModel" "damp" "[I", .fieldLink RX1 28 "GrainSiloModel" "limit" "I"] ++ wsX10)
def wsX1_layersAheadOf : List Cond := .code yX1_layersAheadOf cX1_layersAheadOf 3 (some .int) :: ([.fieldLink RX1 41 "GrainSiloModel" "thrown" "I", .fieldLink RX1 44 "GrainSiloModel" "layers" "I", .fieldLink RX1 9 "GrainSiloModel" "kind" "[I", .methodLink RX1 47 yX1_isIn, .static yX1_isIn, .initialized RX1, .code yX1_isIn cX1_isIn 3 (some .boolean), .methodLink RX1 92 yX1_no, .instanceMethod yX1_no, .selects RX1 yX1_no yX1_no, .code yX1_no cX1_no 2 (some .int)] ++ wsX10)
def wsX1_leastSum_r1 : List Cond := [Cond.fieldLink RX1 41 "GrainSiloModel" "thrown" "I", Cond.methodLink RX1 126 yX1_areLayers, Cond.instanceMethod yX1_areLayers, Cond.selects RX1 yX1_areLayers yX1_areLayers, Cond.initialized RX1, Cond.code yX1_areLayers cX1_areLayers 3 (some .boolean), Cond.methodLink RX1 51 yX1_isLayer, Cond.instanceMethod yX1_isLayer, Cond.selects RX1 yX1_isLayer yX1_isLayer, Cond.code yX1_isLayer cX1_isLayer 2 (some .boolean), Cond.fieldLink RX1 44 "GrainSiloModel" "layers" "I", Cond.methodLink RX1 47 yX1_isIn, Cond.static yX1_isIn, Cond.code yX1_isIn cX1_isIn 3 (some .boolean), Cond.methodLink RX1 92 yX1_no, Cond.instanceMethod yX1_no, Cond.selects RX1 yX1_no yX1_no, Cond.code yX1_no cX1_no 2 (some .int), Cond.methodLink RX1 149 yX1_reckon, Cond.instanceMethod yX1_reckon, Cond.selects RX1 yX1_reckon yX1_reckon, Cond.code yX1_reckon cX1_reckon 1 none, Cond.methodLink RX1 73 yX1_begin, Cond.instanceMethod yX1_begin]
def wsX1_leastSum_r2 : List Cond := [Cond.selects RX1 yX1_begin yX1_begin, Cond.code yX1_begin cX1_begin 3 none, Cond.fieldLink RX1 32 "GrainSiloModel" "most" "[I", Cond.constant RX1 68 (1000000), Cond.fieldLink RX1 55 "GrainSiloModel" "samples" "I", Cond.fieldLink RX1 16 "GrainSiloModel" "low" "[I", Cond.fieldLink RX1 19 "GrainSiloModel" "high" "[I", Cond.fieldLink RX1 22 "GrainSiloModel" "sum" "[I", Cond.fieldLink RX1 25 "GrainSiloModel" "doubt" "[I", Cond.methodLink RX1 64 yX1_bound, Cond.instanceMethod yX1_bound, Cond.selects RX1 yX1_bound yX1_bound, Cond.code yX1_bound cX1_bound 4 none, Cond.methodLink RX1 58 Lib.Math.min.name, Cond.static Lib.Math.min.name, Cond.initialized "java/lang/Math", Cond.code Lib.Math.min.name Lib.Math.min.code 2 (some .int), Cond.methodLink RX1 69 yX1_tell, Cond.instanceMethod yX1_tell, Cond.selects RX1 yX1_tell yX1_tell, Cond.code yX1_tell cX1_tell 5 none, Cond.methodLink RX1 76 yX1_goOn, Cond.instanceMethod yX1_goOn, Cond.selects RX1 yX1_goOn yX1_goOn]
def wsX1_leastSum_r3 : List Cond := [Cond.code yX1_goOn cX1_goOn 4 none, Cond.methodLink RX1 82 yX1_least, Cond.instanceMethod yX1_least, Cond.selects RX1 yX1_least yX1_least, Cond.code yX1_least cX1_least 3 (some .int)]
def wsX1_leastSum : List Cond := .code yX1_leastSum cX1_leastSum 3 (some .int) :: ((wsX1_leastSum_r1 ++ (wsX1_leastSum_r2 ++ wsX1_leastSum_r3)) ++ wsX10)
def wsX1_leastOf_r1 : List Cond := [Cond.methodLink RX1 140 yX1_leastSum, Cond.instanceMethod yX1_leastSum, Cond.selects RX1 yX1_leastSum yX1_leastSum, Cond.initialized RX1, Cond.code yX1_leastSum cX1_leastSum 3 (some .int), Cond.fieldLink RX1 41 "GrainSiloModel" "thrown" "I", Cond.methodLink RX1 126 yX1_areLayers, Cond.instanceMethod yX1_areLayers, Cond.selects RX1 yX1_areLayers yX1_areLayers, Cond.code yX1_areLayers cX1_areLayers 3 (some .boolean), Cond.methodLink RX1 51 yX1_isLayer, Cond.instanceMethod yX1_isLayer, Cond.selects RX1 yX1_isLayer yX1_isLayer, Cond.code yX1_isLayer cX1_isLayer 2 (some .boolean), Cond.fieldLink RX1 44 "GrainSiloModel" "layers" "I", Cond.methodLink RX1 47 yX1_isIn, Cond.static yX1_isIn, Cond.code yX1_isIn cX1_isIn 3 (some .boolean), Cond.methodLink RX1 92 yX1_no, Cond.instanceMethod yX1_no, Cond.selects RX1 yX1_no yX1_no, Cond.code yX1_no cX1_no 2 (some .int), Cond.methodLink RX1 149 yX1_reckon, Cond.instanceMethod yX1_reckon]
def wsX1_leastOf_r2 : List Cond := [Cond.selects RX1 yX1_reckon yX1_reckon, Cond.code yX1_reckon cX1_reckon 1 none, Cond.methodLink RX1 73 yX1_begin, Cond.instanceMethod yX1_begin, Cond.selects RX1 yX1_begin yX1_begin, Cond.code yX1_begin cX1_begin 3 none, Cond.fieldLink RX1 32 "GrainSiloModel" "most" "[I", Cond.constant RX1 68 (1000000), Cond.fieldLink RX1 55 "GrainSiloModel" "samples" "I", Cond.fieldLink RX1 16 "GrainSiloModel" "low" "[I", Cond.fieldLink RX1 19 "GrainSiloModel" "high" "[I", Cond.fieldLink RX1 22 "GrainSiloModel" "sum" "[I", Cond.fieldLink RX1 25 "GrainSiloModel" "doubt" "[I", Cond.methodLink RX1 64 yX1_bound, Cond.instanceMethod yX1_bound, Cond.selects RX1 yX1_bound yX1_bound, Cond.code yX1_bound cX1_bound 4 none, Cond.methodLink RX1 58 Lib.Math.min.name, Cond.static Lib.Math.min.name, Cond.initialized "java/lang/Math", Cond.code Lib.Math.min.name Lib.Math.min.code 2 (some .int), Cond.methodLink RX1 69 yX1_tell, Cond.instanceMethod yX1_tell, Cond.selects RX1 yX1_tell yX1_tell]
def wsX1_leastOf_r3 : List Cond := [Cond.code yX1_tell cX1_tell 5 none, Cond.methodLink RX1 76 yX1_goOn, Cond.instanceMethod yX1_goOn, Cond.selects RX1 yX1_goOn yX1_goOn, Cond.code yX1_goOn cX1_goOn 4 none, Cond.methodLink RX1 82 yX1_least, Cond.instanceMethod yX1_least, Cond.selects RX1 yX1_least yX1_least, Cond.code yX1_least cX1_least 3 (some .int)]
def wsX1_leastOf : List Cond := .code yX1_leastOf cX1_leastOf 2 (some .int) :: ((wsX1_leastOf_r1 ++ (wsX1_leastOf_r2 ++ wsX1_leastOf_r3)) ++ wsX10)
def wsX1_greatestSum_r1 : List Cond := [Cond.fieldLink RX1 41 "GrainSiloModel" "thrown" "I", Cond.methodLink RX1 126 yX1_areLayers, Cond.instanceMethod yX1_areLayers, Cond.selects RX1 yX1_areLayers yX1_areLayers, Cond.initialized RX1, Cond.code yX1_areLayers cX1_areLayers 3 (some .boolean), Cond.methodLink RX1 51 yX1_isLayer, Cond.instanceMethod yX1_isLayer, Cond.selects RX1 yX1_isLayer yX1_isLayer, Cond.code yX1_isLayer cX1_isLayer 2 (some .boolean), Cond.fieldLink RX1 44 "GrainSiloModel" "layers" "I", Cond.methodLink RX1 47 yX1_isIn, Cond.static yX1_isIn, Cond.code yX1_isIn cX1_isIn 3 (some .boolean), Cond.methodLink RX1 92 yX1_no, Cond.instanceMethod yX1_no, Cond.selects RX1 yX1_no yX1_no, Cond.code yX1_no cX1_no 2 (some .int), Cond.methodLink RX1 149 yX1_reckon, Cond.instanceMethod yX1_reckon, Cond.selects RX1 yX1_reckon yX1_reckon, Cond.code yX1_reckon cX1_reckon 1 none, Cond.methodLink RX1 73 yX1_begin, Cond.instanceMethod yX1_begin]
def wsX1_greatestSum_r2 : List Cond := [Cond.selects RX1 yX1_begin yX1_begin, Cond.code yX1_begin cX1_begin 3 none, Cond.fieldLink RX1 32 "GrainSiloModel" "most" "[I", Cond.constant RX1 68 (1000000), Cond.fieldLink RX1 55 "GrainSiloModel" "samples" "I", Cond.fieldLink RX1 16 "GrainSiloModel" "low" "[I", Cond.fieldLink RX1 19 "GrainSiloModel" "high" "[I", Cond.fieldLink RX1 22 "GrainSiloModel" "sum" "[I", Cond.fieldLink RX1 25 "GrainSiloModel" "doubt" "[I", Cond.methodLink RX1 64 yX1_bound, Cond.instanceMethod yX1_bound, Cond.selects RX1 yX1_bound yX1_bound, Cond.code yX1_bound cX1_bound 4 none, Cond.methodLink RX1 58 Lib.Math.min.name, Cond.static Lib.Math.min.name, Cond.initialized "java/lang/Math", Cond.code Lib.Math.min.name Lib.Math.min.code 2 (some .int), Cond.methodLink RX1 69 yX1_tell, Cond.instanceMethod yX1_tell, Cond.selects RX1 yX1_tell yX1_tell, Cond.code yX1_tell cX1_tell 5 none, Cond.methodLink RX1 76 yX1_goOn, Cond.instanceMethod yX1_goOn, Cond.selects RX1 yX1_goOn yX1_goOn]
def wsX1_greatestSum_r3 : List Cond := [Cond.code yX1_goOn cX1_goOn 4 none, Cond.methodLink RX1 79 yX1_greatest, Cond.instanceMethod yX1_greatest, Cond.selects RX1 yX1_greatest yX1_greatest, Cond.code yX1_greatest cX1_greatest 3 (some .int)]
def wsX1_greatestSum : List Cond := .code yX1_greatestSum cX1_greatestSum 3 (some .int) :: ((wsX1_greatestSum_r1 ++ (wsX1_greatestSum_r2 ++ wsX1_greatestSum_r3)) ++ wsX10)
def wsX1_greatestOf_r1 : List Cond := [Cond.methodLink RX1 143 yX1_greatestSum, Cond.instanceMethod yX1_greatestSum, Cond.selects RX1 yX1_greatestSum yX1_greatestSum, Cond.initialized RX1, Cond.code yX1_greatestSum cX1_greatestSum 3 (some .int), Cond.fieldLink RX1 41 "GrainSiloModel" "thrown" "I", Cond.methodLink RX1 126 yX1_areLayers, Cond.instanceMethod yX1_areLayers, Cond.selects RX1 yX1_areLayers yX1_areLayers, Cond.code yX1_areLayers cX1_areLayers 3 (some .boolean), Cond.methodLink RX1 51 yX1_isLayer, Cond.instanceMethod yX1_isLayer, Cond.selects RX1 yX1_isLayer yX1_isLayer, Cond.code yX1_isLayer cX1_isLayer 2 (some .boolean), Cond.fieldLink RX1 44 "GrainSiloModel" "layers" "I", Cond.methodLink RX1 47 yX1_isIn, Cond.static yX1_isIn, Cond.code yX1_isIn cX1_isIn 3 (some .boolean), Cond.methodLink RX1 92 yX1_no, Cond.instanceMethod yX1_no, Cond.selects RX1 yX1_no yX1_no, Cond.code yX1_no cX1_no 2 (some .int), Cond.methodLink RX1 149 yX1_reckon, Cond.instanceMethod yX1_reckon]
def wsX1_greatestOf_r2 : List Cond := [Cond.selects RX1 yX1_reckon yX1_reckon, Cond.code yX1_reckon cX1_reckon 1 none, Cond.methodLink RX1 73 yX1_begin, Cond.instanceMethod yX1_begin, Cond.selects RX1 yX1_begin yX1_begin, Cond.code yX1_begin cX1_begin 3 none, Cond.fieldLink RX1 32 "GrainSiloModel" "most" "[I", Cond.constant RX1 68 (1000000), Cond.fieldLink RX1 55 "GrainSiloModel" "samples" "I", Cond.fieldLink RX1 16 "GrainSiloModel" "low" "[I", Cond.fieldLink RX1 19 "GrainSiloModel" "high" "[I", Cond.fieldLink RX1 22 "GrainSiloModel" "sum" "[I", Cond.fieldLink RX1 25 "GrainSiloModel" "doubt" "[I", Cond.methodLink RX1 64 yX1_bound, Cond.instanceMethod yX1_bound, Cond.selects RX1 yX1_bound yX1_bound, Cond.code yX1_bound cX1_bound 4 none, Cond.methodLink RX1 58 Lib.Math.min.name, Cond.static Lib.Math.min.name, Cond.initialized "java/lang/Math", Cond.code Lib.Math.min.name Lib.Math.min.code 2 (some .int), Cond.methodLink RX1 69 yX1_tell, Cond.instanceMethod yX1_tell, Cond.selects RX1 yX1_tell yX1_tell]
def wsX1_greatestOf_r3 : List Cond := [Cond.code yX1_tell cX1_tell 5 none, Cond.methodLink RX1 76 yX1_goOn, Cond.instanceMethod yX1_goOn, Cond.selects RX1 yX1_goOn yX1_goOn, Cond.code yX1_goOn cX1_goOn 4 none, Cond.methodLink RX1 79 yX1_greatest, Cond.instanceMethod yX1_greatest, Cond.selects RX1 yX1_greatest yX1_greatest, Cond.code yX1_greatest cX1_greatest 3 (some .int)]
def wsX1_greatestOf : List Cond := .code yX1_greatestOf cX1_greatestOf 2 (some .int) :: ((wsX1_greatestOf_r1 ++ (wsX1_greatestOf_r2 ++ wsX1_greatestOf_r3)) ++ wsX10)
def wsX1_isKnown_r1 : List Cond := [Cond.fieldLink RX1 41 "GrainSiloModel" "thrown" "I", Cond.methodLink RX1 51 yX1_isLayer, Cond.instanceMethod yX1_isLayer, Cond.selects RX1 yX1_isLayer yX1_isLayer, Cond.initialized RX1, Cond.code yX1_isLayer cX1_isLayer 2 (some .boolean), Cond.fieldLink RX1 44 "GrainSiloModel" "layers" "I", Cond.methodLink RX1 47 yX1_isIn, Cond.static yX1_isIn, Cond.code yX1_isIn cX1_isIn 3 (some .boolean), Cond.methodLink RX1 146 yX1_isNot, Cond.instanceMethod yX1_isNot, Cond.selects RX1 yX1_isNot yX1_isNot, Cond.code yX1_isNot cX1_isNot 2 (some .boolean), Cond.methodLink RX1 149 yX1_reckon, Cond.instanceMethod yX1_reckon, Cond.selects RX1 yX1_reckon yX1_reckon, Cond.code yX1_reckon cX1_reckon 1 none, Cond.methodLink RX1 73 yX1_begin, Cond.instanceMethod yX1_begin, Cond.selects RX1 yX1_begin yX1_begin, Cond.code yX1_begin cX1_begin 3 none, Cond.fieldLink RX1 32 "GrainSiloModel" "most" "[I", Cond.constant RX1 68 (1000000)]
def wsX1_isKnown_r2 : List Cond := [Cond.fieldLink RX1 55 "GrainSiloModel" "samples" "I", Cond.fieldLink RX1 16 "GrainSiloModel" "low" "[I", Cond.fieldLink RX1 19 "GrainSiloModel" "high" "[I", Cond.fieldLink RX1 22 "GrainSiloModel" "sum" "[I", Cond.fieldLink RX1 25 "GrainSiloModel" "doubt" "[I", Cond.methodLink RX1 64 yX1_bound, Cond.instanceMethod yX1_bound, Cond.selects RX1 yX1_bound yX1_bound, Cond.code yX1_bound cX1_bound 4 none, Cond.methodLink RX1 58 Lib.Math.min.name, Cond.static Lib.Math.min.name, Cond.initialized "java/lang/Math", Cond.code Lib.Math.min.name Lib.Math.min.code 2 (some .int), Cond.methodLink RX1 69 yX1_tell, Cond.instanceMethod yX1_tell, Cond.selects RX1 yX1_tell yX1_tell, Cond.code yX1_tell cX1_tell 5 none, Cond.methodLink RX1 76 yX1_goOn, Cond.instanceMethod yX1_goOn, Cond.selects RX1 yX1_goOn yX1_goOn, Cond.code yX1_goOn cX1_goOn 4 none, Cond.methodLink RX1 82 yX1_least, Cond.instanceMethod yX1_least, Cond.selects RX1 yX1_least yX1_least]
def wsX1_isKnown_r3 : List Cond := [Cond.code yX1_least cX1_least 3 (some .int), Cond.methodLink RX1 79 yX1_greatest, Cond.instanceMethod yX1_greatest, Cond.selects RX1 yX1_greatest yX1_greatest, Cond.code yX1_greatest cX1_greatest 3 (some .int)]
def wsX1_isKnown : List Cond := .code yX1_isKnown cX1_isKnown 2 (some .boolean) :: ((wsX1_isKnown_r1 ++ (wsX1_isKnown_r2 ++ wsX1_isKnown_r3)) ++ wsX10)
def wsX1_surely : List Cond := .code yX1_surely cX1_surely 4 (some .int) :: ([.fieldLink RX1 44 "GrainSiloModel" "layers" "I", .fieldLink RX1 28 "GrainSiloModel" "limit" "I", .methodLink RX1 79 yX1_greatest, .instanceMethod yX1_greatest, .selects RX1 yX1_greatest yX1_greatest, .initialized RX1, .code yX1_greatest cX1_greatest 3 (some .int), .fieldLink RX1 32 "GrainSiloModel" "most" "[I", .methodLink RX1 82 yX1_least, .instanceMethod yX1_least, .selects RX1 yX1_least yX1_least, .code yX1_least cX1_least 3 (some .int)] ++ wsX10)
def wsX1_surelyDry_r1 : List Cond := [Cond.methodLink RX1 149 yX1_reckon, Cond.instanceMethod yX1_reckon, Cond.selects RX1 yX1_reckon yX1_reckon, Cond.initialized RX1, Cond.code yX1_reckon cX1_reckon 1 none, Cond.methodLink RX1 73 yX1_begin, Cond.instanceMethod yX1_begin, Cond.selects RX1 yX1_begin yX1_begin, Cond.code yX1_begin cX1_begin 3 none, Cond.fieldLink RX1 44 "GrainSiloModel" "layers" "I", Cond.fieldLink RX1 32 "GrainSiloModel" "most" "[I", Cond.constant RX1 68 (1000000), Cond.fieldLink RX1 55 "GrainSiloModel" "samples" "I", Cond.fieldLink RX1 16 "GrainSiloModel" "low" "[I", Cond.fieldLink RX1 19 "GrainSiloModel" "high" "[I", Cond.fieldLink RX1 22 "GrainSiloModel" "sum" "[I", Cond.fieldLink RX1 25 "GrainSiloModel" "doubt" "[I", Cond.methodLink RX1 64 yX1_bound, Cond.instanceMethod yX1_bound, Cond.selects RX1 yX1_bound yX1_bound, Cond.code yX1_bound cX1_bound 4 none, Cond.methodLink RX1 58 Lib.Math.min.name, Cond.static Lib.Math.min.name, Cond.initialized "java/lang/Math"]
def wsX1_surelyDry_r2 : List Cond := [Cond.code Lib.Math.min.name Lib.Math.min.code 2 (some .int), Cond.methodLink RX1 69 yX1_tell, Cond.instanceMethod yX1_tell, Cond.selects RX1 yX1_tell yX1_tell, Cond.code yX1_tell cX1_tell 5 none, Cond.methodLink RX1 76 yX1_goOn, Cond.instanceMethod yX1_goOn, Cond.selects RX1 yX1_goOn yX1_goOn, Cond.code yX1_goOn cX1_goOn 4 none, Cond.methodLink RX1 152 yX1_surely, Cond.instanceMethod yX1_surely, Cond.selects RX1 yX1_surely yX1_surely, Cond.code yX1_surely cX1_surely 4 (some .int), Cond.fieldLink RX1 28 "GrainSiloModel" "limit" "I", Cond.methodLink RX1 79 yX1_greatest, Cond.instanceMethod yX1_greatest, Cond.selects RX1 yX1_greatest yX1_greatest, Cond.code yX1_greatest cX1_greatest 3 (some .int), Cond.methodLink RX1 82 yX1_least, Cond.instanceMethod yX1_least, Cond.selects RX1 yX1_least yX1_least, Cond.code yX1_least cX1_least 3 (some .int), Cond.methodLink RX1 133 yX1_ok, Cond.instanceMethod yX1_ok]
def wsX1_surelyDry_r3 : List Cond := [Cond.selects RX1 yX1_ok yX1_ok, Cond.code yX1_ok cX1_ok 2 (some .int), Cond.fieldLink RX1 41 "GrainSiloModel" "thrown" "I"]
def wsX1_surelyDry : List Cond := .code yX1_surelyDry cX1_surelyDry 1 (some .int) :: ((wsX1_surelyDry_r1 ++ (wsX1_surelyDry_r2 ++ wsX1_surelyDry_r3)) ++ wsX10)
def wsX1_surelyDamp_r1 : List Cond := [Cond.methodLink RX1 149 yX1_reckon, Cond.instanceMethod yX1_reckon, Cond.selects RX1 yX1_reckon yX1_reckon, Cond.initialized RX1, Cond.code yX1_reckon cX1_reckon 1 none, Cond.methodLink RX1 73 yX1_begin, Cond.instanceMethod yX1_begin, Cond.selects RX1 yX1_begin yX1_begin, Cond.code yX1_begin cX1_begin 3 none, Cond.fieldLink RX1 44 "GrainSiloModel" "layers" "I", Cond.fieldLink RX1 32 "GrainSiloModel" "most" "[I", Cond.constant RX1 68 (1000000), Cond.fieldLink RX1 55 "GrainSiloModel" "samples" "I", Cond.fieldLink RX1 16 "GrainSiloModel" "low" "[I", Cond.fieldLink RX1 19 "GrainSiloModel" "high" "[I", Cond.fieldLink RX1 22 "GrainSiloModel" "sum" "[I", Cond.fieldLink RX1 25 "GrainSiloModel" "doubt" "[I", Cond.methodLink RX1 64 yX1_bound, Cond.instanceMethod yX1_bound, Cond.selects RX1 yX1_bound yX1_bound, Cond.code yX1_bound cX1_bound 4 none, Cond.methodLink RX1 58 Lib.Math.min.name, Cond.static Lib.Math.min.name, Cond.initialized "java/lang/Math"]
def wsX1_surelyDamp_r2 : List Cond := [Cond.code Lib.Math.min.name Lib.Math.min.code 2 (some .int), Cond.methodLink RX1 69 yX1_tell, Cond.instanceMethod yX1_tell, Cond.selects RX1 yX1_tell yX1_tell, Cond.code yX1_tell cX1_tell 5 none, Cond.methodLink RX1 76 yX1_goOn, Cond.instanceMethod yX1_goOn, Cond.selects RX1 yX1_goOn yX1_goOn, Cond.code yX1_goOn cX1_goOn 4 none, Cond.methodLink RX1 152 yX1_surely, Cond.instanceMethod yX1_surely, Cond.selects RX1 yX1_surely yX1_surely, Cond.code yX1_surely cX1_surely 4 (some .int), Cond.fieldLink RX1 28 "GrainSiloModel" "limit" "I", Cond.methodLink RX1 79 yX1_greatest, Cond.instanceMethod yX1_greatest, Cond.selects RX1 yX1_greatest yX1_greatest, Cond.code yX1_greatest cX1_greatest 3 (some .int), Cond.methodLink RX1 82 yX1_least, Cond.instanceMethod yX1_least, Cond.selects RX1 yX1_least yX1_least, Cond.code yX1_least cX1_least 3 (some .int), Cond.methodLink RX1 133 yX1_ok, Cond.instanceMethod yX1_ok]
def wsX1_surelyDamp_r3 : List Cond := [Cond.selects RX1 yX1_ok yX1_ok, Cond.code yX1_ok cX1_ok 2 (some .int), Cond.fieldLink RX1 41 "GrainSiloModel" "thrown" "I"]
def wsX1_surelyDamp : List Cond := .code yX1_surelyDamp cX1_surelyDamp 1 (some .int) :: ((wsX1_surelyDamp_r1 ++ (wsX1_surelyDamp_r2 ++ wsX1_surelyDamp_r3)) ++ wsX10)
def wsX1_worstLayer_r1 : List Cond := [Cond.fieldLink RX1 41 "GrainSiloModel" "thrown" "I", Cond.fieldLink RX1 44 "GrainSiloModel" "layers" "I", Cond.methodLink RX1 92 yX1_no, Cond.instanceMethod yX1_no, Cond.selects RX1 yX1_no yX1_no, Cond.initialized RX1, Cond.code yX1_no cX1_no 2 (some .int), Cond.methodLink RX1 149 yX1_reckon, Cond.instanceMethod yX1_reckon, Cond.selects RX1 yX1_reckon yX1_reckon, Cond.code yX1_reckon cX1_reckon 1 none, Cond.methodLink RX1 73 yX1_begin, Cond.instanceMethod yX1_begin, Cond.selects RX1 yX1_begin yX1_begin, Cond.code yX1_begin cX1_begin 3 none, Cond.fieldLink RX1 32 "GrainSiloModel" "most" "[I", Cond.constant RX1 68 (1000000), Cond.fieldLink RX1 55 "GrainSiloModel" "samples" "I", Cond.fieldLink RX1 16 "GrainSiloModel" "low" "[I", Cond.fieldLink RX1 19 "GrainSiloModel" "high" "[I", Cond.fieldLink RX1 22 "GrainSiloModel" "sum" "[I", Cond.fieldLink RX1 25 "GrainSiloModel" "doubt" "[I", Cond.methodLink RX1 64 yX1_bound, Cond.instanceMethod yX1_bound]
def wsX1_worstLayer_r2 : List Cond := [Cond.selects RX1 yX1_bound yX1_bound, Cond.code yX1_bound cX1_bound 4 none, Cond.methodLink RX1 58 Lib.Math.min.name, Cond.static Lib.Math.min.name, Cond.initialized "java/lang/Math", Cond.code Lib.Math.min.name Lib.Math.min.code 2 (some .int), Cond.methodLink RX1 69 yX1_tell, Cond.instanceMethod yX1_tell, Cond.selects RX1 yX1_tell yX1_tell, Cond.code yX1_tell cX1_tell 5 none, Cond.methodLink RX1 76 yX1_goOn, Cond.instanceMethod yX1_goOn, Cond.selects RX1 yX1_goOn yX1_goOn, Cond.code yX1_goOn cX1_goOn 4 none, Cond.methodLink RX1 79 yX1_greatest, Cond.instanceMethod yX1_greatest, Cond.selects RX1 yX1_greatest yX1_greatest, Cond.code yX1_greatest cX1_greatest 3 (some .int)]
def wsX1_worstLayer : List Cond := .code yX1_worstLayer cX1_worstLayer 3 (some .int) :: ((wsX1_worstLayer_r1 ++ wsX1_worstLayer_r2) ++ wsX10)
def wsX1_doubt_r1 : List Cond := [Cond.methodLink RX1 149 yX1_reckon, Cond.instanceMethod yX1_reckon, Cond.selects RX1 yX1_reckon yX1_reckon, Cond.initialized RX1, Cond.code yX1_reckon cX1_reckon 1 none, Cond.methodLink RX1 73 yX1_begin, Cond.instanceMethod yX1_begin, Cond.selects RX1 yX1_begin yX1_begin, Cond.code yX1_begin cX1_begin 3 none, Cond.fieldLink RX1 44 "GrainSiloModel" "layers" "I", Cond.fieldLink RX1 32 "GrainSiloModel" "most" "[I", Cond.constant RX1 68 (1000000), Cond.fieldLink RX1 55 "GrainSiloModel" "samples" "I", Cond.fieldLink RX1 16 "GrainSiloModel" "low" "[I", Cond.fieldLink RX1 19 "GrainSiloModel" "high" "[I", Cond.fieldLink RX1 22 "GrainSiloModel" "sum" "[I", Cond.fieldLink RX1 25 "GrainSiloModel" "doubt" "[I", Cond.methodLink RX1 64 yX1_bound, Cond.instanceMethod yX1_bound, Cond.selects RX1 yX1_bound yX1_bound, Cond.code yX1_bound cX1_bound 4 none, Cond.methodLink RX1 58 Lib.Math.min.name, Cond.static Lib.Math.min.name, Cond.initialized "java/lang/Math"]
def wsX1_doubt_r2 : List Cond := [Cond.code Lib.Math.min.name Lib.Math.min.code 2 (some .int), Cond.methodLink RX1 69 yX1_tell, Cond.instanceMethod yX1_tell, Cond.selects RX1 yX1_tell yX1_tell, Cond.code yX1_tell cX1_tell 5 none, Cond.methodLink RX1 76 yX1_goOn, Cond.instanceMethod yX1_goOn, Cond.selects RX1 yX1_goOn yX1_goOn, Cond.code yX1_goOn cX1_goOn 4 none, Cond.methodLink RX1 88 yX1_allDoubt, Cond.instanceMethod yX1_allDoubt, Cond.selects RX1 yX1_allDoubt yX1_allDoubt, Cond.code yX1_allDoubt cX1_allDoubt 3 (some .int), Cond.methodLink RX1 79 yX1_greatest, Cond.instanceMethod yX1_greatest, Cond.selects RX1 yX1_greatest yX1_greatest, Cond.code yX1_greatest cX1_greatest 3 (some .int), Cond.methodLink RX1 82 yX1_least, Cond.instanceMethod yX1_least, Cond.selects RX1 yX1_least yX1_least, Cond.code yX1_least cX1_least 3 (some .int), Cond.methodLink RX1 133 yX1_ok, Cond.instanceMethod yX1_ok, Cond.selects RX1 yX1_ok yX1_ok]
def wsX1_doubt_r3 : List Cond := [Cond.code yX1_ok cX1_ok 2 (some .int), Cond.fieldLink RX1 41 "GrainSiloModel" "thrown" "I"]
def wsX1_doubt : List Cond := .code yX1_doubt cX1_doubt 1 (some .int) :: ((wsX1_doubt_r1 ++ (wsX1_doubt_r2 ++ wsX1_doubt_r3)) ++ wsX10)
def wsX1_doubtBehind_r1 : List Cond := [Cond.fieldLink RX1 41 "GrainSiloModel" "thrown" "I", Cond.methodLink RX1 126 yX1_areLayers, Cond.instanceMethod yX1_areLayers, Cond.selects RX1 yX1_areLayers yX1_areLayers, Cond.initialized RX1, Cond.code yX1_areLayers cX1_areLayers 3 (some .boolean), Cond.methodLink RX1 51 yX1_isLayer, Cond.instanceMethod yX1_isLayer, Cond.selects RX1 yX1_isLayer yX1_isLayer, Cond.code yX1_isLayer cX1_isLayer 2 (some .boolean), Cond.fieldLink RX1 44 "GrainSiloModel" "layers" "I", Cond.methodLink RX1 47 yX1_isIn, Cond.static yX1_isIn, Cond.code yX1_isIn cX1_isIn 3 (some .boolean), Cond.methodLink RX1 156 yX1_behind, Cond.instanceMethod yX1_behind, Cond.selects RX1 yX1_behind yX1_behind, Cond.code yX1_behind cX1_behind 3 (some .int), Cond.methodLink RX1 73 yX1_begin, Cond.instanceMethod yX1_begin, Cond.selects RX1 yX1_begin yX1_begin, Cond.code yX1_begin cX1_begin 3 none, Cond.fieldLink RX1 32 "GrainSiloModel" "most" "[I", Cond.constant RX1 68 (1000000)]
def wsX1_doubtBehind_r2 : List Cond := [Cond.fieldLink RX1 55 "GrainSiloModel" "samples" "I", Cond.fieldLink RX1 16 "GrainSiloModel" "low" "[I", Cond.fieldLink RX1 19 "GrainSiloModel" "high" "[I", Cond.fieldLink RX1 22 "GrainSiloModel" "sum" "[I", Cond.fieldLink RX1 25 "GrainSiloModel" "doubt" "[I", Cond.methodLink RX1 64 yX1_bound, Cond.instanceMethod yX1_bound, Cond.selects RX1 yX1_bound yX1_bound, Cond.code yX1_bound cX1_bound 4 none, Cond.methodLink RX1 58 Lib.Math.min.name, Cond.static Lib.Math.min.name, Cond.initialized "java/lang/Math", Cond.code Lib.Math.min.name Lib.Math.min.code 2 (some .int), Cond.methodLink RX1 69 yX1_tell, Cond.instanceMethod yX1_tell, Cond.selects RX1 yX1_tell yX1_tell, Cond.code yX1_tell cX1_tell 5 none, Cond.methodLink RX1 85 yX1_added, Cond.instanceMethod yX1_added, Cond.selects RX1 yX1_added yX1_added, Cond.code yX1_added cX1_added 5 (some .int), Cond.fieldLink RX1 13 "GrainSiloModel" "damp" "[I", Cond.methodLink RX1 76 yX1_goOn, Cond.instanceMethod yX1_goOn]
def wsX1_doubtBehind_r3 : List Cond := [Cond.selects RX1 yX1_goOn yX1_goOn, Cond.code yX1_goOn cX1_goOn 4 none, Cond.methodLink RX1 88 yX1_allDoubt, Cond.instanceMethod yX1_allDoubt, Cond.selects RX1 yX1_allDoubt yX1_allDoubt, Cond.code yX1_allDoubt cX1_allDoubt 3 (some .int), Cond.methodLink RX1 79 yX1_greatest, Cond.instanceMethod yX1_greatest, Cond.selects RX1 yX1_greatest yX1_greatest, Cond.code yX1_greatest cX1_greatest 3 (some .int), Cond.methodLink RX1 82 yX1_least, Cond.instanceMethod yX1_least, Cond.selects RX1 yX1_least yX1_least, Cond.code yX1_least cX1_least 3 (some .int), Cond.methodLink RX1 92 yX1_no, Cond.instanceMethod yX1_no, Cond.selects RX1 yX1_no yX1_no, Cond.code yX1_no cX1_no 2 (some .int)]
def wsX1_doubtBehind : List Cond := .code yX1_doubtBehind cX1_doubtBehind 3 (some .int) :: ((wsX1_doubtBehind_r1 ++ (wsX1_doubtBehind_r2 ++ wsX1_doubtBehind_r3)) ++ wsX10)
def wsX1_bestToLookAt_r1 : List Cond := [Cond.fieldLink RX1 41 "GrainSiloModel" "thrown" "I", Cond.fieldLink RX1 44 "GrainSiloModel" "layers" "I", Cond.constant RX1 68 (1000000), Cond.methodLink RX1 92 yX1_no, Cond.instanceMethod yX1_no, Cond.selects RX1 yX1_no yX1_no, Cond.initialized RX1, Cond.code yX1_no cX1_no 2 (some .int), Cond.methodLink RX1 156 yX1_behind, Cond.instanceMethod yX1_behind, Cond.selects RX1 yX1_behind yX1_behind, Cond.code yX1_behind cX1_behind 3 (some .int), Cond.methodLink RX1 73 yX1_begin, Cond.instanceMethod yX1_begin, Cond.selects RX1 yX1_begin yX1_begin, Cond.code yX1_begin cX1_begin 3 none, Cond.fieldLink RX1 32 "GrainSiloModel" "most" "[I", Cond.fieldLink RX1 55 "GrainSiloModel" "samples" "I", Cond.fieldLink RX1 16 "GrainSiloModel" "low" "[I", Cond.fieldLink RX1 19 "GrainSiloModel" "high" "[I", Cond.fieldLink RX1 22 "GrainSiloModel" "sum" "[I", Cond.fieldLink RX1 25 "GrainSiloModel" "doubt" "[I", Cond.methodLink RX1 64 yX1_bound, Cond.instanceMethod yX1_bound]
def wsX1_bestToLookAt_r2 : List Cond := [Cond.selects RX1 yX1_bound yX1_bound, Cond.code yX1_bound cX1_bound 4 none, Cond.methodLink RX1 58 Lib.Math.min.name, Cond.static Lib.Math.min.name, Cond.initialized "java/lang/Math", Cond.code Lib.Math.min.name Lib.Math.min.code 2 (some .int), Cond.methodLink RX1 69 yX1_tell, Cond.instanceMethod yX1_tell, Cond.selects RX1 yX1_tell yX1_tell, Cond.code yX1_tell cX1_tell 5 none, Cond.methodLink RX1 85 yX1_added, Cond.instanceMethod yX1_added, Cond.selects RX1 yX1_added yX1_added, Cond.code yX1_added cX1_added 5 (some .int), Cond.fieldLink RX1 13 "GrainSiloModel" "damp" "[I", Cond.methodLink RX1 76 yX1_goOn, Cond.instanceMethod yX1_goOn, Cond.selects RX1 yX1_goOn yX1_goOn, Cond.code yX1_goOn cX1_goOn 4 none, Cond.methodLink RX1 88 yX1_allDoubt, Cond.instanceMethod yX1_allDoubt, Cond.selects RX1 yX1_allDoubt yX1_allDoubt, Cond.code yX1_allDoubt cX1_allDoubt 3 (some .int), Cond.methodLink RX1 79 yX1_greatest]
def wsX1_bestToLookAt_r3 : List Cond := [Cond.instanceMethod yX1_greatest, Cond.selects RX1 yX1_greatest yX1_greatest, Cond.code yX1_greatest cX1_greatest 3 (some .int), Cond.methodLink RX1 82 yX1_least, Cond.instanceMethod yX1_least, Cond.selects RX1 yX1_least yX1_least, Cond.code yX1_least cX1_least 3 (some .int)]
def wsX1_bestToLookAt : List Cond := .code yX1_bestToLookAt cX1_bestToLookAt 5 (some .int) :: ((wsX1_bestToLookAt_r1 ++ (wsX1_bestToLookAt_r2 ++ wsX1_bestToLookAt_r3)) ++ wsX10)
def wsX1_keep : List Cond := .code yX1_keep cX1_keep 1 none :: ([.fieldLink RX1 13 "GrainSiloModel" "damp" "[I", .fieldLink RX1 35 "GrainSiloModel" "kept" "[I", .methodLink RX1 159 arraycopyName, .native arraycopyName, .static arraycopyName, .initialized "java/lang/System"] ++ wsX10)
def wsX1_bringBack : List Cond := .code yX1_bringBack cX1_bringBack 1 none :: ([.fieldLink RX1 35 "GrainSiloModel" "kept" "[I", .fieldLink RX1 13 "GrainSiloModel" "damp" "[I", .methodLink RX1 159 arraycopyName, .native arraycopyName, .static arraycopyName, .initialized "java/lang/System"] ++ wsX10)
def wsX1_dampnessIn_r1 : List Cond := [Cond.fieldLink RX1 41 "GrainSiloModel" "thrown" "I", Cond.fieldLink RX1 13 "GrainSiloModel" "damp" "[I", Cond.methodLink RX1 51 yX1_isLayer, Cond.instanceMethod yX1_isLayer, Cond.selects RX1 yX1_isLayer yX1_isLayer, Cond.initialized RX1, Cond.code yX1_isLayer cX1_isLayer 2 (some .boolean), Cond.fieldLink RX1 44 "GrainSiloModel" "layers" "I", Cond.methodLink RX1 47 yX1_isIn, Cond.static yX1_isIn, Cond.code yX1_isIn cX1_isIn 3 (some .boolean), Cond.methodLink RX1 92 yX1_no, Cond.instanceMethod yX1_no, Cond.selects RX1 yX1_no yX1_no, Cond.code yX1_no cX1_no 2 (some .int), Cond.methodLink RX1 165 yX1_keep, Cond.instanceMethod yX1_keep, Cond.selects RX1 yX1_keep yX1_keep, Cond.code yX1_keep cX1_keep 1 none, Cond.fieldLink RX1 35 "GrainSiloModel" "kept" "[I", Cond.methodLink RX1 159 arraycopyName, Cond.native arraycopyName, Cond.static arraycopyName, Cond.initialized "java/lang/System"]
def wsX1_dampnessIn_r2 : List Cond := [Cond.methodLink RX1 120 yX1_evenOut, Cond.instanceMethod yX1_evenOut, Cond.selects RX1 yX1_evenOut yX1_evenOut, Cond.code yX1_evenOut cX1_evenOut 3 (some .int), Cond.fieldLink RX1 38 "GrainSiloModel" "step" "[I", Cond.methodLink RX1 112 yX1_towards, Cond.instanceMethod yX1_towards, Cond.selects RX1 yX1_towards yX1_towards, Cond.code yX1_towards cX1_towards 4 (some .int), Cond.methodLink RX1 115 yJ6_signum_0f7a4, Cond.static yJ6_signum_0f7a4, Cond.initialized RJ6, Cond.code yJ6_signum_0f7a4 cJ6_signum_0f7a4 1 (some .int), Cond.methodLink RX1 168 yX1_bringBack, Cond.instanceMethod yX1_bringBack, Cond.selects RX1 yX1_bringBack yX1_bringBack, Cond.code yX1_bringBack cX1_bringBack 1 none]
def wsX1_dampnessIn : List Cond := .code yX1_dampnessIn cX1_dampnessIn 4 (some .int) :: ((wsX1_dampnessIn_r1 ++ wsX1_dampnessIn_r2) ++ wsX10)
def wsX1_daysUntilEven_r1 : List Cond := [Cond.fieldLink RX1 41 "GrainSiloModel" "thrown" "I", Cond.methodLink RX1 165 yX1_keep, Cond.instanceMethod yX1_keep, Cond.selects RX1 yX1_keep yX1_keep, Cond.initialized RX1, Cond.code yX1_keep cX1_keep 1 none, Cond.fieldLink RX1 13 "GrainSiloModel" "damp" "[I", Cond.fieldLink RX1 35 "GrainSiloModel" "kept" "[I", Cond.methodLink RX1 159 arraycopyName, Cond.native arraycopyName, Cond.static arraycopyName, Cond.initialized "java/lang/System", Cond.methodLink RX1 120 yX1_evenOut, Cond.instanceMethod yX1_evenOut, Cond.selects RX1 yX1_evenOut yX1_evenOut, Cond.code yX1_evenOut cX1_evenOut 3 (some .int), Cond.fieldLink RX1 44 "GrainSiloModel" "layers" "I", Cond.fieldLink RX1 38 "GrainSiloModel" "step" "[I", Cond.methodLink RX1 112 yX1_towards, Cond.instanceMethod yX1_towards, Cond.selects RX1 yX1_towards yX1_towards, Cond.code yX1_towards cX1_towards 4 (some .int), Cond.methodLink RX1 51 yX1_isLayer, Cond.instanceMethod yX1_isLayer]
def wsX1_daysUntilEven_r2 : List Cond := [Cond.selects RX1 yX1_isLayer yX1_isLayer, Cond.code yX1_isLayer cX1_isLayer 2 (some .boolean), Cond.methodLink RX1 47 yX1_isIn, Cond.static yX1_isIn, Cond.code yX1_isIn cX1_isIn 3 (some .boolean), Cond.methodLink RX1 115 yJ6_signum_0f7a4, Cond.static yJ6_signum_0f7a4, Cond.initialized RJ6, Cond.code yJ6_signum_0f7a4 cJ6_signum_0f7a4 1 (some .int), Cond.methodLink RX1 168 yX1_bringBack, Cond.instanceMethod yX1_bringBack, Cond.selects RX1 yX1_bringBack yX1_bringBack, Cond.code yX1_bringBack cX1_bringBack 1 none]
def wsX1_daysUntilEven : List Cond := .code yX1_daysUntilEven cX1_daysUntilEven 2 (some .int) :: ((wsX1_daysUntilEven_r1 ++ wsX1_daysUntilEven_r2) ++ wsX10)
def wsX1_meanDampness : List Cond := .code yX1_meanDampness cX1_meanDampness 1 (some .double) :: ([.fieldLink RX1 41 "GrainSiloModel" "thrown" "I", .fieldLink RX1 44 "GrainSiloModel" "layers" "I", .methodLink RX1 85 yX1_added, .instanceMethod yX1_added, .selects RX1 yX1_added yX1_added, .initialized RX1, .code yX1_added cX1_added 5 (some .int), .fieldLink RX1 13 "GrainSiloModel" "damp" "[I"] ++ wsX10)
def wsX1_digest_r1 : List Cond := [Cond.fieldLink RX1 41 "GrainSiloModel" "thrown" "I", Cond.arrayClass .int, Cond.fieldLink RX1 44 "GrainSiloModel" "layers" "I", Cond.fieldLink RX1 55 "GrainSiloModel" "samples" "I", Cond.fieldLink RX1 123 "GrainSiloModel" "day" "I", Cond.fieldLink RX1 28 "GrainSiloModel" "limit" "I", Cond.fieldLink RX1 99 "GrainSiloModel" "sold" "I", Cond.fieldLink RX1 96 "GrainSiloModel" "spoilt" "I", Cond.constantLong RX1 171 (1907), Cond.constantLong RX1 173 (31), Cond.fieldLink RX1 9 "GrainSiloModel" "kind" "[I", Cond.fieldLink RX1 13 "GrainSiloModel" "damp" "[I", Cond.fieldLink RX1 16 "GrainSiloModel" "low" "[I", Cond.fieldLink RX1 19 "GrainSiloModel" "high" "[I", Cond.fieldLink RX1 22 "GrainSiloModel" "sum" "[I", Cond.fieldLink RX1 25 "GrainSiloModel" "doubt" "[I", Cond.methodLink RX1 149 yX1_reckon, Cond.instanceMethod yX1_reckon, Cond.selects RX1 yX1_reckon yX1_reckon, Cond.initialized RX1, Cond.code yX1_reckon cX1_reckon 1 none, Cond.methodLink RX1 73 yX1_begin, Cond.instanceMethod yX1_begin, Cond.selects RX1 yX1_begin yX1_begin]
def wsX1_digest_r2 : List Cond := [Cond.code yX1_begin cX1_begin 3 none, Cond.fieldLink RX1 32 "GrainSiloModel" "most" "[I", Cond.constant RX1 68 (1000000), Cond.methodLink RX1 64 yX1_bound, Cond.instanceMethod yX1_bound, Cond.selects RX1 yX1_bound yX1_bound, Cond.code yX1_bound cX1_bound 4 none, Cond.methodLink RX1 58 Lib.Math.min.name, Cond.static Lib.Math.min.name, Cond.initialized "java/lang/Math", Cond.code Lib.Math.min.name Lib.Math.min.code 2 (some .int), Cond.methodLink RX1 69 yX1_tell, Cond.instanceMethod yX1_tell, Cond.selects RX1 yX1_tell yX1_tell, Cond.code yX1_tell cX1_tell 5 none, Cond.methodLink RX1 76 yX1_goOn, Cond.instanceMethod yX1_goOn, Cond.selects RX1 yX1_goOn yX1_goOn, Cond.code yX1_goOn cX1_goOn 4 none, Cond.methodLink RX1 88 yX1_allDoubt, Cond.instanceMethod yX1_allDoubt, Cond.selects RX1 yX1_allDoubt yX1_allDoubt, Cond.code yX1_allDoubt cX1_allDoubt 3 (some .int), Cond.methodLink RX1 79 yX1_greatest]
def wsX1_digest_r3 : List Cond := [Cond.instanceMethod yX1_greatest, Cond.selects RX1 yX1_greatest yX1_greatest, Cond.code yX1_greatest cX1_greatest 3 (some .int), Cond.methodLink RX1 82 yX1_least, Cond.instanceMethod yX1_least, Cond.selects RX1 yX1_least yX1_least, Cond.code yX1_least cX1_least 3 (some .int), Cond.methodLink RX1 152 yX1_surely, Cond.instanceMethod yX1_surely, Cond.selects RX1 yX1_surely yX1_surely, Cond.code yX1_surely cX1_surely 4 (some .int)]
def wsX1_digest : List Cond := .code yX1_digest cX1_digest 8 (some .long) :: ((wsX1_digest_r1 ++ (wsX1_digest_r2 ++ wsX1_digest_r3)) ++ wsX10)
def wsJ9_min_7cf53 : List Cond := .code yJ9_min_7cf53 cJ9_min_7cf53 2 (some .int) :: ([])
def wsL_fill : List Cond := .codeWith yL_fill cL_fill 5 (some .int) [(0, 10, 13, 13), (0, 10, 17, 15)] :: ([.classLink RL 13 "java/lang/IllegalArgumentException", .classLink RL 15 "java/lang/IllegalStateException", .methodLink RL 7 yX0_fill, .instanceMethod yX0_fill, .selects RX0 yX0_fill yX0_fill, .initialized RX0, .code yX0_fill cX0_fill 3 (some .int), .classLink RX0 50 "java/lang/IllegalArgumentException", .initialized "java/lang/IllegalArgumentException", .classLink RX0 60 "java/lang/IllegalStateException", .initialized "java/lang/IllegalStateException", .fieldLink RX0 57 "GrainSilo" "layers" "I", .methodLink RX0 43 yX0_isKind, .static yX0_isKind, .code yX0_isKind cX0_isKind 1 (some .boolean), .methodLink RX0 47 yX0_isDampness, .static yX0_isDampness, .code yX0_isDampness cX0_isDampness 1 (some .boolean), .methodLink RX0 65 yX0_putOnTop, .instanceMethod yX0_putOnTop, .selects RX0 yX0_putOnTop yX0_putOnTop, .code yX0_putOnTop cX0_putOnTop 4 (some .int), .fieldLink RX0 9 "GrainSilo" "kinds" "[I", .fieldLink RX0 13 "GrainSilo" "dampness" "[I"] ++ wsX00 ++ (vx_atS RX0 54 "java/lang/IllegalArgumentException" ["java/lang/RuntimeException", "java/lang/Exception"]).filter goodWord ++ (vx_atS RX0 64 "java/lang/IllegalStateException" ["java/lang/RuntimeException", "java/lang/Exception"]).filter goodWord)
def wsL_letOut_r1 : List Cond := [Cond.classLink RL 15 "java/lang/IllegalStateException", Cond.methodLink RL 17 yX0_letOut, Cond.instanceMethod yX0_letOut, Cond.selects RX0 yX0_letOut yX0_letOut, Cond.initialized RX0, Cond.code yX0_letOut cX0_letOut 2 (some .int), Cond.classLink RX0 60 "java/lang/IllegalStateException", Cond.initialized "java/lang/IllegalStateException", Cond.fieldLink RX0 57 "GrainSilo" "layers" "I", Cond.fieldLink RX0 13 "GrainSilo" "dampness" "[I", Cond.methodLink RX0 71 yX0_countOut, Cond.instanceMethod yX0_countOut, Cond.selects RX0 yX0_countOut yX0_countOut, Cond.code yX0_countOut cX0_countOut 2 none, Cond.fieldLink RX0 125 "GrainSilo" "spoilt" "I", Cond.fieldLink RX0 122 "GrainSilo" "sold" "I", Cond.methodLink RX0 131 yX0_isDamp, Cond.instanceMethod yX0_isDamp, Cond.selects RX0 yX0_isDamp yX0_isDamp, Cond.code yX0_isDamp cX0_isDamp 2 (some .boolean), Cond.fieldLink RX0 39 "GrainSilo" "limit" "I", Cond.methodLink RX0 75 yX0_lowerLayers, Cond.instanceMethod yX0_lowerLayers, Cond.selects RX0 yX0_lowerLayers yX0_lowerLayers]
def wsL_letOut_r2 : List Cond := [Cond.code yX0_lowerLayers cX0_lowerLayers 2 none, Cond.fieldLink RX0 9 "GrainSilo" "kinds" "[I", Cond.methodLink RX0 78 yX0_cutLowestOffSamples, Cond.instanceMethod yX0_cutLowestOffSamples, Cond.selects RX0 yX0_cutLowestOffSamples yX0_cutLowestOffSamples, Cond.code yX0_cutLowestOffSamples cX0_cutLowestOffSamples 3 none, Cond.fieldLink RX0 86 "GrainSilo" "samples" "I", Cond.fieldLink RX0 16 "GrainSilo" "lowest" "[I", Cond.fieldLink RX0 19 "GrainSilo" "highest" "[I", Cond.fieldLink RX0 22 "GrainSilo" "sums" "[I", Cond.methodLink RX0 89 yX0_dropSamplesOfLowest, Cond.instanceMethod yX0_dropSamplesOfLowest, Cond.selects RX0 yX0_dropSamplesOfLowest yX0_dropSamplesOfLowest, Cond.code yX0_dropSamplesOfLowest cX0_dropSamplesOfLowest 3 none, Cond.methodLink RX0 119 yX0_moveSample, Cond.instanceMethod yX0_moveSample, Cond.selects RX0 yX0_moveSample yX0_moveSample, Cond.code yX0_moveSample cX0_moveSample 3 none, Cond.fieldLink RX0 25 "GrainSilo" "doubts" "[I", Cond.methodLink RX0 81 yX0_lowerSamples, Cond.instanceMethod yX0_lowerSamples, Cond.selects RX0 yX0_lowerSamples yX0_lowerSamples, Cond.code yX0_lowerSamples cX0_lowerSamples 2 none]
def wsL_letOut : List Cond := .codeWith yL_letOut cL_letOut 3 (some .int) [(0, 8, 11, 15)] :: ((wsL_letOut_r1 ++ wsL_letOut_r2) ++ wsX00 ++ (vx_atS RX0 64 "java/lang/IllegalStateException" ["java/lang/RuntimeException", "java/lang/Exception"]).filter goodWord)
def wsL_turnOver_r1 : List Cond := [Cond.classLink RL 15 "java/lang/IllegalStateException", Cond.methodLink RL 21 yX0_turnOver, Cond.instanceMethod yX0_turnOver, Cond.selects RX0 yX0_turnOver yX0_turnOver, Cond.initialized RX0, Cond.code yX0_turnOver cX0_turnOver 4 (some .int), Cond.classLink RX0 60 "java/lang/IllegalStateException", Cond.initialized "java/lang/IllegalStateException", Cond.fieldLink RX0 57 "GrainSilo" "layers" "I", Cond.fieldLink RX0 9 "GrainSilo" "kinds" "[I", Cond.fieldLink RX0 13 "GrainSilo" "dampness" "[I", Cond.fieldLink RX0 86 "GrainSilo" "samples" "I", Cond.methodLink RX0 75 yX0_lowerLayers, Cond.instanceMethod yX0_lowerLayers, Cond.selects RX0 yX0_lowerLayers yX0_lowerLayers, Cond.code yX0_lowerLayers cX0_lowerLayers 2 none, Cond.methodLink RX0 65 yX0_putOnTop, Cond.instanceMethod yX0_putOnTop, Cond.selects RX0 yX0_putOnTop yX0_putOnTop, Cond.code yX0_putOnTop cX0_putOnTop 4 (some .int), Cond.methodLink RX0 89 yX0_dropSamplesOfLowest, Cond.instanceMethod yX0_dropSamplesOfLowest, Cond.selects RX0 yX0_dropSamplesOfLowest yX0_dropSamplesOfLowest, Cond.code yX0_dropSamplesOfLowest cX0_dropSamplesOfLowest 3 none]
def wsL_turnOver_r2 : List Cond := [Cond.fieldLink RX0 16 "GrainSilo" "lowest" "[I", Cond.methodLink RX0 119 yX0_moveSample, Cond.instanceMethod yX0_moveSample, Cond.selects RX0 yX0_moveSample yX0_moveSample, Cond.code yX0_moveSample cX0_moveSample 3 none, Cond.fieldLink RX0 19 "GrainSilo" "highest" "[I", Cond.fieldLink RX0 22 "GrainSilo" "sums" "[I", Cond.fieldLink RX0 25 "GrainSilo" "doubts" "[I", Cond.methodLink RX0 81 yX0_lowerSamples, Cond.instanceMethod yX0_lowerSamples, Cond.selects RX0 yX0_lowerSamples yX0_lowerSamples, Cond.code yX0_lowerSamples cX0_lowerSamples 2 none]
def wsL_turnOver : List Cond := .codeWith yL_turnOver cL_turnOver 3 (some .int) [(0, 8, 11, 15)] :: ((wsL_turnOver_r1 ++ wsL_turnOver_r2) ++ wsX00 ++ (vx_atS RX0 64 "java/lang/IllegalStateException" ["java/lang/RuntimeException", "java/lang/Exception"]).filter goodWord)
def wsL_setLimit : List Cond := .codeWith yL_setLimit cL_setLimit 4 (some .int) [(0, 9, 12, 13)] :: ([.classLink RL 13 "java/lang/IllegalArgumentException", .methodLink RL 24 yX0_setLimit, .instanceMethod yX0_setLimit, .selects RX0 yX0_setLimit yX0_setLimit, .initialized RX0, .code yX0_setLimit cX0_setLimit 3 (some .int), .classLink RX0 50 "java/lang/IllegalArgumentException", .initialized "java/lang/IllegalArgumentException", .fieldLink RX0 39 "GrainSilo" "limit" "I", .methodLink RX0 47 yX0_isDampness, .static yX0_isDampness, .code yX0_isDampness cX0_isDampness 1 (some .boolean)] ++ wsX00 ++ (vx_atS RX0 54 "java/lang/IllegalArgumentException" ["java/lang/RuntimeException", "java/lang/Exception"]).filter goodWord)
def wsL_pass_r1 : List Cond := [Cond.classLink RL 13 "java/lang/IllegalArgumentException", Cond.methodLink RL 28 yX0_pass, Cond.instanceMethod yX0_pass, Cond.selects RX0 yX0_pass yX0_pass, Cond.initialized RX0, Cond.code yX0_pass cX0_pass 3 (some .int), Cond.fieldLink RX0 13 "GrainSilo" "dampness" "[I", Cond.fieldLink RX0 104 "GrainSilo" "day" "I", Cond.methodLink RX0 94 yX0_checkDays, Cond.static yX0_checkDays, Cond.code yX0_checkDays cX0_checkDays 1 none, Cond.classLink RX0 50 "java/lang/IllegalArgumentException", Cond.initialized "java/lang/IllegalArgumentException", Cond.methodLink RX0 97 yX0_letDaysGoBy, Cond.instanceMethod yX0_letDaysGoBy, Cond.selects RX0 yX0_letDaysGoBy yX0_letDaysGoBy, Cond.code yX0_letDaysGoBy cX0_letDaysGoBy 5 (some .int), Cond.methodLink RX0 167 yX0_letDayGoBy, Cond.instanceMethod yX0_letDayGoBy, Cond.selects RX0 yX0_letDayGoBy yX0_letDayGoBy, Cond.code yX0_letDayGoBy cX0_letDayGoBy 4 (some .int), Cond.fieldLink RX0 57 "GrainSilo" "layers" "I", Cond.fieldLink RX0 28 "GrainSilo" "turns" "[I", Cond.methodLink RX0 192 yX0_turnOf]
def wsL_pass_r2 : List Cond := [Cond.instanceMethod yX0_turnOf, Cond.selects RX0 yX0_turnOf yX0_turnOf, Cond.code yX0_turnOf cX0_turnOf 4 (some .int), Cond.methodLink RX0 195 yX0_pullOf, Cond.instanceMethod yX0_pullOf, Cond.selects RX0 yX0_pullOf yX0_pullOf, Cond.code yX0_pullOf cX0_pullOf 5 (some .int), Cond.methodLink RX0 101 yX0_addDoubt, Cond.instanceMethod yX0_addDoubt, Cond.selects RX0 yX0_addDoubt yX0_addDoubt, Cond.code yX0_addDoubt cX0_addDoubt 3 none, Cond.fieldLink RX0 86 "GrainSilo" "samples" "I", Cond.fieldLink RX0 25 "GrainSilo" "doubts" "[I", Cond.fieldLink RX0 19 "GrainSilo" "highest" "[I", Cond.fieldLink RX0 16 "GrainSilo" "lowest" "[I"]
def wsL_pass : List Cond := .codeWith yL_pass cL_pass 4 (some .int) [(0, 9, 12, 13)] :: ((wsL_pass_r1 ++ wsL_pass_r2) ++ wsX00 ++ (vx_atS RX0 54 "java/lang/IllegalArgumentException" ["java/lang/RuntimeException", "java/lang/Exception"]).filter goodWord)
def wsL_draw_r1 : List Cond := [Cond.classLink RL 34 "java/lang/IndexOutOfBoundsException", Cond.classLink RL 15 "java/lang/IllegalStateException", Cond.methodLink RL 31 yX0_draw, Cond.instanceMethod yX0_draw, Cond.selects RX0 yX0_draw yX0_draw, Cond.initialized RX0, Cond.code yX0_draw cX0_draw 4 (some .int), Cond.classLink RX0 60 "java/lang/IllegalStateException", Cond.initialized "java/lang/IllegalStateException", Cond.fieldLink RX0 86 "GrainSilo" "samples" "I", Cond.fieldLink RX0 16 "GrainSilo" "lowest" "[I", Cond.fieldLink RX0 19 "GrainSilo" "highest" "[I", Cond.fieldLink RX0 22 "GrainSilo" "sums" "[I", Cond.fieldLink RX0 25 "GrainSilo" "doubts" "[I", Cond.methodLink RX0 107 yX0_checkLayers, Cond.instanceMethod yX0_checkLayers, Cond.selects RX0 yX0_checkLayers yX0_checkLayers, Cond.code yX0_checkLayers cX0_checkLayers 3 none, Cond.classLink RX0 134 "java/lang/IndexOutOfBoundsException", Cond.initialized "java/lang/IndexOutOfBoundsException", Cond.fieldLink RX0 57 "GrainSilo" "layers" "I", Cond.methodLink RX0 113 yX0_sumNow, Cond.instanceMethod yX0_sumNow, Cond.selects RX0 yX0_sumNow yX0_sumNow]
def wsL_draw_r2 : List Cond := [Cond.code yX0_sumNow cX0_sumNow 5 (some .int), Cond.fieldLink RX0 13 "GrainSilo" "dampness" "[I"]
def wsL_draw : List Cond := .codeWith yL_draw cL_draw 5 (some .int) [(0, 10, 13, 34), (0, 10, 17, 15)] :: ((wsL_draw_r1 ++ wsL_draw_r2) ++ wsX00 ++ (vx_atS RX0 64 "java/lang/IllegalStateException" ["java/lang/RuntimeException", "java/lang/Exception"]).filter goodWord ++ (vx_atS RX0 138 "java/lang/IndexOutOfBoundsException" ["java/lang/RuntimeException", "java/lang/Exception"]).filter goodWord)
def wsL_throwAway : List Cond := .codeWith yL_throwAway cL_throwAway 4 (some .int) [(0, 9, 12, 34)] :: ([.classLink RL 34 "java/lang/IndexOutOfBoundsException", .methodLink RL 36 yX0_throwAway, .instanceMethod yX0_throwAway, .selects RX0 yX0_throwAway yX0_throwAway, .initialized RX0, .code yX0_throwAway cX0_throwAway 3 (some .int), .fieldLink RX0 86 "GrainSilo" "samples" "I", .methodLink RX0 116 yX0_checkSample, .instanceMethod yX0_checkSample, .selects RX0 yX0_checkSample yX0_checkSample, .code yX0_checkSample cX0_checkSample 2 none, .classLink RX0 134 "java/lang/IndexOutOfBoundsException", .initialized "java/lang/IndexOutOfBoundsException", .methodLink RX0 119 yX0_moveSample, .instanceMethod yX0_moveSample, .selects RX0 yX0_moveSample yX0_moveSample, .code yX0_moveSample cX0_moveSample 3 none, .fieldLink RX0 16 "GrainSilo" "lowest" "[I", .fieldLink RX0 19 "GrainSilo" "highest" "[I", .fieldLink RX0 22 "GrainSilo" "sums" "[I", .fieldLink RX0 25 "GrainSilo" "doubts" "[I"] ++ wsX00 ++ (vx_atS RX0 138 "java/lang/IndexOutOfBoundsException" ["java/lang/RuntimeException", "java/lang/Exception"]).filter goodWord)
def wsL_lowestOf : List Cond := .codeWith yL_lowestOf cL_lowestOf 4 (some .int) [(0, 9, 12, 34)] :: ([.classLink RL 34 "java/lang/IndexOutOfBoundsException", .methodLink RL 39 yX0_lowestOf, .instanceMethod yX0_lowestOf, .selects RX0 yX0_lowestOf yX0_lowestOf, .initialized RX0, .code yX0_lowestOf cX0_lowestOf 2 (some .int), .fieldLink RX0 16 "GrainSilo" "lowest" "[I", .methodLink RX0 116 yX0_checkSample, .instanceMethod yX0_checkSample, .selects RX0 yX0_checkSample yX0_checkSample, .code yX0_checkSample cX0_checkSample 2 none, .classLink RX0 134 "java/lang/IndexOutOfBoundsException", .initialized "java/lang/IndexOutOfBoundsException", .fieldLink RX0 86 "GrainSilo" "samples" "I"] ++ wsX00 ++ (vx_atS RX0 138 "java/lang/IndexOutOfBoundsException" ["java/lang/RuntimeException", "java/lang/Exception"]).filter goodWord)
def wsL_highestOf : List Cond := .codeWith yL_highestOf cL_highestOf 4 (some .int) [(0, 9, 12, 34)] :: ([.classLink RL 34 "java/lang/IndexOutOfBoundsException", .methodLink RL 42 yX0_highestOf, .instanceMethod yX0_highestOf, .selects RX0 yX0_highestOf yX0_highestOf, .initialized RX0, .code yX0_highestOf cX0_highestOf 2 (some .int), .fieldLink RX0 19 "GrainSilo" "highest" "[I", .methodLink RX0 116 yX0_checkSample, .instanceMethod yX0_checkSample, .selects RX0 yX0_checkSample yX0_checkSample, .code yX0_checkSample cX0_checkSample 2 none, .classLink RX0 134 "java/lang/IndexOutOfBoundsException", .initialized "java/lang/IndexOutOfBoundsException", .fieldLink RX0 86 "GrainSilo" "samples" "I"] ++ wsX00 ++ (vx_atS RX0 138 "java/lang/IndexOutOfBoundsException" ["java/lang/RuntimeException", "java/lang/Exception"]).filter goodWord)
def wsL_sumOf : List Cond := .codeWith yL_sumOf cL_sumOf 4 (some .int) [(0, 9, 12, 34)] :: ([.classLink RL 34 "java/lang/IndexOutOfBoundsException", .methodLink RL 45 yX0_sumOf, .instanceMethod yX0_sumOf, .selects RX0 yX0_sumOf yX0_sumOf, .initialized RX0, .code yX0_sumOf cX0_sumOf 2 (some .int), .fieldLink RX0 22 "GrainSilo" "sums" "[I", .methodLink RX0 116 yX0_checkSample, .instanceMethod yX0_checkSample, .selects RX0 yX0_checkSample yX0_checkSample, .code yX0_checkSample cX0_checkSample 2 none, .classLink RX0 134 "java/lang/IndexOutOfBoundsException", .initialized "java/lang/IndexOutOfBoundsException", .fieldLink RX0 86 "GrainSilo" "samples" "I"] ++ wsX00 ++ (vx_atS RX0 138 "java/lang/IndexOutOfBoundsException" ["java/lang/RuntimeException", "java/lang/Exception"]).filter goodWord)
def wsL_doubtOf : List Cond := .codeWith yL_doubtOf cL_doubtOf 4 (some .int) [(0, 9, 12, 34)] :: ([.classLink RL 34 "java/lang/IndexOutOfBoundsException", .methodLink RL 48 yX0_doubtOf, .instanceMethod yX0_doubtOf, .selects RX0 yX0_doubtOf yX0_doubtOf, .initialized RX0, .code yX0_doubtOf cX0_doubtOf 2 (some .int), .fieldLink RX0 25 "GrainSilo" "doubts" "[I", .methodLink RX0 116 yX0_checkSample, .instanceMethod yX0_checkSample, .selects RX0 yX0_checkSample yX0_checkSample, .code yX0_checkSample cX0_checkSample 2 none, .classLink RX0 134 "java/lang/IndexOutOfBoundsException", .initialized "java/lang/IndexOutOfBoundsException", .fieldLink RX0 86 "GrainSilo" "samples" "I"] ++ wsX00 ++ (vx_atS RX0 138 "java/lang/IndexOutOfBoundsException" ["java/lang/RuntimeException", "java/lang/Exception"]).filter goodWord)
def wsL_kindOf : List Cond := .codeWith yL_kindOf cL_kindOf 4 (some .int) [(0, 9, 12, 34)] :: ([.classLink RL 34 "java/lang/IndexOutOfBoundsException", .methodLink RL 51 yX0_kindOf, .instanceMethod yX0_kindOf, .selects RX0 yX0_kindOf yX0_kindOf, .initialized RX0, .code yX0_kindOf cX0_kindOf 2 (some .int), .fieldLink RX0 9 "GrainSilo" "kinds" "[I", .methodLink RX0 128 yX0_checkLayer, .instanceMethod yX0_checkLayer, .selects RX0 yX0_checkLayer yX0_checkLayer, .code yX0_checkLayer cX0_checkLayer 2 none, .classLink RX0 134 "java/lang/IndexOutOfBoundsException", .initialized "java/lang/IndexOutOfBoundsException", .fieldLink RX0 57 "GrainSilo" "layers" "I"] ++ wsX00 ++ (vx_atS RX0 138 "java/lang/IndexOutOfBoundsException" ["java/lang/RuntimeException", "java/lang/Exception"]).filter goodWord)
def wsL_dampnessOf : List Cond := .codeWith yL_dampnessOf cL_dampnessOf 4 (some .int) [(0, 9, 12, 34)] :: ([.classLink RL 34 "java/lang/IndexOutOfBoundsException", .methodLink RL 54 yX0_dampnessOf, .instanceMethod yX0_dampnessOf, .selects RX0 yX0_dampnessOf yX0_dampnessOf, .initialized RX0, .code yX0_dampnessOf cX0_dampnessOf 2 (some .int), .fieldLink RX0 13 "GrainSilo" "dampness" "[I", .methodLink RX0 128 yX0_checkLayer, .instanceMethod yX0_checkLayer, .selects RX0 yX0_checkLayer yX0_checkLayer, .code yX0_checkLayer cX0_checkLayer 2 none, .classLink RX0 134 "java/lang/IndexOutOfBoundsException", .initialized "java/lang/IndexOutOfBoundsException", .fieldLink RX0 57 "GrainSilo" "layers" "I"] ++ wsX00 ++ (vx_atS RX0 138 "java/lang/IndexOutOfBoundsException" ["java/lang/RuntimeException", "java/lang/Exception"]).filter goodWord)
def wsL_layersAheadOf : List Cond := .codeWith yL_layersAheadOf cL_layersAheadOf 4 (some .int) [(0, 9, 12, 34)] :: ([.classLink RL 34 "java/lang/IndexOutOfBoundsException", .methodLink RL 57 yX0_layersAheadOf, .instanceMethod yX0_layersAheadOf, .selects RX0 yX0_layersAheadOf yX0_layersAheadOf, .initialized RX0, .code yX0_layersAheadOf cX0_layersAheadOf 3 (some .int), .classLink RX0 134 "java/lang/IndexOutOfBoundsException", .initialized "java/lang/IndexOutOfBoundsException", .fieldLink RX0 57 "GrainSilo" "layers" "I", .fieldLink RX0 9 "GrainSilo" "kinds" "[I", .methodLink RX0 43 yX0_isKind, .static yX0_isKind, .code yX0_isKind cX0_isKind 1 (some .boolean)] ++ wsX00 ++ (vx_atS RX0 138 "java/lang/IndexOutOfBoundsException" ["java/lang/RuntimeException", "java/lang/Exception"]).filter goodWord)
def wsL_leastOf_r1 : List Cond := [Cond.classLink RL 34 "java/lang/IndexOutOfBoundsException", Cond.methodLink RL 60 yX0_leastOf, Cond.instanceMethod yX0_leastOf, Cond.selects RX0 yX0_leastOf yX0_leastOf, Cond.initialized RX0, Cond.code yX0_leastOf cX0_leastOf 2 (some .int), Cond.methodLink RX0 128 yX0_checkLayer, Cond.instanceMethod yX0_checkLayer, Cond.selects RX0 yX0_checkLayer yX0_checkLayer, Cond.code yX0_checkLayer cX0_checkLayer 2 none, Cond.classLink RX0 134 "java/lang/IndexOutOfBoundsException", Cond.initialized "java/lang/IndexOutOfBoundsException", Cond.fieldLink RX0 57 "GrainSilo" "layers" "I", Cond.methodLink RX0 139 yX0_weighSamples, Cond.instanceMethod yX0_weighSamples, Cond.selects RX0 yX0_weighSamples yX0_weighSamples, Cond.code yX0_weighSamples cX0_weighSamples 4 none, Cond.fieldLink RX0 86 "GrainSilo" "samples" "I", Cond.fieldLink RX0 16 "GrainSilo" "lowest" "[I", Cond.fieldLink RX0 19 "GrainSilo" "highest" "[I", Cond.fieldLink RX0 22 "GrainSilo" "sums" "[I", Cond.fieldLink RX0 25 "GrainSilo" "doubts" "[I", Cond.methodLink RX0 199 yX0_weighNothing, Cond.instanceMethod yX0_weighNothing]
def wsL_leastOf_r2 : List Cond := [Cond.selects RX0 yX0_weighNothing yX0_weighNothing, Cond.code yX0_weighNothing cX0_weighNothing 3 none, Cond.fieldLink RX0 36 "GrainSilo" "most" "[[I", Cond.methodLink RX0 202 yX0_heed, Cond.instanceMethod yX0_heed, Cond.selects RX0 yX0_heed yX0_heed, Cond.code yX0_heed cX0_heed 6 none, Cond.methodLink RX0 206 Lib.Math.min.name, Cond.static Lib.Math.min.name, Cond.initialized "java/lang/Math", Cond.code Lib.Math.min.name Lib.Math.min.code 2 (some .int), Cond.methodLink RX0 142 yX0_least, Cond.instanceMethod yX0_least, Cond.selects RX0 yX0_least yX0_least, Cond.code yX0_least cX0_least 3 (some .int)]
def wsL_leastOf : List Cond := .codeWith yL_leastOf cL_leastOf 4 (some .int) [(0, 9, 12, 34)] :: ((wsL_leastOf_r1 ++ wsL_leastOf_r2) ++ wsX00 ++ (vx_atS RX0 138 "java/lang/IndexOutOfBoundsException" ["java/lang/RuntimeException", "java/lang/Exception"]).filter goodWord)
def wsL_greatestOf_r1 : List Cond := [Cond.classLink RL 34 "java/lang/IndexOutOfBoundsException", Cond.methodLink RL 63 yX0_greatestOf, Cond.instanceMethod yX0_greatestOf, Cond.selects RX0 yX0_greatestOf yX0_greatestOf, Cond.initialized RX0, Cond.code yX0_greatestOf cX0_greatestOf 2 (some .int), Cond.methodLink RX0 128 yX0_checkLayer, Cond.instanceMethod yX0_checkLayer, Cond.selects RX0 yX0_checkLayer yX0_checkLayer, Cond.code yX0_checkLayer cX0_checkLayer 2 none, Cond.classLink RX0 134 "java/lang/IndexOutOfBoundsException", Cond.initialized "java/lang/IndexOutOfBoundsException", Cond.fieldLink RX0 57 "GrainSilo" "layers" "I", Cond.methodLink RX0 139 yX0_weighSamples, Cond.instanceMethod yX0_weighSamples, Cond.selects RX0 yX0_weighSamples yX0_weighSamples, Cond.code yX0_weighSamples cX0_weighSamples 4 none, Cond.fieldLink RX0 86 "GrainSilo" "samples" "I", Cond.fieldLink RX0 16 "GrainSilo" "lowest" "[I", Cond.fieldLink RX0 19 "GrainSilo" "highest" "[I", Cond.fieldLink RX0 22 "GrainSilo" "sums" "[I", Cond.fieldLink RX0 25 "GrainSilo" "doubts" "[I", Cond.methodLink RX0 199 yX0_weighNothing, Cond.instanceMethod yX0_weighNothing]
def wsL_greatestOf_r2 : List Cond := [Cond.selects RX0 yX0_weighNothing yX0_weighNothing, Cond.code yX0_weighNothing cX0_weighNothing 3 none, Cond.fieldLink RX0 36 "GrainSilo" "most" "[[I", Cond.methodLink RX0 202 yX0_heed, Cond.instanceMethod yX0_heed, Cond.selects RX0 yX0_heed yX0_heed, Cond.code yX0_heed cX0_heed 6 none, Cond.methodLink RX0 206 Lib.Math.min.name, Cond.static Lib.Math.min.name, Cond.initialized "java/lang/Math", Cond.code Lib.Math.min.name Lib.Math.min.code 2 (some .int), Cond.methodLink RX0 145 yX0_greatest, Cond.instanceMethod yX0_greatest, Cond.selects RX0 yX0_greatest yX0_greatest, Cond.code yX0_greatest cX0_greatest 3 (some .int)]
def wsL_greatestOf : List Cond := .codeWith yL_greatestOf cL_greatestOf 4 (some .int) [(0, 9, 12, 34)] :: ((wsL_greatestOf_r1 ++ wsL_greatestOf_r2) ++ wsX00 ++ (vx_atS RX0 138 "java/lang/IndexOutOfBoundsException" ["java/lang/RuntimeException", "java/lang/Exception"]).filter goodWord)
def wsL_isKnown_r1 : List Cond := [Cond.classLink RL 34 "java/lang/IndexOutOfBoundsException", Cond.methodLink RL 66 yX0_isKnown, Cond.instanceMethod yX0_isKnown, Cond.selects RX0 yX0_isKnown yX0_isKnown, Cond.initialized RX0, Cond.code yX0_isKnown cX0_isKnown 2 (some .boolean), Cond.methodLink RX0 128 yX0_checkLayer, Cond.instanceMethod yX0_checkLayer, Cond.selects RX0 yX0_checkLayer yX0_checkLayer, Cond.code yX0_checkLayer cX0_checkLayer 2 none, Cond.classLink RX0 134 "java/lang/IndexOutOfBoundsException", Cond.initialized "java/lang/IndexOutOfBoundsException", Cond.fieldLink RX0 57 "GrainSilo" "layers" "I", Cond.methodLink RX0 139 yX0_weighSamples, Cond.instanceMethod yX0_weighSamples, Cond.selects RX0 yX0_weighSamples yX0_weighSamples, Cond.code yX0_weighSamples cX0_weighSamples 4 none, Cond.fieldLink RX0 86 "GrainSilo" "samples" "I", Cond.fieldLink RX0 16 "GrainSilo" "lowest" "[I", Cond.fieldLink RX0 19 "GrainSilo" "highest" "[I", Cond.fieldLink RX0 22 "GrainSilo" "sums" "[I", Cond.fieldLink RX0 25 "GrainSilo" "doubts" "[I", Cond.methodLink RX0 199 yX0_weighNothing, Cond.instanceMethod yX0_weighNothing]
def wsL_isKnown_r2 : List Cond := [Cond.selects RX0 yX0_weighNothing yX0_weighNothing, Cond.code yX0_weighNothing cX0_weighNothing 3 none, Cond.fieldLink RX0 36 "GrainSilo" "most" "[[I", Cond.methodLink RX0 202 yX0_heed, Cond.instanceMethod yX0_heed, Cond.selects RX0 yX0_heed yX0_heed, Cond.code yX0_heed cX0_heed 6 none, Cond.methodLink RX0 206 Lib.Math.min.name, Cond.static Lib.Math.min.name, Cond.initialized "java/lang/Math", Cond.code Lib.Math.min.name Lib.Math.min.code 2 (some .int), Cond.methodLink RX0 142 yX0_least, Cond.instanceMethod yX0_least, Cond.selects RX0 yX0_least yX0_least, Cond.code yX0_least cX0_least 3 (some .int), Cond.methodLink RX0 145 yX0_greatest, Cond.instanceMethod yX0_greatest, Cond.selects RX0 yX0_greatest yX0_greatest, Cond.code yX0_greatest cX0_greatest 3 (some .int)]
def wsL_isKnown : List Cond := .codeWith yL_isKnown cL_isKnown 4 (some .int) [(0, 16, 19, 34)] :: ((wsL_isKnown_r1 ++ wsL_isKnown_r2) ++ wsX00 ++ (vx_atS RX0 138 "java/lang/IndexOutOfBoundsException" ["java/lang/RuntimeException", "java/lang/Exception"]).filter goodWord)
def wsL_worstLayer_r1 : List Cond := [Cond.classLink RL 15 "java/lang/IllegalStateException", Cond.methodLink RL 70 yX0_worstLayer, Cond.instanceMethod yX0_worstLayer, Cond.selects RX0 yX0_worstLayer yX0_worstLayer, Cond.initialized RX0, Cond.code yX0_worstLayer cX0_worstLayer 3 (some .int), Cond.fieldLink RX0 57 "GrainSilo" "layers" "I", Cond.methodLink RX0 155 yX0_checkNotEmpty, Cond.instanceMethod yX0_checkNotEmpty, Cond.selects RX0 yX0_checkNotEmpty yX0_checkNotEmpty, Cond.code yX0_checkNotEmpty cX0_checkNotEmpty 1 none, Cond.classLink RX0 60 "java/lang/IllegalStateException", Cond.initialized "java/lang/IllegalStateException", Cond.methodLink RX0 139 yX0_weighSamples, Cond.instanceMethod yX0_weighSamples, Cond.selects RX0 yX0_weighSamples yX0_weighSamples, Cond.code yX0_weighSamples cX0_weighSamples 4 none, Cond.fieldLink RX0 86 "GrainSilo" "samples" "I", Cond.fieldLink RX0 16 "GrainSilo" "lowest" "[I", Cond.fieldLink RX0 19 "GrainSilo" "highest" "[I", Cond.fieldLink RX0 22 "GrainSilo" "sums" "[I", Cond.fieldLink RX0 25 "GrainSilo" "doubts" "[I", Cond.methodLink RX0 199 yX0_weighNothing, Cond.instanceMethod yX0_weighNothing]
def wsL_worstLayer_r2 : List Cond := [Cond.selects RX0 yX0_weighNothing yX0_weighNothing, Cond.code yX0_weighNothing cX0_weighNothing 3 none, Cond.fieldLink RX0 36 "GrainSilo" "most" "[[I", Cond.methodLink RX0 202 yX0_heed, Cond.instanceMethod yX0_heed, Cond.selects RX0 yX0_heed yX0_heed, Cond.code yX0_heed cX0_heed 6 none, Cond.methodLink RX0 206 Lib.Math.min.name, Cond.static Lib.Math.min.name, Cond.initialized "java/lang/Math", Cond.code Lib.Math.min.name Lib.Math.min.code 2 (some .int), Cond.methodLink RX0 145 yX0_greatest, Cond.instanceMethod yX0_greatest, Cond.selects RX0 yX0_greatest yX0_greatest, Cond.code yX0_greatest cX0_greatest 3 (some .int)]
def wsL_worstLayer : List Cond := .codeWith yL_worstLayer cL_worstLayer 3 (some .int) [(0, 8, 11, 15)] :: ((wsL_worstLayer_r1 ++ wsL_worstLayer_r2) ++ wsX00 ++ (vx_atS RX0 64 "java/lang/IllegalStateException" ["java/lang/RuntimeException", "java/lang/Exception"]).filter goodWord)
def wsL_leastSum_r1 : List Cond := [Cond.classLink RL 34 "java/lang/IndexOutOfBoundsException", Cond.methodLink RL 73 yX0_leastSum, Cond.instanceMethod yX0_leastSum, Cond.selects RX0 yX0_leastSum yX0_leastSum, Cond.initialized RX0, Cond.code yX0_leastSum cX0_leastSum 3 (some .int), Cond.methodLink RX0 107 yX0_checkLayers, Cond.instanceMethod yX0_checkLayers, Cond.selects RX0 yX0_checkLayers yX0_checkLayers, Cond.code yX0_checkLayers cX0_checkLayers 3 none, Cond.classLink RX0 134 "java/lang/IndexOutOfBoundsException", Cond.initialized "java/lang/IndexOutOfBoundsException", Cond.fieldLink RX0 57 "GrainSilo" "layers" "I", Cond.methodLink RX0 139 yX0_weighSamples, Cond.instanceMethod yX0_weighSamples, Cond.selects RX0 yX0_weighSamples yX0_weighSamples, Cond.code yX0_weighSamples cX0_weighSamples 4 none, Cond.fieldLink RX0 86 "GrainSilo" "samples" "I", Cond.fieldLink RX0 16 "GrainSilo" "lowest" "[I", Cond.fieldLink RX0 19 "GrainSilo" "highest" "[I", Cond.fieldLink RX0 22 "GrainSilo" "sums" "[I", Cond.fieldLink RX0 25 "GrainSilo" "doubts" "[I", Cond.methodLink RX0 199 yX0_weighNothing, Cond.instanceMethod yX0_weighNothing]
def wsL_leastSum_r2 : List Cond := [Cond.selects RX0 yX0_weighNothing yX0_weighNothing, Cond.code yX0_weighNothing cX0_weighNothing 3 none, Cond.fieldLink RX0 36 "GrainSilo" "most" "[[I", Cond.methodLink RX0 202 yX0_heed, Cond.instanceMethod yX0_heed, Cond.selects RX0 yX0_heed yX0_heed, Cond.code yX0_heed cX0_heed 6 none, Cond.methodLink RX0 206 Lib.Math.min.name, Cond.static Lib.Math.min.name, Cond.initialized "java/lang/Math", Cond.code Lib.Math.min.name Lib.Math.min.code 2 (some .int), Cond.methodLink RX0 142 yX0_least, Cond.instanceMethod yX0_least, Cond.selects RX0 yX0_least yX0_least, Cond.code yX0_least cX0_least 3 (some .int)]
def wsL_leastSum : List Cond := .codeWith yL_leastSum cL_leastSum 5 (some .int) [(0, 10, 13, 34)] :: ((wsL_leastSum_r1 ++ wsL_leastSum_r2) ++ wsX00 ++ (vx_atS RX0 138 "java/lang/IndexOutOfBoundsException" ["java/lang/RuntimeException", "java/lang/Exception"]).filter goodWord)
def wsL_greatestSum_r1 : List Cond := [Cond.classLink RL 34 "java/lang/IndexOutOfBoundsException", Cond.methodLink RL 76 yX0_greatestSum, Cond.instanceMethod yX0_greatestSum, Cond.selects RX0 yX0_greatestSum yX0_greatestSum, Cond.initialized RX0, Cond.code yX0_greatestSum cX0_greatestSum 3 (some .int), Cond.methodLink RX0 107 yX0_checkLayers, Cond.instanceMethod yX0_checkLayers, Cond.selects RX0 yX0_checkLayers yX0_checkLayers, Cond.code yX0_checkLayers cX0_checkLayers 3 none, Cond.classLink RX0 134 "java/lang/IndexOutOfBoundsException", Cond.initialized "java/lang/IndexOutOfBoundsException", Cond.fieldLink RX0 57 "GrainSilo" "layers" "I", Cond.methodLink RX0 139 yX0_weighSamples, Cond.instanceMethod yX0_weighSamples, Cond.selects RX0 yX0_weighSamples yX0_weighSamples, Cond.code yX0_weighSamples cX0_weighSamples 4 none, Cond.fieldLink RX0 86 "GrainSilo" "samples" "I", Cond.fieldLink RX0 16 "GrainSilo" "lowest" "[I", Cond.fieldLink RX0 19 "GrainSilo" "highest" "[I", Cond.fieldLink RX0 22 "GrainSilo" "sums" "[I", Cond.fieldLink RX0 25 "GrainSilo" "doubts" "[I", Cond.methodLink RX0 199 yX0_weighNothing, Cond.instanceMethod yX0_weighNothing]
def wsL_greatestSum_r2 : List Cond := [Cond.selects RX0 yX0_weighNothing yX0_weighNothing, Cond.code yX0_weighNothing cX0_weighNothing 3 none, Cond.fieldLink RX0 36 "GrainSilo" "most" "[[I", Cond.methodLink RX0 202 yX0_heed, Cond.instanceMethod yX0_heed, Cond.selects RX0 yX0_heed yX0_heed, Cond.code yX0_heed cX0_heed 6 none, Cond.methodLink RX0 206 Lib.Math.min.name, Cond.static Lib.Math.min.name, Cond.initialized "java/lang/Math", Cond.code Lib.Math.min.name Lib.Math.min.code 2 (some .int), Cond.methodLink RX0 145 yX0_greatest, Cond.instanceMethod yX0_greatest, Cond.selects RX0 yX0_greatest yX0_greatest, Cond.code yX0_greatest cX0_greatest 3 (some .int)]
def wsL_greatestSum : List Cond := .codeWith yL_greatestSum cL_greatestSum 5 (some .int) [(0, 10, 13, 34)] :: ((wsL_greatestSum_r1 ++ wsL_greatestSum_r2) ++ wsX00 ++ (vx_atS RX0 138 "java/lang/IndexOutOfBoundsException" ["java/lang/RuntimeException", "java/lang/Exception"]).filter goodWord)
def wsL_doubtBehind_r1 : List Cond := [Cond.classLink RL 34 "java/lang/IndexOutOfBoundsException", Cond.methodLink RL 79 yX0_doubtBehind, Cond.instanceMethod yX0_doubtBehind, Cond.selects RX0 yX0_doubtBehind yX0_doubtBehind, Cond.initialized RX0, Cond.code yX0_doubtBehind cX0_doubtBehind 3 (some .int), Cond.methodLink RX0 107 yX0_checkLayers, Cond.instanceMethod yX0_checkLayers, Cond.selects RX0 yX0_checkLayers yX0_checkLayers, Cond.code yX0_checkLayers cX0_checkLayers 3 none, Cond.classLink RX0 134 "java/lang/IndexOutOfBoundsException", Cond.initialized "java/lang/IndexOutOfBoundsException", Cond.fieldLink RX0 57 "GrainSilo" "layers" "I", Cond.methodLink RX0 139 yX0_weighSamples, Cond.instanceMethod yX0_weighSamples, Cond.selects RX0 yX0_weighSamples yX0_weighSamples, Cond.code yX0_weighSamples cX0_weighSamples 4 none, Cond.fieldLink RX0 86 "GrainSilo" "samples" "I", Cond.fieldLink RX0 16 "GrainSilo" "lowest" "[I", Cond.fieldLink RX0 19 "GrainSilo" "highest" "[I", Cond.fieldLink RX0 22 "GrainSilo" "sums" "[I", Cond.fieldLink RX0 25 "GrainSilo" "doubts" "[I", Cond.methodLink RX0 199 yX0_weighNothing, Cond.instanceMethod yX0_weighNothing]
def wsL_doubtBehind_r2 : List Cond := [Cond.selects RX0 yX0_weighNothing yX0_weighNothing, Cond.code yX0_weighNothing cX0_weighNothing 3 none, Cond.fieldLink RX0 36 "GrainSilo" "most" "[[I", Cond.methodLink RX0 202 yX0_heed, Cond.instanceMethod yX0_heed, Cond.selects RX0 yX0_heed yX0_heed, Cond.code yX0_heed cX0_heed 6 none, Cond.methodLink RX0 206 Lib.Math.min.name, Cond.static Lib.Math.min.name, Cond.initialized "java/lang/Math", Cond.code Lib.Math.min.name Lib.Math.min.code 2 (some .int), Cond.methodLink RX0 161 yX0_doubtIfDrawn, Cond.instanceMethod yX0_doubtIfDrawn, Cond.selects RX0 yX0_doubtIfDrawn yX0_doubtIfDrawn, Cond.code yX0_doubtIfDrawn cX0_doubtIfDrawn 6 (some .int), Cond.methodLink RX0 113 yX0_sumNow, Cond.instanceMethod yX0_sumNow, Cond.selects RX0 yX0_sumNow yX0_sumNow, Cond.code yX0_sumNow cX0_sumNow 5 (some .int), Cond.fieldLink RX0 13 "GrainSilo" "dampness" "[I", Cond.methodLink RX0 211 yX0_mostIfTold, Cond.instanceMethod yX0_mostIfTold, Cond.selects RX0 yX0_mostIfTold yX0_mostIfTold, Cond.code yX0_mostIfTold cX0_mostIfTold 8 (some .int)]
def wsL_doubtBehind : List Cond := .codeWith yL_doubtBehind cL_doubtBehind 5 (some .int) [(0, 10, 13, 34)] :: ((wsL_doubtBehind_r1 ++ wsL_doubtBehind_r2) ++ wsX00 ++ (vx_atS RX0 138 "java/lang/IndexOutOfBoundsException" ["java/lang/RuntimeException", "java/lang/Exception"]).filter goodWord)
def wsL_bestToLookAt_r1 : List Cond := [Cond.classLink RL 15 "java/lang/IllegalStateException", Cond.methodLink RL 82 yX0_bestToLookAt, Cond.instanceMethod yX0_bestToLookAt, Cond.selects RX0 yX0_bestToLookAt yX0_bestToLookAt, Cond.initialized RX0, Cond.code yX0_bestToLookAt cX0_bestToLookAt 5 (some .int), Cond.fieldLink RX0 57 "GrainSilo" "layers" "I", Cond.methodLink RX0 155 yX0_checkNotEmpty, Cond.instanceMethod yX0_checkNotEmpty, Cond.selects RX0 yX0_checkNotEmpty yX0_checkNotEmpty, Cond.code yX0_checkNotEmpty cX0_checkNotEmpty 1 none, Cond.classLink RX0 60 "java/lang/IllegalStateException", Cond.initialized "java/lang/IllegalStateException", Cond.methodLink RX0 139 yX0_weighSamples, Cond.instanceMethod yX0_weighSamples, Cond.selects RX0 yX0_weighSamples yX0_weighSamples, Cond.code yX0_weighSamples cX0_weighSamples 4 none, Cond.fieldLink RX0 86 "GrainSilo" "samples" "I", Cond.fieldLink RX0 16 "GrainSilo" "lowest" "[I", Cond.fieldLink RX0 19 "GrainSilo" "highest" "[I", Cond.fieldLink RX0 22 "GrainSilo" "sums" "[I", Cond.fieldLink RX0 25 "GrainSilo" "doubts" "[I", Cond.methodLink RX0 199 yX0_weighNothing, Cond.instanceMethod yX0_weighNothing]
def wsL_bestToLookAt_r2 : List Cond := [Cond.selects RX0 yX0_weighNothing yX0_weighNothing, Cond.code yX0_weighNothing cX0_weighNothing 3 none, Cond.fieldLink RX0 36 "GrainSilo" "most" "[[I", Cond.methodLink RX0 202 yX0_heed, Cond.instanceMethod yX0_heed, Cond.selects RX0 yX0_heed yX0_heed, Cond.code yX0_heed cX0_heed 6 none, Cond.methodLink RX0 206 Lib.Math.min.name, Cond.static Lib.Math.min.name, Cond.initialized "java/lang/Math", Cond.code Lib.Math.min.name Lib.Math.min.code 2 (some .int), Cond.methodLink RX0 161 yX0_doubtIfDrawn, Cond.instanceMethod yX0_doubtIfDrawn, Cond.selects RX0 yX0_doubtIfDrawn yX0_doubtIfDrawn, Cond.code yX0_doubtIfDrawn cX0_doubtIfDrawn 6 (some .int), Cond.methodLink RX0 113 yX0_sumNow, Cond.instanceMethod yX0_sumNow, Cond.selects RX0 yX0_sumNow yX0_sumNow, Cond.code yX0_sumNow cX0_sumNow 5 (some .int), Cond.fieldLink RX0 13 "GrainSilo" "dampness" "[I", Cond.methodLink RX0 211 yX0_mostIfTold, Cond.instanceMethod yX0_mostIfTold, Cond.selects RX0 yX0_mostIfTold yX0_mostIfTold, Cond.code yX0_mostIfTold cX0_mostIfTold 8 (some .int)]
def wsL_bestToLookAt : List Cond := .codeWith yL_bestToLookAt cL_bestToLookAt 3 (some .int) [(0, 8, 11, 15)] :: ((wsL_bestToLookAt_r1 ++ wsL_bestToLookAt_r2) ++ wsX00 ++ (vx_atS RX0 64 "java/lang/IllegalStateException" ["java/lang/RuntimeException", "java/lang/Exception"]).filter goodWord)
def wsL_dampnessIn_r1 : List Cond := [Cond.classLink RL 34 "java/lang/IndexOutOfBoundsException", Cond.classLink RL 13 "java/lang/IllegalArgumentException", Cond.methodLink RL 85 yX0_dampnessIn, Cond.instanceMethod yX0_dampnessIn, Cond.selects RX0 yX0_dampnessIn yX0_dampnessIn, Cond.initialized RX0, Cond.code yX0_dampnessIn cX0_dampnessIn 3 (some .int), Cond.fieldLink RX0 31 "GrainSilo" "ahead" "[I", Cond.methodLink RX0 128 yX0_checkLayer, Cond.instanceMethod yX0_checkLayer, Cond.selects RX0 yX0_checkLayer yX0_checkLayer, Cond.code yX0_checkLayer cX0_checkLayer 2 none, Cond.classLink RX0 134 "java/lang/IndexOutOfBoundsException", Cond.initialized "java/lang/IndexOutOfBoundsException", Cond.fieldLink RX0 57 "GrainSilo" "layers" "I", Cond.methodLink RX0 94 yX0_checkDays, Cond.static yX0_checkDays, Cond.code yX0_checkDays cX0_checkDays 1 none, Cond.classLink RX0 50 "java/lang/IllegalArgumentException", Cond.initialized "java/lang/IllegalArgumentException", Cond.methodLink RX0 164 yX0_copyDampnessAhead, Cond.instanceMethod yX0_copyDampnessAhead, Cond.selects RX0 yX0_copyDampnessAhead yX0_copyDampnessAhead, Cond.code yX0_copyDampnessAhead cX0_copyDampnessAhead 2 none]
def wsL_dampnessIn_r2 : List Cond := [Cond.fieldLink RX0 13 "GrainSilo" "dampness" "[I", Cond.methodLink RX0 97 yX0_letDaysGoBy, Cond.instanceMethod yX0_letDaysGoBy, Cond.selects RX0 yX0_letDaysGoBy yX0_letDaysGoBy, Cond.code yX0_letDaysGoBy cX0_letDaysGoBy 5 (some .int), Cond.methodLink RX0 167 yX0_letDayGoBy, Cond.instanceMethod yX0_letDayGoBy, Cond.selects RX0 yX0_letDayGoBy yX0_letDayGoBy, Cond.code yX0_letDayGoBy cX0_letDayGoBy 4 (some .int), Cond.fieldLink RX0 28 "GrainSilo" "turns" "[I", Cond.methodLink RX0 192 yX0_turnOf, Cond.instanceMethod yX0_turnOf, Cond.selects RX0 yX0_turnOf yX0_turnOf, Cond.code yX0_turnOf cX0_turnOf 4 (some .int), Cond.methodLink RX0 195 yX0_pullOf, Cond.instanceMethod yX0_pullOf, Cond.selects RX0 yX0_pullOf yX0_pullOf, Cond.code yX0_pullOf cX0_pullOf 5 (some .int)]
def wsL_dampnessIn : List Cond := .codeWith yL_dampnessIn cL_dampnessIn 5 (some .int) [(0, 10, 13, 34), (0, 10, 17, 13)] :: ((wsL_dampnessIn_r1 ++ wsL_dampnessIn_r2) ++ wsX00 ++ (vx_atS RX0 138 "java/lang/IndexOutOfBoundsException" ["java/lang/RuntimeException", "java/lang/Exception"]).filter goodWord ++ (vx_atS RX0 54 "java/lang/IllegalArgumentException" ["java/lang/RuntimeException", "java/lang/Exception"]).filter goodWord)
def wsL_law0_r1 : List Cond := [Cond.classLink RL 8 RX0, Cond.instantiable RX0 15, Cond.initialized RX0, Cond.classLink RL 89 RX1, Cond.instantiable RX1 16, Cond.initialized RX1, Cond.arrayClass .long, Cond.methodLink RL 88 yX0_init, Cond.instanceMethod yX0_init, Cond.code yX0_init cX0_init 1 none, Cond.methodLink RX0 1 objectInit, Cond.instanceMethod objectInit, Cond.code objectInit ⟨#[0xb1]⟩ 1 none, Cond.arrayClass .int, Cond.fieldLink RX0 9 "GrainSilo" "kinds" "[I", Cond.fieldLink RX0 13 "GrainSilo" "dampness" "[I", Cond.fieldLink RX0 16 "GrainSilo" "lowest" "[I", Cond.fieldLink RX0 19 "GrainSilo" "highest" "[I", Cond.fieldLink RX0 22 "GrainSilo" "sums" "[I", Cond.fieldLink RX0 25 "GrainSilo" "doubts" "[I", Cond.fieldLink RX0 28 "GrainSilo" "turns" "[I", Cond.fieldLink RX0 31 "GrainSilo" "ahead" "[I", Cond.classLink RX0 34 "[[I", Cond.fieldLink RX0 36 "GrainSilo" "most" "[[I"]
def wsL_law0_r2 : List Cond := [Cond.fieldLink RX0 39 "GrainSilo" "limit" "I", Cond.methodLink RL 91 yX1_init, Cond.instanceMethod yX1_init, Cond.code yX1_init cX1_init 1 none, Cond.methodLink RX1 3 objectInit, Cond.fieldLink RX1 9 "GrainSiloModel" "kind" "[I", Cond.fieldLink RX1 13 "GrainSiloModel" "damp" "[I", Cond.fieldLink RX1 16 "GrainSiloModel" "low" "[I", Cond.fieldLink RX1 19 "GrainSiloModel" "high" "[I", Cond.fieldLink RX1 22 "GrainSiloModel" "sum" "[I", Cond.fieldLink RX1 25 "GrainSiloModel" "doubt" "[I", Cond.fieldLink RX1 28 "GrainSiloModel" "limit" "I", Cond.fieldLink RX1 32 "GrainSiloModel" "most" "[I", Cond.fieldLink RX1 35 "GrainSiloModel" "kept" "[I", Cond.fieldLink RX1 38 "GrainSiloModel" "step" "[I", Cond.methodLink RL 92 yL_fill, Cond.static yL_fill, Cond.initialized RL, Cond.codeWith yL_fill cL_fill 5 (some .int) [(0, 10, 13, 13), (0, 10, 17, 15)], Cond.classLink RL 13 "java/lang/IllegalArgumentException", Cond.classLink RL 15 "java/lang/IllegalStateException", Cond.methodLink RL 7 yX0_fill, Cond.instanceMethod yX0_fill, Cond.selects RX0 yX0_fill yX0_fill]
def wsL_law0_r3 : List Cond := [Cond.code yX0_fill cX0_fill 3 (some .int), Cond.classLink RX0 50 "java/lang/IllegalArgumentException", Cond.initialized "java/lang/IllegalArgumentException", Cond.classLink RX0 60 "java/lang/IllegalStateException", Cond.initialized "java/lang/IllegalStateException", Cond.fieldLink RX0 57 "GrainSilo" "layers" "I", Cond.methodLink RX0 43 yX0_isKind, Cond.static yX0_isKind, Cond.code yX0_isKind cX0_isKind 1 (some .boolean), Cond.methodLink RX0 47 yX0_isDampness, Cond.static yX0_isDampness, Cond.code yX0_isDampness cX0_isDampness 1 (some .boolean), Cond.methodLink RX0 65 yX0_putOnTop, Cond.instanceMethod yX0_putOnTop, Cond.selects RX0 yX0_putOnTop yX0_putOnTop, Cond.code yX0_putOnTop cX0_putOnTop 4 (some .int), Cond.methodLink RL 97 yX1_fill, Cond.instanceMethod yX1_fill, Cond.selects RX1 yX1_fill yX1_fill, Cond.code yX1_fill cX1_fill 3 (some .int), Cond.fieldLink RX1 41 "GrainSiloModel" "thrown" "I", Cond.fieldLink RX1 44 "GrainSiloModel" "layers" "I", Cond.methodLink RX1 47 yX1_isIn, Cond.static yX1_isIn]
def wsL_law0_r4 : List Cond := [Cond.code yX1_isIn cX1_isIn 3 (some .boolean), Cond.methodLink RX1 92 yX1_no, Cond.instanceMethod yX1_no, Cond.selects RX1 yX1_no yX1_no, Cond.code yX1_no cX1_no 2 (some .int), Cond.methodLink RL 98 yX1_thrown, Cond.instanceMethod yX1_thrown, Cond.selects RX1 yX1_thrown yX1_thrown, Cond.code yX1_thrown cX1_thrown 1 (some .int), Cond.methodLink RL 101 yL_letOut, Cond.static yL_letOut, Cond.codeWith yL_letOut cL_letOut 3 (some .int) [(0, 8, 11, 15)], Cond.methodLink RL 17 yX0_letOut, Cond.instanceMethod yX0_letOut, Cond.selects RX0 yX0_letOut yX0_letOut, Cond.code yX0_letOut cX0_letOut 2 (some .int), Cond.methodLink RX0 71 yX0_countOut, Cond.instanceMethod yX0_countOut, Cond.selects RX0 yX0_countOut yX0_countOut, Cond.code yX0_countOut cX0_countOut 2 none, Cond.fieldLink RX0 125 "GrainSilo" "spoilt" "I", Cond.fieldLink RX0 122 "GrainSilo" "sold" "I", Cond.methodLink RX0 131 yX0_isDamp, Cond.instanceMethod yX0_isDamp]
def wsL_law0_r5 : List Cond := [Cond.selects RX0 yX0_isDamp yX0_isDamp, Cond.code yX0_isDamp cX0_isDamp 2 (some .boolean), Cond.methodLink RX0 75 yX0_lowerLayers, Cond.instanceMethod yX0_lowerLayers, Cond.selects RX0 yX0_lowerLayers yX0_lowerLayers, Cond.code yX0_lowerLayers cX0_lowerLayers 2 none, Cond.methodLink RX0 78 yX0_cutLowestOffSamples, Cond.instanceMethod yX0_cutLowestOffSamples, Cond.selects RX0 yX0_cutLowestOffSamples yX0_cutLowestOffSamples, Cond.code yX0_cutLowestOffSamples cX0_cutLowestOffSamples 3 none, Cond.fieldLink RX0 86 "GrainSilo" "samples" "I", Cond.methodLink RX0 89 yX0_dropSamplesOfLowest, Cond.instanceMethod yX0_dropSamplesOfLowest, Cond.selects RX0 yX0_dropSamplesOfLowest yX0_dropSamplesOfLowest, Cond.code yX0_dropSamplesOfLowest cX0_dropSamplesOfLowest 3 none, Cond.methodLink RX0 119 yX0_moveSample, Cond.instanceMethod yX0_moveSample, Cond.selects RX0 yX0_moveSample yX0_moveSample, Cond.code yX0_moveSample cX0_moveSample 3 none, Cond.methodLink RX0 81 yX0_lowerSamples, Cond.instanceMethod yX0_lowerSamples, Cond.selects RX0 yX0_lowerSamples yX0_lowerSamples, Cond.code yX0_lowerSamples cX0_lowerSamples 2 none, Cond.methodLink RL 104 yX1_letOut]
def wsL_law0_r6 : List Cond := [Cond.instanceMethod yX1_letOut, Cond.selects RX1 yX1_letOut yX1_letOut, Cond.code yX1_letOut cX1_letOut 1 (some .int), Cond.methodLink RX1 109 yX1_out, Cond.instanceMethod yX1_out, Cond.selects RX1 yX1_out yX1_out, Cond.code yX1_out cX1_out 3 (some .int), Cond.fieldLink RX1 96 "GrainSiloModel" "spoilt" "I", Cond.fieldLink RX1 99 "GrainSiloModel" "sold" "I", Cond.fieldLink RX1 55 "GrainSiloModel" "samples" "I", Cond.methodLink RX1 102 yX1_drop, Cond.instanceMethod yX1_drop, Cond.selects RX1 yX1_drop yX1_drop, Cond.code yX1_drop cX1_drop 3 none, Cond.methodLink RX1 106 yX1_sink, Cond.instanceMethod yX1_sink, Cond.selects RX1 yX1_sink yX1_sink, Cond.code yX1_sink cX1_sink 2 none, Cond.methodLink RL 105 yL_turnOver, Cond.static yL_turnOver, Cond.codeWith yL_turnOver cL_turnOver 3 (some .int) [(0, 8, 11, 15)], Cond.methodLink RL 21 yX0_turnOver, Cond.instanceMethod yX0_turnOver, Cond.selects RX0 yX0_turnOver yX0_turnOver]
def wsL_law0_r7 : List Cond := [Cond.code yX0_turnOver cX0_turnOver 4 (some .int), Cond.methodLink RL 107 yX1_turnOver, Cond.instanceMethod yX1_turnOver, Cond.selects RX1 yX1_turnOver yX1_turnOver, Cond.code yX1_turnOver cX1_turnOver 5 (some .int), Cond.methodLink RL 108 yL_setLimit, Cond.static yL_setLimit, Cond.codeWith yL_setLimit cL_setLimit 4 (some .int) [(0, 9, 12, 13)], Cond.methodLink RL 24 yX0_setLimit, Cond.instanceMethod yX0_setLimit, Cond.selects RX0 yX0_setLimit yX0_setLimit, Cond.code yX0_setLimit cX0_setLimit 3 (some .int), Cond.methodLink RL 111 yX1_setLimit, Cond.instanceMethod yX1_setLimit, Cond.selects RX1 yX1_setLimit yX1_setLimit, Cond.code yX1_setLimit cX1_setLimit 3 (some .int), Cond.methodLink RL 112 yL_pass, Cond.static yL_pass, Cond.codeWith yL_pass cL_pass 4 (some .int) [(0, 9, 12, 13)], Cond.methodLink RL 28 yX0_pass, Cond.instanceMethod yX0_pass, Cond.selects RX0 yX0_pass yX0_pass, Cond.code yX0_pass cX0_pass 3 (some .int), Cond.fieldLink RX0 104 "GrainSilo" "day" "I"]
def wsL_law0_r8 : List Cond := [Cond.methodLink RX0 94 yX0_checkDays, Cond.static yX0_checkDays, Cond.code yX0_checkDays cX0_checkDays 1 none, Cond.methodLink RX0 97 yX0_letDaysGoBy, Cond.instanceMethod yX0_letDaysGoBy, Cond.selects RX0 yX0_letDaysGoBy yX0_letDaysGoBy, Cond.code yX0_letDaysGoBy cX0_letDaysGoBy 5 (some .int), Cond.methodLink RX0 167 yX0_letDayGoBy, Cond.instanceMethod yX0_letDayGoBy, Cond.selects RX0 yX0_letDayGoBy yX0_letDayGoBy, Cond.code yX0_letDayGoBy cX0_letDayGoBy 4 (some .int), Cond.methodLink RX0 192 yX0_turnOf, Cond.instanceMethod yX0_turnOf, Cond.selects RX0 yX0_turnOf yX0_turnOf, Cond.code yX0_turnOf cX0_turnOf 4 (some .int), Cond.methodLink RX0 195 yX0_pullOf, Cond.instanceMethod yX0_pullOf, Cond.selects RX0 yX0_pullOf yX0_pullOf, Cond.code yX0_pullOf cX0_pullOf 5 (some .int), Cond.methodLink RX0 101 yX0_addDoubt, Cond.instanceMethod yX0_addDoubt, Cond.selects RX0 yX0_addDoubt yX0_addDoubt, Cond.code yX0_addDoubt cX0_addDoubt 3 none, Cond.methodLink RL 114 yX1_pass]
def wsL_law0_r9 : List Cond := [Cond.instanceMethod yX1_pass, Cond.selects RX1 yX1_pass yX1_pass, Cond.code yX1_pass cX1_pass 4 (some .int), Cond.fieldLink RX1 123 "GrainSiloModel" "day" "I", Cond.methodLink RX1 120 yX1_evenOut, Cond.instanceMethod yX1_evenOut, Cond.selects RX1 yX1_evenOut yX1_evenOut, Cond.code yX1_evenOut cX1_evenOut 3 (some .int), Cond.methodLink RX1 112 yX1_towards, Cond.instanceMethod yX1_towards, Cond.selects RX1 yX1_towards yX1_towards, Cond.code yX1_towards cX1_towards 4 (some .int), Cond.methodLink RX1 51 yX1_isLayer, Cond.instanceMethod yX1_isLayer, Cond.selects RX1 yX1_isLayer yX1_isLayer, Cond.code yX1_isLayer cX1_isLayer 2 (some .boolean), Cond.methodLink RX1 115 yJ6_signum_0f7a4, Cond.static yJ6_signum_0f7a4, Cond.initialized RJ6, Cond.code yJ6_signum_0f7a4 cJ6_signum_0f7a4 1 (some .int), Cond.methodLink RL 115 yL_draw, Cond.static yL_draw, Cond.codeWith yL_draw cL_draw 5 (some .int) [(0, 10, 13, 34), (0, 10, 17, 15)], Cond.classLink RL 34 "java/lang/IndexOutOfBoundsException"]
def wsL_law0_r10 : List Cond := [Cond.methodLink RL 31 yX0_draw, Cond.instanceMethod yX0_draw, Cond.selects RX0 yX0_draw yX0_draw, Cond.code yX0_draw cX0_draw 4 (some .int), Cond.methodLink RX0 107 yX0_checkLayers, Cond.instanceMethod yX0_checkLayers, Cond.selects RX0 yX0_checkLayers yX0_checkLayers, Cond.code yX0_checkLayers cX0_checkLayers 3 none, Cond.classLink RX0 134 "java/lang/IndexOutOfBoundsException", Cond.initialized "java/lang/IndexOutOfBoundsException", Cond.methodLink RX0 113 yX0_sumNow, Cond.instanceMethod yX0_sumNow, Cond.selects RX0 yX0_sumNow yX0_sumNow, Cond.code yX0_sumNow cX0_sumNow 5 (some .int), Cond.methodLink RL 117 yX1_draw, Cond.instanceMethod yX1_draw, Cond.selects RX1 yX1_draw yX1_draw, Cond.code yX1_draw cX1_draw 3 (some .int), Cond.methodLink RX1 126 yX1_areLayers, Cond.instanceMethod yX1_areLayers, Cond.selects RX1 yX1_areLayers yX1_areLayers, Cond.code yX1_areLayers cX1_areLayers 3 (some .boolean), Cond.methodLink RX1 85 yX1_added, Cond.instanceMethod yX1_added]
def wsL_law0_r11 : List Cond := [Cond.selects RX1 yX1_added yX1_added, Cond.code yX1_added cX1_added 5 (some .int), Cond.methodLink RL 118 yL_throwAway, Cond.static yL_throwAway, Cond.codeWith yL_throwAway cL_throwAway 4 (some .int) [(0, 9, 12, 34)], Cond.methodLink RL 36 yX0_throwAway, Cond.instanceMethod yX0_throwAway, Cond.selects RX0 yX0_throwAway yX0_throwAway, Cond.code yX0_throwAway cX0_throwAway 3 (some .int), Cond.methodLink RX0 116 yX0_checkSample, Cond.instanceMethod yX0_checkSample, Cond.selects RX0 yX0_checkSample yX0_checkSample, Cond.code yX0_checkSample cX0_checkSample 2 none, Cond.methodLink RL 120 yX1_throwAway, Cond.instanceMethod yX1_throwAway, Cond.selects RX1 yX1_throwAway yX1_throwAway, Cond.code yX1_throwAway cX1_throwAway 2 (some .int), Cond.methodLink RX1 130 yX1_isSample, Cond.instanceMethod yX1_isSample, Cond.selects RX1 yX1_isSample yX1_isSample, Cond.code yX1_isSample cX1_isSample 2 (some .boolean), Cond.methodLink RL 121 yX0_samples, Cond.instanceMethod yX0_samples, Cond.selects RX0 yX0_samples yX0_samples]
def wsL_law0_r12 : List Cond := [Cond.code yX0_samples cX0_samples 1 (some .int), Cond.methodLink RL 124 yX1_samples, Cond.instanceMethod yX1_samples, Cond.selects RX1 yX1_samples yX1_samples, Cond.code yX1_samples cX1_samples 1 (some .int), Cond.methodLink RX1 133 yX1_ok, Cond.instanceMethod yX1_ok, Cond.selects RX1 yX1_ok yX1_ok, Cond.code yX1_ok cX1_ok 2 (some .int), Cond.methodLink RL 125 yL_lowestOf, Cond.static yL_lowestOf, Cond.codeWith yL_lowestOf cL_lowestOf 4 (some .int) [(0, 9, 12, 34)], Cond.methodLink RL 39 yX0_lowestOf, Cond.instanceMethod yX0_lowestOf, Cond.selects RX0 yX0_lowestOf yX0_lowestOf, Cond.code yX0_lowestOf cX0_lowestOf 2 (some .int), Cond.methodLink RL 127 yX1_lowestOf, Cond.instanceMethod yX1_lowestOf, Cond.selects RX1 yX1_lowestOf yX1_lowestOf, Cond.code yX1_lowestOf cX1_lowestOf 2 (some .int), Cond.methodLink RX1 136 yX1_ofSample, Cond.instanceMethod yX1_ofSample, Cond.selects RX1 yX1_ofSample yX1_ofSample, Cond.code yX1_ofSample cX1_ofSample 3 (some .int)]
def wsL_law0_r13 : List Cond := [Cond.methodLink RL 128 yL_highestOf, Cond.static yL_highestOf, Cond.codeWith yL_highestOf cL_highestOf 4 (some .int) [(0, 9, 12, 34)], Cond.methodLink RL 42 yX0_highestOf, Cond.instanceMethod yX0_highestOf, Cond.selects RX0 yX0_highestOf yX0_highestOf, Cond.code yX0_highestOf cX0_highestOf 2 (some .int), Cond.methodLink RL 130 yX1_highestOf, Cond.instanceMethod yX1_highestOf, Cond.selects RX1 yX1_highestOf yX1_highestOf, Cond.code yX1_highestOf cX1_highestOf 2 (some .int), Cond.methodLink RL 131 yL_sumOf, Cond.static yL_sumOf, Cond.codeWith yL_sumOf cL_sumOf 4 (some .int) [(0, 9, 12, 34)], Cond.methodLink RL 45 yX0_sumOf, Cond.instanceMethod yX0_sumOf, Cond.selects RX0 yX0_sumOf yX0_sumOf, Cond.code yX0_sumOf cX0_sumOf 2 (some .int), Cond.methodLink RL 133 yX1_sumOf, Cond.instanceMethod yX1_sumOf, Cond.selects RX1 yX1_sumOf yX1_sumOf, Cond.code yX1_sumOf cX1_sumOf 2 (some .int), Cond.methodLink RL 134 yL_doubtOf, Cond.static yL_doubtOf]
def wsL_law0_r14 : List Cond := [Cond.codeWith yL_doubtOf cL_doubtOf 4 (some .int) [(0, 9, 12, 34)], Cond.methodLink RL 48 yX0_doubtOf, Cond.instanceMethod yX0_doubtOf, Cond.selects RX0 yX0_doubtOf yX0_doubtOf, Cond.code yX0_doubtOf cX0_doubtOf 2 (some .int), Cond.methodLink RL 136 yX1_doubtOf, Cond.instanceMethod yX1_doubtOf, Cond.selects RX1 yX1_doubtOf yX1_doubtOf, Cond.code yX1_doubtOf cX1_doubtOf 2 (some .int), Cond.methodLink RL 137 yX0_layers, Cond.instanceMethod yX0_layers, Cond.selects RX0 yX0_layers yX0_layers, Cond.code yX0_layers cX0_layers 1 (some .int), Cond.methodLink RL 140 yX1_layers, Cond.instanceMethod yX1_layers, Cond.selects RX1 yX1_layers yX1_layers, Cond.code yX1_layers cX1_layers 1 (some .int), Cond.methodLink RL 141 yX0_day, Cond.instanceMethod yX0_day, Cond.selects RX0 yX0_day yX0_day, Cond.code yX0_day cX0_day 1 (some .int), Cond.methodLink RL 144 yX1_day, Cond.instanceMethod yX1_day, Cond.selects RX1 yX1_day yX1_day]
def wsL_law0_r15 : List Cond := [Cond.code yX1_day cX1_day 1 (some .int), Cond.methodLink RL 145 yX0_limit, Cond.instanceMethod yX0_limit, Cond.selects RX0 yX0_limit yX0_limit, Cond.code yX0_limit cX0_limit 1 (some .int), Cond.methodLink RL 148 yX1_limit, Cond.instanceMethod yX1_limit, Cond.selects RX1 yX1_limit yX1_limit, Cond.code yX1_limit cX1_limit 1 (some .int), Cond.methodLink RL 149 yX0_sold, Cond.instanceMethod yX0_sold, Cond.selects RX0 yX0_sold yX0_sold, Cond.code yX0_sold cX0_sold 1 (some .int), Cond.methodLink RL 152 yX1_sold, Cond.instanceMethod yX1_sold, Cond.selects RX1 yX1_sold yX1_sold, Cond.code yX1_sold cX1_sold 1 (some .int), Cond.methodLink RL 153 yX0_spoilt, Cond.instanceMethod yX0_spoilt, Cond.selects RX0 yX0_spoilt yX0_spoilt, Cond.code yX0_spoilt cX0_spoilt 1 (some .int), Cond.methodLink RL 156 yX1_spoilt, Cond.instanceMethod yX1_spoilt, Cond.selects RX1 yX1_spoilt yX1_spoilt]
def wsL_law0_r16 : List Cond := [Cond.code yX1_spoilt cX1_spoilt 1 (some .int), Cond.methodLink RL 157 yL_kindOf, Cond.static yL_kindOf, Cond.codeWith yL_kindOf cL_kindOf 4 (some .int) [(0, 9, 12, 34)], Cond.methodLink RL 51 yX0_kindOf, Cond.instanceMethod yX0_kindOf, Cond.selects RX0 yX0_kindOf yX0_kindOf, Cond.code yX0_kindOf cX0_kindOf 2 (some .int), Cond.methodLink RX0 128 yX0_checkLayer, Cond.instanceMethod yX0_checkLayer, Cond.selects RX0 yX0_checkLayer yX0_checkLayer, Cond.code yX0_checkLayer cX0_checkLayer 2 none, Cond.methodLink RL 159 yX1_kindOf, Cond.instanceMethod yX1_kindOf, Cond.selects RX1 yX1_kindOf yX1_kindOf, Cond.code yX1_kindOf cX1_kindOf 2 (some .int), Cond.methodLink RL 160 yL_dampnessOf, Cond.static yL_dampnessOf, Cond.codeWith yL_dampnessOf cL_dampnessOf 4 (some .int) [(0, 9, 12, 34)], Cond.methodLink RL 54 yX0_dampnessOf, Cond.instanceMethod yX0_dampnessOf, Cond.selects RX0 yX0_dampnessOf yX0_dampnessOf, Cond.code yX0_dampnessOf cX0_dampnessOf 2 (some .int), Cond.methodLink RL 162 yX1_dampnessOf]
def wsL_law0_r17 : List Cond := [Cond.instanceMethod yX1_dampnessOf, Cond.selects RX1 yX1_dampnessOf yX1_dampnessOf, Cond.code yX1_dampnessOf cX1_dampnessOf 2 (some .int), Cond.methodLink RL 163 yX0_dampLayers, Cond.instanceMethod yX0_dampLayers, Cond.selects RX0 yX0_dampLayers yX0_dampLayers, Cond.code yX0_dampLayers cX0_dampLayers 3 (some .int), Cond.methodLink RL 166 yX1_dampLayers, Cond.instanceMethod yX1_dampLayers, Cond.selects RX1 yX1_dampLayers yX1_dampLayers, Cond.code yX1_dampLayers cX1_dampLayers 3 (some .int), Cond.methodLink RL 167 yL_layersAheadOf, Cond.static yL_layersAheadOf, Cond.codeWith yL_layersAheadOf cL_layersAheadOf 4 (some .int) [(0, 9, 12, 34)], Cond.methodLink RL 57 yX0_layersAheadOf, Cond.instanceMethod yX0_layersAheadOf, Cond.selects RX0 yX0_layersAheadOf yX0_layersAheadOf, Cond.code yX0_layersAheadOf cX0_layersAheadOf 3 (some .int), Cond.methodLink RL 169 yX1_layersAheadOf, Cond.instanceMethod yX1_layersAheadOf, Cond.selects RX1 yX1_layersAheadOf yX1_layersAheadOf, Cond.code yX1_layersAheadOf cX1_layersAheadOf 3 (some .int), Cond.methodLink RL 170 yL_leastOf, Cond.static yL_leastOf]
def wsL_law0_r18 : List Cond := [Cond.codeWith yL_leastOf cL_leastOf 4 (some .int) [(0, 9, 12, 34)], Cond.methodLink RL 60 yX0_leastOf, Cond.instanceMethod yX0_leastOf, Cond.selects RX0 yX0_leastOf yX0_leastOf, Cond.code yX0_leastOf cX0_leastOf 2 (some .int), Cond.methodLink RX0 139 yX0_weighSamples, Cond.instanceMethod yX0_weighSamples, Cond.selects RX0 yX0_weighSamples yX0_weighSamples, Cond.code yX0_weighSamples cX0_weighSamples 4 none, Cond.methodLink RX0 199 yX0_weighNothing, Cond.instanceMethod yX0_weighNothing, Cond.selects RX0 yX0_weighNothing yX0_weighNothing, Cond.code yX0_weighNothing cX0_weighNothing 3 none, Cond.methodLink RX0 202 yX0_heed, Cond.instanceMethod yX0_heed, Cond.selects RX0 yX0_heed yX0_heed, Cond.code yX0_heed cX0_heed 6 none, Cond.methodLink RX0 206 Lib.Math.min.name, Cond.static Lib.Math.min.name, Cond.initialized "java/lang/Math", Cond.code Lib.Math.min.name Lib.Math.min.code 2 (some .int), Cond.methodLink RX0 142 yX0_least, Cond.instanceMethod yX0_least, Cond.selects RX0 yX0_least yX0_least]
def wsL_law0_r19 : List Cond := [Cond.code yX0_least cX0_least 3 (some .int), Cond.methodLink RL 172 yX1_leastOf, Cond.instanceMethod yX1_leastOf, Cond.selects RX1 yX1_leastOf yX1_leastOf, Cond.code yX1_leastOf cX1_leastOf 2 (some .int), Cond.methodLink RX1 140 yX1_leastSum, Cond.instanceMethod yX1_leastSum, Cond.selects RX1 yX1_leastSum yX1_leastSum, Cond.code yX1_leastSum cX1_leastSum 3 (some .int), Cond.methodLink RX1 149 yX1_reckon, Cond.instanceMethod yX1_reckon, Cond.selects RX1 yX1_reckon yX1_reckon, Cond.code yX1_reckon cX1_reckon 1 none, Cond.methodLink RX1 73 yX1_begin, Cond.instanceMethod yX1_begin, Cond.selects RX1 yX1_begin yX1_begin, Cond.code yX1_begin cX1_begin 3 none, Cond.constant RX1 68 (1000000), Cond.methodLink RX1 64 yX1_bound, Cond.instanceMethod yX1_bound, Cond.selects RX1 yX1_bound yX1_bound, Cond.code yX1_bound cX1_bound 4 none, Cond.methodLink RX1 58 Lib.Math.min.name, Cond.methodLink RX1 69 yX1_tell]
def wsL_law0_r20 : List Cond := [Cond.instanceMethod yX1_tell, Cond.selects RX1 yX1_tell yX1_tell, Cond.code yX1_tell cX1_tell 5 none, Cond.methodLink RX1 76 yX1_goOn, Cond.instanceMethod yX1_goOn, Cond.selects RX1 yX1_goOn yX1_goOn, Cond.code yX1_goOn cX1_goOn 4 none, Cond.methodLink RX1 82 yX1_least, Cond.instanceMethod yX1_least, Cond.selects RX1 yX1_least yX1_least, Cond.code yX1_least cX1_least 3 (some .int), Cond.methodLink RL 173 yL_greatestOf, Cond.static yL_greatestOf, Cond.codeWith yL_greatestOf cL_greatestOf 4 (some .int) [(0, 9, 12, 34)], Cond.methodLink RL 63 yX0_greatestOf, Cond.instanceMethod yX0_greatestOf, Cond.selects RX0 yX0_greatestOf yX0_greatestOf, Cond.code yX0_greatestOf cX0_greatestOf 2 (some .int), Cond.methodLink RX0 145 yX0_greatest, Cond.instanceMethod yX0_greatest, Cond.selects RX0 yX0_greatest yX0_greatest, Cond.code yX0_greatest cX0_greatest 3 (some .int), Cond.methodLink RL 175 yX1_greatestOf, Cond.instanceMethod yX1_greatestOf]
def wsL_law0_r21 : List Cond := [Cond.selects RX1 yX1_greatestOf yX1_greatestOf, Cond.code yX1_greatestOf cX1_greatestOf 2 (some .int), Cond.methodLink RX1 143 yX1_greatestSum, Cond.instanceMethod yX1_greatestSum, Cond.selects RX1 yX1_greatestSum yX1_greatestSum, Cond.code yX1_greatestSum cX1_greatestSum 3 (some .int), Cond.methodLink RX1 79 yX1_greatest, Cond.instanceMethod yX1_greatest, Cond.selects RX1 yX1_greatest yX1_greatest, Cond.code yX1_greatest cX1_greatest 3 (some .int), Cond.methodLink RL 176 yL_isKnown, Cond.static yL_isKnown, Cond.codeWith yL_isKnown cL_isKnown 4 (some .int) [(0, 16, 19, 34)], Cond.methodLink RL 66 yX0_isKnown, Cond.instanceMethod yX0_isKnown, Cond.selects RX0 yX0_isKnown yX0_isKnown, Cond.code yX0_isKnown cX0_isKnown 2 (some .boolean), Cond.methodLink RL 178 yX1_isKnown, Cond.instanceMethod yX1_isKnown, Cond.selects RX1 yX1_isKnown yX1_isKnown, Cond.code yX1_isKnown cX1_isKnown 2 (some .boolean), Cond.methodLink RX1 146 yX1_isNot, Cond.instanceMethod yX1_isNot, Cond.selects RX1 yX1_isNot yX1_isNot]
def wsL_law0_r22 : List Cond := [Cond.code yX1_isNot cX1_isNot 2 (some .boolean), Cond.methodLink RL 179 yX0_surelyDry, Cond.instanceMethod yX0_surelyDry, Cond.selects RX0 yX0_surelyDry yX0_surelyDry, Cond.code yX0_surelyDry cX0_surelyDry 1 (some .int), Cond.methodLink RX0 148 yX0_countSurelyDry, Cond.instanceMethod yX0_countSurelyDry, Cond.selects RX0 yX0_countSurelyDry yX0_countSurelyDry, Cond.code yX0_countSurelyDry cX0_countSurelyDry 3 (some .int), Cond.methodLink RL 182 yX1_surelyDry, Cond.instanceMethod yX1_surelyDry, Cond.selects RX1 yX1_surelyDry yX1_surelyDry, Cond.code yX1_surelyDry cX1_surelyDry 1 (some .int), Cond.methodLink RX1 152 yX1_surely, Cond.instanceMethod yX1_surely, Cond.selects RX1 yX1_surely yX1_surely, Cond.code yX1_surely cX1_surely 4 (some .int), Cond.methodLink RL 183 yX0_surelyDamp, Cond.instanceMethod yX0_surelyDamp, Cond.selects RX0 yX0_surelyDamp yX0_surelyDamp, Cond.code yX0_surelyDamp cX0_surelyDamp 1 (some .int), Cond.methodLink RX0 152 yX0_countSurelyDamp, Cond.instanceMethod yX0_countSurelyDamp, Cond.selects RX0 yX0_countSurelyDamp yX0_countSurelyDamp]
def wsL_law0_r23 : List Cond := [Cond.code yX0_countSurelyDamp cX0_countSurelyDamp 3 (some .int), Cond.methodLink RL 186 yX1_surelyDamp, Cond.instanceMethod yX1_surelyDamp, Cond.selects RX1 yX1_surelyDamp yX1_surelyDamp, Cond.code yX1_surelyDamp cX1_surelyDamp 1 (some .int), Cond.methodLink RL 187 yL_worstLayer, Cond.static yL_worstLayer, Cond.codeWith yL_worstLayer cL_worstLayer 3 (some .int) [(0, 8, 11, 15)], Cond.methodLink RL 70 yX0_worstLayer, Cond.instanceMethod yX0_worstLayer, Cond.selects RX0 yX0_worstLayer yX0_worstLayer, Cond.code yX0_worstLayer cX0_worstLayer 3 (some .int), Cond.methodLink RX0 155 yX0_checkNotEmpty, Cond.instanceMethod yX0_checkNotEmpty, Cond.selects RX0 yX0_checkNotEmpty yX0_checkNotEmpty, Cond.code yX0_checkNotEmpty cX0_checkNotEmpty 1 none, Cond.methodLink RL 189 yX1_worstLayer, Cond.instanceMethod yX1_worstLayer, Cond.selects RX1 yX1_worstLayer yX1_worstLayer, Cond.code yX1_worstLayer cX1_worstLayer 3 (some .int), Cond.methodLink RL 190 yX0_doubt, Cond.instanceMethod yX0_doubt, Cond.selects RX0 yX0_doubt yX0_doubt, Cond.code yX0_doubt cX0_doubt 1 (some .int)]
def wsL_law0_r24 : List Cond := [Cond.methodLink RX0 158 yX0_doubtNow, Cond.instanceMethod yX0_doubtNow, Cond.selects RX0 yX0_doubtNow yX0_doubtNow, Cond.code yX0_doubtNow cX0_doubtNow 3 (some .int), Cond.methodLink RL 193 yX1_doubt, Cond.instanceMethod yX1_doubt, Cond.selects RX1 yX1_doubt yX1_doubt, Cond.code yX1_doubt cX1_doubt 1 (some .int), Cond.methodLink RX1 88 yX1_allDoubt, Cond.instanceMethod yX1_allDoubt, Cond.selects RX1 yX1_allDoubt yX1_allDoubt, Cond.code yX1_allDoubt cX1_allDoubt 3 (some .int), Cond.methodLink RL 194 yL_leastSum, Cond.static yL_leastSum, Cond.codeWith yL_leastSum cL_leastSum 5 (some .int) [(0, 10, 13, 34)], Cond.methodLink RL 73 yX0_leastSum, Cond.instanceMethod yX0_leastSum, Cond.selects RX0 yX0_leastSum yX0_leastSum, Cond.code yX0_leastSum cX0_leastSum 3 (some .int), Cond.methodLink RL 196 yX1_leastSum, Cond.methodLink RL 197 yL_greatestSum, Cond.static yL_greatestSum, Cond.codeWith yL_greatestSum cL_greatestSum 5 (some .int) [(0, 10, 13, 34)], Cond.methodLink RL 76 yX0_greatestSum]
def wsL_law0_r25 : List Cond := [Cond.instanceMethod yX0_greatestSum, Cond.selects RX0 yX0_greatestSum yX0_greatestSum, Cond.code yX0_greatestSum cX0_greatestSum 3 (some .int), Cond.methodLink RL 199 yX1_greatestSum, Cond.methodLink RL 200 yL_doubtBehind, Cond.static yL_doubtBehind, Cond.codeWith yL_doubtBehind cL_doubtBehind 5 (some .int) [(0, 10, 13, 34)], Cond.methodLink RL 79 yX0_doubtBehind, Cond.instanceMethod yX0_doubtBehind, Cond.selects RX0 yX0_doubtBehind yX0_doubtBehind, Cond.code yX0_doubtBehind cX0_doubtBehind 3 (some .int), Cond.methodLink RX0 161 yX0_doubtIfDrawn, Cond.instanceMethod yX0_doubtIfDrawn, Cond.selects RX0 yX0_doubtIfDrawn yX0_doubtIfDrawn, Cond.code yX0_doubtIfDrawn cX0_doubtIfDrawn 6 (some .int), Cond.methodLink RX0 211 yX0_mostIfTold, Cond.instanceMethod yX0_mostIfTold, Cond.selects RX0 yX0_mostIfTold yX0_mostIfTold, Cond.code yX0_mostIfTold cX0_mostIfTold 8 (some .int), Cond.methodLink RL 202 yX1_doubtBehind, Cond.instanceMethod yX1_doubtBehind, Cond.selects RX1 yX1_doubtBehind yX1_doubtBehind, Cond.code yX1_doubtBehind cX1_doubtBehind 3 (some .int), Cond.methodLink RX1 156 yX1_behind]
def wsL_law0_r26 : List Cond := [Cond.instanceMethod yX1_behind, Cond.selects RX1 yX1_behind yX1_behind, Cond.code yX1_behind cX1_behind 3 (some .int), Cond.methodLink RL 203 yL_bestToLookAt, Cond.static yL_bestToLookAt, Cond.codeWith yL_bestToLookAt cL_bestToLookAt 3 (some .int) [(0, 8, 11, 15)], Cond.methodLink RL 82 yX0_bestToLookAt, Cond.instanceMethod yX0_bestToLookAt, Cond.selects RX0 yX0_bestToLookAt yX0_bestToLookAt, Cond.code yX0_bestToLookAt cX0_bestToLookAt 5 (some .int), Cond.methodLink RL 205 yX1_bestToLookAt, Cond.instanceMethod yX1_bestToLookAt, Cond.selects RX1 yX1_bestToLookAt yX1_bestToLookAt, Cond.code yX1_bestToLookAt cX1_bestToLookAt 5 (some .int), Cond.methodLink RL 206 yL_dampnessIn, Cond.static yL_dampnessIn, Cond.codeWith yL_dampnessIn cL_dampnessIn 5 (some .int) [(0, 10, 13, 34), (0, 10, 17, 13)], Cond.methodLink RL 85 yX0_dampnessIn, Cond.instanceMethod yX0_dampnessIn, Cond.selects RX0 yX0_dampnessIn yX0_dampnessIn, Cond.code yX0_dampnessIn cX0_dampnessIn 3 (some .int), Cond.methodLink RX0 164 yX0_copyDampnessAhead, Cond.instanceMethod yX0_copyDampnessAhead, Cond.selects RX0 yX0_copyDampnessAhead yX0_copyDampnessAhead]
def wsL_law0_r27 : List Cond := [Cond.code yX0_copyDampnessAhead cX0_copyDampnessAhead 2 none, Cond.methodLink RL 208 yX1_dampnessIn, Cond.instanceMethod yX1_dampnessIn, Cond.selects RX1 yX1_dampnessIn yX1_dampnessIn, Cond.code yX1_dampnessIn cX1_dampnessIn 4 (some .int), Cond.methodLink RX1 165 yX1_keep, Cond.instanceMethod yX1_keep, Cond.selects RX1 yX1_keep yX1_keep, Cond.code yX1_keep cX1_keep 1 none, Cond.methodLink RX1 159 arraycopyName, Cond.native arraycopyName, Cond.static arraycopyName, Cond.initialized "java/lang/System", Cond.methodLink RX1 168 yX1_bringBack, Cond.instanceMethod yX1_bringBack, Cond.selects RX1 yX1_bringBack yX1_bringBack, Cond.code yX1_bringBack cX1_bringBack 1 none, Cond.methodLink RL 209 yX0_daysUntilEven, Cond.instanceMethod yX0_daysUntilEven, Cond.selects RX0 yX0_daysUntilEven yX0_daysUntilEven, Cond.code yX0_daysUntilEven cX0_daysUntilEven 2 (some .int), Cond.methodLink RL 212 yX1_daysUntilEven, Cond.instanceMethod yX1_daysUntilEven, Cond.selects RX1 yX1_daysUntilEven yX1_daysUntilEven]
def wsL_law0_r28 : List Cond := [Cond.code yX1_daysUntilEven cX1_daysUntilEven 2 (some .int), Cond.methodLink RL 213 yX0_meanDampness, Cond.instanceMethod yX0_meanDampness, Cond.selects RX0 yX0_meanDampness yX0_meanDampness, Cond.code yX0_meanDampness cX0_meanDampness 1 (some .double), Cond.methodLink RL 217 yX1_meanDampness, Cond.instanceMethod yX1_meanDampness, Cond.selects RX1 yX1_meanDampness yX1_meanDampness, Cond.code yX1_meanDampness cX1_meanDampness 1 (some .double), Cond.methodLink RL 218 yX0_digest, Cond.instanceMethod yX0_digest, Cond.selects RX0 yX0_digest yX0_digest, Cond.code yX0_digest cX0_digest 3 (some .long), Cond.constantLong RX0 171 (1907), Cond.methodLink RX0 173 yX0_digestOf, Cond.static yX0_digestOf, Cond.code yX0_digestOf cX0_digestOf 4 (some .long), Cond.constantLong RX0 215 (31), Cond.methodLink RX0 177 yX0_digestOfLayers, Cond.instanceMethod yX0_digestOfLayers, Cond.selects RX0 yX0_digestOfLayers yX0_digestOfLayers, Cond.code yX0_digestOfLayers cX0_digestOfLayers 6 (some .long), Cond.methodLink RX0 181 yX0_digestOfSamples, Cond.instanceMethod yX0_digestOfSamples]
def wsL_law0_r29 : List Cond := [Cond.selects RX0 yX0_digestOfSamples yX0_digestOfSamples, Cond.code yX0_digestOfSamples cX0_digestOfSamples 6 (some .long), Cond.methodLink RL 222 yX1_digest, Cond.instanceMethod yX1_digest, Cond.selects RX1 yX1_digest yX1_digest, Cond.code yX1_digest cX1_digest 8 (some .long), Cond.constantLong RX1 171 (1907), Cond.constantLong RX1 173 (31)]
def wsL_law0 : List Cond := (wsL_law0_r1 ++ (wsL_law0_r2 ++ (wsL_law0_r3 ++ (wsL_law0_r4 ++ (wsL_law0_r5 ++ (wsL_law0_r6 ++ (wsL_law0_r7 ++ (wsL_law0_r8 ++ (wsL_law0_r9 ++ (wsL_law0_r10 ++ (wsL_law0_r11 ++ (wsL_law0_r12 ++ (wsL_law0_r13 ++ (wsL_law0_r14 ++ (wsL_law0_r15 ++ (wsL_law0_r16 ++ (wsL_law0_r17 ++ (wsL_law0_r18 ++ (wsL_law0_r19 ++ (wsL_law0_r20 ++ (wsL_law0_r21 ++ (wsL_law0_r22 ++ (wsL_law0_r23 ++ (wsL_law0_r24 ++ (wsL_law0_r25 ++ (wsL_law0_r26 ++ (wsL_law0_r27 ++ (wsL_law0_r28 ++ wsL_law0_r29)))))))))))))))))))))))))))) ++ wsX00 ++ wsX10 ++ ([] : List Cond)
def wsL_law : List Cond := wsL_law0 ++ (vx_atS RX0 54 "java/lang/IllegalArgumentException" ["java/lang/RuntimeException", "java/lang/Exception"]).filter goodWord ++ (vx_atS RX0 64 "java/lang/IllegalStateException" ["java/lang/RuntimeException", "java/lang/Exception"]).filter goodWord ++ (vx_atS RX0 138 "java/lang/IndexOutOfBoundsException" ["java/lang/RuntimeException", "java/lang/Exception"]).filter goodWord
abbrev vwCl : List vw_C := [(RX0, TX0, 15), (RX1, TX1, 16)]
end
section
theorem dX0_init_0 : decode cX0_init 0 = .ok (.aload_n 0, 1) := by decide +kernel
theorem dX0_init_1 : decode cX0_init 1 = .ok (.invokespecial 1, 3) := by decide +kernel
theorem dX0_init_4 : decode cX0_init 4 = .ok (.aload_n 0, 1) := by decide +kernel
theorem dX0_init_5 : decode cX0_init 5 = .ok (.bipush 12, 2) := by decide +kernel
theorem dX0_init_7 : decode cX0_init 7 = .ok (.newarray .int, 2) := by decide +kernel
theorem dX0_init_9 : decode cX0_init 9 = .ok (.putfield 9, 3) := by decide +kernel
theorem dX0_init_12 : decode cX0_init 12 = .ok (.aload_n 0, 1) := by decide +kernel
theorem dX0_init_13 : decode cX0_init 13 = .ok (.bipush 12, 2) := by decide +kernel
theorem dX0_init_15 : decode cX0_init 15 = .ok (.newarray .int, 2) := by decide +kernel
theorem dX0_init_17 : decode cX0_init 17 = .ok (.putfield 13, 3) := by decide +kernel
theorem dX0_init_20 : decode cX0_init 20 = .ok (.aload_n 0, 1) := by decide +kernel
theorem dX0_init_21 : decode cX0_init 21 = .ok (.bipush 16, 2) := by decide +kernel
theorem dX0_init_23 : decode cX0_init 23 = .ok (.newarray .int, 2) := by decide +kernel
theorem dX0_init_25 : decode cX0_init 25 = .ok (.putfield 16, 3) := by decide +kernel
theorem dX0_init_28 : decode cX0_init 28 = .ok (.aload_n 0, 1) := by decide +kernel
theorem dX0_init_29 : decode cX0_init 29 = .ok (.bipush 16, 2) := by decide +kernel
theorem dX0_init_31 : decode cX0_init 31 = .ok (.newarray .int, 2) := by decide +kernel
theorem dX0_init_33 : decode cX0_init 33 = .ok (.putfield 19, 3) := by decide +kernel
theorem dX0_init_36 : decode cX0_init 36 = .ok (.aload_n 0, 1) := by decide +kernel
theorem dX0_init_37 : decode cX0_init 37 = .ok (.bipush 16, 2) := by decide +kernel
theorem dX0_init_39 : decode cX0_init 39 = .ok (.newarray .int, 2) := by decide +kernel
theorem dX0_init_41 : decode cX0_init 41 = .ok (.putfield 22, 3) := by decide +kernel
theorem dX0_init_44 : decode cX0_init 44 = .ok (.aload_n 0, 1) := by decide +kernel
theorem dX0_init_45 : decode cX0_init 45 = .ok (.bipush 16, 2) := by decide +kernel
theorem dX0_init_47 : decode cX0_init 47 = .ok (.newarray .int, 2) := by decide +kernel
theorem dX0_init_49 : decode cX0_init 49 = .ok (.putfield 25, 3) := by decide +kernel
theorem dX0_init_52 : decode cX0_init 52 = .ok (.aload_n 0, 1) := by decide +kernel
theorem dX0_init_53 : decode cX0_init 53 = .ok (.bipush 12, 2) := by decide +kernel
theorem dX0_init_55 : decode cX0_init 55 = .ok (.newarray .int, 2) := by decide +kernel
theorem dX0_init_57 : decode cX0_init 57 = .ok (.putfield 28, 3) := by decide +kernel
theorem dX0_init_60 : decode cX0_init 60 = .ok (.aload_n 0, 1) := by decide +kernel
theorem dX0_init_61 : decode cX0_init 61 = .ok (.bipush 12, 2) := by decide +kernel
theorem dX0_init_63 : decode cX0_init 63 = .ok (.newarray .int, 2) := by decide +kernel
theorem dX0_init_65 : decode cX0_init 65 = .ok (.putfield 31, 3) := by decide +kernel
theorem dX0_init_68 : decode cX0_init 68 = .ok (.aload_n 0, 1) := by decide +kernel
theorem dX0_init_69 : decode cX0_init 69 = .ok (.bipush 13, 2) := by decide +kernel
theorem dX0_init_71 : decode cX0_init 71 = .ok (.bipush 13, 2) := by decide +kernel
theorem dX0_init_73 : decode cX0_init 73 = .ok (.multianewarray 34 2, 4) := by decide +kernel
theorem dX0_init_77 : decode cX0_init 77 = .ok (.putfield 36, 3) := by decide +kernel
theorem dX0_init_80 : decode cX0_init 80 = .ok (.aload_n 0, 1) := by decide +kernel
theorem dX0_init_81 : decode cX0_init 81 = .ok (.bipush 14, 2) := by decide +kernel
theorem dX0_init_83 : decode cX0_init 83 = .ok (.putfield 39, 3) := by decide +kernel
theorem dX0_init_86 : decode cX0_init 86 = .ok (.return_, 1) := by decide +kernel
set_option maxRecDepth 20000 in
theorem ggX0_fill_X0_isKind : GoodIn wsX0_fill wsX0_isKind := goodIn_r _ [9] (by decide +kernel) (by decide +kernel)
set_option maxRecDepth 20000 in
theorem gX0_fill_X0_isKind : GoodIn wsX0_fill (va_wsS RX0 43 yX0_isKind wsX0_isKind) := goodIn_app (goodIn_of _ (by decide +kernel)) ggX0_fill_X0_isKind
set_option maxRecDepth 20000 in
theorem ggX0_fill_X0_isDampness : GoodIn wsX0_fill wsX0_isDampness := goodIn_r _ [12] (by decide +kernel) (by decide +kernel)
set_option maxRecDepth 20000 in
theorem gX0_fill_X0_isDampness : GoodIn wsX0_fill (va_wsS RX0 47 yX0_isDampness wsX0_isDampness) := goodIn_app (goodIn_of _ (by decide +kernel)) ggX0_fill_X0_isDampness
set_option maxRecDepth 20000 in
theorem ggX0_fill_X0_putOnTop : GoodIn wsX0_fill wsX0_putOnTop := goodIn_r _ [16, 5, 17, 18, 19, 20, 21, 22, 23, 24, 25, 26, 27, 28, 29, 30, 31, 32, 33] (by decide +kernel) (by decide +kernel)
set_option maxRecDepth 20000 in
theorem gX0_fill_X0_putOnTop : GoodIn wsX0_fill (wsV RX0 65 RX0 yX0_putOnTop wsX0_putOnTop) := goodIn_app (goodIn_of _ (by decide +kernel)) ggX0_fill_X0_putOnTop
theorem dX0_fill_0 : decode cX0_fill 0 = .ok (.iload_n 1, 1) := by decide +kernel
theorem dX0_fill_1 : decode cX0_fill 1 = .ok (.invokestatic 43, 3) := by decide +kernel
theorem dX0_fill_4 : decode cX0_fill 4 = .ok (.ifCond .eq 10, 3) := by decide +kernel
theorem dX0_fill_7 : decode cX0_fill 7 = .ok (.iload_n 2, 1) := by decide +kernel
theorem dX0_fill_8 : decode cX0_fill 8 = .ok (.invokestatic 47, 3) := by decide +kernel
theorem dX0_fill_11 : decode cX0_fill 11 = .ok (.ifCond .ne 13, 3) := by decide +kernel
theorem dX0_fill_14 : decode cX0_fill 14 = .ok (.new 50, 3) := by decide +kernel
theorem dX0_fill_17 : decode cX0_fill 17 = .ok (.dup, 1) := by decide +kernel
theorem dX0_fill_18 : decode cX0_fill 18 = .ok (.ldc 52, 2) := by decide +kernel
theorem dX0_fill_20 : decode cX0_fill 20 = .ok (.invokespecial 54, 3) := by decide +kernel
theorem dX0_fill_23 : decode cX0_fill 23 = .ok (.athrow, 1) := by decide +kernel
theorem dX0_fill_24 : decode cX0_fill 24 = .ok (.aload_n 0, 1) := by decide +kernel
theorem dX0_fill_25 : decode cX0_fill 25 = .ok (.getfield 57, 3) := by decide +kernel
theorem dX0_fill_28 : decode cX0_fill 28 = .ok (.bipush 12, 2) := by decide +kernel
theorem dX0_fill_30 : decode cX0_fill 30 = .ok (.if_icmp .lt 13, 3) := by decide +kernel
theorem dX0_fill_33 : decode cX0_fill 33 = .ok (.new 60, 3) := by decide +kernel
theorem dX0_fill_36 : decode cX0_fill 36 = .ok (.dup, 1) := by decide +kernel
theorem dX0_fill_37 : decode cX0_fill 37 = .ok (.ldc 62, 2) := by decide +kernel
theorem dX0_fill_39 : decode cX0_fill 39 = .ok (.invokespecial 64, 3) := by decide +kernel
theorem dX0_fill_42 : decode cX0_fill 42 = .ok (.athrow, 1) := by decide +kernel
theorem dX0_fill_43 : decode cX0_fill 43 = .ok (.aload_n 0, 1) := by decide +kernel
theorem dX0_fill_44 : decode cX0_fill 44 = .ok (.iload_n 1, 1) := by decide +kernel
theorem dX0_fill_45 : decode cX0_fill 45 = .ok (.iload_n 2, 1) := by decide +kernel
theorem dX0_fill_46 : decode cX0_fill 46 = .ok (.invokevirtual 65, 3) := by decide +kernel
theorem dX0_fill_49 : decode cX0_fill 49 = .ok (.ireturn, 1) := by decide +kernel
set_option maxRecDepth 20000 in
theorem ggX0_letOut_X0_countOut : GoodIn wsX0_letOut wsX0_countOut := goodIn_r _ [9, 10, 11, 12, 13, 14, 8, 15, 16, 43, 44, 45, 46, 47, 48, 49, 50, 51, 52, 53, 54, 55, 56, 57] (by decide +kernel) (by decide +kernel)
set_option maxRecDepth 20000 in
theorem gX0_letOut_X0_countOut : GoodIn wsX0_letOut (wsV RX0 71 RX0 yX0_countOut wsX0_countOut) := goodIn_app (goodIn_of _ (by decide +kernel)) ggX0_letOut_X0_countOut
set_option maxRecDepth 20000 in
theorem ggX0_letOut_X0_lowerLayers : GoodIn wsX0_letOut wsX0_lowerLayers := goodIn_r _ [20, 3, 21, 4, 43, 44, 45, 46, 47, 48, 49, 50, 51, 52, 53, 54, 55, 56, 57] (by decide +kernel) (by decide +kernel)
set_option maxRecDepth 20000 in
theorem gX0_letOut_X0_lowerLayers : GoodIn wsX0_letOut (wsV RX0 75 RX0 yX0_lowerLayers wsX0_lowerLayers) := goodIn_app (goodIn_of _ (by decide +kernel)) ggX0_letOut_X0_lowerLayers
set_option maxRecDepth 20000 in
theorem ggX0_letOut_X0_cutLowestOffSamples : GoodIn wsX0_letOut wsX0_cutLowestOffSamples := goodIn_r _ [25, 26, 27, 28, 29, 30, 31, 32, 8, 33, 34, 35, 36, 37, 38, 43, 44, 45, 46, 47, 48, 49, 50, 51, 52, 53, 54, 55, 56, 57] (by decide +kernel) (by decide +kernel)
set_option maxRecDepth 20000 in
theorem gX0_letOut_X0_cutLowestOffSamples : GoodIn wsX0_letOut (wsV RX0 78 RX0 yX0_cutLowestOffSamples wsX0_cutLowestOffSamples) := goodIn_app (goodIn_of _ (by decide +kernel)) ggX0_letOut_X0_cutLowestOffSamples
set_option maxRecDepth 20000 in
theorem ggX0_letOut_X0_lowerSamples : GoodIn wsX0_letOut wsX0_lowerSamples := goodIn_r _ [42, 26, 27, 28, 43, 44, 45, 46, 47, 48, 49, 50, 51, 52, 53, 54, 55, 56, 57] (by decide +kernel) (by decide +kernel)
set_option maxRecDepth 20000 in
theorem gX0_letOut_X0_lowerSamples : GoodIn wsX0_letOut (wsV RX0 81 RX0 yX0_lowerSamples wsX0_lowerSamples) := goodIn_app (goodIn_of _ (by decide +kernel)) ggX0_letOut_X0_lowerSamples
theorem dX0_letOut_0 : decode cX0_letOut 0 = .ok (.aload_n 0, 1) := by decide +kernel
theorem dX0_letOut_1 : decode cX0_letOut 1 = .ok (.getfield 57, 3) := by decide +kernel
theorem dX0_letOut_4 : decode cX0_letOut 4 = .ok (.ifCond .ne 13, 3) := by decide +kernel
theorem dX0_letOut_7 : decode cX0_letOut 7 = .ok (.new 60, 3) := by decide +kernel
theorem dX0_letOut_10 : decode cX0_letOut 10 = .ok (.dup, 1) := by decide +kernel
theorem dX0_letOut_11 : decode cX0_letOut 11 = .ok (.ldc 69, 2) := by decide +kernel
theorem dX0_letOut_13 : decode cX0_letOut 13 = .ok (.invokespecial 64, 3) := by decide +kernel
theorem dX0_letOut_16 : decode cX0_letOut 16 = .ok (.athrow, 1) := by decide +kernel
theorem dX0_letOut_17 : decode cX0_letOut 17 = .ok (.aload_n 0, 1) := by decide +kernel
theorem dX0_letOut_18 : decode cX0_letOut 18 = .ok (.getfield 13, 3) := by decide +kernel
theorem dX0_letOut_21 : decode cX0_letOut 21 = .ok (.iconst 0, 1) := by decide +kernel
theorem dX0_letOut_22 : decode cX0_letOut 22 = .ok (.iaload, 1) := by decide +kernel
theorem dX0_letOut_23 : decode cX0_letOut 23 = .ok (.istore_n 1, 1) := by decide +kernel
theorem dX0_letOut_24 : decode cX0_letOut 24 = .ok (.aload_n 0, 1) := by decide +kernel
theorem dX0_letOut_25 : decode cX0_letOut 25 = .ok (.iload_n 1, 1) := by decide +kernel
theorem dX0_letOut_26 : decode cX0_letOut 26 = .ok (.invokevirtual 71, 3) := by decide +kernel
theorem dX0_letOut_29 : decode cX0_letOut 29 = .ok (.aload_n 0, 1) := by decide +kernel
theorem dX0_letOut_30 : decode cX0_letOut 30 = .ok (.invokevirtual 75, 3) := by decide +kernel
theorem dX0_letOut_33 : decode cX0_letOut 33 = .ok (.aload_n 0, 1) := by decide +kernel
theorem dX0_letOut_34 : decode cX0_letOut 34 = .ok (.iload_n 1, 1) := by decide +kernel
theorem dX0_letOut_35 : decode cX0_letOut 35 = .ok (.invokevirtual 78, 3) := by decide +kernel
theorem dX0_letOut_38 : decode cX0_letOut 38 = .ok (.aload_n 0, 1) := by decide +kernel
theorem dX0_letOut_39 : decode cX0_letOut 39 = .ok (.invokevirtual 81, 3) := by decide +kernel
theorem dX0_letOut_42 : decode cX0_letOut 42 = .ok (.iload_n 1, 1) := by decide +kernel
theorem dX0_letOut_43 : decode cX0_letOut 43 = .ok (.ireturn, 1) := by decide +kernel
set_option maxRecDepth 20000 in
theorem ggX0_turnOver_X0_lowerLayers : GoodIn wsX0_turnOver wsX0_lowerLayers := goodIn_r _ [11, 3, 4, 5, 32, 33, 34, 35, 36, 37, 38, 39, 40, 41, 42, 43, 44, 45, 46] (by decide +kernel) (by decide +kernel)
set_option maxRecDepth 20000 in
theorem gX0_turnOver_X0_lowerLayers : GoodIn wsX0_turnOver (wsV RX0 75 RX0 yX0_lowerLayers wsX0_lowerLayers) := goodIn_app (goodIn_of _ (by decide +kernel)) ggX0_turnOver_X0_lowerLayers
set_option maxRecDepth 20000 in
theorem ggX0_turnOver_X0_putOnTop : GoodIn wsX0_turnOver wsX0_putOnTop := goodIn_r _ [15, 3, 4, 5, 32, 33, 34, 35, 36, 37, 38, 39, 40, 41, 42, 43, 44, 45, 46] (by decide +kernel) (by decide +kernel)
set_option maxRecDepth 20000 in
theorem gX0_turnOver_X0_putOnTop : GoodIn wsX0_turnOver (wsV RX0 65 RX0 yX0_putOnTop wsX0_putOnTop) := goodIn_app (goodIn_of _ (by decide +kernel)) ggX0_turnOver_X0_putOnTop
set_option maxRecDepth 20000 in
theorem ggX0_turnOver_X0_dropSamplesOfLowest : GoodIn wsX0_turnOver wsX0_dropSamplesOfLowest := goodIn_r _ [19, 6, 20, 21, 22, 23, 10, 24, 25, 26, 27, 32, 33, 34, 35, 36, 37, 38, 39, 40, 41, 42, 43, 44, 45, 46] (by decide +kernel) (by decide +kernel)
set_option maxRecDepth 20000 in
theorem gX0_turnOver_X0_dropSamplesOfLowest : GoodIn wsX0_turnOver (wsV RX0 89 RX0 yX0_dropSamplesOfLowest wsX0_dropSamplesOfLowest) := goodIn_app (goodIn_of _ (by decide +kernel)) ggX0_turnOver_X0_dropSamplesOfLowest
set_option maxRecDepth 20000 in
theorem ggX0_turnOver_X0_lowerSamples : GoodIn wsX0_turnOver wsX0_lowerSamples := goodIn_r _ [31, 6, 20, 25, 32, 33, 34, 35, 36, 37, 38, 39, 40, 41, 42, 43, 44, 45, 46] (by decide +kernel) (by decide +kernel)
set_option maxRecDepth 20000 in
theorem gX0_turnOver_X0_lowerSamples : GoodIn wsX0_turnOver (wsV RX0 81 RX0 yX0_lowerSamples wsX0_lowerSamples) := goodIn_app (goodIn_of _ (by decide +kernel)) ggX0_turnOver_X0_lowerSamples
theorem dX0_turnOver_0 : decode cX0_turnOver 0 = .ok (.aload_n 0, 1) := by decide +kernel
theorem dX0_turnOver_1 : decode cX0_turnOver 1 = .ok (.getfield 57, 3) := by decide +kernel
theorem dX0_turnOver_4 : decode cX0_turnOver 4 = .ok (.iconst 2, 1) := by decide +kernel
theorem dX0_turnOver_5 : decode cX0_turnOver 5 = .ok (.if_icmp .ge 13, 3) := by decide +kernel
theorem dX0_turnOver_8 : decode cX0_turnOver 8 = .ok (.new 60, 3) := by decide +kernel
theorem dX0_turnOver_11 : decode cX0_turnOver 11 = .ok (.dup, 1) := by decide +kernel
theorem dX0_turnOver_12 : decode cX0_turnOver 12 = .ok (.ldc 84, 2) := by decide +kernel
theorem dX0_turnOver_14 : decode cX0_turnOver 14 = .ok (.invokespecial 64, 3) := by decide +kernel
theorem dX0_turnOver_17 : decode cX0_turnOver 17 = .ok (.athrow, 1) := by decide +kernel
theorem dX0_turnOver_18 : decode cX0_turnOver 18 = .ok (.aload_n 0, 1) := by decide +kernel
theorem dX0_turnOver_19 : decode cX0_turnOver 19 = .ok (.getfield 9, 3) := by decide +kernel
theorem dX0_turnOver_22 : decode cX0_turnOver 22 = .ok (.iconst 0, 1) := by decide +kernel
theorem dX0_turnOver_23 : decode cX0_turnOver 23 = .ok (.iaload, 1) := by decide +kernel
theorem dX0_turnOver_24 : decode cX0_turnOver 24 = .ok (.istore_n 1, 1) := by decide +kernel
theorem dX0_turnOver_25 : decode cX0_turnOver 25 = .ok (.aload_n 0, 1) := by decide +kernel
theorem dX0_turnOver_26 : decode cX0_turnOver 26 = .ok (.getfield 13, 3) := by decide +kernel
theorem dX0_turnOver_29 : decode cX0_turnOver 29 = .ok (.iconst 0, 1) := by decide +kernel
theorem dX0_turnOver_30 : decode cX0_turnOver 30 = .ok (.iaload, 1) := by decide +kernel
theorem dX0_turnOver_31 : decode cX0_turnOver 31 = .ok (.istore_n 2, 1) := by decide +kernel
theorem dX0_turnOver_32 : decode cX0_turnOver 32 = .ok (.aload_n 0, 1) := by decide +kernel
theorem dX0_turnOver_33 : decode cX0_turnOver 33 = .ok (.invokevirtual 75, 3) := by decide +kernel
theorem dX0_turnOver_36 : decode cX0_turnOver 36 = .ok (.aload_n 0, 1) := by decide +kernel
theorem dX0_turnOver_37 : decode cX0_turnOver 37 = .ok (.iload_n 1, 1) := by decide +kernel
theorem dX0_turnOver_38 : decode cX0_turnOver 38 = .ok (.iload_n 2, 1) := by decide +kernel
theorem dX0_turnOver_39 : decode cX0_turnOver 39 = .ok (.invokevirtual 65, 3) := by decide +kernel
theorem dX0_turnOver_42 : decode cX0_turnOver 42 = .ok (.pop, 1) := by decide +kernel
theorem dX0_turnOver_43 : decode cX0_turnOver 43 = .ok (.aload_n 0, 1) := by decide +kernel
theorem dX0_turnOver_44 : decode cX0_turnOver 44 = .ok (.getfield 86, 3) := by decide +kernel
theorem dX0_turnOver_47 : decode cX0_turnOver 47 = .ok (.istore_n 3, 1) := by decide +kernel
theorem dX0_turnOver_48 : decode cX0_turnOver 48 = .ok (.aload_n 0, 1) := by decide +kernel
theorem dX0_turnOver_49 : decode cX0_turnOver 49 = .ok (.invokevirtual 89, 3) := by decide +kernel
theorem dX0_turnOver_52 : decode cX0_turnOver 52 = .ok (.aload_n 0, 1) := by decide +kernel
theorem dX0_turnOver_53 : decode cX0_turnOver 53 = .ok (.invokevirtual 81, 3) := by decide +kernel
theorem dX0_turnOver_56 : decode cX0_turnOver 56 = .ok (.iload_n 3, 1) := by decide +kernel
theorem dX0_turnOver_57 : decode cX0_turnOver 57 = .ok (.aload_n 0, 1) := by decide +kernel
theorem dX0_turnOver_58 : decode cX0_turnOver 58 = .ok (.getfield 86, 3) := by decide +kernel
theorem dX0_turnOver_61 : decode cX0_turnOver 61 = .ok (.isub, 1) := by decide +kernel
theorem dX0_turnOver_62 : decode cX0_turnOver 62 = .ok (.ireturn, 1) := by decide +kernel
set_option maxRecDepth 20000 in
theorem ggX0_setLimit_X0_isDampness : GoodIn wsX0_setLimit wsX0_isDampness := goodIn_r _ [7] (by decide +kernel) (by decide +kernel)
set_option maxRecDepth 20000 in
theorem gX0_setLimit_X0_isDampness : GoodIn wsX0_setLimit (va_wsS RX0 47 yX0_isDampness wsX0_isDampness) := goodIn_app (goodIn_of _ (by decide +kernel)) ggX0_setLimit_X0_isDampness
theorem dX0_setLimit_0 : decode cX0_setLimit 0 = .ok (.iload_n 1, 1) := by decide +kernel
theorem dX0_setLimit_1 : decode cX0_setLimit 1 = .ok (.invokestatic 47, 3) := by decide +kernel
theorem dX0_setLimit_4 : decode cX0_setLimit 4 = .ok (.ifCond .ne 13, 3) := by decide +kernel
theorem dX0_setLimit_7 : decode cX0_setLimit 7 = .ok (.new 50, 3) := by decide +kernel
theorem dX0_setLimit_10 : decode cX0_setLimit 10 = .ok (.dup, 1) := by decide +kernel
theorem dX0_setLimit_11 : decode cX0_setLimit 11 = .ok (.ldc 92, 2) := by decide +kernel
theorem dX0_setLimit_13 : decode cX0_setLimit 13 = .ok (.invokespecial 54, 3) := by decide +kernel
theorem dX0_setLimit_16 : decode cX0_setLimit 16 = .ok (.athrow, 1) := by decide +kernel
theorem dX0_setLimit_17 : decode cX0_setLimit 17 = .ok (.aload_n 0, 1) := by decide +kernel
theorem dX0_setLimit_18 : decode cX0_setLimit 18 = .ok (.getfield 39, 3) := by decide +kernel
theorem dX0_setLimit_21 : decode cX0_setLimit 21 = .ok (.istore_n 2, 1) := by decide +kernel
theorem dX0_setLimit_22 : decode cX0_setLimit 22 = .ok (.aload_n 0, 1) := by decide +kernel
theorem dX0_setLimit_23 : decode cX0_setLimit 23 = .ok (.iload_n 1, 1) := by decide +kernel
theorem dX0_setLimit_24 : decode cX0_setLimit 24 = .ok (.putfield 39, 3) := by decide +kernel
theorem dX0_setLimit_27 : decode cX0_setLimit 27 = .ok (.iload_n 2, 1) := by decide +kernel
theorem dX0_setLimit_28 : decode cX0_setLimit 28 = .ok (.ireturn, 1) := by decide +kernel
set_option maxRecDepth 20000 in
theorem ggX0_pass_X0_checkDays : GoodIn wsX0_pass wsX0_checkDays := goodIn_ca (goodIn_r _ [6, 7, 8] (by decide +kernel) (by decide +kernel)) (goodIn_sub (fun _ h => List.mem_cons_of_mem _ (List.mem_append_right _ h)) (by decide +kernel))
set_option maxRecDepth 20000 in
theorem gX0_pass_X0_checkDays : GoodIn wsX0_pass (va_wsS RX0 94 yX0_checkDays wsX0_checkDays) := goodIn_app (goodIn_of _ (by decide +kernel)) ggX0_pass_X0_checkDays
set_option maxRecDepth 20000 in
theorem ggX0_pass_X0_letDaysGoBy : GoodIn wsX0_pass wsX0_letDaysGoBy := goodIn_r _ [12, 13, 14, 15, 5, 16, 17, 18, 19, 20, 21, 22, 23, 24, 25, 26, 35, 36, 37, 38, 39, 40, 41, 42, 43, 44, 45, 46, 47, 48, 49] (by decide +kernel) (by decide +kernel)
set_option maxRecDepth 20000 in
theorem gX0_pass_X0_letDaysGoBy : GoodIn wsX0_pass (wsV RX0 97 RX0 yX0_letDaysGoBy wsX0_letDaysGoBy) := goodIn_app (goodIn_of _ (by decide +kernel)) ggX0_pass_X0_letDaysGoBy
set_option maxRecDepth 20000 in
theorem ggX0_pass_X0_addDoubt : GoodIn wsX0_pass wsX0_addDoubt := goodIn_r _ [30, 31, 32, 33, 34, 35, 36, 37, 38, 39, 40, 41, 42, 43, 44, 45, 46, 47, 48, 49] (by decide +kernel) (by decide +kernel)
set_option maxRecDepth 20000 in
theorem gX0_pass_X0_addDoubt : GoodIn wsX0_pass (wsV RX0 101 RX0 yX0_addDoubt wsX0_addDoubt) := goodIn_app (goodIn_of _ (by decide +kernel)) ggX0_pass_X0_addDoubt
theorem dX0_pass_0 : decode cX0_pass 0 = .ok (.iload_n 1, 1) := by decide +kernel
theorem dX0_pass_1 : decode cX0_pass 1 = .ok (.invokestatic 94, 3) := by decide +kernel
theorem dX0_pass_4 : decode cX0_pass 4 = .ok (.aload_n 0, 1) := by decide +kernel
theorem dX0_pass_5 : decode cX0_pass 5 = .ok (.aload_n 0, 1) := by decide +kernel
theorem dX0_pass_6 : decode cX0_pass 6 = .ok (.getfield 13, 3) := by decide +kernel
theorem dX0_pass_9 : decode cX0_pass 9 = .ok (.iload_n 1, 1) := by decide +kernel
theorem dX0_pass_10 : decode cX0_pass 10 = .ok (.invokevirtual 97, 3) := by decide +kernel
theorem dX0_pass_13 : decode cX0_pass 13 = .ok (.istore_n 2, 1) := by decide +kernel
theorem dX0_pass_14 : decode cX0_pass 14 = .ok (.aload_n 0, 1) := by decide +kernel
theorem dX0_pass_15 : decode cX0_pass 15 = .ok (.iload_n 1, 1) := by decide +kernel
theorem dX0_pass_16 : decode cX0_pass 16 = .ok (.invokevirtual 101, 3) := by decide +kernel
theorem dX0_pass_19 : decode cX0_pass 19 = .ok (.aload_n 0, 1) := by decide +kernel
theorem dX0_pass_20 : decode cX0_pass 20 = .ok (.dup, 1) := by decide +kernel
theorem dX0_pass_21 : decode cX0_pass 21 = .ok (.getfield 104, 3) := by decide +kernel
theorem dX0_pass_24 : decode cX0_pass 24 = .ok (.iload_n 1, 1) := by decide +kernel
theorem dX0_pass_25 : decode cX0_pass 25 = .ok (.iadd, 1) := by decide +kernel
theorem dX0_pass_26 : decode cX0_pass 26 = .ok (.putfield 104, 3) := by decide +kernel
theorem dX0_pass_29 : decode cX0_pass 29 = .ok (.iload_n 2, 1) := by decide +kernel
theorem dX0_pass_30 : decode cX0_pass 30 = .ok (.ireturn, 1) := by decide +kernel
set_option maxRecDepth 20000 in
theorem ggX0_draw_X0_checkLayers : GoodIn wsX0_draw wsX0_checkLayers := goodIn_ca (goodIn_r _ [12, 13, 14, 15, 21, 22, 23, 24, 25, 26, 27, 28, 29, 30, 31, 32, 33, 34, 35] (by decide +kernel) (by decide +kernel)) (goodIn_sub (fun _ h => List.mem_cons_of_mem _ (List.mem_append_right _ h)) (by decide +kernel))
set_option maxRecDepth 20000 in
theorem gX0_draw_X0_checkLayers : GoodIn wsX0_draw (wsV RX0 107 RX0 yX0_checkLayers wsX0_checkLayers) := goodIn_app (goodIn_of _ (by decide +kernel)) ggX0_draw_X0_checkLayers
set_option maxRecDepth 20000 in
theorem ggX0_draw_X0_sumNow : GoodIn wsX0_draw wsX0_sumNow := goodIn_r _ [19, 20, 21, 22, 23, 24, 25, 26, 27, 28, 29, 30, 31, 32, 33, 34, 35] (by decide +kernel) (by decide +kernel)
set_option maxRecDepth 20000 in
theorem gX0_draw_X0_sumNow : GoodIn wsX0_draw (wsV RX0 113 RX0 yX0_sumNow wsX0_sumNow) := goodIn_app (goodIn_of _ (by decide +kernel)) ggX0_draw_X0_sumNow
theorem dX0_draw_0 : decode cX0_draw 0 = .ok (.aload_n 0, 1) := by decide +kernel
theorem dX0_draw_1 : decode cX0_draw 1 = .ok (.iload_n 1, 1) := by decide +kernel
theorem dX0_draw_2 : decode cX0_draw 2 = .ok (.iload_n 2, 1) := by decide +kernel
theorem dX0_draw_3 : decode cX0_draw 3 = .ok (.invokevirtual 107, 3) := by decide +kernel
theorem dX0_draw_6 : decode cX0_draw 6 = .ok (.aload_n 0, 1) := by decide +kernel
theorem dX0_draw_7 : decode cX0_draw 7 = .ok (.getfield 86, 3) := by decide +kernel
theorem dX0_draw_10 : decode cX0_draw 10 = .ok (.bipush 16, 2) := by decide +kernel
theorem dX0_draw_12 : decode cX0_draw 12 = .ok (.if_icmp .lt 13, 3) := by decide +kernel
theorem dX0_draw_15 : decode cX0_draw 15 = .ok (.new 60, 3) := by decide +kernel
theorem dX0_draw_18 : decode cX0_draw 18 = .ok (.dup, 1) := by decide +kernel
theorem dX0_draw_19 : decode cX0_draw 19 = .ok (.ldc 111, 2) := by decide +kernel
theorem dX0_draw_21 : decode cX0_draw 21 = .ok (.invokespecial 64, 3) := by decide +kernel
theorem dX0_draw_24 : decode cX0_draw 24 = .ok (.athrow, 1) := by decide +kernel
theorem dX0_draw_25 : decode cX0_draw 25 = .ok (.aload_n 0, 1) := by decide +kernel
theorem dX0_draw_26 : decode cX0_draw 26 = .ok (.iload_n 1, 1) := by decide +kernel
theorem dX0_draw_27 : decode cX0_draw 27 = .ok (.iload_n 2, 1) := by decide +kernel
theorem dX0_draw_28 : decode cX0_draw 28 = .ok (.invokevirtual 113, 3) := by decide +kernel
theorem dX0_draw_31 : decode cX0_draw 31 = .ok (.istore_n 3, 1) := by decide +kernel
theorem dX0_draw_32 : decode cX0_draw 32 = .ok (.aload_n 0, 1) := by decide +kernel
theorem dX0_draw_33 : decode cX0_draw 33 = .ok (.getfield 16, 3) := by decide +kernel
theorem dX0_draw_36 : decode cX0_draw 36 = .ok (.aload_n 0, 1) := by decide +kernel
theorem dX0_draw_37 : decode cX0_draw 37 = .ok (.getfield 86, 3) := by decide +kernel
theorem dX0_draw_40 : decode cX0_draw 40 = .ok (.iload_n 1, 1) := by decide +kernel
theorem dX0_draw_41 : decode cX0_draw 41 = .ok (.iastore, 1) := by decide +kernel
theorem dX0_draw_42 : decode cX0_draw 42 = .ok (.aload_n 0, 1) := by decide +kernel
theorem dX0_draw_43 : decode cX0_draw 43 = .ok (.getfield 19, 3) := by decide +kernel
theorem dX0_draw_46 : decode cX0_draw 46 = .ok (.aload_n 0, 1) := by decide +kernel
theorem dX0_draw_47 : decode cX0_draw 47 = .ok (.getfield 86, 3) := by decide +kernel
theorem dX0_draw_50 : decode cX0_draw 50 = .ok (.iload_n 2, 1) := by decide +kernel
theorem dX0_draw_51 : decode cX0_draw 51 = .ok (.iastore, 1) := by decide +kernel
theorem dX0_draw_52 : decode cX0_draw 52 = .ok (.aload_n 0, 1) := by decide +kernel
theorem dX0_draw_53 : decode cX0_draw 53 = .ok (.getfield 22, 3) := by decide +kernel
theorem dX0_draw_56 : decode cX0_draw 56 = .ok (.aload_n 0, 1) := by decide +kernel
theorem dX0_draw_57 : decode cX0_draw 57 = .ok (.getfield 86, 3) := by decide +kernel
theorem dX0_draw_60 : decode cX0_draw 60 = .ok (.iload_n 3, 1) := by decide +kernel
theorem dX0_draw_61 : decode cX0_draw 61 = .ok (.iastore, 1) := by decide +kernel
theorem dX0_draw_62 : decode cX0_draw 62 = .ok (.aload_n 0, 1) := by decide +kernel
theorem dX0_draw_63 : decode cX0_draw 63 = .ok (.getfield 25, 3) := by decide +kernel
theorem dX0_draw_66 : decode cX0_draw 66 = .ok (.aload_n 0, 1) := by decide +kernel
theorem dX0_draw_67 : decode cX0_draw 67 = .ok (.getfield 86, 3) := by decide +kernel
theorem dX0_draw_70 : decode cX0_draw 70 = .ok (.iconst 0, 1) := by decide +kernel
theorem dX0_draw_71 : decode cX0_draw 71 = .ok (.iastore, 1) := by decide +kernel
theorem dX0_draw_72 : decode cX0_draw 72 = .ok (.aload_n 0, 1) := by decide +kernel
theorem dX0_draw_73 : decode cX0_draw 73 = .ok (.dup, 1) := by decide +kernel
theorem dX0_draw_74 : decode cX0_draw 74 = .ok (.getfield 86, 3) := by decide +kernel
theorem dX0_draw_77 : decode cX0_draw 77 = .ok (.iconst 1, 1) := by decide +kernel
theorem dX0_draw_78 : decode cX0_draw 78 = .ok (.iadd, 1) := by decide +kernel
theorem dX0_draw_79 : decode cX0_draw 79 = .ok (.putfield 86, 3) := by decide +kernel
theorem dX0_draw_82 : decode cX0_draw 82 = .ok (.iload_n 3, 1) := by decide +kernel
theorem dX0_draw_83 : decode cX0_draw 83 = .ok (.ireturn, 1) := by decide +kernel
set_option maxRecDepth 20000 in
theorem ggX0_throwAway_X0_checkSample : GoodIn wsX0_throwAway wsX0_checkSample := goodIn_ca (goodIn_r _ [6, 7, 8, 1, 17, 18, 19, 20, 21, 22, 23, 24, 25, 26, 27, 28, 29, 30, 31] (by decide +kernel) (by decide +kernel)) (goodIn_sub (fun _ h => List.mem_cons_of_mem _ (List.mem_append_right _ h)) (by decide +kernel))
set_option maxRecDepth 20000 in
theorem gX0_throwAway_X0_checkSample : GoodIn wsX0_throwAway (wsV RX0 116 RX0 yX0_checkSample wsX0_checkSample) := goodIn_app (goodIn_of _ (by decide +kernel)) ggX0_throwAway_X0_checkSample
set_option maxRecDepth 20000 in
theorem ggX0_throwAway_X0_moveSample : GoodIn wsX0_throwAway wsX0_moveSample := goodIn_r _ [12, 13, 14, 15, 16, 17, 18, 19, 20, 21, 22, 23, 24, 25, 26, 27, 28, 29, 30, 31] (by decide +kernel) (by decide +kernel)
set_option maxRecDepth 20000 in
theorem gX0_throwAway_X0_moveSample : GoodIn wsX0_throwAway (wsV RX0 119 RX0 yX0_moveSample wsX0_moveSample) := goodIn_app (goodIn_of _ (by decide +kernel)) ggX0_throwAway_X0_moveSample
theorem dX0_throwAway_0 : decode cX0_throwAway 0 = .ok (.aload_n 0, 1) := by decide +kernel
theorem dX0_throwAway_1 : decode cX0_throwAway 1 = .ok (.iload_n 1, 1) := by decide +kernel
theorem dX0_throwAway_2 : decode cX0_throwAway 2 = .ok (.invokevirtual 116, 3) := by decide +kernel
theorem dX0_throwAway_5 : decode cX0_throwAway 5 = .ok (.iload_n 1, 1) := by decide +kernel
theorem dX0_throwAway_6 : decode cX0_throwAway 6 = .ok (.iconst 1, 1) := by decide +kernel
theorem dX0_throwAway_7 : decode cX0_throwAway 7 = .ok (.iadd, 1) := by decide +kernel
theorem dX0_throwAway_8 : decode cX0_throwAway 8 = .ok (.istore_n 2, 1) := by decide +kernel
theorem dX0_throwAway_9 : decode cX0_throwAway 9 = .ok (.iload_n 2, 1) := by decide +kernel
theorem dX0_throwAway_10 : decode cX0_throwAway 10 = .ok (.aload_n 0, 1) := by decide +kernel
theorem dX0_throwAway_11 : decode cX0_throwAway 11 = .ok (.getfield 86, 3) := by decide +kernel
theorem dX0_throwAway_14 : decode cX0_throwAway 14 = .ok (.if_icmp .ge 17, 3) := by decide +kernel
theorem dX0_throwAway_17 : decode cX0_throwAway 17 = .ok (.aload_n 0, 1) := by decide +kernel
theorem dX0_throwAway_18 : decode cX0_throwAway 18 = .ok (.iload_n 2, 1) := by decide +kernel
theorem dX0_throwAway_19 : decode cX0_throwAway 19 = .ok (.iload_n 2, 1) := by decide +kernel
theorem dX0_throwAway_20 : decode cX0_throwAway 20 = .ok (.iconst 1, 1) := by decide +kernel
theorem dX0_throwAway_21 : decode cX0_throwAway 21 = .ok (.isub, 1) := by decide +kernel
theorem dX0_throwAway_22 : decode cX0_throwAway 22 = .ok (.invokevirtual 119, 3) := by decide +kernel
theorem dX0_throwAway_25 : decode cX0_throwAway 25 = .ok (.iinc 2 1, 3) := by decide +kernel
theorem dX0_throwAway_28 : decode cX0_throwAway 28 = .ok (.goto (-19), 3) := by decide +kernel
theorem dX0_throwAway_31 : decode cX0_throwAway 31 = .ok (.aload_n 0, 1) := by decide +kernel
theorem dX0_throwAway_32 : decode cX0_throwAway 32 = .ok (.dup, 1) := by decide +kernel
theorem dX0_throwAway_33 : decode cX0_throwAway 33 = .ok (.getfield 86, 3) := by decide +kernel
theorem dX0_throwAway_36 : decode cX0_throwAway 36 = .ok (.iconst 1, 1) := by decide +kernel
theorem dX0_throwAway_37 : decode cX0_throwAway 37 = .ok (.isub, 1) := by decide +kernel
theorem dX0_throwAway_38 : decode cX0_throwAway 38 = .ok (.putfield 86, 3) := by decide +kernel
theorem dX0_throwAway_41 : decode cX0_throwAway 41 = .ok (.aload_n 0, 1) := by decide +kernel
theorem dX0_throwAway_42 : decode cX0_throwAway 42 = .ok (.getfield 86, 3) := by decide +kernel
theorem dX0_throwAway_45 : decode cX0_throwAway 45 = .ok (.ireturn, 1) := by decide +kernel
theorem dX0_samples_0 : decode cX0_samples 0 = .ok (.aload_n 0, 1) := by decide +kernel
theorem dX0_samples_1 : decode cX0_samples 1 = .ok (.getfield 86, 3) := by decide +kernel
theorem dX0_samples_4 : decode cX0_samples 4 = .ok (.ireturn, 1) := by decide +kernel
set_option maxRecDepth 20000 in
theorem ggX0_lowestOf_X0_checkSample : GoodIn wsX0_lowestOf wsX0_checkSample := goodIn_ca (goodIn_r _ [6, 7, 8, 9, 10, 11, 12, 13, 14, 15, 16, 17, 18, 19, 20, 21, 22, 23, 24] (by decide +kernel) (by decide +kernel)) (goodIn_sub (fun _ h => List.mem_cons_of_mem _ (List.mem_append_right _ h)) (by decide +kernel))
set_option maxRecDepth 20000 in
theorem gX0_lowestOf_X0_checkSample : GoodIn wsX0_lowestOf (wsV RX0 116 RX0 yX0_checkSample wsX0_checkSample) := goodIn_app (goodIn_of _ (by decide +kernel)) ggX0_lowestOf_X0_checkSample
theorem dX0_lowestOf_0 : decode cX0_lowestOf 0 = .ok (.aload_n 0, 1) := by decide +kernel
theorem dX0_lowestOf_1 : decode cX0_lowestOf 1 = .ok (.iload_n 1, 1) := by decide +kernel
theorem dX0_lowestOf_2 : decode cX0_lowestOf 2 = .ok (.invokevirtual 116, 3) := by decide +kernel
theorem dX0_lowestOf_5 : decode cX0_lowestOf 5 = .ok (.aload_n 0, 1) := by decide +kernel
theorem dX0_lowestOf_6 : decode cX0_lowestOf 6 = .ok (.getfield 16, 3) := by decide +kernel
theorem dX0_lowestOf_9 : decode cX0_lowestOf 9 = .ok (.iload_n 1, 1) := by decide +kernel
theorem dX0_lowestOf_10 : decode cX0_lowestOf 10 = .ok (.iaload, 1) := by decide +kernel
theorem dX0_lowestOf_11 : decode cX0_lowestOf 11 = .ok (.ireturn, 1) := by decide +kernel
set_option maxRecDepth 20000 in
theorem ggX0_highestOf_X0_checkSample : GoodIn wsX0_highestOf wsX0_checkSample := goodIn_ca (goodIn_r _ [6, 7, 8, 9, 10, 11, 12, 13, 14, 15, 16, 17, 18, 19, 20, 21, 22, 23, 24] (by decide +kernel) (by decide +kernel)) (goodIn_sub (fun _ h => List.mem_cons_of_mem _ (List.mem_append_right _ h)) (by decide +kernel))
set_option maxRecDepth 20000 in
theorem gX0_highestOf_X0_checkSample : GoodIn wsX0_highestOf (wsV RX0 116 RX0 yX0_checkSample wsX0_checkSample) := goodIn_app (goodIn_of _ (by decide +kernel)) ggX0_highestOf_X0_checkSample
theorem dX0_highestOf_0 : decode cX0_highestOf 0 = .ok (.aload_n 0, 1) := by decide +kernel
theorem dX0_highestOf_1 : decode cX0_highestOf 1 = .ok (.iload_n 1, 1) := by decide +kernel
theorem dX0_highestOf_2 : decode cX0_highestOf 2 = .ok (.invokevirtual 116, 3) := by decide +kernel
theorem dX0_highestOf_5 : decode cX0_highestOf 5 = .ok (.aload_n 0, 1) := by decide +kernel
theorem dX0_highestOf_6 : decode cX0_highestOf 6 = .ok (.getfield 19, 3) := by decide +kernel
theorem dX0_highestOf_9 : decode cX0_highestOf 9 = .ok (.iload_n 1, 1) := by decide +kernel
theorem dX0_highestOf_10 : decode cX0_highestOf 10 = .ok (.iaload, 1) := by decide +kernel
theorem dX0_highestOf_11 : decode cX0_highestOf 11 = .ok (.ireturn, 1) := by decide +kernel
set_option maxRecDepth 20000 in
theorem ggX0_sumOf_X0_checkSample : GoodIn wsX0_sumOf wsX0_checkSample := goodIn_ca (goodIn_r _ [6, 7, 8, 9, 10, 11, 12, 13, 14, 15, 16, 17, 18, 19, 20, 21, 22, 23, 24] (by decide +kernel) (by decide +kernel)) (goodIn_sub (fun _ h => List.mem_cons_of_mem _ (List.mem_append_right _ h)) (by decide +kernel))
set_option maxRecDepth 20000 in
theorem gX0_sumOf_X0_checkSample : GoodIn wsX0_sumOf (wsV RX0 116 RX0 yX0_checkSample wsX0_checkSample) := goodIn_app (goodIn_of _ (by decide +kernel)) ggX0_sumOf_X0_checkSample
theorem dX0_sumOf_0 : decode cX0_sumOf 0 = .ok (.aload_n 0, 1) := by decide +kernel
theorem dX0_sumOf_1 : decode cX0_sumOf 1 = .ok (.iload_n 1, 1) := by decide +kernel
theorem dX0_sumOf_2 : decode cX0_sumOf 2 = .ok (.invokevirtual 116, 3) := by decide +kernel
theorem dX0_sumOf_5 : decode cX0_sumOf 5 = .ok (.aload_n 0, 1) := by decide +kernel
theorem dX0_sumOf_6 : decode cX0_sumOf 6 = .ok (.getfield 22, 3) := by decide +kernel
theorem dX0_sumOf_9 : decode cX0_sumOf 9 = .ok (.iload_n 1, 1) := by decide +kernel
theorem dX0_sumOf_10 : decode cX0_sumOf 10 = .ok (.iaload, 1) := by decide +kernel
theorem dX0_sumOf_11 : decode cX0_sumOf 11 = .ok (.ireturn, 1) := by decide +kernel
set_option maxRecDepth 20000 in
theorem ggX0_doubtOf_X0_checkSample : GoodIn wsX0_doubtOf wsX0_checkSample := goodIn_ca (goodIn_r _ [6, 7, 8, 9, 10, 11, 12, 13, 14, 15, 16, 17, 18, 19, 20, 21, 22, 23, 24] (by decide +kernel) (by decide +kernel)) (goodIn_sub (fun _ h => List.mem_cons_of_mem _ (List.mem_append_right _ h)) (by decide +kernel))
set_option maxRecDepth 20000 in
theorem gX0_doubtOf_X0_checkSample : GoodIn wsX0_doubtOf (wsV RX0 116 RX0 yX0_checkSample wsX0_checkSample) := goodIn_app (goodIn_of _ (by decide +kernel)) ggX0_doubtOf_X0_checkSample
theorem dX0_doubtOf_0 : decode cX0_doubtOf 0 = .ok (.aload_n 0, 1) := by decide +kernel
theorem dX0_doubtOf_1 : decode cX0_doubtOf 1 = .ok (.iload_n 1, 1) := by decide +kernel
theorem dX0_doubtOf_2 : decode cX0_doubtOf 2 = .ok (.invokevirtual 116, 3) := by decide +kernel
theorem dX0_doubtOf_5 : decode cX0_doubtOf 5 = .ok (.aload_n 0, 1) := by decide +kernel
theorem dX0_doubtOf_6 : decode cX0_doubtOf 6 = .ok (.getfield 25, 3) := by decide +kernel
theorem dX0_doubtOf_9 : decode cX0_doubtOf 9 = .ok (.iload_n 1, 1) := by decide +kernel
theorem dX0_doubtOf_10 : decode cX0_doubtOf 10 = .ok (.iaload, 1) := by decide +kernel
theorem dX0_doubtOf_11 : decode cX0_doubtOf 11 = .ok (.ireturn, 1) := by decide +kernel
theorem dX0_layers_0 : decode cX0_layers 0 = .ok (.aload_n 0, 1) := by decide +kernel
theorem dX0_layers_1 : decode cX0_layers 1 = .ok (.getfield 57, 3) := by decide +kernel
theorem dX0_layers_4 : decode cX0_layers 4 = .ok (.ireturn, 1) := by decide +kernel
theorem dX0_day_0 : decode cX0_day 0 = .ok (.aload_n 0, 1) := by decide +kernel
theorem dX0_day_1 : decode cX0_day 1 = .ok (.getfield 104, 3) := by decide +kernel
theorem dX0_day_4 : decode cX0_day 4 = .ok (.ireturn, 1) := by decide +kernel
theorem dX0_limit_0 : decode cX0_limit 0 = .ok (.aload_n 0, 1) := by decide +kernel
theorem dX0_limit_1 : decode cX0_limit 1 = .ok (.getfield 39, 3) := by decide +kernel
theorem dX0_limit_4 : decode cX0_limit 4 = .ok (.ireturn, 1) := by decide +kernel
theorem dX0_sold_0 : decode cX0_sold 0 = .ok (.aload_n 0, 1) := by decide +kernel
theorem dX0_sold_1 : decode cX0_sold 1 = .ok (.getfield 122, 3) := by decide +kernel
theorem dX0_sold_4 : decode cX0_sold 4 = .ok (.ireturn, 1) := by decide +kernel
theorem dX0_spoilt_0 : decode cX0_spoilt 0 = .ok (.aload_n 0, 1) := by decide +kernel
theorem dX0_spoilt_1 : decode cX0_spoilt 1 = .ok (.getfield 125, 3) := by decide +kernel
theorem dX0_spoilt_4 : decode cX0_spoilt 4 = .ok (.ireturn, 1) := by decide +kernel
set_option maxRecDepth 20000 in
theorem ggX0_kindOf_X0_checkLayer : GoodIn wsX0_kindOf wsX0_checkLayer := goodIn_ca (goodIn_r _ [6, 7, 8, 9, 10, 11, 12, 13, 14, 15, 16, 17, 18, 19, 20, 21, 22, 23, 24] (by decide +kernel) (by decide +kernel)) (goodIn_sub (fun _ h => List.mem_cons_of_mem _ (List.mem_append_right _ h)) (by decide +kernel))
set_option maxRecDepth 20000 in
theorem gX0_kindOf_X0_checkLayer : GoodIn wsX0_kindOf (wsV RX0 128 RX0 yX0_checkLayer wsX0_checkLayer) := goodIn_app (goodIn_of _ (by decide +kernel)) ggX0_kindOf_X0_checkLayer
theorem dX0_kindOf_0 : decode cX0_kindOf 0 = .ok (.aload_n 0, 1) := by decide +kernel
theorem dX0_kindOf_1 : decode cX0_kindOf 1 = .ok (.iload_n 1, 1) := by decide +kernel
theorem dX0_kindOf_2 : decode cX0_kindOf 2 = .ok (.invokevirtual 128, 3) := by decide +kernel
theorem dX0_kindOf_5 : decode cX0_kindOf 5 = .ok (.aload_n 0, 1) := by decide +kernel
theorem dX0_kindOf_6 : decode cX0_kindOf 6 = .ok (.getfield 9, 3) := by decide +kernel
theorem dX0_kindOf_9 : decode cX0_kindOf 9 = .ok (.iload_n 1, 1) := by decide +kernel
theorem dX0_kindOf_10 : decode cX0_kindOf 10 = .ok (.iaload, 1) := by decide +kernel
theorem dX0_kindOf_11 : decode cX0_kindOf 11 = .ok (.ireturn, 1) := by decide +kernel
set_option maxRecDepth 20000 in
theorem ggX0_dampnessOf_X0_checkLayer : GoodIn wsX0_dampnessOf wsX0_checkLayer := goodIn_ca (goodIn_r _ [6, 7, 8, 9, 10, 11, 12, 13, 14, 15, 16, 17, 18, 19, 20, 21, 22, 23, 24] (by decide +kernel) (by decide +kernel)) (goodIn_sub (fun _ h => List.mem_cons_of_mem _ (List.mem_append_right _ h)) (by decide +kernel))
set_option maxRecDepth 20000 in
theorem gX0_dampnessOf_X0_checkLayer : GoodIn wsX0_dampnessOf (wsV RX0 128 RX0 yX0_checkLayer wsX0_checkLayer) := goodIn_app (goodIn_of _ (by decide +kernel)) ggX0_dampnessOf_X0_checkLayer
theorem dX0_dampnessOf_0 : decode cX0_dampnessOf 0 = .ok (.aload_n 0, 1) := by decide +kernel
theorem dX0_dampnessOf_1 : decode cX0_dampnessOf 1 = .ok (.iload_n 1, 1) := by decide +kernel
theorem dX0_dampnessOf_2 : decode cX0_dampnessOf 2 = .ok (.invokevirtual 128, 3) := by decide +kernel
theorem dX0_dampnessOf_5 : decode cX0_dampnessOf 5 = .ok (.aload_n 0, 1) := by decide +kernel
theorem dX0_dampnessOf_6 : decode cX0_dampnessOf 6 = .ok (.getfield 13, 3) := by decide +kernel
theorem dX0_dampnessOf_9 : decode cX0_dampnessOf 9 = .ok (.iload_n 1, 1) := by decide +kernel
theorem dX0_dampnessOf_10 : decode cX0_dampnessOf 10 = .ok (.iaload, 1) := by decide +kernel
theorem dX0_dampnessOf_11 : decode cX0_dampnessOf 11 = .ok (.ireturn, 1) := by decide +kernel
set_option maxRecDepth 20000 in
theorem ggX0_dampLayers_X0_isDamp : GoodIn wsX0_dampLayers wsX0_isDamp := goodIn_r _ [7, 8, 9, 10, 11, 12, 13, 14, 15, 16, 17, 18, 19, 20, 21, 22, 23] (by decide +kernel) (by decide +kernel)
set_option maxRecDepth 20000 in
theorem gX0_dampLayers_X0_isDamp : GoodIn wsX0_dampLayers (wsV RX0 131 RX0 yX0_isDamp wsX0_isDamp) := goodIn_app (goodIn_of _ (by decide +kernel)) ggX0_dampLayers_X0_isDamp
theorem dX0_dampLayers_0 : decode cX0_dampLayers 0 = .ok (.iconst 0, 1) := by decide +kernel
theorem dX0_dampLayers_1 : decode cX0_dampLayers 1 = .ok (.istore_n 1, 1) := by decide +kernel
theorem dX0_dampLayers_2 : decode cX0_dampLayers 2 = .ok (.iconst 0, 1) := by decide +kernel
theorem dX0_dampLayers_3 : decode cX0_dampLayers 3 = .ok (.istore_n 2, 1) := by decide +kernel
theorem dX0_dampLayers_4 : decode cX0_dampLayers 4 = .ok (.iload_n 2, 1) := by decide +kernel
theorem dX0_dampLayers_5 : decode cX0_dampLayers 5 = .ok (.aload_n 0, 1) := by decide +kernel
theorem dX0_dampLayers_6 : decode cX0_dampLayers 6 = .ok (.getfield 57, 3) := by decide +kernel
theorem dX0_dampLayers_9 : decode cX0_dampLayers 9 = .ok (.if_icmp .ge 25, 3) := by decide +kernel
theorem dX0_dampLayers_12 : decode cX0_dampLayers 12 = .ok (.aload_n 0, 1) := by decide +kernel
theorem dX0_dampLayers_13 : decode cX0_dampLayers 13 = .ok (.aload_n 0, 1) := by decide +kernel
theorem dX0_dampLayers_14 : decode cX0_dampLayers 14 = .ok (.getfield 13, 3) := by decide +kernel
theorem dX0_dampLayers_17 : decode cX0_dampLayers 17 = .ok (.iload_n 2, 1) := by decide +kernel
theorem dX0_dampLayers_18 : decode cX0_dampLayers 18 = .ok (.iaload, 1) := by decide +kernel
theorem dX0_dampLayers_19 : decode cX0_dampLayers 19 = .ok (.invokevirtual 131, 3) := by decide +kernel
theorem dX0_dampLayers_22 : decode cX0_dampLayers 22 = .ok (.ifCond .eq 6, 3) := by decide +kernel
theorem dX0_dampLayers_25 : decode cX0_dampLayers 25 = .ok (.iinc 1 1, 3) := by decide +kernel
theorem dX0_dampLayers_28 : decode cX0_dampLayers 28 = .ok (.iinc 2 1, 3) := by decide +kernel
theorem dX0_dampLayers_31 : decode cX0_dampLayers 31 = .ok (.goto (-27), 3) := by decide +kernel
theorem dX0_dampLayers_34 : decode cX0_dampLayers 34 = .ok (.iload_n 1, 1) := by decide +kernel
theorem dX0_dampLayers_35 : decode cX0_dampLayers 35 = .ok (.ireturn, 1) := by decide +kernel
set_option maxRecDepth 20000 in
theorem ggX0_layersAheadOf_X0_isKind : GoodIn wsX0_layersAheadOf wsX0_isKind := goodIn_r _ [8] (by decide +kernel) (by decide +kernel)
set_option maxRecDepth 20000 in
theorem gX0_layersAheadOf_X0_isKind : GoodIn wsX0_layersAheadOf (va_wsS RX0 43 yX0_isKind wsX0_isKind) := goodIn_app (goodIn_of _ (by decide +kernel)) ggX0_layersAheadOf_X0_isKind
theorem dX0_layersAheadOf_0 : decode cX0_layersAheadOf 0 = .ok (.iload_n 1, 1) := by decide +kernel
theorem dX0_layersAheadOf_1 : decode cX0_layersAheadOf 1 = .ok (.invokestatic 43, 3) := by decide +kernel
theorem dX0_layersAheadOf_4 : decode cX0_layersAheadOf 4 = .ok (.ifCond .ne 13, 3) := by decide +kernel
theorem dX0_layersAheadOf_7 : decode cX0_layersAheadOf 7 = .ok (.new 134, 3) := by decide +kernel
theorem dX0_layersAheadOf_10 : decode cX0_layersAheadOf 10 = .ok (.dup, 1) := by decide +kernel
theorem dX0_layersAheadOf_11 : decode cX0_layersAheadOf 11 = .ok (.ldc 136, 2) := by decide +kernel
theorem dX0_layersAheadOf_13 : decode cX0_layersAheadOf 13 = .ok (.invokespecial 138, 3) := by decide +kernel
theorem dX0_layersAheadOf_16 : decode cX0_layersAheadOf 16 = .ok (.athrow, 1) := by decide +kernel
theorem dX0_layersAheadOf_17 : decode cX0_layersAheadOf 17 = .ok (.iconst 0, 1) := by decide +kernel
theorem dX0_layersAheadOf_18 : decode cX0_layersAheadOf 18 = .ok (.istore_n 2, 1) := by decide +kernel
theorem dX0_layersAheadOf_19 : decode cX0_layersAheadOf 19 = .ok (.iload_n 2, 1) := by decide +kernel
theorem dX0_layersAheadOf_20 : decode cX0_layersAheadOf 20 = .ok (.aload_n 0, 1) := by decide +kernel
theorem dX0_layersAheadOf_21 : decode cX0_layersAheadOf 21 = .ok (.getfield 57, 3) := by decide +kernel
theorem dX0_layersAheadOf_24 : decode cX0_layersAheadOf 24 = .ok (.if_icmp .ge 21, 3) := by decide +kernel
theorem dX0_layersAheadOf_27 : decode cX0_layersAheadOf 27 = .ok (.aload_n 0, 1) := by decide +kernel
theorem dX0_layersAheadOf_28 : decode cX0_layersAheadOf 28 = .ok (.getfield 9, 3) := by decide +kernel
theorem dX0_layersAheadOf_31 : decode cX0_layersAheadOf 31 = .ok (.iload_n 2, 1) := by decide +kernel
theorem dX0_layersAheadOf_32 : decode cX0_layersAheadOf 32 = .ok (.iaload, 1) := by decide +kernel
theorem dX0_layersAheadOf_33 : decode cX0_layersAheadOf 33 = .ok (.iload_n 1, 1) := by decide +kernel
theorem dX0_layersAheadOf_34 : decode cX0_layersAheadOf 34 = .ok (.if_icmp .ne 5, 3) := by decide +kernel
theorem dX0_layersAheadOf_37 : decode cX0_layersAheadOf 37 = .ok (.iload_n 2, 1) := by decide +kernel
theorem dX0_layersAheadOf_38 : decode cX0_layersAheadOf 38 = .ok (.ireturn, 1) := by decide +kernel
theorem dX0_layersAheadOf_39 : decode cX0_layersAheadOf 39 = .ok (.iinc 2 1, 3) := by decide +kernel
theorem dX0_layersAheadOf_42 : decode cX0_layersAheadOf 42 = .ok (.goto (-23), 3) := by decide +kernel
theorem dX0_layersAheadOf_45 : decode cX0_layersAheadOf 45 = .ok (.iconst (-1), 1) := by decide +kernel
theorem dX0_layersAheadOf_46 : decode cX0_layersAheadOf 46 = .ok (.ireturn, 1) := by decide +kernel
set_option maxRecDepth 20000 in
theorem ggX0_leastOf_X0_checkLayer : GoodIn wsX0_leastOf wsX0_checkLayer := goodIn_ca (goodIn_r _ [5, 6, 7, 8, 35, 36, 37, 38, 39, 40, 41, 42, 43, 44, 45, 46, 47, 48, 49] (by decide +kernel) (by decide +kernel)) (goodIn_sub (fun _ h => List.mem_cons_of_mem _ (List.mem_append_right _ h)) (by decide +kernel))
set_option maxRecDepth 20000 in
theorem gX0_leastOf_X0_checkLayer : GoodIn wsX0_leastOf (wsV RX0 128 RX0 yX0_checkLayer wsX0_checkLayer) := goodIn_app (goodIn_of _ (by decide +kernel)) ggX0_leastOf_X0_checkLayer
set_option maxRecDepth 20000 in
theorem ggX0_leastOf_X0_weighSamples : GoodIn wsX0_leastOf wsX0_weighSamples := goodIn_r _ [12, 13, 14, 15, 16, 17, 18, 19, 20, 4, 21, 8, 22, 23, 24, 25, 26, 27, 28, 29, 30, 35, 36, 37, 38, 39, 40, 41, 42, 43, 44, 45, 46, 47, 48, 49] (by decide +kernel) (by decide +kernel)
set_option maxRecDepth 20000 in
theorem gX0_leastOf_X0_weighSamples : GoodIn wsX0_leastOf (wsV RX0 139 RX0 yX0_weighSamples wsX0_weighSamples) := goodIn_app (goodIn_of _ (by decide +kernel)) ggX0_leastOf_X0_weighSamples
set_option maxRecDepth 20000 in
theorem ggX0_leastOf_X0_least : GoodIn wsX0_leastOf wsX0_least := goodIn_r _ [34, 22, 35, 36, 37, 38, 39, 40, 41, 42, 43, 44, 45, 46, 47, 48, 49] (by decide +kernel) (by decide +kernel)
set_option maxRecDepth 20000 in
theorem gX0_leastOf_X0_least : GoodIn wsX0_leastOf (wsV RX0 142 RX0 yX0_least wsX0_least) := goodIn_app (goodIn_of _ (by decide +kernel)) ggX0_leastOf_X0_least
theorem dX0_leastOf_0 : decode cX0_leastOf 0 = .ok (.aload_n 0, 1) := by decide +kernel
theorem dX0_leastOf_1 : decode cX0_leastOf 1 = .ok (.iload_n 1, 1) := by decide +kernel
theorem dX0_leastOf_2 : decode cX0_leastOf 2 = .ok (.invokevirtual 128, 3) := by decide +kernel
theorem dX0_leastOf_5 : decode cX0_leastOf 5 = .ok (.aload_n 0, 1) := by decide +kernel
theorem dX0_leastOf_6 : decode cX0_leastOf 6 = .ok (.invokevirtual 139, 3) := by decide +kernel
theorem dX0_leastOf_9 : decode cX0_leastOf 9 = .ok (.aload_n 0, 1) := by decide +kernel
theorem dX0_leastOf_10 : decode cX0_leastOf 10 = .ok (.iload_n 1, 1) := by decide +kernel
theorem dX0_leastOf_11 : decode cX0_leastOf 11 = .ok (.iload_n 1, 1) := by decide +kernel
theorem dX0_leastOf_12 : decode cX0_leastOf 12 = .ok (.invokevirtual 142, 3) := by decide +kernel
theorem dX0_leastOf_15 : decode cX0_leastOf 15 = .ok (.ireturn, 1) := by decide +kernel
set_option maxRecDepth 20000 in
theorem ggX0_greatestOf_X0_checkLayer : GoodIn wsX0_greatestOf wsX0_checkLayer := goodIn_ca (goodIn_r _ [5, 6, 7, 8, 35, 36, 37, 38, 39, 40, 41, 42, 43, 44, 45, 46, 47, 48, 49] (by decide +kernel) (by decide +kernel)) (goodIn_sub (fun _ h => List.mem_cons_of_mem _ (List.mem_append_right _ h)) (by decide +kernel))
set_option maxRecDepth 20000 in
theorem gX0_greatestOf_X0_checkLayer : GoodIn wsX0_greatestOf (wsV RX0 128 RX0 yX0_checkLayer wsX0_checkLayer) := goodIn_app (goodIn_of _ (by decide +kernel)) ggX0_greatestOf_X0_checkLayer
set_option maxRecDepth 20000 in
theorem ggX0_greatestOf_X0_weighSamples : GoodIn wsX0_greatestOf wsX0_weighSamples := goodIn_r _ [12, 13, 14, 15, 16, 17, 18, 19, 20, 4, 21, 8, 22, 23, 24, 25, 26, 27, 28, 29, 30, 35, 36, 37, 38, 39, 40, 41, 42, 43, 44, 45, 46, 47, 48, 49] (by decide +kernel) (by decide +kernel)
set_option maxRecDepth 20000 in
theorem gX0_greatestOf_X0_weighSamples : GoodIn wsX0_greatestOf (wsV RX0 139 RX0 yX0_weighSamples wsX0_weighSamples) := goodIn_app (goodIn_of _ (by decide +kernel)) ggX0_greatestOf_X0_weighSamples
set_option maxRecDepth 20000 in
theorem ggX0_greatestOf_X0_greatest : GoodIn wsX0_greatestOf wsX0_greatest := goodIn_r _ [34, 22, 35, 36, 37, 38, 39, 40, 41, 42, 43, 44, 45, 46, 47, 48, 49] (by decide +kernel) (by decide +kernel)
set_option maxRecDepth 20000 in
theorem gX0_greatestOf_X0_greatest : GoodIn wsX0_greatestOf (wsV RX0 145 RX0 yX0_greatest wsX0_greatest) := goodIn_app (goodIn_of _ (by decide +kernel)) ggX0_greatestOf_X0_greatest
theorem dX0_greatestOf_0 : decode cX0_greatestOf 0 = .ok (.aload_n 0, 1) := by decide +kernel
theorem dX0_greatestOf_1 : decode cX0_greatestOf 1 = .ok (.iload_n 1, 1) := by decide +kernel
theorem dX0_greatestOf_2 : decode cX0_greatestOf 2 = .ok (.invokevirtual 128, 3) := by decide +kernel
theorem dX0_greatestOf_5 : decode cX0_greatestOf 5 = .ok (.aload_n 0, 1) := by decide +kernel
theorem dX0_greatestOf_6 : decode cX0_greatestOf 6 = .ok (.invokevirtual 139, 3) := by decide +kernel
theorem dX0_greatestOf_9 : decode cX0_greatestOf 9 = .ok (.aload_n 0, 1) := by decide +kernel
theorem dX0_greatestOf_10 : decode cX0_greatestOf 10 = .ok (.iload_n 1, 1) := by decide +kernel
theorem dX0_greatestOf_11 : decode cX0_greatestOf 11 = .ok (.iload_n 1, 1) := by decide +kernel
theorem dX0_greatestOf_12 : decode cX0_greatestOf 12 = .ok (.invokevirtual 145, 3) := by decide +kernel
theorem dX0_greatestOf_15 : decode cX0_greatestOf 15 = .ok (.ireturn, 1) := by decide +kernel
set_option maxRecDepth 20000 in
theorem ggX0_isKnown_X0_checkLayer : GoodIn wsX0_isKnown wsX0_checkLayer := goodIn_ca (goodIn_r _ [5, 6, 7, 8, 39, 40, 41, 42, 43, 44, 45, 46, 47, 48, 49, 50, 51, 52, 53] (by decide +kernel) (by decide +kernel)) (goodIn_sub (fun _ h => List.mem_cons_of_mem _ (List.mem_append_right _ h)) (by decide +kernel))
set_option maxRecDepth 20000 in
theorem gX0_isKnown_X0_checkLayer : GoodIn wsX0_isKnown (wsV RX0 128 RX0 yX0_checkLayer wsX0_checkLayer) := goodIn_app (goodIn_of _ (by decide +kernel)) ggX0_isKnown_X0_checkLayer
set_option maxRecDepth 20000 in
theorem ggX0_isKnown_X0_weighSamples : GoodIn wsX0_isKnown wsX0_weighSamples := goodIn_r _ [12, 13, 14, 15, 16, 17, 18, 19, 20, 4, 21, 8, 22, 23, 24, 25, 26, 27, 28, 29, 30, 39, 40, 41, 42, 43, 44, 45, 46, 47, 48, 49, 50, 51, 52, 53] (by decide +kernel) (by decide +kernel)
set_option maxRecDepth 20000 in
theorem gX0_isKnown_X0_weighSamples : GoodIn wsX0_isKnown (wsV RX0 139 RX0 yX0_weighSamples wsX0_weighSamples) := goodIn_app (goodIn_of _ (by decide +kernel)) ggX0_isKnown_X0_weighSamples
set_option maxRecDepth 20000 in
theorem ggX0_isKnown_X0_least : GoodIn wsX0_isKnown wsX0_least := goodIn_r _ [34, 22, 39, 40, 41, 42, 43, 44, 45, 46, 47, 48, 49, 50, 51, 52, 53] (by decide +kernel) (by decide +kernel)
set_option maxRecDepth 20000 in
theorem gX0_isKnown_X0_least : GoodIn wsX0_isKnown (wsV RX0 142 RX0 yX0_least wsX0_least) := goodIn_app (goodIn_of _ (by decide +kernel)) ggX0_isKnown_X0_least
set_option maxRecDepth 20000 in
theorem ggX0_isKnown_X0_greatest : GoodIn wsX0_isKnown wsX0_greatest := goodIn_r _ [38, 22, 39, 40, 41, 42, 43, 44, 45, 46, 47, 48, 49, 50, 51, 52, 53] (by decide +kernel) (by decide +kernel)
set_option maxRecDepth 20000 in
theorem gX0_isKnown_X0_greatest : GoodIn wsX0_isKnown (wsV RX0 145 RX0 yX0_greatest wsX0_greatest) := goodIn_app (goodIn_of _ (by decide +kernel)) ggX0_isKnown_X0_greatest
theorem dX0_isKnown_0 : decode cX0_isKnown 0 = .ok (.aload_n 0, 1) := by decide +kernel
theorem dX0_isKnown_1 : decode cX0_isKnown 1 = .ok (.iload_n 1, 1) := by decide +kernel
theorem dX0_isKnown_2 : decode cX0_isKnown 2 = .ok (.invokevirtual 128, 3) := by decide +kernel
theorem dX0_isKnown_5 : decode cX0_isKnown 5 = .ok (.aload_n 0, 1) := by decide +kernel
theorem dX0_isKnown_6 : decode cX0_isKnown 6 = .ok (.invokevirtual 139, 3) := by decide +kernel
theorem dX0_isKnown_9 : decode cX0_isKnown 9 = .ok (.aload_n 0, 1) := by decide +kernel
theorem dX0_isKnown_10 : decode cX0_isKnown 10 = .ok (.iload_n 1, 1) := by decide +kernel
theorem dX0_isKnown_11 : decode cX0_isKnown 11 = .ok (.iload_n 1, 1) := by decide +kernel
theorem dX0_isKnown_12 : decode cX0_isKnown 12 = .ok (.invokevirtual 142, 3) := by decide +kernel
theorem dX0_isKnown_15 : decode cX0_isKnown 15 = .ok (.aload_n 0, 1) := by decide +kernel
theorem dX0_isKnown_16 : decode cX0_isKnown 16 = .ok (.iload_n 1, 1) := by decide +kernel
theorem dX0_isKnown_17 : decode cX0_isKnown 17 = .ok (.iload_n 1, 1) := by decide +kernel
theorem dX0_isKnown_18 : decode cX0_isKnown 18 = .ok (.invokevirtual 145, 3) := by decide +kernel
theorem dX0_isKnown_21 : decode cX0_isKnown 21 = .ok (.if_icmp .ne 7, 3) := by decide +kernel
theorem dX0_isKnown_24 : decode cX0_isKnown 24 = .ok (.iconst 1, 1) := by decide +kernel
theorem dX0_isKnown_25 : decode cX0_isKnown 25 = .ok (.goto 4, 3) := by decide +kernel
theorem dX0_isKnown_28 : decode cX0_isKnown 28 = .ok (.iconst 0, 1) := by decide +kernel
theorem dX0_isKnown_29 : decode cX0_isKnown 29 = .ok (.ireturn, 1) := by decide +kernel
set_option maxRecDepth 20000 in
theorem ggX0_surelyDry_X0_weighSamples : GoodIn wsX0_surelyDry wsX0_weighSamples := goodIn_r _ [5, 6, 7, 8, 9, 10, 11, 12, 13, 4, 14, 15, 16, 17, 18, 19, 20, 21, 22, 23, 24, 38, 39, 40, 41, 42, 43, 44, 45, 46, 47, 48, 49, 50, 51, 52] (by decide +kernel) (by decide +kernel)
set_option maxRecDepth 20000 in
theorem gX0_surelyDry_X0_weighSamples : GoodIn wsX0_surelyDry (wsV RX0 139 RX0 yX0_weighSamples wsX0_weighSamples) := goodIn_app (goodIn_of _ (by decide +kernel)) ggX0_surelyDry_X0_weighSamples
set_option maxRecDepth 20000 in
theorem ggX0_surelyDry_X0_countSurelyDry : GoodIn wsX0_surelyDry wsX0_countSurelyDry := goodIn_r _ [28, 15, 29, 30, 31, 4, 32, 16, 33, 34, 35, 36, 37, 38, 39, 40, 41, 42, 43, 44, 45, 46, 47, 48, 49, 50, 51, 52] (by decide +kernel) (by decide +kernel)
set_option maxRecDepth 20000 in
theorem gX0_surelyDry_X0_countSurelyDry : GoodIn wsX0_surelyDry (wsV RX0 148 RX0 yX0_countSurelyDry wsX0_countSurelyDry) := goodIn_app (goodIn_of _ (by decide +kernel)) ggX0_surelyDry_X0_countSurelyDry
theorem dX0_surelyDry_0 : decode cX0_surelyDry 0 = .ok (.aload_n 0, 1) := by decide +kernel
theorem dX0_surelyDry_1 : decode cX0_surelyDry 1 = .ok (.invokevirtual 139, 3) := by decide +kernel
theorem dX0_surelyDry_4 : decode cX0_surelyDry 4 = .ok (.aload_n 0, 1) := by decide +kernel
theorem dX0_surelyDry_5 : decode cX0_surelyDry 5 = .ok (.invokevirtual 148, 3) := by decide +kernel
theorem dX0_surelyDry_8 : decode cX0_surelyDry 8 = .ok (.ireturn, 1) := by decide +kernel
set_option maxRecDepth 20000 in
theorem ggX0_surelyDamp_X0_weighSamples : GoodIn wsX0_surelyDamp wsX0_weighSamples := goodIn_r _ [5, 6, 7, 8, 9, 10, 11, 12, 13, 4, 14, 15, 16, 17, 18, 19, 20, 21, 22, 23, 24, 38, 39, 40, 41, 42, 43, 44, 45, 46, 47, 48, 49, 50, 51, 52] (by decide +kernel) (by decide +kernel)
set_option maxRecDepth 20000 in
theorem gX0_surelyDamp_X0_weighSamples : GoodIn wsX0_surelyDamp (wsV RX0 139 RX0 yX0_weighSamples wsX0_weighSamples) := goodIn_app (goodIn_of _ (by decide +kernel)) ggX0_surelyDamp_X0_weighSamples
set_option maxRecDepth 20000 in
theorem ggX0_surelyDamp_X0_countSurelyDamp : GoodIn wsX0_surelyDamp wsX0_countSurelyDamp := goodIn_r _ [28, 15, 29, 30, 31, 4, 32, 16, 33, 34, 35, 36, 37, 38, 39, 40, 41, 42, 43, 44, 45, 46, 47, 48, 49, 50, 51, 52] (by decide +kernel) (by decide +kernel)
set_option maxRecDepth 20000 in
theorem gX0_surelyDamp_X0_countSurelyDamp : GoodIn wsX0_surelyDamp (wsV RX0 152 RX0 yX0_countSurelyDamp wsX0_countSurelyDamp) := goodIn_app (goodIn_of _ (by decide +kernel)) ggX0_surelyDamp_X0_countSurelyDamp
theorem dX0_surelyDamp_0 : decode cX0_surelyDamp 0 = .ok (.aload_n 0, 1) := by decide +kernel
theorem dX0_surelyDamp_1 : decode cX0_surelyDamp 1 = .ok (.invokevirtual 139, 3) := by decide +kernel
theorem dX0_surelyDamp_4 : decode cX0_surelyDamp 4 = .ok (.aload_n 0, 1) := by decide +kernel
theorem dX0_surelyDamp_5 : decode cX0_surelyDamp 5 = .ok (.invokevirtual 152, 3) := by decide +kernel
theorem dX0_surelyDamp_8 : decode cX0_surelyDamp 8 = .ok (.ireturn, 1) := by decide +kernel
set_option maxRecDepth 20000 in
theorem ggX0_worstLayer_X0_checkNotEmpty : GoodIn wsX0_worstLayer wsX0_checkNotEmpty := goodIn_ca (goodIn_r _ [6, 7, 8, 1, 35, 36, 37, 38, 39, 40, 41, 42, 43, 44, 45, 46, 47, 48, 49] (by decide +kernel) (by decide +kernel)) (goodIn_sub (fun _ h => List.mem_cons_of_mem _ (List.mem_append_right _ h)) (by decide +kernel))
set_option maxRecDepth 20000 in
theorem gX0_worstLayer_X0_checkNotEmpty : GoodIn wsX0_worstLayer (wsV RX0 155 RX0 yX0_checkNotEmpty wsX0_checkNotEmpty) := goodIn_app (goodIn_of _ (by decide +kernel)) ggX0_worstLayer_X0_checkNotEmpty
set_option maxRecDepth 20000 in
theorem ggX0_worstLayer_X0_weighSamples : GoodIn wsX0_worstLayer wsX0_weighSamples := goodIn_r _ [12, 13, 14, 15, 16, 17, 18, 19, 20, 5, 21, 1, 22, 23, 24, 25, 26, 27, 28, 29, 30, 35, 36, 37, 38, 39, 40, 41, 42, 43, 44, 45, 46, 47, 48, 49] (by decide +kernel) (by decide +kernel)
set_option maxRecDepth 20000 in
theorem gX0_worstLayer_X0_weighSamples : GoodIn wsX0_worstLayer (wsV RX0 139 RX0 yX0_weighSamples wsX0_weighSamples) := goodIn_app (goodIn_of _ (by decide +kernel)) ggX0_worstLayer_X0_weighSamples
set_option maxRecDepth 20000 in
theorem ggX0_worstLayer_X0_greatest : GoodIn wsX0_worstLayer wsX0_greatest := goodIn_r _ [34, 22, 35, 36, 37, 38, 39, 40, 41, 42, 43, 44, 45, 46, 47, 48, 49] (by decide +kernel) (by decide +kernel)
set_option maxRecDepth 20000 in
theorem gX0_worstLayer_X0_greatest : GoodIn wsX0_worstLayer (wsV RX0 145 RX0 yX0_greatest wsX0_greatest) := goodIn_app (goodIn_of _ (by decide +kernel)) ggX0_worstLayer_X0_greatest
theorem dX0_worstLayer_0 : decode cX0_worstLayer 0 = .ok (.aload_n 0, 1) := by decide +kernel
theorem dX0_worstLayer_1 : decode cX0_worstLayer 1 = .ok (.invokevirtual 155, 3) := by decide +kernel
theorem dX0_worstLayer_4 : decode cX0_worstLayer 4 = .ok (.aload_n 0, 1) := by decide +kernel
theorem dX0_worstLayer_5 : decode cX0_worstLayer 5 = .ok (.invokevirtual 139, 3) := by decide +kernel
theorem dX0_worstLayer_8 : decode cX0_worstLayer 8 = .ok (.iconst 0, 1) := by decide +kernel
theorem dX0_worstLayer_9 : decode cX0_worstLayer 9 = .ok (.istore_n 1, 1) := by decide +kernel
theorem dX0_worstLayer_10 : decode cX0_worstLayer 10 = .ok (.iconst 1, 1) := by decide +kernel
theorem dX0_worstLayer_11 : decode cX0_worstLayer 11 = .ok (.istore_n 2, 1) := by decide +kernel
theorem dX0_worstLayer_12 : decode cX0_worstLayer 12 = .ok (.iload_n 2, 1) := by decide +kernel
theorem dX0_worstLayer_13 : decode cX0_worstLayer 13 = .ok (.aload_n 0, 1) := by decide +kernel
theorem dX0_worstLayer_14 : decode cX0_worstLayer 14 = .ok (.getfield 57, 3) := by decide +kernel
theorem dX0_worstLayer_17 : decode cX0_worstLayer 17 = .ok (.if_icmp .ge 26, 3) := by decide +kernel
theorem dX0_worstLayer_20 : decode cX0_worstLayer 20 = .ok (.aload_n 0, 1) := by decide +kernel
theorem dX0_worstLayer_21 : decode cX0_worstLayer 21 = .ok (.iload_n 2, 1) := by decide +kernel
theorem dX0_worstLayer_22 : decode cX0_worstLayer 22 = .ok (.iload_n 2, 1) := by decide +kernel
theorem dX0_worstLayer_23 : decode cX0_worstLayer 23 = .ok (.invokevirtual 145, 3) := by decide +kernel
theorem dX0_worstLayer_26 : decode cX0_worstLayer 26 = .ok (.aload_n 0, 1) := by decide +kernel
theorem dX0_worstLayer_27 : decode cX0_worstLayer 27 = .ok (.iload_n 1, 1) := by decide +kernel
theorem dX0_worstLayer_28 : decode cX0_worstLayer 28 = .ok (.iload_n 1, 1) := by decide +kernel
theorem dX0_worstLayer_29 : decode cX0_worstLayer 29 = .ok (.invokevirtual 145, 3) := by decide +kernel
theorem dX0_worstLayer_32 : decode cX0_worstLayer 32 = .ok (.if_icmp .le 5, 3) := by decide +kernel
theorem dX0_worstLayer_35 : decode cX0_worstLayer 35 = .ok (.iload_n 2, 1) := by decide +kernel
theorem dX0_worstLayer_36 : decode cX0_worstLayer 36 = .ok (.istore_n 1, 1) := by decide +kernel
theorem dX0_worstLayer_37 : decode cX0_worstLayer 37 = .ok (.iinc 2 1, 3) := by decide +kernel
theorem dX0_worstLayer_40 : decode cX0_worstLayer 40 = .ok (.goto (-28), 3) := by decide +kernel
theorem dX0_worstLayer_43 : decode cX0_worstLayer 43 = .ok (.iload_n 1, 1) := by decide +kernel
theorem dX0_worstLayer_44 : decode cX0_worstLayer 44 = .ok (.ireturn, 1) := by decide +kernel
set_option maxRecDepth 20000 in
theorem ggX0_doubt_X0_weighSamples : GoodIn wsX0_doubt wsX0_weighSamples := goodIn_r _ [5, 6, 7, 8, 9, 10, 11, 12, 13, 4, 14, 15, 16, 17, 18, 19, 20, 21, 22, 23, 24, 37, 38, 39, 40, 41, 42, 43, 44, 45, 46, 47, 48, 49, 50, 51] (by decide +kernel) (by decide +kernel)
set_option maxRecDepth 20000 in
theorem gX0_doubt_X0_weighSamples : GoodIn wsX0_doubt (wsV RX0 139 RX0 yX0_weighSamples wsX0_weighSamples) := goodIn_app (goodIn_of _ (by decide +kernel)) ggX0_doubt_X0_weighSamples
set_option maxRecDepth 20000 in
theorem ggX0_doubt_X0_doubtNow : GoodIn wsX0_doubt wsX0_doubtNow := goodIn_r _ [28, 15, 29, 30, 31, 4, 32, 16, 33, 34, 35, 36, 37, 38, 39, 40, 41, 42, 43, 44, 45, 46, 47, 48, 49, 50, 51] (by decide +kernel) (by decide +kernel)
set_option maxRecDepth 20000 in
theorem gX0_doubt_X0_doubtNow : GoodIn wsX0_doubt (wsV RX0 158 RX0 yX0_doubtNow wsX0_doubtNow) := goodIn_app (goodIn_of _ (by decide +kernel)) ggX0_doubt_X0_doubtNow
theorem dX0_doubt_0 : decode cX0_doubt 0 = .ok (.aload_n 0, 1) := by decide +kernel
theorem dX0_doubt_1 : decode cX0_doubt 1 = .ok (.invokevirtual 139, 3) := by decide +kernel
theorem dX0_doubt_4 : decode cX0_doubt 4 = .ok (.aload_n 0, 1) := by decide +kernel
theorem dX0_doubt_5 : decode cX0_doubt 5 = .ok (.invokevirtual 158, 3) := by decide +kernel
theorem dX0_doubt_8 : decode cX0_doubt 8 = .ok (.ireturn, 1) := by decide +kernel
set_option maxRecDepth 20000 in
theorem ggX0_leastSum_X0_checkLayers : GoodIn wsX0_leastSum wsX0_checkLayers := goodIn_ca (goodIn_r _ [5, 6, 7, 8, 35, 36, 37, 38, 39, 40, 41, 42, 43, 44, 45, 46, 47, 48, 49] (by decide +kernel) (by decide +kernel)) (goodIn_sub (fun _ h => List.mem_cons_of_mem _ (List.mem_append_right _ h)) (by decide +kernel))
set_option maxRecDepth 20000 in
theorem gX0_leastSum_X0_checkLayers : GoodIn wsX0_leastSum (wsV RX0 107 RX0 yX0_checkLayers wsX0_checkLayers) := goodIn_app (goodIn_of _ (by decide +kernel)) ggX0_leastSum_X0_checkLayers
set_option maxRecDepth 20000 in
theorem ggX0_leastSum_X0_weighSamples : GoodIn wsX0_leastSum wsX0_weighSamples := goodIn_r _ [12, 13, 14, 15, 16, 17, 18, 19, 20, 4, 21, 8, 22, 23, 24, 25, 26, 27, 28, 29, 30, 35, 36, 37, 38, 39, 40, 41, 42, 43, 44, 45, 46, 47, 48, 49] (by decide +kernel) (by decide +kernel)
set_option maxRecDepth 20000 in
theorem gX0_leastSum_X0_weighSamples : GoodIn wsX0_leastSum (wsV RX0 139 RX0 yX0_weighSamples wsX0_weighSamples) := goodIn_app (goodIn_of _ (by decide +kernel)) ggX0_leastSum_X0_weighSamples
set_option maxRecDepth 20000 in
theorem ggX0_leastSum_X0_least : GoodIn wsX0_leastSum wsX0_least := goodIn_r _ [34, 22, 35, 36, 37, 38, 39, 40, 41, 42, 43, 44, 45, 46, 47, 48, 49] (by decide +kernel) (by decide +kernel)
set_option maxRecDepth 20000 in
theorem gX0_leastSum_X0_least : GoodIn wsX0_leastSum (wsV RX0 142 RX0 yX0_least wsX0_least) := goodIn_app (goodIn_of _ (by decide +kernel)) ggX0_leastSum_X0_least
theorem dX0_leastSum_0 : decode cX0_leastSum 0 = .ok (.aload_n 0, 1) := by decide +kernel
theorem dX0_leastSum_1 : decode cX0_leastSum 1 = .ok (.iload_n 1, 1) := by decide +kernel
theorem dX0_leastSum_2 : decode cX0_leastSum 2 = .ok (.iload_n 2, 1) := by decide +kernel
theorem dX0_leastSum_3 : decode cX0_leastSum 3 = .ok (.invokevirtual 107, 3) := by decide +kernel
theorem dX0_leastSum_6 : decode cX0_leastSum 6 = .ok (.aload_n 0, 1) := by decide +kernel
theorem dX0_leastSum_7 : decode cX0_leastSum 7 = .ok (.invokevirtual 139, 3) := by decide +kernel
theorem dX0_leastSum_10 : decode cX0_leastSum 10 = .ok (.aload_n 0, 1) := by decide +kernel
theorem dX0_leastSum_11 : decode cX0_leastSum 11 = .ok (.iload_n 1, 1) := by decide +kernel
theorem dX0_leastSum_12 : decode cX0_leastSum 12 = .ok (.iload_n 2, 1) := by decide +kernel
theorem dX0_leastSum_13 : decode cX0_leastSum 13 = .ok (.invokevirtual 142, 3) := by decide +kernel
theorem dX0_leastSum_16 : decode cX0_leastSum 16 = .ok (.ireturn, 1) := by decide +kernel
set_option maxRecDepth 20000 in
theorem ggX0_greatestSum_X0_checkLayers : GoodIn wsX0_greatestSum wsX0_checkLayers := goodIn_ca (goodIn_r _ [5, 6, 7, 8, 35, 36, 37, 38, 39, 40, 41, 42, 43, 44, 45, 46, 47, 48, 49] (by decide +kernel) (by decide +kernel)) (goodIn_sub (fun _ h => List.mem_cons_of_mem _ (List.mem_append_right _ h)) (by decide +kernel))
set_option maxRecDepth 20000 in
theorem gX0_greatestSum_X0_checkLayers : GoodIn wsX0_greatestSum (wsV RX0 107 RX0 yX0_checkLayers wsX0_checkLayers) := goodIn_app (goodIn_of _ (by decide +kernel)) ggX0_greatestSum_X0_checkLayers
set_option maxRecDepth 20000 in
theorem ggX0_greatestSum_X0_weighSamples : GoodIn wsX0_greatestSum wsX0_weighSamples := goodIn_r _ [12, 13, 14, 15, 16, 17, 18, 19, 20, 4, 21, 8, 22, 23, 24, 25, 26, 27, 28, 29, 30, 35, 36, 37, 38, 39, 40, 41, 42, 43, 44, 45, 46, 47, 48, 49] (by decide +kernel) (by decide +kernel)
set_option maxRecDepth 20000 in
theorem gX0_greatestSum_X0_weighSamples : GoodIn wsX0_greatestSum (wsV RX0 139 RX0 yX0_weighSamples wsX0_weighSamples) := goodIn_app (goodIn_of _ (by decide +kernel)) ggX0_greatestSum_X0_weighSamples
set_option maxRecDepth 20000 in
theorem ggX0_greatestSum_X0_greatest : GoodIn wsX0_greatestSum wsX0_greatest := goodIn_r _ [34, 22, 35, 36, 37, 38, 39, 40, 41, 42, 43, 44, 45, 46, 47, 48, 49] (by decide +kernel) (by decide +kernel)
set_option maxRecDepth 20000 in
theorem gX0_greatestSum_X0_greatest : GoodIn wsX0_greatestSum (wsV RX0 145 RX0 yX0_greatest wsX0_greatest) := goodIn_app (goodIn_of _ (by decide +kernel)) ggX0_greatestSum_X0_greatest
theorem dX0_greatestSum_0 : decode cX0_greatestSum 0 = .ok (.aload_n 0, 1) := by decide +kernel
theorem dX0_greatestSum_1 : decode cX0_greatestSum 1 = .ok (.iload_n 1, 1) := by decide +kernel
theorem dX0_greatestSum_2 : decode cX0_greatestSum 2 = .ok (.iload_n 2, 1) := by decide +kernel
theorem dX0_greatestSum_3 : decode cX0_greatestSum 3 = .ok (.invokevirtual 107, 3) := by decide +kernel
theorem dX0_greatestSum_6 : decode cX0_greatestSum 6 = .ok (.aload_n 0, 1) := by decide +kernel
theorem dX0_greatestSum_7 : decode cX0_greatestSum 7 = .ok (.invokevirtual 139, 3) := by decide +kernel
theorem dX0_greatestSum_10 : decode cX0_greatestSum 10 = .ok (.aload_n 0, 1) := by decide +kernel
theorem dX0_greatestSum_11 : decode cX0_greatestSum 11 = .ok (.iload_n 1, 1) := by decide +kernel
theorem dX0_greatestSum_12 : decode cX0_greatestSum 12 = .ok (.iload_n 2, 1) := by decide +kernel
theorem dX0_greatestSum_13 : decode cX0_greatestSum 13 = .ok (.invokevirtual 145, 3) := by decide +kernel
theorem dX0_greatestSum_16 : decode cX0_greatestSum 16 = .ok (.ireturn, 1) := by decide +kernel
set_option maxRecDepth 20000 in
theorem ggX0_doubtBehind_X0_checkLayers : GoodIn wsX0_doubtBehind wsX0_checkLayers := goodIn_ca (goodIn_r _ [5, 6, 7, 8, 44, 45, 46, 47, 48, 49, 50, 51, 52, 53, 54, 55, 56, 57, 58] (by decide +kernel) (by decide +kernel)) (goodIn_sub (fun _ h => List.mem_cons_of_mem _ (List.mem_append_right _ h)) (by decide +kernel))
set_option maxRecDepth 20000 in
theorem gX0_doubtBehind_X0_checkLayers : GoodIn wsX0_doubtBehind (wsV RX0 107 RX0 yX0_checkLayers wsX0_checkLayers) := goodIn_app (goodIn_of _ (by decide +kernel)) ggX0_doubtBehind_X0_checkLayers
set_option maxRecDepth 20000 in
theorem ggX0_doubtBehind_X0_weighSamples : GoodIn wsX0_doubtBehind wsX0_weighSamples := goodIn_r _ [12, 13, 14, 15, 16, 17, 18, 19, 20, 4, 21, 8, 22, 23, 24, 25, 26, 27, 28, 29, 30, 44, 45, 46, 47, 48, 49, 50, 51, 52, 53, 54, 55, 56, 57, 58] (by decide +kernel) (by decide +kernel)
set_option maxRecDepth 20000 in
theorem gX0_doubtBehind_X0_weighSamples : GoodIn wsX0_doubtBehind (wsV RX0 139 RX0 yX0_weighSamples wsX0_weighSamples) := goodIn_app (goodIn_of _ (by decide +kernel)) ggX0_doubtBehind_X0_weighSamples
set_option maxRecDepth 20000 in
theorem ggX0_doubtBehind_X0_doubtIfDrawn : GoodIn wsX0_doubtBehind wsX0_doubtIfDrawn := goodIn_r _ [34, 8, 35, 36, 37, 4, 38, 39, 40, 41, 42, 43, 22, 27, 28, 29, 30, 44, 45, 46, 47, 48, 49, 50, 51, 52, 53, 54, 55, 56, 57, 58] (by decide +kernel) (by decide +kernel)
set_option maxRecDepth 20000 in
theorem gX0_doubtBehind_X0_doubtIfDrawn : GoodIn wsX0_doubtBehind (wsV RX0 161 RX0 yX0_doubtIfDrawn wsX0_doubtIfDrawn) := goodIn_app (goodIn_of _ (by decide +kernel)) ggX0_doubtBehind_X0_doubtIfDrawn
theorem dX0_doubtBehind_0 : decode cX0_doubtBehind 0 = .ok (.aload_n 0, 1) := by decide +kernel
theorem dX0_doubtBehind_1 : decode cX0_doubtBehind 1 = .ok (.iload_n 1, 1) := by decide +kernel
theorem dX0_doubtBehind_2 : decode cX0_doubtBehind 2 = .ok (.iload_n 2, 1) := by decide +kernel
theorem dX0_doubtBehind_3 : decode cX0_doubtBehind 3 = .ok (.invokevirtual 107, 3) := by decide +kernel
theorem dX0_doubtBehind_6 : decode cX0_doubtBehind 6 = .ok (.aload_n 0, 1) := by decide +kernel
theorem dX0_doubtBehind_7 : decode cX0_doubtBehind 7 = .ok (.invokevirtual 139, 3) := by decide +kernel
theorem dX0_doubtBehind_10 : decode cX0_doubtBehind 10 = .ok (.aload_n 0, 1) := by decide +kernel
theorem dX0_doubtBehind_11 : decode cX0_doubtBehind 11 = .ok (.iload_n 1, 1) := by decide +kernel
theorem dX0_doubtBehind_12 : decode cX0_doubtBehind 12 = .ok (.iload_n 2, 1) := by decide +kernel
theorem dX0_doubtBehind_13 : decode cX0_doubtBehind 13 = .ok (.invokevirtual 161, 3) := by decide +kernel
theorem dX0_doubtBehind_16 : decode cX0_doubtBehind 16 = .ok (.ireturn, 1) := by decide +kernel
set_option maxRecDepth 20000 in
theorem ggX0_bestToLookAt_X0_checkNotEmpty : GoodIn wsX0_bestToLookAt wsX0_checkNotEmpty := goodIn_ca (goodIn_r _ [6, 7, 8, 1, 44, 45, 46, 47, 48, 49, 50, 51, 52, 53, 54, 55, 56, 57, 58] (by decide +kernel) (by decide +kernel)) (goodIn_sub (fun _ h => List.mem_cons_of_mem _ (List.mem_append_right _ h)) (by decide +kernel))
set_option maxRecDepth 20000 in
theorem gX0_bestToLookAt_X0_checkNotEmpty : GoodIn wsX0_bestToLookAt (wsV RX0 155 RX0 yX0_checkNotEmpty wsX0_checkNotEmpty) := goodIn_app (goodIn_of _ (by decide +kernel)) ggX0_bestToLookAt_X0_checkNotEmpty
set_option maxRecDepth 20000 in
theorem ggX0_bestToLookAt_X0_weighSamples : GoodIn wsX0_bestToLookAt wsX0_weighSamples := goodIn_r _ [12, 13, 14, 15, 16, 17, 18, 19, 20, 5, 21, 1, 22, 23, 24, 25, 26, 27, 28, 29, 30, 44, 45, 46, 47, 48, 49, 50, 51, 52, 53, 54, 55, 56, 57, 58] (by decide +kernel) (by decide +kernel)
set_option maxRecDepth 20000 in
theorem gX0_bestToLookAt_X0_weighSamples : GoodIn wsX0_bestToLookAt (wsV RX0 139 RX0 yX0_weighSamples wsX0_weighSamples) := goodIn_app (goodIn_of _ (by decide +kernel)) ggX0_bestToLookAt_X0_weighSamples
set_option maxRecDepth 20000 in
theorem ggX0_bestToLookAt_X0_doubtIfDrawn : GoodIn wsX0_bestToLookAt wsX0_doubtIfDrawn := goodIn_r _ [34, 1, 35, 36, 37, 5, 38, 39, 40, 41, 42, 43, 22, 27, 28, 29, 30, 44, 45, 46, 47, 48, 49, 50, 51, 52, 53, 54, 55, 56, 57, 58] (by decide +kernel) (by decide +kernel)
set_option maxRecDepth 20000 in
theorem gX0_bestToLookAt_X0_doubtIfDrawn : GoodIn wsX0_bestToLookAt (wsV RX0 161 RX0 yX0_doubtIfDrawn wsX0_doubtIfDrawn) := goodIn_app (goodIn_of _ (by decide +kernel)) ggX0_bestToLookAt_X0_doubtIfDrawn
theorem dX0_bestToLookAt_0 : decode cX0_bestToLookAt 0 = .ok (.aload_n 0, 1) := by decide +kernel
theorem dX0_bestToLookAt_1 : decode cX0_bestToLookAt 1 = .ok (.invokevirtual 155, 3) := by decide +kernel
theorem dX0_bestToLookAt_4 : decode cX0_bestToLookAt 4 = .ok (.aload_n 0, 1) := by decide +kernel
theorem dX0_bestToLookAt_5 : decode cX0_bestToLookAt 5 = .ok (.invokevirtual 139, 3) := by decide +kernel
theorem dX0_bestToLookAt_8 : decode cX0_bestToLookAt 8 = .ok (.iconst 0, 1) := by decide +kernel
theorem dX0_bestToLookAt_9 : decode cX0_bestToLookAt 9 = .ok (.istore_n 1, 1) := by decide +kernel
theorem dX0_bestToLookAt_10 : decode cX0_bestToLookAt 10 = .ok (.aload_n 0, 1) := by decide +kernel
theorem dX0_bestToLookAt_11 : decode cX0_bestToLookAt 11 = .ok (.iconst 0, 1) := by decide +kernel
theorem dX0_bestToLookAt_12 : decode cX0_bestToLookAt 12 = .ok (.iconst 0, 1) := by decide +kernel
theorem dX0_bestToLookAt_13 : decode cX0_bestToLookAt 13 = .ok (.invokevirtual 161, 3) := by decide +kernel
theorem dX0_bestToLookAt_16 : decode cX0_bestToLookAt 16 = .ok (.istore_n 2, 1) := by decide +kernel
theorem dX0_bestToLookAt_17 : decode cX0_bestToLookAt 17 = .ok (.iconst 1, 1) := by decide +kernel
theorem dX0_bestToLookAt_18 : decode cX0_bestToLookAt 18 = .ok (.istore_n 3, 1) := by decide +kernel
theorem dX0_bestToLookAt_19 : decode cX0_bestToLookAt 19 = .ok (.iload_n 3, 1) := by decide +kernel
theorem dX0_bestToLookAt_20 : decode cX0_bestToLookAt 20 = .ok (.aload_n 0, 1) := by decide +kernel
theorem dX0_bestToLookAt_21 : decode cX0_bestToLookAt 21 = .ok (.getfield 57, 3) := by decide +kernel
theorem dX0_bestToLookAt_24 : decode cX0_bestToLookAt 24 = .ok (.if_icmp .ge 28, 3) := by decide +kernel
theorem dX0_bestToLookAt_27 : decode cX0_bestToLookAt 27 = .ok (.aload_n 0, 1) := by decide +kernel
theorem dX0_bestToLookAt_28 : decode cX0_bestToLookAt 28 = .ok (.iload_n 3, 1) := by decide +kernel
theorem dX0_bestToLookAt_29 : decode cX0_bestToLookAt 29 = .ok (.iload_n 3, 1) := by decide +kernel
theorem dX0_bestToLookAt_30 : decode cX0_bestToLookAt 30 = .ok (.invokevirtual 161, 3) := by decide +kernel
theorem dX0_bestToLookAt_33 : decode cX0_bestToLookAt 33 = .ok (.istore 4, 2) := by decide +kernel
theorem dX0_bestToLookAt_35 : decode cX0_bestToLookAt 35 = .ok (.iload 4, 2) := by decide +kernel
theorem dX0_bestToLookAt_37 : decode cX0_bestToLookAt 37 = .ok (.iload_n 2, 1) := by decide +kernel
theorem dX0_bestToLookAt_38 : decode cX0_bestToLookAt 38 = .ok (.if_icmp .ge 8, 3) := by decide +kernel
theorem dX0_bestToLookAt_41 : decode cX0_bestToLookAt 41 = .ok (.iload 4, 2) := by decide +kernel
theorem dX0_bestToLookAt_43 : decode cX0_bestToLookAt 43 = .ok (.istore_n 2, 1) := by decide +kernel
theorem dX0_bestToLookAt_44 : decode cX0_bestToLookAt 44 = .ok (.iload_n 3, 1) := by decide +kernel
theorem dX0_bestToLookAt_45 : decode cX0_bestToLookAt 45 = .ok (.istore_n 1, 1) := by decide +kernel
theorem dX0_bestToLookAt_46 : decode cX0_bestToLookAt 46 = .ok (.iinc 3 1, 3) := by decide +kernel
theorem dX0_bestToLookAt_49 : decode cX0_bestToLookAt 49 = .ok (.goto (-30), 3) := by decide +kernel
theorem dX0_bestToLookAt_52 : decode cX0_bestToLookAt 52 = .ok (.iload_n 1, 1) := by decide +kernel
theorem dX0_bestToLookAt_53 : decode cX0_bestToLookAt 53 = .ok (.ireturn, 1) := by decide +kernel
set_option maxRecDepth 20000 in
theorem ggX0_dampnessIn_X0_checkLayer : GoodIn wsX0_dampnessIn wsX0_checkLayer := goodIn_ca (goodIn_r _ [6, 7, 8, 9, 37, 38, 39, 40, 41, 42, 43, 44, 45, 46, 47, 48, 49, 50, 51] (by decide +kernel) (by decide +kernel)) (goodIn_sub (fun _ h => List.mem_cons_of_mem _ (List.mem_append_left _ (List.mem_append_right _ h))) (by decide +kernel))
set_option maxRecDepth 20000 in
theorem gX0_dampnessIn_X0_checkLayer : GoodIn wsX0_dampnessIn (wsV RX0 128 RX0 yX0_checkLayer wsX0_checkLayer) := goodIn_app (goodIn_of _ (by decide +kernel)) ggX0_dampnessIn_X0_checkLayer
set_option maxRecDepth 20000 in
theorem ggX0_dampnessIn_X0_checkDays : GoodIn wsX0_dampnessIn wsX0_checkDays := goodIn_ca (goodIn_r _ [12, 13, 14] (by decide +kernel) (by decide +kernel)) (goodIn_sub (fun _ h => List.mem_cons_of_mem _ (List.mem_append_right _ h)) (by decide +kernel))
set_option maxRecDepth 20000 in
theorem gX0_dampnessIn_X0_checkDays : GoodIn wsX0_dampnessIn (va_wsS RX0 94 yX0_checkDays wsX0_checkDays) := goodIn_app (goodIn_of _ (by decide +kernel)) ggX0_dampnessIn_X0_checkDays
set_option maxRecDepth 20000 in
theorem ggX0_dampnessIn_X0_copyDampnessAhead : GoodIn wsX0_dampnessIn wsX0_copyDampnessAhead := goodIn_r _ [18, 9, 1, 19, 37, 38, 39, 40, 41, 42, 43, 44, 45, 46, 47, 48, 49, 50, 51] (by decide +kernel) (by decide +kernel)
set_option maxRecDepth 20000 in
theorem gX0_dampnessIn_X0_copyDampnessAhead : GoodIn wsX0_dampnessIn (wsV RX0 164 RX0 yX0_copyDampnessAhead wsX0_copyDampnessAhead) := goodIn_app (goodIn_of _ (by decide +kernel)) ggX0_dampnessIn_X0_copyDampnessAhead
set_option maxRecDepth 20000 in
theorem ggX0_dampnessIn_X0_letDaysGoBy : GoodIn wsX0_dampnessIn wsX0_letDaysGoBy := goodIn_r _ [23, 24, 25, 26, 5, 27, 9, 28, 29, 30, 31, 32, 33, 34, 35, 36, 37, 38, 39, 40, 41, 42, 43, 44, 45, 46, 47, 48, 49, 50, 51] (by decide +kernel) (by decide +kernel)
set_option maxRecDepth 20000 in
theorem gX0_dampnessIn_X0_letDaysGoBy : GoodIn wsX0_dampnessIn (wsV RX0 97 RX0 yX0_letDaysGoBy wsX0_letDaysGoBy) := goodIn_app (goodIn_of _ (by decide +kernel)) ggX0_dampnessIn_X0_letDaysGoBy
theorem dX0_dampnessIn_0 : decode cX0_dampnessIn 0 = .ok (.aload_n 0, 1) := by decide +kernel
theorem dX0_dampnessIn_1 : decode cX0_dampnessIn 1 = .ok (.iload_n 1, 1) := by decide +kernel
theorem dX0_dampnessIn_2 : decode cX0_dampnessIn 2 = .ok (.invokevirtual 128, 3) := by decide +kernel
theorem dX0_dampnessIn_5 : decode cX0_dampnessIn 5 = .ok (.iload_n 2, 1) := by decide +kernel
theorem dX0_dampnessIn_6 : decode cX0_dampnessIn 6 = .ok (.invokestatic 94, 3) := by decide +kernel
theorem dX0_dampnessIn_9 : decode cX0_dampnessIn 9 = .ok (.aload_n 0, 1) := by decide +kernel
theorem dX0_dampnessIn_10 : decode cX0_dampnessIn 10 = .ok (.invokevirtual 164, 3) := by decide +kernel
theorem dX0_dampnessIn_13 : decode cX0_dampnessIn 13 = .ok (.aload_n 0, 1) := by decide +kernel
theorem dX0_dampnessIn_14 : decode cX0_dampnessIn 14 = .ok (.aload_n 0, 1) := by decide +kernel
theorem dX0_dampnessIn_15 : decode cX0_dampnessIn 15 = .ok (.getfield 31, 3) := by decide +kernel
theorem dX0_dampnessIn_18 : decode cX0_dampnessIn 18 = .ok (.iload_n 2, 1) := by decide +kernel
theorem dX0_dampnessIn_19 : decode cX0_dampnessIn 19 = .ok (.invokevirtual 97, 3) := by decide +kernel
theorem dX0_dampnessIn_22 : decode cX0_dampnessIn 22 = .ok (.pop, 1) := by decide +kernel
theorem dX0_dampnessIn_23 : decode cX0_dampnessIn 23 = .ok (.aload_n 0, 1) := by decide +kernel
theorem dX0_dampnessIn_24 : decode cX0_dampnessIn 24 = .ok (.getfield 31, 3) := by decide +kernel
theorem dX0_dampnessIn_27 : decode cX0_dampnessIn 27 = .ok (.iload_n 1, 1) := by decide +kernel
theorem dX0_dampnessIn_28 : decode cX0_dampnessIn 28 = .ok (.iaload, 1) := by decide +kernel
theorem dX0_dampnessIn_29 : decode cX0_dampnessIn 29 = .ok (.ireturn, 1) := by decide +kernel
set_option maxRecDepth 20000 in
theorem ggX0_daysUntilEven_X0_copyDampnessAhead : GoodIn wsX0_daysUntilEven wsX0_copyDampnessAhead := goodIn_r _ [6, 7, 1, 8, 22, 23, 24, 25, 26, 27, 28, 29, 30, 31, 32, 33, 34, 35, 36] (by decide +kernel) (by decide +kernel)
set_option maxRecDepth 20000 in
theorem gX0_daysUntilEven_X0_copyDampnessAhead : GoodIn wsX0_daysUntilEven (wsV RX0 164 RX0 yX0_copyDampnessAhead wsX0_copyDampnessAhead) := goodIn_app (goodIn_of _ (by decide +kernel)) ggX0_daysUntilEven_X0_copyDampnessAhead
set_option maxRecDepth 20000 in
theorem ggX0_daysUntilEven_X0_letDayGoBy : GoodIn wsX0_daysUntilEven wsX0_letDayGoBy := goodIn_r _ [12, 7, 13, 14, 15, 16, 5, 17, 18, 19, 20, 21, 22, 23, 24, 25, 26, 27, 28, 29, 30, 31, 32, 33, 34, 35, 36] (by decide +kernel) (by decide +kernel)
set_option maxRecDepth 20000 in
theorem gX0_daysUntilEven_X0_letDayGoBy : GoodIn wsX0_daysUntilEven (wsV RX0 167 RX0 yX0_letDayGoBy wsX0_letDayGoBy) := goodIn_app (goodIn_of _ (by decide +kernel)) ggX0_daysUntilEven_X0_letDayGoBy
theorem dX0_daysUntilEven_0 : decode cX0_daysUntilEven 0 = .ok (.aload_n 0, 1) := by decide +kernel
theorem dX0_daysUntilEven_1 : decode cX0_daysUntilEven 1 = .ok (.invokevirtual 164, 3) := by decide +kernel
theorem dX0_daysUntilEven_4 : decode cX0_daysUntilEven 4 = .ok (.iconst 0, 1) := by decide +kernel
theorem dX0_daysUntilEven_5 : decode cX0_daysUntilEven 5 = .ok (.istore_n 1, 1) := by decide +kernel
theorem dX0_daysUntilEven_6 : decode cX0_daysUntilEven 6 = .ok (.iload_n 1, 1) := by decide +kernel
theorem dX0_daysUntilEven_7 : decode cX0_daysUntilEven 7 = .ok (.sipush 200, 3) := by decide +kernel
theorem dX0_daysUntilEven_10 : decode cX0_daysUntilEven 10 = .ok (.if_icmp .gt 22, 3) := by decide +kernel
theorem dX0_daysUntilEven_13 : decode cX0_daysUntilEven 13 = .ok (.aload_n 0, 1) := by decide +kernel
theorem dX0_daysUntilEven_14 : decode cX0_daysUntilEven 14 = .ok (.aload_n 0, 1) := by decide +kernel
theorem dX0_daysUntilEven_15 : decode cX0_daysUntilEven 15 = .ok (.getfield 31, 3) := by decide +kernel
theorem dX0_daysUntilEven_18 : decode cX0_daysUntilEven 18 = .ok (.invokevirtual 167, 3) := by decide +kernel
theorem dX0_daysUntilEven_21 : decode cX0_daysUntilEven 21 = .ok (.ifCond .ne 5, 3) := by decide +kernel
theorem dX0_daysUntilEven_24 : decode cX0_daysUntilEven 24 = .ok (.iload_n 1, 1) := by decide +kernel
theorem dX0_daysUntilEven_25 : decode cX0_daysUntilEven 25 = .ok (.ireturn, 1) := by decide +kernel
theorem dX0_daysUntilEven_26 : decode cX0_daysUntilEven 26 = .ok (.iinc 1 1, 3) := by decide +kernel
theorem dX0_daysUntilEven_29 : decode cX0_daysUntilEven 29 = .ok (.goto (-23), 3) := by decide +kernel
theorem dX0_daysUntilEven_32 : decode cX0_daysUntilEven 32 = .ok (.iconst (-1), 1) := by decide +kernel
theorem dX0_daysUntilEven_33 : decode cX0_daysUntilEven 33 = .ok (.ireturn, 1) := by decide +kernel
set_option maxRecDepth 20000 in
theorem ggX0_meanDampness_X0_sumNow : GoodIn wsX0_meanDampness wsX0_sumNow := goodIn_r _ [6, 7, 8, 9, 10, 11, 12, 13, 14, 15, 16, 17, 18, 19, 20, 21, 22] (by decide +kernel) (by decide +kernel)
set_option maxRecDepth 20000 in
theorem gX0_meanDampness_X0_sumNow : GoodIn wsX0_meanDampness (wsV RX0 113 RX0 yX0_sumNow wsX0_sumNow) := goodIn_app (goodIn_of _ (by decide +kernel)) ggX0_meanDampness_X0_sumNow
theorem dX0_meanDampness_0 : decode cX0_meanDampness 0 = .ok (.aload_n 0, 1) := by decide +kernel
theorem dX0_meanDampness_1 : decode cX0_meanDampness 1 = .ok (.getfield 57, 3) := by decide +kernel
theorem dX0_meanDampness_4 : decode cX0_meanDampness 4 = .ok (.ifCond .ne 5, 3) := by decide +kernel
theorem dX0_meanDampness_7 : decode cX0_meanDampness 7 = .ok (.dconst 0, 1) := by decide +kernel
theorem dX0_meanDampness_8 : decode cX0_meanDampness 8 = .ok (.dreturn, 1) := by decide +kernel
theorem dX0_meanDampness_9 : decode cX0_meanDampness 9 = .ok (.aload_n 0, 1) := by decide +kernel
theorem dX0_meanDampness_10 : decode cX0_meanDampness 10 = .ok (.iconst 0, 1) := by decide +kernel
theorem dX0_meanDampness_11 : decode cX0_meanDampness 11 = .ok (.aload_n 0, 1) := by decide +kernel
theorem dX0_meanDampness_12 : decode cX0_meanDampness 12 = .ok (.getfield 57, 3) := by decide +kernel
theorem dX0_meanDampness_15 : decode cX0_meanDampness 15 = .ok (.iconst 1, 1) := by decide +kernel
theorem dX0_meanDampness_16 : decode cX0_meanDampness 16 = .ok (.isub, 1) := by decide +kernel
theorem dX0_meanDampness_17 : decode cX0_meanDampness 17 = .ok (.invokevirtual 113, 3) := by decide +kernel
theorem dX0_meanDampness_20 : decode cX0_meanDampness 20 = .ok (.i2d, 1) := by decide +kernel
theorem dX0_meanDampness_21 : decode cX0_meanDampness 21 = .ok (.aload_n 0, 1) := by decide +kernel
theorem dX0_meanDampness_22 : decode cX0_meanDampness 22 = .ok (.getfield 57, 3) := by decide +kernel
theorem dX0_meanDampness_25 : decode cX0_meanDampness 25 = .ok (.i2d, 1) := by decide +kernel
theorem dX0_meanDampness_26 : decode cX0_meanDampness 26 = .ok (.ddiv, 1) := by decide +kernel
theorem dX0_meanDampness_27 : decode cX0_meanDampness 27 = .ok (.dreturn, 1) := by decide +kernel
set_option maxRecDepth 20000 in
theorem ggX0_digest_X0_weighSamples : GoodIn wsX0_digest wsX0_weighSamples := goodIn_r _ [12, 3, 13, 14, 15, 16, 17, 18, 19, 11, 20, 2, 21, 22, 23, 24, 25, 26, 27, 28, 29, 68, 69, 70, 71, 72, 73, 74, 75, 76, 77, 78, 79, 80, 81, 82] (by decide +kernel) (by decide +kernel)
set_option maxRecDepth 20000 in
theorem gX0_digest_X0_weighSamples : GoodIn wsX0_digest (wsV RX0 139 RX0 yX0_weighSamples wsX0_weighSamples) := goodIn_app (goodIn_of _ (by decide +kernel)) ggX0_digest_X0_weighSamples
set_option maxRecDepth 20000 in
theorem ggX0_digest_X0_digestOf : GoodIn wsX0_digest wsX0_digestOf := goodIn_r _ [32, 33] (by decide +kernel) (by decide +kernel)
set_option maxRecDepth 20000 in
theorem gX0_digest_X0_digestOf : GoodIn wsX0_digest (va_wsS RX0 173 yX0_digestOf wsX0_digestOf) := goodIn_app (goodIn_of _ (by decide +kernel)) ggX0_digest_X0_digestOf
set_option maxRecDepth 20000 in
theorem ggX0_digest_X0_doubtNow : GoodIn wsX0_digest wsX0_doubtNow := goodIn_r _ [37, 2, 38, 39, 40, 11, 41, 21, 42, 43, 44, 45, 68, 69, 70, 71, 72, 73, 74, 75, 76, 77, 78, 79, 80, 81, 82] (by decide +kernel) (by decide +kernel)
set_option maxRecDepth 20000 in
theorem gX0_digest_X0_doubtNow : GoodIn wsX0_digest (wsV RX0 158 RX0 yX0_doubtNow wsX0_doubtNow) := goodIn_app (goodIn_of _ (by decide +kernel)) ggX0_digest_X0_doubtNow
set_option maxRecDepth 20000 in
theorem ggX0_digest_X0_countSurelyDry : GoodIn wsX0_digest wsX0_countSurelyDry := goodIn_r _ [49, 2, 38, 39, 40, 11, 41, 21, 50, 51, 52, 53, 5, 68, 69, 70, 71, 72, 73, 74, 75, 76, 77, 78, 79, 80, 81, 82] (by decide +kernel) (by decide +kernel)
set_option maxRecDepth 20000 in
theorem gX0_digest_X0_countSurelyDry : GoodIn wsX0_digest (wsV RX0 148 RX0 yX0_countSurelyDry wsX0_countSurelyDry) := goodIn_app (goodIn_of _ (by decide +kernel)) ggX0_digest_X0_countSurelyDry
set_option maxRecDepth 20000 in
theorem ggX0_digest_X0_countSurelyDamp : GoodIn wsX0_digest wsX0_countSurelyDamp := goodIn_r _ [57, 2, 42, 43, 44, 11, 45, 21, 50, 51, 52, 53, 5, 68, 69, 70, 71, 72, 73, 74, 75, 76, 77, 78, 79, 80, 81, 82] (by decide +kernel) (by decide +kernel)
set_option maxRecDepth 20000 in
theorem gX0_digest_X0_countSurelyDamp : GoodIn wsX0_digest (wsV RX0 152 RX0 yX0_countSurelyDamp wsX0_countSurelyDamp) := goodIn_app (goodIn_of _ (by decide +kernel)) ggX0_digest_X0_countSurelyDamp
set_option maxRecDepth 20000 in
theorem ggX0_digest_X0_digestOfLayers : GoodIn wsX0_digest wsX0_digestOfLayers := goodIn_r _ [61, 2, 62, 63, 30, 31, 11, 32, 33, 42, 43, 44, 45, 21, 38, 39, 40, 41, 68, 69, 70, 71, 72, 73, 74, 75, 76, 77, 78, 79, 80, 81, 82] (by decide +kernel) (by decide +kernel)
set_option maxRecDepth 20000 in
theorem gX0_digest_X0_digestOfLayers : GoodIn wsX0_digest (wsV RX0 177 RX0 yX0_digestOfLayers wsX0_digestOfLayers) := goodIn_app (goodIn_of _ (by decide +kernel)) ggX0_digest_X0_digestOfLayers
set_option maxRecDepth 20000 in
theorem ggX0_digest_X0_digestOfSamples : GoodIn wsX0_digest wsX0_digestOfSamples := goodIn_r _ [67, 3, 13, 14, 15, 16, 30, 31, 11, 32, 33, 68, 69, 70, 71, 72, 73, 74, 75, 76, 77, 78, 79, 80, 81, 82] (by decide +kernel) (by decide +kernel)
set_option maxRecDepth 20000 in
theorem gX0_digest_X0_digestOfSamples : GoodIn wsX0_digest (wsV RX0 181 RX0 yX0_digestOfSamples wsX0_digestOfSamples) := goodIn_app (goodIn_of _ (by decide +kernel)) ggX0_digest_X0_digestOfSamples
theorem dX0_digest_0 : decode cX0_digest 0 = .ok (.aload_n 0, 1) := by decide +kernel
theorem dX0_digest_1 : decode cX0_digest 1 = .ok (.invokevirtual 139, 3) := by decide +kernel
theorem dX0_digest_4 : decode cX0_digest 4 = .ok (.ldc2_w 171, 3) := by decide +kernel
theorem dX0_digest_7 : decode cX0_digest 7 = .ok (.lstore_n 1, 1) := by decide +kernel
theorem dX0_digest_8 : decode cX0_digest 8 = .ok (.lload_n 1, 1) := by decide +kernel
theorem dX0_digest_9 : decode cX0_digest 9 = .ok (.aload_n 0, 1) := by decide +kernel
theorem dX0_digest_10 : decode cX0_digest 10 = .ok (.getfield 57, 3) := by decide +kernel
theorem dX0_digest_13 : decode cX0_digest 13 = .ok (.i2l, 1) := by decide +kernel
theorem dX0_digest_14 : decode cX0_digest 14 = .ok (.invokestatic 173, 3) := by decide +kernel
theorem dX0_digest_17 : decode cX0_digest 17 = .ok (.lstore_n 1, 1) := by decide +kernel
theorem dX0_digest_18 : decode cX0_digest 18 = .ok (.lload_n 1, 1) := by decide +kernel
theorem dX0_digest_19 : decode cX0_digest 19 = .ok (.aload_n 0, 1) := by decide +kernel
theorem dX0_digest_20 : decode cX0_digest 20 = .ok (.getfield 86, 3) := by decide +kernel
theorem dX0_digest_23 : decode cX0_digest 23 = .ok (.i2l, 1) := by decide +kernel
theorem dX0_digest_24 : decode cX0_digest 24 = .ok (.invokestatic 173, 3) := by decide +kernel
theorem dX0_digest_27 : decode cX0_digest 27 = .ok (.lstore_n 1, 1) := by decide +kernel
theorem dX0_digest_28 : decode cX0_digest 28 = .ok (.lload_n 1, 1) := by decide +kernel
theorem dX0_digest_29 : decode cX0_digest 29 = .ok (.aload_n 0, 1) := by decide +kernel
theorem dX0_digest_30 : decode cX0_digest 30 = .ok (.getfield 104, 3) := by decide +kernel
theorem dX0_digest_33 : decode cX0_digest 33 = .ok (.i2l, 1) := by decide +kernel
theorem dX0_digest_34 : decode cX0_digest 34 = .ok (.invokestatic 173, 3) := by decide +kernel
theorem dX0_digest_37 : decode cX0_digest 37 = .ok (.lstore_n 1, 1) := by decide +kernel
theorem dX0_digest_38 : decode cX0_digest 38 = .ok (.lload_n 1, 1) := by decide +kernel
theorem dX0_digest_39 : decode cX0_digest 39 = .ok (.aload_n 0, 1) := by decide +kernel
theorem dX0_digest_40 : decode cX0_digest 40 = .ok (.getfield 39, 3) := by decide +kernel
theorem dX0_digest_43 : decode cX0_digest 43 = .ok (.i2l, 1) := by decide +kernel
theorem dX0_digest_44 : decode cX0_digest 44 = .ok (.invokestatic 173, 3) := by decide +kernel
theorem dX0_digest_47 : decode cX0_digest 47 = .ok (.lstore_n 1, 1) := by decide +kernel
theorem dX0_digest_48 : decode cX0_digest 48 = .ok (.lload_n 1, 1) := by decide +kernel
theorem dX0_digest_49 : decode cX0_digest 49 = .ok (.aload_n 0, 1) := by decide +kernel
theorem dX0_digest_50 : decode cX0_digest 50 = .ok (.getfield 122, 3) := by decide +kernel
theorem dX0_digest_53 : decode cX0_digest 53 = .ok (.i2l, 1) := by decide +kernel
theorem dX0_digest_54 : decode cX0_digest 54 = .ok (.invokestatic 173, 3) := by decide +kernel
theorem dX0_digest_57 : decode cX0_digest 57 = .ok (.lstore_n 1, 1) := by decide +kernel
theorem dX0_digest_58 : decode cX0_digest 58 = .ok (.lload_n 1, 1) := by decide +kernel
theorem dX0_digest_59 : decode cX0_digest 59 = .ok (.aload_n 0, 1) := by decide +kernel
theorem dX0_digest_60 : decode cX0_digest 60 = .ok (.getfield 125, 3) := by decide +kernel
theorem dX0_digest_63 : decode cX0_digest 63 = .ok (.i2l, 1) := by decide +kernel
theorem dX0_digest_64 : decode cX0_digest 64 = .ok (.invokestatic 173, 3) := by decide +kernel
theorem dX0_digest_67 : decode cX0_digest 67 = .ok (.lstore_n 1, 1) := by decide +kernel
theorem dX0_digest_68 : decode cX0_digest 68 = .ok (.lload_n 1, 1) := by decide +kernel
theorem dX0_digest_69 : decode cX0_digest 69 = .ok (.aload_n 0, 1) := by decide +kernel
theorem dX0_digest_70 : decode cX0_digest 70 = .ok (.invokevirtual 158, 3) := by decide +kernel
theorem dX0_digest_73 : decode cX0_digest 73 = .ok (.i2l, 1) := by decide +kernel
theorem dX0_digest_74 : decode cX0_digest 74 = .ok (.invokestatic 173, 3) := by decide +kernel
theorem dX0_digest_77 : decode cX0_digest 77 = .ok (.lstore_n 1, 1) := by decide +kernel
theorem dX0_digest_78 : decode cX0_digest 78 = .ok (.lload_n 1, 1) := by decide +kernel
theorem dX0_digest_79 : decode cX0_digest 79 = .ok (.aload_n 0, 1) := by decide +kernel
theorem dX0_digest_80 : decode cX0_digest 80 = .ok (.invokevirtual 148, 3) := by decide +kernel
theorem dX0_digest_83 : decode cX0_digest 83 = .ok (.i2l, 1) := by decide +kernel
theorem dX0_digest_84 : decode cX0_digest 84 = .ok (.invokestatic 173, 3) := by decide +kernel
theorem dX0_digest_87 : decode cX0_digest 87 = .ok (.lstore_n 1, 1) := by decide +kernel
theorem dX0_digest_88 : decode cX0_digest 88 = .ok (.lload_n 1, 1) := by decide +kernel
theorem dX0_digest_89 : decode cX0_digest 89 = .ok (.aload_n 0, 1) := by decide +kernel
theorem dX0_digest_90 : decode cX0_digest 90 = .ok (.invokevirtual 152, 3) := by decide +kernel
theorem dX0_digest_93 : decode cX0_digest 93 = .ok (.i2l, 1) := by decide +kernel
theorem dX0_digest_94 : decode cX0_digest 94 = .ok (.invokestatic 173, 3) := by decide +kernel
theorem dX0_digest_97 : decode cX0_digest 97 = .ok (.lstore_n 1, 1) := by decide +kernel
theorem dX0_digest_98 : decode cX0_digest 98 = .ok (.aload_n 0, 1) := by decide +kernel
theorem dX0_digest_99 : decode cX0_digest 99 = .ok (.lload_n 1, 1) := by decide +kernel
theorem dX0_digest_100 : decode cX0_digest 100 = .ok (.invokevirtual 177, 3) := by decide +kernel
theorem dX0_digest_103 : decode cX0_digest 103 = .ok (.lstore_n 1, 1) := by decide +kernel
theorem dX0_digest_104 : decode cX0_digest 104 = .ok (.aload_n 0, 1) := by decide +kernel
theorem dX0_digest_105 : decode cX0_digest 105 = .ok (.lload_n 1, 1) := by decide +kernel
theorem dX0_digest_106 : decode cX0_digest 106 = .ok (.invokevirtual 181, 3) := by decide +kernel
theorem dX0_digest_109 : decode cX0_digest 109 = .ok (.lreturn, 1) := by decide +kernel
theorem dX0_isKind_0 : decode cX0_isKind 0 = .ok (.iload_n 0, 1) := by decide +kernel
theorem dX0_isKind_1 : decode cX0_isKind 1 = .ok (.ifCond .lt 12, 3) := by decide +kernel
theorem dX0_isKind_4 : decode cX0_isKind 4 = .ok (.iload_n 0, 1) := by decide +kernel
theorem dX0_isKind_5 : decode cX0_isKind 5 = .ok (.iconst 4, 1) := by decide +kernel
theorem dX0_isKind_6 : decode cX0_isKind 6 = .ok (.if_icmp .gt 7, 3) := by decide +kernel
theorem dX0_isKind_9 : decode cX0_isKind 9 = .ok (.iconst 1, 1) := by decide +kernel
theorem dX0_isKind_10 : decode cX0_isKind 10 = .ok (.goto 4, 3) := by decide +kernel
theorem dX0_isKind_13 : decode cX0_isKind 13 = .ok (.iconst 0, 1) := by decide +kernel
theorem dX0_isKind_14 : decode cX0_isKind 14 = .ok (.ireturn, 1) := by decide +kernel
theorem dX0_isDampness_0 : decode cX0_isDampness 0 = .ok (.iload_n 0, 1) := by decide +kernel
theorem dX0_isDampness_1 : decode cX0_isDampness 1 = .ok (.ifCond .lt 13, 3) := by decide +kernel
theorem dX0_isDampness_4 : decode cX0_isDampness 4 = .ok (.iload_n 0, 1) := by decide +kernel
theorem dX0_isDampness_5 : decode cX0_isDampness 5 = .ok (.bipush 40, 2) := by decide +kernel
theorem dX0_isDampness_7 : decode cX0_isDampness 7 = .ok (.if_icmp .gt 7, 3) := by decide +kernel
theorem dX0_isDampness_10 : decode cX0_isDampness 10 = .ok (.iconst 1, 1) := by decide +kernel
theorem dX0_isDampness_11 : decode cX0_isDampness 11 = .ok (.goto 4, 3) := by decide +kernel
theorem dX0_isDampness_14 : decode cX0_isDampness 14 = .ok (.iconst 0, 1) := by decide +kernel
theorem dX0_isDampness_15 : decode cX0_isDampness 15 = .ok (.ireturn, 1) := by decide +kernel
theorem dX0_checkDays_0 : decode cX0_checkDays 0 = .ok (.iload_n 0, 1) := by decide +kernel
theorem dX0_checkDays_1 : decode cX0_checkDays 1 = .ok (.iconst 1, 1) := by decide +kernel
theorem dX0_checkDays_2 : decode cX0_checkDays 2 = .ok (.if_icmp .lt 9, 3) := by decide +kernel
theorem dX0_checkDays_5 : decode cX0_checkDays 5 = .ok (.iload_n 0, 1) := by decide +kernel
theorem dX0_checkDays_6 : decode cX0_checkDays 6 = .ok (.bipush 50, 2) := by decide +kernel
theorem dX0_checkDays_8 : decode cX0_checkDays 8 = .ok (.if_icmp .le 13, 3) := by decide +kernel
theorem dX0_checkDays_11 : decode cX0_checkDays 11 = .ok (.new 50, 3) := by decide +kernel
theorem dX0_checkDays_14 : decode cX0_checkDays 14 = .ok (.dup, 1) := by decide +kernel
theorem dX0_checkDays_15 : decode cX0_checkDays 15 = .ok (.ldc 184, 2) := by decide +kernel
theorem dX0_checkDays_17 : decode cX0_checkDays 17 = .ok (.invokespecial 54, 3) := by decide +kernel
theorem dX0_checkDays_20 : decode cX0_checkDays 20 = .ok (.athrow, 1) := by decide +kernel
theorem dX0_checkDays_21 : decode cX0_checkDays 21 = .ok (.return_, 1) := by decide +kernel
theorem dX0_checkLayer_0 : decode cX0_checkLayer 0 = .ok (.iload_n 1, 1) := by decide +kernel
theorem dX0_checkLayer_1 : decode cX0_checkLayer 1 = .ok (.ifCond .lt 11, 3) := by decide +kernel
theorem dX0_checkLayer_4 : decode cX0_checkLayer 4 = .ok (.iload_n 1, 1) := by decide +kernel
theorem dX0_checkLayer_5 : decode cX0_checkLayer 5 = .ok (.aload_n 0, 1) := by decide +kernel
theorem dX0_checkLayer_6 : decode cX0_checkLayer 6 = .ok (.getfield 57, 3) := by decide +kernel
theorem dX0_checkLayer_9 : decode cX0_checkLayer 9 = .ok (.if_icmp .lt 13, 3) := by decide +kernel
theorem dX0_checkLayer_12 : decode cX0_checkLayer 12 = .ok (.new 134, 3) := by decide +kernel
theorem dX0_checkLayer_15 : decode cX0_checkLayer 15 = .ok (.dup, 1) := by decide +kernel
theorem dX0_checkLayer_16 : decode cX0_checkLayer 16 = .ok (.ldc 186, 2) := by decide +kernel
theorem dX0_checkLayer_18 : decode cX0_checkLayer 18 = .ok (.invokespecial 138, 3) := by decide +kernel
theorem dX0_checkLayer_21 : decode cX0_checkLayer 21 = .ok (.athrow, 1) := by decide +kernel
theorem dX0_checkLayer_22 : decode cX0_checkLayer 22 = .ok (.return_, 1) := by decide +kernel
theorem dX0_checkLayers_0 : decode cX0_checkLayers 0 = .ok (.iload_n 1, 1) := by decide +kernel
theorem dX0_checkLayers_1 : decode cX0_checkLayers 1 = .ok (.ifCond .lt 16, 3) := by decide +kernel
theorem dX0_checkLayers_4 : decode cX0_checkLayers 4 = .ok (.iload_n 2, 1) := by decide +kernel
theorem dX0_checkLayers_5 : decode cX0_checkLayers 5 = .ok (.aload_n 0, 1) := by decide +kernel
theorem dX0_checkLayers_6 : decode cX0_checkLayers 6 = .ok (.getfield 57, 3) := by decide +kernel
theorem dX0_checkLayers_9 : decode cX0_checkLayers 9 = .ok (.if_icmp .ge 8, 3) := by decide +kernel
theorem dX0_checkLayers_12 : decode cX0_checkLayers 12 = .ok (.iload_n 1, 1) := by decide +kernel
theorem dX0_checkLayers_13 : decode cX0_checkLayers 13 = .ok (.iload_n 2, 1) := by decide +kernel
theorem dX0_checkLayers_14 : decode cX0_checkLayers 14 = .ok (.if_icmp .le 13, 3) := by decide +kernel
theorem dX0_checkLayers_17 : decode cX0_checkLayers 17 = .ok (.new 134, 3) := by decide +kernel
theorem dX0_checkLayers_20 : decode cX0_checkLayers 20 = .ok (.dup, 1) := by decide +kernel
theorem dX0_checkLayers_21 : decode cX0_checkLayers 21 = .ok (.ldc 188, 2) := by decide +kernel
theorem dX0_checkLayers_23 : decode cX0_checkLayers 23 = .ok (.invokespecial 138, 3) := by decide +kernel
theorem dX0_checkLayers_26 : decode cX0_checkLayers 26 = .ok (.athrow, 1) := by decide +kernel
theorem dX0_checkLayers_27 : decode cX0_checkLayers 27 = .ok (.return_, 1) := by decide +kernel
theorem dX0_checkSample_0 : decode cX0_checkSample 0 = .ok (.iload_n 1, 1) := by decide +kernel
theorem dX0_checkSample_1 : decode cX0_checkSample 1 = .ok (.ifCond .lt 11, 3) := by decide +kernel
theorem dX0_checkSample_4 : decode cX0_checkSample 4 = .ok (.iload_n 1, 1) := by decide +kernel
theorem dX0_checkSample_5 : decode cX0_checkSample 5 = .ok (.aload_n 0, 1) := by decide +kernel
theorem dX0_checkSample_6 : decode cX0_checkSample 6 = .ok (.getfield 86, 3) := by decide +kernel
theorem dX0_checkSample_9 : decode cX0_checkSample 9 = .ok (.if_icmp .lt 13, 3) := by decide +kernel
theorem dX0_checkSample_12 : decode cX0_checkSample 12 = .ok (.new 134, 3) := by decide +kernel
theorem dX0_checkSample_15 : decode cX0_checkSample 15 = .ok (.dup, 1) := by decide +kernel
theorem dX0_checkSample_16 : decode cX0_checkSample 16 = .ok (.ldc 190, 2) := by decide +kernel
theorem dX0_checkSample_18 : decode cX0_checkSample 18 = .ok (.invokespecial 138, 3) := by decide +kernel
theorem dX0_checkSample_21 : decode cX0_checkSample 21 = .ok (.athrow, 1) := by decide +kernel
theorem dX0_checkSample_22 : decode cX0_checkSample 22 = .ok (.return_, 1) := by decide +kernel
theorem dX0_checkNotEmpty_0 : decode cX0_checkNotEmpty 0 = .ok (.aload_n 0, 1) := by decide +kernel
theorem dX0_checkNotEmpty_1 : decode cX0_checkNotEmpty 1 = .ok (.getfield 57, 3) := by decide +kernel
theorem dX0_checkNotEmpty_4 : decode cX0_checkNotEmpty 4 = .ok (.ifCond .ne 13, 3) := by decide +kernel
theorem dX0_checkNotEmpty_7 : decode cX0_checkNotEmpty 7 = .ok (.new 60, 3) := by decide +kernel
theorem dX0_checkNotEmpty_10 : decode cX0_checkNotEmpty 10 = .ok (.dup, 1) := by decide +kernel
theorem dX0_checkNotEmpty_11 : decode cX0_checkNotEmpty 11 = .ok (.ldc 69, 2) := by decide +kernel
theorem dX0_checkNotEmpty_13 : decode cX0_checkNotEmpty 13 = .ok (.invokespecial 64, 3) := by decide +kernel
theorem dX0_checkNotEmpty_16 : decode cX0_checkNotEmpty 16 = .ok (.athrow, 1) := by decide +kernel
theorem dX0_checkNotEmpty_17 : decode cX0_checkNotEmpty 17 = .ok (.return_, 1) := by decide +kernel
theorem dX0_isDamp_0 : decode cX0_isDamp 0 = .ok (.iload_n 1, 1) := by decide +kernel
theorem dX0_isDamp_1 : decode cX0_isDamp 1 = .ok (.aload_n 0, 1) := by decide +kernel
theorem dX0_isDamp_2 : decode cX0_isDamp 2 = .ok (.getfield 39, 3) := by decide +kernel
theorem dX0_isDamp_5 : decode cX0_isDamp 5 = .ok (.if_icmp .le 7, 3) := by decide +kernel
theorem dX0_isDamp_8 : decode cX0_isDamp 8 = .ok (.iconst 1, 1) := by decide +kernel
theorem dX0_isDamp_9 : decode cX0_isDamp 9 = .ok (.goto 4, 3) := by decide +kernel
theorem dX0_isDamp_12 : decode cX0_isDamp 12 = .ok (.iconst 0, 1) := by decide +kernel
theorem dX0_isDamp_13 : decode cX0_isDamp 13 = .ok (.ireturn, 1) := by decide +kernel
theorem dX0_putOnTop_0 : decode cX0_putOnTop 0 = .ok (.aload_n 0, 1) := by decide +kernel
theorem dX0_putOnTop_1 : decode cX0_putOnTop 1 = .ok (.getfield 57, 3) := by decide +kernel
theorem dX0_putOnTop_4 : decode cX0_putOnTop 4 = .ok (.istore_n 3, 1) := by decide +kernel
theorem dX0_putOnTop_5 : decode cX0_putOnTop 5 = .ok (.aload_n 0, 1) := by decide +kernel
theorem dX0_putOnTop_6 : decode cX0_putOnTop 6 = .ok (.getfield 9, 3) := by decide +kernel
theorem dX0_putOnTop_9 : decode cX0_putOnTop 9 = .ok (.iload_n 3, 1) := by decide +kernel
theorem dX0_putOnTop_10 : decode cX0_putOnTop 10 = .ok (.iload_n 1, 1) := by decide +kernel
theorem dX0_putOnTop_11 : decode cX0_putOnTop 11 = .ok (.iastore, 1) := by decide +kernel
theorem dX0_putOnTop_12 : decode cX0_putOnTop 12 = .ok (.aload_n 0, 1) := by decide +kernel
theorem dX0_putOnTop_13 : decode cX0_putOnTop 13 = .ok (.getfield 13, 3) := by decide +kernel
theorem dX0_putOnTop_16 : decode cX0_putOnTop 16 = .ok (.iload_n 3, 1) := by decide +kernel
theorem dX0_putOnTop_17 : decode cX0_putOnTop 17 = .ok (.iload_n 2, 1) := by decide +kernel
theorem dX0_putOnTop_18 : decode cX0_putOnTop 18 = .ok (.iastore, 1) := by decide +kernel
theorem dX0_putOnTop_19 : decode cX0_putOnTop 19 = .ok (.aload_n 0, 1) := by decide +kernel
theorem dX0_putOnTop_20 : decode cX0_putOnTop 20 = .ok (.dup, 1) := by decide +kernel
theorem dX0_putOnTop_21 : decode cX0_putOnTop 21 = .ok (.getfield 57, 3) := by decide +kernel
theorem dX0_putOnTop_24 : decode cX0_putOnTop 24 = .ok (.iconst 1, 1) := by decide +kernel
theorem dX0_putOnTop_25 : decode cX0_putOnTop 25 = .ok (.iadd, 1) := by decide +kernel
theorem dX0_putOnTop_26 : decode cX0_putOnTop 26 = .ok (.putfield 57, 3) := by decide +kernel
theorem dX0_putOnTop_29 : decode cX0_putOnTop 29 = .ok (.iload_n 3, 1) := by decide +kernel
theorem dX0_putOnTop_30 : decode cX0_putOnTop 30 = .ok (.ireturn, 1) := by decide +kernel
set_option maxRecDepth 20000 in
theorem ggX0_countOut_X0_isDamp : GoodIn wsX0_countOut wsX0_isDamp := goodIn_r _ [7, 8, 9, 10, 11, 12, 13, 14, 15, 16, 17, 18, 19, 20, 21, 22, 23] (by decide +kernel) (by decide +kernel)
set_option maxRecDepth 20000 in
theorem gX0_countOut_X0_isDamp : GoodIn wsX0_countOut (wsV RX0 131 RX0 yX0_isDamp wsX0_isDamp) := goodIn_app (goodIn_of _ (by decide +kernel)) ggX0_countOut_X0_isDamp
theorem dX0_countOut_0 : decode cX0_countOut 0 = .ok (.aload_n 0, 1) := by decide +kernel
theorem dX0_countOut_1 : decode cX0_countOut 1 = .ok (.iload_n 1, 1) := by decide +kernel
theorem dX0_countOut_2 : decode cX0_countOut 2 = .ok (.invokevirtual 131, 3) := by decide +kernel
theorem dX0_countOut_5 : decode cX0_countOut 5 = .ok (.ifCond .eq 16, 3) := by decide +kernel
theorem dX0_countOut_8 : decode cX0_countOut 8 = .ok (.aload_n 0, 1) := by decide +kernel
theorem dX0_countOut_9 : decode cX0_countOut 9 = .ok (.dup, 1) := by decide +kernel
theorem dX0_countOut_10 : decode cX0_countOut 10 = .ok (.getfield 125, 3) := by decide +kernel
theorem dX0_countOut_13 : decode cX0_countOut 13 = .ok (.iconst 1, 1) := by decide +kernel
theorem dX0_countOut_14 : decode cX0_countOut 14 = .ok (.iadd, 1) := by decide +kernel
theorem dX0_countOut_15 : decode cX0_countOut 15 = .ok (.putfield 125, 3) := by decide +kernel
theorem dX0_countOut_18 : decode cX0_countOut 18 = .ok (.goto 13, 3) := by decide +kernel
theorem dX0_countOut_21 : decode cX0_countOut 21 = .ok (.aload_n 0, 1) := by decide +kernel
theorem dX0_countOut_22 : decode cX0_countOut 22 = .ok (.dup, 1) := by decide +kernel
theorem dX0_countOut_23 : decode cX0_countOut 23 = .ok (.getfield 122, 3) := by decide +kernel
theorem dX0_countOut_26 : decode cX0_countOut 26 = .ok (.iconst 1, 1) := by decide +kernel
theorem dX0_countOut_27 : decode cX0_countOut 27 = .ok (.iadd, 1) := by decide +kernel
theorem dX0_countOut_28 : decode cX0_countOut 28 = .ok (.putfield 122, 3) := by decide +kernel
theorem dX0_countOut_31 : decode cX0_countOut 31 = .ok (.return_, 1) := by decide +kernel
theorem dX0_lowerLayers_0 : decode cX0_lowerLayers 0 = .ok (.iconst 1, 1) := by decide +kernel
theorem dX0_lowerLayers_1 : decode cX0_lowerLayers 1 = .ok (.istore_n 1, 1) := by decide +kernel
theorem dX0_lowerLayers_2 : decode cX0_lowerLayers 2 = .ok (.iload_n 1, 1) := by decide +kernel
theorem dX0_lowerLayers_3 : decode cX0_lowerLayers 3 = .ok (.aload_n 0, 1) := by decide +kernel
theorem dX0_lowerLayers_4 : decode cX0_lowerLayers 4 = .ok (.getfield 57, 3) := by decide +kernel
theorem dX0_lowerLayers_7 : decode cX0_lowerLayers 7 = .ok (.if_icmp .ge 37, 3) := by decide +kernel
theorem dX0_lowerLayers_10 : decode cX0_lowerLayers 10 = .ok (.aload_n 0, 1) := by decide +kernel
theorem dX0_lowerLayers_11 : decode cX0_lowerLayers 11 = .ok (.getfield 9, 3) := by decide +kernel
theorem dX0_lowerLayers_14 : decode cX0_lowerLayers 14 = .ok (.iload_n 1, 1) := by decide +kernel
theorem dX0_lowerLayers_15 : decode cX0_lowerLayers 15 = .ok (.iconst 1, 1) := by decide +kernel
theorem dX0_lowerLayers_16 : decode cX0_lowerLayers 16 = .ok (.isub, 1) := by decide +kernel
theorem dX0_lowerLayers_17 : decode cX0_lowerLayers 17 = .ok (.aload_n 0, 1) := by decide +kernel
theorem dX0_lowerLayers_18 : decode cX0_lowerLayers 18 = .ok (.getfield 9, 3) := by decide +kernel
theorem dX0_lowerLayers_21 : decode cX0_lowerLayers 21 = .ok (.iload_n 1, 1) := by decide +kernel
theorem dX0_lowerLayers_22 : decode cX0_lowerLayers 22 = .ok (.iaload, 1) := by decide +kernel
theorem dX0_lowerLayers_23 : decode cX0_lowerLayers 23 = .ok (.iastore, 1) := by decide +kernel
theorem dX0_lowerLayers_24 : decode cX0_lowerLayers 24 = .ok (.aload_n 0, 1) := by decide +kernel
theorem dX0_lowerLayers_25 : decode cX0_lowerLayers 25 = .ok (.getfield 13, 3) := by decide +kernel
theorem dX0_lowerLayers_28 : decode cX0_lowerLayers 28 = .ok (.iload_n 1, 1) := by decide +kernel
theorem dX0_lowerLayers_29 : decode cX0_lowerLayers 29 = .ok (.iconst 1, 1) := by decide +kernel
theorem dX0_lowerLayers_30 : decode cX0_lowerLayers 30 = .ok (.isub, 1) := by decide +kernel
theorem dX0_lowerLayers_31 : decode cX0_lowerLayers 31 = .ok (.aload_n 0, 1) := by decide +kernel
theorem dX0_lowerLayers_32 : decode cX0_lowerLayers 32 = .ok (.getfield 13, 3) := by decide +kernel
theorem dX0_lowerLayers_35 : decode cX0_lowerLayers 35 = .ok (.iload_n 1, 1) := by decide +kernel
theorem dX0_lowerLayers_36 : decode cX0_lowerLayers 36 = .ok (.iaload, 1) := by decide +kernel
theorem dX0_lowerLayers_37 : decode cX0_lowerLayers 37 = .ok (.iastore, 1) := by decide +kernel
theorem dX0_lowerLayers_38 : decode cX0_lowerLayers 38 = .ok (.iinc 1 1, 3) := by decide +kernel
theorem dX0_lowerLayers_41 : decode cX0_lowerLayers 41 = .ok (.goto (-39), 3) := by decide +kernel
theorem dX0_lowerLayers_44 : decode cX0_lowerLayers 44 = .ok (.aload_n 0, 1) := by decide +kernel
theorem dX0_lowerLayers_45 : decode cX0_lowerLayers 45 = .ok (.dup, 1) := by decide +kernel
theorem dX0_lowerLayers_46 : decode cX0_lowerLayers 46 = .ok (.getfield 57, 3) := by decide +kernel
theorem dX0_lowerLayers_49 : decode cX0_lowerLayers 49 = .ok (.iconst 1, 1) := by decide +kernel
theorem dX0_lowerLayers_50 : decode cX0_lowerLayers 50 = .ok (.isub, 1) := by decide +kernel
theorem dX0_lowerLayers_51 : decode cX0_lowerLayers 51 = .ok (.putfield 57, 3) := by decide +kernel
theorem dX0_lowerLayers_54 : decode cX0_lowerLayers 54 = .ok (.return_, 1) := by decide +kernel
theorem dX0_sumNow_0 : decode cX0_sumNow 0 = .ok (.iconst 0, 1) := by decide +kernel
theorem dX0_sumNow_1 : decode cX0_sumNow 1 = .ok (.istore_n 3, 1) := by decide +kernel
theorem dX0_sumNow_2 : decode cX0_sumNow 2 = .ok (.iload_n 1, 1) := by decide +kernel
theorem dX0_sumNow_3 : decode cX0_sumNow 3 = .ok (.istore 4, 2) := by decide +kernel
theorem dX0_sumNow_5 : decode cX0_sumNow 5 = .ok (.iload 4, 2) := by decide +kernel
theorem dX0_sumNow_7 : decode cX0_sumNow 7 = .ok (.iload_n 2, 1) := by decide +kernel
theorem dX0_sumNow_8 : decode cX0_sumNow 8 = .ok (.if_icmp .gt 19, 3) := by decide +kernel
theorem dX0_sumNow_11 : decode cX0_sumNow 11 = .ok (.iload_n 3, 1) := by decide +kernel
theorem dX0_sumNow_12 : decode cX0_sumNow 12 = .ok (.aload_n 0, 1) := by decide +kernel
theorem dX0_sumNow_13 : decode cX0_sumNow 13 = .ok (.getfield 13, 3) := by decide +kernel
theorem dX0_sumNow_16 : decode cX0_sumNow 16 = .ok (.iload 4, 2) := by decide +kernel
theorem dX0_sumNow_18 : decode cX0_sumNow 18 = .ok (.iaload, 1) := by decide +kernel
theorem dX0_sumNow_19 : decode cX0_sumNow 19 = .ok (.iadd, 1) := by decide +kernel
theorem dX0_sumNow_20 : decode cX0_sumNow 20 = .ok (.istore_n 3, 1) := by decide +kernel
theorem dX0_sumNow_21 : decode cX0_sumNow 21 = .ok (.iinc 4 1, 3) := by decide +kernel
theorem dX0_sumNow_24 : decode cX0_sumNow 24 = .ok (.goto (-19), 3) := by decide +kernel
theorem dX0_sumNow_27 : decode cX0_sumNow 27 = .ok (.iload_n 3, 1) := by decide +kernel
theorem dX0_sumNow_28 : decode cX0_sumNow 28 = .ok (.ireturn, 1) := by decide +kernel
theorem dX0_moveSample_0 : decode cX0_moveSample 0 = .ok (.aload_n 0, 1) := by decide +kernel
theorem dX0_moveSample_1 : decode cX0_moveSample 1 = .ok (.getfield 16, 3) := by decide +kernel
theorem dX0_moveSample_4 : decode cX0_moveSample 4 = .ok (.iload_n 2, 1) := by decide +kernel
theorem dX0_moveSample_5 : decode cX0_moveSample 5 = .ok (.aload_n 0, 1) := by decide +kernel
theorem dX0_moveSample_6 : decode cX0_moveSample 6 = .ok (.getfield 16, 3) := by decide +kernel
theorem dX0_moveSample_9 : decode cX0_moveSample 9 = .ok (.iload_n 1, 1) := by decide +kernel
theorem dX0_moveSample_10 : decode cX0_moveSample 10 = .ok (.iaload, 1) := by decide +kernel
theorem dX0_moveSample_11 : decode cX0_moveSample 11 = .ok (.iastore, 1) := by decide +kernel
theorem dX0_moveSample_12 : decode cX0_moveSample 12 = .ok (.aload_n 0, 1) := by decide +kernel
theorem dX0_moveSample_13 : decode cX0_moveSample 13 = .ok (.getfield 19, 3) := by decide +kernel
theorem dX0_moveSample_16 : decode cX0_moveSample 16 = .ok (.iload_n 2, 1) := by decide +kernel
theorem dX0_moveSample_17 : decode cX0_moveSample 17 = .ok (.aload_n 0, 1) := by decide +kernel
theorem dX0_moveSample_18 : decode cX0_moveSample 18 = .ok (.getfield 19, 3) := by decide +kernel
theorem dX0_moveSample_21 : decode cX0_moveSample 21 = .ok (.iload_n 1, 1) := by decide +kernel
theorem dX0_moveSample_22 : decode cX0_moveSample 22 = .ok (.iaload, 1) := by decide +kernel
theorem dX0_moveSample_23 : decode cX0_moveSample 23 = .ok (.iastore, 1) := by decide +kernel
theorem dX0_moveSample_24 : decode cX0_moveSample 24 = .ok (.aload_n 0, 1) := by decide +kernel
theorem dX0_moveSample_25 : decode cX0_moveSample 25 = .ok (.getfield 22, 3) := by decide +kernel
theorem dX0_moveSample_28 : decode cX0_moveSample 28 = .ok (.iload_n 2, 1) := by decide +kernel
theorem dX0_moveSample_29 : decode cX0_moveSample 29 = .ok (.aload_n 0, 1) := by decide +kernel
theorem dX0_moveSample_30 : decode cX0_moveSample 30 = .ok (.getfield 22, 3) := by decide +kernel
theorem dX0_moveSample_33 : decode cX0_moveSample 33 = .ok (.iload_n 1, 1) := by decide +kernel
theorem dX0_moveSample_34 : decode cX0_moveSample 34 = .ok (.iaload, 1) := by decide +kernel
theorem dX0_moveSample_35 : decode cX0_moveSample 35 = .ok (.iastore, 1) := by decide +kernel
theorem dX0_moveSample_36 : decode cX0_moveSample 36 = .ok (.aload_n 0, 1) := by decide +kernel
theorem dX0_moveSample_37 : decode cX0_moveSample 37 = .ok (.getfield 25, 3) := by decide +kernel
theorem dX0_moveSample_40 : decode cX0_moveSample 40 = .ok (.iload_n 2, 1) := by decide +kernel
theorem dX0_moveSample_41 : decode cX0_moveSample 41 = .ok (.aload_n 0, 1) := by decide +kernel
theorem dX0_moveSample_42 : decode cX0_moveSample 42 = .ok (.getfield 25, 3) := by decide +kernel
theorem dX0_moveSample_45 : decode cX0_moveSample 45 = .ok (.iload_n 1, 1) := by decide +kernel
theorem dX0_moveSample_46 : decode cX0_moveSample 46 = .ok (.iaload, 1) := by decide +kernel
theorem dX0_moveSample_47 : decode cX0_moveSample 47 = .ok (.iastore, 1) := by decide +kernel
theorem dX0_moveSample_48 : decode cX0_moveSample 48 = .ok (.return_, 1) := by decide +kernel
set_option maxRecDepth 20000 in
theorem ggX0_cutLowestOffSamples_X0_dropSamplesOfLowest : GoodIn wsX0_cutLowestOffSamples wsX0_dropSamplesOfLowest := goodIn_r _ [9, 1, 2, 10, 11, 12, 8, 13, 3, 4, 14, 15, 16, 17, 18, 19, 20, 21, 22, 23, 24, 25, 26, 27, 28, 29] (by decide +kernel) (by decide +kernel)
set_option maxRecDepth 20000 in
theorem gX0_cutLowestOffSamples_X0_dropSamplesOfLowest : GoodIn wsX0_cutLowestOffSamples (wsV RX0 89 RX0 yX0_dropSamplesOfLowest wsX0_dropSamplesOfLowest) := goodIn_app (goodIn_of _ (by decide +kernel)) ggX0_cutLowestOffSamples_X0_dropSamplesOfLowest
theorem dX0_cutLowestOffSamples_0 : decode cX0_cutLowestOffSamples 0 = .ok (.iconst 0, 1) := by decide +kernel
theorem dX0_cutLowestOffSamples_1 : decode cX0_cutLowestOffSamples 1 = .ok (.istore_n 2, 1) := by decide +kernel
theorem dX0_cutLowestOffSamples_2 : decode cX0_cutLowestOffSamples 2 = .ok (.iload_n 2, 1) := by decide +kernel
theorem dX0_cutLowestOffSamples_3 : decode cX0_cutLowestOffSamples 3 = .ok (.aload_n 0, 1) := by decide +kernel
theorem dX0_cutLowestOffSamples_4 : decode cX0_cutLowestOffSamples 4 = .ok (.getfield 86, 3) := by decide +kernel
theorem dX0_cutLowestOffSamples_7 : decode cX0_cutLowestOffSamples 7 = .ok (.if_icmp .ge 44, 3) := by decide +kernel
theorem dX0_cutLowestOffSamples_10 : decode cX0_cutLowestOffSamples 10 = .ok (.aload_n 0, 1) := by decide +kernel
theorem dX0_cutLowestOffSamples_11 : decode cX0_cutLowestOffSamples 11 = .ok (.getfield 16, 3) := by decide +kernel
theorem dX0_cutLowestOffSamples_14 : decode cX0_cutLowestOffSamples 14 = .ok (.iload_n 2, 1) := by decide +kernel
theorem dX0_cutLowestOffSamples_15 : decode cX0_cutLowestOffSamples 15 = .ok (.iaload, 1) := by decide +kernel
theorem dX0_cutLowestOffSamples_16 : decode cX0_cutLowestOffSamples 16 = .ok (.ifCond .ne 29, 3) := by decide +kernel
theorem dX0_cutLowestOffSamples_19 : decode cX0_cutLowestOffSamples 19 = .ok (.aload_n 0, 1) := by decide +kernel
theorem dX0_cutLowestOffSamples_20 : decode cX0_cutLowestOffSamples 20 = .ok (.getfield 19, 3) := by decide +kernel
theorem dX0_cutLowestOffSamples_23 : decode cX0_cutLowestOffSamples 23 = .ok (.iload_n 2, 1) := by decide +kernel
theorem dX0_cutLowestOffSamples_24 : decode cX0_cutLowestOffSamples 24 = .ok (.iaload, 1) := by decide +kernel
theorem dX0_cutLowestOffSamples_25 : decode cX0_cutLowestOffSamples 25 = .ok (.ifCond .le 20, 3) := by decide +kernel
theorem dX0_cutLowestOffSamples_28 : decode cX0_cutLowestOffSamples 28 = .ok (.aload_n 0, 1) := by decide +kernel
theorem dX0_cutLowestOffSamples_29 : decode cX0_cutLowestOffSamples 29 = .ok (.getfield 16, 3) := by decide +kernel
theorem dX0_cutLowestOffSamples_32 : decode cX0_cutLowestOffSamples 32 = .ok (.iload_n 2, 1) := by decide +kernel
theorem dX0_cutLowestOffSamples_33 : decode cX0_cutLowestOffSamples 33 = .ok (.iconst 1, 1) := by decide +kernel
theorem dX0_cutLowestOffSamples_34 : decode cX0_cutLowestOffSamples 34 = .ok (.iastore, 1) := by decide +kernel
theorem dX0_cutLowestOffSamples_35 : decode cX0_cutLowestOffSamples 35 = .ok (.aload_n 0, 1) := by decide +kernel
theorem dX0_cutLowestOffSamples_36 : decode cX0_cutLowestOffSamples 36 = .ok (.getfield 22, 3) := by decide +kernel
theorem dX0_cutLowestOffSamples_39 : decode cX0_cutLowestOffSamples 39 = .ok (.iload_n 2, 1) := by decide +kernel
theorem dX0_cutLowestOffSamples_40 : decode cX0_cutLowestOffSamples 40 = .ok (.dup2, 1) := by decide +kernel
theorem dX0_cutLowestOffSamples_41 : decode cX0_cutLowestOffSamples 41 = .ok (.iaload, 1) := by decide +kernel
theorem dX0_cutLowestOffSamples_42 : decode cX0_cutLowestOffSamples 42 = .ok (.iload_n 1, 1) := by decide +kernel
theorem dX0_cutLowestOffSamples_43 : decode cX0_cutLowestOffSamples 43 = .ok (.isub, 1) := by decide +kernel
theorem dX0_cutLowestOffSamples_44 : decode cX0_cutLowestOffSamples 44 = .ok (.iastore, 1) := by decide +kernel
theorem dX0_cutLowestOffSamples_45 : decode cX0_cutLowestOffSamples 45 = .ok (.iinc 2 1, 3) := by decide +kernel
theorem dX0_cutLowestOffSamples_48 : decode cX0_cutLowestOffSamples 48 = .ok (.goto (-46), 3) := by decide +kernel
theorem dX0_cutLowestOffSamples_51 : decode cX0_cutLowestOffSamples 51 = .ok (.aload_n 0, 1) := by decide +kernel
theorem dX0_cutLowestOffSamples_52 : decode cX0_cutLowestOffSamples 52 = .ok (.invokevirtual 89, 3) := by decide +kernel
theorem dX0_cutLowestOffSamples_55 : decode cX0_cutLowestOffSamples 55 = .ok (.return_, 1) := by decide +kernel
set_option maxRecDepth 20000 in
theorem ggX0_dropSamplesOfLowest_X0_moveSample : GoodIn wsX0_dropSamplesOfLowest wsX0_moveSample := goodIn_r _ [7, 2, 8, 9, 10, 11, 12, 13, 14, 15, 16, 17, 18, 19, 20, 21, 22, 23, 24, 25] (by decide +kernel) (by decide +kernel)
set_option maxRecDepth 20000 in
theorem gX0_dropSamplesOfLowest_X0_moveSample : GoodIn wsX0_dropSamplesOfLowest (wsV RX0 119 RX0 yX0_moveSample wsX0_moveSample) := goodIn_app (goodIn_of _ (by decide +kernel)) ggX0_dropSamplesOfLowest_X0_moveSample
theorem dX0_dropSamplesOfLowest_0 : decode cX0_dropSamplesOfLowest 0 = .ok (.iconst 0, 1) := by decide +kernel
theorem dX0_dropSamplesOfLowest_1 : decode cX0_dropSamplesOfLowest 1 = .ok (.istore_n 1, 1) := by decide +kernel
theorem dX0_dropSamplesOfLowest_2 : decode cX0_dropSamplesOfLowest 2 = .ok (.iconst 0, 1) := by decide +kernel
theorem dX0_dropSamplesOfLowest_3 : decode cX0_dropSamplesOfLowest 3 = .ok (.istore_n 2, 1) := by decide +kernel
theorem dX0_dropSamplesOfLowest_4 : decode cX0_dropSamplesOfLowest 4 = .ok (.iload_n 2, 1) := by decide +kernel
theorem dX0_dropSamplesOfLowest_5 : decode cX0_dropSamplesOfLowest 5 = .ok (.aload_n 0, 1) := by decide +kernel
theorem dX0_dropSamplesOfLowest_6 : decode cX0_dropSamplesOfLowest 6 = .ok (.getfield 86, 3) := by decide +kernel
theorem dX0_dropSamplesOfLowest_9 : decode cX0_dropSamplesOfLowest 9 = .ok (.if_icmp .ge 27, 3) := by decide +kernel
theorem dX0_dropSamplesOfLowest_12 : decode cX0_dropSamplesOfLowest 12 = .ok (.aload_n 0, 1) := by decide +kernel
theorem dX0_dropSamplesOfLowest_13 : decode cX0_dropSamplesOfLowest 13 = .ok (.getfield 16, 3) := by decide +kernel
theorem dX0_dropSamplesOfLowest_16 : decode cX0_dropSamplesOfLowest 16 = .ok (.iload_n 2, 1) := by decide +kernel
theorem dX0_dropSamplesOfLowest_17 : decode cX0_dropSamplesOfLowest 17 = .ok (.iaload, 1) := by decide +kernel
theorem dX0_dropSamplesOfLowest_18 : decode cX0_dropSamplesOfLowest 18 = .ok (.ifCond .le 12, 3) := by decide +kernel
theorem dX0_dropSamplesOfLowest_21 : decode cX0_dropSamplesOfLowest 21 = .ok (.aload_n 0, 1) := by decide +kernel
theorem dX0_dropSamplesOfLowest_22 : decode cX0_dropSamplesOfLowest 22 = .ok (.iload_n 2, 1) := by decide +kernel
theorem dX0_dropSamplesOfLowest_23 : decode cX0_dropSamplesOfLowest 23 = .ok (.iload_n 1, 1) := by decide +kernel
theorem dX0_dropSamplesOfLowest_24 : decode cX0_dropSamplesOfLowest 24 = .ok (.invokevirtual 119, 3) := by decide +kernel
theorem dX0_dropSamplesOfLowest_27 : decode cX0_dropSamplesOfLowest 27 = .ok (.iinc 1 1, 3) := by decide +kernel
theorem dX0_dropSamplesOfLowest_30 : decode cX0_dropSamplesOfLowest 30 = .ok (.iinc 2 1, 3) := by decide +kernel
theorem dX0_dropSamplesOfLowest_33 : decode cX0_dropSamplesOfLowest 33 = .ok (.goto (-29), 3) := by decide +kernel
theorem dX0_dropSamplesOfLowest_36 : decode cX0_dropSamplesOfLowest 36 = .ok (.aload_n 0, 1) := by decide +kernel
theorem dX0_dropSamplesOfLowest_37 : decode cX0_dropSamplesOfLowest 37 = .ok (.iload_n 1, 1) := by decide +kernel
theorem dX0_dropSamplesOfLowest_38 : decode cX0_dropSamplesOfLowest 38 = .ok (.putfield 86, 3) := by decide +kernel
theorem dX0_dropSamplesOfLowest_41 : decode cX0_dropSamplesOfLowest 41 = .ok (.return_, 1) := by decide +kernel
theorem dX0_lowerSamples_0 : decode cX0_lowerSamples 0 = .ok (.iconst 0, 1) := by decide +kernel
theorem dX0_lowerSamples_1 : decode cX0_lowerSamples 1 = .ok (.istore_n 1, 1) := by decide +kernel
theorem dX0_lowerSamples_2 : decode cX0_lowerSamples 2 = .ok (.iload_n 1, 1) := by decide +kernel
theorem dX0_lowerSamples_3 : decode cX0_lowerSamples 3 = .ok (.aload_n 0, 1) := by decide +kernel
theorem dX0_lowerSamples_4 : decode cX0_lowerSamples 4 = .ok (.getfield 86, 3) := by decide +kernel
theorem dX0_lowerSamples_7 : decode cX0_lowerSamples 7 = .ok (.if_icmp .ge 29, 3) := by decide +kernel
theorem dX0_lowerSamples_10 : decode cX0_lowerSamples 10 = .ok (.aload_n 0, 1) := by decide +kernel
theorem dX0_lowerSamples_11 : decode cX0_lowerSamples 11 = .ok (.getfield 16, 3) := by decide +kernel
theorem dX0_lowerSamples_14 : decode cX0_lowerSamples 14 = .ok (.iload_n 1, 1) := by decide +kernel
theorem dX0_lowerSamples_15 : decode cX0_lowerSamples 15 = .ok (.dup2, 1) := by decide +kernel
theorem dX0_lowerSamples_16 : decode cX0_lowerSamples 16 = .ok (.iaload, 1) := by decide +kernel
theorem dX0_lowerSamples_17 : decode cX0_lowerSamples 17 = .ok (.iconst 1, 1) := by decide +kernel
theorem dX0_lowerSamples_18 : decode cX0_lowerSamples 18 = .ok (.isub, 1) := by decide +kernel
theorem dX0_lowerSamples_19 : decode cX0_lowerSamples 19 = .ok (.iastore, 1) := by decide +kernel
theorem dX0_lowerSamples_20 : decode cX0_lowerSamples 20 = .ok (.aload_n 0, 1) := by decide +kernel
theorem dX0_lowerSamples_21 : decode cX0_lowerSamples 21 = .ok (.getfield 19, 3) := by decide +kernel
theorem dX0_lowerSamples_24 : decode cX0_lowerSamples 24 = .ok (.iload_n 1, 1) := by decide +kernel
theorem dX0_lowerSamples_25 : decode cX0_lowerSamples 25 = .ok (.dup2, 1) := by decide +kernel
theorem dX0_lowerSamples_26 : decode cX0_lowerSamples 26 = .ok (.iaload, 1) := by decide +kernel
theorem dX0_lowerSamples_27 : decode cX0_lowerSamples 27 = .ok (.iconst 1, 1) := by decide +kernel
theorem dX0_lowerSamples_28 : decode cX0_lowerSamples 28 = .ok (.isub, 1) := by decide +kernel
theorem dX0_lowerSamples_29 : decode cX0_lowerSamples 29 = .ok (.iastore, 1) := by decide +kernel
theorem dX0_lowerSamples_30 : decode cX0_lowerSamples 30 = .ok (.iinc 1 1, 3) := by decide +kernel
theorem dX0_lowerSamples_33 : decode cX0_lowerSamples 33 = .ok (.goto (-31), 3) := by decide +kernel
theorem dX0_lowerSamples_36 : decode cX0_lowerSamples 36 = .ok (.return_, 1) := by decide +kernel
theorem dX0_addDoubt_0 : decode cX0_addDoubt 0 = .ok (.iconst 0, 1) := by decide +kernel
theorem dX0_addDoubt_1 : decode cX0_addDoubt 1 = .ok (.istore_n 2, 1) := by decide +kernel
theorem dX0_addDoubt_2 : decode cX0_addDoubt 2 = .ok (.iload_n 2, 1) := by decide +kernel
theorem dX0_addDoubt_3 : decode cX0_addDoubt 3 = .ok (.aload_n 0, 1) := by decide +kernel
theorem dX0_addDoubt_4 : decode cX0_addDoubt 4 = .ok (.getfield 86, 3) := by decide +kernel
theorem dX0_addDoubt_7 : decode cX0_addDoubt 7 = .ok (.if_icmp .ge 35, 3) := by decide +kernel
theorem dX0_addDoubt_10 : decode cX0_addDoubt 10 = .ok (.aload_n 0, 1) := by decide +kernel
theorem dX0_addDoubt_11 : decode cX0_addDoubt 11 = .ok (.getfield 25, 3) := by decide +kernel
theorem dX0_addDoubt_14 : decode cX0_addDoubt 14 = .ok (.iload_n 2, 1) := by decide +kernel
theorem dX0_addDoubt_15 : decode cX0_addDoubt 15 = .ok (.dup2, 1) := by decide +kernel
theorem dX0_addDoubt_16 : decode cX0_addDoubt 16 = .ok (.iaload, 1) := by decide +kernel
theorem dX0_addDoubt_17 : decode cX0_addDoubt 17 = .ok (.iload_n 1, 1) := by decide +kernel
theorem dX0_addDoubt_18 : decode cX0_addDoubt 18 = .ok (.aload_n 0, 1) := by decide +kernel
theorem dX0_addDoubt_19 : decode cX0_addDoubt 19 = .ok (.getfield 19, 3) := by decide +kernel
theorem dX0_addDoubt_22 : decode cX0_addDoubt 22 = .ok (.iload_n 2, 1) := by decide +kernel
theorem dX0_addDoubt_23 : decode cX0_addDoubt 23 = .ok (.iaload, 1) := by decide +kernel
theorem dX0_addDoubt_24 : decode cX0_addDoubt 24 = .ok (.aload_n 0, 1) := by decide +kernel
theorem dX0_addDoubt_25 : decode cX0_addDoubt 25 = .ok (.getfield 16, 3) := by decide +kernel
theorem dX0_addDoubt_28 : decode cX0_addDoubt 28 = .ok (.iload_n 2, 1) := by decide +kernel
theorem dX0_addDoubt_29 : decode cX0_addDoubt 29 = .ok (.iaload, 1) := by decide +kernel
theorem dX0_addDoubt_30 : decode cX0_addDoubt 30 = .ok (.isub, 1) := by decide +kernel
theorem dX0_addDoubt_31 : decode cX0_addDoubt 31 = .ok (.iconst 1, 1) := by decide +kernel
theorem dX0_addDoubt_32 : decode cX0_addDoubt 32 = .ok (.iadd, 1) := by decide +kernel
theorem dX0_addDoubt_33 : decode cX0_addDoubt 33 = .ok (.imul, 1) := by decide +kernel
theorem dX0_addDoubt_34 : decode cX0_addDoubt 34 = .ok (.iadd, 1) := by decide +kernel
theorem dX0_addDoubt_35 : decode cX0_addDoubt 35 = .ok (.iastore, 1) := by decide +kernel
theorem dX0_addDoubt_36 : decode cX0_addDoubt 36 = .ok (.iinc 2 1, 3) := by decide +kernel
theorem dX0_addDoubt_39 : decode cX0_addDoubt 39 = .ok (.goto (-37), 3) := by decide +kernel
theorem dX0_addDoubt_42 : decode cX0_addDoubt 42 = .ok (.return_, 1) := by decide +kernel
theorem dX0_copyDampnessAhead_0 : decode cX0_copyDampnessAhead 0 = .ok (.iconst 0, 1) := by decide +kernel
theorem dX0_copyDampnessAhead_1 : decode cX0_copyDampnessAhead 1 = .ok (.istore_n 1, 1) := by decide +kernel
theorem dX0_copyDampnessAhead_2 : decode cX0_copyDampnessAhead 2 = .ok (.iload_n 1, 1) := by decide +kernel
theorem dX0_copyDampnessAhead_3 : decode cX0_copyDampnessAhead 3 = .ok (.aload_n 0, 1) := by decide +kernel
theorem dX0_copyDampnessAhead_4 : decode cX0_copyDampnessAhead 4 = .ok (.getfield 57, 3) := by decide +kernel
theorem dX0_copyDampnessAhead_7 : decode cX0_copyDampnessAhead 7 = .ok (.if_icmp .ge 21, 3) := by decide +kernel
theorem dX0_copyDampnessAhead_10 : decode cX0_copyDampnessAhead 10 = .ok (.aload_n 0, 1) := by decide +kernel
theorem dX0_copyDampnessAhead_11 : decode cX0_copyDampnessAhead 11 = .ok (.getfield 31, 3) := by decide +kernel
theorem dX0_copyDampnessAhead_14 : decode cX0_copyDampnessAhead 14 = .ok (.iload_n 1, 1) := by decide +kernel
theorem dX0_copyDampnessAhead_15 : decode cX0_copyDampnessAhead 15 = .ok (.aload_n 0, 1) := by decide +kernel
theorem dX0_copyDampnessAhead_16 : decode cX0_copyDampnessAhead 16 = .ok (.getfield 13, 3) := by decide +kernel
theorem dX0_copyDampnessAhead_19 : decode cX0_copyDampnessAhead 19 = .ok (.iload_n 1, 1) := by decide +kernel
theorem dX0_copyDampnessAhead_20 : decode cX0_copyDampnessAhead 20 = .ok (.iaload, 1) := by decide +kernel
theorem dX0_copyDampnessAhead_21 : decode cX0_copyDampnessAhead 21 = .ok (.iastore, 1) := by decide +kernel
theorem dX0_copyDampnessAhead_22 : decode cX0_copyDampnessAhead 22 = .ok (.iinc 1 1, 3) := by decide +kernel
theorem dX0_copyDampnessAhead_25 : decode cX0_copyDampnessAhead 25 = .ok (.goto (-23), 3) := by decide +kernel
theorem dX0_copyDampnessAhead_28 : decode cX0_copyDampnessAhead 28 = .ok (.return_, 1) := by decide +kernel
set_option maxRecDepth 20000 in
theorem ggX0_letDaysGoBy_X0_letDayGoBy : GoodIn wsX0_letDaysGoBy wsX0_letDayGoBy := goodIn_r _ [5, 6, 7, 8, 9, 10, 4, 11, 12, 13, 14, 15, 16, 17, 18, 19, 20, 21, 22, 23, 24, 25, 26, 27, 28, 29, 30] (by decide +kernel) (by decide +kernel)
set_option maxRecDepth 20000 in
theorem gX0_letDaysGoBy_X0_letDayGoBy : GoodIn wsX0_letDaysGoBy (wsV RX0 167 RX0 yX0_letDayGoBy wsX0_letDayGoBy) := goodIn_app (goodIn_of _ (by decide +kernel)) ggX0_letDaysGoBy_X0_letDayGoBy
theorem dX0_letDaysGoBy_0 : decode cX0_letDaysGoBy 0 = .ok (.iconst 0, 1) := by decide +kernel
theorem dX0_letDaysGoBy_1 : decode cX0_letDaysGoBy 1 = .ok (.istore_n 3, 1) := by decide +kernel
theorem dX0_letDaysGoBy_2 : decode cX0_letDaysGoBy 2 = .ok (.iconst 0, 1) := by decide +kernel
theorem dX0_letDaysGoBy_3 : decode cX0_letDaysGoBy 3 = .ok (.istore 4, 2) := by decide +kernel
theorem dX0_letDaysGoBy_5 : decode cX0_letDaysGoBy 5 = .ok (.iload 4, 2) := by decide +kernel
theorem dX0_letDaysGoBy_7 : decode cX0_letDaysGoBy 7 = .ok (.iload_n 2, 1) := by decide +kernel
theorem dX0_letDaysGoBy_8 : decode cX0_letDaysGoBy 8 = .ok (.if_icmp .ge 17, 3) := by decide +kernel
theorem dX0_letDaysGoBy_11 : decode cX0_letDaysGoBy 11 = .ok (.iload_n 3, 1) := by decide +kernel
theorem dX0_letDaysGoBy_12 : decode cX0_letDaysGoBy 12 = .ok (.aload_n 0, 1) := by decide +kernel
theorem dX0_letDaysGoBy_13 : decode cX0_letDaysGoBy 13 = .ok (.aload_n 1, 1) := by decide +kernel
theorem dX0_letDaysGoBy_14 : decode cX0_letDaysGoBy 14 = .ok (.invokevirtual 167, 3) := by decide +kernel
theorem dX0_letDaysGoBy_17 : decode cX0_letDaysGoBy 17 = .ok (.iadd, 1) := by decide +kernel
theorem dX0_letDaysGoBy_18 : decode cX0_letDaysGoBy 18 = .ok (.istore_n 3, 1) := by decide +kernel
theorem dX0_letDaysGoBy_19 : decode cX0_letDaysGoBy 19 = .ok (.iinc 4 1, 3) := by decide +kernel
theorem dX0_letDaysGoBy_22 : decode cX0_letDaysGoBy 22 = .ok (.goto (-17), 3) := by decide +kernel
theorem dX0_letDaysGoBy_25 : decode cX0_letDaysGoBy 25 = .ok (.iload_n 3, 1) := by decide +kernel
theorem dX0_letDaysGoBy_26 : decode cX0_letDaysGoBy 26 = .ok (.ireturn, 1) := by decide +kernel
set_option maxRecDepth 20000 in
theorem ggX0_letDayGoBy_X0_turnOf : GoodIn wsX0_letDayGoBy wsX0_turnOf := goodIn_r _ [7, 8, 9, 10, 6, 11, 1, 12, 13, 14, 15, 16, 17, 18, 19, 20, 21, 22, 23, 24, 25, 26] (by decide +kernel) (by decide +kernel)
set_option maxRecDepth 20000 in
theorem gX0_letDayGoBy_X0_turnOf : GoodIn wsX0_letDayGoBy (wsV RX0 192 RX0 yX0_turnOf wsX0_turnOf) := goodIn_app (goodIn_of _ (by decide +kernel)) ggX0_letDayGoBy_X0_turnOf
theorem dX0_letDayGoBy_0 : decode cX0_letDayGoBy 0 = .ok (.iconst 0, 1) := by decide +kernel
theorem dX0_letDayGoBy_1 : decode cX0_letDayGoBy 1 = .ok (.istore_n 2, 1) := by decide +kernel
theorem dX0_letDayGoBy_2 : decode cX0_letDayGoBy 2 = .ok (.iload_n 2, 1) := by decide +kernel
theorem dX0_letDayGoBy_3 : decode cX0_letDayGoBy 3 = .ok (.aload_n 0, 1) := by decide +kernel
theorem dX0_letDayGoBy_4 : decode cX0_letDayGoBy 4 = .ok (.getfield 57, 3) := by decide +kernel
theorem dX0_letDayGoBy_7 : decode cX0_letDayGoBy 7 = .ok (.if_icmp .ge 21, 3) := by decide +kernel
theorem dX0_letDayGoBy_10 : decode cX0_letDayGoBy 10 = .ok (.aload_n 0, 1) := by decide +kernel
theorem dX0_letDayGoBy_11 : decode cX0_letDayGoBy 11 = .ok (.getfield 28, 3) := by decide +kernel
theorem dX0_letDayGoBy_14 : decode cX0_letDayGoBy 14 = .ok (.iload_n 2, 1) := by decide +kernel
theorem dX0_letDayGoBy_15 : decode cX0_letDayGoBy 15 = .ok (.aload_n 0, 1) := by decide +kernel
theorem dX0_letDayGoBy_16 : decode cX0_letDayGoBy 16 = .ok (.aload_n 1, 1) := by decide +kernel
theorem dX0_letDayGoBy_17 : decode cX0_letDayGoBy 17 = .ok (.iload_n 2, 1) := by decide +kernel
theorem dX0_letDayGoBy_18 : decode cX0_letDayGoBy 18 = .ok (.invokevirtual 192, 3) := by decide +kernel
theorem dX0_letDayGoBy_21 : decode cX0_letDayGoBy 21 = .ok (.iastore, 1) := by decide +kernel
theorem dX0_letDayGoBy_22 : decode cX0_letDayGoBy 22 = .ok (.iinc 2 1, 3) := by decide +kernel
theorem dX0_letDayGoBy_25 : decode cX0_letDayGoBy 25 = .ok (.goto (-23), 3) := by decide +kernel
theorem dX0_letDayGoBy_28 : decode cX0_letDayGoBy 28 = .ok (.iconst 0, 1) := by decide +kernel
theorem dX0_letDayGoBy_29 : decode cX0_letDayGoBy 29 = .ok (.istore_n 2, 1) := by decide +kernel
theorem dX0_letDayGoBy_30 : decode cX0_letDayGoBy 30 = .ok (.iconst 0, 1) := by decide +kernel
theorem dX0_letDayGoBy_31 : decode cX0_letDayGoBy 31 = .ok (.istore_n 3, 1) := by decide +kernel
theorem dX0_letDayGoBy_32 : decode cX0_letDayGoBy 32 = .ok (.iload_n 3, 1) := by decide +kernel
theorem dX0_letDayGoBy_33 : decode cX0_letDayGoBy 33 = .ok (.aload_n 0, 1) := by decide +kernel
theorem dX0_letDayGoBy_34 : decode cX0_letDayGoBy 34 = .ok (.getfield 57, 3) := by decide +kernel
theorem dX0_letDayGoBy_37 : decode cX0_letDayGoBy 37 = .ok (.if_icmp .ge 33, 3) := by decide +kernel
theorem dX0_letDayGoBy_40 : decode cX0_letDayGoBy 40 = .ok (.aload_n 0, 1) := by decide +kernel
theorem dX0_letDayGoBy_41 : decode cX0_letDayGoBy 41 = .ok (.getfield 28, 3) := by decide +kernel
theorem dX0_letDayGoBy_44 : decode cX0_letDayGoBy 44 = .ok (.iload_n 3, 1) := by decide +kernel
theorem dX0_letDayGoBy_45 : decode cX0_letDayGoBy 45 = .ok (.iaload, 1) := by decide +kernel
theorem dX0_letDayGoBy_46 : decode cX0_letDayGoBy 46 = .ok (.ifCond .eq 18, 3) := by decide +kernel
theorem dX0_letDayGoBy_49 : decode cX0_letDayGoBy 49 = .ok (.aload_n 1, 1) := by decide +kernel
theorem dX0_letDayGoBy_50 : decode cX0_letDayGoBy 50 = .ok (.iload_n 3, 1) := by decide +kernel
theorem dX0_letDayGoBy_51 : decode cX0_letDayGoBy 51 = .ok (.dup2, 1) := by decide +kernel
theorem dX0_letDayGoBy_52 : decode cX0_letDayGoBy 52 = .ok (.iaload, 1) := by decide +kernel
theorem dX0_letDayGoBy_53 : decode cX0_letDayGoBy 53 = .ok (.aload_n 0, 1) := by decide +kernel
theorem dX0_letDayGoBy_54 : decode cX0_letDayGoBy 54 = .ok (.getfield 28, 3) := by decide +kernel
theorem dX0_letDayGoBy_57 : decode cX0_letDayGoBy 57 = .ok (.iload_n 3, 1) := by decide +kernel
theorem dX0_letDayGoBy_58 : decode cX0_letDayGoBy 58 = .ok (.iaload, 1) := by decide +kernel
theorem dX0_letDayGoBy_59 : decode cX0_letDayGoBy 59 = .ok (.iadd, 1) := by decide +kernel
theorem dX0_letDayGoBy_60 : decode cX0_letDayGoBy 60 = .ok (.iastore, 1) := by decide +kernel
theorem dX0_letDayGoBy_61 : decode cX0_letDayGoBy 61 = .ok (.iinc 2 1, 3) := by decide +kernel
theorem dX0_letDayGoBy_64 : decode cX0_letDayGoBy 64 = .ok (.iinc 3 1, 3) := by decide +kernel
theorem dX0_letDayGoBy_67 : decode cX0_letDayGoBy 67 = .ok (.goto (-35), 3) := by decide +kernel
theorem dX0_letDayGoBy_70 : decode cX0_letDayGoBy 70 = .ok (.iload_n 2, 1) := by decide +kernel
theorem dX0_letDayGoBy_71 : decode cX0_letDayGoBy 71 = .ok (.ireturn, 1) := by decide +kernel
set_option maxRecDepth 20000 in
theorem ggX0_turnOf_X0_pullOf : GoodIn wsX0_turnOf wsX0_pullOf := goodIn_r _ [5, 6, 7, 8, 9, 10, 11, 12, 13, 14, 15, 16, 17, 18, 19, 20, 21] (by decide +kernel) (by decide +kernel)
set_option maxRecDepth 20000 in
theorem gX0_turnOf_X0_pullOf : GoodIn wsX0_turnOf (wsV RX0 195 RX0 yX0_pullOf wsX0_pullOf) := goodIn_app (goodIn_of _ (by decide +kernel)) ggX0_turnOf_X0_pullOf
theorem dX0_turnOf_0 : decode cX0_turnOf 0 = .ok (.aload_n 0, 1) := by decide +kernel
theorem dX0_turnOf_1 : decode cX0_turnOf 1 = .ok (.aload_n 1, 1) := by decide +kernel
theorem dX0_turnOf_2 : decode cX0_turnOf 2 = .ok (.iload_n 2, 1) := by decide +kernel
theorem dX0_turnOf_3 : decode cX0_turnOf 3 = .ok (.iload_n 2, 1) := by decide +kernel
theorem dX0_turnOf_4 : decode cX0_turnOf 4 = .ok (.iconst 1, 1) := by decide +kernel
theorem dX0_turnOf_5 : decode cX0_turnOf 5 = .ok (.isub, 1) := by decide +kernel
theorem dX0_turnOf_6 : decode cX0_turnOf 6 = .ok (.invokevirtual 195, 3) := by decide +kernel
theorem dX0_turnOf_9 : decode cX0_turnOf 9 = .ok (.aload_n 0, 1) := by decide +kernel
theorem dX0_turnOf_10 : decode cX0_turnOf 10 = .ok (.aload_n 1, 1) := by decide +kernel
theorem dX0_turnOf_11 : decode cX0_turnOf 11 = .ok (.iload_n 2, 1) := by decide +kernel
theorem dX0_turnOf_12 : decode cX0_turnOf 12 = .ok (.iload_n 2, 1) := by decide +kernel
theorem dX0_turnOf_13 : decode cX0_turnOf 13 = .ok (.iconst 1, 1) := by decide +kernel
theorem dX0_turnOf_14 : decode cX0_turnOf 14 = .ok (.iadd, 1) := by decide +kernel
theorem dX0_turnOf_15 : decode cX0_turnOf 15 = .ok (.invokevirtual 195, 3) := by decide +kernel
theorem dX0_turnOf_18 : decode cX0_turnOf 18 = .ok (.iadd, 1) := by decide +kernel
theorem dX0_turnOf_19 : decode cX0_turnOf 19 = .ok (.istore_n 3, 1) := by decide +kernel
theorem dX0_turnOf_20 : decode cX0_turnOf 20 = .ok (.iload_n 3, 1) := by decide +kernel
theorem dX0_turnOf_21 : decode cX0_turnOf 21 = .ok (.ifCond .le 5, 3) := by decide +kernel
theorem dX0_turnOf_24 : decode cX0_turnOf 24 = .ok (.iconst 1, 1) := by decide +kernel
theorem dX0_turnOf_25 : decode cX0_turnOf 25 = .ok (.ireturn, 1) := by decide +kernel
theorem dX0_turnOf_26 : decode cX0_turnOf 26 = .ok (.iload_n 3, 1) := by decide +kernel
theorem dX0_turnOf_27 : decode cX0_turnOf 27 = .ok (.ifCond .ge 7, 3) := by decide +kernel
theorem dX0_turnOf_30 : decode cX0_turnOf 30 = .ok (.iconst (-1), 1) := by decide +kernel
theorem dX0_turnOf_31 : decode cX0_turnOf 31 = .ok (.goto 4, 3) := by decide +kernel
theorem dX0_turnOf_34 : decode cX0_turnOf 34 = .ok (.iconst 0, 1) := by decide +kernel
theorem dX0_turnOf_35 : decode cX0_turnOf 35 = .ok (.ireturn, 1) := by decide +kernel
theorem dX0_pullOf_0 : decode cX0_pullOf 0 = .ok (.iload_n 3, 1) := by decide +kernel
theorem dX0_pullOf_1 : decode cX0_pullOf 1 = .ok (.ifCond .lt 11, 3) := by decide +kernel
theorem dX0_pullOf_4 : decode cX0_pullOf 4 = .ok (.iload_n 3, 1) := by decide +kernel
theorem dX0_pullOf_5 : decode cX0_pullOf 5 = .ok (.aload_n 0, 1) := by decide +kernel
theorem dX0_pullOf_6 : decode cX0_pullOf 6 = .ok (.getfield 57, 3) := by decide +kernel
theorem dX0_pullOf_9 : decode cX0_pullOf 9 = .ok (.if_icmp .lt 5, 3) := by decide +kernel
theorem dX0_pullOf_12 : decode cX0_pullOf 12 = .ok (.iconst 0, 1) := by decide +kernel
theorem dX0_pullOf_13 : decode cX0_pullOf 13 = .ok (.ireturn, 1) := by decide +kernel
theorem dX0_pullOf_14 : decode cX0_pullOf 14 = .ok (.aload_n 1, 1) := by decide +kernel
theorem dX0_pullOf_15 : decode cX0_pullOf 15 = .ok (.iload_n 3, 1) := by decide +kernel
theorem dX0_pullOf_16 : decode cX0_pullOf 16 = .ok (.iaload, 1) := by decide +kernel
theorem dX0_pullOf_17 : decode cX0_pullOf 17 = .ok (.aload_n 1, 1) := by decide +kernel
theorem dX0_pullOf_18 : decode cX0_pullOf 18 = .ok (.iload_n 2, 1) := by decide +kernel
theorem dX0_pullOf_19 : decode cX0_pullOf 19 = .ok (.iaload, 1) := by decide +kernel
theorem dX0_pullOf_20 : decode cX0_pullOf 20 = .ok (.isub, 1) := by decide +kernel
theorem dX0_pullOf_21 : decode cX0_pullOf 21 = .ok (.istore 4, 2) := by decide +kernel
theorem dX0_pullOf_23 : decode cX0_pullOf 23 = .ok (.iload 4, 2) := by decide +kernel
theorem dX0_pullOf_25 : decode cX0_pullOf 25 = .ok (.iconst 2, 1) := by decide +kernel
theorem dX0_pullOf_26 : decode cX0_pullOf 26 = .ok (.if_icmp .lt 5, 3) := by decide +kernel
theorem dX0_pullOf_29 : decode cX0_pullOf 29 = .ok (.iconst 1, 1) := by decide +kernel
theorem dX0_pullOf_30 : decode cX0_pullOf 30 = .ok (.ireturn, 1) := by decide +kernel
theorem dX0_pullOf_31 : decode cX0_pullOf 31 = .ok (.iload 4, 2) := by decide +kernel
theorem dX0_pullOf_33 : decode cX0_pullOf 33 = .ok (.bipush (-2), 2) := by decide +kernel
theorem dX0_pullOf_35 : decode cX0_pullOf 35 = .ok (.if_icmp .gt 7, 3) := by decide +kernel
theorem dX0_pullOf_38 : decode cX0_pullOf 38 = .ok (.iconst (-1), 1) := by decide +kernel
theorem dX0_pullOf_39 : decode cX0_pullOf 39 = .ok (.goto 4, 3) := by decide +kernel
theorem dX0_pullOf_42 : decode cX0_pullOf 42 = .ok (.iconst 0, 1) := by decide +kernel
theorem dX0_pullOf_43 : decode cX0_pullOf 43 = .ok (.ireturn, 1) := by decide +kernel
set_option maxRecDepth 20000 in
theorem ggX0_weighSamples_X0_weighNothing : GoodIn wsX0_weighSamples wsX0_weighNothing := goodIn_r _ [10, 11, 12, 21, 22, 23, 24, 25, 26, 27, 28, 29, 30, 31, 32, 33, 34, 35] (by decide +kernel) (by decide +kernel)
set_option maxRecDepth 20000 in
theorem gX0_weighSamples_X0_weighNothing : GoodIn wsX0_weighSamples (wsV RX0 199 RX0 yX0_weighNothing wsX0_weighNothing) := goodIn_app (goodIn_of _ (by decide +kernel)) ggX0_weighSamples_X0_weighNothing
set_option maxRecDepth 20000 in
theorem ggX0_weighSamples_X0_heed : GoodIn wsX0_weighSamples wsX0_heed := goodIn_r _ [16, 12, 11, 17, 18, 19, 20, 21, 22, 23, 24, 25, 26, 27, 28, 29, 30, 31, 32, 33, 34, 35] (by decide +kernel) (by decide +kernel)
set_option maxRecDepth 20000 in
theorem gX0_weighSamples_X0_heed : GoodIn wsX0_weighSamples (wsV RX0 202 RX0 yX0_heed wsX0_heed) := goodIn_app (goodIn_of _ (by decide +kernel)) ggX0_weighSamples_X0_heed
theorem dX0_weighSamples_0 : decode cX0_weighSamples 0 = .ok (.aload_n 0, 1) := by decide +kernel
theorem dX0_weighSamples_1 : decode cX0_weighSamples 1 = .ok (.invokevirtual 199, 3) := by decide +kernel
theorem dX0_weighSamples_4 : decode cX0_weighSamples 4 = .ok (.iconst 0, 1) := by decide +kernel
theorem dX0_weighSamples_5 : decode cX0_weighSamples 5 = .ok (.istore_n 1, 1) := by decide +kernel
theorem dX0_weighSamples_6 : decode cX0_weighSamples 6 = .ok (.iload_n 1, 1) := by decide +kernel
theorem dX0_weighSamples_7 : decode cX0_weighSamples 7 = .ok (.aload_n 0, 1) := by decide +kernel
theorem dX0_weighSamples_8 : decode cX0_weighSamples 8 = .ok (.getfield 86, 3) := by decide +kernel
theorem dX0_weighSamples_11 : decode cX0_weighSamples 11 = .ok (.if_icmp .ge 63, 3) := by decide +kernel
theorem dX0_weighSamples_14 : decode cX0_weighSamples 14 = .ok (.aload_n 0, 1) := by decide +kernel
theorem dX0_weighSamples_15 : decode cX0_weighSamples 15 = .ok (.getfield 16, 3) := by decide +kernel
theorem dX0_weighSamples_18 : decode cX0_weighSamples 18 = .ok (.iload_n 1, 1) := by decide +kernel
theorem dX0_weighSamples_19 : decode cX0_weighSamples 19 = .ok (.iaload, 1) := by decide +kernel
theorem dX0_weighSamples_20 : decode cX0_weighSamples 20 = .ok (.istore_n 2, 1) := by decide +kernel
theorem dX0_weighSamples_21 : decode cX0_weighSamples 21 = .ok (.aload_n 0, 1) := by decide +kernel
theorem dX0_weighSamples_22 : decode cX0_weighSamples 22 = .ok (.getfield 19, 3) := by decide +kernel
theorem dX0_weighSamples_25 : decode cX0_weighSamples 25 = .ok (.iload_n 1, 1) := by decide +kernel
theorem dX0_weighSamples_26 : decode cX0_weighSamples 26 = .ok (.iaload, 1) := by decide +kernel
theorem dX0_weighSamples_27 : decode cX0_weighSamples 27 = .ok (.iconst 1, 1) := by decide +kernel
theorem dX0_weighSamples_28 : decode cX0_weighSamples 28 = .ok (.iadd, 1) := by decide +kernel
theorem dX0_weighSamples_29 : decode cX0_weighSamples 29 = .ok (.istore_n 3, 1) := by decide +kernel
theorem dX0_weighSamples_30 : decode cX0_weighSamples 30 = .ok (.aload_n 0, 1) := by decide +kernel
theorem dX0_weighSamples_31 : decode cX0_weighSamples 31 = .ok (.iload_n 2, 1) := by decide +kernel
theorem dX0_weighSamples_32 : decode cX0_weighSamples 32 = .ok (.iload_n 3, 1) := by decide +kernel
theorem dX0_weighSamples_33 : decode cX0_weighSamples 33 = .ok (.aload_n 0, 1) := by decide +kernel
theorem dX0_weighSamples_34 : decode cX0_weighSamples 34 = .ok (.getfield 22, 3) := by decide +kernel
theorem dX0_weighSamples_37 : decode cX0_weighSamples 37 = .ok (.iload_n 1, 1) := by decide +kernel
theorem dX0_weighSamples_38 : decode cX0_weighSamples 38 = .ok (.iaload, 1) := by decide +kernel
theorem dX0_weighSamples_39 : decode cX0_weighSamples 39 = .ok (.aload_n 0, 1) := by decide +kernel
theorem dX0_weighSamples_40 : decode cX0_weighSamples 40 = .ok (.getfield 25, 3) := by decide +kernel
theorem dX0_weighSamples_43 : decode cX0_weighSamples 43 = .ok (.iload_n 1, 1) := by decide +kernel
theorem dX0_weighSamples_44 : decode cX0_weighSamples 44 = .ok (.iaload, 1) := by decide +kernel
theorem dX0_weighSamples_45 : decode cX0_weighSamples 45 = .ok (.iadd, 1) := by decide +kernel
theorem dX0_weighSamples_46 : decode cX0_weighSamples 46 = .ok (.invokevirtual 202, 3) := by decide +kernel
theorem dX0_weighSamples_49 : decode cX0_weighSamples 49 = .ok (.aload_n 0, 1) := by decide +kernel
theorem dX0_weighSamples_50 : decode cX0_weighSamples 50 = .ok (.iload_n 3, 1) := by decide +kernel
theorem dX0_weighSamples_51 : decode cX0_weighSamples 51 = .ok (.iload_n 2, 1) := by decide +kernel
theorem dX0_weighSamples_52 : decode cX0_weighSamples 52 = .ok (.aload_n 0, 1) := by decide +kernel
theorem dX0_weighSamples_53 : decode cX0_weighSamples 53 = .ok (.getfield 25, 3) := by decide +kernel
theorem dX0_weighSamples_56 : decode cX0_weighSamples 56 = .ok (.iload_n 1, 1) := by decide +kernel
theorem dX0_weighSamples_57 : decode cX0_weighSamples 57 = .ok (.iaload, 1) := by decide +kernel
theorem dX0_weighSamples_58 : decode cX0_weighSamples 58 = .ok (.aload_n 0, 1) := by decide +kernel
theorem dX0_weighSamples_59 : decode cX0_weighSamples 59 = .ok (.getfield 22, 3) := by decide +kernel
theorem dX0_weighSamples_62 : decode cX0_weighSamples 62 = .ok (.iload_n 1, 1) := by decide +kernel
theorem dX0_weighSamples_63 : decode cX0_weighSamples 63 = .ok (.iaload, 1) := by decide +kernel
theorem dX0_weighSamples_64 : decode cX0_weighSamples 64 = .ok (.isub, 1) := by decide +kernel
theorem dX0_weighSamples_65 : decode cX0_weighSamples 65 = .ok (.invokevirtual 202, 3) := by decide +kernel
theorem dX0_weighSamples_68 : decode cX0_weighSamples 68 = .ok (.iinc 1 1, 3) := by decide +kernel
theorem dX0_weighSamples_71 : decode cX0_weighSamples 71 = .ok (.goto (-65), 3) := by decide +kernel
theorem dX0_weighSamples_74 : decode cX0_weighSamples 74 = .ok (.return_, 1) := by decide +kernel
theorem dX0_weighNothing_0 : decode cX0_weighNothing 0 = .ok (.iconst 0, 1) := by decide +kernel
theorem dX0_weighNothing_1 : decode cX0_weighNothing 1 = .ok (.istore_n 1, 1) := by decide +kernel
theorem dX0_weighNothing_2 : decode cX0_weighNothing 2 = .ok (.iload_n 1, 1) := by decide +kernel
theorem dX0_weighNothing_3 : decode cX0_weighNothing 3 = .ok (.aload_n 0, 1) := by decide +kernel
theorem dX0_weighNothing_4 : decode cX0_weighNothing 4 = .ok (.getfield 57, 3) := by decide +kernel
theorem dX0_weighNothing_7 : decode cX0_weighNothing 7 = .ok (.if_icmp .gt 48, 3) := by decide +kernel
theorem dX0_weighNothing_10 : decode cX0_weighNothing 10 = .ok (.iconst 0, 1) := by decide +kernel
theorem dX0_weighNothing_11 : decode cX0_weighNothing 11 = .ok (.istore_n 2, 1) := by decide +kernel
theorem dX0_weighNothing_12 : decode cX0_weighNothing 12 = .ok (.iload_n 2, 1) := by decide +kernel
theorem dX0_weighNothing_13 : decode cX0_weighNothing 13 = .ok (.aload_n 0, 1) := by decide +kernel
theorem dX0_weighNothing_14 : decode cX0_weighNothing 14 = .ok (.getfield 57, 3) := by decide +kernel
theorem dX0_weighNothing_17 : decode cX0_weighNothing 17 = .ok (.if_icmp .gt 32, 3) := by decide +kernel
theorem dX0_weighNothing_20 : decode cX0_weighNothing 20 = .ok (.aload_n 0, 1) := by decide +kernel
theorem dX0_weighNothing_21 : decode cX0_weighNothing 21 = .ok (.getfield 36, 3) := by decide +kernel
theorem dX0_weighNothing_24 : decode cX0_weighNothing 24 = .ok (.iload_n 1, 1) := by decide +kernel
theorem dX0_weighNothing_25 : decode cX0_weighNothing 25 = .ok (.aaload, 1) := by decide +kernel
theorem dX0_weighNothing_26 : decode cX0_weighNothing 26 = .ok (.iload_n 2, 1) := by decide +kernel
theorem dX0_weighNothing_27 : decode cX0_weighNothing 27 = .ok (.iload_n 2, 1) := by decide +kernel
theorem dX0_weighNothing_28 : decode cX0_weighNothing 28 = .ok (.iload_n 1, 1) := by decide +kernel
theorem dX0_weighNothing_29 : decode cX0_weighNothing 29 = .ok (.if_icmp .le 12, 3) := by decide +kernel
theorem dX0_weighNothing_32 : decode cX0_weighNothing 32 = .ok (.iload_n 2, 1) := by decide +kernel
theorem dX0_weighNothing_33 : decode cX0_weighNothing 33 = .ok (.iload_n 1, 1) := by decide +kernel
theorem dX0_weighNothing_34 : decode cX0_weighNothing 34 = .ok (.isub, 1) := by decide +kernel
theorem dX0_weighNothing_35 : decode cX0_weighNothing 35 = .ok (.bipush 40, 2) := by decide +kernel
theorem dX0_weighNothing_37 : decode cX0_weighNothing 37 = .ok (.imul, 1) := by decide +kernel
theorem dX0_weighNothing_38 : decode cX0_weighNothing 38 = .ok (.goto 4, 3) := by decide +kernel
theorem dX0_weighNothing_41 : decode cX0_weighNothing 41 = .ok (.iconst 0, 1) := by decide +kernel
theorem dX0_weighNothing_42 : decode cX0_weighNothing 42 = .ok (.iastore, 1) := by decide +kernel
theorem dX0_weighNothing_43 : decode cX0_weighNothing 43 = .ok (.iinc 2 1, 3) := by decide +kernel
theorem dX0_weighNothing_46 : decode cX0_weighNothing 46 = .ok (.goto (-34), 3) := by decide +kernel
theorem dX0_weighNothing_49 : decode cX0_weighNothing 49 = .ok (.iinc 1 1, 3) := by decide +kernel
theorem dX0_weighNothing_52 : decode cX0_weighNothing 52 = .ok (.goto (-50), 3) := by decide +kernel
theorem dX0_weighNothing_55 : decode cX0_weighNothing 55 = .ok (.return_, 1) := by decide +kernel
theorem dX0_heed_0 : decode cX0_heed 0 = .ok (.iload_n 3, 1) := by decide +kernel
theorem dX0_heed_1 : decode cX0_heed 1 = .ok (.aload_n 0, 1) := by decide +kernel
theorem dX0_heed_2 : decode cX0_heed 2 = .ok (.getfield 36, 3) := by decide +kernel
theorem dX0_heed_5 : decode cX0_heed 5 = .ok (.iload_n 1, 1) := by decide +kernel
theorem dX0_heed_6 : decode cX0_heed 6 = .ok (.aaload, 1) := by decide +kernel
theorem dX0_heed_7 : decode cX0_heed 7 = .ok (.iload_n 2, 1) := by decide +kernel
theorem dX0_heed_8 : decode cX0_heed 8 = .ok (.iaload, 1) := by decide +kernel
theorem dX0_heed_9 : decode cX0_heed 9 = .ok (.if_icmp .lt 4, 3) := by decide +kernel
theorem dX0_heed_12 : decode cX0_heed 12 = .ok (.return_, 1) := by decide +kernel
theorem dX0_heed_13 : decode cX0_heed 13 = .ok (.iconst 0, 1) := by decide +kernel
theorem dX0_heed_14 : decode cX0_heed 14 = .ok (.istore 4, 2) := by decide +kernel
theorem dX0_heed_16 : decode cX0_heed 16 = .ok (.iload 4, 2) := by decide +kernel
theorem dX0_heed_18 : decode cX0_heed 18 = .ok (.aload_n 0, 1) := by decide +kernel
theorem dX0_heed_19 : decode cX0_heed 19 = .ok (.getfield 57, 3) := by decide +kernel
theorem dX0_heed_22 : decode cX0_heed 22 = .ok (.if_icmp .gt 71, 3) := by decide +kernel
theorem dX0_heed_25 : decode cX0_heed 25 = .ok (.iconst 0, 1) := by decide +kernel
theorem dX0_heed_26 : decode cX0_heed 26 = .ok (.istore 5, 2) := by decide +kernel
theorem dX0_heed_28 : decode cX0_heed 28 = .ok (.iload 5, 2) := by decide +kernel
theorem dX0_heed_30 : decode cX0_heed 30 = .ok (.aload_n 0, 1) := by decide +kernel
theorem dX0_heed_31 : decode cX0_heed 31 = .ok (.getfield 57, 3) := by decide +kernel
theorem dX0_heed_34 : decode cX0_heed 34 = .ok (.if_icmp .gt 53, 3) := by decide +kernel
theorem dX0_heed_37 : decode cX0_heed 37 = .ok (.aload_n 0, 1) := by decide +kernel
theorem dX0_heed_38 : decode cX0_heed 38 = .ok (.getfield 36, 3) := by decide +kernel
theorem dX0_heed_41 : decode cX0_heed 41 = .ok (.iload 4, 2) := by decide +kernel
theorem dX0_heed_43 : decode cX0_heed 43 = .ok (.aaload, 1) := by decide +kernel
theorem dX0_heed_44 : decode cX0_heed 44 = .ok (.iload 5, 2) := by decide +kernel
theorem dX0_heed_46 : decode cX0_heed 46 = .ok (.aload_n 0, 1) := by decide +kernel
theorem dX0_heed_47 : decode cX0_heed 47 = .ok (.getfield 36, 3) := by decide +kernel
theorem dX0_heed_50 : decode cX0_heed 50 = .ok (.iload 4, 2) := by decide +kernel
theorem dX0_heed_52 : decode cX0_heed 52 = .ok (.aaload, 1) := by decide +kernel
theorem dX0_heed_53 : decode cX0_heed 53 = .ok (.iload 5, 2) := by decide +kernel
theorem dX0_heed_55 : decode cX0_heed 55 = .ok (.iaload, 1) := by decide +kernel
theorem dX0_heed_56 : decode cX0_heed 56 = .ok (.aload_n 0, 1) := by decide +kernel
theorem dX0_heed_57 : decode cX0_heed 57 = .ok (.getfield 36, 3) := by decide +kernel
theorem dX0_heed_60 : decode cX0_heed 60 = .ok (.iload 4, 2) := by decide +kernel
theorem dX0_heed_62 : decode cX0_heed 62 = .ok (.aaload, 1) := by decide +kernel
theorem dX0_heed_63 : decode cX0_heed 63 = .ok (.iload_n 1, 1) := by decide +kernel
theorem dX0_heed_64 : decode cX0_heed 64 = .ok (.iaload, 1) := by decide +kernel
theorem dX0_heed_65 : decode cX0_heed 65 = .ok (.iload_n 3, 1) := by decide +kernel
theorem dX0_heed_66 : decode cX0_heed 66 = .ok (.iadd, 1) := by decide +kernel
theorem dX0_heed_67 : decode cX0_heed 67 = .ok (.aload_n 0, 1) := by decide +kernel
theorem dX0_heed_68 : decode cX0_heed 68 = .ok (.getfield 36, 3) := by decide +kernel
theorem dX0_heed_71 : decode cX0_heed 71 = .ok (.iload_n 2, 1) := by decide +kernel
theorem dX0_heed_72 : decode cX0_heed 72 = .ok (.aaload, 1) := by decide +kernel
theorem dX0_heed_73 : decode cX0_heed 73 = .ok (.iload 5, 2) := by decide +kernel
theorem dX0_heed_75 : decode cX0_heed 75 = .ok (.iaload, 1) := by decide +kernel
theorem dX0_heed_76 : decode cX0_heed 76 = .ok (.iadd, 1) := by decide +kernel
theorem dX0_heed_77 : decode cX0_heed 77 = .ok (.invokestatic 206, 3) := by decide +kernel
theorem dX0_heed_80 : decode cX0_heed 80 = .ok (.iastore, 1) := by decide +kernel
theorem dX0_heed_81 : decode cX0_heed 81 = .ok (.iinc 5 1, 3) := by decide +kernel
theorem dX0_heed_84 : decode cX0_heed 84 = .ok (.goto (-56), 3) := by decide +kernel
theorem dX0_heed_87 : decode cX0_heed 87 = .ok (.iinc 4 1, 3) := by decide +kernel
theorem dX0_heed_90 : decode cX0_heed 90 = .ok (.goto (-74), 3) := by decide +kernel
theorem dX0_heed_93 : decode cX0_heed 93 = .ok (.return_, 1) := by decide +kernel
theorem dX0_least_0 : decode cX0_least 0 = .ok (.aload_n 0, 1) := by decide +kernel
theorem dX0_least_1 : decode cX0_least 1 = .ok (.getfield 36, 3) := by decide +kernel
theorem dX0_least_4 : decode cX0_least 4 = .ok (.iload_n 2, 1) := by decide +kernel
theorem dX0_least_5 : decode cX0_least 5 = .ok (.iconst 1, 1) := by decide +kernel
theorem dX0_least_6 : decode cX0_least 6 = .ok (.iadd, 1) := by decide +kernel
theorem dX0_least_7 : decode cX0_least 7 = .ok (.aaload, 1) := by decide +kernel
theorem dX0_least_8 : decode cX0_least 8 = .ok (.iload_n 1, 1) := by decide +kernel
theorem dX0_least_9 : decode cX0_least 9 = .ok (.iaload, 1) := by decide +kernel
theorem dX0_least_10 : decode cX0_least 10 = .ok (.ineg, 1) := by decide +kernel
theorem dX0_least_11 : decode cX0_least 11 = .ok (.ireturn, 1) := by decide +kernel
theorem dX0_greatest_0 : decode cX0_greatest 0 = .ok (.aload_n 0, 1) := by decide +kernel
theorem dX0_greatest_1 : decode cX0_greatest 1 = .ok (.getfield 36, 3) := by decide +kernel
theorem dX0_greatest_4 : decode cX0_greatest 4 = .ok (.iload_n 1, 1) := by decide +kernel
theorem dX0_greatest_5 : decode cX0_greatest 5 = .ok (.aaload, 1) := by decide +kernel
theorem dX0_greatest_6 : decode cX0_greatest 6 = .ok (.iload_n 2, 1) := by decide +kernel
theorem dX0_greatest_7 : decode cX0_greatest 7 = .ok (.iconst 1, 1) := by decide +kernel
theorem dX0_greatest_8 : decode cX0_greatest 8 = .ok (.iadd, 1) := by decide +kernel
theorem dX0_greatest_9 : decode cX0_greatest 9 = .ok (.iaload, 1) := by decide +kernel
theorem dX0_greatest_10 : decode cX0_greatest 10 = .ok (.ireturn, 1) := by decide +kernel
set_option maxRecDepth 20000 in
theorem ggX0_countSurelyDry_X0_greatest : GoodIn wsX0_countSurelyDry wsX0_greatest := goodIn_r _ [6, 7, 13, 14, 15, 16, 17, 18, 19, 20, 21, 22, 23, 24, 25, 26, 27] (by decide +kernel) (by decide +kernel)
set_option maxRecDepth 20000 in
theorem gX0_countSurelyDry_X0_greatest : GoodIn wsX0_countSurelyDry (wsV RX0 145 RX0 yX0_greatest wsX0_greatest) := goodIn_app (goodIn_of _ (by decide +kernel)) ggX0_countSurelyDry_X0_greatest
set_option maxRecDepth 20000 in
theorem ggX0_countSurelyDry_X0_isDamp : GoodIn wsX0_countSurelyDry wsX0_isDamp := goodIn_r _ [11, 12, 13, 14, 15, 16, 17, 18, 19, 20, 21, 22, 23, 24, 25, 26, 27] (by decide +kernel) (by decide +kernel)
set_option maxRecDepth 20000 in
theorem gX0_countSurelyDry_X0_isDamp : GoodIn wsX0_countSurelyDry (wsV RX0 131 RX0 yX0_isDamp wsX0_isDamp) := goodIn_app (goodIn_of _ (by decide +kernel)) ggX0_countSurelyDry_X0_isDamp
theorem dX0_countSurelyDry_0 : decode cX0_countSurelyDry 0 = .ok (.iconst 0, 1) := by decide +kernel
theorem dX0_countSurelyDry_1 : decode cX0_countSurelyDry 1 = .ok (.istore_n 1, 1) := by decide +kernel
theorem dX0_countSurelyDry_2 : decode cX0_countSurelyDry 2 = .ok (.iconst 0, 1) := by decide +kernel
theorem dX0_countSurelyDry_3 : decode cX0_countSurelyDry 3 = .ok (.istore_n 2, 1) := by decide +kernel
theorem dX0_countSurelyDry_4 : decode cX0_countSurelyDry 4 = .ok (.iload_n 2, 1) := by decide +kernel
theorem dX0_countSurelyDry_5 : decode cX0_countSurelyDry 5 = .ok (.aload_n 0, 1) := by decide +kernel
theorem dX0_countSurelyDry_6 : decode cX0_countSurelyDry 6 = .ok (.getfield 57, 3) := by decide +kernel
theorem dX0_countSurelyDry_9 : decode cX0_countSurelyDry 9 = .ok (.if_icmp .ge 25, 3) := by decide +kernel
theorem dX0_countSurelyDry_12 : decode cX0_countSurelyDry 12 = .ok (.aload_n 0, 1) := by decide +kernel
theorem dX0_countSurelyDry_13 : decode cX0_countSurelyDry 13 = .ok (.aload_n 0, 1) := by decide +kernel
theorem dX0_countSurelyDry_14 : decode cX0_countSurelyDry 14 = .ok (.iload_n 2, 1) := by decide +kernel
theorem dX0_countSurelyDry_15 : decode cX0_countSurelyDry 15 = .ok (.iload_n 2, 1) := by decide +kernel
theorem dX0_countSurelyDry_16 : decode cX0_countSurelyDry 16 = .ok (.invokevirtual 145, 3) := by decide +kernel
theorem dX0_countSurelyDry_19 : decode cX0_countSurelyDry 19 = .ok (.invokevirtual 131, 3) := by decide +kernel
theorem dX0_countSurelyDry_22 : decode cX0_countSurelyDry 22 = .ok (.ifCond .ne 6, 3) := by decide +kernel
theorem dX0_countSurelyDry_25 : decode cX0_countSurelyDry 25 = .ok (.iinc 1 1, 3) := by decide +kernel
theorem dX0_countSurelyDry_28 : decode cX0_countSurelyDry 28 = .ok (.iinc 2 1, 3) := by decide +kernel
theorem dX0_countSurelyDry_31 : decode cX0_countSurelyDry 31 = .ok (.goto (-27), 3) := by decide +kernel
theorem dX0_countSurelyDry_34 : decode cX0_countSurelyDry 34 = .ok (.iload_n 1, 1) := by decide +kernel
theorem dX0_countSurelyDry_35 : decode cX0_countSurelyDry 35 = .ok (.ireturn, 1) := by decide +kernel
set_option maxRecDepth 20000 in
theorem ggX0_countSurelyDamp_X0_least : GoodIn wsX0_countSurelyDamp wsX0_least := goodIn_r _ [6, 7, 13, 14, 15, 16, 17, 18, 19, 20, 21, 22, 23, 24, 25, 26, 27] (by decide +kernel) (by decide +kernel)
set_option maxRecDepth 20000 in
theorem gX0_countSurelyDamp_X0_least : GoodIn wsX0_countSurelyDamp (wsV RX0 142 RX0 yX0_least wsX0_least) := goodIn_app (goodIn_of _ (by decide +kernel)) ggX0_countSurelyDamp_X0_least
set_option maxRecDepth 20000 in
theorem ggX0_countSurelyDamp_X0_isDamp : GoodIn wsX0_countSurelyDamp wsX0_isDamp := goodIn_r _ [11, 12, 13, 14, 15, 16, 17, 18, 19, 20, 21, 22, 23, 24, 25, 26, 27] (by decide +kernel) (by decide +kernel)
set_option maxRecDepth 20000 in
theorem gX0_countSurelyDamp_X0_isDamp : GoodIn wsX0_countSurelyDamp (wsV RX0 131 RX0 yX0_isDamp wsX0_isDamp) := goodIn_app (goodIn_of _ (by decide +kernel)) ggX0_countSurelyDamp_X0_isDamp
theorem dX0_countSurelyDamp_0 : decode cX0_countSurelyDamp 0 = .ok (.iconst 0, 1) := by decide +kernel
theorem dX0_countSurelyDamp_1 : decode cX0_countSurelyDamp 1 = .ok (.istore_n 1, 1) := by decide +kernel
theorem dX0_countSurelyDamp_2 : decode cX0_countSurelyDamp 2 = .ok (.iconst 0, 1) := by decide +kernel
theorem dX0_countSurelyDamp_3 : decode cX0_countSurelyDamp 3 = .ok (.istore_n 2, 1) := by decide +kernel
theorem dX0_countSurelyDamp_4 : decode cX0_countSurelyDamp 4 = .ok (.iload_n 2, 1) := by decide +kernel
theorem dX0_countSurelyDamp_5 : decode cX0_countSurelyDamp 5 = .ok (.aload_n 0, 1) := by decide +kernel
theorem dX0_countSurelyDamp_6 : decode cX0_countSurelyDamp 6 = .ok (.getfield 57, 3) := by decide +kernel
theorem dX0_countSurelyDamp_9 : decode cX0_countSurelyDamp 9 = .ok (.if_icmp .ge 25, 3) := by decide +kernel
theorem dX0_countSurelyDamp_12 : decode cX0_countSurelyDamp 12 = .ok (.aload_n 0, 1) := by decide +kernel
theorem dX0_countSurelyDamp_13 : decode cX0_countSurelyDamp 13 = .ok (.aload_n 0, 1) := by decide +kernel
theorem dX0_countSurelyDamp_14 : decode cX0_countSurelyDamp 14 = .ok (.iload_n 2, 1) := by decide +kernel
theorem dX0_countSurelyDamp_15 : decode cX0_countSurelyDamp 15 = .ok (.iload_n 2, 1) := by decide +kernel
theorem dX0_countSurelyDamp_16 : decode cX0_countSurelyDamp 16 = .ok (.invokevirtual 142, 3) := by decide +kernel
theorem dX0_countSurelyDamp_19 : decode cX0_countSurelyDamp 19 = .ok (.invokevirtual 131, 3) := by decide +kernel
theorem dX0_countSurelyDamp_22 : decode cX0_countSurelyDamp 22 = .ok (.ifCond .eq 6, 3) := by decide +kernel
theorem dX0_countSurelyDamp_25 : decode cX0_countSurelyDamp 25 = .ok (.iinc 1 1, 3) := by decide +kernel
theorem dX0_countSurelyDamp_28 : decode cX0_countSurelyDamp 28 = .ok (.iinc 2 1, 3) := by decide +kernel
theorem dX0_countSurelyDamp_31 : decode cX0_countSurelyDamp 31 = .ok (.goto (-27), 3) := by decide +kernel
theorem dX0_countSurelyDamp_34 : decode cX0_countSurelyDamp 34 = .ok (.iload_n 1, 1) := by decide +kernel
theorem dX0_countSurelyDamp_35 : decode cX0_countSurelyDamp 35 = .ok (.ireturn, 1) := by decide +kernel
set_option maxRecDepth 20000 in
theorem ggX0_doubtNow_X0_greatest : GoodIn wsX0_doubtNow wsX0_greatest := goodIn_r _ [6, 7, 12, 13, 14, 15, 16, 17, 18, 19, 20, 21, 22, 23, 24, 25, 26] (by decide +kernel) (by decide +kernel)
set_option maxRecDepth 20000 in
theorem gX0_doubtNow_X0_greatest : GoodIn wsX0_doubtNow (wsV RX0 145 RX0 yX0_greatest wsX0_greatest) := goodIn_app (goodIn_of _ (by decide +kernel)) ggX0_doubtNow_X0_greatest
set_option maxRecDepth 20000 in
theorem ggX0_doubtNow_X0_least : GoodIn wsX0_doubtNow wsX0_least := goodIn_r _ [11, 7, 12, 13, 14, 15, 16, 17, 18, 19, 20, 21, 22, 23, 24, 25, 26] (by decide +kernel) (by decide +kernel)
set_option maxRecDepth 20000 in
theorem gX0_doubtNow_X0_least : GoodIn wsX0_doubtNow (wsV RX0 142 RX0 yX0_least wsX0_least) := goodIn_app (goodIn_of _ (by decide +kernel)) ggX0_doubtNow_X0_least
theorem dX0_doubtNow_0 : decode cX0_doubtNow 0 = .ok (.iconst 0, 1) := by decide +kernel
theorem dX0_doubtNow_1 : decode cX0_doubtNow 1 = .ok (.istore_n 1, 1) := by decide +kernel
theorem dX0_doubtNow_2 : decode cX0_doubtNow 2 = .ok (.iconst 0, 1) := by decide +kernel
theorem dX0_doubtNow_3 : decode cX0_doubtNow 3 = .ok (.istore_n 2, 1) := by decide +kernel
theorem dX0_doubtNow_4 : decode cX0_doubtNow 4 = .ok (.iload_n 2, 1) := by decide +kernel
theorem dX0_doubtNow_5 : decode cX0_doubtNow 5 = .ok (.aload_n 0, 1) := by decide +kernel
theorem dX0_doubtNow_6 : decode cX0_doubtNow 6 = .ok (.getfield 57, 3) := by decide +kernel
theorem dX0_doubtNow_9 : decode cX0_doubtNow 9 = .ok (.if_icmp .ge 25, 3) := by decide +kernel
theorem dX0_doubtNow_12 : decode cX0_doubtNow 12 = .ok (.iload_n 1, 1) := by decide +kernel
theorem dX0_doubtNow_13 : decode cX0_doubtNow 13 = .ok (.aload_n 0, 1) := by decide +kernel
theorem dX0_doubtNow_14 : decode cX0_doubtNow 14 = .ok (.iload_n 2, 1) := by decide +kernel
theorem dX0_doubtNow_15 : decode cX0_doubtNow 15 = .ok (.iload_n 2, 1) := by decide +kernel
theorem dX0_doubtNow_16 : decode cX0_doubtNow 16 = .ok (.invokevirtual 145, 3) := by decide +kernel
theorem dX0_doubtNow_19 : decode cX0_doubtNow 19 = .ok (.aload_n 0, 1) := by decide +kernel
theorem dX0_doubtNow_20 : decode cX0_doubtNow 20 = .ok (.iload_n 2, 1) := by decide +kernel
theorem dX0_doubtNow_21 : decode cX0_doubtNow 21 = .ok (.iload_n 2, 1) := by decide +kernel
theorem dX0_doubtNow_22 : decode cX0_doubtNow 22 = .ok (.invokevirtual 142, 3) := by decide +kernel
theorem dX0_doubtNow_25 : decode cX0_doubtNow 25 = .ok (.isub, 1) := by decide +kernel
theorem dX0_doubtNow_26 : decode cX0_doubtNow 26 = .ok (.iadd, 1) := by decide +kernel
theorem dX0_doubtNow_27 : decode cX0_doubtNow 27 = .ok (.istore_n 1, 1) := by decide +kernel
theorem dX0_doubtNow_28 : decode cX0_doubtNow 28 = .ok (.iinc 2 1, 3) := by decide +kernel
theorem dX0_doubtNow_31 : decode cX0_doubtNow 31 = .ok (.goto (-27), 3) := by decide +kernel
theorem dX0_doubtNow_34 : decode cX0_doubtNow 34 = .ok (.iload_n 1, 1) := by decide +kernel
theorem dX0_doubtNow_35 : decode cX0_doubtNow 35 = .ok (.ireturn, 1) := by decide +kernel
set_option maxRecDepth 20000 in
theorem ggX0_doubtIfDrawn_X0_sumNow : GoodIn wsX0_doubtIfDrawn wsX0_sumNow := goodIn_r _ [6, 7, 17, 18, 19, 20, 21, 22, 23, 24, 25, 26, 27, 28, 29, 30, 31] (by decide +kernel) (by decide +kernel)
set_option maxRecDepth 20000 in
theorem gX0_doubtIfDrawn_X0_sumNow : GoodIn wsX0_doubtIfDrawn (wsV RX0 113 RX0 yX0_sumNow wsX0_sumNow) := goodIn_app (goodIn_of _ (by decide +kernel)) ggX0_doubtIfDrawn_X0_sumNow
set_option maxRecDepth 20000 in
theorem ggX0_doubtIfDrawn_X0_mostIfTold : GoodIn wsX0_doubtIfDrawn wsX0_mostIfTold := goodIn_r _ [11, 12, 13, 14, 15, 16, 17, 18, 19, 20, 21, 22, 23, 24, 25, 26, 27, 28, 29, 30, 31] (by decide +kernel) (by decide +kernel)
set_option maxRecDepth 20000 in
theorem gX0_doubtIfDrawn_X0_mostIfTold : GoodIn wsX0_doubtIfDrawn (wsV RX0 211 RX0 yX0_mostIfTold wsX0_mostIfTold) := goodIn_app (goodIn_of _ (by decide +kernel)) ggX0_doubtIfDrawn_X0_mostIfTold
theorem dX0_doubtIfDrawn_0 : decode cX0_doubtIfDrawn 0 = .ok (.aload_n 0, 1) := by decide +kernel
theorem dX0_doubtIfDrawn_1 : decode cX0_doubtIfDrawn 1 = .ok (.iload_n 1, 1) := by decide +kernel
theorem dX0_doubtIfDrawn_2 : decode cX0_doubtIfDrawn 2 = .ok (.iload_n 2, 1) := by decide +kernel
theorem dX0_doubtIfDrawn_3 : decode cX0_doubtIfDrawn 3 = .ok (.invokevirtual 113, 3) := by decide +kernel
theorem dX0_doubtIfDrawn_6 : decode cX0_doubtIfDrawn 6 = .ok (.istore_n 3, 1) := by decide +kernel
theorem dX0_doubtIfDrawn_7 : decode cX0_doubtIfDrawn 7 = .ok (.iconst 0, 1) := by decide +kernel
theorem dX0_doubtIfDrawn_8 : decode cX0_doubtIfDrawn 8 = .ok (.istore 4, 2) := by decide +kernel
theorem dX0_doubtIfDrawn_10 : decode cX0_doubtIfDrawn 10 = .ok (.iconst 0, 1) := by decide +kernel
theorem dX0_doubtIfDrawn_11 : decode cX0_doubtIfDrawn 11 = .ok (.istore 5, 2) := by decide +kernel
theorem dX0_doubtIfDrawn_13 : decode cX0_doubtIfDrawn 13 = .ok (.iload 5, 2) := by decide +kernel
theorem dX0_doubtIfDrawn_15 : decode cX0_doubtIfDrawn 15 = .ok (.aload_n 0, 1) := by decide +kernel
theorem dX0_doubtIfDrawn_16 : decode cX0_doubtIfDrawn 16 = .ok (.getfield 57, 3) := by decide +kernel
theorem dX0_doubtIfDrawn_19 : decode cX0_doubtIfDrawn 19 = .ok (.if_icmp .ge 45, 3) := by decide +kernel
theorem dX0_doubtIfDrawn_22 : decode cX0_doubtIfDrawn 22 = .ok (.iload 4, 2) := by decide +kernel
theorem dX0_doubtIfDrawn_24 : decode cX0_doubtIfDrawn 24 = .ok (.aload_n 0, 1) := by decide +kernel
theorem dX0_doubtIfDrawn_25 : decode cX0_doubtIfDrawn 25 = .ok (.iload 5, 2) := by decide +kernel
theorem dX0_doubtIfDrawn_27 : decode cX0_doubtIfDrawn 27 = .ok (.iload 5, 2) := by decide +kernel
theorem dX0_doubtIfDrawn_29 : decode cX0_doubtIfDrawn 29 = .ok (.iconst 1, 1) := by decide +kernel
theorem dX0_doubtIfDrawn_30 : decode cX0_doubtIfDrawn 30 = .ok (.iadd, 1) := by decide +kernel
theorem dX0_doubtIfDrawn_31 : decode cX0_doubtIfDrawn 31 = .ok (.iload_n 1, 1) := by decide +kernel
theorem dX0_doubtIfDrawn_32 : decode cX0_doubtIfDrawn 32 = .ok (.iload_n 2, 1) := by decide +kernel
theorem dX0_doubtIfDrawn_33 : decode cX0_doubtIfDrawn 33 = .ok (.iconst 1, 1) := by decide +kernel
theorem dX0_doubtIfDrawn_34 : decode cX0_doubtIfDrawn 34 = .ok (.iadd, 1) := by decide +kernel
theorem dX0_doubtIfDrawn_35 : decode cX0_doubtIfDrawn 35 = .ok (.iload_n 3, 1) := by decide +kernel
theorem dX0_doubtIfDrawn_36 : decode cX0_doubtIfDrawn 36 = .ok (.invokevirtual 211, 3) := by decide +kernel
theorem dX0_doubtIfDrawn_39 : decode cX0_doubtIfDrawn 39 = .ok (.aload_n 0, 1) := by decide +kernel
theorem dX0_doubtIfDrawn_40 : decode cX0_doubtIfDrawn 40 = .ok (.iload 5, 2) := by decide +kernel
theorem dX0_doubtIfDrawn_42 : decode cX0_doubtIfDrawn 42 = .ok (.iconst 1, 1) := by decide +kernel
theorem dX0_doubtIfDrawn_43 : decode cX0_doubtIfDrawn 43 = .ok (.iadd, 1) := by decide +kernel
theorem dX0_doubtIfDrawn_44 : decode cX0_doubtIfDrawn 44 = .ok (.iload 5, 2) := by decide +kernel
theorem dX0_doubtIfDrawn_46 : decode cX0_doubtIfDrawn 46 = .ok (.iload_n 1, 1) := by decide +kernel
theorem dX0_doubtIfDrawn_47 : decode cX0_doubtIfDrawn 47 = .ok (.iload_n 2, 1) := by decide +kernel
theorem dX0_doubtIfDrawn_48 : decode cX0_doubtIfDrawn 48 = .ok (.iconst 1, 1) := by decide +kernel
theorem dX0_doubtIfDrawn_49 : decode cX0_doubtIfDrawn 49 = .ok (.iadd, 1) := by decide +kernel
theorem dX0_doubtIfDrawn_50 : decode cX0_doubtIfDrawn 50 = .ok (.iload_n 3, 1) := by decide +kernel
theorem dX0_doubtIfDrawn_51 : decode cX0_doubtIfDrawn 51 = .ok (.invokevirtual 211, 3) := by decide +kernel
theorem dX0_doubtIfDrawn_54 : decode cX0_doubtIfDrawn 54 = .ok (.iadd, 1) := by decide +kernel
theorem dX0_doubtIfDrawn_55 : decode cX0_doubtIfDrawn 55 = .ok (.iadd, 1) := by decide +kernel
theorem dX0_doubtIfDrawn_56 : decode cX0_doubtIfDrawn 56 = .ok (.istore 4, 2) := by decide +kernel
theorem dX0_doubtIfDrawn_58 : decode cX0_doubtIfDrawn 58 = .ok (.iinc 5 1, 3) := by decide +kernel
theorem dX0_doubtIfDrawn_61 : decode cX0_doubtIfDrawn 61 = .ok (.goto (-48), 3) := by decide +kernel
theorem dX0_doubtIfDrawn_64 : decode cX0_doubtIfDrawn 64 = .ok (.iload 4, 2) := by decide +kernel
theorem dX0_doubtIfDrawn_66 : decode cX0_doubtIfDrawn 66 = .ok (.ireturn, 1) := by decide +kernel
theorem dX0_mostIfTold_0 : decode cX0_mostIfTold 0 = .ok (.aload_n 0, 1) := by decide +kernel
theorem dX0_mostIfTold_1 : decode cX0_mostIfTold 1 = .ok (.getfield 36, 3) := by decide +kernel
theorem dX0_mostIfTold_4 : decode cX0_mostIfTold 4 = .ok (.iload_n 1, 1) := by decide +kernel
theorem dX0_mostIfTold_5 : decode cX0_mostIfTold 5 = .ok (.aaload, 1) := by decide +kernel
theorem dX0_mostIfTold_6 : decode cX0_mostIfTold 6 = .ok (.iload_n 3, 1) := by decide +kernel
theorem dX0_mostIfTold_7 : decode cX0_mostIfTold 7 = .ok (.iaload, 1) := by decide +kernel
theorem dX0_mostIfTold_8 : decode cX0_mostIfTold 8 = .ok (.iload 5, 2) := by decide +kernel
theorem dX0_mostIfTold_10 : decode cX0_mostIfTold 10 = .ok (.iadd, 1) := by decide +kernel
theorem dX0_mostIfTold_11 : decode cX0_mostIfTold 11 = .ok (.aload_n 0, 1) := by decide +kernel
theorem dX0_mostIfTold_12 : decode cX0_mostIfTold 12 = .ok (.getfield 36, 3) := by decide +kernel
theorem dX0_mostIfTold_15 : decode cX0_mostIfTold 15 = .ok (.iload 4, 2) := by decide +kernel
theorem dX0_mostIfTold_17 : decode cX0_mostIfTold 17 = .ok (.aaload, 1) := by decide +kernel
theorem dX0_mostIfTold_18 : decode cX0_mostIfTold 18 = .ok (.iload_n 2, 1) := by decide +kernel
theorem dX0_mostIfTold_19 : decode cX0_mostIfTold 19 = .ok (.iaload, 1) := by decide +kernel
theorem dX0_mostIfTold_20 : decode cX0_mostIfTold 20 = .ok (.iadd, 1) := by decide +kernel
theorem dX0_mostIfTold_21 : decode cX0_mostIfTold 21 = .ok (.istore 6, 2) := by decide +kernel
theorem dX0_mostIfTold_23 : decode cX0_mostIfTold 23 = .ok (.aload_n 0, 1) := by decide +kernel
theorem dX0_mostIfTold_24 : decode cX0_mostIfTold 24 = .ok (.getfield 36, 3) := by decide +kernel
theorem dX0_mostIfTold_27 : decode cX0_mostIfTold 27 = .ok (.iload_n 1, 1) := by decide +kernel
theorem dX0_mostIfTold_28 : decode cX0_mostIfTold 28 = .ok (.aaload, 1) := by decide +kernel
theorem dX0_mostIfTold_29 : decode cX0_mostIfTold 29 = .ok (.iload 4, 2) := by decide +kernel
theorem dX0_mostIfTold_31 : decode cX0_mostIfTold 31 = .ok (.iaload, 1) := by decide +kernel
theorem dX0_mostIfTold_32 : decode cX0_mostIfTold 32 = .ok (.iload 5, 2) := by decide +kernel
theorem dX0_mostIfTold_34 : decode cX0_mostIfTold 34 = .ok (.isub, 1) := by decide +kernel
theorem dX0_mostIfTold_35 : decode cX0_mostIfTold 35 = .ok (.aload_n 0, 1) := by decide +kernel
theorem dX0_mostIfTold_36 : decode cX0_mostIfTold 36 = .ok (.getfield 36, 3) := by decide +kernel
theorem dX0_mostIfTold_39 : decode cX0_mostIfTold 39 = .ok (.iload_n 3, 1) := by decide +kernel
theorem dX0_mostIfTold_40 : decode cX0_mostIfTold 40 = .ok (.aaload, 1) := by decide +kernel
theorem dX0_mostIfTold_41 : decode cX0_mostIfTold 41 = .ok (.iload_n 2, 1) := by decide +kernel
theorem dX0_mostIfTold_42 : decode cX0_mostIfTold 42 = .ok (.iaload, 1) := by decide +kernel
theorem dX0_mostIfTold_43 : decode cX0_mostIfTold 43 = .ok (.iadd, 1) := by decide +kernel
theorem dX0_mostIfTold_44 : decode cX0_mostIfTold 44 = .ok (.istore 7, 2) := by decide +kernel
theorem dX0_mostIfTold_46 : decode cX0_mostIfTold 46 = .ok (.aload_n 0, 1) := by decide +kernel
theorem dX0_mostIfTold_47 : decode cX0_mostIfTold 47 = .ok (.getfield 36, 3) := by decide +kernel
theorem dX0_mostIfTold_50 : decode cX0_mostIfTold 50 = .ok (.iload_n 1, 1) := by decide +kernel
theorem dX0_mostIfTold_51 : decode cX0_mostIfTold 51 = .ok (.aaload, 1) := by decide +kernel
theorem dX0_mostIfTold_52 : decode cX0_mostIfTold 52 = .ok (.iload_n 2, 1) := by decide +kernel
theorem dX0_mostIfTold_53 : decode cX0_mostIfTold 53 = .ok (.iaload, 1) := by decide +kernel
theorem dX0_mostIfTold_54 : decode cX0_mostIfTold 54 = .ok (.iload 6, 2) := by decide +kernel
theorem dX0_mostIfTold_56 : decode cX0_mostIfTold 56 = .ok (.iload 7, 2) := by decide +kernel
theorem dX0_mostIfTold_58 : decode cX0_mostIfTold 58 = .ok (.invokestatic 206, 3) := by decide +kernel
theorem dX0_mostIfTold_61 : decode cX0_mostIfTold 61 = .ok (.invokestatic 206, 3) := by decide +kernel
theorem dX0_mostIfTold_64 : decode cX0_mostIfTold 64 = .ok (.ireturn, 1) := by decide +kernel
theorem dX0_digestOf_0 : decode cX0_digestOf 0 = .ok (.lload_n 0, 1) := by decide +kernel
theorem dX0_digestOf_1 : decode cX0_digestOf 1 = .ok (.ldc2_w 215, 3) := by decide +kernel
theorem dX0_digestOf_4 : decode cX0_digestOf 4 = .ok (.lmul, 1) := by decide +kernel
theorem dX0_digestOf_5 : decode cX0_digestOf 5 = .ok (.lload_n 2, 1) := by decide +kernel
theorem dX0_digestOf_6 : decode cX0_digestOf 6 = .ok (.ladd, 1) := by decide +kernel
theorem dX0_digestOf_7 : decode cX0_digestOf 7 = .ok (.lreturn, 1) := by decide +kernel
set_option maxRecDepth 20000 in
theorem ggX0_digestOfLayers_X0_digestOf : GoodIn wsX0_digestOfLayers wsX0_digestOf := goodIn_r _ [7, 8] (by decide +kernel) (by decide +kernel)
set_option maxRecDepth 20000 in
theorem gX0_digestOfLayers_X0_digestOf : GoodIn wsX0_digestOfLayers (va_wsS RX0 173 yX0_digestOf wsX0_digestOf) := goodIn_app (goodIn_of _ (by decide +kernel)) ggX0_digestOfLayers_X0_digestOf
set_option maxRecDepth 20000 in
theorem ggX0_digestOfLayers_X0_least : GoodIn wsX0_digestOfLayers wsX0_least := goodIn_r _ [12, 13, 18, 19, 20, 21, 22, 23, 24, 25, 26, 27, 28, 29, 30, 31, 32] (by decide +kernel) (by decide +kernel)
set_option maxRecDepth 20000 in
theorem gX0_digestOfLayers_X0_least : GoodIn wsX0_digestOfLayers (wsV RX0 142 RX0 yX0_least wsX0_least) := goodIn_app (goodIn_of _ (by decide +kernel)) ggX0_digestOfLayers_X0_least
set_option maxRecDepth 20000 in
theorem ggX0_digestOfLayers_X0_greatest : GoodIn wsX0_digestOfLayers wsX0_greatest := goodIn_r _ [17, 13, 18, 19, 20, 21, 22, 23, 24, 25, 26, 27, 28, 29, 30, 31, 32] (by decide +kernel) (by decide +kernel)
set_option maxRecDepth 20000 in
theorem gX0_digestOfLayers_X0_greatest : GoodIn wsX0_digestOfLayers (wsV RX0 145 RX0 yX0_greatest wsX0_greatest) := goodIn_app (goodIn_of _ (by decide +kernel)) ggX0_digestOfLayers_X0_greatest
theorem dX0_digestOfLayers_0 : decode cX0_digestOfLayers 0 = .ok (.lload_n 1, 1) := by decide +kernel
theorem dX0_digestOfLayers_1 : decode cX0_digestOfLayers 1 = .ok (.lstore_n 3, 1) := by decide +kernel
theorem dX0_digestOfLayers_2 : decode cX0_digestOfLayers 2 = .ok (.iconst 0, 1) := by decide +kernel
theorem dX0_digestOfLayers_3 : decode cX0_digestOfLayers 3 = .ok (.istore 5, 2) := by decide +kernel
theorem dX0_digestOfLayers_5 : decode cX0_digestOfLayers 5 = .ok (.iload 5, 2) := by decide +kernel
theorem dX0_digestOfLayers_7 : decode cX0_digestOfLayers 7 = .ok (.aload_n 0, 1) := by decide +kernel
theorem dX0_digestOfLayers_8 : decode cX0_digestOfLayers 8 = .ok (.getfield 57, 3) := by decide +kernel
theorem dX0_digestOfLayers_11 : decode cX0_digestOfLayers 11 = .ok (.if_icmp .ge 63, 3) := by decide +kernel
theorem dX0_digestOfLayers_14 : decode cX0_digestOfLayers 14 = .ok (.lload_n 3, 1) := by decide +kernel
theorem dX0_digestOfLayers_15 : decode cX0_digestOfLayers 15 = .ok (.aload_n 0, 1) := by decide +kernel
theorem dX0_digestOfLayers_16 : decode cX0_digestOfLayers 16 = .ok (.getfield 9, 3) := by decide +kernel
theorem dX0_digestOfLayers_19 : decode cX0_digestOfLayers 19 = .ok (.iload 5, 2) := by decide +kernel
theorem dX0_digestOfLayers_21 : decode cX0_digestOfLayers 21 = .ok (.iaload, 1) := by decide +kernel
theorem dX0_digestOfLayers_22 : decode cX0_digestOfLayers 22 = .ok (.i2l, 1) := by decide +kernel
theorem dX0_digestOfLayers_23 : decode cX0_digestOfLayers 23 = .ok (.invokestatic 173, 3) := by decide +kernel
theorem dX0_digestOfLayers_26 : decode cX0_digestOfLayers 26 = .ok (.lstore_n 3, 1) := by decide +kernel
theorem dX0_digestOfLayers_27 : decode cX0_digestOfLayers 27 = .ok (.lload_n 3, 1) := by decide +kernel
theorem dX0_digestOfLayers_28 : decode cX0_digestOfLayers 28 = .ok (.aload_n 0, 1) := by decide +kernel
theorem dX0_digestOfLayers_29 : decode cX0_digestOfLayers 29 = .ok (.getfield 13, 3) := by decide +kernel
theorem dX0_digestOfLayers_32 : decode cX0_digestOfLayers 32 = .ok (.iload 5, 2) := by decide +kernel
theorem dX0_digestOfLayers_34 : decode cX0_digestOfLayers 34 = .ok (.iaload, 1) := by decide +kernel
theorem dX0_digestOfLayers_35 : decode cX0_digestOfLayers 35 = .ok (.i2l, 1) := by decide +kernel
theorem dX0_digestOfLayers_36 : decode cX0_digestOfLayers 36 = .ok (.invokestatic 173, 3) := by decide +kernel
theorem dX0_digestOfLayers_39 : decode cX0_digestOfLayers 39 = .ok (.lstore_n 3, 1) := by decide +kernel
theorem dX0_digestOfLayers_40 : decode cX0_digestOfLayers 40 = .ok (.lload_n 3, 1) := by decide +kernel
theorem dX0_digestOfLayers_41 : decode cX0_digestOfLayers 41 = .ok (.aload_n 0, 1) := by decide +kernel
theorem dX0_digestOfLayers_42 : decode cX0_digestOfLayers 42 = .ok (.iload 5, 2) := by decide +kernel
theorem dX0_digestOfLayers_44 : decode cX0_digestOfLayers 44 = .ok (.iload 5, 2) := by decide +kernel
theorem dX0_digestOfLayers_46 : decode cX0_digestOfLayers 46 = .ok (.invokevirtual 142, 3) := by decide +kernel
theorem dX0_digestOfLayers_49 : decode cX0_digestOfLayers 49 = .ok (.i2l, 1) := by decide +kernel
theorem dX0_digestOfLayers_50 : decode cX0_digestOfLayers 50 = .ok (.invokestatic 173, 3) := by decide +kernel
theorem dX0_digestOfLayers_53 : decode cX0_digestOfLayers 53 = .ok (.lstore_n 3, 1) := by decide +kernel
theorem dX0_digestOfLayers_54 : decode cX0_digestOfLayers 54 = .ok (.lload_n 3, 1) := by decide +kernel
theorem dX0_digestOfLayers_55 : decode cX0_digestOfLayers 55 = .ok (.aload_n 0, 1) := by decide +kernel
theorem dX0_digestOfLayers_56 : decode cX0_digestOfLayers 56 = .ok (.iload 5, 2) := by decide +kernel
theorem dX0_digestOfLayers_58 : decode cX0_digestOfLayers 58 = .ok (.iload 5, 2) := by decide +kernel
theorem dX0_digestOfLayers_60 : decode cX0_digestOfLayers 60 = .ok (.invokevirtual 145, 3) := by decide +kernel
theorem dX0_digestOfLayers_63 : decode cX0_digestOfLayers 63 = .ok (.i2l, 1) := by decide +kernel
theorem dX0_digestOfLayers_64 : decode cX0_digestOfLayers 64 = .ok (.invokestatic 173, 3) := by decide +kernel
theorem dX0_digestOfLayers_67 : decode cX0_digestOfLayers 67 = .ok (.lstore_n 3, 1) := by decide +kernel
theorem dX0_digestOfLayers_68 : decode cX0_digestOfLayers 68 = .ok (.iinc 5 1, 3) := by decide +kernel
theorem dX0_digestOfLayers_71 : decode cX0_digestOfLayers 71 = .ok (.goto (-66), 3) := by decide +kernel
theorem dX0_digestOfLayers_74 : decode cX0_digestOfLayers 74 = .ok (.lload_n 3, 1) := by decide +kernel
theorem dX0_digestOfLayers_75 : decode cX0_digestOfLayers 75 = .ok (.lreturn, 1) := by decide +kernel
set_option maxRecDepth 20000 in
theorem ggX0_digestOfSamples_X0_digestOf : GoodIn wsX0_digestOfSamples wsX0_digestOf := goodIn_r _ [9, 10] (by decide +kernel) (by decide +kernel)
set_option maxRecDepth 20000 in
theorem gX0_digestOfSamples_X0_digestOf : GoodIn wsX0_digestOfSamples (va_wsS RX0 173 yX0_digestOf wsX0_digestOf) := goodIn_app (goodIn_of _ (by decide +kernel)) ggX0_digestOfSamples_X0_digestOf
theorem dX0_digestOfSamples_0 : decode cX0_digestOfSamples 0 = .ok (.lload_n 1, 1) := by decide +kernel
theorem dX0_digestOfSamples_1 : decode cX0_digestOfSamples 1 = .ok (.lstore_n 3, 1) := by decide +kernel
theorem dX0_digestOfSamples_2 : decode cX0_digestOfSamples 2 = .ok (.iconst 0, 1) := by decide +kernel
theorem dX0_digestOfSamples_3 : decode cX0_digestOfSamples 3 = .ok (.istore 5, 2) := by decide +kernel
theorem dX0_digestOfSamples_5 : decode cX0_digestOfSamples 5 = .ok (.iload 5, 2) := by decide +kernel
theorem dX0_digestOfSamples_7 : decode cX0_digestOfSamples 7 = .ok (.aload_n 0, 1) := by decide +kernel
theorem dX0_digestOfSamples_8 : decode cX0_digestOfSamples 8 = .ok (.getfield 86, 3) := by decide +kernel
theorem dX0_digestOfSamples_11 : decode cX0_digestOfSamples 11 = .ok (.if_icmp .ge 61, 3) := by decide +kernel
theorem dX0_digestOfSamples_14 : decode cX0_digestOfSamples 14 = .ok (.lload_n 3, 1) := by decide +kernel
theorem dX0_digestOfSamples_15 : decode cX0_digestOfSamples 15 = .ok (.aload_n 0, 1) := by decide +kernel
theorem dX0_digestOfSamples_16 : decode cX0_digestOfSamples 16 = .ok (.getfield 16, 3) := by decide +kernel
theorem dX0_digestOfSamples_19 : decode cX0_digestOfSamples 19 = .ok (.iload 5, 2) := by decide +kernel
theorem dX0_digestOfSamples_21 : decode cX0_digestOfSamples 21 = .ok (.iaload, 1) := by decide +kernel
theorem dX0_digestOfSamples_22 : decode cX0_digestOfSamples 22 = .ok (.i2l, 1) := by decide +kernel
theorem dX0_digestOfSamples_23 : decode cX0_digestOfSamples 23 = .ok (.invokestatic 173, 3) := by decide +kernel
theorem dX0_digestOfSamples_26 : decode cX0_digestOfSamples 26 = .ok (.lstore_n 3, 1) := by decide +kernel
theorem dX0_digestOfSamples_27 : decode cX0_digestOfSamples 27 = .ok (.lload_n 3, 1) := by decide +kernel
theorem dX0_digestOfSamples_28 : decode cX0_digestOfSamples 28 = .ok (.aload_n 0, 1) := by decide +kernel
theorem dX0_digestOfSamples_29 : decode cX0_digestOfSamples 29 = .ok (.getfield 19, 3) := by decide +kernel
theorem dX0_digestOfSamples_32 : decode cX0_digestOfSamples 32 = .ok (.iload 5, 2) := by decide +kernel
theorem dX0_digestOfSamples_34 : decode cX0_digestOfSamples 34 = .ok (.iaload, 1) := by decide +kernel
theorem dX0_digestOfSamples_35 : decode cX0_digestOfSamples 35 = .ok (.i2l, 1) := by decide +kernel
theorem dX0_digestOfSamples_36 : decode cX0_digestOfSamples 36 = .ok (.invokestatic 173, 3) := by decide +kernel
theorem dX0_digestOfSamples_39 : decode cX0_digestOfSamples 39 = .ok (.lstore_n 3, 1) := by decide +kernel
theorem dX0_digestOfSamples_40 : decode cX0_digestOfSamples 40 = .ok (.lload_n 3, 1) := by decide +kernel
theorem dX0_digestOfSamples_41 : decode cX0_digestOfSamples 41 = .ok (.aload_n 0, 1) := by decide +kernel
theorem dX0_digestOfSamples_42 : decode cX0_digestOfSamples 42 = .ok (.getfield 22, 3) := by decide +kernel
theorem dX0_digestOfSamples_45 : decode cX0_digestOfSamples 45 = .ok (.iload 5, 2) := by decide +kernel
theorem dX0_digestOfSamples_47 : decode cX0_digestOfSamples 47 = .ok (.iaload, 1) := by decide +kernel
theorem dX0_digestOfSamples_48 : decode cX0_digestOfSamples 48 = .ok (.i2l, 1) := by decide +kernel
theorem dX0_digestOfSamples_49 : decode cX0_digestOfSamples 49 = .ok (.invokestatic 173, 3) := by decide +kernel
theorem dX0_digestOfSamples_52 : decode cX0_digestOfSamples 52 = .ok (.lstore_n 3, 1) := by decide +kernel
theorem dX0_digestOfSamples_53 : decode cX0_digestOfSamples 53 = .ok (.lload_n 3, 1) := by decide +kernel
theorem dX0_digestOfSamples_54 : decode cX0_digestOfSamples 54 = .ok (.aload_n 0, 1) := by decide +kernel
theorem dX0_digestOfSamples_55 : decode cX0_digestOfSamples 55 = .ok (.getfield 25, 3) := by decide +kernel
theorem dX0_digestOfSamples_58 : decode cX0_digestOfSamples 58 = .ok (.iload 5, 2) := by decide +kernel
theorem dX0_digestOfSamples_60 : decode cX0_digestOfSamples 60 = .ok (.iaload, 1) := by decide +kernel
theorem dX0_digestOfSamples_61 : decode cX0_digestOfSamples 61 = .ok (.i2l, 1) := by decide +kernel
theorem dX0_digestOfSamples_62 : decode cX0_digestOfSamples 62 = .ok (.invokestatic 173, 3) := by decide +kernel
theorem dX0_digestOfSamples_65 : decode cX0_digestOfSamples 65 = .ok (.lstore_n 3, 1) := by decide +kernel
theorem dX0_digestOfSamples_66 : decode cX0_digestOfSamples 66 = .ok (.iinc 5 1, 3) := by decide +kernel
theorem dX0_digestOfSamples_69 : decode cX0_digestOfSamples 69 = .ok (.goto (-64), 3) := by decide +kernel
theorem dX0_digestOfSamples_72 : decode cX0_digestOfSamples 72 = .ok (.lload_n 3, 1) := by decide +kernel
theorem dX0_digestOfSamples_73 : decode cX0_digestOfSamples 73 = .ok (.lreturn, 1) := by decide +kernel
end
section
theorem dX1_init_0 : decode cX1_init 0 = .ok (.aload_n 0, 1) := by decide +kernel
theorem dX1_init_1 : decode cX1_init 1 = .ok (.invokespecial 3, 3) := by decide +kernel
theorem dX1_init_4 : decode cX1_init 4 = .ok (.aload_n 0, 1) := by decide +kernel
theorem dX1_init_5 : decode cX1_init 5 = .ok (.bipush 12, 2) := by decide +kernel
theorem dX1_init_7 : decode cX1_init 7 = .ok (.newarray .int, 2) := by decide +kernel
theorem dX1_init_9 : decode cX1_init 9 = .ok (.putfield 9, 3) := by decide +kernel
theorem dX1_init_12 : decode cX1_init 12 = .ok (.aload_n 0, 1) := by decide +kernel
theorem dX1_init_13 : decode cX1_init 13 = .ok (.bipush 12, 2) := by decide +kernel
theorem dX1_init_15 : decode cX1_init 15 = .ok (.newarray .int, 2) := by decide +kernel
theorem dX1_init_17 : decode cX1_init 17 = .ok (.putfield 13, 3) := by decide +kernel
theorem dX1_init_20 : decode cX1_init 20 = .ok (.aload_n 0, 1) := by decide +kernel
theorem dX1_init_21 : decode cX1_init 21 = .ok (.bipush 16, 2) := by decide +kernel
theorem dX1_init_23 : decode cX1_init 23 = .ok (.newarray .int, 2) := by decide +kernel
theorem dX1_init_25 : decode cX1_init 25 = .ok (.putfield 16, 3) := by decide +kernel
theorem dX1_init_28 : decode cX1_init 28 = .ok (.aload_n 0, 1) := by decide +kernel
theorem dX1_init_29 : decode cX1_init 29 = .ok (.bipush 16, 2) := by decide +kernel
theorem dX1_init_31 : decode cX1_init 31 = .ok (.newarray .int, 2) := by decide +kernel
theorem dX1_init_33 : decode cX1_init 33 = .ok (.putfield 19, 3) := by decide +kernel
theorem dX1_init_36 : decode cX1_init 36 = .ok (.aload_n 0, 1) := by decide +kernel
theorem dX1_init_37 : decode cX1_init 37 = .ok (.bipush 16, 2) := by decide +kernel
theorem dX1_init_39 : decode cX1_init 39 = .ok (.newarray .int, 2) := by decide +kernel
theorem dX1_init_41 : decode cX1_init 41 = .ok (.putfield 22, 3) := by decide +kernel
theorem dX1_init_44 : decode cX1_init 44 = .ok (.aload_n 0, 1) := by decide +kernel
theorem dX1_init_45 : decode cX1_init 45 = .ok (.bipush 16, 2) := by decide +kernel
theorem dX1_init_47 : decode cX1_init 47 = .ok (.newarray .int, 2) := by decide +kernel
theorem dX1_init_49 : decode cX1_init 49 = .ok (.putfield 25, 3) := by decide +kernel
theorem dX1_init_52 : decode cX1_init 52 = .ok (.aload_n 0, 1) := by decide +kernel
theorem dX1_init_53 : decode cX1_init 53 = .ok (.bipush 14, 2) := by decide +kernel
theorem dX1_init_55 : decode cX1_init 55 = .ok (.putfield 28, 3) := by decide +kernel
theorem dX1_init_58 : decode cX1_init 58 = .ok (.aload_n 0, 1) := by decide +kernel
theorem dX1_init_59 : decode cX1_init 59 = .ok (.sipush 169, 3) := by decide +kernel
theorem dX1_init_62 : decode cX1_init 62 = .ok (.newarray .int, 2) := by decide +kernel
theorem dX1_init_64 : decode cX1_init 64 = .ok (.putfield 32, 3) := by decide +kernel
theorem dX1_init_67 : decode cX1_init 67 = .ok (.aload_n 0, 1) := by decide +kernel
theorem dX1_init_68 : decode cX1_init 68 = .ok (.bipush 12, 2) := by decide +kernel
theorem dX1_init_70 : decode cX1_init 70 = .ok (.newarray .int, 2) := by decide +kernel
theorem dX1_init_72 : decode cX1_init 72 = .ok (.putfield 35, 3) := by decide +kernel
theorem dX1_init_75 : decode cX1_init 75 = .ok (.aload_n 0, 1) := by decide +kernel
theorem dX1_init_76 : decode cX1_init 76 = .ok (.bipush 12, 2) := by decide +kernel
theorem dX1_init_78 : decode cX1_init 78 = .ok (.newarray .int, 2) := by decide +kernel
theorem dX1_init_80 : decode cX1_init 80 = .ok (.putfield 38, 3) := by decide +kernel
theorem dX1_init_83 : decode cX1_init 83 = .ok (.return_, 1) := by decide +kernel
theorem dX1_thrown_0 : decode cX1_thrown 0 = .ok (.aload_n 0, 1) := by decide +kernel
theorem dX1_thrown_1 : decode cX1_thrown 1 = .ok (.getfield 41, 3) := by decide +kernel
theorem dX1_thrown_4 : decode cX1_thrown 4 = .ok (.ireturn, 1) := by decide +kernel
theorem dX1_no_0 : decode cX1_no 0 = .ok (.aload_n 0, 1) := by decide +kernel
theorem dX1_no_1 : decode cX1_no 1 = .ok (.iload_n 1, 1) := by decide +kernel
theorem dX1_no_2 : decode cX1_no 2 = .ok (.putfield 41, 3) := by decide +kernel
theorem dX1_no_5 : decode cX1_no 5 = .ok (.iconst 0, 1) := by decide +kernel
theorem dX1_no_6 : decode cX1_no 6 = .ok (.ireturn, 1) := by decide +kernel
theorem dX1_isNot_0 : decode cX1_isNot 0 = .ok (.aload_n 0, 1) := by decide +kernel
theorem dX1_isNot_1 : decode cX1_isNot 1 = .ok (.iload_n 1, 1) := by decide +kernel
theorem dX1_isNot_2 : decode cX1_isNot 2 = .ok (.putfield 41, 3) := by decide +kernel
theorem dX1_isNot_5 : decode cX1_isNot 5 = .ok (.iconst 0, 1) := by decide +kernel
theorem dX1_isNot_6 : decode cX1_isNot 6 = .ok (.ireturn, 1) := by decide +kernel
theorem dX1_ok_0 : decode cX1_ok 0 = .ok (.aload_n 0, 1) := by decide +kernel
theorem dX1_ok_1 : decode cX1_ok 1 = .ok (.iconst 0, 1) := by decide +kernel
theorem dX1_ok_2 : decode cX1_ok 2 = .ok (.putfield 41, 3) := by decide +kernel
theorem dX1_ok_5 : decode cX1_ok 5 = .ok (.iload_n 1, 1) := by decide +kernel
theorem dX1_ok_6 : decode cX1_ok 6 = .ok (.ireturn, 1) := by decide +kernel
theorem dX1_isIn_0 : decode cX1_isIn 0 = .ok (.iload_n 0, 1) := by decide +kernel
theorem dX1_isIn_1 : decode cX1_isIn 1 = .ok (.iload_n 1, 1) := by decide +kernel
theorem dX1_isIn_2 : decode cX1_isIn 2 = .ok (.if_icmp .lt 12, 3) := by decide +kernel
theorem dX1_isIn_5 : decode cX1_isIn 5 = .ok (.iload_n 0, 1) := by decide +kernel
theorem dX1_isIn_6 : decode cX1_isIn 6 = .ok (.iload_n 2, 1) := by decide +kernel
theorem dX1_isIn_7 : decode cX1_isIn 7 = .ok (.if_icmp .gt 7, 3) := by decide +kernel
theorem dX1_isIn_10 : decode cX1_isIn 10 = .ok (.iconst 1, 1) := by decide +kernel
theorem dX1_isIn_11 : decode cX1_isIn 11 = .ok (.goto 4, 3) := by decide +kernel
theorem dX1_isIn_14 : decode cX1_isIn 14 = .ok (.iconst 0, 1) := by decide +kernel
theorem dX1_isIn_15 : decode cX1_isIn 15 = .ok (.ireturn, 1) := by decide +kernel
set_option maxRecDepth 20000 in
theorem ggX1_isLayer_X1_isIn : GoodIn wsX1_isLayer wsX1_isIn := goodIn_r _ [5] (by decide +kernel) (by decide +kernel)
set_option maxRecDepth 20000 in
theorem gX1_isLayer_X1_isIn : GoodIn wsX1_isLayer (va_wsS RX1 47 yX1_isIn wsX1_isIn) := goodIn_app (goodIn_of _ (by decide +kernel)) ggX1_isLayer_X1_isIn
theorem dX1_isLayer_0 : decode cX1_isLayer 0 = .ok (.iload_n 1, 1) := by decide +kernel
theorem dX1_isLayer_1 : decode cX1_isLayer 1 = .ok (.iconst 0, 1) := by decide +kernel
theorem dX1_isLayer_2 : decode cX1_isLayer 2 = .ok (.aload_n 0, 1) := by decide +kernel
theorem dX1_isLayer_3 : decode cX1_isLayer 3 = .ok (.getfield 44, 3) := by decide +kernel
theorem dX1_isLayer_6 : decode cX1_isLayer 6 = .ok (.iconst 1, 1) := by decide +kernel
theorem dX1_isLayer_7 : decode cX1_isLayer 7 = .ok (.isub, 1) := by decide +kernel
theorem dX1_isLayer_8 : decode cX1_isLayer 8 = .ok (.invokestatic 47, 3) := by decide +kernel
theorem dX1_isLayer_11 : decode cX1_isLayer 11 = .ok (.ireturn, 1) := by decide +kernel
set_option maxRecDepth 20000 in
theorem ggX1_areLayers_X1_isLayer : GoodIn wsX1_areLayers wsX1_isLayer := goodIn_r _ [5, 6, 7, 8, 4, 9, 10, 11, 12, 13, 14, 15, 16, 17, 18, 19, 20, 21, 22, 23, 24, 25] (by decide +kernel) (by decide +kernel)
set_option maxRecDepth 20000 in
theorem gX1_areLayers_X1_isLayer : GoodIn wsX1_areLayers (wsV RX1 51 RX1 yX1_isLayer wsX1_isLayer) := goodIn_app (goodIn_of _ (by decide +kernel)) ggX1_areLayers_X1_isLayer
theorem dX1_areLayers_0 : decode cX1_areLayers 0 = .ok (.aload_n 0, 1) := by decide +kernel
theorem dX1_areLayers_1 : decode cX1_areLayers 1 = .ok (.iload_n 1, 1) := by decide +kernel
theorem dX1_areLayers_2 : decode cX1_areLayers 2 = .ok (.invokevirtual 51, 3) := by decide +kernel
theorem dX1_areLayers_5 : decode cX1_areLayers 5 = .ok (.ifCond .eq 20, 3) := by decide +kernel
theorem dX1_areLayers_8 : decode cX1_areLayers 8 = .ok (.aload_n 0, 1) := by decide +kernel
theorem dX1_areLayers_9 : decode cX1_areLayers 9 = .ok (.iload_n 2, 1) := by decide +kernel
theorem dX1_areLayers_10 : decode cX1_areLayers 10 = .ok (.invokevirtual 51, 3) := by decide +kernel
theorem dX1_areLayers_13 : decode cX1_areLayers 13 = .ok (.ifCond .eq 12, 3) := by decide +kernel
theorem dX1_areLayers_16 : decode cX1_areLayers 16 = .ok (.iload_n 1, 1) := by decide +kernel
theorem dX1_areLayers_17 : decode cX1_areLayers 17 = .ok (.iload_n 2, 1) := by decide +kernel
theorem dX1_areLayers_18 : decode cX1_areLayers 18 = .ok (.if_icmp .gt 7, 3) := by decide +kernel
theorem dX1_areLayers_21 : decode cX1_areLayers 21 = .ok (.iconst 1, 1) := by decide +kernel
theorem dX1_areLayers_22 : decode cX1_areLayers 22 = .ok (.goto 4, 3) := by decide +kernel
theorem dX1_areLayers_25 : decode cX1_areLayers 25 = .ok (.iconst 0, 1) := by decide +kernel
theorem dX1_areLayers_26 : decode cX1_areLayers 26 = .ok (.ireturn, 1) := by decide +kernel
set_option maxRecDepth 20000 in
theorem ggX1_isSample_X1_isIn : GoodIn wsX1_isSample wsX1_isIn := goodIn_r _ [5] (by decide +kernel) (by decide +kernel)
set_option maxRecDepth 20000 in
theorem gX1_isSample_X1_isIn : GoodIn wsX1_isSample (va_wsS RX1 47 yX1_isIn wsX1_isIn) := goodIn_app (goodIn_of _ (by decide +kernel)) ggX1_isSample_X1_isIn
theorem dX1_isSample_0 : decode cX1_isSample 0 = .ok (.iload_n 1, 1) := by decide +kernel
theorem dX1_isSample_1 : decode cX1_isSample 1 = .ok (.iconst 0, 1) := by decide +kernel
theorem dX1_isSample_2 : decode cX1_isSample 2 = .ok (.aload_n 0, 1) := by decide +kernel
theorem dX1_isSample_3 : decode cX1_isSample 3 = .ok (.getfield 55, 3) := by decide +kernel
theorem dX1_isSample_6 : decode cX1_isSample 6 = .ok (.iconst 1, 1) := by decide +kernel
theorem dX1_isSample_7 : decode cX1_isSample 7 = .ok (.isub, 1) := by decide +kernel
theorem dX1_isSample_8 : decode cX1_isSample 8 = .ok (.invokestatic 47, 3) := by decide +kernel
theorem dX1_isSample_11 : decode cX1_isSample 11 = .ok (.ireturn, 1) := by decide +kernel
theorem dX1_bound_0 : decode cX1_bound 0 = .ok (.aload_n 0, 1) := by decide +kernel
theorem dX1_bound_1 : decode cX1_bound 1 = .ok (.getfield 32, 3) := by decide +kernel
theorem dX1_bound_4 : decode cX1_bound 4 = .ok (.bipush 13, 2) := by decide +kernel
theorem dX1_bound_6 : decode cX1_bound 6 = .ok (.iload_n 1, 1) := by decide +kernel
theorem dX1_bound_7 : decode cX1_bound 7 = .ok (.imul, 1) := by decide +kernel
theorem dX1_bound_8 : decode cX1_bound 8 = .ok (.iload_n 2, 1) := by decide +kernel
theorem dX1_bound_9 : decode cX1_bound 9 = .ok (.iadd, 1) := by decide +kernel
theorem dX1_bound_10 : decode cX1_bound 10 = .ok (.aload_n 0, 1) := by decide +kernel
theorem dX1_bound_11 : decode cX1_bound 11 = .ok (.getfield 32, 3) := by decide +kernel
theorem dX1_bound_14 : decode cX1_bound 14 = .ok (.bipush 13, 2) := by decide +kernel
theorem dX1_bound_16 : decode cX1_bound 16 = .ok (.iload_n 1, 1) := by decide +kernel
theorem dX1_bound_17 : decode cX1_bound 17 = .ok (.imul, 1) := by decide +kernel
theorem dX1_bound_18 : decode cX1_bound 18 = .ok (.iload_n 2, 1) := by decide +kernel
theorem dX1_bound_19 : decode cX1_bound 19 = .ok (.iadd, 1) := by decide +kernel
theorem dX1_bound_20 : decode cX1_bound 20 = .ok (.iaload, 1) := by decide +kernel
theorem dX1_bound_21 : decode cX1_bound 21 = .ok (.iload_n 3, 1) := by decide +kernel
theorem dX1_bound_22 : decode cX1_bound 22 = .ok (.invokestatic 58, 3) := by decide +kernel
theorem dX1_bound_25 : decode cX1_bound 25 = .ok (.iastore, 1) := by decide +kernel
theorem dX1_bound_26 : decode cX1_bound 26 = .ok (.return_, 1) := by decide +kernel
set_option maxRecDepth 20000 in
theorem ggX1_tell_X1_bound : GoodIn wsX1_tell wsX1_bound := goodIn_r _ [5, 6, 7, 8, 9, 10, 11, 12, 13, 14, 15, 16, 17, 18, 19, 20, 21, 22, 23, 24, 25, 26] (by decide +kernel) (by decide +kernel)
set_option maxRecDepth 20000 in
theorem gX1_tell_X1_bound : GoodIn wsX1_tell (wsV RX1 64 RX1 yX1_bound wsX1_bound) := goodIn_app (goodIn_of _ (by decide +kernel)) ggX1_tell_X1_bound
theorem dX1_tell_0 : decode cX1_tell 0 = .ok (.aload_n 0, 1) := by decide +kernel
theorem dX1_tell_1 : decode cX1_tell 1 = .ok (.iload_n 1, 1) := by decide +kernel
theorem dX1_tell_2 : decode cX1_tell 2 = .ok (.iload_n 2, 1) := by decide +kernel
theorem dX1_tell_3 : decode cX1_tell 3 = .ok (.iconst 1, 1) := by decide +kernel
theorem dX1_tell_4 : decode cX1_tell 4 = .ok (.iadd, 1) := by decide +kernel
theorem dX1_tell_5 : decode cX1_tell 5 = .ok (.iload_n 3, 1) := by decide +kernel
theorem dX1_tell_6 : decode cX1_tell 6 = .ok (.iload 4, 2) := by decide +kernel
theorem dX1_tell_8 : decode cX1_tell 8 = .ok (.iadd, 1) := by decide +kernel
theorem dX1_tell_9 : decode cX1_tell 9 = .ok (.invokevirtual 64, 3) := by decide +kernel
theorem dX1_tell_12 : decode cX1_tell 12 = .ok (.aload_n 0, 1) := by decide +kernel
theorem dX1_tell_13 : decode cX1_tell 13 = .ok (.iload_n 2, 1) := by decide +kernel
theorem dX1_tell_14 : decode cX1_tell 14 = .ok (.iconst 1, 1) := by decide +kernel
theorem dX1_tell_15 : decode cX1_tell 15 = .ok (.iadd, 1) := by decide +kernel
theorem dX1_tell_16 : decode cX1_tell 16 = .ok (.iload_n 1, 1) := by decide +kernel
theorem dX1_tell_17 : decode cX1_tell 17 = .ok (.iload 4, 2) := by decide +kernel
theorem dX1_tell_19 : decode cX1_tell 19 = .ok (.iload_n 3, 1) := by decide +kernel
theorem dX1_tell_20 : decode cX1_tell 20 = .ok (.isub, 1) := by decide +kernel
theorem dX1_tell_21 : decode cX1_tell 21 = .ok (.invokevirtual 64, 3) := by decide +kernel
theorem dX1_tell_24 : decode cX1_tell 24 = .ok (.return_, 1) := by decide +kernel
set_option maxRecDepth 20000 in
theorem ggX1_begin_X1_bound : GoodIn wsX1_begin wsX1_bound := goodIn_r _ [13, 2, 14, 15, 16, 17, 22, 23, 24, 25, 26, 27, 28, 29, 30, 31, 32, 33, 34, 35, 36, 37] (by decide +kernel) (by decide +kernel)
set_option maxRecDepth 20000 in
theorem gX1_begin_X1_bound : GoodIn wsX1_begin (wsV RX1 64 RX1 yX1_bound wsX1_bound) := goodIn_app (goodIn_of _ (by decide +kernel)) ggX1_begin_X1_bound
set_option maxRecDepth 20000 in
theorem ggX1_begin_X1_tell : GoodIn wsX1_begin wsX1_tell := goodIn_r _ [21, 9, 10, 11, 12, 13, 2, 14, 15, 16, 17, 22, 23, 24, 25, 26, 27, 28, 29, 30, 31, 32, 33, 34, 35, 36, 37] (by decide +kernel) (by decide +kernel)
set_option maxRecDepth 20000 in
theorem gX1_begin_X1_tell : GoodIn wsX1_begin (wsV RX1 69 RX1 yX1_tell wsX1_tell) := goodIn_app (goodIn_of _ (by decide +kernel)) ggX1_begin_X1_tell
theorem dX1_begin_0 : decode cX1_begin 0 = .ok (.iconst 0, 1) := by decide +kernel
theorem dX1_begin_1 : decode cX1_begin 1 = .ok (.istore_n 1, 1) := by decide +kernel
theorem dX1_begin_2 : decode cX1_begin 2 = .ok (.iload_n 1, 1) := by decide +kernel
theorem dX1_begin_3 : decode cX1_begin 3 = .ok (.aload_n 0, 1) := by decide +kernel
theorem dX1_begin_4 : decode cX1_begin 4 = .ok (.getfield 44, 3) := by decide +kernel
theorem dX1_begin_7 : decode cX1_begin 7 = .ok (.if_icmp .gt 47, 3) := by decide +kernel
theorem dX1_begin_10 : decode cX1_begin 10 = .ok (.iconst 0, 1) := by decide +kernel
theorem dX1_begin_11 : decode cX1_begin 11 = .ok (.istore_n 2, 1) := by decide +kernel
theorem dX1_begin_12 : decode cX1_begin 12 = .ok (.iload_n 2, 1) := by decide +kernel
theorem dX1_begin_13 : decode cX1_begin 13 = .ok (.aload_n 0, 1) := by decide +kernel
theorem dX1_begin_14 : decode cX1_begin 14 = .ok (.getfield 44, 3) := by decide +kernel
theorem dX1_begin_17 : decode cX1_begin 17 = .ok (.if_icmp .gt 31, 3) := by decide +kernel
theorem dX1_begin_20 : decode cX1_begin 20 = .ok (.aload_n 0, 1) := by decide +kernel
theorem dX1_begin_21 : decode cX1_begin 21 = .ok (.getfield 32, 3) := by decide +kernel
theorem dX1_begin_24 : decode cX1_begin 24 = .ok (.bipush 13, 2) := by decide +kernel
theorem dX1_begin_26 : decode cX1_begin 26 = .ok (.iload_n 1, 1) := by decide +kernel
theorem dX1_begin_27 : decode cX1_begin 27 = .ok (.imul, 1) := by decide +kernel
theorem dX1_begin_28 : decode cX1_begin 28 = .ok (.iload_n 2, 1) := by decide +kernel
theorem dX1_begin_29 : decode cX1_begin 29 = .ok (.iadd, 1) := by decide +kernel
theorem dX1_begin_30 : decode cX1_begin 30 = .ok (.iload_n 1, 1) := by decide +kernel
theorem dX1_begin_31 : decode cX1_begin 31 = .ok (.iload_n 2, 1) := by decide +kernel
theorem dX1_begin_32 : decode cX1_begin 32 = .ok (.if_icmp .ne 7, 3) := by decide +kernel
theorem dX1_begin_35 : decode cX1_begin 35 = .ok (.iconst 0, 1) := by decide +kernel
theorem dX1_begin_36 : decode cX1_begin 36 = .ok (.goto 5, 3) := by decide +kernel
theorem dX1_begin_39 : decode cX1_begin 39 = .ok (.ldc 68, 2) := by decide +kernel
theorem dX1_begin_41 : decode cX1_begin 41 = .ok (.iastore, 1) := by decide +kernel
theorem dX1_begin_42 : decode cX1_begin 42 = .ok (.iinc 2 1, 3) := by decide +kernel
theorem dX1_begin_45 : decode cX1_begin 45 = .ok (.goto (-33), 3) := by decide +kernel
theorem dX1_begin_48 : decode cX1_begin 48 = .ok (.iinc 1 1, 3) := by decide +kernel
theorem dX1_begin_51 : decode cX1_begin 51 = .ok (.goto (-49), 3) := by decide +kernel
theorem dX1_begin_54 : decode cX1_begin 54 = .ok (.iconst 0, 1) := by decide +kernel
theorem dX1_begin_55 : decode cX1_begin 55 = .ok (.istore_n 1, 1) := by decide +kernel
theorem dX1_begin_56 : decode cX1_begin 56 = .ok (.iload_n 1, 1) := by decide +kernel
theorem dX1_begin_57 : decode cX1_begin 57 = .ok (.aload_n 0, 1) := by decide +kernel
theorem dX1_begin_58 : decode cX1_begin 58 = .ok (.getfield 44, 3) := by decide +kernel
theorem dX1_begin_61 : decode cX1_begin 61 = .ok (.if_icmp .ge 28, 3) := by decide +kernel
theorem dX1_begin_64 : decode cX1_begin 64 = .ok (.aload_n 0, 1) := by decide +kernel
theorem dX1_begin_65 : decode cX1_begin 65 = .ok (.iload_n 1, 1) := by decide +kernel
theorem dX1_begin_66 : decode cX1_begin 66 = .ok (.iload_n 1, 1) := by decide +kernel
theorem dX1_begin_67 : decode cX1_begin 67 = .ok (.iconst 1, 1) := by decide +kernel
theorem dX1_begin_68 : decode cX1_begin 68 = .ok (.iadd, 1) := by decide +kernel
theorem dX1_begin_69 : decode cX1_begin 69 = .ok (.bipush 40, 2) := by decide +kernel
theorem dX1_begin_71 : decode cX1_begin 71 = .ok (.invokevirtual 64, 3) := by decide +kernel
theorem dX1_begin_74 : decode cX1_begin 74 = .ok (.aload_n 0, 1) := by decide +kernel
theorem dX1_begin_75 : decode cX1_begin 75 = .ok (.iload_n 1, 1) := by decide +kernel
theorem dX1_begin_76 : decode cX1_begin 76 = .ok (.iconst 1, 1) := by decide +kernel
theorem dX1_begin_77 : decode cX1_begin 77 = .ok (.iadd, 1) := by decide +kernel
theorem dX1_begin_78 : decode cX1_begin 78 = .ok (.iload_n 1, 1) := by decide +kernel
theorem dX1_begin_79 : decode cX1_begin 79 = .ok (.iconst 0, 1) := by decide +kernel
theorem dX1_begin_80 : decode cX1_begin 80 = .ok (.invokevirtual 64, 3) := by decide +kernel
theorem dX1_begin_83 : decode cX1_begin 83 = .ok (.iinc 1 1, 3) := by decide +kernel
theorem dX1_begin_86 : decode cX1_begin 86 = .ok (.goto (-30), 3) := by decide +kernel
theorem dX1_begin_89 : decode cX1_begin 89 = .ok (.iconst 0, 1) := by decide +kernel
theorem dX1_begin_90 : decode cX1_begin 90 = .ok (.istore_n 1, 1) := by decide +kernel
theorem dX1_begin_91 : decode cX1_begin 91 = .ok (.iload_n 1, 1) := by decide +kernel
theorem dX1_begin_92 : decode cX1_begin 92 = .ok (.aload_n 0, 1) := by decide +kernel
theorem dX1_begin_93 : decode cX1_begin 93 = .ok (.getfield 55, 3) := by decide +kernel
theorem dX1_begin_96 : decode cX1_begin 96 = .ok (.if_icmp .ge 37, 3) := by decide +kernel
theorem dX1_begin_99 : decode cX1_begin 99 = .ok (.aload_n 0, 1) := by decide +kernel
theorem dX1_begin_100 : decode cX1_begin 100 = .ok (.aload_n 0, 1) := by decide +kernel
theorem dX1_begin_101 : decode cX1_begin 101 = .ok (.getfield 16, 3) := by decide +kernel
theorem dX1_begin_104 : decode cX1_begin 104 = .ok (.iload_n 1, 1) := by decide +kernel
theorem dX1_begin_105 : decode cX1_begin 105 = .ok (.iaload, 1) := by decide +kernel
theorem dX1_begin_106 : decode cX1_begin 106 = .ok (.aload_n 0, 1) := by decide +kernel
theorem dX1_begin_107 : decode cX1_begin 107 = .ok (.getfield 19, 3) := by decide +kernel
theorem dX1_begin_110 : decode cX1_begin 110 = .ok (.iload_n 1, 1) := by decide +kernel
theorem dX1_begin_111 : decode cX1_begin 111 = .ok (.iaload, 1) := by decide +kernel
theorem dX1_begin_112 : decode cX1_begin 112 = .ok (.aload_n 0, 1) := by decide +kernel
theorem dX1_begin_113 : decode cX1_begin 113 = .ok (.getfield 22, 3) := by decide +kernel
theorem dX1_begin_116 : decode cX1_begin 116 = .ok (.iload_n 1, 1) := by decide +kernel
theorem dX1_begin_117 : decode cX1_begin 117 = .ok (.iaload, 1) := by decide +kernel
theorem dX1_begin_118 : decode cX1_begin 118 = .ok (.aload_n 0, 1) := by decide +kernel
theorem dX1_begin_119 : decode cX1_begin 119 = .ok (.getfield 25, 3) := by decide +kernel
theorem dX1_begin_122 : decode cX1_begin 122 = .ok (.iload_n 1, 1) := by decide +kernel
theorem dX1_begin_123 : decode cX1_begin 123 = .ok (.iaload, 1) := by decide +kernel
theorem dX1_begin_124 : decode cX1_begin 124 = .ok (.invokevirtual 69, 3) := by decide +kernel
theorem dX1_begin_127 : decode cX1_begin 127 = .ok (.iinc 1 1, 3) := by decide +kernel
theorem dX1_begin_130 : decode cX1_begin 130 = .ok (.goto (-39), 3) := by decide +kernel
theorem dX1_begin_133 : decode cX1_begin 133 = .ok (.return_, 1) := by decide +kernel
set_option maxRecDepth 20000 in
theorem ggX1_goOn_X1_bound : GoodIn wsX1_goOn wsX1_bound := goodIn_r _ [7, 2, 8, 9, 10, 11, 12, 13, 14, 15, 16, 17, 18, 19, 20, 21, 22, 23, 24, 25, 26, 27] (by decide +kernel) (by decide +kernel)
set_option maxRecDepth 20000 in
theorem gX1_goOn_X1_bound : GoodIn wsX1_goOn (wsV RX1 64 RX1 yX1_bound wsX1_bound) := goodIn_app (goodIn_of _ (by decide +kernel)) ggX1_goOn_X1_bound
theorem dX1_goOn_0 : decode cX1_goOn 0 = .ok (.iconst 0, 1) := by decide +kernel
theorem dX1_goOn_1 : decode cX1_goOn 1 = .ok (.istore_n 1, 1) := by decide +kernel
theorem dX1_goOn_2 : decode cX1_goOn 2 = .ok (.iload_n 1, 1) := by decide +kernel
theorem dX1_goOn_3 : decode cX1_goOn 3 = .ok (.aload_n 0, 1) := by decide +kernel
theorem dX1_goOn_4 : decode cX1_goOn 4 = .ok (.getfield 44, 3) := by decide +kernel
theorem dX1_goOn_7 : decode cX1_goOn 7 = .ok (.if_icmp .gt 70, 3) := by decide +kernel
theorem dX1_goOn_10 : decode cX1_goOn 10 = .ok (.iconst 0, 1) := by decide +kernel
theorem dX1_goOn_11 : decode cX1_goOn 11 = .ok (.istore_n 2, 1) := by decide +kernel
theorem dX1_goOn_12 : decode cX1_goOn 12 = .ok (.iload_n 2, 1) := by decide +kernel
theorem dX1_goOn_13 : decode cX1_goOn 13 = .ok (.aload_n 0, 1) := by decide +kernel
theorem dX1_goOn_14 : decode cX1_goOn 14 = .ok (.getfield 44, 3) := by decide +kernel
theorem dX1_goOn_17 : decode cX1_goOn 17 = .ok (.if_icmp .gt 54, 3) := by decide +kernel
theorem dX1_goOn_20 : decode cX1_goOn 20 = .ok (.iconst 0, 1) := by decide +kernel
theorem dX1_goOn_21 : decode cX1_goOn 21 = .ok (.istore_n 3, 1) := by decide +kernel
theorem dX1_goOn_22 : decode cX1_goOn 22 = .ok (.iload_n 3, 1) := by decide +kernel
theorem dX1_goOn_23 : decode cX1_goOn 23 = .ok (.aload_n 0, 1) := by decide +kernel
theorem dX1_goOn_24 : decode cX1_goOn 24 = .ok (.getfield 44, 3) := by decide +kernel
theorem dX1_goOn_27 : decode cX1_goOn 27 = .ok (.if_icmp .gt 38, 3) := by decide +kernel
theorem dX1_goOn_30 : decode cX1_goOn 30 = .ok (.aload_n 0, 1) := by decide +kernel
theorem dX1_goOn_31 : decode cX1_goOn 31 = .ok (.iload_n 2, 1) := by decide +kernel
theorem dX1_goOn_32 : decode cX1_goOn 32 = .ok (.iload_n 3, 1) := by decide +kernel
theorem dX1_goOn_33 : decode cX1_goOn 33 = .ok (.aload_n 0, 1) := by decide +kernel
theorem dX1_goOn_34 : decode cX1_goOn 34 = .ok (.getfield 32, 3) := by decide +kernel
theorem dX1_goOn_37 : decode cX1_goOn 37 = .ok (.bipush 13, 2) := by decide +kernel
theorem dX1_goOn_39 : decode cX1_goOn 39 = .ok (.iload_n 2, 1) := by decide +kernel
theorem dX1_goOn_40 : decode cX1_goOn 40 = .ok (.imul, 1) := by decide +kernel
theorem dX1_goOn_41 : decode cX1_goOn 41 = .ok (.iload_n 1, 1) := by decide +kernel
theorem dX1_goOn_42 : decode cX1_goOn 42 = .ok (.iadd, 1) := by decide +kernel
theorem dX1_goOn_43 : decode cX1_goOn 43 = .ok (.iaload, 1) := by decide +kernel
theorem dX1_goOn_44 : decode cX1_goOn 44 = .ok (.aload_n 0, 1) := by decide +kernel
theorem dX1_goOn_45 : decode cX1_goOn 45 = .ok (.getfield 32, 3) := by decide +kernel
theorem dX1_goOn_48 : decode cX1_goOn 48 = .ok (.bipush 13, 2) := by decide +kernel
theorem dX1_goOn_50 : decode cX1_goOn 50 = .ok (.iload_n 1, 1) := by decide +kernel
theorem dX1_goOn_51 : decode cX1_goOn 51 = .ok (.imul, 1) := by decide +kernel
theorem dX1_goOn_52 : decode cX1_goOn 52 = .ok (.iload_n 3, 1) := by decide +kernel
theorem dX1_goOn_53 : decode cX1_goOn 53 = .ok (.iadd, 1) := by decide +kernel
theorem dX1_goOn_54 : decode cX1_goOn 54 = .ok (.iaload, 1) := by decide +kernel
theorem dX1_goOn_55 : decode cX1_goOn 55 = .ok (.iadd, 1) := by decide +kernel
theorem dX1_goOn_56 : decode cX1_goOn 56 = .ok (.invokevirtual 64, 3) := by decide +kernel
theorem dX1_goOn_59 : decode cX1_goOn 59 = .ok (.iinc 3 1, 3) := by decide +kernel
theorem dX1_goOn_62 : decode cX1_goOn 62 = .ok (.goto (-40), 3) := by decide +kernel
theorem dX1_goOn_65 : decode cX1_goOn 65 = .ok (.iinc 2 1, 3) := by decide +kernel
theorem dX1_goOn_68 : decode cX1_goOn 68 = .ok (.goto (-56), 3) := by decide +kernel
theorem dX1_goOn_71 : decode cX1_goOn 71 = .ok (.iinc 1 1, 3) := by decide +kernel
theorem dX1_goOn_74 : decode cX1_goOn 74 = .ok (.goto (-72), 3) := by decide +kernel
theorem dX1_goOn_77 : decode cX1_goOn 77 = .ok (.return_, 1) := by decide +kernel
set_option maxRecDepth 20000 in
theorem ggX1_reckon_X1_begin : GoodIn wsX1_reckon wsX1_begin := goodIn_r _ [5, 6, 7, 8, 9, 10, 11, 12, 13, 14, 15, 16, 4, 17, 18, 19, 20, 21, 22, 23, 24, 25, 30, 31, 32, 33, 34, 35, 36, 37, 38, 39, 40, 41, 42, 43, 44, 45] (by decide +kernel) (by decide +kernel)
set_option maxRecDepth 20000 in
theorem gX1_reckon_X1_begin : GoodIn wsX1_reckon (wsV RX1 73 RX1 yX1_begin wsX1_begin) := goodIn_app (goodIn_of _ (by decide +kernel)) ggX1_reckon_X1_begin
set_option maxRecDepth 20000 in
theorem ggX1_reckon_X1_goOn : GoodIn wsX1_reckon wsX1_goOn := goodIn_r _ [29, 6, 7, 14, 15, 16, 4, 17, 18, 19, 20, 21, 30, 31, 32, 33, 34, 35, 36, 37, 38, 39, 40, 41, 42, 43, 44, 45] (by decide +kernel) (by decide +kernel)
set_option maxRecDepth 20000 in
theorem gX1_reckon_X1_goOn : GoodIn wsX1_reckon (wsV RX1 76 RX1 yX1_goOn wsX1_goOn) := goodIn_app (goodIn_of _ (by decide +kernel)) ggX1_reckon_X1_goOn
theorem dX1_reckon_0 : decode cX1_reckon 0 = .ok (.aload_n 0, 1) := by decide +kernel
theorem dX1_reckon_1 : decode cX1_reckon 1 = .ok (.invokevirtual 73, 3) := by decide +kernel
theorem dX1_reckon_4 : decode cX1_reckon 4 = .ok (.aload_n 0, 1) := by decide +kernel
theorem dX1_reckon_5 : decode cX1_reckon 5 = .ok (.invokevirtual 76, 3) := by decide +kernel
theorem dX1_reckon_8 : decode cX1_reckon 8 = .ok (.return_, 1) := by decide +kernel
theorem dX1_least_0 : decode cX1_least 0 = .ok (.aload_n 0, 1) := by decide +kernel
theorem dX1_least_1 : decode cX1_least 1 = .ok (.getfield 32, 3) := by decide +kernel
theorem dX1_least_4 : decode cX1_least 4 = .ok (.bipush 13, 2) := by decide +kernel
theorem dX1_least_6 : decode cX1_least 6 = .ok (.iload_n 2, 1) := by decide +kernel
theorem dX1_least_7 : decode cX1_least 7 = .ok (.iconst 1, 1) := by decide +kernel
theorem dX1_least_8 : decode cX1_least 8 = .ok (.iadd, 1) := by decide +kernel
theorem dX1_least_9 : decode cX1_least 9 = .ok (.imul, 1) := by decide +kernel
theorem dX1_least_10 : decode cX1_least 10 = .ok (.iload_n 1, 1) := by decide +kernel
theorem dX1_least_11 : decode cX1_least 11 = .ok (.iadd, 1) := by decide +kernel
theorem dX1_least_12 : decode cX1_least 12 = .ok (.iaload, 1) := by decide +kernel
theorem dX1_least_13 : decode cX1_least 13 = .ok (.ineg, 1) := by decide +kernel
theorem dX1_least_14 : decode cX1_least 14 = .ok (.ireturn, 1) := by decide +kernel
theorem dX1_greatest_0 : decode cX1_greatest 0 = .ok (.aload_n 0, 1) := by decide +kernel
theorem dX1_greatest_1 : decode cX1_greatest 1 = .ok (.getfield 32, 3) := by decide +kernel
theorem dX1_greatest_4 : decode cX1_greatest 4 = .ok (.bipush 13, 2) := by decide +kernel
theorem dX1_greatest_6 : decode cX1_greatest 6 = .ok (.iload_n 1, 1) := by decide +kernel
theorem dX1_greatest_7 : decode cX1_greatest 7 = .ok (.imul, 1) := by decide +kernel
theorem dX1_greatest_8 : decode cX1_greatest 8 = .ok (.iload_n 2, 1) := by decide +kernel
theorem dX1_greatest_9 : decode cX1_greatest 9 = .ok (.iadd, 1) := by decide +kernel
theorem dX1_greatest_10 : decode cX1_greatest 10 = .ok (.iconst 1, 1) := by decide +kernel
theorem dX1_greatest_11 : decode cX1_greatest 11 = .ok (.iadd, 1) := by decide +kernel
theorem dX1_greatest_12 : decode cX1_greatest 12 = .ok (.iaload, 1) := by decide +kernel
theorem dX1_greatest_13 : decode cX1_greatest 13 = .ok (.ireturn, 1) := by decide +kernel
set_option maxRecDepth 20000 in
theorem ggX1_allDoubt_X1_greatest : GoodIn wsX1_allDoubt wsX1_greatest := goodIn_r _ [6, 7, 12, 13, 14, 15, 16, 17, 18, 19, 20, 21, 22, 23, 24, 25, 26, 27] (by decide +kernel) (by decide +kernel)
set_option maxRecDepth 20000 in
theorem gX1_allDoubt_X1_greatest : GoodIn wsX1_allDoubt (wsV RX1 79 RX1 yX1_greatest wsX1_greatest) := goodIn_app (goodIn_of _ (by decide +kernel)) ggX1_allDoubt_X1_greatest
set_option maxRecDepth 20000 in
theorem ggX1_allDoubt_X1_least : GoodIn wsX1_allDoubt wsX1_least := goodIn_r _ [11, 7, 12, 13, 14, 15, 16, 17, 18, 19, 20, 21, 22, 23, 24, 25, 26, 27] (by decide +kernel) (by decide +kernel)
set_option maxRecDepth 20000 in
theorem gX1_allDoubt_X1_least : GoodIn wsX1_allDoubt (wsV RX1 82 RX1 yX1_least wsX1_least) := goodIn_app (goodIn_of _ (by decide +kernel)) ggX1_allDoubt_X1_least
theorem dX1_allDoubt_0 : decode cX1_allDoubt 0 = .ok (.iconst 0, 1) := by decide +kernel
theorem dX1_allDoubt_1 : decode cX1_allDoubt 1 = .ok (.istore_n 1, 1) := by decide +kernel
theorem dX1_allDoubt_2 : decode cX1_allDoubt 2 = .ok (.iconst 0, 1) := by decide +kernel
theorem dX1_allDoubt_3 : decode cX1_allDoubt 3 = .ok (.istore_n 2, 1) := by decide +kernel
theorem dX1_allDoubt_4 : decode cX1_allDoubt 4 = .ok (.iload_n 2, 1) := by decide +kernel
theorem dX1_allDoubt_5 : decode cX1_allDoubt 5 = .ok (.aload_n 0, 1) := by decide +kernel
theorem dX1_allDoubt_6 : decode cX1_allDoubt 6 = .ok (.getfield 44, 3) := by decide +kernel
theorem dX1_allDoubt_9 : decode cX1_allDoubt 9 = .ok (.if_icmp .ge 25, 3) := by decide +kernel
theorem dX1_allDoubt_12 : decode cX1_allDoubt 12 = .ok (.iload_n 1, 1) := by decide +kernel
theorem dX1_allDoubt_13 : decode cX1_allDoubt 13 = .ok (.aload_n 0, 1) := by decide +kernel
theorem dX1_allDoubt_14 : decode cX1_allDoubt 14 = .ok (.iload_n 2, 1) := by decide +kernel
theorem dX1_allDoubt_15 : decode cX1_allDoubt 15 = .ok (.iload_n 2, 1) := by decide +kernel
theorem dX1_allDoubt_16 : decode cX1_allDoubt 16 = .ok (.invokevirtual 79, 3) := by decide +kernel
theorem dX1_allDoubt_19 : decode cX1_allDoubt 19 = .ok (.aload_n 0, 1) := by decide +kernel
theorem dX1_allDoubt_20 : decode cX1_allDoubt 20 = .ok (.iload_n 2, 1) := by decide +kernel
theorem dX1_allDoubt_21 : decode cX1_allDoubt 21 = .ok (.iload_n 2, 1) := by decide +kernel
theorem dX1_allDoubt_22 : decode cX1_allDoubt 22 = .ok (.invokevirtual 82, 3) := by decide +kernel
theorem dX1_allDoubt_25 : decode cX1_allDoubt 25 = .ok (.isub, 1) := by decide +kernel
theorem dX1_allDoubt_26 : decode cX1_allDoubt 26 = .ok (.iadd, 1) := by decide +kernel
theorem dX1_allDoubt_27 : decode cX1_allDoubt 27 = .ok (.istore_n 1, 1) := by decide +kernel
theorem dX1_allDoubt_28 : decode cX1_allDoubt 28 = .ok (.iinc 2 1, 3) := by decide +kernel
theorem dX1_allDoubt_31 : decode cX1_allDoubt 31 = .ok (.goto (-27), 3) := by decide +kernel
theorem dX1_allDoubt_34 : decode cX1_allDoubt 34 = .ok (.iload_n 1, 1) := by decide +kernel
theorem dX1_allDoubt_35 : decode cX1_allDoubt 35 = .ok (.ireturn, 1) := by decide +kernel
theorem dX1_added_0 : decode cX1_added 0 = .ok (.iconst 0, 1) := by decide +kernel
theorem dX1_added_1 : decode cX1_added 1 = .ok (.istore_n 3, 1) := by decide +kernel
theorem dX1_added_2 : decode cX1_added 2 = .ok (.iload_n 1, 1) := by decide +kernel
theorem dX1_added_3 : decode cX1_added 3 = .ok (.istore 4, 2) := by decide +kernel
theorem dX1_added_5 : decode cX1_added 5 = .ok (.iload 4, 2) := by decide +kernel
theorem dX1_added_7 : decode cX1_added 7 = .ok (.iload_n 2, 1) := by decide +kernel
theorem dX1_added_8 : decode cX1_added 8 = .ok (.if_icmp .gt 19, 3) := by decide +kernel
theorem dX1_added_11 : decode cX1_added 11 = .ok (.iload_n 3, 1) := by decide +kernel
theorem dX1_added_12 : decode cX1_added 12 = .ok (.aload_n 0, 1) := by decide +kernel
theorem dX1_added_13 : decode cX1_added 13 = .ok (.getfield 13, 3) := by decide +kernel
theorem dX1_added_16 : decode cX1_added 16 = .ok (.iload 4, 2) := by decide +kernel
theorem dX1_added_18 : decode cX1_added 18 = .ok (.iaload, 1) := by decide +kernel
theorem dX1_added_19 : decode cX1_added 19 = .ok (.iadd, 1) := by decide +kernel
theorem dX1_added_20 : decode cX1_added 20 = .ok (.istore_n 3, 1) := by decide +kernel
theorem dX1_added_21 : decode cX1_added 21 = .ok (.iinc 4 1, 3) := by decide +kernel
theorem dX1_added_24 : decode cX1_added 24 = .ok (.goto (-19), 3) := by decide +kernel
theorem dX1_added_27 : decode cX1_added 27 = .ok (.iload_n 3, 1) := by decide +kernel
theorem dX1_added_28 : decode cX1_added 28 = .ok (.ireturn, 1) := by decide +kernel
set_option maxRecDepth 20000 in
theorem ggX1_behind_X1_begin : GoodIn wsX1_behind wsX1_begin := goodIn_r _ [5, 6, 7, 8, 9, 10, 11, 12, 13, 14, 15, 16, 4, 17, 18, 19, 20, 21, 22, 23, 24, 25, 47, 48, 49, 50, 51, 52, 53, 54, 55, 56, 57, 58, 59, 60, 61, 62] (by decide +kernel) (by decide +kernel)
set_option maxRecDepth 20000 in
theorem gX1_behind_X1_begin : GoodIn wsX1_behind (wsV RX1 73 RX1 yX1_begin wsX1_begin) := goodIn_app (goodIn_of _ (by decide +kernel)) ggX1_behind_X1_begin
set_option maxRecDepth 20000 in
theorem ggX1_behind_X1_added : GoodIn wsX1_behind wsX1_added := goodIn_r _ [29, 30, 47, 48, 49, 50, 51, 52, 53, 54, 55, 56, 57, 58, 59, 60, 61, 62] (by decide +kernel) (by decide +kernel)
set_option maxRecDepth 20000 in
theorem gX1_behind_X1_added : GoodIn wsX1_behind (wsV RX1 85 RX1 yX1_added wsX1_added) := goodIn_app (goodIn_of _ (by decide +kernel)) ggX1_behind_X1_added
set_option maxRecDepth 20000 in
theorem ggX1_behind_X1_tell : GoodIn wsX1_behind wsX1_tell := goodIn_r _ [25, 14, 15, 16, 4, 17, 7, 18, 19, 20, 21, 47, 48, 49, 50, 51, 52, 53, 54, 55, 56, 57, 58, 59, 60, 61, 62] (by decide +kernel) (by decide +kernel)
set_option maxRecDepth 20000 in
theorem gX1_behind_X1_tell : GoodIn wsX1_behind (wsV RX1 69 RX1 yX1_tell wsX1_tell) := goodIn_app (goodIn_of _ (by decide +kernel)) ggX1_behind_X1_tell
set_option maxRecDepth 20000 in
theorem ggX1_behind_X1_goOn : GoodIn wsX1_behind wsX1_goOn := goodIn_r _ [34, 6, 7, 14, 15, 16, 4, 17, 18, 19, 20, 21, 47, 48, 49, 50, 51, 52, 53, 54, 55, 56, 57, 58, 59, 60, 61, 62] (by decide +kernel) (by decide +kernel)
set_option maxRecDepth 20000 in
theorem gX1_behind_X1_goOn : GoodIn wsX1_behind (wsV RX1 76 RX1 yX1_goOn wsX1_goOn) := goodIn_app (goodIn_of _ (by decide +kernel)) ggX1_behind_X1_goOn
set_option maxRecDepth 20000 in
theorem ggX1_behind_X1_allDoubt : GoodIn wsX1_behind wsX1_allDoubt := goodIn_r _ [38, 6, 39, 40, 41, 4, 42, 7, 43, 44, 45, 46, 47, 48, 49, 50, 51, 52, 53, 54, 55, 56, 57, 58, 59, 60, 61, 62] (by decide +kernel) (by decide +kernel)
set_option maxRecDepth 20000 in
theorem gX1_behind_X1_allDoubt : GoodIn wsX1_behind (wsV RX1 88 RX1 yX1_allDoubt wsX1_allDoubt) := goodIn_app (goodIn_of _ (by decide +kernel)) ggX1_behind_X1_allDoubt
theorem dX1_behind_0 : decode cX1_behind 0 = .ok (.aload_n 0, 1) := by decide +kernel
theorem dX1_behind_1 : decode cX1_behind 1 = .ok (.invokevirtual 73, 3) := by decide +kernel
theorem dX1_behind_4 : decode cX1_behind 4 = .ok (.aload_n 0, 1) := by decide +kernel
theorem dX1_behind_5 : decode cX1_behind 5 = .ok (.iload_n 1, 1) := by decide +kernel
theorem dX1_behind_6 : decode cX1_behind 6 = .ok (.iload_n 2, 1) := by decide +kernel
theorem dX1_behind_7 : decode cX1_behind 7 = .ok (.aload_n 0, 1) := by decide +kernel
theorem dX1_behind_8 : decode cX1_behind 8 = .ok (.iload_n 1, 1) := by decide +kernel
theorem dX1_behind_9 : decode cX1_behind 9 = .ok (.iload_n 2, 1) := by decide +kernel
theorem dX1_behind_10 : decode cX1_behind 10 = .ok (.invokevirtual 85, 3) := by decide +kernel
theorem dX1_behind_13 : decode cX1_behind 13 = .ok (.iconst 0, 1) := by decide +kernel
theorem dX1_behind_14 : decode cX1_behind 14 = .ok (.invokevirtual 69, 3) := by decide +kernel
theorem dX1_behind_17 : decode cX1_behind 17 = .ok (.aload_n 0, 1) := by decide +kernel
theorem dX1_behind_18 : decode cX1_behind 18 = .ok (.invokevirtual 76, 3) := by decide +kernel
theorem dX1_behind_21 : decode cX1_behind 21 = .ok (.aload_n 0, 1) := by decide +kernel
theorem dX1_behind_22 : decode cX1_behind 22 = .ok (.invokevirtual 88, 3) := by decide +kernel
theorem dX1_behind_25 : decode cX1_behind 25 = .ok (.ireturn, 1) := by decide +kernel
set_option maxRecDepth 20000 in
theorem ggX1_fill_X1_isIn : GoodIn wsX1_fill wsX1_isIn := goodIn_r _ [8] (by decide +kernel) (by decide +kernel)
set_option maxRecDepth 20000 in
theorem gX1_fill_X1_isIn : GoodIn wsX1_fill (va_wsS RX1 47 yX1_isIn wsX1_isIn) := goodIn_app (goodIn_of _ (by decide +kernel)) ggX1_fill_X1_isIn
set_option maxRecDepth 20000 in
theorem ggX1_fill_X1_no : GoodIn wsX1_fill wsX1_no := goodIn_r _ [12, 1, 13, 14, 15, 16, 17, 18, 19, 20, 21, 22, 23, 24, 25, 26, 27, 28] (by decide +kernel) (by decide +kernel)
set_option maxRecDepth 20000 in
theorem gX1_fill_X1_no : GoodIn wsX1_fill (wsV RX1 92 RX1 yX1_no wsX1_no) := goodIn_app (goodIn_of _ (by decide +kernel)) ggX1_fill_X1_no
theorem dX1_fill_0 : decode cX1_fill 0 = .ok (.aload_n 0, 1) := by decide +kernel
theorem dX1_fill_1 : decode cX1_fill 1 = .ok (.iconst 0, 1) := by decide +kernel
theorem dX1_fill_2 : decode cX1_fill 2 = .ok (.putfield 41, 3) := by decide +kernel
theorem dX1_fill_5 : decode cX1_fill 5 = .ok (.iload_n 1, 1) := by decide +kernel
theorem dX1_fill_6 : decode cX1_fill 6 = .ok (.iconst 0, 1) := by decide +kernel
theorem dX1_fill_7 : decode cX1_fill 7 = .ok (.iconst 4, 1) := by decide +kernel
theorem dX1_fill_8 : decode cX1_fill 8 = .ok (.invokestatic 47, 3) := by decide +kernel
theorem dX1_fill_11 : decode cX1_fill 11 = .ok (.ifCond .eq 13, 3) := by decide +kernel
theorem dX1_fill_14 : decode cX1_fill 14 = .ok (.iload_n 2, 1) := by decide +kernel
theorem dX1_fill_15 : decode cX1_fill 15 = .ok (.iconst 0, 1) := by decide +kernel
theorem dX1_fill_16 : decode cX1_fill 16 = .ok (.bipush 40, 2) := by decide +kernel
theorem dX1_fill_18 : decode cX1_fill 18 = .ok (.invokestatic 47, 3) := by decide +kernel
theorem dX1_fill_21 : decode cX1_fill 21 = .ok (.ifCond .ne 9, 3) := by decide +kernel
theorem dX1_fill_24 : decode cX1_fill 24 = .ok (.aload_n 0, 1) := by decide +kernel
theorem dX1_fill_25 : decode cX1_fill 25 = .ok (.iconst 1, 1) := by decide +kernel
theorem dX1_fill_26 : decode cX1_fill 26 = .ok (.invokevirtual 92, 3) := by decide +kernel
theorem dX1_fill_29 : decode cX1_fill 29 = .ok (.ireturn, 1) := by decide +kernel
theorem dX1_fill_30 : decode cX1_fill 30 = .ok (.aload_n 0, 1) := by decide +kernel
theorem dX1_fill_31 : decode cX1_fill 31 = .ok (.getfield 44, 3) := by decide +kernel
theorem dX1_fill_34 : decode cX1_fill 34 = .ok (.bipush 12, 2) := by decide +kernel
theorem dX1_fill_36 : decode cX1_fill 36 = .ok (.if_icmp .ne 9, 3) := by decide +kernel
theorem dX1_fill_39 : decode cX1_fill 39 = .ok (.aload_n 0, 1) := by decide +kernel
theorem dX1_fill_40 : decode cX1_fill 40 = .ok (.iconst 2, 1) := by decide +kernel
theorem dX1_fill_41 : decode cX1_fill 41 = .ok (.invokevirtual 92, 3) := by decide +kernel
theorem dX1_fill_44 : decode cX1_fill 44 = .ok (.ireturn, 1) := by decide +kernel
theorem dX1_fill_45 : decode cX1_fill 45 = .ok (.aload_n 0, 1) := by decide +kernel
theorem dX1_fill_46 : decode cX1_fill 46 = .ok (.getfield 9, 3) := by decide +kernel
theorem dX1_fill_49 : decode cX1_fill 49 = .ok (.aload_n 0, 1) := by decide +kernel
theorem dX1_fill_50 : decode cX1_fill 50 = .ok (.getfield 44, 3) := by decide +kernel
theorem dX1_fill_53 : decode cX1_fill 53 = .ok (.iload_n 1, 1) := by decide +kernel
theorem dX1_fill_54 : decode cX1_fill 54 = .ok (.iastore, 1) := by decide +kernel
theorem dX1_fill_55 : decode cX1_fill 55 = .ok (.aload_n 0, 1) := by decide +kernel
theorem dX1_fill_56 : decode cX1_fill 56 = .ok (.getfield 13, 3) := by decide +kernel
theorem dX1_fill_59 : decode cX1_fill 59 = .ok (.aload_n 0, 1) := by decide +kernel
theorem dX1_fill_60 : decode cX1_fill 60 = .ok (.getfield 44, 3) := by decide +kernel
theorem dX1_fill_63 : decode cX1_fill 63 = .ok (.iload_n 2, 1) := by decide +kernel
theorem dX1_fill_64 : decode cX1_fill 64 = .ok (.iastore, 1) := by decide +kernel
theorem dX1_fill_65 : decode cX1_fill 65 = .ok (.aload_n 0, 1) := by decide +kernel
theorem dX1_fill_66 : decode cX1_fill 66 = .ok (.dup, 1) := by decide +kernel
theorem dX1_fill_67 : decode cX1_fill 67 = .ok (.getfield 44, 3) := by decide +kernel
theorem dX1_fill_70 : decode cX1_fill 70 = .ok (.iconst 1, 1) := by decide +kernel
theorem dX1_fill_71 : decode cX1_fill 71 = .ok (.iadd, 1) := by decide +kernel
theorem dX1_fill_72 : decode cX1_fill 72 = .ok (.putfield 44, 3) := by decide +kernel
theorem dX1_fill_75 : decode cX1_fill 75 = .ok (.aload_n 0, 1) := by decide +kernel
theorem dX1_fill_76 : decode cX1_fill 76 = .ok (.getfield 44, 3) := by decide +kernel
theorem dX1_fill_79 : decode cX1_fill 79 = .ok (.iconst 1, 1) := by decide +kernel
theorem dX1_fill_80 : decode cX1_fill 80 = .ok (.isub, 1) := by decide +kernel
theorem dX1_fill_81 : decode cX1_fill 81 = .ok (.ireturn, 1) := by decide +kernel
theorem dX1_drop_0 : decode cX1_drop 0 = .ok (.aload_n 0, 1) := by decide +kernel
theorem dX1_drop_1 : decode cX1_drop 1 = .ok (.dup, 1) := by decide +kernel
theorem dX1_drop_2 : decode cX1_drop 2 = .ok (.getfield 55, 3) := by decide +kernel
theorem dX1_drop_5 : decode cX1_drop 5 = .ok (.iconst 1, 1) := by decide +kernel
theorem dX1_drop_6 : decode cX1_drop 6 = .ok (.isub, 1) := by decide +kernel
theorem dX1_drop_7 : decode cX1_drop 7 = .ok (.putfield 55, 3) := by decide +kernel
theorem dX1_drop_10 : decode cX1_drop 10 = .ok (.iload_n 1, 1) := by decide +kernel
theorem dX1_drop_11 : decode cX1_drop 11 = .ok (.istore_n 2, 1) := by decide +kernel
theorem dX1_drop_12 : decode cX1_drop 12 = .ok (.iload_n 2, 1) := by decide +kernel
theorem dX1_drop_13 : decode cX1_drop 13 = .ok (.aload_n 0, 1) := by decide +kernel
theorem dX1_drop_14 : decode cX1_drop 14 = .ok (.getfield 55, 3) := by decide +kernel
theorem dX1_drop_17 : decode cX1_drop 17 = .ok (.if_icmp .ge 65, 3) := by decide +kernel
theorem dX1_drop_20 : decode cX1_drop 20 = .ok (.aload_n 0, 1) := by decide +kernel
theorem dX1_drop_21 : decode cX1_drop 21 = .ok (.getfield 16, 3) := by decide +kernel
theorem dX1_drop_24 : decode cX1_drop 24 = .ok (.iload_n 2, 1) := by decide +kernel
theorem dX1_drop_25 : decode cX1_drop 25 = .ok (.aload_n 0, 1) := by decide +kernel
theorem dX1_drop_26 : decode cX1_drop 26 = .ok (.getfield 16, 3) := by decide +kernel
theorem dX1_drop_29 : decode cX1_drop 29 = .ok (.iload_n 2, 1) := by decide +kernel
theorem dX1_drop_30 : decode cX1_drop 30 = .ok (.iconst 1, 1) := by decide +kernel
theorem dX1_drop_31 : decode cX1_drop 31 = .ok (.iadd, 1) := by decide +kernel
theorem dX1_drop_32 : decode cX1_drop 32 = .ok (.iaload, 1) := by decide +kernel
theorem dX1_drop_33 : decode cX1_drop 33 = .ok (.iastore, 1) := by decide +kernel
theorem dX1_drop_34 : decode cX1_drop 34 = .ok (.aload_n 0, 1) := by decide +kernel
theorem dX1_drop_35 : decode cX1_drop 35 = .ok (.getfield 19, 3) := by decide +kernel
theorem dX1_drop_38 : decode cX1_drop 38 = .ok (.iload_n 2, 1) := by decide +kernel
theorem dX1_drop_39 : decode cX1_drop 39 = .ok (.aload_n 0, 1) := by decide +kernel
theorem dX1_drop_40 : decode cX1_drop 40 = .ok (.getfield 19, 3) := by decide +kernel
theorem dX1_drop_43 : decode cX1_drop 43 = .ok (.iload_n 2, 1) := by decide +kernel
theorem dX1_drop_44 : decode cX1_drop 44 = .ok (.iconst 1, 1) := by decide +kernel
theorem dX1_drop_45 : decode cX1_drop 45 = .ok (.iadd, 1) := by decide +kernel
theorem dX1_drop_46 : decode cX1_drop 46 = .ok (.iaload, 1) := by decide +kernel
theorem dX1_drop_47 : decode cX1_drop 47 = .ok (.iastore, 1) := by decide +kernel
theorem dX1_drop_48 : decode cX1_drop 48 = .ok (.aload_n 0, 1) := by decide +kernel
theorem dX1_drop_49 : decode cX1_drop 49 = .ok (.getfield 22, 3) := by decide +kernel
theorem dX1_drop_52 : decode cX1_drop 52 = .ok (.iload_n 2, 1) := by decide +kernel
theorem dX1_drop_53 : decode cX1_drop 53 = .ok (.aload_n 0, 1) := by decide +kernel
theorem dX1_drop_54 : decode cX1_drop 54 = .ok (.getfield 22, 3) := by decide +kernel
theorem dX1_drop_57 : decode cX1_drop 57 = .ok (.iload_n 2, 1) := by decide +kernel
theorem dX1_drop_58 : decode cX1_drop 58 = .ok (.iconst 1, 1) := by decide +kernel
theorem dX1_drop_59 : decode cX1_drop 59 = .ok (.iadd, 1) := by decide +kernel
theorem dX1_drop_60 : decode cX1_drop 60 = .ok (.iaload, 1) := by decide +kernel
theorem dX1_drop_61 : decode cX1_drop 61 = .ok (.iastore, 1) := by decide +kernel
theorem dX1_drop_62 : decode cX1_drop 62 = .ok (.aload_n 0, 1) := by decide +kernel
theorem dX1_drop_63 : decode cX1_drop 63 = .ok (.getfield 25, 3) := by decide +kernel
theorem dX1_drop_66 : decode cX1_drop 66 = .ok (.iload_n 2, 1) := by decide +kernel
theorem dX1_drop_67 : decode cX1_drop 67 = .ok (.aload_n 0, 1) := by decide +kernel
theorem dX1_drop_68 : decode cX1_drop 68 = .ok (.getfield 25, 3) := by decide +kernel
theorem dX1_drop_71 : decode cX1_drop 71 = .ok (.iload_n 2, 1) := by decide +kernel
theorem dX1_drop_72 : decode cX1_drop 72 = .ok (.iconst 1, 1) := by decide +kernel
theorem dX1_drop_73 : decode cX1_drop 73 = .ok (.iadd, 1) := by decide +kernel
theorem dX1_drop_74 : decode cX1_drop 74 = .ok (.iaload, 1) := by decide +kernel
theorem dX1_drop_75 : decode cX1_drop 75 = .ok (.iastore, 1) := by decide +kernel
theorem dX1_drop_76 : decode cX1_drop 76 = .ok (.iinc 2 1, 3) := by decide +kernel
theorem dX1_drop_79 : decode cX1_drop 79 = .ok (.goto (-67), 3) := by decide +kernel
theorem dX1_drop_82 : decode cX1_drop 82 = .ok (.return_, 1) := by decide +kernel
theorem dX1_sink_0 : decode cX1_sink 0 = .ok (.iconst 0, 1) := by decide +kernel
theorem dX1_sink_1 : decode cX1_sink 1 = .ok (.istore_n 1, 1) := by decide +kernel
theorem dX1_sink_2 : decode cX1_sink 2 = .ok (.iload_n 1, 1) := by decide +kernel
theorem dX1_sink_3 : decode cX1_sink 3 = .ok (.iconst 1, 1) := by decide +kernel
theorem dX1_sink_4 : decode cX1_sink 4 = .ok (.iadd, 1) := by decide +kernel
theorem dX1_sink_5 : decode cX1_sink 5 = .ok (.aload_n 0, 1) := by decide +kernel
theorem dX1_sink_6 : decode cX1_sink 6 = .ok (.getfield 44, 3) := by decide +kernel
theorem dX1_sink_9 : decode cX1_sink 9 = .ok (.if_icmp .ge 37, 3) := by decide +kernel
theorem dX1_sink_12 : decode cX1_sink 12 = .ok (.aload_n 0, 1) := by decide +kernel
theorem dX1_sink_13 : decode cX1_sink 13 = .ok (.getfield 9, 3) := by decide +kernel
theorem dX1_sink_16 : decode cX1_sink 16 = .ok (.iload_n 1, 1) := by decide +kernel
theorem dX1_sink_17 : decode cX1_sink 17 = .ok (.aload_n 0, 1) := by decide +kernel
theorem dX1_sink_18 : decode cX1_sink 18 = .ok (.getfield 9, 3) := by decide +kernel
theorem dX1_sink_21 : decode cX1_sink 21 = .ok (.iload_n 1, 1) := by decide +kernel
theorem dX1_sink_22 : decode cX1_sink 22 = .ok (.iconst 1, 1) := by decide +kernel
theorem dX1_sink_23 : decode cX1_sink 23 = .ok (.iadd, 1) := by decide +kernel
theorem dX1_sink_24 : decode cX1_sink 24 = .ok (.iaload, 1) := by decide +kernel
theorem dX1_sink_25 : decode cX1_sink 25 = .ok (.iastore, 1) := by decide +kernel
theorem dX1_sink_26 : decode cX1_sink 26 = .ok (.aload_n 0, 1) := by decide +kernel
theorem dX1_sink_27 : decode cX1_sink 27 = .ok (.getfield 13, 3) := by decide +kernel
theorem dX1_sink_30 : decode cX1_sink 30 = .ok (.iload_n 1, 1) := by decide +kernel
theorem dX1_sink_31 : decode cX1_sink 31 = .ok (.aload_n 0, 1) := by decide +kernel
theorem dX1_sink_32 : decode cX1_sink 32 = .ok (.getfield 13, 3) := by decide +kernel
theorem dX1_sink_35 : decode cX1_sink 35 = .ok (.iload_n 1, 1) := by decide +kernel
theorem dX1_sink_36 : decode cX1_sink 36 = .ok (.iconst 1, 1) := by decide +kernel
theorem dX1_sink_37 : decode cX1_sink 37 = .ok (.iadd, 1) := by decide +kernel
theorem dX1_sink_38 : decode cX1_sink 38 = .ok (.iaload, 1) := by decide +kernel
theorem dX1_sink_39 : decode cX1_sink 39 = .ok (.iastore, 1) := by decide +kernel
theorem dX1_sink_40 : decode cX1_sink 40 = .ok (.iinc 1 1, 3) := by decide +kernel
theorem dX1_sink_43 : decode cX1_sink 43 = .ok (.goto (-41), 3) := by decide +kernel
theorem dX1_sink_46 : decode cX1_sink 46 = .ok (.iconst 0, 1) := by decide +kernel
theorem dX1_sink_47 : decode cX1_sink 47 = .ok (.istore_n 1, 1) := by decide +kernel
theorem dX1_sink_48 : decode cX1_sink 48 = .ok (.iload_n 1, 1) := by decide +kernel
theorem dX1_sink_49 : decode cX1_sink 49 = .ok (.aload_n 0, 1) := by decide +kernel
theorem dX1_sink_50 : decode cX1_sink 50 = .ok (.getfield 55, 3) := by decide +kernel
theorem dX1_sink_53 : decode cX1_sink 53 = .ok (.if_icmp .ge 38, 3) := by decide +kernel
theorem dX1_sink_56 : decode cX1_sink 56 = .ok (.aload_n 0, 1) := by decide +kernel
theorem dX1_sink_57 : decode cX1_sink 57 = .ok (.getfield 16, 3) := by decide +kernel
theorem dX1_sink_60 : decode cX1_sink 60 = .ok (.iload_n 1, 1) := by decide +kernel
theorem dX1_sink_61 : decode cX1_sink 61 = .ok (.iaload, 1) := by decide +kernel
theorem dX1_sink_62 : decode cX1_sink 62 = .ok (.ifCond .le 13, 3) := by decide +kernel
theorem dX1_sink_65 : decode cX1_sink 65 = .ok (.aload_n 0, 1) := by decide +kernel
theorem dX1_sink_66 : decode cX1_sink 66 = .ok (.getfield 16, 3) := by decide +kernel
theorem dX1_sink_69 : decode cX1_sink 69 = .ok (.iload_n 1, 1) := by decide +kernel
theorem dX1_sink_70 : decode cX1_sink 70 = .ok (.dup2, 1) := by decide +kernel
theorem dX1_sink_71 : decode cX1_sink 71 = .ok (.iaload, 1) := by decide +kernel
theorem dX1_sink_72 : decode cX1_sink 72 = .ok (.iconst 1, 1) := by decide +kernel
theorem dX1_sink_73 : decode cX1_sink 73 = .ok (.isub, 1) := by decide +kernel
theorem dX1_sink_74 : decode cX1_sink 74 = .ok (.iastore, 1) := by decide +kernel
theorem dX1_sink_75 : decode cX1_sink 75 = .ok (.aload_n 0, 1) := by decide +kernel
theorem dX1_sink_76 : decode cX1_sink 76 = .ok (.getfield 19, 3) := by decide +kernel
theorem dX1_sink_79 : decode cX1_sink 79 = .ok (.iload_n 1, 1) := by decide +kernel
theorem dX1_sink_80 : decode cX1_sink 80 = .ok (.dup2, 1) := by decide +kernel
theorem dX1_sink_81 : decode cX1_sink 81 = .ok (.iaload, 1) := by decide +kernel
theorem dX1_sink_82 : decode cX1_sink 82 = .ok (.iconst 1, 1) := by decide +kernel
theorem dX1_sink_83 : decode cX1_sink 83 = .ok (.isub, 1) := by decide +kernel
theorem dX1_sink_84 : decode cX1_sink 84 = .ok (.iastore, 1) := by decide +kernel
theorem dX1_sink_85 : decode cX1_sink 85 = .ok (.iinc 1 1, 3) := by decide +kernel
theorem dX1_sink_88 : decode cX1_sink 88 = .ok (.goto (-40), 3) := by decide +kernel
theorem dX1_sink_91 : decode cX1_sink 91 = .ok (.return_, 1) := by decide +kernel
set_option maxRecDepth 20000 in
theorem ggX1_out_X1_drop : GoodIn wsX1_out wsX1_drop := goodIn_r _ [14, 5, 6, 7, 8, 15, 21, 22, 23, 24, 25, 26, 27, 28, 29, 30, 31, 32, 33, 34, 35, 36] (by decide +kernel) (by decide +kernel)
set_option maxRecDepth 20000 in
theorem gX1_out_X1_drop : GoodIn wsX1_out (wsV RX1 102 RX1 yX1_drop wsX1_drop) := goodIn_app (goodIn_of _ (by decide +kernel)) ggX1_out_X1_drop
set_option maxRecDepth 20000 in
theorem ggX1_out_X1_sink : GoodIn wsX1_out wsX1_sink := goodIn_r _ [19, 9, 20, 1, 5, 6, 7, 21, 22, 23, 24, 25, 26, 27, 28, 29, 30, 31, 32, 33, 34, 35, 36] (by decide +kernel) (by decide +kernel)
set_option maxRecDepth 20000 in
theorem gX1_out_X1_sink : GoodIn wsX1_out (wsV RX1 106 RX1 yX1_sink wsX1_sink) := goodIn_app (goodIn_of _ (by decide +kernel)) ggX1_out_X1_sink
theorem dX1_out_0 : decode cX1_out 0 = .ok (.aload_n 0, 1) := by decide +kernel
theorem dX1_out_1 : decode cX1_out 1 = .ok (.getfield 13, 3) := by decide +kernel
theorem dX1_out_4 : decode cX1_out 4 = .ok (.iconst 0, 1) := by decide +kernel
theorem dX1_out_5 : decode cX1_out 5 = .ok (.iaload, 1) := by decide +kernel
theorem dX1_out_6 : decode cX1_out 6 = .ok (.istore_n 1, 1) := by decide +kernel
theorem dX1_out_7 : decode cX1_out 7 = .ok (.iload_n 1, 1) := by decide +kernel
theorem dX1_out_8 : decode cX1_out 8 = .ok (.aload_n 0, 1) := by decide +kernel
theorem dX1_out_9 : decode cX1_out 9 = .ok (.getfield 28, 3) := by decide +kernel
theorem dX1_out_12 : decode cX1_out 12 = .ok (.if_icmp .le 16, 3) := by decide +kernel
theorem dX1_out_15 : decode cX1_out 15 = .ok (.aload_n 0, 1) := by decide +kernel
theorem dX1_out_16 : decode cX1_out 16 = .ok (.dup, 1) := by decide +kernel
theorem dX1_out_17 : decode cX1_out 17 = .ok (.getfield 96, 3) := by decide +kernel
theorem dX1_out_20 : decode cX1_out 20 = .ok (.iconst 1, 1) := by decide +kernel
theorem dX1_out_21 : decode cX1_out 21 = .ok (.iadd, 1) := by decide +kernel
theorem dX1_out_22 : decode cX1_out 22 = .ok (.putfield 96, 3) := by decide +kernel
theorem dX1_out_25 : decode cX1_out 25 = .ok (.goto 13, 3) := by decide +kernel
theorem dX1_out_28 : decode cX1_out 28 = .ok (.aload_n 0, 1) := by decide +kernel
theorem dX1_out_29 : decode cX1_out 29 = .ok (.dup, 1) := by decide +kernel
theorem dX1_out_30 : decode cX1_out 30 = .ok (.getfield 99, 3) := by decide +kernel
theorem dX1_out_33 : decode cX1_out 33 = .ok (.iconst 1, 1) := by decide +kernel
theorem dX1_out_34 : decode cX1_out 34 = .ok (.iadd, 1) := by decide +kernel
theorem dX1_out_35 : decode cX1_out 35 = .ok (.putfield 99, 3) := by decide +kernel
theorem dX1_out_38 : decode cX1_out 38 = .ok (.aload_n 0, 1) := by decide +kernel
theorem dX1_out_39 : decode cX1_out 39 = .ok (.getfield 55, 3) := by decide +kernel
theorem dX1_out_42 : decode cX1_out 42 = .ok (.iconst 1, 1) := by decide +kernel
theorem dX1_out_43 : decode cX1_out 43 = .ok (.isub, 1) := by decide +kernel
theorem dX1_out_44 : decode cX1_out 44 = .ok (.istore_n 2, 1) := by decide +kernel
theorem dX1_out_45 : decode cX1_out 45 = .ok (.iload_n 2, 1) := by decide +kernel
theorem dX1_out_46 : decode cX1_out 46 = .ok (.ifCond .lt 48, 3) := by decide +kernel
theorem dX1_out_49 : decode cX1_out 49 = .ok (.aload_n 0, 1) := by decide +kernel
theorem dX1_out_50 : decode cX1_out 50 = .ok (.getfield 16, 3) := by decide +kernel
theorem dX1_out_53 : decode cX1_out 53 = .ok (.iload_n 2, 1) := by decide +kernel
theorem dX1_out_54 : decode cX1_out 54 = .ok (.iaload, 1) := by decide +kernel
theorem dX1_out_55 : decode cX1_out 55 = .ok (.ifCond .le 6, 3) := by decide +kernel
theorem dX1_out_58 : decode cX1_out 58 = .ok (.goto 30, 3) := by decide +kernel
theorem dX1_out_61 : decode cX1_out 61 = .ok (.aload_n 0, 1) := by decide +kernel
theorem dX1_out_62 : decode cX1_out 62 = .ok (.getfield 19, 3) := by decide +kernel
theorem dX1_out_65 : decode cX1_out 65 = .ok (.iload_n 2, 1) := by decide +kernel
theorem dX1_out_66 : decode cX1_out 66 = .ok (.iaload, 1) := by decide +kernel
theorem dX1_out_67 : decode cX1_out 67 = .ok (.ifCond .ne 11, 3) := by decide +kernel
theorem dX1_out_70 : decode cX1_out 70 = .ok (.aload_n 0, 1) := by decide +kernel
theorem dX1_out_71 : decode cX1_out 71 = .ok (.iload_n 2, 1) := by decide +kernel
theorem dX1_out_72 : decode cX1_out 72 = .ok (.invokevirtual 102, 3) := by decide +kernel
theorem dX1_out_75 : decode cX1_out 75 = .ok (.goto 13, 3) := by decide +kernel
theorem dX1_out_78 : decode cX1_out 78 = .ok (.aload_n 0, 1) := by decide +kernel
theorem dX1_out_79 : decode cX1_out 79 = .ok (.getfield 22, 3) := by decide +kernel
theorem dX1_out_82 : decode cX1_out 82 = .ok (.iload_n 2, 1) := by decide +kernel
theorem dX1_out_83 : decode cX1_out 83 = .ok (.dup2, 1) := by decide +kernel
theorem dX1_out_84 : decode cX1_out 84 = .ok (.iaload, 1) := by decide +kernel
theorem dX1_out_85 : decode cX1_out 85 = .ok (.iload_n 1, 1) := by decide +kernel
theorem dX1_out_86 : decode cX1_out 86 = .ok (.isub, 1) := by decide +kernel
theorem dX1_out_87 : decode cX1_out 87 = .ok (.iastore, 1) := by decide +kernel
theorem dX1_out_88 : decode cX1_out 88 = .ok (.iinc 2 (-1), 3) := by decide +kernel
theorem dX1_out_91 : decode cX1_out 91 = .ok (.goto (-46), 3) := by decide +kernel
theorem dX1_out_94 : decode cX1_out 94 = .ok (.aload_n 0, 1) := by decide +kernel
theorem dX1_out_95 : decode cX1_out 95 = .ok (.invokevirtual 106, 3) := by decide +kernel
theorem dX1_out_98 : decode cX1_out 98 = .ok (.aload_n 0, 1) := by decide +kernel
theorem dX1_out_99 : decode cX1_out 99 = .ok (.dup, 1) := by decide +kernel
theorem dX1_out_100 : decode cX1_out 100 = .ok (.getfield 44, 3) := by decide +kernel
theorem dX1_out_103 : decode cX1_out 103 = .ok (.iconst 1, 1) := by decide +kernel
theorem dX1_out_104 : decode cX1_out 104 = .ok (.isub, 1) := by decide +kernel
theorem dX1_out_105 : decode cX1_out 105 = .ok (.putfield 44, 3) := by decide +kernel
theorem dX1_out_108 : decode cX1_out 108 = .ok (.iload_n 1, 1) := by decide +kernel
theorem dX1_out_109 : decode cX1_out 109 = .ok (.ireturn, 1) := by decide +kernel
set_option maxRecDepth 20000 in
theorem ggX1_letOut_X1_no : GoodIn wsX1_letOut wsX1_no := goodIn_r _ [7, 1, 30, 31, 32, 33, 34, 35, 36, 37, 38, 39, 40, 41, 42, 43, 44, 45] (by decide +kernel) (by decide +kernel)
set_option maxRecDepth 20000 in
theorem gX1_letOut_X1_no : GoodIn wsX1_letOut (wsV RX1 92 RX1 yX1_no wsX1_no) := goodIn_app (goodIn_of _ (by decide +kernel)) ggX1_letOut_X1_no
set_option maxRecDepth 20000 in
theorem ggX1_letOut_X1_out : GoodIn wsX1_letOut wsX1_out := goodIn_r _ [11, 12, 13, 14, 15, 16, 17, 18, 19, 2, 20, 21, 22, 6, 23, 24, 25, 26, 27, 28, 29, 30, 31, 32, 33, 34, 35, 36, 37, 38, 39, 40, 41, 42, 43, 44, 45] (by decide +kernel) (by decide +kernel)
set_option maxRecDepth 20000 in
theorem gX1_letOut_X1_out : GoodIn wsX1_letOut (wsV RX1 109 RX1 yX1_out wsX1_out) := goodIn_app (goodIn_of _ (by decide +kernel)) ggX1_letOut_X1_out
theorem dX1_letOut_0 : decode cX1_letOut 0 = .ok (.aload_n 0, 1) := by decide +kernel
theorem dX1_letOut_1 : decode cX1_letOut 1 = .ok (.iconst 0, 1) := by decide +kernel
theorem dX1_letOut_2 : decode cX1_letOut 2 = .ok (.putfield 41, 3) := by decide +kernel
theorem dX1_letOut_5 : decode cX1_letOut 5 = .ok (.aload_n 0, 1) := by decide +kernel
theorem dX1_letOut_6 : decode cX1_letOut 6 = .ok (.getfield 44, 3) := by decide +kernel
theorem dX1_letOut_9 : decode cX1_letOut 9 = .ok (.ifCond .ne 11, 3) := by decide +kernel
theorem dX1_letOut_12 : decode cX1_letOut 12 = .ok (.aload_n 0, 1) := by decide +kernel
theorem dX1_letOut_13 : decode cX1_letOut 13 = .ok (.iconst 1, 1) := by decide +kernel
theorem dX1_letOut_14 : decode cX1_letOut 14 = .ok (.invokevirtual 92, 3) := by decide +kernel
theorem dX1_letOut_17 : decode cX1_letOut 17 = .ok (.goto 7, 3) := by decide +kernel
theorem dX1_letOut_20 : decode cX1_letOut 20 = .ok (.aload_n 0, 1) := by decide +kernel
theorem dX1_letOut_21 : decode cX1_letOut 21 = .ok (.invokevirtual 109, 3) := by decide +kernel
theorem dX1_letOut_24 : decode cX1_letOut 24 = .ok (.ireturn, 1) := by decide +kernel
set_option maxRecDepth 20000 in
theorem ggX1_turnOver_X1_no : GoodIn wsX1_turnOver wsX1_no := goodIn_r _ [11, 1, 23, 24, 25, 26, 27, 28, 29, 30, 31, 32, 33, 34, 35, 36, 37, 38] (by decide +kernel) (by decide +kernel)
set_option maxRecDepth 20000 in
theorem gX1_turnOver_X1_no : GoodIn wsX1_turnOver (wsV RX1 92 RX1 yX1_no wsX1_no) := goodIn_app (goodIn_of _ (by decide +kernel)) ggX1_turnOver_X1_no
set_option maxRecDepth 20000 in
theorem ggX1_turnOver_X1_drop : GoodIn wsX1_turnOver wsX1_drop := goodIn_r _ [15, 5, 6, 16, 17, 18, 23, 24, 25, 26, 27, 28, 29, 30, 31, 32, 33, 34, 35, 36, 37, 38] (by decide +kernel) (by decide +kernel)
set_option maxRecDepth 20000 in
theorem gX1_turnOver_X1_drop : GoodIn wsX1_turnOver (wsV RX1 102 RX1 yX1_drop wsX1_drop) := goodIn_app (goodIn_of _ (by decide +kernel)) ggX1_turnOver_X1_drop
set_option maxRecDepth 20000 in
theorem ggX1_turnOver_X1_sink : GoodIn wsX1_turnOver wsX1_sink := goodIn_r _ [22, 2, 4, 3, 5, 6, 16, 23, 24, 25, 26, 27, 28, 29, 30, 31, 32, 33, 34, 35, 36, 37, 38] (by decide +kernel) (by decide +kernel)
set_option maxRecDepth 20000 in
theorem gX1_turnOver_X1_sink : GoodIn wsX1_turnOver (wsV RX1 106 RX1 yX1_sink wsX1_sink) := goodIn_app (goodIn_of _ (by decide +kernel)) ggX1_turnOver_X1_sink
theorem dX1_turnOver_0 : decode cX1_turnOver 0 = .ok (.aload_n 0, 1) := by decide +kernel
theorem dX1_turnOver_1 : decode cX1_turnOver 1 = .ok (.iconst 0, 1) := by decide +kernel
theorem dX1_turnOver_2 : decode cX1_turnOver 2 = .ok (.putfield 41, 3) := by decide +kernel
theorem dX1_turnOver_5 : decode cX1_turnOver 5 = .ok (.aload_n 0, 1) := by decide +kernel
theorem dX1_turnOver_6 : decode cX1_turnOver 6 = .ok (.getfield 44, 3) := by decide +kernel
theorem dX1_turnOver_9 : decode cX1_turnOver 9 = .ok (.iconst 2, 1) := by decide +kernel
theorem dX1_turnOver_10 : decode cX1_turnOver 10 = .ok (.if_icmp .ge 9, 3) := by decide +kernel
theorem dX1_turnOver_13 : decode cX1_turnOver 13 = .ok (.aload_n 0, 1) := by decide +kernel
theorem dX1_turnOver_14 : decode cX1_turnOver 14 = .ok (.iconst 1, 1) := by decide +kernel
theorem dX1_turnOver_15 : decode cX1_turnOver 15 = .ok (.invokevirtual 92, 3) := by decide +kernel
theorem dX1_turnOver_18 : decode cX1_turnOver 18 = .ok (.ireturn, 1) := by decide +kernel
theorem dX1_turnOver_19 : decode cX1_turnOver 19 = .ok (.aload_n 0, 1) := by decide +kernel
theorem dX1_turnOver_20 : decode cX1_turnOver 20 = .ok (.getfield 13, 3) := by decide +kernel
theorem dX1_turnOver_23 : decode cX1_turnOver 23 = .ok (.iconst 0, 1) := by decide +kernel
theorem dX1_turnOver_24 : decode cX1_turnOver 24 = .ok (.iaload, 1) := by decide +kernel
theorem dX1_turnOver_25 : decode cX1_turnOver 25 = .ok (.istore_n 1, 1) := by decide +kernel
theorem dX1_turnOver_26 : decode cX1_turnOver 26 = .ok (.aload_n 0, 1) := by decide +kernel
theorem dX1_turnOver_27 : decode cX1_turnOver 27 = .ok (.getfield 9, 3) := by decide +kernel
theorem dX1_turnOver_30 : decode cX1_turnOver 30 = .ok (.iconst 0, 1) := by decide +kernel
theorem dX1_turnOver_31 : decode cX1_turnOver 31 = .ok (.iaload, 1) := by decide +kernel
theorem dX1_turnOver_32 : decode cX1_turnOver 32 = .ok (.istore_n 2, 1) := by decide +kernel
theorem dX1_turnOver_33 : decode cX1_turnOver 33 = .ok (.aload_n 0, 1) := by decide +kernel
theorem dX1_turnOver_34 : decode cX1_turnOver 34 = .ok (.getfield 55, 3) := by decide +kernel
theorem dX1_turnOver_37 : decode cX1_turnOver 37 = .ok (.istore_n 3, 1) := by decide +kernel
theorem dX1_turnOver_38 : decode cX1_turnOver 38 = .ok (.aload_n 0, 1) := by decide +kernel
theorem dX1_turnOver_39 : decode cX1_turnOver 39 = .ok (.getfield 55, 3) := by decide +kernel
theorem dX1_turnOver_42 : decode cX1_turnOver 42 = .ok (.iconst 1, 1) := by decide +kernel
theorem dX1_turnOver_43 : decode cX1_turnOver 43 = .ok (.isub, 1) := by decide +kernel
theorem dX1_turnOver_44 : decode cX1_turnOver 44 = .ok (.istore 4, 2) := by decide +kernel
theorem dX1_turnOver_46 : decode cX1_turnOver 46 = .ok (.iload 4, 2) := by decide +kernel
theorem dX1_turnOver_48 : decode cX1_turnOver 48 = .ok (.ifCond .lt 25, 3) := by decide +kernel
theorem dX1_turnOver_51 : decode cX1_turnOver 51 = .ok (.aload_n 0, 1) := by decide +kernel
theorem dX1_turnOver_52 : decode cX1_turnOver 52 = .ok (.getfield 16, 3) := by decide +kernel
theorem dX1_turnOver_55 : decode cX1_turnOver 55 = .ok (.iload 4, 2) := by decide +kernel
theorem dX1_turnOver_57 : decode cX1_turnOver 57 = .ok (.iaload, 1) := by decide +kernel
theorem dX1_turnOver_58 : decode cX1_turnOver 58 = .ok (.ifCond .ne 9, 3) := by decide +kernel
theorem dX1_turnOver_61 : decode cX1_turnOver 61 = .ok (.aload_n 0, 1) := by decide +kernel
theorem dX1_turnOver_62 : decode cX1_turnOver 62 = .ok (.iload 4, 2) := by decide +kernel
theorem dX1_turnOver_64 : decode cX1_turnOver 64 = .ok (.invokevirtual 102, 3) := by decide +kernel
theorem dX1_turnOver_67 : decode cX1_turnOver 67 = .ok (.iinc 4 (-1), 3) := by decide +kernel
theorem dX1_turnOver_70 : decode cX1_turnOver 70 = .ok (.goto (-24), 3) := by decide +kernel
theorem dX1_turnOver_73 : decode cX1_turnOver 73 = .ok (.aload_n 0, 1) := by decide +kernel
theorem dX1_turnOver_74 : decode cX1_turnOver 74 = .ok (.invokevirtual 106, 3) := by decide +kernel
theorem dX1_turnOver_77 : decode cX1_turnOver 77 = .ok (.aload_n 0, 1) := by decide +kernel
theorem dX1_turnOver_78 : decode cX1_turnOver 78 = .ok (.getfield 13, 3) := by decide +kernel
theorem dX1_turnOver_81 : decode cX1_turnOver 81 = .ok (.aload_n 0, 1) := by decide +kernel
theorem dX1_turnOver_82 : decode cX1_turnOver 82 = .ok (.getfield 44, 3) := by decide +kernel
theorem dX1_turnOver_85 : decode cX1_turnOver 85 = .ok (.iconst 1, 1) := by decide +kernel
theorem dX1_turnOver_86 : decode cX1_turnOver 86 = .ok (.isub, 1) := by decide +kernel
theorem dX1_turnOver_87 : decode cX1_turnOver 87 = .ok (.iload_n 1, 1) := by decide +kernel
theorem dX1_turnOver_88 : decode cX1_turnOver 88 = .ok (.iastore, 1) := by decide +kernel
theorem dX1_turnOver_89 : decode cX1_turnOver 89 = .ok (.aload_n 0, 1) := by decide +kernel
theorem dX1_turnOver_90 : decode cX1_turnOver 90 = .ok (.getfield 9, 3) := by decide +kernel
theorem dX1_turnOver_93 : decode cX1_turnOver 93 = .ok (.aload_n 0, 1) := by decide +kernel
theorem dX1_turnOver_94 : decode cX1_turnOver 94 = .ok (.getfield 44, 3) := by decide +kernel
theorem dX1_turnOver_97 : decode cX1_turnOver 97 = .ok (.iconst 1, 1) := by decide +kernel
theorem dX1_turnOver_98 : decode cX1_turnOver 98 = .ok (.isub, 1) := by decide +kernel
theorem dX1_turnOver_99 : decode cX1_turnOver 99 = .ok (.iload_n 2, 1) := by decide +kernel
theorem dX1_turnOver_100 : decode cX1_turnOver 100 = .ok (.iastore, 1) := by decide +kernel
theorem dX1_turnOver_101 : decode cX1_turnOver 101 = .ok (.iload_n 3, 1) := by decide +kernel
theorem dX1_turnOver_102 : decode cX1_turnOver 102 = .ok (.aload_n 0, 1) := by decide +kernel
theorem dX1_turnOver_103 : decode cX1_turnOver 103 = .ok (.getfield 55, 3) := by decide +kernel
theorem dX1_turnOver_106 : decode cX1_turnOver 106 = .ok (.isub, 1) := by decide +kernel
theorem dX1_turnOver_107 : decode cX1_turnOver 107 = .ok (.ireturn, 1) := by decide +kernel
set_option maxRecDepth 20000 in
theorem ggX1_setLimit_X1_isIn : GoodIn wsX1_setLimit wsX1_isIn := goodIn_r _ [6] (by decide +kernel) (by decide +kernel)
set_option maxRecDepth 20000 in
theorem gX1_setLimit_X1_isIn : GoodIn wsX1_setLimit (va_wsS RX1 47 yX1_isIn wsX1_isIn) := goodIn_app (goodIn_of _ (by decide +kernel)) ggX1_setLimit_X1_isIn
set_option maxRecDepth 20000 in
theorem ggX1_setLimit_X1_no : GoodIn wsX1_setLimit wsX1_no := goodIn_r _ [10, 1, 11, 12, 13, 14, 15, 16, 17, 18, 19, 20, 21, 22, 23, 24, 25, 26] (by decide +kernel) (by decide +kernel)
set_option maxRecDepth 20000 in
theorem gX1_setLimit_X1_no : GoodIn wsX1_setLimit (wsV RX1 92 RX1 yX1_no wsX1_no) := goodIn_app (goodIn_of _ (by decide +kernel)) ggX1_setLimit_X1_no
theorem dX1_setLimit_0 : decode cX1_setLimit 0 = .ok (.aload_n 0, 1) := by decide +kernel
theorem dX1_setLimit_1 : decode cX1_setLimit 1 = .ok (.iconst 0, 1) := by decide +kernel
theorem dX1_setLimit_2 : decode cX1_setLimit 2 = .ok (.putfield 41, 3) := by decide +kernel
theorem dX1_setLimit_5 : decode cX1_setLimit 5 = .ok (.iload_n 1, 1) := by decide +kernel
theorem dX1_setLimit_6 : decode cX1_setLimit 6 = .ok (.iconst 0, 1) := by decide +kernel
theorem dX1_setLimit_7 : decode cX1_setLimit 7 = .ok (.bipush 40, 2) := by decide +kernel
theorem dX1_setLimit_9 : decode cX1_setLimit 9 = .ok (.invokestatic 47, 3) := by decide +kernel
theorem dX1_setLimit_12 : decode cX1_setLimit 12 = .ok (.ifCond .ne 9, 3) := by decide +kernel
theorem dX1_setLimit_15 : decode cX1_setLimit 15 = .ok (.aload_n 0, 1) := by decide +kernel
theorem dX1_setLimit_16 : decode cX1_setLimit 16 = .ok (.iconst 1, 1) := by decide +kernel
theorem dX1_setLimit_17 : decode cX1_setLimit 17 = .ok (.invokevirtual 92, 3) := by decide +kernel
theorem dX1_setLimit_20 : decode cX1_setLimit 20 = .ok (.ireturn, 1) := by decide +kernel
theorem dX1_setLimit_21 : decode cX1_setLimit 21 = .ok (.aload_n 0, 1) := by decide +kernel
theorem dX1_setLimit_22 : decode cX1_setLimit 22 = .ok (.getfield 28, 3) := by decide +kernel
theorem dX1_setLimit_25 : decode cX1_setLimit 25 = .ok (.istore_n 2, 1) := by decide +kernel
theorem dX1_setLimit_26 : decode cX1_setLimit 26 = .ok (.aload_n 0, 1) := by decide +kernel
theorem dX1_setLimit_27 : decode cX1_setLimit 27 = .ok (.iload_n 1, 1) := by decide +kernel
theorem dX1_setLimit_28 : decode cX1_setLimit 28 = .ok (.putfield 28, 3) := by decide +kernel
theorem dX1_setLimit_31 : decode cX1_setLimit 31 = .ok (.iload_n 2, 1) := by decide +kernel
theorem dX1_setLimit_32 : decode cX1_setLimit 32 = .ok (.ireturn, 1) := by decide +kernel
set_option maxRecDepth 20000 in
theorem ggX1_towards_X1_isLayer : GoodIn wsX1_towards wsX1_isLayer := goodIn_r _ [6, 7, 8, 9, 5, 10, 11, 12, 13, 14, 15, 16, 17, 18, 19, 20, 21, 22, 23, 24, 25, 26] (by decide +kernel) (by decide +kernel)
set_option maxRecDepth 20000 in
theorem gX1_towards_X1_isLayer : GoodIn wsX1_towards (wsV RX1 51 RX1 yX1_isLayer wsX1_isLayer) := goodIn_app (goodIn_of _ (by decide +kernel)) ggX1_towards_X1_isLayer
theorem dX1_towards_0 : decode cX1_towards 0 = .ok (.aload_n 0, 1) := by decide +kernel
theorem dX1_towards_1 : decode cX1_towards 1 = .ok (.iload_n 2, 1) := by decide +kernel
theorem dX1_towards_2 : decode cX1_towards 2 = .ok (.invokevirtual 51, 3) := by decide +kernel
theorem dX1_towards_5 : decode cX1_towards 5 = .ok (.ifCond .ne 5, 3) := by decide +kernel
theorem dX1_towards_8 : decode cX1_towards 8 = .ok (.iconst 0, 1) := by decide +kernel
theorem dX1_towards_9 : decode cX1_towards 9 = .ok (.ireturn, 1) := by decide +kernel
theorem dX1_towards_10 : decode cX1_towards 10 = .ok (.aload_n 0, 1) := by decide +kernel
theorem dX1_towards_11 : decode cX1_towards 11 = .ok (.getfield 13, 3) := by decide +kernel
theorem dX1_towards_14 : decode cX1_towards 14 = .ok (.iload_n 2, 1) := by decide +kernel
theorem dX1_towards_15 : decode cX1_towards 15 = .ok (.iaload, 1) := by decide +kernel
theorem dX1_towards_16 : decode cX1_towards 16 = .ok (.aload_n 0, 1) := by decide +kernel
theorem dX1_towards_17 : decode cX1_towards 17 = .ok (.getfield 13, 3) := by decide +kernel
theorem dX1_towards_20 : decode cX1_towards 20 = .ok (.iload_n 1, 1) := by decide +kernel
theorem dX1_towards_21 : decode cX1_towards 21 = .ok (.iaload, 1) := by decide +kernel
theorem dX1_towards_22 : decode cX1_towards 22 = .ok (.isub, 1) := by decide +kernel
theorem dX1_towards_23 : decode cX1_towards 23 = .ok (.istore_n 3, 1) := by decide +kernel
theorem dX1_towards_24 : decode cX1_towards 24 = .ok (.iload_n 3, 1) := by decide +kernel
theorem dX1_towards_25 : decode cX1_towards 25 = .ok (.iconst 2, 1) := by decide +kernel
theorem dX1_towards_26 : decode cX1_towards 26 = .ok (.if_icmp .lt 7, 3) := by decide +kernel
theorem dX1_towards_29 : decode cX1_towards 29 = .ok (.iconst 1, 1) := by decide +kernel
theorem dX1_towards_30 : decode cX1_towards 30 = .ok (.goto 14, 3) := by decide +kernel
theorem dX1_towards_33 : decode cX1_towards 33 = .ok (.iload_n 3, 1) := by decide +kernel
theorem dX1_towards_34 : decode cX1_towards 34 = .ok (.bipush (-2), 2) := by decide +kernel
theorem dX1_towards_36 : decode cX1_towards 36 = .ok (.if_icmp .gt 7, 3) := by decide +kernel
theorem dX1_towards_39 : decode cX1_towards 39 = .ok (.iconst (-1), 1) := by decide +kernel
theorem dX1_towards_40 : decode cX1_towards 40 = .ok (.goto 4, 3) := by decide +kernel
theorem dX1_towards_43 : decode cX1_towards 43 = .ok (.iconst 0, 1) := by decide +kernel
theorem dX1_towards_44 : decode cX1_towards 44 = .ok (.ireturn, 1) := by decide +kernel
set_option maxRecDepth 20000 in
theorem ggX1_evenOut_X1_towards : GoodIn wsX1_evenOut wsX1_towards := goodIn_r _ [8, 3, 9, 10, 11, 7, 12, 1, 13, 14, 15, 20, 21, 22, 23, 24, 25, 26, 27, 28, 29, 30, 31, 32, 33, 34, 35] (by decide +kernel) (by decide +kernel)
set_option maxRecDepth 20000 in
theorem gX1_evenOut_X1_towards : GoodIn wsX1_evenOut (wsV RX1 112 RX1 yX1_towards wsX1_towards) := goodIn_app (goodIn_of _ (by decide +kernel)) ggX1_evenOut_X1_towards
set_option maxRecDepth 20000 in
theorem ggX1_evenOut_J6_signum_0f7a4 : GoodIn wsX1_evenOut wsJ6_signum_0f7a4 := goodIn_r _ [19] (by decide +kernel) (by decide +kernel)
set_option maxRecDepth 20000 in
theorem gX1_evenOut_J6_signum_0f7a4 : GoodIn wsX1_evenOut (va_wsS RX1 115 yJ6_signum_0f7a4 wsJ6_signum_0f7a4) := goodIn_app (goodIn_of _ (by decide +kernel)) ggX1_evenOut_J6_signum_0f7a4
theorem dX1_evenOut_0 : decode cX1_evenOut 0 = .ok (.iconst 0, 1) := by decide +kernel
theorem dX1_evenOut_1 : decode cX1_evenOut 1 = .ok (.istore_n 1, 1) := by decide +kernel
theorem dX1_evenOut_2 : decode cX1_evenOut 2 = .ok (.iconst 0, 1) := by decide +kernel
theorem dX1_evenOut_3 : decode cX1_evenOut 3 = .ok (.istore_n 2, 1) := by decide +kernel
theorem dX1_evenOut_4 : decode cX1_evenOut 4 = .ok (.iload_n 2, 1) := by decide +kernel
theorem dX1_evenOut_5 : decode cX1_evenOut 5 = .ok (.aload_n 0, 1) := by decide +kernel
theorem dX1_evenOut_6 : decode cX1_evenOut 6 = .ok (.getfield 44, 3) := by decide +kernel
theorem dX1_evenOut_9 : decode cX1_evenOut 9 = .ok (.if_icmp .ge 35, 3) := by decide +kernel
theorem dX1_evenOut_12 : decode cX1_evenOut 12 = .ok (.aload_n 0, 1) := by decide +kernel
theorem dX1_evenOut_13 : decode cX1_evenOut 13 = .ok (.getfield 38, 3) := by decide +kernel
theorem dX1_evenOut_16 : decode cX1_evenOut 16 = .ok (.iload_n 2, 1) := by decide +kernel
theorem dX1_evenOut_17 : decode cX1_evenOut 17 = .ok (.aload_n 0, 1) := by decide +kernel
theorem dX1_evenOut_18 : decode cX1_evenOut 18 = .ok (.iload_n 2, 1) := by decide +kernel
theorem dX1_evenOut_19 : decode cX1_evenOut 19 = .ok (.iload_n 2, 1) := by decide +kernel
theorem dX1_evenOut_20 : decode cX1_evenOut 20 = .ok (.iconst 1, 1) := by decide +kernel
theorem dX1_evenOut_21 : decode cX1_evenOut 21 = .ok (.isub, 1) := by decide +kernel
theorem dX1_evenOut_22 : decode cX1_evenOut 22 = .ok (.invokevirtual 112, 3) := by decide +kernel
theorem dX1_evenOut_25 : decode cX1_evenOut 25 = .ok (.aload_n 0, 1) := by decide +kernel
theorem dX1_evenOut_26 : decode cX1_evenOut 26 = .ok (.iload_n 2, 1) := by decide +kernel
theorem dX1_evenOut_27 : decode cX1_evenOut 27 = .ok (.iload_n 2, 1) := by decide +kernel
theorem dX1_evenOut_28 : decode cX1_evenOut 28 = .ok (.iconst 1, 1) := by decide +kernel
theorem dX1_evenOut_29 : decode cX1_evenOut 29 = .ok (.iadd, 1) := by decide +kernel
theorem dX1_evenOut_30 : decode cX1_evenOut 30 = .ok (.invokevirtual 112, 3) := by decide +kernel
theorem dX1_evenOut_33 : decode cX1_evenOut 33 = .ok (.iadd, 1) := by decide +kernel
theorem dX1_evenOut_34 : decode cX1_evenOut 34 = .ok (.invokestatic 115, 3) := by decide +kernel
theorem dX1_evenOut_37 : decode cX1_evenOut 37 = .ok (.iastore, 1) := by decide +kernel
theorem dX1_evenOut_38 : decode cX1_evenOut 38 = .ok (.iinc 2 1, 3) := by decide +kernel
theorem dX1_evenOut_41 : decode cX1_evenOut 41 = .ok (.goto (-37), 3) := by decide +kernel
theorem dX1_evenOut_44 : decode cX1_evenOut 44 = .ok (.iconst 0, 1) := by decide +kernel
theorem dX1_evenOut_45 : decode cX1_evenOut 45 = .ok (.istore_n 2, 1) := by decide +kernel
theorem dX1_evenOut_46 : decode cX1_evenOut 46 = .ok (.iload_n 2, 1) := by decide +kernel
theorem dX1_evenOut_47 : decode cX1_evenOut 47 = .ok (.aload_n 0, 1) := by decide +kernel
theorem dX1_evenOut_48 : decode cX1_evenOut 48 = .ok (.getfield 44, 3) := by decide +kernel
theorem dX1_evenOut_51 : decode cX1_evenOut 51 = .ok (.if_icmp .ge 41, 3) := by decide +kernel
theorem dX1_evenOut_54 : decode cX1_evenOut 54 = .ok (.aload_n 0, 1) := by decide +kernel
theorem dX1_evenOut_55 : decode cX1_evenOut 55 = .ok (.getfield 13, 3) := by decide +kernel
theorem dX1_evenOut_58 : decode cX1_evenOut 58 = .ok (.iload_n 2, 1) := by decide +kernel
theorem dX1_evenOut_59 : decode cX1_evenOut 59 = .ok (.dup2, 1) := by decide +kernel
theorem dX1_evenOut_60 : decode cX1_evenOut 60 = .ok (.iaload, 1) := by decide +kernel
theorem dX1_evenOut_61 : decode cX1_evenOut 61 = .ok (.aload_n 0, 1) := by decide +kernel
theorem dX1_evenOut_62 : decode cX1_evenOut 62 = .ok (.getfield 38, 3) := by decide +kernel
theorem dX1_evenOut_65 : decode cX1_evenOut 65 = .ok (.iload_n 2, 1) := by decide +kernel
theorem dX1_evenOut_66 : decode cX1_evenOut 66 = .ok (.iaload, 1) := by decide +kernel
theorem dX1_evenOut_67 : decode cX1_evenOut 67 = .ok (.iadd, 1) := by decide +kernel
theorem dX1_evenOut_68 : decode cX1_evenOut 68 = .ok (.iastore, 1) := by decide +kernel
theorem dX1_evenOut_69 : decode cX1_evenOut 69 = .ok (.iload_n 1, 1) := by decide +kernel
theorem dX1_evenOut_70 : decode cX1_evenOut 70 = .ok (.aload_n 0, 1) := by decide +kernel
theorem dX1_evenOut_71 : decode cX1_evenOut 71 = .ok (.getfield 38, 3) := by decide +kernel
theorem dX1_evenOut_74 : decode cX1_evenOut 74 = .ok (.iload_n 2, 1) := by decide +kernel
theorem dX1_evenOut_75 : decode cX1_evenOut 75 = .ok (.iaload, 1) := by decide +kernel
theorem dX1_evenOut_76 : decode cX1_evenOut 76 = .ok (.ifCond .ne 7, 3) := by decide +kernel
theorem dX1_evenOut_79 : decode cX1_evenOut 79 = .ok (.iconst 0, 1) := by decide +kernel
theorem dX1_evenOut_80 : decode cX1_evenOut 80 = .ok (.goto 4, 3) := by decide +kernel
theorem dX1_evenOut_83 : decode cX1_evenOut 83 = .ok (.iconst 1, 1) := by decide +kernel
theorem dX1_evenOut_84 : decode cX1_evenOut 84 = .ok (.iadd, 1) := by decide +kernel
theorem dX1_evenOut_85 : decode cX1_evenOut 85 = .ok (.istore_n 1, 1) := by decide +kernel
theorem dX1_evenOut_86 : decode cX1_evenOut 86 = .ok (.iinc 2 1, 3) := by decide +kernel
theorem dX1_evenOut_89 : decode cX1_evenOut 89 = .ok (.goto (-43), 3) := by decide +kernel
theorem dX1_evenOut_92 : decode cX1_evenOut 92 = .ok (.iload_n 1, 1) := by decide +kernel
theorem dX1_evenOut_93 : decode cX1_evenOut 93 = .ok (.ireturn, 1) := by decide +kernel
set_option maxRecDepth 20000 in
theorem ggX1_pass_X1_isIn : GoodIn wsX1_pass wsX1_isIn := goodIn_r _ [10] (by decide +kernel) (by decide +kernel)
set_option maxRecDepth 20000 in
theorem gX1_pass_X1_isIn : GoodIn wsX1_pass (va_wsS RX1 47 yX1_isIn wsX1_isIn) := goodIn_app (goodIn_of _ (by decide +kernel)) ggX1_pass_X1_isIn
set_option maxRecDepth 20000 in
theorem ggX1_pass_X1_no : GoodIn wsX1_pass wsX1_no := goodIn_r _ [14, 1, 34, 35, 36, 37, 38, 39, 40, 41, 42, 43, 44, 45, 46, 47, 48, 49] (by decide +kernel) (by decide +kernel)
set_option maxRecDepth 20000 in
theorem gX1_pass_X1_no : GoodIn wsX1_pass (wsV RX1 92 RX1 yX1_no wsX1_no) := goodIn_app (goodIn_of _ (by decide +kernel)) ggX1_pass_X1_no
set_option maxRecDepth 20000 in
theorem ggX1_pass_X1_evenOut : GoodIn wsX1_pass wsX1_evenOut := goodIn_r _ [18, 19, 20, 21, 22, 23, 24, 9, 25, 26, 27, 28, 29, 7, 8, 10, 30, 31, 32, 33, 34, 35, 36, 37, 38, 39, 40, 41, 42, 43, 44, 45, 46, 47, 48, 49] (by decide +kernel) (by decide +kernel)
set_option maxRecDepth 20000 in
theorem gX1_pass_X1_evenOut : GoodIn wsX1_pass (wsV RX1 120 RX1 yX1_evenOut wsX1_evenOut) := goodIn_app (goodIn_of _ (by decide +kernel)) ggX1_pass_X1_evenOut
theorem dX1_pass_0 : decode cX1_pass 0 = .ok (.aload_n 0, 1) := by decide +kernel
theorem dX1_pass_1 : decode cX1_pass 1 = .ok (.iconst 0, 1) := by decide +kernel
theorem dX1_pass_2 : decode cX1_pass 2 = .ok (.putfield 41, 3) := by decide +kernel
theorem dX1_pass_5 : decode cX1_pass 5 = .ok (.iload_n 1, 1) := by decide +kernel
theorem dX1_pass_6 : decode cX1_pass 6 = .ok (.iconst 1, 1) := by decide +kernel
theorem dX1_pass_7 : decode cX1_pass 7 = .ok (.bipush 50, 2) := by decide +kernel
theorem dX1_pass_9 : decode cX1_pass 9 = .ok (.invokestatic 47, 3) := by decide +kernel
theorem dX1_pass_12 : decode cX1_pass 12 = .ok (.ifCond .ne 9, 3) := by decide +kernel
theorem dX1_pass_15 : decode cX1_pass 15 = .ok (.aload_n 0, 1) := by decide +kernel
theorem dX1_pass_16 : decode cX1_pass 16 = .ok (.iconst 1, 1) := by decide +kernel
theorem dX1_pass_17 : decode cX1_pass 17 = .ok (.invokevirtual 92, 3) := by decide +kernel
theorem dX1_pass_20 : decode cX1_pass 20 = .ok (.ireturn, 1) := by decide +kernel
theorem dX1_pass_21 : decode cX1_pass 21 = .ok (.iconst 0, 1) := by decide +kernel
theorem dX1_pass_22 : decode cX1_pass 22 = .ok (.istore_n 2, 1) := by decide +kernel
theorem dX1_pass_23 : decode cX1_pass 23 = .ok (.iconst 0, 1) := by decide +kernel
theorem dX1_pass_24 : decode cX1_pass 24 = .ok (.istore_n 3, 1) := by decide +kernel
theorem dX1_pass_25 : decode cX1_pass 25 = .ok (.iload_n 3, 1) := by decide +kernel
theorem dX1_pass_26 : decode cX1_pass 26 = .ok (.iload_n 1, 1) := by decide +kernel
theorem dX1_pass_27 : decode cX1_pass 27 = .ok (.if_icmp .ge 16, 3) := by decide +kernel
theorem dX1_pass_30 : decode cX1_pass 30 = .ok (.iload_n 2, 1) := by decide +kernel
theorem dX1_pass_31 : decode cX1_pass 31 = .ok (.aload_n 0, 1) := by decide +kernel
theorem dX1_pass_32 : decode cX1_pass 32 = .ok (.invokevirtual 120, 3) := by decide +kernel
theorem dX1_pass_35 : decode cX1_pass 35 = .ok (.iadd, 1) := by decide +kernel
theorem dX1_pass_36 : decode cX1_pass 36 = .ok (.istore_n 2, 1) := by decide +kernel
theorem dX1_pass_37 : decode cX1_pass 37 = .ok (.iinc 3 1, 3) := by decide +kernel
theorem dX1_pass_40 : decode cX1_pass 40 = .ok (.goto (-15), 3) := by decide +kernel
theorem dX1_pass_43 : decode cX1_pass 43 = .ok (.iconst 0, 1) := by decide +kernel
theorem dX1_pass_44 : decode cX1_pass 44 = .ok (.istore_n 3, 1) := by decide +kernel
theorem dX1_pass_45 : decode cX1_pass 45 = .ok (.iload_n 3, 1) := by decide +kernel
theorem dX1_pass_46 : decode cX1_pass 46 = .ok (.aload_n 0, 1) := by decide +kernel
theorem dX1_pass_47 : decode cX1_pass 47 = .ok (.getfield 55, 3) := by decide +kernel
theorem dX1_pass_50 : decode cX1_pass 50 = .ok (.if_icmp .ge 35, 3) := by decide +kernel
theorem dX1_pass_53 : decode cX1_pass 53 = .ok (.aload_n 0, 1) := by decide +kernel
theorem dX1_pass_54 : decode cX1_pass 54 = .ok (.getfield 25, 3) := by decide +kernel
theorem dX1_pass_57 : decode cX1_pass 57 = .ok (.iload_n 3, 1) := by decide +kernel
theorem dX1_pass_58 : decode cX1_pass 58 = .ok (.dup2, 1) := by decide +kernel
theorem dX1_pass_59 : decode cX1_pass 59 = .ok (.iaload, 1) := by decide +kernel
theorem dX1_pass_60 : decode cX1_pass 60 = .ok (.iload_n 1, 1) := by decide +kernel
theorem dX1_pass_61 : decode cX1_pass 61 = .ok (.aload_n 0, 1) := by decide +kernel
theorem dX1_pass_62 : decode cX1_pass 62 = .ok (.getfield 19, 3) := by decide +kernel
theorem dX1_pass_65 : decode cX1_pass 65 = .ok (.iload_n 3, 1) := by decide +kernel
theorem dX1_pass_66 : decode cX1_pass 66 = .ok (.iaload, 1) := by decide +kernel
theorem dX1_pass_67 : decode cX1_pass 67 = .ok (.aload_n 0, 1) := by decide +kernel
theorem dX1_pass_68 : decode cX1_pass 68 = .ok (.getfield 16, 3) := by decide +kernel
theorem dX1_pass_71 : decode cX1_pass 71 = .ok (.iload_n 3, 1) := by decide +kernel
theorem dX1_pass_72 : decode cX1_pass 72 = .ok (.iaload, 1) := by decide +kernel
theorem dX1_pass_73 : decode cX1_pass 73 = .ok (.isub, 1) := by decide +kernel
theorem dX1_pass_74 : decode cX1_pass 74 = .ok (.iconst 1, 1) := by decide +kernel
theorem dX1_pass_75 : decode cX1_pass 75 = .ok (.iadd, 1) := by decide +kernel
theorem dX1_pass_76 : decode cX1_pass 76 = .ok (.imul, 1) := by decide +kernel
theorem dX1_pass_77 : decode cX1_pass 77 = .ok (.iadd, 1) := by decide +kernel
theorem dX1_pass_78 : decode cX1_pass 78 = .ok (.iastore, 1) := by decide +kernel
theorem dX1_pass_79 : decode cX1_pass 79 = .ok (.iinc 3 1, 3) := by decide +kernel
theorem dX1_pass_82 : decode cX1_pass 82 = .ok (.goto (-37), 3) := by decide +kernel
theorem dX1_pass_85 : decode cX1_pass 85 = .ok (.aload_n 0, 1) := by decide +kernel
theorem dX1_pass_86 : decode cX1_pass 86 = .ok (.dup, 1) := by decide +kernel
theorem dX1_pass_87 : decode cX1_pass 87 = .ok (.getfield 123, 3) := by decide +kernel
theorem dX1_pass_90 : decode cX1_pass 90 = .ok (.iload_n 1, 1) := by decide +kernel
theorem dX1_pass_91 : decode cX1_pass 91 = .ok (.iadd, 1) := by decide +kernel
theorem dX1_pass_92 : decode cX1_pass 92 = .ok (.putfield 123, 3) := by decide +kernel
theorem dX1_pass_95 : decode cX1_pass 95 = .ok (.iload_n 2, 1) := by decide +kernel
theorem dX1_pass_96 : decode cX1_pass 96 = .ok (.ireturn, 1) := by decide +kernel
set_option maxRecDepth 20000 in
theorem ggX1_draw_X1_areLayers : GoodIn wsX1_draw wsX1_areLayers := goodIn_r _ [11, 12, 13, 14, 10, 15, 16, 17, 18, 19, 29, 30, 31, 32, 33, 34, 35, 36, 37, 38, 39, 40, 41, 42, 43, 44] (by decide +kernel) (by decide +kernel)
set_option maxRecDepth 20000 in
theorem gX1_draw_X1_areLayers : GoodIn wsX1_draw (wsV RX1 126 RX1 yX1_areLayers wsX1_areLayers) := goodIn_app (goodIn_of _ (by decide +kernel)) ggX1_draw_X1_areLayers
set_option maxRecDepth 20000 in
theorem ggX1_draw_X1_no : GoodIn wsX1_draw wsX1_no := goodIn_r _ [23, 1, 29, 30, 31, 32, 33, 34, 35, 36, 37, 38, 39, 40, 41, 42, 43, 44] (by decide +kernel) (by decide +kernel)
set_option maxRecDepth 20000 in
theorem gX1_draw_X1_no : GoodIn wsX1_draw (wsV RX1 92 RX1 yX1_no wsX1_no) := goodIn_app (goodIn_of _ (by decide +kernel)) ggX1_draw_X1_no
set_option maxRecDepth 20000 in
theorem ggX1_draw_X1_added : GoodIn wsX1_draw wsX1_added := goodIn_r _ [27, 28, 29, 30, 31, 32, 33, 34, 35, 36, 37, 38, 39, 40, 41, 42, 43, 44] (by decide +kernel) (by decide +kernel)
set_option maxRecDepth 20000 in
theorem gX1_draw_X1_added : GoodIn wsX1_draw (wsV RX1 85 RX1 yX1_added wsX1_added) := goodIn_app (goodIn_of _ (by decide +kernel)) ggX1_draw_X1_added
theorem dX1_draw_0 : decode cX1_draw 0 = .ok (.aload_n 0, 1) := by decide +kernel
theorem dX1_draw_1 : decode cX1_draw 1 = .ok (.iconst 0, 1) := by decide +kernel
theorem dX1_draw_2 : decode cX1_draw 2 = .ok (.putfield 41, 3) := by decide +kernel
theorem dX1_draw_5 : decode cX1_draw 5 = .ok (.aload_n 0, 1) := by decide +kernel
theorem dX1_draw_6 : decode cX1_draw 6 = .ok (.iload_n 1, 1) := by decide +kernel
theorem dX1_draw_7 : decode cX1_draw 7 = .ok (.iload_n 2, 1) := by decide +kernel
theorem dX1_draw_8 : decode cX1_draw 8 = .ok (.invokevirtual 126, 3) := by decide +kernel
theorem dX1_draw_11 : decode cX1_draw 11 = .ok (.ifCond .ne 9, 3) := by decide +kernel
theorem dX1_draw_14 : decode cX1_draw 14 = .ok (.aload_n 0, 1) := by decide +kernel
theorem dX1_draw_15 : decode cX1_draw 15 = .ok (.iconst 1, 1) := by decide +kernel
theorem dX1_draw_16 : decode cX1_draw 16 = .ok (.invokevirtual 92, 3) := by decide +kernel
theorem dX1_draw_19 : decode cX1_draw 19 = .ok (.ireturn, 1) := by decide +kernel
theorem dX1_draw_20 : decode cX1_draw 20 = .ok (.aload_n 0, 1) := by decide +kernel
theorem dX1_draw_21 : decode cX1_draw 21 = .ok (.getfield 55, 3) := by decide +kernel
theorem dX1_draw_24 : decode cX1_draw 24 = .ok (.bipush 16, 2) := by decide +kernel
theorem dX1_draw_26 : decode cX1_draw 26 = .ok (.if_icmp .ne 9, 3) := by decide +kernel
theorem dX1_draw_29 : decode cX1_draw 29 = .ok (.aload_n 0, 1) := by decide +kernel
theorem dX1_draw_30 : decode cX1_draw 30 = .ok (.iconst 2, 1) := by decide +kernel
theorem dX1_draw_31 : decode cX1_draw 31 = .ok (.invokevirtual 92, 3) := by decide +kernel
theorem dX1_draw_34 : decode cX1_draw 34 = .ok (.ireturn, 1) := by decide +kernel
theorem dX1_draw_35 : decode cX1_draw 35 = .ok (.aload_n 0, 1) := by decide +kernel
theorem dX1_draw_36 : decode cX1_draw 36 = .ok (.getfield 16, 3) := by decide +kernel
theorem dX1_draw_39 : decode cX1_draw 39 = .ok (.aload_n 0, 1) := by decide +kernel
theorem dX1_draw_40 : decode cX1_draw 40 = .ok (.getfield 55, 3) := by decide +kernel
theorem dX1_draw_43 : decode cX1_draw 43 = .ok (.iload_n 1, 1) := by decide +kernel
theorem dX1_draw_44 : decode cX1_draw 44 = .ok (.iastore, 1) := by decide +kernel
theorem dX1_draw_45 : decode cX1_draw 45 = .ok (.aload_n 0, 1) := by decide +kernel
theorem dX1_draw_46 : decode cX1_draw 46 = .ok (.getfield 19, 3) := by decide +kernel
theorem dX1_draw_49 : decode cX1_draw 49 = .ok (.aload_n 0, 1) := by decide +kernel
theorem dX1_draw_50 : decode cX1_draw 50 = .ok (.getfield 55, 3) := by decide +kernel
theorem dX1_draw_53 : decode cX1_draw 53 = .ok (.iload_n 2, 1) := by decide +kernel
theorem dX1_draw_54 : decode cX1_draw 54 = .ok (.iastore, 1) := by decide +kernel
theorem dX1_draw_55 : decode cX1_draw 55 = .ok (.aload_n 0, 1) := by decide +kernel
theorem dX1_draw_56 : decode cX1_draw 56 = .ok (.getfield 22, 3) := by decide +kernel
theorem dX1_draw_59 : decode cX1_draw 59 = .ok (.aload_n 0, 1) := by decide +kernel
theorem dX1_draw_60 : decode cX1_draw 60 = .ok (.getfield 55, 3) := by decide +kernel
theorem dX1_draw_63 : decode cX1_draw 63 = .ok (.aload_n 0, 1) := by decide +kernel
theorem dX1_draw_64 : decode cX1_draw 64 = .ok (.iload_n 1, 1) := by decide +kernel
theorem dX1_draw_65 : decode cX1_draw 65 = .ok (.iload_n 2, 1) := by decide +kernel
theorem dX1_draw_66 : decode cX1_draw 66 = .ok (.invokevirtual 85, 3) := by decide +kernel
theorem dX1_draw_69 : decode cX1_draw 69 = .ok (.iastore, 1) := by decide +kernel
theorem dX1_draw_70 : decode cX1_draw 70 = .ok (.aload_n 0, 1) := by decide +kernel
theorem dX1_draw_71 : decode cX1_draw 71 = .ok (.getfield 25, 3) := by decide +kernel
theorem dX1_draw_74 : decode cX1_draw 74 = .ok (.aload_n 0, 1) := by decide +kernel
theorem dX1_draw_75 : decode cX1_draw 75 = .ok (.getfield 55, 3) := by decide +kernel
theorem dX1_draw_78 : decode cX1_draw 78 = .ok (.iconst 0, 1) := by decide +kernel
theorem dX1_draw_79 : decode cX1_draw 79 = .ok (.iastore, 1) := by decide +kernel
theorem dX1_draw_80 : decode cX1_draw 80 = .ok (.aload_n 0, 1) := by decide +kernel
theorem dX1_draw_81 : decode cX1_draw 81 = .ok (.dup, 1) := by decide +kernel
theorem dX1_draw_82 : decode cX1_draw 82 = .ok (.getfield 55, 3) := by decide +kernel
theorem dX1_draw_85 : decode cX1_draw 85 = .ok (.iconst 1, 1) := by decide +kernel
theorem dX1_draw_86 : decode cX1_draw 86 = .ok (.iadd, 1) := by decide +kernel
theorem dX1_draw_87 : decode cX1_draw 87 = .ok (.putfield 55, 3) := by decide +kernel
theorem dX1_draw_90 : decode cX1_draw 90 = .ok (.aload_n 0, 1) := by decide +kernel
theorem dX1_draw_91 : decode cX1_draw 91 = .ok (.getfield 22, 3) := by decide +kernel
theorem dX1_draw_94 : decode cX1_draw 94 = .ok (.aload_n 0, 1) := by decide +kernel
theorem dX1_draw_95 : decode cX1_draw 95 = .ok (.getfield 55, 3) := by decide +kernel
theorem dX1_draw_98 : decode cX1_draw 98 = .ok (.iconst 1, 1) := by decide +kernel
theorem dX1_draw_99 : decode cX1_draw 99 = .ok (.isub, 1) := by decide +kernel
theorem dX1_draw_100 : decode cX1_draw 100 = .ok (.iaload, 1) := by decide +kernel
theorem dX1_draw_101 : decode cX1_draw 101 = .ok (.ireturn, 1) := by decide +kernel
set_option maxRecDepth 20000 in
theorem ggX1_throwAway_X1_isSample : GoodIn wsX1_throwAway wsX1_isSample := goodIn_r _ [7, 2, 8, 9, 6, 10, 23, 24, 25, 26, 27, 28, 29, 30, 31, 32, 33, 34, 35, 36, 37, 38] (by decide +kernel) (by decide +kernel)
set_option maxRecDepth 20000 in
theorem gX1_throwAway_X1_isSample : GoodIn wsX1_throwAway (wsV RX1 130 RX1 yX1_isSample wsX1_isSample) := goodIn_app (goodIn_of _ (by decide +kernel)) ggX1_throwAway_X1_isSample
set_option maxRecDepth 20000 in
theorem ggX1_throwAway_X1_no : GoodIn wsX1_throwAway wsX1_no := goodIn_r _ [14, 1, 23, 24, 25, 26, 27, 28, 29, 30, 31, 32, 33, 34, 35, 36, 37, 38] (by decide +kernel) (by decide +kernel)
set_option maxRecDepth 20000 in
theorem gX1_throwAway_X1_no : GoodIn wsX1_throwAway (wsV RX1 92 RX1 yX1_no wsX1_no) := goodIn_app (goodIn_of _ (by decide +kernel)) ggX1_throwAway_X1_no
set_option maxRecDepth 20000 in
theorem ggX1_throwAway_X1_drop : GoodIn wsX1_throwAway wsX1_drop := goodIn_r _ [18, 2, 19, 20, 21, 22, 23, 24, 25, 26, 27, 28, 29, 30, 31, 32, 33, 34, 35, 36, 37, 38] (by decide +kernel) (by decide +kernel)
set_option maxRecDepth 20000 in
theorem gX1_throwAway_X1_drop : GoodIn wsX1_throwAway (wsV RX1 102 RX1 yX1_drop wsX1_drop) := goodIn_app (goodIn_of _ (by decide +kernel)) ggX1_throwAway_X1_drop
theorem dX1_throwAway_0 : decode cX1_throwAway 0 = .ok (.aload_n 0, 1) := by decide +kernel
theorem dX1_throwAway_1 : decode cX1_throwAway 1 = .ok (.iconst 0, 1) := by decide +kernel
theorem dX1_throwAway_2 : decode cX1_throwAway 2 = .ok (.putfield 41, 3) := by decide +kernel
theorem dX1_throwAway_5 : decode cX1_throwAway 5 = .ok (.aload_n 0, 1) := by decide +kernel
theorem dX1_throwAway_6 : decode cX1_throwAway 6 = .ok (.iload_n 1, 1) := by decide +kernel
theorem dX1_throwAway_7 : decode cX1_throwAway 7 = .ok (.invokevirtual 130, 3) := by decide +kernel
theorem dX1_throwAway_10 : decode cX1_throwAway 10 = .ok (.ifCond .ne 9, 3) := by decide +kernel
theorem dX1_throwAway_13 : decode cX1_throwAway 13 = .ok (.aload_n 0, 1) := by decide +kernel
theorem dX1_throwAway_14 : decode cX1_throwAway 14 = .ok (.iconst 1, 1) := by decide +kernel
theorem dX1_throwAway_15 : decode cX1_throwAway 15 = .ok (.invokevirtual 92, 3) := by decide +kernel
theorem dX1_throwAway_18 : decode cX1_throwAway 18 = .ok (.ireturn, 1) := by decide +kernel
theorem dX1_throwAway_19 : decode cX1_throwAway 19 = .ok (.aload_n 0, 1) := by decide +kernel
theorem dX1_throwAway_20 : decode cX1_throwAway 20 = .ok (.iload_n 1, 1) := by decide +kernel
theorem dX1_throwAway_21 : decode cX1_throwAway 21 = .ok (.invokevirtual 102, 3) := by decide +kernel
theorem dX1_throwAway_24 : decode cX1_throwAway 24 = .ok (.aload_n 0, 1) := by decide +kernel
theorem dX1_throwAway_25 : decode cX1_throwAway 25 = .ok (.getfield 55, 3) := by decide +kernel
theorem dX1_throwAway_28 : decode cX1_throwAway 28 = .ok (.ireturn, 1) := by decide +kernel
set_option maxRecDepth 20000 in
theorem ggX1_samples_X1_ok : GoodIn wsX1_samples wsX1_ok := goodIn_r _ [6, 7, 8, 9, 10, 11, 12, 13, 14, 15, 16, 17, 18, 19, 20, 21, 22, 23] (by decide +kernel) (by decide +kernel)
set_option maxRecDepth 20000 in
theorem gX1_samples_X1_ok : GoodIn wsX1_samples (wsV RX1 133 RX1 yX1_ok wsX1_ok) := goodIn_app (goodIn_of _ (by decide +kernel)) ggX1_samples_X1_ok
theorem dX1_samples_0 : decode cX1_samples 0 = .ok (.aload_n 0, 1) := by decide +kernel
theorem dX1_samples_1 : decode cX1_samples 1 = .ok (.aload_n 0, 1) := by decide +kernel
theorem dX1_samples_2 : decode cX1_samples 2 = .ok (.getfield 55, 3) := by decide +kernel
theorem dX1_samples_5 : decode cX1_samples 5 = .ok (.invokevirtual 133, 3) := by decide +kernel
theorem dX1_samples_8 : decode cX1_samples 8 = .ok (.ireturn, 1) := by decide +kernel
set_option maxRecDepth 20000 in
theorem ggX1_ofSample_X1_isSample : GoodIn wsX1_ofSample wsX1_isSample := goodIn_r _ [6, 7, 8, 9, 5, 10, 15, 16, 17, 18, 19, 20, 21, 22, 23, 24, 25, 26, 27, 28, 29, 30] (by decide +kernel) (by decide +kernel)
set_option maxRecDepth 20000 in
theorem gX1_ofSample_X1_isSample : GoodIn wsX1_ofSample (wsV RX1 130 RX1 yX1_isSample wsX1_isSample) := goodIn_app (goodIn_of _ (by decide +kernel)) ggX1_ofSample_X1_isSample
set_option maxRecDepth 20000 in
theorem ggX1_ofSample_X1_no : GoodIn wsX1_ofSample wsX1_no := goodIn_r _ [14, 1, 15, 16, 17, 18, 19, 20, 21, 22, 23, 24, 25, 26, 27, 28, 29, 30] (by decide +kernel) (by decide +kernel)
set_option maxRecDepth 20000 in
theorem gX1_ofSample_X1_no : GoodIn wsX1_ofSample (wsV RX1 92 RX1 yX1_no wsX1_no) := goodIn_app (goodIn_of _ (by decide +kernel)) ggX1_ofSample_X1_no
theorem dX1_ofSample_0 : decode cX1_ofSample 0 = .ok (.aload_n 0, 1) := by decide +kernel
theorem dX1_ofSample_1 : decode cX1_ofSample 1 = .ok (.iconst 0, 1) := by decide +kernel
theorem dX1_ofSample_2 : decode cX1_ofSample 2 = .ok (.putfield 41, 3) := by decide +kernel
theorem dX1_ofSample_5 : decode cX1_ofSample 5 = .ok (.aload_n 0, 1) := by decide +kernel
theorem dX1_ofSample_6 : decode cX1_ofSample 6 = .ok (.iload_n 1, 1) := by decide +kernel
theorem dX1_ofSample_7 : decode cX1_ofSample 7 = .ok (.invokevirtual 130, 3) := by decide +kernel
theorem dX1_ofSample_10 : decode cX1_ofSample 10 = .ok (.ifCond .eq 9, 3) := by decide +kernel
theorem dX1_ofSample_13 : decode cX1_ofSample 13 = .ok (.aload_n 2, 1) := by decide +kernel
theorem dX1_ofSample_14 : decode cX1_ofSample 14 = .ok (.iload_n 1, 1) := by decide +kernel
theorem dX1_ofSample_15 : decode cX1_ofSample 15 = .ok (.iaload, 1) := by decide +kernel
theorem dX1_ofSample_16 : decode cX1_ofSample 16 = .ok (.goto 8, 3) := by decide +kernel
theorem dX1_ofSample_19 : decode cX1_ofSample 19 = .ok (.aload_n 0, 1) := by decide +kernel
theorem dX1_ofSample_20 : decode cX1_ofSample 20 = .ok (.iconst 1, 1) := by decide +kernel
theorem dX1_ofSample_21 : decode cX1_ofSample 21 = .ok (.invokevirtual 92, 3) := by decide +kernel
theorem dX1_ofSample_24 : decode cX1_ofSample 24 = .ok (.ireturn, 1) := by decide +kernel
set_option maxRecDepth 20000 in
theorem ggX1_lowestOf_X1_ofSample : GoodIn wsX1_lowestOf wsX1_ofSample := goodIn_r _ [6, 7, 8, 9, 10, 5, 11, 12, 13, 14, 15, 16, 17, 18, 19, 20, 21, 22, 23, 24, 25, 26, 27, 28, 29, 30, 31, 32, 33, 34, 35] (by decide +kernel) (by decide +kernel)
set_option maxRecDepth 20000 in
theorem gX1_lowestOf_X1_ofSample : GoodIn wsX1_lowestOf (wsV RX1 136 RX1 yX1_ofSample wsX1_ofSample) := goodIn_app (goodIn_of _ (by decide +kernel)) ggX1_lowestOf_X1_ofSample
theorem dX1_lowestOf_0 : decode cX1_lowestOf 0 = .ok (.aload_n 0, 1) := by decide +kernel
theorem dX1_lowestOf_1 : decode cX1_lowestOf 1 = .ok (.iload_n 1, 1) := by decide +kernel
theorem dX1_lowestOf_2 : decode cX1_lowestOf 2 = .ok (.aload_n 0, 1) := by decide +kernel
theorem dX1_lowestOf_3 : decode cX1_lowestOf 3 = .ok (.getfield 16, 3) := by decide +kernel
theorem dX1_lowestOf_6 : decode cX1_lowestOf 6 = .ok (.invokevirtual 136, 3) := by decide +kernel
theorem dX1_lowestOf_9 : decode cX1_lowestOf 9 = .ok (.ireturn, 1) := by decide +kernel
set_option maxRecDepth 20000 in
theorem ggX1_highestOf_X1_ofSample : GoodIn wsX1_highestOf wsX1_ofSample := goodIn_r _ [6, 7, 8, 9, 10, 5, 11, 12, 13, 14, 15, 16, 17, 18, 19, 20, 21, 22, 23, 24, 25, 26, 27, 28, 29, 30, 31, 32, 33, 34, 35] (by decide +kernel) (by decide +kernel)
set_option maxRecDepth 20000 in
theorem gX1_highestOf_X1_ofSample : GoodIn wsX1_highestOf (wsV RX1 136 RX1 yX1_ofSample wsX1_ofSample) := goodIn_app (goodIn_of _ (by decide +kernel)) ggX1_highestOf_X1_ofSample
theorem dX1_highestOf_0 : decode cX1_highestOf 0 = .ok (.aload_n 0, 1) := by decide +kernel
theorem dX1_highestOf_1 : decode cX1_highestOf 1 = .ok (.iload_n 1, 1) := by decide +kernel
theorem dX1_highestOf_2 : decode cX1_highestOf 2 = .ok (.aload_n 0, 1) := by decide +kernel
theorem dX1_highestOf_3 : decode cX1_highestOf 3 = .ok (.getfield 19, 3) := by decide +kernel
theorem dX1_highestOf_6 : decode cX1_highestOf 6 = .ok (.invokevirtual 136, 3) := by decide +kernel
theorem dX1_highestOf_9 : decode cX1_highestOf 9 = .ok (.ireturn, 1) := by decide +kernel
set_option maxRecDepth 20000 in
theorem ggX1_sumOf_X1_ofSample : GoodIn wsX1_sumOf wsX1_ofSample := goodIn_r _ [6, 7, 8, 9, 10, 5, 11, 12, 13, 14, 15, 16, 17, 18, 19, 20, 21, 22, 23, 24, 25, 26, 27, 28, 29, 30, 31, 32, 33, 34, 35] (by decide +kernel) (by decide +kernel)
set_option maxRecDepth 20000 in
theorem gX1_sumOf_X1_ofSample : GoodIn wsX1_sumOf (wsV RX1 136 RX1 yX1_ofSample wsX1_ofSample) := goodIn_app (goodIn_of _ (by decide +kernel)) ggX1_sumOf_X1_ofSample
theorem dX1_sumOf_0 : decode cX1_sumOf 0 = .ok (.aload_n 0, 1) := by decide +kernel
theorem dX1_sumOf_1 : decode cX1_sumOf 1 = .ok (.iload_n 1, 1) := by decide +kernel
theorem dX1_sumOf_2 : decode cX1_sumOf 2 = .ok (.aload_n 0, 1) := by decide +kernel
theorem dX1_sumOf_3 : decode cX1_sumOf 3 = .ok (.getfield 22, 3) := by decide +kernel
theorem dX1_sumOf_6 : decode cX1_sumOf 6 = .ok (.invokevirtual 136, 3) := by decide +kernel
theorem dX1_sumOf_9 : decode cX1_sumOf 9 = .ok (.ireturn, 1) := by decide +kernel
set_option maxRecDepth 20000 in
theorem ggX1_doubtOf_X1_ofSample : GoodIn wsX1_doubtOf wsX1_ofSample := goodIn_r _ [6, 7, 8, 9, 10, 5, 11, 12, 13, 14, 15, 16, 17, 18, 19, 20, 21, 22, 23, 24, 25, 26, 27, 28, 29, 30, 31, 32, 33, 34, 35] (by decide +kernel) (by decide +kernel)
set_option maxRecDepth 20000 in
theorem gX1_doubtOf_X1_ofSample : GoodIn wsX1_doubtOf (wsV RX1 136 RX1 yX1_ofSample wsX1_ofSample) := goodIn_app (goodIn_of _ (by decide +kernel)) ggX1_doubtOf_X1_ofSample
theorem dX1_doubtOf_0 : decode cX1_doubtOf 0 = .ok (.aload_n 0, 1) := by decide +kernel
theorem dX1_doubtOf_1 : decode cX1_doubtOf 1 = .ok (.iload_n 1, 1) := by decide +kernel
theorem dX1_doubtOf_2 : decode cX1_doubtOf 2 = .ok (.aload_n 0, 1) := by decide +kernel
theorem dX1_doubtOf_3 : decode cX1_doubtOf 3 = .ok (.getfield 25, 3) := by decide +kernel
theorem dX1_doubtOf_6 : decode cX1_doubtOf 6 = .ok (.invokevirtual 136, 3) := by decide +kernel
theorem dX1_doubtOf_9 : decode cX1_doubtOf 9 = .ok (.ireturn, 1) := by decide +kernel
set_option maxRecDepth 20000 in
theorem ggX1_layers_X1_ok : GoodIn wsX1_layers wsX1_ok := goodIn_r _ [6, 7, 8, 9, 10, 11, 12, 13, 14, 15, 16, 17, 18, 19, 20, 21, 22, 23] (by decide +kernel) (by decide +kernel)
set_option maxRecDepth 20000 in
theorem gX1_layers_X1_ok : GoodIn wsX1_layers (wsV RX1 133 RX1 yX1_ok wsX1_ok) := goodIn_app (goodIn_of _ (by decide +kernel)) ggX1_layers_X1_ok
theorem dX1_layers_0 : decode cX1_layers 0 = .ok (.aload_n 0, 1) := by decide +kernel
theorem dX1_layers_1 : decode cX1_layers 1 = .ok (.aload_n 0, 1) := by decide +kernel
theorem dX1_layers_2 : decode cX1_layers 2 = .ok (.getfield 44, 3) := by decide +kernel
theorem dX1_layers_5 : decode cX1_layers 5 = .ok (.invokevirtual 133, 3) := by decide +kernel
theorem dX1_layers_8 : decode cX1_layers 8 = .ok (.ireturn, 1) := by decide +kernel
set_option maxRecDepth 20000 in
theorem ggX1_day_X1_ok : GoodIn wsX1_day wsX1_ok := goodIn_r _ [6, 7, 8, 9, 10, 11, 12, 13, 14, 15, 16, 17, 18, 19, 20, 21, 22, 23] (by decide +kernel) (by decide +kernel)
set_option maxRecDepth 20000 in
theorem gX1_day_X1_ok : GoodIn wsX1_day (wsV RX1 133 RX1 yX1_ok wsX1_ok) := goodIn_app (goodIn_of _ (by decide +kernel)) ggX1_day_X1_ok
theorem dX1_day_0 : decode cX1_day 0 = .ok (.aload_n 0, 1) := by decide +kernel
theorem dX1_day_1 : decode cX1_day 1 = .ok (.aload_n 0, 1) := by decide +kernel
theorem dX1_day_2 : decode cX1_day 2 = .ok (.getfield 123, 3) := by decide +kernel
theorem dX1_day_5 : decode cX1_day 5 = .ok (.invokevirtual 133, 3) := by decide +kernel
theorem dX1_day_8 : decode cX1_day 8 = .ok (.ireturn, 1) := by decide +kernel
set_option maxRecDepth 20000 in
theorem ggX1_limit_X1_ok : GoodIn wsX1_limit wsX1_ok := goodIn_r _ [6, 7, 8, 9, 10, 11, 12, 13, 14, 15, 16, 17, 18, 19, 20, 21, 22, 23] (by decide +kernel) (by decide +kernel)
set_option maxRecDepth 20000 in
theorem gX1_limit_X1_ok : GoodIn wsX1_limit (wsV RX1 133 RX1 yX1_ok wsX1_ok) := goodIn_app (goodIn_of _ (by decide +kernel)) ggX1_limit_X1_ok
theorem dX1_limit_0 : decode cX1_limit 0 = .ok (.aload_n 0, 1) := by decide +kernel
theorem dX1_limit_1 : decode cX1_limit 1 = .ok (.aload_n 0, 1) := by decide +kernel
theorem dX1_limit_2 : decode cX1_limit 2 = .ok (.getfield 28, 3) := by decide +kernel
theorem dX1_limit_5 : decode cX1_limit 5 = .ok (.invokevirtual 133, 3) := by decide +kernel
theorem dX1_limit_8 : decode cX1_limit 8 = .ok (.ireturn, 1) := by decide +kernel
set_option maxRecDepth 20000 in
theorem ggX1_sold_X1_ok : GoodIn wsX1_sold wsX1_ok := goodIn_r _ [6, 7, 8, 9, 10, 11, 12, 13, 14, 15, 16, 17, 18, 19, 20, 21, 22, 23] (by decide +kernel) (by decide +kernel)
set_option maxRecDepth 20000 in
theorem gX1_sold_X1_ok : GoodIn wsX1_sold (wsV RX1 133 RX1 yX1_ok wsX1_ok) := goodIn_app (goodIn_of _ (by decide +kernel)) ggX1_sold_X1_ok
theorem dX1_sold_0 : decode cX1_sold 0 = .ok (.aload_n 0, 1) := by decide +kernel
theorem dX1_sold_1 : decode cX1_sold 1 = .ok (.aload_n 0, 1) := by decide +kernel
theorem dX1_sold_2 : decode cX1_sold 2 = .ok (.getfield 99, 3) := by decide +kernel
theorem dX1_sold_5 : decode cX1_sold 5 = .ok (.invokevirtual 133, 3) := by decide +kernel
theorem dX1_sold_8 : decode cX1_sold 8 = .ok (.ireturn, 1) := by decide +kernel
set_option maxRecDepth 20000 in
theorem ggX1_spoilt_X1_ok : GoodIn wsX1_spoilt wsX1_ok := goodIn_r _ [6, 7, 8, 9, 10, 11, 12, 13, 14, 15, 16, 17, 18, 19, 20, 21, 22, 23] (by decide +kernel) (by decide +kernel)
set_option maxRecDepth 20000 in
theorem gX1_spoilt_X1_ok : GoodIn wsX1_spoilt (wsV RX1 133 RX1 yX1_ok wsX1_ok) := goodIn_app (goodIn_of _ (by decide +kernel)) ggX1_spoilt_X1_ok
theorem dX1_spoilt_0 : decode cX1_spoilt 0 = .ok (.aload_n 0, 1) := by decide +kernel
theorem dX1_spoilt_1 : decode cX1_spoilt 1 = .ok (.aload_n 0, 1) := by decide +kernel
theorem dX1_spoilt_2 : decode cX1_spoilt 2 = .ok (.getfield 96, 3) := by decide +kernel
theorem dX1_spoilt_5 : decode cX1_spoilt 5 = .ok (.invokevirtual 133, 3) := by decide +kernel
theorem dX1_spoilt_8 : decode cX1_spoilt 8 = .ok (.ireturn, 1) := by decide +kernel
set_option maxRecDepth 20000 in
theorem ggX1_kindOf_X1_isLayer : GoodIn wsX1_kindOf wsX1_isLayer := goodIn_r _ [7, 8, 9, 10, 6, 11, 16, 17, 18, 19, 20, 21, 22, 23, 24, 25, 26, 27, 28, 29, 30, 31] (by decide +kernel) (by decide +kernel)
set_option maxRecDepth 20000 in
theorem gX1_kindOf_X1_isLayer : GoodIn wsX1_kindOf (wsV RX1 51 RX1 yX1_isLayer wsX1_isLayer) := goodIn_app (goodIn_of _ (by decide +kernel)) ggX1_kindOf_X1_isLayer
set_option maxRecDepth 20000 in
theorem ggX1_kindOf_X1_no : GoodIn wsX1_kindOf wsX1_no := goodIn_r _ [15, 1, 16, 17, 18, 19, 20, 21, 22, 23, 24, 25, 26, 27, 28, 29, 30, 31] (by decide +kernel) (by decide +kernel)
set_option maxRecDepth 20000 in
theorem gX1_kindOf_X1_no : GoodIn wsX1_kindOf (wsV RX1 92 RX1 yX1_no wsX1_no) := goodIn_app (goodIn_of _ (by decide +kernel)) ggX1_kindOf_X1_no
theorem dX1_kindOf_0 : decode cX1_kindOf 0 = .ok (.aload_n 0, 1) := by decide +kernel
theorem dX1_kindOf_1 : decode cX1_kindOf 1 = .ok (.iconst 0, 1) := by decide +kernel
theorem dX1_kindOf_2 : decode cX1_kindOf 2 = .ok (.putfield 41, 3) := by decide +kernel
theorem dX1_kindOf_5 : decode cX1_kindOf 5 = .ok (.aload_n 0, 1) := by decide +kernel
theorem dX1_kindOf_6 : decode cX1_kindOf 6 = .ok (.iload_n 1, 1) := by decide +kernel
theorem dX1_kindOf_7 : decode cX1_kindOf 7 = .ok (.invokevirtual 51, 3) := by decide +kernel
theorem dX1_kindOf_10 : decode cX1_kindOf 10 = .ok (.ifCond .eq 12, 3) := by decide +kernel
theorem dX1_kindOf_13 : decode cX1_kindOf 13 = .ok (.aload_n 0, 1) := by decide +kernel
theorem dX1_kindOf_14 : decode cX1_kindOf 14 = .ok (.getfield 9, 3) := by decide +kernel
theorem dX1_kindOf_17 : decode cX1_kindOf 17 = .ok (.iload_n 1, 1) := by decide +kernel
theorem dX1_kindOf_18 : decode cX1_kindOf 18 = .ok (.iaload, 1) := by decide +kernel
theorem dX1_kindOf_19 : decode cX1_kindOf 19 = .ok (.goto 8, 3) := by decide +kernel
theorem dX1_kindOf_22 : decode cX1_kindOf 22 = .ok (.aload_n 0, 1) := by decide +kernel
theorem dX1_kindOf_23 : decode cX1_kindOf 23 = .ok (.iconst 1, 1) := by decide +kernel
theorem dX1_kindOf_24 : decode cX1_kindOf 24 = .ok (.invokevirtual 92, 3) := by decide +kernel
theorem dX1_kindOf_27 : decode cX1_kindOf 27 = .ok (.ireturn, 1) := by decide +kernel
set_option maxRecDepth 20000 in
theorem ggX1_dampnessOf_X1_isLayer : GoodIn wsX1_dampnessOf wsX1_isLayer := goodIn_r _ [7, 8, 9, 10, 6, 11, 16, 17, 18, 19, 20, 21, 22, 23, 24, 25, 26, 27, 28, 29, 30, 31] (by decide +kernel) (by decide +kernel)
set_option maxRecDepth 20000 in
theorem gX1_dampnessOf_X1_isLayer : GoodIn wsX1_dampnessOf (wsV RX1 51 RX1 yX1_isLayer wsX1_isLayer) := goodIn_app (goodIn_of _ (by decide +kernel)) ggX1_dampnessOf_X1_isLayer
set_option maxRecDepth 20000 in
theorem ggX1_dampnessOf_X1_no : GoodIn wsX1_dampnessOf wsX1_no := goodIn_r _ [15, 1, 16, 17, 18, 19, 20, 21, 22, 23, 24, 25, 26, 27, 28, 29, 30, 31] (by decide +kernel) (by decide +kernel)
set_option maxRecDepth 20000 in
theorem gX1_dampnessOf_X1_no : GoodIn wsX1_dampnessOf (wsV RX1 92 RX1 yX1_no wsX1_no) := goodIn_app (goodIn_of _ (by decide +kernel)) ggX1_dampnessOf_X1_no
theorem dX1_dampnessOf_0 : decode cX1_dampnessOf 0 = .ok (.aload_n 0, 1) := by decide +kernel
theorem dX1_dampnessOf_1 : decode cX1_dampnessOf 1 = .ok (.iconst 0, 1) := by decide +kernel
theorem dX1_dampnessOf_2 : decode cX1_dampnessOf 2 = .ok (.putfield 41, 3) := by decide +kernel
theorem dX1_dampnessOf_5 : decode cX1_dampnessOf 5 = .ok (.aload_n 0, 1) := by decide +kernel
theorem dX1_dampnessOf_6 : decode cX1_dampnessOf 6 = .ok (.iload_n 1, 1) := by decide +kernel
theorem dX1_dampnessOf_7 : decode cX1_dampnessOf 7 = .ok (.invokevirtual 51, 3) := by decide +kernel
theorem dX1_dampnessOf_10 : decode cX1_dampnessOf 10 = .ok (.ifCond .eq 12, 3) := by decide +kernel
theorem dX1_dampnessOf_13 : decode cX1_dampnessOf 13 = .ok (.aload_n 0, 1) := by decide +kernel
theorem dX1_dampnessOf_14 : decode cX1_dampnessOf 14 = .ok (.getfield 13, 3) := by decide +kernel
theorem dX1_dampnessOf_17 : decode cX1_dampnessOf 17 = .ok (.iload_n 1, 1) := by decide +kernel
theorem dX1_dampnessOf_18 : decode cX1_dampnessOf 18 = .ok (.iaload, 1) := by decide +kernel
theorem dX1_dampnessOf_19 : decode cX1_dampnessOf 19 = .ok (.goto 8, 3) := by decide +kernel
theorem dX1_dampnessOf_22 : decode cX1_dampnessOf 22 = .ok (.aload_n 0, 1) := by decide +kernel
theorem dX1_dampnessOf_23 : decode cX1_dampnessOf 23 = .ok (.iconst 1, 1) := by decide +kernel
theorem dX1_dampnessOf_24 : decode cX1_dampnessOf 24 = .ok (.invokevirtual 92, 3) := by decide +kernel
theorem dX1_dampnessOf_27 : decode cX1_dampnessOf 27 = .ok (.ireturn, 1) := by decide +kernel
theorem dX1_dampLayers_0 : decode cX1_dampLayers 0 = .ok (.aload_n 0, 1) := by decide +kernel
theorem dX1_dampLayers_1 : decode cX1_dampLayers 1 = .ok (.iconst 0, 1) := by decide +kernel
theorem dX1_dampLayers_2 : decode cX1_dampLayers 2 = .ok (.putfield 41, 3) := by decide +kernel
theorem dX1_dampLayers_5 : decode cX1_dampLayers 5 = .ok (.iconst 0, 1) := by decide +kernel
theorem dX1_dampLayers_6 : decode cX1_dampLayers 6 = .ok (.istore_n 1, 1) := by decide +kernel
theorem dX1_dampLayers_7 : decode cX1_dampLayers 7 = .ok (.iconst 0, 1) := by decide +kernel
theorem dX1_dampLayers_8 : decode cX1_dampLayers 8 = .ok (.istore_n 2, 1) := by decide +kernel
theorem dX1_dampLayers_9 : decode cX1_dampLayers 9 = .ok (.iload_n 2, 1) := by decide +kernel
theorem dX1_dampLayers_10 : decode cX1_dampLayers 10 = .ok (.aload_n 0, 1) := by decide +kernel
theorem dX1_dampLayers_11 : decode cX1_dampLayers 11 = .ok (.getfield 44, 3) := by decide +kernel
theorem dX1_dampLayers_14 : decode cX1_dampLayers 14 = .ok (.if_icmp .ge 30, 3) := by decide +kernel
theorem dX1_dampLayers_17 : decode cX1_dampLayers 17 = .ok (.iload_n 1, 1) := by decide +kernel
theorem dX1_dampLayers_18 : decode cX1_dampLayers 18 = .ok (.aload_n 0, 1) := by decide +kernel
theorem dX1_dampLayers_19 : decode cX1_dampLayers 19 = .ok (.getfield 13, 3) := by decide +kernel
theorem dX1_dampLayers_22 : decode cX1_dampLayers 22 = .ok (.iload_n 2, 1) := by decide +kernel
theorem dX1_dampLayers_23 : decode cX1_dampLayers 23 = .ok (.iaload, 1) := by decide +kernel
theorem dX1_dampLayers_24 : decode cX1_dampLayers 24 = .ok (.aload_n 0, 1) := by decide +kernel
theorem dX1_dampLayers_25 : decode cX1_dampLayers 25 = .ok (.getfield 28, 3) := by decide +kernel
theorem dX1_dampLayers_28 : decode cX1_dampLayers 28 = .ok (.if_icmp .le 7, 3) := by decide +kernel
theorem dX1_dampLayers_31 : decode cX1_dampLayers 31 = .ok (.iconst 1, 1) := by decide +kernel
theorem dX1_dampLayers_32 : decode cX1_dampLayers 32 = .ok (.goto 4, 3) := by decide +kernel
theorem dX1_dampLayers_35 : decode cX1_dampLayers 35 = .ok (.iconst 0, 1) := by decide +kernel
theorem dX1_dampLayers_36 : decode cX1_dampLayers 36 = .ok (.iadd, 1) := by decide +kernel
theorem dX1_dampLayers_37 : decode cX1_dampLayers 37 = .ok (.istore_n 1, 1) := by decide +kernel
theorem dX1_dampLayers_38 : decode cX1_dampLayers 38 = .ok (.iinc 2 1, 3) := by decide +kernel
theorem dX1_dampLayers_41 : decode cX1_dampLayers 41 = .ok (.goto (-32), 3) := by decide +kernel
theorem dX1_dampLayers_44 : decode cX1_dampLayers 44 = .ok (.iload_n 1, 1) := by decide +kernel
theorem dX1_dampLayers_45 : decode cX1_dampLayers 45 = .ok (.ireturn, 1) := by decide +kernel
set_option maxRecDepth 20000 in
theorem ggX1_layersAheadOf_X1_isIn : GoodIn wsX1_layersAheadOf wsX1_isIn := goodIn_r _ [7] (by decide +kernel) (by decide +kernel)
set_option maxRecDepth 20000 in
theorem gX1_layersAheadOf_X1_isIn : GoodIn wsX1_layersAheadOf (va_wsS RX1 47 yX1_isIn wsX1_isIn) := goodIn_app (goodIn_of _ (by decide +kernel)) ggX1_layersAheadOf_X1_isIn
set_option maxRecDepth 20000 in
theorem ggX1_layersAheadOf_X1_no : GoodIn wsX1_layersAheadOf wsX1_no := goodIn_r _ [11, 1, 12, 13, 14, 15, 16, 17, 18, 19, 20, 21, 22, 23, 24, 25, 26, 27] (by decide +kernel) (by decide +kernel)
set_option maxRecDepth 20000 in
theorem gX1_layersAheadOf_X1_no : GoodIn wsX1_layersAheadOf (wsV RX1 92 RX1 yX1_no wsX1_no) := goodIn_app (goodIn_of _ (by decide +kernel)) ggX1_layersAheadOf_X1_no
theorem dX1_layersAheadOf_0 : decode cX1_layersAheadOf 0 = .ok (.aload_n 0, 1) := by decide +kernel
theorem dX1_layersAheadOf_1 : decode cX1_layersAheadOf 1 = .ok (.iconst 0, 1) := by decide +kernel
theorem dX1_layersAheadOf_2 : decode cX1_layersAheadOf 2 = .ok (.putfield 41, 3) := by decide +kernel
theorem dX1_layersAheadOf_5 : decode cX1_layersAheadOf 5 = .ok (.iload_n 1, 1) := by decide +kernel
theorem dX1_layersAheadOf_6 : decode cX1_layersAheadOf 6 = .ok (.iconst 0, 1) := by decide +kernel
theorem dX1_layersAheadOf_7 : decode cX1_layersAheadOf 7 = .ok (.iconst 4, 1) := by decide +kernel
theorem dX1_layersAheadOf_8 : decode cX1_layersAheadOf 8 = .ok (.invokestatic 47, 3) := by decide +kernel
theorem dX1_layersAheadOf_11 : decode cX1_layersAheadOf 11 = .ok (.ifCond .ne 9, 3) := by decide +kernel
theorem dX1_layersAheadOf_14 : decode cX1_layersAheadOf 14 = .ok (.aload_n 0, 1) := by decide +kernel
theorem dX1_layersAheadOf_15 : decode cX1_layersAheadOf 15 = .ok (.iconst 1, 1) := by decide +kernel
theorem dX1_layersAheadOf_16 : decode cX1_layersAheadOf 16 = .ok (.invokevirtual 92, 3) := by decide +kernel
theorem dX1_layersAheadOf_19 : decode cX1_layersAheadOf 19 = .ok (.ireturn, 1) := by decide +kernel
theorem dX1_layersAheadOf_20 : decode cX1_layersAheadOf 20 = .ok (.iconst 0, 1) := by decide +kernel
theorem dX1_layersAheadOf_21 : decode cX1_layersAheadOf 21 = .ok (.istore_n 2, 1) := by decide +kernel
theorem dX1_layersAheadOf_22 : decode cX1_layersAheadOf 22 = .ok (.iload_n 2, 1) := by decide +kernel
theorem dX1_layersAheadOf_23 : decode cX1_layersAheadOf 23 = .ok (.aload_n 0, 1) := by decide +kernel
theorem dX1_layersAheadOf_24 : decode cX1_layersAheadOf 24 = .ok (.getfield 44, 3) := by decide +kernel
theorem dX1_layersAheadOf_27 : decode cX1_layersAheadOf 27 = .ok (.if_icmp .ge 21, 3) := by decide +kernel
theorem dX1_layersAheadOf_30 : decode cX1_layersAheadOf 30 = .ok (.aload_n 0, 1) := by decide +kernel
theorem dX1_layersAheadOf_31 : decode cX1_layersAheadOf 31 = .ok (.getfield 9, 3) := by decide +kernel
theorem dX1_layersAheadOf_34 : decode cX1_layersAheadOf 34 = .ok (.iload_n 2, 1) := by decide +kernel
theorem dX1_layersAheadOf_35 : decode cX1_layersAheadOf 35 = .ok (.iaload, 1) := by decide +kernel
theorem dX1_layersAheadOf_36 : decode cX1_layersAheadOf 36 = .ok (.iload_n 1, 1) := by decide +kernel
theorem dX1_layersAheadOf_37 : decode cX1_layersAheadOf 37 = .ok (.if_icmp .ne 5, 3) := by decide +kernel
theorem dX1_layersAheadOf_40 : decode cX1_layersAheadOf 40 = .ok (.iload_n 2, 1) := by decide +kernel
theorem dX1_layersAheadOf_41 : decode cX1_layersAheadOf 41 = .ok (.ireturn, 1) := by decide +kernel
theorem dX1_layersAheadOf_42 : decode cX1_layersAheadOf 42 = .ok (.iinc 2 1, 3) := by decide +kernel
theorem dX1_layersAheadOf_45 : decode cX1_layersAheadOf 45 = .ok (.goto (-23), 3) := by decide +kernel
theorem dX1_layersAheadOf_48 : decode cX1_layersAheadOf 48 = .ok (.iconst (-1), 1) := by decide +kernel
theorem dX1_layersAheadOf_49 : decode cX1_layersAheadOf 49 = .ok (.ireturn, 1) := by decide +kernel
set_option maxRecDepth 20000 in
theorem ggX1_leastOf_X1_leastSum : GoodIn wsX1_leastOf wsX1_leastSum := goodIn_r _ [5, 6, 7, 8, 9, 4, 10, 11, 12, 13, 14, 15, 16, 17, 18, 19, 20, 21, 22, 23, 24, 25, 26, 27, 28, 29, 30, 31, 32, 33, 34, 35, 36, 37, 38, 39, 40, 41, 42, 43, 44, 45, 46, 47, 48, 49, 50, 51, 52, 53, 54, 55, 56, 57, 58, 59, 60, 61, 62, 63, 64, 65, 66, 67, 68, 69, 70, 71, 72, 73] (by decide +kernel) (by decide +kernel)
set_option maxRecDepth 20000 in
theorem gX1_leastOf_X1_leastSum : GoodIn wsX1_leastOf (wsV RX1 140 RX1 yX1_leastSum wsX1_leastSum) := goodIn_app (goodIn_of _ (by decide +kernel)) ggX1_leastOf_X1_leastSum
theorem dX1_leastOf_0 : decode cX1_leastOf 0 = .ok (.aload_n 0, 1) := by decide +kernel
theorem dX1_leastOf_1 : decode cX1_leastOf 1 = .ok (.iload_n 1, 1) := by decide +kernel
theorem dX1_leastOf_2 : decode cX1_leastOf 2 = .ok (.iload_n 1, 1) := by decide +kernel
theorem dX1_leastOf_3 : decode cX1_leastOf 3 = .ok (.invokevirtual 140, 3) := by decide +kernel
theorem dX1_leastOf_6 : decode cX1_leastOf 6 = .ok (.ireturn, 1) := by decide +kernel
set_option maxRecDepth 20000 in
theorem ggX1_greatestOf_X1_greatestSum : GoodIn wsX1_greatestOf wsX1_greatestSum := goodIn_r _ [5, 6, 7, 8, 9, 4, 10, 11, 12, 13, 14, 15, 16, 17, 18, 19, 20, 21, 22, 23, 24, 25, 26, 27, 28, 29, 30, 31, 32, 33, 34, 35, 36, 37, 38, 39, 40, 41, 42, 43, 44, 45, 46, 47, 48, 49, 50, 51, 52, 53, 54, 55, 56, 57, 58, 59, 60, 61, 62, 63, 64, 65, 66, 67, 68, 69, 70, 71, 72, 73] (by decide +kernel) (by decide +kernel)
set_option maxRecDepth 20000 in
theorem gX1_greatestOf_X1_greatestSum : GoodIn wsX1_greatestOf (wsV RX1 143 RX1 yX1_greatestSum wsX1_greatestSum) := goodIn_app (goodIn_of _ (by decide +kernel)) ggX1_greatestOf_X1_greatestSum
theorem dX1_greatestOf_0 : decode cX1_greatestOf 0 = .ok (.aload_n 0, 1) := by decide +kernel
theorem dX1_greatestOf_1 : decode cX1_greatestOf 1 = .ok (.iload_n 1, 1) := by decide +kernel
theorem dX1_greatestOf_2 : decode cX1_greatestOf 2 = .ok (.iload_n 1, 1) := by decide +kernel
theorem dX1_greatestOf_3 : decode cX1_greatestOf 3 = .ok (.invokevirtual 143, 3) := by decide +kernel
theorem dX1_greatestOf_6 : decode cX1_greatestOf 6 = .ok (.ireturn, 1) := by decide +kernel
set_option maxRecDepth 20000 in
theorem ggX1_isKnown_X1_isLayer : GoodIn wsX1_isKnown wsX1_isLayer := goodIn_r _ [6, 7, 8, 9, 5, 10, 54, 55, 56, 57, 58, 59, 60, 61, 62, 63, 64, 65, 66, 67, 68, 69] (by decide +kernel) (by decide +kernel)
set_option maxRecDepth 20000 in
theorem gX1_isKnown_X1_isLayer : GoodIn wsX1_isKnown (wsV RX1 51 RX1 yX1_isLayer wsX1_isLayer) := goodIn_app (goodIn_of _ (by decide +kernel)) ggX1_isKnown_X1_isLayer
set_option maxRecDepth 20000 in
theorem ggX1_isKnown_X1_isNot : GoodIn wsX1_isKnown wsX1_isNot := goodIn_r _ [14, 1, 54, 55, 56, 57, 58, 59, 60, 61, 62, 63, 64, 65, 66, 67, 68, 69] (by decide +kernel) (by decide +kernel)
set_option maxRecDepth 20000 in
theorem gX1_isKnown_X1_isNot : GoodIn wsX1_isKnown (wsV RX1 146 RX1 yX1_isNot wsX1_isNot) := goodIn_app (goodIn_of _ (by decide +kernel)) ggX1_isKnown_X1_isNot
set_option maxRecDepth 20000 in
theorem ggX1_isKnown_X1_reckon : GoodIn wsX1_isKnown wsX1_reckon := goodIn_r _ [18, 19, 20, 21, 5, 22, 7, 23, 24, 25, 26, 27, 28, 29, 30, 31, 32, 33, 34, 35, 36, 37, 38, 39, 40, 41, 42, 43, 44, 45, 54, 55, 56, 57, 58, 59, 60, 61, 62, 63, 64, 65, 66, 67, 68, 69] (by decide +kernel) (by decide +kernel)
set_option maxRecDepth 20000 in
theorem gX1_isKnown_X1_reckon : GoodIn wsX1_isKnown (wsV RX1 149 RX1 yX1_reckon wsX1_reckon) := goodIn_app (goodIn_of _ (by decide +kernel)) ggX1_isKnown_X1_reckon
set_option maxRecDepth 20000 in
theorem ggX1_isKnown_X1_least : GoodIn wsX1_isKnown wsX1_least := goodIn_r _ [49, 23, 54, 55, 56, 57, 58, 59, 60, 61, 62, 63, 64, 65, 66, 67, 68, 69] (by decide +kernel) (by decide +kernel)
set_option maxRecDepth 20000 in
theorem gX1_isKnown_X1_least : GoodIn wsX1_isKnown (wsV RX1 82 RX1 yX1_least wsX1_least) := goodIn_app (goodIn_of _ (by decide +kernel)) ggX1_isKnown_X1_least
set_option maxRecDepth 20000 in
theorem ggX1_isKnown_X1_greatest : GoodIn wsX1_isKnown wsX1_greatest := goodIn_r _ [53, 23, 54, 55, 56, 57, 58, 59, 60, 61, 62, 63, 64, 65, 66, 67, 68, 69] (by decide +kernel) (by decide +kernel)
set_option maxRecDepth 20000 in
theorem gX1_isKnown_X1_greatest : GoodIn wsX1_isKnown (wsV RX1 79 RX1 yX1_greatest wsX1_greatest) := goodIn_app (goodIn_of _ (by decide +kernel)) ggX1_isKnown_X1_greatest
theorem dX1_isKnown_0 : decode cX1_isKnown 0 = .ok (.aload_n 0, 1) := by decide +kernel
theorem dX1_isKnown_1 : decode cX1_isKnown 1 = .ok (.iconst 0, 1) := by decide +kernel
theorem dX1_isKnown_2 : decode cX1_isKnown 2 = .ok (.putfield 41, 3) := by decide +kernel
theorem dX1_isKnown_5 : decode cX1_isKnown 5 = .ok (.aload_n 0, 1) := by decide +kernel
theorem dX1_isKnown_6 : decode cX1_isKnown 6 = .ok (.iload_n 1, 1) := by decide +kernel
theorem dX1_isKnown_7 : decode cX1_isKnown 7 = .ok (.invokevirtual 51, 3) := by decide +kernel
theorem dX1_isKnown_10 : decode cX1_isKnown 10 = .ok (.ifCond .ne 9, 3) := by decide +kernel
theorem dX1_isKnown_13 : decode cX1_isKnown 13 = .ok (.aload_n 0, 1) := by decide +kernel
theorem dX1_isKnown_14 : decode cX1_isKnown 14 = .ok (.iconst 1, 1) := by decide +kernel
theorem dX1_isKnown_15 : decode cX1_isKnown 15 = .ok (.invokevirtual 146, 3) := by decide +kernel
theorem dX1_isKnown_18 : decode cX1_isKnown 18 = .ok (.ireturn, 1) := by decide +kernel
theorem dX1_isKnown_19 : decode cX1_isKnown 19 = .ok (.aload_n 0, 1) := by decide +kernel
theorem dX1_isKnown_20 : decode cX1_isKnown 20 = .ok (.invokevirtual 149, 3) := by decide +kernel
theorem dX1_isKnown_23 : decode cX1_isKnown 23 = .ok (.aload_n 0, 1) := by decide +kernel
theorem dX1_isKnown_24 : decode cX1_isKnown 24 = .ok (.iload_n 1, 1) := by decide +kernel
theorem dX1_isKnown_25 : decode cX1_isKnown 25 = .ok (.iload_n 1, 1) := by decide +kernel
theorem dX1_isKnown_26 : decode cX1_isKnown 26 = .ok (.invokevirtual 82, 3) := by decide +kernel
theorem dX1_isKnown_29 : decode cX1_isKnown 29 = .ok (.aload_n 0, 1) := by decide +kernel
theorem dX1_isKnown_30 : decode cX1_isKnown 30 = .ok (.iload_n 1, 1) := by decide +kernel
theorem dX1_isKnown_31 : decode cX1_isKnown 31 = .ok (.iload_n 1, 1) := by decide +kernel
theorem dX1_isKnown_32 : decode cX1_isKnown 32 = .ok (.invokevirtual 79, 3) := by decide +kernel
theorem dX1_isKnown_35 : decode cX1_isKnown 35 = .ok (.if_icmp .ne 7, 3) := by decide +kernel
theorem dX1_isKnown_38 : decode cX1_isKnown 38 = .ok (.iconst 1, 1) := by decide +kernel
theorem dX1_isKnown_39 : decode cX1_isKnown 39 = .ok (.goto 4, 3) := by decide +kernel
theorem dX1_isKnown_42 : decode cX1_isKnown 42 = .ok (.iconst 0, 1) := by decide +kernel
theorem dX1_isKnown_43 : decode cX1_isKnown 43 = .ok (.ireturn, 1) := by decide +kernel
set_option maxRecDepth 20000 in
theorem ggX1_surely_X1_greatest : GoodIn wsX1_surely wsX1_greatest := goodIn_r _ [7, 8, 13, 14, 15, 16, 17, 18, 19, 20, 21, 22, 23, 24, 25, 26, 27, 28] (by decide +kernel) (by decide +kernel)
set_option maxRecDepth 20000 in
theorem gX1_surely_X1_greatest : GoodIn wsX1_surely (wsV RX1 79 RX1 yX1_greatest wsX1_greatest) := goodIn_app (goodIn_of _ (by decide +kernel)) ggX1_surely_X1_greatest
set_option maxRecDepth 20000 in
theorem ggX1_surely_X1_least : GoodIn wsX1_surely wsX1_least := goodIn_r _ [12, 8, 13, 14, 15, 16, 17, 18, 19, 20, 21, 22, 23, 24, 25, 26, 27, 28] (by decide +kernel) (by decide +kernel)
set_option maxRecDepth 20000 in
theorem gX1_surely_X1_least : GoodIn wsX1_surely (wsV RX1 82 RX1 yX1_least wsX1_least) := goodIn_app (goodIn_of _ (by decide +kernel)) ggX1_surely_X1_least
theorem dX1_surely_0 : decode cX1_surely 0 = .ok (.iconst 0, 1) := by decide +kernel
theorem dX1_surely_1 : decode cX1_surely 1 = .ok (.istore_n 2, 1) := by decide +kernel
theorem dX1_surely_2 : decode cX1_surely 2 = .ok (.iconst 0, 1) := by decide +kernel
theorem dX1_surely_3 : decode cX1_surely 3 = .ok (.istore_n 3, 1) := by decide +kernel
theorem dX1_surely_4 : decode cX1_surely 4 = .ok (.iload_n 3, 1) := by decide +kernel
theorem dX1_surely_5 : decode cX1_surely 5 = .ok (.aload_n 0, 1) := by decide +kernel
theorem dX1_surely_6 : decode cX1_surely 6 = .ok (.getfield 44, 3) := by decide +kernel
theorem dX1_surely_9 : decode cX1_surely 9 = .ok (.if_icmp .ge 55, 3) := by decide +kernel
theorem dX1_surely_12 : decode cX1_surely 12 = .ok (.iload_n 2, 1) := by decide +kernel
theorem dX1_surely_13 : decode cX1_surely 13 = .ok (.iload_n 1, 1) := by decide +kernel
theorem dX1_surely_14 : decode cX1_surely 14 = .ok (.ifCond .eq 24, 3) := by decide +kernel
theorem dX1_surely_17 : decode cX1_surely 17 = .ok (.aload_n 0, 1) := by decide +kernel
theorem dX1_surely_18 : decode cX1_surely 18 = .ok (.iload_n 3, 1) := by decide +kernel
theorem dX1_surely_19 : decode cX1_surely 19 = .ok (.iload_n 3, 1) := by decide +kernel
theorem dX1_surely_20 : decode cX1_surely 20 = .ok (.invokevirtual 79, 3) := by decide +kernel
theorem dX1_surely_23 : decode cX1_surely 23 = .ok (.aload_n 0, 1) := by decide +kernel
theorem dX1_surely_24 : decode cX1_surely 24 = .ok (.getfield 28, 3) := by decide +kernel
theorem dX1_surely_27 : decode cX1_surely 27 = .ok (.if_icmp .gt 7, 3) := by decide +kernel
theorem dX1_surely_30 : decode cX1_surely 30 = .ok (.iconst 1, 1) := by decide +kernel
theorem dX1_surely_31 : decode cX1_surely 31 = .ok (.goto 25, 3) := by decide +kernel
theorem dX1_surely_34 : decode cX1_surely 34 = .ok (.iconst 0, 1) := by decide +kernel
theorem dX1_surely_35 : decode cX1_surely 35 = .ok (.goto 21, 3) := by decide +kernel
theorem dX1_surely_38 : decode cX1_surely 38 = .ok (.aload_n 0, 1) := by decide +kernel
theorem dX1_surely_39 : decode cX1_surely 39 = .ok (.iload_n 3, 1) := by decide +kernel
theorem dX1_surely_40 : decode cX1_surely 40 = .ok (.iload_n 3, 1) := by decide +kernel
theorem dX1_surely_41 : decode cX1_surely 41 = .ok (.invokevirtual 82, 3) := by decide +kernel
theorem dX1_surely_44 : decode cX1_surely 44 = .ok (.aload_n 0, 1) := by decide +kernel
theorem dX1_surely_45 : decode cX1_surely 45 = .ok (.getfield 28, 3) := by decide +kernel
theorem dX1_surely_48 : decode cX1_surely 48 = .ok (.if_icmp .le 7, 3) := by decide +kernel
theorem dX1_surely_51 : decode cX1_surely 51 = .ok (.iconst 1, 1) := by decide +kernel
theorem dX1_surely_52 : decode cX1_surely 52 = .ok (.goto 4, 3) := by decide +kernel
theorem dX1_surely_55 : decode cX1_surely 55 = .ok (.iconst 0, 1) := by decide +kernel
theorem dX1_surely_56 : decode cX1_surely 56 = .ok (.iadd, 1) := by decide +kernel
theorem dX1_surely_57 : decode cX1_surely 57 = .ok (.istore_n 2, 1) := by decide +kernel
theorem dX1_surely_58 : decode cX1_surely 58 = .ok (.iinc 3 1, 3) := by decide +kernel
theorem dX1_surely_61 : decode cX1_surely 61 = .ok (.goto (-57), 3) := by decide +kernel
theorem dX1_surely_64 : decode cX1_surely 64 = .ok (.iload_n 2, 1) := by decide +kernel
theorem dX1_surely_65 : decode cX1_surely 65 = .ok (.ireturn, 1) := by decide +kernel
set_option maxRecDepth 20000 in
theorem ggX1_surelyDry_X1_reckon : GoodIn wsX1_surelyDry wsX1_reckon := goodIn_r _ [5, 6, 7, 8, 4, 9, 10, 11, 12, 13, 14, 15, 16, 17, 18, 19, 20, 21, 22, 23, 24, 25, 26, 27, 28, 29, 30, 31, 32, 33, 52, 53, 54, 55, 56, 57, 58, 59, 60, 61, 62, 63, 64, 65, 66, 67] (by decide +kernel) (by decide +kernel)
set_option maxRecDepth 20000 in
theorem gX1_surelyDry_X1_reckon : GoodIn wsX1_surelyDry (wsV RX1 149 RX1 yX1_reckon wsX1_reckon) := goodIn_app (goodIn_of _ (by decide +kernel)) ggX1_surelyDry_X1_reckon
set_option maxRecDepth 20000 in
theorem ggX1_surelyDry_X1_surely : GoodIn wsX1_surelyDry wsX1_surely := goodIn_r _ [37, 10, 38, 39, 40, 41, 4, 42, 11, 43, 44, 45, 46, 52, 53, 54, 55, 56, 57, 58, 59, 60, 61, 62, 63, 64, 65, 66, 67] (by decide +kernel) (by decide +kernel)
set_option maxRecDepth 20000 in
theorem gX1_surelyDry_X1_surely : GoodIn wsX1_surelyDry (wsV RX1 152 RX1 yX1_surely wsX1_surely) := goodIn_app (goodIn_of _ (by decide +kernel)) ggX1_surelyDry_X1_surely
set_option maxRecDepth 20000 in
theorem ggX1_surelyDry_X1_ok : GoodIn wsX1_surelyDry wsX1_ok := goodIn_r _ [50, 51, 52, 53, 54, 55, 56, 57, 58, 59, 60, 61, 62, 63, 64, 65, 66, 67] (by decide +kernel) (by decide +kernel)
set_option maxRecDepth 20000 in
theorem gX1_surelyDry_X1_ok : GoodIn wsX1_surelyDry (wsV RX1 133 RX1 yX1_ok wsX1_ok) := goodIn_app (goodIn_of _ (by decide +kernel)) ggX1_surelyDry_X1_ok
theorem dX1_surelyDry_0 : decode cX1_surelyDry 0 = .ok (.aload_n 0, 1) := by decide +kernel
theorem dX1_surelyDry_1 : decode cX1_surelyDry 1 = .ok (.invokevirtual 149, 3) := by decide +kernel
theorem dX1_surelyDry_4 : decode cX1_surelyDry 4 = .ok (.aload_n 0, 1) := by decide +kernel
theorem dX1_surelyDry_5 : decode cX1_surelyDry 5 = .ok (.aload_n 0, 1) := by decide +kernel
theorem dX1_surelyDry_6 : decode cX1_surelyDry 6 = .ok (.iconst 1, 1) := by decide +kernel
theorem dX1_surelyDry_7 : decode cX1_surelyDry 7 = .ok (.invokevirtual 152, 3) := by decide +kernel
theorem dX1_surelyDry_10 : decode cX1_surelyDry 10 = .ok (.invokevirtual 133, 3) := by decide +kernel
theorem dX1_surelyDry_13 : decode cX1_surelyDry 13 = .ok (.ireturn, 1) := by decide +kernel
set_option maxRecDepth 20000 in
theorem ggX1_surelyDamp_X1_reckon : GoodIn wsX1_surelyDamp wsX1_reckon := goodIn_r _ [5, 6, 7, 8, 4, 9, 10, 11, 12, 13, 14, 15, 16, 17, 18, 19, 20, 21, 22, 23, 24, 25, 26, 27, 28, 29, 30, 31, 32, 33, 52, 53, 54, 55, 56, 57, 58, 59, 60, 61, 62, 63, 64, 65, 66, 67] (by decide +kernel) (by decide +kernel)
set_option maxRecDepth 20000 in
theorem gX1_surelyDamp_X1_reckon : GoodIn wsX1_surelyDamp (wsV RX1 149 RX1 yX1_reckon wsX1_reckon) := goodIn_app (goodIn_of _ (by decide +kernel)) ggX1_surelyDamp_X1_reckon
set_option maxRecDepth 20000 in
theorem ggX1_surelyDamp_X1_surely : GoodIn wsX1_surelyDamp wsX1_surely := goodIn_r _ [37, 10, 38, 39, 40, 41, 4, 42, 11, 43, 44, 45, 46, 52, 53, 54, 55, 56, 57, 58, 59, 60, 61, 62, 63, 64, 65, 66, 67] (by decide +kernel) (by decide +kernel)
set_option maxRecDepth 20000 in
theorem gX1_surelyDamp_X1_surely : GoodIn wsX1_surelyDamp (wsV RX1 152 RX1 yX1_surely wsX1_surely) := goodIn_app (goodIn_of _ (by decide +kernel)) ggX1_surelyDamp_X1_surely
set_option maxRecDepth 20000 in
theorem ggX1_surelyDamp_X1_ok : GoodIn wsX1_surelyDamp wsX1_ok := goodIn_r _ [50, 51, 52, 53, 54, 55, 56, 57, 58, 59, 60, 61, 62, 63, 64, 65, 66, 67] (by decide +kernel) (by decide +kernel)
set_option maxRecDepth 20000 in
theorem gX1_surelyDamp_X1_ok : GoodIn wsX1_surelyDamp (wsV RX1 133 RX1 yX1_ok wsX1_ok) := goodIn_app (goodIn_of _ (by decide +kernel)) ggX1_surelyDamp_X1_ok
theorem dX1_surelyDamp_0 : decode cX1_surelyDamp 0 = .ok (.aload_n 0, 1) := by decide +kernel
theorem dX1_surelyDamp_1 : decode cX1_surelyDamp 1 = .ok (.invokevirtual 149, 3) := by decide +kernel
theorem dX1_surelyDamp_4 : decode cX1_surelyDamp 4 = .ok (.aload_n 0, 1) := by decide +kernel
theorem dX1_surelyDamp_5 : decode cX1_surelyDamp 5 = .ok (.aload_n 0, 1) := by decide +kernel
theorem dX1_surelyDamp_6 : decode cX1_surelyDamp 6 = .ok (.iconst 0, 1) := by decide +kernel
theorem dX1_surelyDamp_7 : decode cX1_surelyDamp 7 = .ok (.invokevirtual 152, 3) := by decide +kernel
theorem dX1_surelyDamp_10 : decode cX1_surelyDamp 10 = .ok (.invokevirtual 133, 3) := by decide +kernel
theorem dX1_surelyDamp_13 : decode cX1_surelyDamp 13 = .ok (.ireturn, 1) := by decide +kernel
set_option maxRecDepth 20000 in
theorem ggX1_worstLayer_X1_no : GoodIn wsX1_worstLayer wsX1_no := goodIn_r _ [7, 1, 43, 44, 45, 46, 47, 48, 49, 50, 51, 52, 53, 54, 55, 56, 57, 58] (by decide +kernel) (by decide +kernel)
set_option maxRecDepth 20000 in
theorem gX1_worstLayer_X1_no : GoodIn wsX1_worstLayer (wsV RX1 92 RX1 yX1_no wsX1_no) := goodIn_app (goodIn_of _ (by decide +kernel)) ggX1_worstLayer_X1_no
set_option maxRecDepth 20000 in
theorem ggX1_worstLayer_X1_reckon : GoodIn wsX1_worstLayer wsX1_reckon := goodIn_r _ [11, 12, 13, 14, 6, 15, 2, 16, 17, 18, 19, 20, 21, 22, 23, 24, 25, 26, 27, 28, 29, 30, 31, 32, 33, 34, 35, 36, 37, 38, 43, 44, 45, 46, 47, 48, 49, 50, 51, 52, 53, 54, 55, 56, 57, 58] (by decide +kernel) (by decide +kernel)
set_option maxRecDepth 20000 in
theorem gX1_worstLayer_X1_reckon : GoodIn wsX1_worstLayer (wsV RX1 149 RX1 yX1_reckon wsX1_reckon) := goodIn_app (goodIn_of _ (by decide +kernel)) ggX1_worstLayer_X1_reckon
set_option maxRecDepth 20000 in
theorem ggX1_worstLayer_X1_greatest : GoodIn wsX1_worstLayer wsX1_greatest := goodIn_r _ [42, 16, 43, 44, 45, 46, 47, 48, 49, 50, 51, 52, 53, 54, 55, 56, 57, 58] (by decide +kernel) (by decide +kernel)
set_option maxRecDepth 20000 in
theorem gX1_worstLayer_X1_greatest : GoodIn wsX1_worstLayer (wsV RX1 79 RX1 yX1_greatest wsX1_greatest) := goodIn_app (goodIn_of _ (by decide +kernel)) ggX1_worstLayer_X1_greatest
theorem dX1_worstLayer_0 : decode cX1_worstLayer 0 = .ok (.aload_n 0, 1) := by decide +kernel
theorem dX1_worstLayer_1 : decode cX1_worstLayer 1 = .ok (.iconst 0, 1) := by decide +kernel
theorem dX1_worstLayer_2 : decode cX1_worstLayer 2 = .ok (.putfield 41, 3) := by decide +kernel
theorem dX1_worstLayer_5 : decode cX1_worstLayer 5 = .ok (.aload_n 0, 1) := by decide +kernel
theorem dX1_worstLayer_6 : decode cX1_worstLayer 6 = .ok (.getfield 44, 3) := by decide +kernel
theorem dX1_worstLayer_9 : decode cX1_worstLayer 9 = .ok (.ifCond .ne 9, 3) := by decide +kernel
theorem dX1_worstLayer_12 : decode cX1_worstLayer 12 = .ok (.aload_n 0, 1) := by decide +kernel
theorem dX1_worstLayer_13 : decode cX1_worstLayer 13 = .ok (.iconst 1, 1) := by decide +kernel
theorem dX1_worstLayer_14 : decode cX1_worstLayer 14 = .ok (.invokevirtual 92, 3) := by decide +kernel
theorem dX1_worstLayer_17 : decode cX1_worstLayer 17 = .ok (.ireturn, 1) := by decide +kernel
theorem dX1_worstLayer_18 : decode cX1_worstLayer 18 = .ok (.aload_n 0, 1) := by decide +kernel
theorem dX1_worstLayer_19 : decode cX1_worstLayer 19 = .ok (.invokevirtual 149, 3) := by decide +kernel
theorem dX1_worstLayer_22 : decode cX1_worstLayer 22 = .ok (.iconst 0, 1) := by decide +kernel
theorem dX1_worstLayer_23 : decode cX1_worstLayer 23 = .ok (.istore_n 1, 1) := by decide +kernel
theorem dX1_worstLayer_24 : decode cX1_worstLayer 24 = .ok (.iconst 1, 1) := by decide +kernel
theorem dX1_worstLayer_25 : decode cX1_worstLayer 25 = .ok (.istore_n 2, 1) := by decide +kernel
theorem dX1_worstLayer_26 : decode cX1_worstLayer 26 = .ok (.iload_n 2, 1) := by decide +kernel
theorem dX1_worstLayer_27 : decode cX1_worstLayer 27 = .ok (.aload_n 0, 1) := by decide +kernel
theorem dX1_worstLayer_28 : decode cX1_worstLayer 28 = .ok (.getfield 44, 3) := by decide +kernel
theorem dX1_worstLayer_31 : decode cX1_worstLayer 31 = .ok (.if_icmp .ge 26, 3) := by decide +kernel
theorem dX1_worstLayer_34 : decode cX1_worstLayer 34 = .ok (.aload_n 0, 1) := by decide +kernel
theorem dX1_worstLayer_35 : decode cX1_worstLayer 35 = .ok (.iload_n 2, 1) := by decide +kernel
theorem dX1_worstLayer_36 : decode cX1_worstLayer 36 = .ok (.iload_n 2, 1) := by decide +kernel
theorem dX1_worstLayer_37 : decode cX1_worstLayer 37 = .ok (.invokevirtual 79, 3) := by decide +kernel
theorem dX1_worstLayer_40 : decode cX1_worstLayer 40 = .ok (.aload_n 0, 1) := by decide +kernel
theorem dX1_worstLayer_41 : decode cX1_worstLayer 41 = .ok (.iload_n 1, 1) := by decide +kernel
theorem dX1_worstLayer_42 : decode cX1_worstLayer 42 = .ok (.iload_n 1, 1) := by decide +kernel
theorem dX1_worstLayer_43 : decode cX1_worstLayer 43 = .ok (.invokevirtual 79, 3) := by decide +kernel
theorem dX1_worstLayer_46 : decode cX1_worstLayer 46 = .ok (.if_icmp .le 5, 3) := by decide +kernel
theorem dX1_worstLayer_49 : decode cX1_worstLayer 49 = .ok (.iload_n 2, 1) := by decide +kernel
theorem dX1_worstLayer_50 : decode cX1_worstLayer 50 = .ok (.istore_n 1, 1) := by decide +kernel
theorem dX1_worstLayer_51 : decode cX1_worstLayer 51 = .ok (.iinc 2 1, 3) := by decide +kernel
theorem dX1_worstLayer_54 : decode cX1_worstLayer 54 = .ok (.goto (-28), 3) := by decide +kernel
theorem dX1_worstLayer_57 : decode cX1_worstLayer 57 = .ok (.iload_n 1, 1) := by decide +kernel
theorem dX1_worstLayer_58 : decode cX1_worstLayer 58 = .ok (.ireturn, 1) := by decide +kernel
set_option maxRecDepth 20000 in
theorem ggX1_doubt_X1_reckon : GoodIn wsX1_doubt wsX1_reckon := goodIn_r _ [5, 6, 7, 8, 4, 9, 10, 11, 12, 13, 14, 15, 16, 17, 18, 19, 20, 21, 22, 23, 24, 25, 26, 27, 28, 29, 30, 31, 32, 33, 51, 52, 53, 54, 55, 56, 57, 58, 59, 60, 61, 62, 63, 64, 65, 66] (by decide +kernel) (by decide +kernel)
set_option maxRecDepth 20000 in
theorem gX1_doubt_X1_reckon : GoodIn wsX1_doubt (wsV RX1 149 RX1 yX1_reckon wsX1_reckon) := goodIn_app (goodIn_of _ (by decide +kernel)) ggX1_doubt_X1_reckon
set_option maxRecDepth 20000 in
theorem ggX1_doubt_X1_allDoubt : GoodIn wsX1_doubt wsX1_allDoubt := goodIn_r _ [37, 10, 38, 39, 40, 4, 41, 11, 42, 43, 44, 45, 51, 52, 53, 54, 55, 56, 57, 58, 59, 60, 61, 62, 63, 64, 65, 66] (by decide +kernel) (by decide +kernel)
set_option maxRecDepth 20000 in
theorem gX1_doubt_X1_allDoubt : GoodIn wsX1_doubt (wsV RX1 88 RX1 yX1_allDoubt wsX1_allDoubt) := goodIn_app (goodIn_of _ (by decide +kernel)) ggX1_doubt_X1_allDoubt
set_option maxRecDepth 20000 in
theorem ggX1_doubt_X1_ok : GoodIn wsX1_doubt wsX1_ok := goodIn_r _ [49, 50, 51, 52, 53, 54, 55, 56, 57, 58, 59, 60, 61, 62, 63, 64, 65, 66] (by decide +kernel) (by decide +kernel)
set_option maxRecDepth 20000 in
theorem gX1_doubt_X1_ok : GoodIn wsX1_doubt (wsV RX1 133 RX1 yX1_ok wsX1_ok) := goodIn_app (goodIn_of _ (by decide +kernel)) ggX1_doubt_X1_ok
theorem dX1_doubt_0 : decode cX1_doubt 0 = .ok (.aload_n 0, 1) := by decide +kernel
theorem dX1_doubt_1 : decode cX1_doubt 1 = .ok (.invokevirtual 149, 3) := by decide +kernel
theorem dX1_doubt_4 : decode cX1_doubt 4 = .ok (.aload_n 0, 1) := by decide +kernel
theorem dX1_doubt_5 : decode cX1_doubt 5 = .ok (.aload_n 0, 1) := by decide +kernel
theorem dX1_doubt_6 : decode cX1_doubt 6 = .ok (.invokevirtual 88, 3) := by decide +kernel
theorem dX1_doubt_9 : decode cX1_doubt 9 = .ok (.invokevirtual 133, 3) := by decide +kernel
theorem dX1_doubt_12 : decode cX1_doubt 12 = .ok (.ireturn, 1) := by decide +kernel
set_option maxRecDepth 20000 in
theorem ggX1_leastSum_X1_areLayers : GoodIn wsX1_leastSum wsX1_areLayers := goodIn_r _ [6, 7, 8, 9, 5, 10, 11, 12, 13, 14, 54, 55, 56, 57, 58, 59, 60, 61, 62, 63, 64, 65, 66, 67, 68, 69] (by decide +kernel) (by decide +kernel)
set_option maxRecDepth 20000 in
theorem gX1_leastSum_X1_areLayers : GoodIn wsX1_leastSum (wsV RX1 126 RX1 yX1_areLayers wsX1_areLayers) := goodIn_app (goodIn_of _ (by decide +kernel)) ggX1_leastSum_X1_areLayers
set_option maxRecDepth 20000 in
theorem ggX1_leastSum_X1_no : GoodIn wsX1_leastSum wsX1_no := goodIn_r _ [18, 1, 54, 55, 56, 57, 58, 59, 60, 61, 62, 63, 64, 65, 66, 67, 68, 69] (by decide +kernel) (by decide +kernel)
set_option maxRecDepth 20000 in
theorem gX1_leastSum_X1_no : GoodIn wsX1_leastSum (wsV RX1 92 RX1 yX1_no wsX1_no) := goodIn_app (goodIn_of _ (by decide +kernel)) ggX1_leastSum_X1_no
set_option maxRecDepth 20000 in
theorem ggX1_leastSum_X1_reckon : GoodIn wsX1_leastSum wsX1_reckon := goodIn_r _ [22, 23, 24, 25, 5, 26, 11, 27, 28, 29, 30, 31, 32, 33, 34, 35, 36, 37, 38, 39, 40, 41, 42, 43, 44, 45, 46, 47, 48, 49, 54, 55, 56, 57, 58, 59, 60, 61, 62, 63, 64, 65, 66, 67, 68, 69] (by decide +kernel) (by decide +kernel)
set_option maxRecDepth 20000 in
theorem gX1_leastSum_X1_reckon : GoodIn wsX1_leastSum (wsV RX1 149 RX1 yX1_reckon wsX1_reckon) := goodIn_app (goodIn_of _ (by decide +kernel)) ggX1_leastSum_X1_reckon
set_option maxRecDepth 20000 in
theorem ggX1_leastSum_X1_least : GoodIn wsX1_leastSum wsX1_least := goodIn_r _ [53, 27, 54, 55, 56, 57, 58, 59, 60, 61, 62, 63, 64, 65, 66, 67, 68, 69] (by decide +kernel) (by decide +kernel)
set_option maxRecDepth 20000 in
theorem gX1_leastSum_X1_least : GoodIn wsX1_leastSum (wsV RX1 82 RX1 yX1_least wsX1_least) := goodIn_app (goodIn_of _ (by decide +kernel)) ggX1_leastSum_X1_least
theorem dX1_leastSum_0 : decode cX1_leastSum 0 = .ok (.aload_n 0, 1) := by decide +kernel
theorem dX1_leastSum_1 : decode cX1_leastSum 1 = .ok (.iconst 0, 1) := by decide +kernel
theorem dX1_leastSum_2 : decode cX1_leastSum 2 = .ok (.putfield 41, 3) := by decide +kernel
theorem dX1_leastSum_5 : decode cX1_leastSum 5 = .ok (.aload_n 0, 1) := by decide +kernel
theorem dX1_leastSum_6 : decode cX1_leastSum 6 = .ok (.iload_n 1, 1) := by decide +kernel
theorem dX1_leastSum_7 : decode cX1_leastSum 7 = .ok (.iload_n 2, 1) := by decide +kernel
theorem dX1_leastSum_8 : decode cX1_leastSum 8 = .ok (.invokevirtual 126, 3) := by decide +kernel
theorem dX1_leastSum_11 : decode cX1_leastSum 11 = .ok (.ifCond .ne 9, 3) := by decide +kernel
theorem dX1_leastSum_14 : decode cX1_leastSum 14 = .ok (.aload_n 0, 1) := by decide +kernel
theorem dX1_leastSum_15 : decode cX1_leastSum 15 = .ok (.iconst 1, 1) := by decide +kernel
theorem dX1_leastSum_16 : decode cX1_leastSum 16 = .ok (.invokevirtual 92, 3) := by decide +kernel
theorem dX1_leastSum_19 : decode cX1_leastSum 19 = .ok (.ireturn, 1) := by decide +kernel
theorem dX1_leastSum_20 : decode cX1_leastSum 20 = .ok (.aload_n 0, 1) := by decide +kernel
theorem dX1_leastSum_21 : decode cX1_leastSum 21 = .ok (.invokevirtual 149, 3) := by decide +kernel
theorem dX1_leastSum_24 : decode cX1_leastSum 24 = .ok (.aload_n 0, 1) := by decide +kernel
theorem dX1_leastSum_25 : decode cX1_leastSum 25 = .ok (.iload_n 1, 1) := by decide +kernel
theorem dX1_leastSum_26 : decode cX1_leastSum 26 = .ok (.iload_n 2, 1) := by decide +kernel
theorem dX1_leastSum_27 : decode cX1_leastSum 27 = .ok (.invokevirtual 82, 3) := by decide +kernel
theorem dX1_leastSum_30 : decode cX1_leastSum 30 = .ok (.ireturn, 1) := by decide +kernel
set_option maxRecDepth 20000 in
theorem ggX1_greatestSum_X1_areLayers : GoodIn wsX1_greatestSum wsX1_areLayers := goodIn_r _ [6, 7, 8, 9, 5, 10, 11, 12, 13, 14, 54, 55, 56, 57, 58, 59, 60, 61, 62, 63, 64, 65, 66, 67, 68, 69] (by decide +kernel) (by decide +kernel)
set_option maxRecDepth 20000 in
theorem gX1_greatestSum_X1_areLayers : GoodIn wsX1_greatestSum (wsV RX1 126 RX1 yX1_areLayers wsX1_areLayers) := goodIn_app (goodIn_of _ (by decide +kernel)) ggX1_greatestSum_X1_areLayers
set_option maxRecDepth 20000 in
theorem ggX1_greatestSum_X1_no : GoodIn wsX1_greatestSum wsX1_no := goodIn_r _ [18, 1, 54, 55, 56, 57, 58, 59, 60, 61, 62, 63, 64, 65, 66, 67, 68, 69] (by decide +kernel) (by decide +kernel)
set_option maxRecDepth 20000 in
theorem gX1_greatestSum_X1_no : GoodIn wsX1_greatestSum (wsV RX1 92 RX1 yX1_no wsX1_no) := goodIn_app (goodIn_of _ (by decide +kernel)) ggX1_greatestSum_X1_no
set_option maxRecDepth 20000 in
theorem ggX1_greatestSum_X1_reckon : GoodIn wsX1_greatestSum wsX1_reckon := goodIn_r _ [22, 23, 24, 25, 5, 26, 11, 27, 28, 29, 30, 31, 32, 33, 34, 35, 36, 37, 38, 39, 40, 41, 42, 43, 44, 45, 46, 47, 48, 49, 54, 55, 56, 57, 58, 59, 60, 61, 62, 63, 64, 65, 66, 67, 68, 69] (by decide +kernel) (by decide +kernel)
set_option maxRecDepth 20000 in
theorem gX1_greatestSum_X1_reckon : GoodIn wsX1_greatestSum (wsV RX1 149 RX1 yX1_reckon wsX1_reckon) := goodIn_app (goodIn_of _ (by decide +kernel)) ggX1_greatestSum_X1_reckon
set_option maxRecDepth 20000 in
theorem ggX1_greatestSum_X1_greatest : GoodIn wsX1_greatestSum wsX1_greatest := goodIn_r _ [53, 27, 54, 55, 56, 57, 58, 59, 60, 61, 62, 63, 64, 65, 66, 67, 68, 69] (by decide +kernel) (by decide +kernel)
set_option maxRecDepth 20000 in
theorem gX1_greatestSum_X1_greatest : GoodIn wsX1_greatestSum (wsV RX1 79 RX1 yX1_greatest wsX1_greatest) := goodIn_app (goodIn_of _ (by decide +kernel)) ggX1_greatestSum_X1_greatest
theorem dX1_greatestSum_0 : decode cX1_greatestSum 0 = .ok (.aload_n 0, 1) := by decide +kernel
theorem dX1_greatestSum_1 : decode cX1_greatestSum 1 = .ok (.iconst 0, 1) := by decide +kernel
theorem dX1_greatestSum_2 : decode cX1_greatestSum 2 = .ok (.putfield 41, 3) := by decide +kernel
theorem dX1_greatestSum_5 : decode cX1_greatestSum 5 = .ok (.aload_n 0, 1) := by decide +kernel
theorem dX1_greatestSum_6 : decode cX1_greatestSum 6 = .ok (.iload_n 1, 1) := by decide +kernel
theorem dX1_greatestSum_7 : decode cX1_greatestSum 7 = .ok (.iload_n 2, 1) := by decide +kernel
theorem dX1_greatestSum_8 : decode cX1_greatestSum 8 = .ok (.invokevirtual 126, 3) := by decide +kernel
theorem dX1_greatestSum_11 : decode cX1_greatestSum 11 = .ok (.ifCond .ne 9, 3) := by decide +kernel
theorem dX1_greatestSum_14 : decode cX1_greatestSum 14 = .ok (.aload_n 0, 1) := by decide +kernel
theorem dX1_greatestSum_15 : decode cX1_greatestSum 15 = .ok (.iconst 1, 1) := by decide +kernel
theorem dX1_greatestSum_16 : decode cX1_greatestSum 16 = .ok (.invokevirtual 92, 3) := by decide +kernel
theorem dX1_greatestSum_19 : decode cX1_greatestSum 19 = .ok (.ireturn, 1) := by decide +kernel
theorem dX1_greatestSum_20 : decode cX1_greatestSum 20 = .ok (.aload_n 0, 1) := by decide +kernel
theorem dX1_greatestSum_21 : decode cX1_greatestSum 21 = .ok (.invokevirtual 149, 3) := by decide +kernel
theorem dX1_greatestSum_24 : decode cX1_greatestSum 24 = .ok (.aload_n 0, 1) := by decide +kernel
theorem dX1_greatestSum_25 : decode cX1_greatestSum 25 = .ok (.iload_n 1, 1) := by decide +kernel
theorem dX1_greatestSum_26 : decode cX1_greatestSum 26 = .ok (.iload_n 2, 1) := by decide +kernel
theorem dX1_greatestSum_27 : decode cX1_greatestSum 27 = .ok (.invokevirtual 79, 3) := by decide +kernel
theorem dX1_greatestSum_30 : decode cX1_greatestSum 30 = .ok (.ireturn, 1) := by decide +kernel
set_option maxRecDepth 20000 in
theorem ggX1_doubtBehind_X1_areLayers : GoodIn wsX1_doubtBehind wsX1_areLayers := goodIn_r _ [6, 7, 8, 9, 5, 10, 11, 12, 13, 14, 67, 68, 69, 70, 71, 72, 73, 74, 75, 76, 77, 78, 79, 80, 81, 82] (by decide +kernel) (by decide +kernel)
set_option maxRecDepth 20000 in
theorem gX1_doubtBehind_X1_areLayers : GoodIn wsX1_doubtBehind (wsV RX1 126 RX1 yX1_areLayers wsX1_areLayers) := goodIn_app (goodIn_of _ (by decide +kernel)) ggX1_doubtBehind_X1_areLayers
set_option maxRecDepth 20000 in
theorem ggX1_doubtBehind_X1_behind : GoodIn wsX1_doubtBehind wsX1_behind := goodIn_r _ [18, 19, 20, 21, 5, 22, 11, 23, 24, 25, 26, 27, 28, 29, 30, 31, 32, 33, 34, 35, 36, 37, 38, 39, 40, 41, 42, 43, 44, 45, 46, 47, 48, 49, 50, 51, 52, 53, 54, 55, 56, 57, 58, 59, 60, 61, 62, 67, 68, 69, 70, 71, 72, 73, 74, 75, 76, 77, 78, 79, 80, 81, 82] (by decide +kernel) (by decide +kernel)
set_option maxRecDepth 20000 in
theorem gX1_doubtBehind_X1_behind : GoodIn wsX1_doubtBehind (wsV RX1 156 RX1 yX1_behind wsX1_behind) := goodIn_app (goodIn_of _ (by decide +kernel)) ggX1_doubtBehind_X1_behind
set_option maxRecDepth 20000 in
theorem ggX1_doubtBehind_X1_no : GoodIn wsX1_doubtBehind wsX1_no := goodIn_r _ [66, 1, 67, 68, 69, 70, 71, 72, 73, 74, 75, 76, 77, 78, 79, 80, 81, 82] (by decide +kernel) (by decide +kernel)
set_option maxRecDepth 20000 in
theorem gX1_doubtBehind_X1_no : GoodIn wsX1_doubtBehind (wsV RX1 92 RX1 yX1_no wsX1_no) := goodIn_app (goodIn_of _ (by decide +kernel)) ggX1_doubtBehind_X1_no
theorem dX1_doubtBehind_0 : decode cX1_doubtBehind 0 = .ok (.aload_n 0, 1) := by decide +kernel
theorem dX1_doubtBehind_1 : decode cX1_doubtBehind 1 = .ok (.iconst 0, 1) := by decide +kernel
theorem dX1_doubtBehind_2 : decode cX1_doubtBehind 2 = .ok (.putfield 41, 3) := by decide +kernel
theorem dX1_doubtBehind_5 : decode cX1_doubtBehind 5 = .ok (.aload_n 0, 1) := by decide +kernel
theorem dX1_doubtBehind_6 : decode cX1_doubtBehind 6 = .ok (.iload_n 1, 1) := by decide +kernel
theorem dX1_doubtBehind_7 : decode cX1_doubtBehind 7 = .ok (.iload_n 2, 1) := by decide +kernel
theorem dX1_doubtBehind_8 : decode cX1_doubtBehind 8 = .ok (.invokevirtual 126, 3) := by decide +kernel
theorem dX1_doubtBehind_11 : decode cX1_doubtBehind 11 = .ok (.ifCond .eq 12, 3) := by decide +kernel
theorem dX1_doubtBehind_14 : decode cX1_doubtBehind 14 = .ok (.aload_n 0, 1) := by decide +kernel
theorem dX1_doubtBehind_15 : decode cX1_doubtBehind 15 = .ok (.iload_n 1, 1) := by decide +kernel
theorem dX1_doubtBehind_16 : decode cX1_doubtBehind 16 = .ok (.iload_n 2, 1) := by decide +kernel
theorem dX1_doubtBehind_17 : decode cX1_doubtBehind 17 = .ok (.invokevirtual 156, 3) := by decide +kernel
theorem dX1_doubtBehind_20 : decode cX1_doubtBehind 20 = .ok (.goto 8, 3) := by decide +kernel
theorem dX1_doubtBehind_23 : decode cX1_doubtBehind 23 = .ok (.aload_n 0, 1) := by decide +kernel
theorem dX1_doubtBehind_24 : decode cX1_doubtBehind 24 = .ok (.iconst 1, 1) := by decide +kernel
theorem dX1_doubtBehind_25 : decode cX1_doubtBehind 25 = .ok (.invokevirtual 92, 3) := by decide +kernel
theorem dX1_doubtBehind_28 : decode cX1_doubtBehind 28 = .ok (.ireturn, 1) := by decide +kernel
set_option maxRecDepth 20000 in
theorem ggX1_bestToLookAt_X1_no : GoodIn wsX1_bestToLookAt wsX1_no := goodIn_r _ [8, 1, 56, 57, 58, 59, 60, 61, 62, 63, 64, 65, 66, 67, 68, 69, 70, 71] (by decide +kernel) (by decide +kernel)
set_option maxRecDepth 20000 in
theorem gX1_bestToLookAt_X1_no : GoodIn wsX1_bestToLookAt (wsV RX1 92 RX1 yX1_no wsX1_no) := goodIn_app (goodIn_of _ (by decide +kernel)) ggX1_bestToLookAt_X1_no
set_option maxRecDepth 20000 in
theorem ggX1_bestToLookAt_X1_behind : GoodIn wsX1_bestToLookAt wsX1_behind := goodIn_r _ [12, 13, 14, 15, 7, 16, 2, 17, 3, 18, 19, 20, 21, 22, 23, 24, 25, 26, 27, 28, 29, 30, 31, 32, 33, 34, 35, 36, 37, 38, 39, 40, 41, 42, 43, 44, 45, 46, 47, 48, 49, 50, 51, 52, 53, 54, 55, 56, 57, 58, 59, 60, 61, 62, 63, 64, 65, 66, 67, 68, 69, 70, 71] (by decide +kernel) (by decide +kernel)
set_option maxRecDepth 20000 in
theorem gX1_bestToLookAt_X1_behind : GoodIn wsX1_bestToLookAt (wsV RX1 156 RX1 yX1_behind wsX1_behind) := goodIn_app (goodIn_of _ (by decide +kernel)) ggX1_bestToLookAt_X1_behind
theorem dX1_bestToLookAt_0 : decode cX1_bestToLookAt 0 = .ok (.aload_n 0, 1) := by decide +kernel
theorem dX1_bestToLookAt_1 : decode cX1_bestToLookAt 1 = .ok (.iconst 0, 1) := by decide +kernel
theorem dX1_bestToLookAt_2 : decode cX1_bestToLookAt 2 = .ok (.putfield 41, 3) := by decide +kernel
theorem dX1_bestToLookAt_5 : decode cX1_bestToLookAt 5 = .ok (.aload_n 0, 1) := by decide +kernel
theorem dX1_bestToLookAt_6 : decode cX1_bestToLookAt 6 = .ok (.getfield 44, 3) := by decide +kernel
theorem dX1_bestToLookAt_9 : decode cX1_bestToLookAt 9 = .ok (.ifCond .ne 9, 3) := by decide +kernel
theorem dX1_bestToLookAt_12 : decode cX1_bestToLookAt 12 = .ok (.aload_n 0, 1) := by decide +kernel
theorem dX1_bestToLookAt_13 : decode cX1_bestToLookAt 13 = .ok (.iconst 1, 1) := by decide +kernel
theorem dX1_bestToLookAt_14 : decode cX1_bestToLookAt 14 = .ok (.invokevirtual 92, 3) := by decide +kernel
theorem dX1_bestToLookAt_17 : decode cX1_bestToLookAt 17 = .ok (.ireturn, 1) := by decide +kernel
theorem dX1_bestToLookAt_18 : decode cX1_bestToLookAt 18 = .ok (.iconst (-1), 1) := by decide +kernel
theorem dX1_bestToLookAt_19 : decode cX1_bestToLookAt 19 = .ok (.istore_n 1, 1) := by decide +kernel
theorem dX1_bestToLookAt_20 : decode cX1_bestToLookAt 20 = .ok (.ldc 68, 2) := by decide +kernel
theorem dX1_bestToLookAt_22 : decode cX1_bestToLookAt 22 = .ok (.istore_n 2, 1) := by decide +kernel
theorem dX1_bestToLookAt_23 : decode cX1_bestToLookAt 23 = .ok (.iconst 0, 1) := by decide +kernel
theorem dX1_bestToLookAt_24 : decode cX1_bestToLookAt 24 = .ok (.istore_n 3, 1) := by decide +kernel
theorem dX1_bestToLookAt_25 : decode cX1_bestToLookAt 25 = .ok (.iload_n 3, 1) := by decide +kernel
theorem dX1_bestToLookAt_26 : decode cX1_bestToLookAt 26 = .ok (.aload_n 0, 1) := by decide +kernel
theorem dX1_bestToLookAt_27 : decode cX1_bestToLookAt 27 = .ok (.getfield 44, 3) := by decide +kernel
theorem dX1_bestToLookAt_30 : decode cX1_bestToLookAt 30 = .ok (.if_icmp .ge 31, 3) := by decide +kernel
theorem dX1_bestToLookAt_33 : decode cX1_bestToLookAt 33 = .ok (.aload_n 0, 1) := by decide +kernel
theorem dX1_bestToLookAt_34 : decode cX1_bestToLookAt 34 = .ok (.iload_n 3, 1) := by decide +kernel
theorem dX1_bestToLookAt_35 : decode cX1_bestToLookAt 35 = .ok (.iload_n 3, 1) := by decide +kernel
theorem dX1_bestToLookAt_36 : decode cX1_bestToLookAt 36 = .ok (.invokevirtual 156, 3) := by decide +kernel
theorem dX1_bestToLookAt_39 : decode cX1_bestToLookAt 39 = .ok (.istore 4, 2) := by decide +kernel
theorem dX1_bestToLookAt_41 : decode cX1_bestToLookAt 41 = .ok (.iload 4, 2) := by decide +kernel
theorem dX1_bestToLookAt_43 : decode cX1_bestToLookAt 43 = .ok (.iload_n 2, 1) := by decide +kernel
theorem dX1_bestToLookAt_44 : decode cX1_bestToLookAt 44 = .ok (.if_icmp .lt 6, 3) := by decide +kernel
theorem dX1_bestToLookAt_47 : decode cX1_bestToLookAt 47 = .ok (.goto 8, 3) := by decide +kernel
theorem dX1_bestToLookAt_50 : decode cX1_bestToLookAt 50 = .ok (.iload_n 3, 1) := by decide +kernel
theorem dX1_bestToLookAt_51 : decode cX1_bestToLookAt 51 = .ok (.istore_n 1, 1) := by decide +kernel
theorem dX1_bestToLookAt_52 : decode cX1_bestToLookAt 52 = .ok (.iload 4, 2) := by decide +kernel
theorem dX1_bestToLookAt_54 : decode cX1_bestToLookAt 54 = .ok (.istore_n 2, 1) := by decide +kernel
theorem dX1_bestToLookAt_55 : decode cX1_bestToLookAt 55 = .ok (.iinc 3 1, 3) := by decide +kernel
theorem dX1_bestToLookAt_58 : decode cX1_bestToLookAt 58 = .ok (.goto (-33), 3) := by decide +kernel
theorem dX1_bestToLookAt_61 : decode cX1_bestToLookAt 61 = .ok (.iload_n 1, 1) := by decide +kernel
theorem dX1_bestToLookAt_62 : decode cX1_bestToLookAt 62 = .ok (.ireturn, 1) := by decide +kernel
theorem dX1_keep_0 : decode cX1_keep 0 = .ok (.aload_n 0, 1) := by decide +kernel
theorem dX1_keep_1 : decode cX1_keep 1 = .ok (.getfield 13, 3) := by decide +kernel
theorem dX1_keep_4 : decode cX1_keep 4 = .ok (.iconst 0, 1) := by decide +kernel
theorem dX1_keep_5 : decode cX1_keep 5 = .ok (.aload_n 0, 1) := by decide +kernel
theorem dX1_keep_6 : decode cX1_keep 6 = .ok (.getfield 35, 3) := by decide +kernel
theorem dX1_keep_9 : decode cX1_keep 9 = .ok (.iconst 0, 1) := by decide +kernel
theorem dX1_keep_10 : decode cX1_keep 10 = .ok (.bipush 12, 2) := by decide +kernel
theorem dX1_keep_12 : decode cX1_keep 12 = .ok (.invokestatic 159, 3) := by decide +kernel
theorem dX1_keep_15 : decode cX1_keep 15 = .ok (.return_, 1) := by decide +kernel
theorem dX1_bringBack_0 : decode cX1_bringBack 0 = .ok (.aload_n 0, 1) := by decide +kernel
theorem dX1_bringBack_1 : decode cX1_bringBack 1 = .ok (.getfield 35, 3) := by decide +kernel
theorem dX1_bringBack_4 : decode cX1_bringBack 4 = .ok (.iconst 0, 1) := by decide +kernel
theorem dX1_bringBack_5 : decode cX1_bringBack 5 = .ok (.aload_n 0, 1) := by decide +kernel
theorem dX1_bringBack_6 : decode cX1_bringBack 6 = .ok (.getfield 13, 3) := by decide +kernel
theorem dX1_bringBack_9 : decode cX1_bringBack 9 = .ok (.iconst 0, 1) := by decide +kernel
theorem dX1_bringBack_10 : decode cX1_bringBack 10 = .ok (.bipush 12, 2) := by decide +kernel
theorem dX1_bringBack_12 : decode cX1_bringBack 12 = .ok (.invokestatic 159, 3) := by decide +kernel
theorem dX1_bringBack_15 : decode cX1_bringBack 15 = .ok (.return_, 1) := by decide +kernel
set_option maxRecDepth 20000 in
theorem ggX1_dampnessIn_X1_isLayer : GoodIn wsX1_dampnessIn wsX1_isLayer := goodIn_r _ [7, 8, 9, 10, 6, 11, 42, 43, 44, 45, 46, 47, 48, 49, 50, 51, 52, 53, 54, 55, 56, 57] (by decide +kernel) (by decide +kernel)
set_option maxRecDepth 20000 in
theorem gX1_dampnessIn_X1_isLayer : GoodIn wsX1_dampnessIn (wsV RX1 51 RX1 yX1_isLayer wsX1_isLayer) := goodIn_app (goodIn_of _ (by decide +kernel)) ggX1_dampnessIn_X1_isLayer
set_option maxRecDepth 20000 in
theorem ggX1_dampnessIn_X1_no : GoodIn wsX1_dampnessIn wsX1_no := goodIn_r _ [15, 1, 42, 43, 44, 45, 46, 47, 48, 49, 50, 51, 52, 53, 54, 55, 56, 57] (by decide +kernel) (by decide +kernel)
set_option maxRecDepth 20000 in
theorem gX1_dampnessIn_X1_no : GoodIn wsX1_dampnessIn (wsV RX1 92 RX1 yX1_no wsX1_no) := goodIn_app (goodIn_of _ (by decide +kernel)) ggX1_dampnessIn_X1_no
set_option maxRecDepth 20000 in
theorem ggX1_dampnessIn_X1_isIn : GoodIn wsX1_dampnessIn wsX1_isIn := goodIn_r _ [11] (by decide +kernel) (by decide +kernel)
set_option maxRecDepth 20000 in
theorem gX1_dampnessIn_X1_isIn : GoodIn wsX1_dampnessIn (va_wsS RX1 47 yX1_isIn wsX1_isIn) := goodIn_app (goodIn_of _ (by decide +kernel)) ggX1_dampnessIn_X1_isIn
set_option maxRecDepth 20000 in
theorem ggX1_dampnessIn_X1_keep : GoodIn wsX1_dampnessIn wsX1_keep := goodIn_r _ [19, 2, 20, 21, 22, 23, 24, 42, 43, 44, 45, 46, 47, 48, 49, 50, 51, 52, 53, 54, 55, 56, 57] (by decide +kernel) (by decide +kernel)
set_option maxRecDepth 20000 in
theorem gX1_dampnessIn_X1_keep : GoodIn wsX1_dampnessIn (wsV RX1 165 RX1 yX1_keep wsX1_keep) := goodIn_app (goodIn_of _ (by decide +kernel)) ggX1_dampnessIn_X1_keep
set_option maxRecDepth 20000 in
theorem ggX1_dampnessIn_X1_evenOut : GoodIn wsX1_dampnessIn wsX1_evenOut := goodIn_r _ [28, 8, 29, 2, 30, 31, 32, 6, 33, 3, 4, 5, 7, 9, 10, 11, 34, 35, 36, 37, 42, 43, 44, 45, 46, 47, 48, 49, 50, 51, 52, 53, 54, 55, 56, 57] (by decide +kernel) (by decide +kernel)
set_option maxRecDepth 20000 in
theorem gX1_dampnessIn_X1_evenOut : GoodIn wsX1_dampnessIn (wsV RX1 120 RX1 yX1_evenOut wsX1_evenOut) := goodIn_app (goodIn_of _ (by decide +kernel)) ggX1_dampnessIn_X1_evenOut
set_option maxRecDepth 20000 in
theorem ggX1_dampnessIn_X1_bringBack : GoodIn wsX1_dampnessIn wsX1_bringBack := goodIn_r _ [41, 20, 2, 21, 22, 23, 24, 42, 43, 44, 45, 46, 47, 48, 49, 50, 51, 52, 53, 54, 55, 56, 57] (by decide +kernel) (by decide +kernel)
set_option maxRecDepth 20000 in
theorem gX1_dampnessIn_X1_bringBack : GoodIn wsX1_dampnessIn (wsV RX1 168 RX1 yX1_bringBack wsX1_bringBack) := goodIn_app (goodIn_of _ (by decide +kernel)) ggX1_dampnessIn_X1_bringBack
theorem dX1_dampnessIn_0 : decode cX1_dampnessIn 0 = .ok (.aload_n 0, 1) := by decide +kernel
theorem dX1_dampnessIn_1 : decode cX1_dampnessIn 1 = .ok (.iconst 0, 1) := by decide +kernel
theorem dX1_dampnessIn_2 : decode cX1_dampnessIn 2 = .ok (.putfield 41, 3) := by decide +kernel
theorem dX1_dampnessIn_5 : decode cX1_dampnessIn 5 = .ok (.aload_n 0, 1) := by decide +kernel
theorem dX1_dampnessIn_6 : decode cX1_dampnessIn 6 = .ok (.iload_n 1, 1) := by decide +kernel
theorem dX1_dampnessIn_7 : decode cX1_dampnessIn 7 = .ok (.invokevirtual 51, 3) := by decide +kernel
theorem dX1_dampnessIn_10 : decode cX1_dampnessIn 10 = .ok (.ifCond .ne 9, 3) := by decide +kernel
theorem dX1_dampnessIn_13 : decode cX1_dampnessIn 13 = .ok (.aload_n 0, 1) := by decide +kernel
theorem dX1_dampnessIn_14 : decode cX1_dampnessIn 14 = .ok (.iconst 1, 1) := by decide +kernel
theorem dX1_dampnessIn_15 : decode cX1_dampnessIn 15 = .ok (.invokevirtual 92, 3) := by decide +kernel
theorem dX1_dampnessIn_18 : decode cX1_dampnessIn 18 = .ok (.ireturn, 1) := by decide +kernel
theorem dX1_dampnessIn_19 : decode cX1_dampnessIn 19 = .ok (.iload_n 2, 1) := by decide +kernel
theorem dX1_dampnessIn_20 : decode cX1_dampnessIn 20 = .ok (.iconst 1, 1) := by decide +kernel
theorem dX1_dampnessIn_21 : decode cX1_dampnessIn 21 = .ok (.bipush 50, 2) := by decide +kernel
theorem dX1_dampnessIn_23 : decode cX1_dampnessIn 23 = .ok (.invokestatic 47, 3) := by decide +kernel
theorem dX1_dampnessIn_26 : decode cX1_dampnessIn 26 = .ok (.ifCond .ne 9, 3) := by decide +kernel
theorem dX1_dampnessIn_29 : decode cX1_dampnessIn 29 = .ok (.aload_n 0, 1) := by decide +kernel
theorem dX1_dampnessIn_30 : decode cX1_dampnessIn 30 = .ok (.iconst 2, 1) := by decide +kernel
theorem dX1_dampnessIn_31 : decode cX1_dampnessIn 31 = .ok (.invokevirtual 92, 3) := by decide +kernel
theorem dX1_dampnessIn_34 : decode cX1_dampnessIn 34 = .ok (.ireturn, 1) := by decide +kernel
theorem dX1_dampnessIn_35 : decode cX1_dampnessIn 35 = .ok (.aload_n 0, 1) := by decide +kernel
theorem dX1_dampnessIn_36 : decode cX1_dampnessIn 36 = .ok (.invokevirtual 165, 3) := by decide +kernel
theorem dX1_dampnessIn_39 : decode cX1_dampnessIn 39 = .ok (.iconst 0, 1) := by decide +kernel
theorem dX1_dampnessIn_40 : decode cX1_dampnessIn 40 = .ok (.istore_n 3, 1) := by decide +kernel
theorem dX1_dampnessIn_41 : decode cX1_dampnessIn 41 = .ok (.iload_n 3, 1) := by decide +kernel
theorem dX1_dampnessIn_42 : decode cX1_dampnessIn 42 = .ok (.iload_n 2, 1) := by decide +kernel
theorem dX1_dampnessIn_43 : decode cX1_dampnessIn 43 = .ok (.if_icmp .ge 14, 3) := by decide +kernel
theorem dX1_dampnessIn_46 : decode cX1_dampnessIn 46 = .ok (.aload_n 0, 1) := by decide +kernel
theorem dX1_dampnessIn_47 : decode cX1_dampnessIn 47 = .ok (.invokevirtual 120, 3) := by decide +kernel
theorem dX1_dampnessIn_50 : decode cX1_dampnessIn 50 = .ok (.pop, 1) := by decide +kernel
theorem dX1_dampnessIn_51 : decode cX1_dampnessIn 51 = .ok (.iinc 3 1, 3) := by decide +kernel
theorem dX1_dampnessIn_54 : decode cX1_dampnessIn 54 = .ok (.goto (-13), 3) := by decide +kernel
theorem dX1_dampnessIn_57 : decode cX1_dampnessIn 57 = .ok (.aload_n 0, 1) := by decide +kernel
theorem dX1_dampnessIn_58 : decode cX1_dampnessIn 58 = .ok (.getfield 13, 3) := by decide +kernel
theorem dX1_dampnessIn_61 : decode cX1_dampnessIn 61 = .ok (.iload_n 1, 1) := by decide +kernel
theorem dX1_dampnessIn_62 : decode cX1_dampnessIn 62 = .ok (.iaload, 1) := by decide +kernel
theorem dX1_dampnessIn_63 : decode cX1_dampnessIn 63 = .ok (.istore_n 3, 1) := by decide +kernel
theorem dX1_dampnessIn_64 : decode cX1_dampnessIn 64 = .ok (.aload_n 0, 1) := by decide +kernel
theorem dX1_dampnessIn_65 : decode cX1_dampnessIn 65 = .ok (.invokevirtual 168, 3) := by decide +kernel
theorem dX1_dampnessIn_68 : decode cX1_dampnessIn 68 = .ok (.iload_n 3, 1) := by decide +kernel
theorem dX1_dampnessIn_69 : decode cX1_dampnessIn 69 = .ok (.ireturn, 1) := by decide +kernel
set_option maxRecDepth 20000 in
theorem ggX1_daysUntilEven_X1_keep : GoodIn wsX1_daysUntilEven wsX1_keep := goodIn_r _ [6, 7, 8, 9, 10, 11, 12, 38, 39, 40, 41, 42, 43, 44, 45, 46, 47, 48, 49, 50, 51, 52, 53] (by decide +kernel) (by decide +kernel)
set_option maxRecDepth 20000 in
theorem gX1_daysUntilEven_X1_keep : GoodIn wsX1_daysUntilEven (wsV RX1 165 RX1 yX1_keep wsX1_keep) := goodIn_app (goodIn_of _ (by decide +kernel)) ggX1_daysUntilEven_X1_keep
set_option maxRecDepth 20000 in
theorem ggX1_daysUntilEven_X1_evenOut : GoodIn wsX1_daysUntilEven wsX1_evenOut := goodIn_r _ [16, 17, 18, 7, 19, 20, 21, 5, 22, 23, 24, 25, 26, 27, 28, 29, 30, 31, 32, 33, 38, 39, 40, 41, 42, 43, 44, 45, 46, 47, 48, 49, 50, 51, 52, 53] (by decide +kernel) (by decide +kernel)
set_option maxRecDepth 20000 in
theorem gX1_daysUntilEven_X1_evenOut : GoodIn wsX1_daysUntilEven (wsV RX1 120 RX1 yX1_evenOut wsX1_evenOut) := goodIn_app (goodIn_of _ (by decide +kernel)) ggX1_daysUntilEven_X1_evenOut
set_option maxRecDepth 20000 in
theorem ggX1_daysUntilEven_X1_bringBack : GoodIn wsX1_daysUntilEven wsX1_bringBack := goodIn_r _ [37, 8, 7, 9, 10, 11, 12, 38, 39, 40, 41, 42, 43, 44, 45, 46, 47, 48, 49, 50, 51, 52, 53] (by decide +kernel) (by decide +kernel)
set_option maxRecDepth 20000 in
theorem gX1_daysUntilEven_X1_bringBack : GoodIn wsX1_daysUntilEven (wsV RX1 168 RX1 yX1_bringBack wsX1_bringBack) := goodIn_app (goodIn_of _ (by decide +kernel)) ggX1_daysUntilEven_X1_bringBack
theorem dX1_daysUntilEven_0 : decode cX1_daysUntilEven 0 = .ok (.aload_n 0, 1) := by decide +kernel
theorem dX1_daysUntilEven_1 : decode cX1_daysUntilEven 1 = .ok (.iconst 0, 1) := by decide +kernel
theorem dX1_daysUntilEven_2 : decode cX1_daysUntilEven 2 = .ok (.putfield 41, 3) := by decide +kernel
theorem dX1_daysUntilEven_5 : decode cX1_daysUntilEven 5 = .ok (.aload_n 0, 1) := by decide +kernel
theorem dX1_daysUntilEven_6 : decode cX1_daysUntilEven 6 = .ok (.invokevirtual 165, 3) := by decide +kernel
theorem dX1_daysUntilEven_9 : decode cX1_daysUntilEven 9 = .ok (.iconst 0, 1) := by decide +kernel
theorem dX1_daysUntilEven_10 : decode cX1_daysUntilEven 10 = .ok (.istore_n 1, 1) := by decide +kernel
theorem dX1_daysUntilEven_11 : decode cX1_daysUntilEven 11 = .ok (.iload_n 1, 1) := by decide +kernel
theorem dX1_daysUntilEven_12 : decode cX1_daysUntilEven 12 = .ok (.sipush 200, 3) := by decide +kernel
theorem dX1_daysUntilEven_15 : decode cX1_daysUntilEven 15 = .ok (.if_icmp .gt 16, 3) := by decide +kernel
theorem dX1_daysUntilEven_18 : decode cX1_daysUntilEven 18 = .ok (.aload_n 0, 1) := by decide +kernel
theorem dX1_daysUntilEven_19 : decode cX1_daysUntilEven 19 = .ok (.invokevirtual 120, 3) := by decide +kernel
theorem dX1_daysUntilEven_22 : decode cX1_daysUntilEven 22 = .ok (.ifCond .le 9, 3) := by decide +kernel
theorem dX1_daysUntilEven_25 : decode cX1_daysUntilEven 25 = .ok (.iinc 1 1, 3) := by decide +kernel
theorem dX1_daysUntilEven_28 : decode cX1_daysUntilEven 28 = .ok (.goto (-17), 3) := by decide +kernel
theorem dX1_daysUntilEven_31 : decode cX1_daysUntilEven 31 = .ok (.aload_n 0, 1) := by decide +kernel
theorem dX1_daysUntilEven_32 : decode cX1_daysUntilEven 32 = .ok (.invokevirtual 168, 3) := by decide +kernel
theorem dX1_daysUntilEven_35 : decode cX1_daysUntilEven 35 = .ok (.iload_n 1, 1) := by decide +kernel
theorem dX1_daysUntilEven_36 : decode cX1_daysUntilEven 36 = .ok (.sipush 200, 3) := by decide +kernel
theorem dX1_daysUntilEven_39 : decode cX1_daysUntilEven 39 = .ok (.if_icmp .le 7, 3) := by decide +kernel
theorem dX1_daysUntilEven_42 : decode cX1_daysUntilEven 42 = .ok (.iconst (-1), 1) := by decide +kernel
theorem dX1_daysUntilEven_43 : decode cX1_daysUntilEven 43 = .ok (.goto 4, 3) := by decide +kernel
theorem dX1_daysUntilEven_46 : decode cX1_daysUntilEven 46 = .ok (.iload_n 1, 1) := by decide +kernel
theorem dX1_daysUntilEven_47 : decode cX1_daysUntilEven 47 = .ok (.ireturn, 1) := by decide +kernel
set_option maxRecDepth 20000 in
theorem ggX1_meanDampness_X1_added : GoodIn wsX1_meanDampness wsX1_added := goodIn_r _ [7, 8, 9, 10, 11, 12, 13, 14, 15, 16, 17, 18, 19, 20, 21, 22, 23, 24] (by decide +kernel) (by decide +kernel)
set_option maxRecDepth 20000 in
theorem gX1_meanDampness_X1_added : GoodIn wsX1_meanDampness (wsV RX1 85 RX1 yX1_added wsX1_added) := goodIn_app (goodIn_of _ (by decide +kernel)) ggX1_meanDampness_X1_added
theorem dX1_meanDampness_0 : decode cX1_meanDampness 0 = .ok (.aload_n 0, 1) := by decide +kernel
theorem dX1_meanDampness_1 : decode cX1_meanDampness 1 = .ok (.iconst 0, 1) := by decide +kernel
theorem dX1_meanDampness_2 : decode cX1_meanDampness 2 = .ok (.putfield 41, 3) := by decide +kernel
theorem dX1_meanDampness_5 : decode cX1_meanDampness 5 = .ok (.aload_n 0, 1) := by decide +kernel
theorem dX1_meanDampness_6 : decode cX1_meanDampness 6 = .ok (.getfield 44, 3) := by decide +kernel
theorem dX1_meanDampness_9 : decode cX1_meanDampness 9 = .ok (.ifCond .ne 7, 3) := by decide +kernel
theorem dX1_meanDampness_12 : decode cX1_meanDampness 12 = .ok (.dconst 0, 1) := by decide +kernel
theorem dX1_meanDampness_13 : decode cX1_meanDampness 13 = .ok (.goto 21, 3) := by decide +kernel
theorem dX1_meanDampness_16 : decode cX1_meanDampness 16 = .ok (.aload_n 0, 1) := by decide +kernel
theorem dX1_meanDampness_17 : decode cX1_meanDampness 17 = .ok (.iconst 0, 1) := by decide +kernel
theorem dX1_meanDampness_18 : decode cX1_meanDampness 18 = .ok (.aload_n 0, 1) := by decide +kernel
theorem dX1_meanDampness_19 : decode cX1_meanDampness 19 = .ok (.getfield 44, 3) := by decide +kernel
theorem dX1_meanDampness_22 : decode cX1_meanDampness 22 = .ok (.iconst 1, 1) := by decide +kernel
theorem dX1_meanDampness_23 : decode cX1_meanDampness 23 = .ok (.isub, 1) := by decide +kernel
theorem dX1_meanDampness_24 : decode cX1_meanDampness 24 = .ok (.invokevirtual 85, 3) := by decide +kernel
theorem dX1_meanDampness_27 : decode cX1_meanDampness 27 = .ok (.i2d, 1) := by decide +kernel
theorem dX1_meanDampness_28 : decode cX1_meanDampness 28 = .ok (.aload_n 0, 1) := by decide +kernel
theorem dX1_meanDampness_29 : decode cX1_meanDampness 29 = .ok (.getfield 44, 3) := by decide +kernel
theorem dX1_meanDampness_32 : decode cX1_meanDampness 32 = .ok (.i2d, 1) := by decide +kernel
theorem dX1_meanDampness_33 : decode cX1_meanDampness 33 = .ok (.ddiv, 1) := by decide +kernel
theorem dX1_meanDampness_34 : decode cX1_meanDampness 34 = .ok (.dreturn, 1) := by decide +kernel
set_option maxRecDepth 20000 in
theorem ggX1_digest_X1_reckon : GoodIn wsX1_digest wsX1_reckon := goodIn_r _ [21, 22, 23, 24, 20, 25, 3, 26, 27, 4, 13, 14, 15, 16, 28, 29, 30, 31, 32, 33, 34, 35, 36, 37, 38, 39, 40, 41, 42, 43, 60, 61, 62, 63, 64, 65, 66, 67, 68, 69, 70, 71, 72, 73, 74, 75] (by decide +kernel) (by decide +kernel)
set_option maxRecDepth 20000 in
theorem gX1_digest_X1_reckon : GoodIn wsX1_digest (wsV RX1 149 RX1 yX1_reckon wsX1_reckon) := goodIn_app (goodIn_of _ (by decide +kernel)) ggX1_digest_X1_reckon
set_option maxRecDepth 20000 in
theorem ggX1_digest_X1_allDoubt : GoodIn wsX1_digest wsX1_allDoubt := goodIn_r _ [47, 3, 48, 49, 50, 20, 51, 26, 52, 53, 54, 55, 60, 61, 62, 63, 64, 65, 66, 67, 68, 69, 70, 71, 72, 73, 74, 75] (by decide +kernel) (by decide +kernel)
set_option maxRecDepth 20000 in
theorem gX1_digest_X1_allDoubt : GoodIn wsX1_digest (wsV RX1 88 RX1 yX1_allDoubt wsX1_allDoubt) := goodIn_app (goodIn_of _ (by decide +kernel)) ggX1_digest_X1_allDoubt
set_option maxRecDepth 20000 in
theorem ggX1_digest_X1_surely : GoodIn wsX1_digest wsX1_surely := goodIn_r _ [59, 3, 6, 48, 49, 50, 20, 51, 26, 52, 53, 54, 55, 60, 61, 62, 63, 64, 65, 66, 67, 68, 69, 70, 71, 72, 73, 74, 75] (by decide +kernel) (by decide +kernel)
set_option maxRecDepth 20000 in
theorem gX1_digest_X1_surely : GoodIn wsX1_digest (wsV RX1 152 RX1 yX1_surely wsX1_surely) := goodIn_app (goodIn_of _ (by decide +kernel)) ggX1_digest_X1_surely
set_option maxRecDepth 20000 in
theorem ggX1_digest_X1_least : GoodIn wsX1_digest wsX1_least := goodIn_r _ [55, 26, 60, 61, 62, 63, 64, 65, 66, 67, 68, 69, 70, 71, 72, 73, 74, 75] (by decide +kernel) (by decide +kernel)
set_option maxRecDepth 20000 in
theorem gX1_digest_X1_least : GoodIn wsX1_digest (wsV RX1 82 RX1 yX1_least wsX1_least) := goodIn_app (goodIn_of _ (by decide +kernel)) ggX1_digest_X1_least
set_option maxRecDepth 20000 in
theorem ggX1_digest_X1_greatest : GoodIn wsX1_digest wsX1_greatest := goodIn_r _ [51, 26, 60, 61, 62, 63, 64, 65, 66, 67, 68, 69, 70, 71, 72, 73, 74, 75] (by decide +kernel) (by decide +kernel)
set_option maxRecDepth 20000 in
theorem gX1_digest_X1_greatest : GoodIn wsX1_digest (wsV RX1 79 RX1 yX1_greatest wsX1_greatest) := goodIn_app (goodIn_of _ (by decide +kernel)) ggX1_digest_X1_greatest
theorem dX1_digest_0 : decode cX1_digest 0 = .ok (.aload_n 0, 1) := by decide +kernel
theorem dX1_digest_1 : decode cX1_digest 1 = .ok (.iconst 0, 1) := by decide +kernel
theorem dX1_digest_2 : decode cX1_digest 2 = .ok (.putfield 41, 3) := by decide +kernel
theorem dX1_digest_5 : decode cX1_digest 5 = .ok (.aload_n 0, 1) := by decide +kernel
theorem dX1_digest_6 : decode cX1_digest 6 = .ok (.invokevirtual 149, 3) := by decide +kernel
theorem dX1_digest_9 : decode cX1_digest 9 = .ok (.bipush 9, 2) := by decide +kernel
theorem dX1_digest_11 : decode cX1_digest 11 = .ok (.newarray .int, 2) := by decide +kernel
theorem dX1_digest_13 : decode cX1_digest 13 = .ok (.dup, 1) := by decide +kernel
theorem dX1_digest_14 : decode cX1_digest 14 = .ok (.iconst 0, 1) := by decide +kernel
theorem dX1_digest_15 : decode cX1_digest 15 = .ok (.aload_n 0, 1) := by decide +kernel
theorem dX1_digest_16 : decode cX1_digest 16 = .ok (.getfield 44, 3) := by decide +kernel
theorem dX1_digest_19 : decode cX1_digest 19 = .ok (.iastore, 1) := by decide +kernel
theorem dX1_digest_20 : decode cX1_digest 20 = .ok (.dup, 1) := by decide +kernel
theorem dX1_digest_21 : decode cX1_digest 21 = .ok (.iconst 1, 1) := by decide +kernel
theorem dX1_digest_22 : decode cX1_digest 22 = .ok (.aload_n 0, 1) := by decide +kernel
theorem dX1_digest_23 : decode cX1_digest 23 = .ok (.getfield 55, 3) := by decide +kernel
theorem dX1_digest_26 : decode cX1_digest 26 = .ok (.iastore, 1) := by decide +kernel
theorem dX1_digest_27 : decode cX1_digest 27 = .ok (.dup, 1) := by decide +kernel
theorem dX1_digest_28 : decode cX1_digest 28 = .ok (.iconst 2, 1) := by decide +kernel
theorem dX1_digest_29 : decode cX1_digest 29 = .ok (.aload_n 0, 1) := by decide +kernel
theorem dX1_digest_30 : decode cX1_digest 30 = .ok (.getfield 123, 3) := by decide +kernel
theorem dX1_digest_33 : decode cX1_digest 33 = .ok (.iastore, 1) := by decide +kernel
theorem dX1_digest_34 : decode cX1_digest 34 = .ok (.dup, 1) := by decide +kernel
theorem dX1_digest_35 : decode cX1_digest 35 = .ok (.iconst 3, 1) := by decide +kernel
theorem dX1_digest_36 : decode cX1_digest 36 = .ok (.aload_n 0, 1) := by decide +kernel
theorem dX1_digest_37 : decode cX1_digest 37 = .ok (.getfield 28, 3) := by decide +kernel
theorem dX1_digest_40 : decode cX1_digest 40 = .ok (.iastore, 1) := by decide +kernel
theorem dX1_digest_41 : decode cX1_digest 41 = .ok (.dup, 1) := by decide +kernel
theorem dX1_digest_42 : decode cX1_digest 42 = .ok (.iconst 4, 1) := by decide +kernel
theorem dX1_digest_43 : decode cX1_digest 43 = .ok (.aload_n 0, 1) := by decide +kernel
theorem dX1_digest_44 : decode cX1_digest 44 = .ok (.getfield 99, 3) := by decide +kernel
theorem dX1_digest_47 : decode cX1_digest 47 = .ok (.iastore, 1) := by decide +kernel
theorem dX1_digest_48 : decode cX1_digest 48 = .ok (.dup, 1) := by decide +kernel
theorem dX1_digest_49 : decode cX1_digest 49 = .ok (.iconst 5, 1) := by decide +kernel
theorem dX1_digest_50 : decode cX1_digest 50 = .ok (.aload_n 0, 1) := by decide +kernel
theorem dX1_digest_51 : decode cX1_digest 51 = .ok (.getfield 96, 3) := by decide +kernel
theorem dX1_digest_54 : decode cX1_digest 54 = .ok (.iastore, 1) := by decide +kernel
theorem dX1_digest_55 : decode cX1_digest 55 = .ok (.dup, 1) := by decide +kernel
theorem dX1_digest_56 : decode cX1_digest 56 = .ok (.bipush 6, 2) := by decide +kernel
theorem dX1_digest_58 : decode cX1_digest 58 = .ok (.aload_n 0, 1) := by decide +kernel
theorem dX1_digest_59 : decode cX1_digest 59 = .ok (.invokevirtual 88, 3) := by decide +kernel
theorem dX1_digest_62 : decode cX1_digest 62 = .ok (.iastore, 1) := by decide +kernel
theorem dX1_digest_63 : decode cX1_digest 63 = .ok (.dup, 1) := by decide +kernel
theorem dX1_digest_64 : decode cX1_digest 64 = .ok (.bipush 7, 2) := by decide +kernel
theorem dX1_digest_66 : decode cX1_digest 66 = .ok (.aload_n 0, 1) := by decide +kernel
theorem dX1_digest_67 : decode cX1_digest 67 = .ok (.iconst 1, 1) := by decide +kernel
theorem dX1_digest_68 : decode cX1_digest 68 = .ok (.invokevirtual 152, 3) := by decide +kernel
theorem dX1_digest_71 : decode cX1_digest 71 = .ok (.iastore, 1) := by decide +kernel
theorem dX1_digest_72 : decode cX1_digest 72 = .ok (.dup, 1) := by decide +kernel
theorem dX1_digest_73 : decode cX1_digest 73 = .ok (.bipush 8, 2) := by decide +kernel
theorem dX1_digest_75 : decode cX1_digest 75 = .ok (.aload_n 0, 1) := by decide +kernel
theorem dX1_digest_76 : decode cX1_digest 76 = .ok (.iconst 0, 1) := by decide +kernel
theorem dX1_digest_77 : decode cX1_digest 77 = .ok (.invokevirtual 152, 3) := by decide +kernel
theorem dX1_digest_80 : decode cX1_digest 80 = .ok (.iastore, 1) := by decide +kernel
theorem dX1_digest_81 : decode cX1_digest 81 = .ok (.astore_n 1, 1) := by decide +kernel
theorem dX1_digest_82 : decode cX1_digest 82 = .ok (.ldc2_w 171, 3) := by decide +kernel
theorem dX1_digest_85 : decode cX1_digest 85 = .ok (.lstore_n 2, 1) := by decide +kernel
theorem dX1_digest_86 : decode cX1_digest 86 = .ok (.aload_n 1, 1) := by decide +kernel
theorem dX1_digest_87 : decode cX1_digest 87 = .ok (.astore 4, 2) := by decide +kernel
theorem dX1_digest_89 : decode cX1_digest 89 = .ok (.aload 4, 2) := by decide +kernel
theorem dX1_digest_91 : decode cX1_digest 91 = .ok (.arraylength, 1) := by decide +kernel
theorem dX1_digest_92 : decode cX1_digest 92 = .ok (.istore 5, 2) := by decide +kernel
theorem dX1_digest_94 : decode cX1_digest 94 = .ok (.iconst 0, 1) := by decide +kernel
theorem dX1_digest_95 : decode cX1_digest 95 = .ok (.istore 6, 2) := by decide +kernel
theorem dX1_digest_97 : decode cX1_digest 97 = .ok (.iload 6, 2) := by decide +kernel
theorem dX1_digest_99 : decode cX1_digest 99 = .ok (.iload 5, 2) := by decide +kernel
theorem dX1_digest_101 : decode cX1_digest 101 = .ok (.if_icmp .ge 26, 3) := by decide +kernel
theorem dX1_digest_104 : decode cX1_digest 104 = .ok (.aload 4, 2) := by decide +kernel
theorem dX1_digest_106 : decode cX1_digest 106 = .ok (.iload 6, 2) := by decide +kernel
theorem dX1_digest_108 : decode cX1_digest 108 = .ok (.iaload, 1) := by decide +kernel
theorem dX1_digest_109 : decode cX1_digest 109 = .ok (.istore 7, 2) := by decide +kernel
theorem dX1_digest_111 : decode cX1_digest 111 = .ok (.lload_n 2, 1) := by decide +kernel
theorem dX1_digest_112 : decode cX1_digest 112 = .ok (.ldc2_w 173, 3) := by decide +kernel
theorem dX1_digest_115 : decode cX1_digest 115 = .ok (.lmul, 1) := by decide +kernel
theorem dX1_digest_116 : decode cX1_digest 116 = .ok (.iload 7, 2) := by decide +kernel
theorem dX1_digest_118 : decode cX1_digest 118 = .ok (.i2l, 1) := by decide +kernel
theorem dX1_digest_119 : decode cX1_digest 119 = .ok (.ladd, 1) := by decide +kernel
theorem dX1_digest_120 : decode cX1_digest 120 = .ok (.lstore_n 2, 1) := by decide +kernel
theorem dX1_digest_121 : decode cX1_digest 121 = .ok (.iinc 6 1, 3) := by decide +kernel
theorem dX1_digest_124 : decode cX1_digest 124 = .ok (.goto (-27), 3) := by decide +kernel
theorem dX1_digest_127 : decode cX1_digest 127 = .ok (.iconst 0, 1) := by decide +kernel
theorem dX1_digest_128 : decode cX1_digest 128 = .ok (.istore 4, 2) := by decide +kernel
theorem dX1_digest_130 : decode cX1_digest 130 = .ok (.iload 4, 2) := by decide +kernel
theorem dX1_digest_132 : decode cX1_digest 132 = .ok (.aload_n 0, 1) := by decide +kernel
theorem dX1_digest_133 : decode cX1_digest 133 = .ok (.getfield 44, 3) := by decide +kernel
theorem dX1_digest_136 : decode cX1_digest 136 = .ok (.if_icmp .ge 65, 3) := by decide +kernel
theorem dX1_digest_139 : decode cX1_digest 139 = .ok (.lload_n 2, 1) := by decide +kernel
theorem dX1_digest_140 : decode cX1_digest 140 = .ok (.ldc2_w 173, 3) := by decide +kernel
theorem dX1_digest_143 : decode cX1_digest 143 = .ok (.lmul, 1) := by decide +kernel
theorem dX1_digest_144 : decode cX1_digest 144 = .ok (.aload_n 0, 1) := by decide +kernel
theorem dX1_digest_145 : decode cX1_digest 145 = .ok (.getfield 9, 3) := by decide +kernel
theorem dX1_digest_148 : decode cX1_digest 148 = .ok (.iload 4, 2) := by decide +kernel
theorem dX1_digest_150 : decode cX1_digest 150 = .ok (.iaload, 1) := by decide +kernel
theorem dX1_digest_151 : decode cX1_digest 151 = .ok (.i2l, 1) := by decide +kernel
theorem dX1_digest_152 : decode cX1_digest 152 = .ok (.ladd, 1) := by decide +kernel
theorem dX1_digest_153 : decode cX1_digest 153 = .ok (.ldc2_w 173, 3) := by decide +kernel
theorem dX1_digest_156 : decode cX1_digest 156 = .ok (.lmul, 1) := by decide +kernel
theorem dX1_digest_157 : decode cX1_digest 157 = .ok (.aload_n 0, 1) := by decide +kernel
theorem dX1_digest_158 : decode cX1_digest 158 = .ok (.getfield 13, 3) := by decide +kernel
theorem dX1_digest_161 : decode cX1_digest 161 = .ok (.iload 4, 2) := by decide +kernel
theorem dX1_digest_163 : decode cX1_digest 163 = .ok (.iaload, 1) := by decide +kernel
theorem dX1_digest_164 : decode cX1_digest 164 = .ok (.i2l, 1) := by decide +kernel
theorem dX1_digest_165 : decode cX1_digest 165 = .ok (.ladd, 1) := by decide +kernel
theorem dX1_digest_166 : decode cX1_digest 166 = .ok (.ldc2_w 173, 3) := by decide +kernel
theorem dX1_digest_169 : decode cX1_digest 169 = .ok (.lmul, 1) := by decide +kernel
theorem dX1_digest_170 : decode cX1_digest 170 = .ok (.aload_n 0, 1) := by decide +kernel
theorem dX1_digest_171 : decode cX1_digest 171 = .ok (.iload 4, 2) := by decide +kernel
theorem dX1_digest_173 : decode cX1_digest 173 = .ok (.iload 4, 2) := by decide +kernel
theorem dX1_digest_175 : decode cX1_digest 175 = .ok (.invokevirtual 82, 3) := by decide +kernel
theorem dX1_digest_178 : decode cX1_digest 178 = .ok (.i2l, 1) := by decide +kernel
theorem dX1_digest_179 : decode cX1_digest 179 = .ok (.ladd, 1) := by decide +kernel
theorem dX1_digest_180 : decode cX1_digest 180 = .ok (.ldc2_w 173, 3) := by decide +kernel
theorem dX1_digest_183 : decode cX1_digest 183 = .ok (.lmul, 1) := by decide +kernel
theorem dX1_digest_184 : decode cX1_digest 184 = .ok (.aload_n 0, 1) := by decide +kernel
theorem dX1_digest_185 : decode cX1_digest 185 = .ok (.iload 4, 2) := by decide +kernel
theorem dX1_digest_187 : decode cX1_digest 187 = .ok (.iload 4, 2) := by decide +kernel
theorem dX1_digest_189 : decode cX1_digest 189 = .ok (.invokevirtual 79, 3) := by decide +kernel
theorem dX1_digest_192 : decode cX1_digest 192 = .ok (.i2l, 1) := by decide +kernel
theorem dX1_digest_193 : decode cX1_digest 193 = .ok (.ladd, 1) := by decide +kernel
theorem dX1_digest_194 : decode cX1_digest 194 = .ok (.lstore_n 2, 1) := by decide +kernel
theorem dX1_digest_195 : decode cX1_digest 195 = .ok (.iinc 4 1, 3) := by decide +kernel
theorem dX1_digest_198 : decode cX1_digest 198 = .ok (.goto (-68), 3) := by decide +kernel
theorem dX1_digest_201 : decode cX1_digest 201 = .ok (.iconst 0, 1) := by decide +kernel
theorem dX1_digest_202 : decode cX1_digest 202 = .ok (.istore 4, 2) := by decide +kernel
theorem dX1_digest_204 : decode cX1_digest 204 = .ok (.iload 4, 2) := by decide +kernel
theorem dX1_digest_206 : decode cX1_digest 206 = .ok (.aload_n 0, 1) := by decide +kernel
theorem dX1_digest_207 : decode cX1_digest 207 = .ok (.getfield 55, 3) := by decide +kernel
theorem dX1_digest_210 : decode cX1_digest 210 = .ok (.if_icmp .ge 63, 3) := by decide +kernel
theorem dX1_digest_213 : decode cX1_digest 213 = .ok (.lload_n 2, 1) := by decide +kernel
theorem dX1_digest_214 : decode cX1_digest 214 = .ok (.ldc2_w 173, 3) := by decide +kernel
theorem dX1_digest_217 : decode cX1_digest 217 = .ok (.lmul, 1) := by decide +kernel
theorem dX1_digest_218 : decode cX1_digest 218 = .ok (.aload_n 0, 1) := by decide +kernel
theorem dX1_digest_219 : decode cX1_digest 219 = .ok (.getfield 16, 3) := by decide +kernel
theorem dX1_digest_222 : decode cX1_digest 222 = .ok (.iload 4, 2) := by decide +kernel
theorem dX1_digest_224 : decode cX1_digest 224 = .ok (.iaload, 1) := by decide +kernel
theorem dX1_digest_225 : decode cX1_digest 225 = .ok (.i2l, 1) := by decide +kernel
theorem dX1_digest_226 : decode cX1_digest 226 = .ok (.ladd, 1) := by decide +kernel
theorem dX1_digest_227 : decode cX1_digest 227 = .ok (.ldc2_w 173, 3) := by decide +kernel
theorem dX1_digest_230 : decode cX1_digest 230 = .ok (.lmul, 1) := by decide +kernel
theorem dX1_digest_231 : decode cX1_digest 231 = .ok (.aload_n 0, 1) := by decide +kernel
theorem dX1_digest_232 : decode cX1_digest 232 = .ok (.getfield 19, 3) := by decide +kernel
theorem dX1_digest_235 : decode cX1_digest 235 = .ok (.iload 4, 2) := by decide +kernel
theorem dX1_digest_237 : decode cX1_digest 237 = .ok (.iaload, 1) := by decide +kernel
theorem dX1_digest_238 : decode cX1_digest 238 = .ok (.i2l, 1) := by decide +kernel
theorem dX1_digest_239 : decode cX1_digest 239 = .ok (.ladd, 1) := by decide +kernel
theorem dX1_digest_240 : decode cX1_digest 240 = .ok (.ldc2_w 173, 3) := by decide +kernel
theorem dX1_digest_243 : decode cX1_digest 243 = .ok (.lmul, 1) := by decide +kernel
theorem dX1_digest_244 : decode cX1_digest 244 = .ok (.aload_n 0, 1) := by decide +kernel
theorem dX1_digest_245 : decode cX1_digest 245 = .ok (.getfield 22, 3) := by decide +kernel
theorem dX1_digest_248 : decode cX1_digest 248 = .ok (.iload 4, 2) := by decide +kernel
theorem dX1_digest_250 : decode cX1_digest 250 = .ok (.iaload, 1) := by decide +kernel
theorem dX1_digest_251 : decode cX1_digest 251 = .ok (.i2l, 1) := by decide +kernel
theorem dX1_digest_252 : decode cX1_digest 252 = .ok (.ladd, 1) := by decide +kernel
theorem dX1_digest_253 : decode cX1_digest 253 = .ok (.ldc2_w 173, 3) := by decide +kernel
theorem dX1_digest_256 : decode cX1_digest 256 = .ok (.lmul, 1) := by decide +kernel
theorem dX1_digest_257 : decode cX1_digest 257 = .ok (.aload_n 0, 1) := by decide +kernel
theorem dX1_digest_258 : decode cX1_digest 258 = .ok (.getfield 25, 3) := by decide +kernel
theorem dX1_digest_261 : decode cX1_digest 261 = .ok (.iload 4, 2) := by decide +kernel
theorem dX1_digest_263 : decode cX1_digest 263 = .ok (.iaload, 1) := by decide +kernel
theorem dX1_digest_264 : decode cX1_digest 264 = .ok (.i2l, 1) := by decide +kernel
theorem dX1_digest_265 : decode cX1_digest 265 = .ok (.ladd, 1) := by decide +kernel
theorem dX1_digest_266 : decode cX1_digest 266 = .ok (.lstore_n 2, 1) := by decide +kernel
theorem dX1_digest_267 : decode cX1_digest 267 = .ok (.iinc 4 1, 3) := by decide +kernel
theorem dX1_digest_270 : decode cX1_digest 270 = .ok (.goto (-66), 3) := by decide +kernel
theorem dX1_digest_273 : decode cX1_digest 273 = .ok (.lload_n 2, 1) := by decide +kernel
theorem dX1_digest_274 : decode cX1_digest 274 = .ok (.lreturn, 1) := by decide +kernel
theorem dJ6_signum_0f7a4_0 : decode cJ6_signum_0f7a4 0 = .ok (.iload_n 0, 1) := by decide +kernel
theorem dJ6_signum_0f7a4_1 : decode cJ6_signum_0f7a4 1 = .ok (.bipush 31, 2) := by decide +kernel
theorem dJ6_signum_0f7a4_3 : decode cJ6_signum_0f7a4 3 = .ok (.ishr, 1) := by decide +kernel
theorem dJ6_signum_0f7a4_4 : decode cJ6_signum_0f7a4 4 = .ok (.iload_n 0, 1) := by decide +kernel
theorem dJ6_signum_0f7a4_5 : decode cJ6_signum_0f7a4 5 = .ok (.ineg, 1) := by decide +kernel
theorem dJ6_signum_0f7a4_6 : decode cJ6_signum_0f7a4 6 = .ok (.bipush 31, 2) := by decide +kernel
theorem dJ6_signum_0f7a4_8 : decode cJ6_signum_0f7a4 8 = .ok (.iushr, 1) := by decide +kernel
theorem dJ6_signum_0f7a4_9 : decode cJ6_signum_0f7a4 9 = .ok (.ior, 1) := by decide +kernel
theorem dJ6_signum_0f7a4_10 : decode cJ6_signum_0f7a4 10 = .ok (.ireturn, 1) := by decide +kernel
theorem dJ9_min_7cf53_0 : decode cJ9_min_7cf53 0 = .ok (.iload_n 0, 1) := by decide +kernel
theorem dJ9_min_7cf53_1 : decode cJ9_min_7cf53 1 = .ok (.iload_n 1, 1) := by decide +kernel
theorem dJ9_min_7cf53_2 : decode cJ9_min_7cf53 2 = .ok (.if_icmp .gt 7, 3) := by decide +kernel
theorem dJ9_min_7cf53_5 : decode cJ9_min_7cf53 5 = .ok (.iload_n 0, 1) := by decide +kernel
theorem dJ9_min_7cf53_6 : decode cJ9_min_7cf53 6 = .ok (.goto 4, 3) := by decide +kernel
theorem dJ9_min_7cf53_9 : decode cJ9_min_7cf53 9 = .ok (.iload_n 1, 1) := by decide +kernel
theorem dJ9_min_7cf53_10 : decode cJ9_min_7cf53 10 = .ok (.ireturn, 1) := by decide +kernel
end
section
/-! ===== whole numbers as ints ===== -/
def zI (z : Int) : Int32 := Int32.ofInt z
def zR (z : Int) : Prop := -2147483648 ≤ z ∧ z < 2147483648
theorem zI_toInt {z : Int} (h : zR z) : (zI z).toInt = z := by
  obtain ⟨h1, h2⟩ := h
  show (Int32.ofInt z).toInt = z
  have e : z.bmod (2 ^ 32) = z := by rw [Int.bmod_eq_of_le (by omega) (by omega)]
  rw [Int32.toInt_ofInt]
  exact e
theorem zI_add (a b : Int) : zI a + zI b = zI (a + b) := by
  apply Int32.toInt_inj.1
  simp [zI, Int32.toInt_add, Int32.toInt_ofInt]
theorem zI_sub (a b : Int) : zI a - zI b = zI (a - b) := by
  apply Int32.toInt_inj.1
  simp [zI, Int32.toInt_sub, Int32.toInt_ofInt]
theorem zI_mul (a b : Int) : zI a * zI b = zI (a * b) := by
  apply Int32.toInt_inj.1
  simp [zI, Int32.toInt_mul, Int32.toInt_ofInt]
theorem zI_neg (a : Int) : -zI a = zI (-a) := by
  apply Int32.toInt_inj.1
  simp [zI, Int32.toInt_neg, Int32.toInt_ofInt]
theorem zI_lt {a b : Int} (ha : zR a) (hb : zR b) : zI a < zI b ↔ a < b := by rw [Int32.lt_iff_toInt_lt, zI_toInt ha, zI_toInt hb]
theorem zI_le {a b : Int} (ha : zR a) (hb : zR b) : zI a ≤ zI b ↔ a ≤ b := by rw [Int32.le_iff_toInt_le, zI_toInt ha, zI_toInt hb]
theorem zI_eq {a b : Int} (ha : zR a) (hb : zR b) : zI a = zI b ↔ a = b := by rw [← Int32.toInt_inj, zI_toInt ha, zI_toInt hb]
theorem zI_of (x : Int32) : zI x.toInt = x := Int32.ofInt_toInt x
theorem zR_of (x : Int32) : zR x.toInt := by
  have h1 := Int32.le_toInt x
  have h2 := Int32.toInt_lt x
  exact ⟨by omega, by omega⟩
theorem zI_nI {n : Nat} (h : n < 2147483648) : zI (n : Int) = nI n := by
  apply Int32.toInt_inj.1
  rw [zI_toInt ⟨by omega, by omega⟩, nI_toInt (by omega)]
theorem zI_0 : zI 0 = 0 := by decide +kernel
theorem zR_0 : zR 0 := ⟨by decide, by decide⟩
theorem zI_lt0 {a : Int} (ha : zR a) : zI a < 0 ↔ a < 0 := by
  have h := zI_lt ha zR_0
  rwa [zI_0] at h
theorem zI_gt0 {a : Int} (ha : zR a) : 0 < zI a ↔ 0 < a := by
  have h := zI_lt zR_0 ha
  rwa [zI_0] at h
theorem zI_le0 {a : Int} (ha : zR a) : zI a ≤ 0 ↔ a ≤ 0 := by
  have h := zI_le ha zR_0
  rwa [zI_0] at h
theorem zI_ge0 {a : Int} (ha : zR a) : 0 ≤ zI a ↔ 0 ≤ a := by
  have h := zI_le zR_0 ha
  rwa [zI_0] at h
theorem zI_eq0 {a : Int} (ha : zR a) : zI a = 0 ↔ a = 0 := by
  have h := zI_eq ha zR_0
  rwa [zI_0] at h
/-- an array of ints, by whole numbers -/
def zA (f : Int → Int) : Nat → Int32 := fun j => zI (f (j : Int))
def upZ (f : Int → Int) (k v : Int) : Int → Int := fun j => if j = k then v else f j
theorem upZ_s {f : Int → Int} {k v : Int} : upZ f k v k = v := if_pos rfl
theorem upZ_n {f : Int → Int} {k v j : Int} (h : j ≠ k) : upZ f k v j = f j := if_neg h
theorem upd_zA (f : Int → Int) {k : Int} (v : Int) (h0 : 0 ≤ k) (h1 : k < 2147483648) : upd (zA f) (zI k).toNatClampNeg (zI v) = zA (upZ f k v) := by
  obtain ⟨n, rfl⟩ := Int.eq_ofNat_of_zero_le h0
  rw [zI_nI (by omega), nI_clamp (by omega)]
  funext j
  unfold upd zA upZ
  by_cases h : j = n
  · subst h; simp
  · have h2 : ¬ ((j : Int) = (n : Int)) := by omega
    rw [if_neg h, if_neg h2]
theorem zA_at (f : Int → Int) {k : Int} (h0 : 0 ≤ k) (h1 : k < 2147483648) : zA f (zI k).toNatClampNeg = zI (f k) := by
  obtain ⟨n, rfl⟩ := Int.eq_ofNat_of_zero_le h0
  rw [zI_nI (by omega), nI_clamp (by omega)]
  rfl
theorem zI_in {k : Int} {n : Nat} (h0 : 0 ≤ k) (h1 : k < (n : Int)) (hn : n < 2147483648) : vp_in (zI k) n := by
  obtain ⟨j, rfl⟩ := Int.eq_ofNat_of_zero_le h0
  rw [zI_nI (by omega)]
  exact vp_in_nI (by omega) (by omega)
theorem zA_const (x : Int32) : (fun _ : Nat => x) = zA (fun _ => x.toInt) := funext fun _ => (zI_of x).symm
/-! ===== a method's fixed facts, and the judgement: whatever heap holds the world ws, whatever locals hold lv ===== -/
def GC (p : Program) (s : State) (m : MethodId) (args : Array Value) (meth : Method) (c : Code) (cc : ByteArray) (nL : Nat) (own : String) (Ts : List Cond) (D : va_G) (tys : List (ClassId × FieldType)) (A : Nat → Prop) : Prop :=
  p.tables.exec = Jvm.exec ∧ c.code = cc ∧ c.maxLocals = nL ∧ s.vm.findClass own = some m.cls ∧ (∀ w ∈ Ts, w.before args s = true) ∧ va_K D vwCl tys s ∧ (∀ q, s.heap.size ≤ q → A q) ∧ meth.locks = false
def J (p : Program) (l : Launch) (e : Env) (R : Room) (s : State) (m : MethodId) (args : Array Value) (below : List Frame) (meth : Method) (c : Code) (nL : Nat) (D : va_G) (A : Nat → Prop) (cells slots : Nat) (Q : State → Prop) (ws : va_W) (lv : List (Nat × Value)) (pc : Nat) (st : List Value) : Prop :=
  ∀ (H : Heap) (locs : List Loc) (ls : Array Slot), va_P D vwCl ws H → va_D A ws → va_S A s.heap H locs → lv_has ls nL lv → W p l e R s m args below meth c H locs cells slots Q (F0 m pc ls st)
def lvF (i : Nat) : Nat × Value → Bool := fun q => !(q.1 == i) && !(q.1 + 1 == i && q.2.category == 2)
def lvF2 (i : Nat) : Nat × Value → Bool := fun q => !(q.1 == i) && (!(q.1 == i + 1) && !(q.1 + 1 == i && q.2.category == 2))
section JR
variable {p : Program} {l : Launch} {e : Env} {R : Room} {s : State} {m : MethodId} {args : Array Value} {below : List Frame} {meth : Method} {c : Code} {cc : ByteArray} {nL : Nat} {own : String} {Ts : List Cond} {D : va_G} {tys : List (ClassId × FieldType)} {A : Nat → Prop} {cells slots : Nat} {Q : State → Prop} {ws : va_W} {lv : List (Nat × Value)} {pc : Nat} {st : List Value}
theorem J.cast {ws' : va_W} {lv' : List (Nat × Value)} {st' : List Value} (k : J p l e R s m args below meth c nL D A cells slots Q ws' lv' pc st') (h1 : ws = ws') (h2 : lv = lv') (h3 : st = st') : J p l e R s m args below meth c nL D A cells slots Q ws lv pc st := by
  subst h1; subst h2; subst h3; exact k
theorem J.pick {lv' : List (Nat × Value)} (ks : List Nat) (h : lv_pick lv ks = lv') (k : J p l e R s m args below meth c nL D A cells slots Q ws lv' pc st) : J p l e R s m args below meth c nL D A cells slots Q ws lv pc st := fun H locs ls hP hD hS hl => k H locs ls hP hD hS (lv_sub hl ks h)
theorem J.widen {k n : Nat} (h1 : cells ≤ k) (h2 : slots ≤ n) (kk : J p l e R s m args below meth c nL D A k n Q ws lv pc st) : J p l e R s m args below meth c nL D A cells slots Q ws lv pc st := fun H locs ls hP hD hS hl => W.widen h1 h2 (kk H locs ls hP hD hS hl)
/-- a loop that counts up -/
theorem j_up (F : Int → va_W) (G : Int → List (Nat × Value)) (I : Int → Prop) (a b : Int) (hab : a ≤ b) (h0 : I a)
    (step : ∀ i, a ≤ i → i < b → I i → (I (i + 1) → J p l e R s m args below meth c nL D A cells slots Q (F (i + 1)) (G (i + 1)) pc st) → J p l e R s m args below meth c nL D A cells slots Q (F i) (G i) pc st)
    (last : I b → J p l e R s m args below meth c nL D A cells slots Q (F b) (G b) pc st) : J p l e R s m args below meth c nL D A cells slots Q (F a) (G a) pc st := by
  suffices K : ∀ (n : Nat) (i : Int), a ≤ i → i ≤ b → (b - i).toNat = n → I i → J p l e R s m args below meth c nL D A cells slots Q (F i) (G i) pc st from K _ a (Int.le_refl _) hab rfl h0
  intro n
  induction n with
  | zero =>
    intro i h1 h2 h3 h4
    have e0 : i = b := by omega
    subst e0
    exact last h4
  | succ n ih =>
    intro i h1 h2 h3 h4
    exact step i h1 (by omega) h4 (fun h5 => ih (i + 1) (by omega) (by omega) (by omega) h5)
/-- a word of the method's list, by its place -/
theorem GC.w (C : GC p s m args meth c cc nL own Ts D tys A) (i : Nat) {w : Cond} (h : Ts[i]? = some w) : w.before args s = true := C.2.2.2.2.1 w (List.mem_of_getElem? h)
theorem j_iconst (C : GC p s m args meth c cc nL own Ts D tys A) {n : Int} (dg : decode cc pc = .ok (.iconst n, 1))
    (k : J p l e R s m args below meth c nL D A cells slots Q ws lv (pc + 1) (.int (zI n) :: st)) : J p l e R s m args below meth c nL D A cells slots Q ws lv pc st :=
  fun H locs ls hP hD hS hl => lv_iconst C.1 C.2.1 dg rfl (k H locs ls hP hD hS hl)
theorem j_bipush (C : GC p s m args meth c cc nL own Ts D tys A) {n : Int} (dg : decode cc pc = .ok (.bipush n, 2)) (hv : (Int8.ofInt n).toInt32 = zI n)
    (k : J p l e R s m args below meth c nL D A cells slots Q ws lv (pc + 2) (.int (zI n) :: st)) : J p l e R s m args below meth c nL D A cells slots Q ws lv pc st :=
  fun H locs ls hP hD hS hl => lv_bipush C.1 C.2.1 dg hv (k H locs ls hP hD hS hl)
theorem j_sipush (C : GC p s m args meth c cc nL own Ts D tys A) {n : Int} (dg : decode cc pc = .ok (.sipush n, 3)) (hv : (Int16.ofInt n).toInt32 = zI n)
    (k : J p l e R s m args below meth c nL D A cells slots Q ws lv (pc + 3) (.int (zI n) :: st)) : J p l e R s m args below meth c nL D A cells slots Q ws lv pc st :=
  fun H locs ls hP hD hS hl => lv_sipush C.1 C.2.1 dg hv (k H locs ls hP hD hS hl)
theorem j_iload_n (C : GC p s m args meth c cc nL own Ts D tys A) {i : Fin 4} {x : Int32} (dg : decode cc pc = .ok (.iload_n i, 1)) (n : Nat) (hn : lv[n]? = some ((i : Nat), .int x))
    (k : J p l e R s m args below meth c nL D A cells slots Q ws lv (pc + 1) (.int x :: st)) : J p l e R s m args below meth c nL D A cells slots Q ws lv pc st :=
  fun H locs ls hP hD hS hl => lv_iload_n C.1 C.2.1 dg rfl (lv_at hl n hn) (k H locs ls hP hD hS hl)
theorem j_iload (C : GC p s m args meth c cc nL own Ts D tys A) {i : Nat} {x : Int32} (dg : decode cc pc = .ok (.iload i, 2)) (n : Nat) (hn : lv[n]? = some (i, .int x))
    (k : J p l e R s m args below meth c nL D A cells slots Q ws lv (pc + 2) (.int x :: st)) : J p l e R s m args below meth c nL D A cells slots Q ws lv pc st :=
  fun H locs ls hP hD hS hl => lv_iload C.1 C.2.1 dg (lv_at hl n hn) (k H locs ls hP hD hS hl)
theorem j_istore_n (C : GC p s m args meth c cc nL own Ts D tys A) {i : Fin 4} {x : Int32} {lv' : List (Nat × Value)} (dg : decode cc pc = .ok (.istore_n i, 1)) (hi : (i : Nat) < nL) (ks : List Nat) (hp : lv_pick (((i : Nat), Value.int x) :: lv.filter (lvF i)) ks = lv')
    (k : J p l e R s m args below meth c nL D A cells slots Q ws lv' (pc + 1) st) : J p l e R s m args below meth c nL D A cells slots Q ws lv pc (.int x :: st) :=
  fun H locs ls hP hD hS hl => lv_istore_n C.1 C.2.1 dg rfl hl hi rfl (fun ls' hl' => k H locs ls' hP hD hS (lv_sub hl' ks hp))
theorem j_istore (C : GC p s m args meth c cc nL own Ts D tys A) {i : Nat} {x : Int32} {lv' : List (Nat × Value)} (dg : decode cc pc = .ok (.istore i, 2)) (hi : (i : Nat) < nL) (ks : List Nat) (hp : lv_pick ((i, Value.int x) :: lv.filter (lvF i)) ks = lv')
    (k : J p l e R s m args below meth c nL D A cells slots Q ws lv' (pc + 2) st) : J p l e R s m args below meth c nL D A cells slots Q ws lv pc (.int x :: st) :=
  fun H locs ls hP hD hS hl => lv_istore C.1 C.2.1 dg hl hi rfl (fun ls' hl' => k H locs ls' hP hD hS (lv_sub hl' ks hp))
theorem j_aload_n (C : GC p s m args meth c cc nL own Ts D tys A) {i : Fin 4} {x : Nat} (dg : decode cc pc = .ok (.aload_n i, 1)) (n : Nat) (hn : lv[n]? = some ((i : Nat), .ref x))
    (k : J p l e R s m args below meth c nL D A cells slots Q ws lv (pc + 1) (.ref x :: st)) : J p l e R s m args below meth c nL D A cells slots Q ws lv pc st :=
  fun H locs ls hP hD hS hl => lv_aload_n C.1 C.2.1 dg rfl (lv_at hl n hn) (k H locs ls hP hD hS hl)
theorem j_aload (C : GC p s m args meth c cc nL own Ts D tys A) {i : Nat} {x : Nat} (dg : decode cc pc = .ok (.aload i, 2)) (n : Nat) (hn : lv[n]? = some (i, .ref x))
    (k : J p l e R s m args below meth c nL D A cells slots Q ws lv (pc + 2) (.ref x :: st)) : J p l e R s m args below meth c nL D A cells slots Q ws lv pc st :=
  fun H locs ls hP hD hS hl => lv_aload C.1 C.2.1 dg (lv_at hl n hn) (k H locs ls hP hD hS hl)
theorem j_astore_n (C : GC p s m args meth c cc nL own Ts D tys A) {i : Fin 4} {x : Nat} {lv' : List (Nat × Value)} (dg : decode cc pc = .ok (.astore_n i, 1)) (hi : (i : Nat) < nL) (ks : List Nat) (hp : lv_pick (((i : Nat), Value.ref x) :: lv.filter (lvF i)) ks = lv')
    (k : J p l e R s m args below meth c nL D A cells slots Q ws lv' (pc + 1) st) : J p l e R s m args below meth c nL D A cells slots Q ws lv pc (.ref x :: st) :=
  fun H locs ls hP hD hS hl => lv_astore_n C.1 C.2.1 dg rfl hl hi rfl (fun ls' hl' => k H locs ls' hP hD hS (lv_sub hl' ks hp))
theorem j_astore (C : GC p s m args meth c cc nL own Ts D tys A) {i : Nat} {x : Nat} {lv' : List (Nat × Value)} (dg : decode cc pc = .ok (.astore i, 2)) (hi : (i : Nat) < nL) (ks : List Nat) (hp : lv_pick ((i, Value.ref x) :: lv.filter (lvF i)) ks = lv')
    (k : J p l e R s m args below meth c nL D A cells slots Q ws lv' (pc + 2) st) : J p l e R s m args below meth c nL D A cells slots Q ws lv pc (.ref x :: st) :=
  fun H locs ls hP hD hS hl => lv_astore C.1 C.2.1 dg hl hi rfl (fun ls' hl' => k H locs ls' hP hD hS (lv_sub hl' ks hp))
theorem j_lload_n (C : GC p s m args meth c cc nL own Ts D tys A) {i : Fin 4} {x : Int64} (dg : decode cc pc = .ok (.lload_n i, 1)) (n : Nat) (hn : lv[n]? = some ((i : Nat), .long x))
    (k : J p l e R s m args below meth c nL D A cells slots Q ws lv (pc + 1) (.long x :: st)) : J p l e R s m args below meth c nL D A cells slots Q ws lv pc st :=
  fun H locs ls hP hD hS hl => lv_lload_n C.1 C.2.1 dg rfl (lv_at hl n hn) (k H locs ls hP hD hS hl)
theorem j_lload (C : GC p s m args meth c cc nL own Ts D tys A) {i : Nat} {x : Int64} (dg : decode cc pc = .ok (.lload i, 2)) (n : Nat) (hn : lv[n]? = some (i, .long x))
    (k : J p l e R s m args below meth c nL D A cells slots Q ws lv (pc + 2) (.long x :: st)) : J p l e R s m args below meth c nL D A cells slots Q ws lv pc st :=
  fun H locs ls hP hD hS hl => lv_lload C.1 C.2.1 dg (lv_at hl n hn) (k H locs ls hP hD hS hl)
theorem j_lstore_n (C : GC p s m args meth c cc nL own Ts D tys A) {i : Fin 4} {x : Int64} {lv' : List (Nat × Value)} (dg : decode cc pc = .ok (.lstore_n i, 1)) (hi : (i : Nat) + 1 < nL) (ks : List Nat) (hp : lv_pick (((i : Nat), Value.long x) :: lv.filter (lvF2 i)) ks = lv')
    (k : J p l e R s m args below meth c nL D A cells slots Q ws lv' (pc + 1) st) : J p l e R s m args below meth c nL D A cells slots Q ws lv pc (.long x :: st) :=
  fun H locs ls hP hD hS hl => lv_lstore_n C.1 C.2.1 dg rfl hl hi rfl (fun ls' hl' => k H locs ls' hP hD hS (lv_sub hl' ks hp))
theorem j_lstore (C : GC p s m args meth c cc nL own Ts D tys A) {i : Nat} {x : Int64} {lv' : List (Nat × Value)} (dg : decode cc pc = .ok (.lstore i, 2)) (hi : (i : Nat) + 1 < nL) (ks : List Nat) (hp : lv_pick ((i, Value.long x) :: lv.filter (lvF2 i)) ks = lv')
    (k : J p l e R s m args below meth c nL D A cells slots Q ws lv' (pc + 2) st) : J p l e R s m args below meth c nL D A cells slots Q ws lv pc (.long x :: st) :=
  fun H locs ls hP hD hS hl => lv_lstore C.1 C.2.1 dg hl hi rfl (fun ls' hl' => k H locs ls' hP hD hS (lv_sub hl' ks hp))
theorem j_iinc (C : GC p s m args meth c cc nL own Ts D tys A) {i : Nat} {n : Int} {x : Int} {lv' : List (Nat × Value)} (dg : decode cc pc = .ok (.iinc i n, 3)) (j : Nat) (hj : lv[j]? = some (i, .int (zI x))) (hi : i < nL) (ks : List Nat) (hp : lv_pick ((i, Value.int (zI (x + n))) :: lv.filter (lvF i)) ks = lv')
    (k : J p l e R s m args below meth c nL D A cells slots Q ws lv' (pc + 3) st) : J p l e R s m args below meth c nL D A cells slots Q ws lv pc st :=
  fun H locs ls hP hD hS hl => lv_iinc C.1 C.2.1 dg hl hj (zI_add x n) hi rfl (fun ls' hl' => k H locs ls' hP hD hS (lv_sub hl' ks hp))
theorem j_iadd (C : GC p s m args meth c cc nL own Ts D tys A) {a b : Int} (dg : decode cc pc = .ok (.iadd, 1))
    (k : J p l e R s m args below meth c nL D A cells slots Q ws lv (pc + 1) (.int (zI (a + b)) :: st)) : J p l e R s m args below meth c nL D A cells slots Q ws lv pc (.int (zI b) :: .int (zI a) :: st) :=
  fun H locs ls hP hD hS hl => lv_iadd C.1 C.2.1 dg (by rw [zI_add]; exact k H locs ls hP hD hS hl)
theorem j_isub (C : GC p s m args meth c cc nL own Ts D tys A) {a b : Int} (dg : decode cc pc = .ok (.isub, 1))
    (k : J p l e R s m args below meth c nL D A cells slots Q ws lv (pc + 1) (.int (zI (a - b)) :: st)) : J p l e R s m args below meth c nL D A cells slots Q ws lv pc (.int (zI b) :: .int (zI a) :: st) :=
  fun H locs ls hP hD hS hl => lv_isub C.1 C.2.1 dg (by rw [zI_sub]; exact k H locs ls hP hD hS hl)
theorem j_imul (C : GC p s m args meth c cc nL own Ts D tys A) {a b : Int} (dg : decode cc pc = .ok (.imul, 1))
    (k : J p l e R s m args below meth c nL D A cells slots Q ws lv (pc + 1) (.int (zI (a * b)) :: st)) : J p l e R s m args below meth c nL D A cells slots Q ws lv pc (.int (zI b) :: .int (zI a) :: st) :=
  fun H locs ls hP hD hS hl => lv_imul C.1 C.2.1 dg (by rw [zI_mul]; exact k H locs ls hP hD hS hl)
theorem j_ineg (C : GC p s m args meth c cc nL own Ts D tys A) {a : Int} (dg : decode cc pc = .ok (.ineg, 1))
    (k : J p l e R s m args below meth c nL D A cells slots Q ws lv (pc + 1) (.int (zI (-a)) :: st)) : J p l e R s m args below meth c nL D A cells slots Q ws lv pc (.int (zI a) :: st) :=
  fun H locs ls hP hD hS hl => lv_ineg C.1 C.2.1 dg (by rw [zI_neg]; exact k H locs ls hP hD hS hl)
theorem j_ladd (C : GC p s m args meth c cc nL own Ts D tys A) {a b : Int64} (dg : decode cc pc = .ok (.ladd, 1))
    (k : J p l e R s m args below meth c nL D A cells slots Q ws lv (pc + 1) (.long (a + b) :: st)) : J p l e R s m args below meth c nL D A cells slots Q ws lv pc (.long b :: .long a :: st) :=
  fun H locs ls hP hD hS hl => lv_ladd C.1 C.2.1 dg (k H locs ls hP hD hS hl)
theorem j_lmul (C : GC p s m args meth c cc nL own Ts D tys A) {a b : Int64} (dg : decode cc pc = .ok (.lmul, 1))
    (k : J p l e R s m args below meth c nL D A cells slots Q ws lv (pc + 1) (.long (a * b) :: st)) : J p l e R s m args below meth c nL D A cells slots Q ws lv pc (.long b :: .long a :: st) :=
  fun H locs ls hP hD hS hl => lv_lmul C.1 C.2.1 dg (k H locs ls hP hD hS hl)
theorem j_i2l (C : GC p s m args meth c cc nL own Ts D tys A) {a : Int} (dg : decode cc pc = .ok (.i2l, 1))
    (k : J p l e R s m args below meth c nL D A cells slots Q ws lv (pc + 1) (.long (zI a).toInt64 :: st)) : J p l e R s m args below meth c nL D A cells slots Q ws lv pc (.int (zI a) :: st) :=
  fun H locs ls hP hD hS hl => lv_i2l C.1 C.2.1 dg rfl (k H locs ls hP hD hS hl)
theorem j_ldc2 (C : GC p s m args meth c cc nL own Ts D tys A) {i : Nat} {v : Int64} (hc : (Jvm.Cond.constantLong own i v).before args s = true) (dg : decode cc pc = .ok (.ldc2_w i, 3))
    (k : J p l e R s m args below meth c nL D A cells slots Q ws lv (pc + 3) (.long v :: st)) : J p l e R s m args below meth c nL D A cells slots Q ws lv pc st :=
  fun H locs ls hP hD hS hl => lv_ldc2 C.1 C.2.1 C.2.2.2.1 hc dg (k H locs ls hP hD hS hl)
theorem j_dup (C : GC p s m args meth c cc nL own Ts D tys A) {v : Value} (dg : decode cc pc = .ok (.dup, 1)) (hv : v.category = 1)
    (k : J p l e R s m args below meth c nL D A cells slots Q ws lv (pc + 1) (v :: v :: st)) : J p l e R s m args below meth c nL D A cells slots Q ws lv pc (v :: st) :=
  fun H locs ls hP hD hS hl => lv_dup C.1 C.2.1 dg hv (k H locs ls hP hD hS hl)
theorem j_dup2 (C : GC p s m args meth c cc nL own Ts D tys A) {v w : Value} (dg : decode cc pc = .ok (.dup2, 1)) (hv : v.category = 1) (hw : w.category = 1)
    (k : J p l e R s m args below meth c nL D A cells slots Q ws lv (pc + 1) (v :: w :: v :: w :: st)) : J p l e R s m args below meth c nL D A cells slots Q ws lv pc (v :: w :: st) :=
  fun H locs ls hP hD hS hl => lv_dup2_11 C.1 C.2.1 dg hv hw (k H locs ls hP hD hS hl)
theorem j_pop (C : GC p s m args meth c cc nL own Ts D tys A) {v : Value} (dg : decode cc pc = .ok (.pop, 1)) (hv : v.category = 1)
    (k : J p l e R s m args below meth c nL D A cells slots Q ws lv (pc + 1) st) : J p l e R s m args below meth c nL D A cells slots Q ws lv pc (v :: st) :=
  fun H locs ls hP hD hS hl => lv_pop C.1 C.2.1 dg hv (k H locs ls hP hD hS hl)
theorem j_goto (C : GC p s m args meth c cc nL own Ts D tys A) {off : Int} (tgt : Nat) (dg : decode cc pc = .ok (.goto off, 3)) (ht : (pc : Int) + off = (tgt : Int))
    (k : J p l e R s m args below meth c nL D A cells slots Q ws lv tgt st) : J p l e R s m args below meth c nL D A cells slots Q ws lv pc st :=
  fun H locs ls hP hD hS hl => lv_goto C.1 C.2.1 dg ht (k H locs ls hP hD hS hl)
theorem j_icmp_eq (C : GC p s m args meth c cc nL own Ts D tys A) {off : Int} (tgt : Nat) {a b : Int} (dg : decode cc pc = .ok (.if_icmp .eq off, 3)) (ht : (pc : Int) + off = (tgt : Int)) (ha : zR a) (hb : zR b)
    (kt : (a = b) → J p l e R s m args below meth c nL D A cells slots Q ws lv tgt st) (kf : (a ≠ b) → J p l e R s m args below meth c nL D A cells slots Q ws lv (pc + 3) st) : J p l e R s m args below meth c nL D A cells slots Q ws lv pc (.int (zI b) :: .int (zI a) :: st) :=
  fun H locs ls hP hD hS hl => lv_icmp_eq C.1 C.2.1 dg ht (fun h => kt ((zI_eq ha hb).mp h) H locs ls hP hD hS hl) (fun h => kf (fun q => h ((zI_eq ha hb).mpr q)) H locs ls hP hD hS hl)
theorem j_if_eq (C : GC p s m args meth c cc nL own Ts D tys A) {off : Int} (tgt : Nat) {a : Int} (dg : decode cc pc = .ok (.ifCond .eq off, 3)) (ht : (pc : Int) + off = (tgt : Int)) (ha : zR a)
    (kt : (a = 0) → J p l e R s m args below meth c nL D A cells slots Q ws lv tgt st) (kf : (a ≠ 0) → J p l e R s m args below meth c nL D A cells slots Q ws lv (pc + 3) st) : J p l e R s m args below meth c nL D A cells slots Q ws lv pc (.int (zI a) :: st) :=
  fun H locs ls hP hD hS hl => lv_if_eq C.1 C.2.1 dg ht (fun h => kt ((zI_eq0 ha).mp h) H locs ls hP hD hS hl) (fun h => kf (fun q => h ((zI_eq0 ha).mpr q)) H locs ls hP hD hS hl)
theorem j_icmp_ne (C : GC p s m args meth c cc nL own Ts D tys A) {off : Int} (tgt : Nat) {a b : Int} (dg : decode cc pc = .ok (.if_icmp .ne off, 3)) (ht : (pc : Int) + off = (tgt : Int)) (ha : zR a) (hb : zR b)
    (kt : (a ≠ b) → J p l e R s m args below meth c nL D A cells slots Q ws lv tgt st) (kf : (a = b) → J p l e R s m args below meth c nL D A cells slots Q ws lv (pc + 3) st) : J p l e R s m args below meth c nL D A cells slots Q ws lv pc (.int (zI b) :: .int (zI a) :: st) :=
  fun H locs ls hP hD hS hl => lv_icmp_ne C.1 C.2.1 dg ht (fun h => kt (fun q => h ((zI_eq ha hb).mpr q)) H locs ls hP hD hS hl) (fun h => kf ((zI_eq ha hb).mp h) H locs ls hP hD hS hl)
theorem j_if_ne (C : GC p s m args meth c cc nL own Ts D tys A) {off : Int} (tgt : Nat) {a : Int} (dg : decode cc pc = .ok (.ifCond .ne off, 3)) (ht : (pc : Int) + off = (tgt : Int)) (ha : zR a)
    (kt : (a ≠ 0) → J p l e R s m args below meth c nL D A cells slots Q ws lv tgt st) (kf : (a = 0) → J p l e R s m args below meth c nL D A cells slots Q ws lv (pc + 3) st) : J p l e R s m args below meth c nL D A cells slots Q ws lv pc (.int (zI a) :: st) :=
  fun H locs ls hP hD hS hl => lv_if_ne C.1 C.2.1 dg ht (fun h => kt (fun q => h ((zI_eq0 ha).mpr q)) H locs ls hP hD hS hl) (fun h => kf ((zI_eq0 ha).mp h) H locs ls hP hD hS hl)
theorem j_icmp_lt (C : GC p s m args meth c cc nL own Ts D tys A) {off : Int} (tgt : Nat) {a b : Int} (dg : decode cc pc = .ok (.if_icmp .lt off, 3)) (ht : (pc : Int) + off = (tgt : Int)) (ha : zR a) (hb : zR b)
    (kt : (a < b) → J p l e R s m args below meth c nL D A cells slots Q ws lv tgt st) (kf : (b ≤ a) → J p l e R s m args below meth c nL D A cells slots Q ws lv (pc + 3) st) : J p l e R s m args below meth c nL D A cells slots Q ws lv pc (.int (zI b) :: .int (zI a) :: st) :=
  fun H locs ls hP hD hS hl => lv_icmp_lt C.1 C.2.1 dg ht (fun h => kt ((zI_lt ha hb).mp h) H locs ls hP hD hS hl) (fun h => kf (Int.not_lt.mp fun q => h ((zI_lt ha hb).mpr q)) H locs ls hP hD hS hl)
theorem j_if_lt (C : GC p s m args meth c cc nL own Ts D tys A) {off : Int} (tgt : Nat) {a : Int} (dg : decode cc pc = .ok (.ifCond .lt off, 3)) (ht : (pc : Int) + off = (tgt : Int)) (ha : zR a)
    (kt : (a < 0) → J p l e R s m args below meth c nL D A cells slots Q ws lv tgt st) (kf : (0 ≤ a) → J p l e R s m args below meth c nL D A cells slots Q ws lv (pc + 3) st) : J p l e R s m args below meth c nL D A cells slots Q ws lv pc (.int (zI a) :: st) :=
  fun H locs ls hP hD hS hl => lv_if_lt C.1 C.2.1 dg ht (fun h => kt ((zI_lt0 ha).mp h) H locs ls hP hD hS hl) (fun h => kf (Int.not_lt.mp fun q => h ((zI_lt0 ha).mpr q)) H locs ls hP hD hS hl)
theorem j_icmp_ge (C : GC p s m args meth c cc nL own Ts D tys A) {off : Int} (tgt : Nat) {a b : Int} (dg : decode cc pc = .ok (.if_icmp .ge off, 3)) (ht : (pc : Int) + off = (tgt : Int)) (ha : zR a) (hb : zR b)
    (kt : (b ≤ a) → J p l e R s m args below meth c nL D A cells slots Q ws lv tgt st) (kf : (a < b) → J p l e R s m args below meth c nL D A cells slots Q ws lv (pc + 3) st) : J p l e R s m args below meth c nL D A cells slots Q ws lv pc (.int (zI b) :: .int (zI a) :: st) :=
  fun H locs ls hP hD hS hl => lv_icmp_ge C.1 C.2.1 dg ht (fun h => kt ((zI_le hb ha).mp h) H locs ls hP hD hS hl) (fun h => kf (Int.not_le.mp fun q => h ((zI_le hb ha).mpr q)) H locs ls hP hD hS hl)
theorem j_if_ge (C : GC p s m args meth c cc nL own Ts D tys A) {off : Int} (tgt : Nat) {a : Int} (dg : decode cc pc = .ok (.ifCond .ge off, 3)) (ht : (pc : Int) + off = (tgt : Int)) (ha : zR a)
    (kt : (0 ≤ a) → J p l e R s m args below meth c nL D A cells slots Q ws lv tgt st) (kf : (a < 0) → J p l e R s m args below meth c nL D A cells slots Q ws lv (pc + 3) st) : J p l e R s m args below meth c nL D A cells slots Q ws lv pc (.int (zI a) :: st) :=
  fun H locs ls hP hD hS hl => lv_if_ge C.1 C.2.1 dg ht (fun h => kt ((zI_ge0 ha).mp h) H locs ls hP hD hS hl) (fun h => kf (Int.not_le.mp fun q => h ((zI_ge0 ha).mpr q)) H locs ls hP hD hS hl)
theorem j_icmp_gt (C : GC p s m args meth c cc nL own Ts D tys A) {off : Int} (tgt : Nat) {a b : Int} (dg : decode cc pc = .ok (.if_icmp .gt off, 3)) (ht : (pc : Int) + off = (tgt : Int)) (ha : zR a) (hb : zR b)
    (kt : (b < a) → J p l e R s m args below meth c nL D A cells slots Q ws lv tgt st) (kf : (a ≤ b) → J p l e R s m args below meth c nL D A cells slots Q ws lv (pc + 3) st) : J p l e R s m args below meth c nL D A cells slots Q ws lv pc (.int (zI b) :: .int (zI a) :: st) :=
  fun H locs ls hP hD hS hl => lv_icmp_gt C.1 C.2.1 dg ht (fun h => kt ((zI_lt hb ha).mp h) H locs ls hP hD hS hl) (fun h => kf (Int.not_lt.mp fun q => h ((zI_lt hb ha).mpr q)) H locs ls hP hD hS hl)
theorem j_if_gt (C : GC p s m args meth c cc nL own Ts D tys A) {off : Int} (tgt : Nat) {a : Int} (dg : decode cc pc = .ok (.ifCond .gt off, 3)) (ht : (pc : Int) + off = (tgt : Int)) (ha : zR a)
    (kt : (0 < a) → J p l e R s m args below meth c nL D A cells slots Q ws lv tgt st) (kf : (a ≤ 0) → J p l e R s m args below meth c nL D A cells slots Q ws lv (pc + 3) st) : J p l e R s m args below meth c nL D A cells slots Q ws lv pc (.int (zI a) :: st) :=
  fun H locs ls hP hD hS hl => lv_if_gt C.1 C.2.1 dg ht (fun h => kt ((zI_gt0 ha).mp h) H locs ls hP hD hS hl) (fun h => kf (Int.not_lt.mp fun q => h ((zI_gt0 ha).mpr q)) H locs ls hP hD hS hl)
theorem j_icmp_le (C : GC p s m args meth c cc nL own Ts D tys A) {off : Int} (tgt : Nat) {a b : Int} (dg : decode cc pc = .ok (.if_icmp .le off, 3)) (ht : (pc : Int) + off = (tgt : Int)) (ha : zR a) (hb : zR b)
    (kt : (a ≤ b) → J p l e R s m args below meth c nL D A cells slots Q ws lv tgt st) (kf : (b < a) → J p l e R s m args below meth c nL D A cells slots Q ws lv (pc + 3) st) : J p l e R s m args below meth c nL D A cells slots Q ws lv pc (.int (zI b) :: .int (zI a) :: st) :=
  fun H locs ls hP hD hS hl => lv_icmp_le C.1 C.2.1 dg ht (fun h => kt ((zI_le ha hb).mp h) H locs ls hP hD hS hl) (fun h => kf (Int.not_le.mp fun q => h ((zI_le ha hb).mpr q)) H locs ls hP hD hS hl)
theorem j_if_le (C : GC p s m args meth c cc nL own Ts D tys A) {off : Int} (tgt : Nat) {a : Int} (dg : decode cc pc = .ok (.ifCond .le off, 3)) (ht : (pc : Int) + off = (tgt : Int)) (ha : zR a)
    (kt : (a ≤ 0) → J p l e R s m args below meth c nL D A cells slots Q ws lv tgt st) (kf : (0 < a) → J p l e R s m args below meth c nL D A cells slots Q ws lv (pc + 3) st) : J p l e R s m args below meth c nL D A cells slots Q ws lv pc (.int (zI a) :: st) :=
  fun H locs ls hP hD hS hl => lv_if_le C.1 C.2.1 dg ht (fun h => kt ((zI_le0 ha).mp h) H locs ls hP hD hS hl) (fun h => kf (Int.not_le.mp fun q => h ((zI_le0 ha).mpr q)) H locs ls hP hD hS hl)
theorem j_get (C : GC p s m args meth c cc nL own Ts D tys A) {ref Cn : String} {T : u_T} {N ci index a : Nat} (hin : ∀ w ∈ u_ws Cn T N, w ∈ Ts) (q0 : Nat) {fs : List Value} (he : ws[q0]? = some (a, .inr (ci, fs))) (hc : vwCl[ci]? = some (Cn, T, N)) (k : Nat) (hk : k < N) (hlink : (Cond.fieldLink own index ref (T k).2.1 (T k).2.2.1).before args s = true) (hsame : (T k).1 = ref) {v : Value} (hv : fs[k]? = some v) (dg : decode cc pc = .ok (.getfield index, 3))
    (kk : J p l e R s m args below meth c nL D A cells slots Q ws lv (pc + 3) (v :: st)) : J p l e R s m args below meth c nL D A cells slots Q ws lv pc (.ref a :: st) :=
  fun H locs ls hP hD hS hl => va_get C.1 C.2.1 C.2.2.2.2.1 hin C.2.2.2.1 C.2.2.2.2.2.1 hP q0 he hc k hk hlink (fun _ h9 => hsame ▸ h9) hv dg (kk H locs ls hP hD hS hl)
theorem j_put (C : GC p s m args meth c cc nL own Ts D tys A) {ref Cn : String} {T : u_T} {N ci index a : Nat} (hin : ∀ w ∈ u_ws Cn T N, w ∈ Ts) (ty0 : Nat → FieldType) (hty : ∀ k, k < N → parseFieldDescriptor (T k).2.2.1 = some (ty0 k)) (hnm : ∀ a, a < N → ∀ b, b < N → a ≠ b → (T a).2.1 ≠ (T b).2.1) (q0 : Nat) {fs : List Value} (he : ws[q0]? = some (a, .inr (ci, fs))) (hc : vwCl[ci]? = some (Cn, T, N)) (k : Nat) (hk : k < N) (hlink : (Cond.fieldLink own index ref (T k).2.1 (T k).2.2.1).before args s = true) (hsame : (T k).1 = ref) (hfin : (T k).2.2.2 = false) {v : Int32} (hd : parseFieldDescriptor (T k).2.2.1 = some .int) (hl : k < fs.length) {ws' : va_W} (hw : ws.set q0 (a, .inr (ci, fs.set k (.int v))) = ws') (dg : decode cc pc = .ok (.putfield index, 3))
    (kk : J p l e R s m args below meth c nL D A cells slots Q ws' lv (pc + 3) st) : J p l e R s m args below meth c nL D A cells slots Q ws lv pc (.int v :: .ref a :: st) := by
  subst hw
  exact fun H locs ls hP hD hS hlv => va_put C.1 C.2.1 C.2.2.2.2.1 hin ty0 hty hnm C.2.2.2.1 C.2.2.2.2.2.1 hP hD hS q0 he hc k hk hlink (fun _ h9 => hsame ▸ h9) hfin (ty := .int) (v := .int v) hd rfl rfl hl dg (fun H1 locs1 hP1 hD1 hS1 => kk H1 locs1 ls hP1 hD1 hS1 hlv)
theorem j_iald (C : GC p s m args meth c cc nL own Ts D tys A) (q0 t0 : Nat) {cA : ClassId} {a n : Nat} {f : Int → Int} (ha : ws[q0]? = some (a, .inl (cA, n, .inl (zA f)))) (ht : tys[t0]? = some (cA, .int)) {i : Int} (h0 : 0 ≤ i) (h1 : i < (n : Int)) (hn : n < 2147483648) (dg : decode cc pc = .ok (.iaload, 1))
    (k : J p l e R s m args below meth c nL D A cells slots Q ws lv (pc + 1) (.int (zI (f i)) :: st)) : J p l e R s m args below meth c nL D A cells slots Q ws lv pc (.int (zI i) :: .ref a :: st) :=
  fun H locs ls hP hD hS hl => va_iald C.1 C.2.1 C.2.2.2.2.2.1 hP q0 t0 ha ht (zI_in h0 h1 hn) dg (by rw [zA_at f h0 (by omega)]; exact k H locs ls hP hD hS hl)
theorem j_iast (C : GC p s m args meth c cc nL own Ts D tys A) (q0 t0 : Nat) {cA : ClassId} {a n : Nat} {f : Int → Int} (ha : ws[q0]? = some (a, .inl (cA, n, .inl (zA f)))) (ht : tys[t0]? = some (cA, .int)) {i v : Int} (h0 : 0 ≤ i) (h1 : i < (n : Int)) (hn : n < 2147483648) {ws' : va_W} (hw : ws.set q0 (a, .inl (cA, n, .inl (zA (upZ f i v)))) = ws') (dg : decode cc pc = .ok (.iastore, 1))
    (k : J p l e R s m args below meth c nL D A cells slots Q ws' lv (pc + 1) st) : J p l e R s m args below meth c nL D A cells slots Q ws lv pc (.int (zI v) :: .int (zI i) :: .ref a :: st) := by
  subst hw
  exact fun H locs ls hP hD hS hl => va_iast C.1 C.2.1 C.2.2.2.2.2.1 hP hD hS q0 t0 ha ht (zI_in h0 h1 hn) dg (fun H1 locs1 hP1 hD1 hS1 => by
    rw [upd_zA f v h0 (by omega)] at hP1 hD1
    exact k H1 locs1 ls hP1 hD1 hS1 hl)
/-- a row of an array of arrays -/
theorem j_aald (C : GC p s m args meth c cc nL own Ts D tys A) (q0 t0 : Nat) {cA : ClassId} {a n : Nat} {t : FieldType} {g : Nat → Nat} (ha : ws[q0]? = some (a, .inl (cA, n, .inr (.inr (.inr (.inr (fun j => some (g j)))))))) (ht : tys[t0]? = some (cA, .array t)) {i : Int} (h0 : 0 ≤ i) (h1 : i < (n : Int)) (hn : n < 2147483648) (dg : decode cc pc = .ok (.aaload, 1))
    (k : J p l e R s m args below meth c nL D A cells slots Q ws lv (pc + 1) (.ref (g i.toNat) :: st)) : J p l e R s m args below meth c nL D A cells slots Q ws lv pc (.int (zI i) :: .ref a :: st) := by
  intro H locs ls hP hD hS hl
  obtain ⟨j, rfl⟩ := Int.eq_ofNat_of_zero_le h0
  rw [zI_nI (by omega)]
  have hj : j < n := by omega
  refine W.aald (v := .ref (g j)) (ty := .array t) C.1 C.2.1 (hP q0 _ ha) ((C.2.2.2.2.2.1.2 t0 _ ht).1 n (fun j => va_rf (some (g j)))) rfl (fun q => by cases q) (by show ¬ (nI j < 0 ∨ (arrV _ _ _).slots.size ≤ _); rw [arrV_size]; exact vp_in_nI hj (by omega)) (by rw [nI_clamp (by omega)]; show (arrV _ _ _).slots[_]? = _; rw [arrV_read _ _ hj]; rfl) rfl rfl dg ?_
  exact k H locs ls hP hD hS hl
theorem j_min (C : GC p s m args meth c cc nL own Ts D tys A) {index : Nat} (h1 : (Cond.methodLink own index Lib.Math.min.name).before args s = true) (h2 : (Cond.static Lib.Math.min.name).before args s = true) (h3 : (Cond.initialized "java/lang/Math").before args s = true) (h4 : (Cond.code Lib.Math.min.name Lib.Math.min.code 2 (some .int)).before args s = true)
    (hframes : 1 ≤ R.frames) (hlocals : (st.map fun v => v.category).sum + 13 ≤ R.locals) (hc : cells ≤ R.cells) (hs : slots ≤ R.slots) {a b : Int} (ha : zR a) (hb : zR b) (dg : decode cc pc = .ok (.invokestatic index, 3))
    (k : J p l e R s m args below meth c nL D A cells slots Q ws lv (pc + 3) (.int (zI (min a b)) :: st)) : J p l e R s m args below meth c nL D A cells slots Q ws lv pc (.int (zI b) :: .int (zI a) :: st) :=
  fun H locs ls hP hD hS hl => va_mmin C.1 C.2.1 (C.2.2.1.trans hl.1.symm) C.2.2.2.1 h1 h2 h3 h4 hframes hlocals hc hs dg (by
    have e : (if zI b < zI a then zI b else zI a) = zI (min a b) := by
      by_cases h : b < a
      · rw [if_pos ((zI_lt hb ha).mpr h), Int.min_eq_right (Int.le_of_lt h)]
      · rw [if_neg (fun q => h ((zI_lt hb ha).mp q)), Int.min_eq_left (by omega)]
    rw [e]
    exact k H locs ls hP hD hS hl)
end JR
end
section
/-! ===== contracts: a method's end and world are functions of its start ===== -/
def cP (D : va_G) (tys : List (ClassId × FieldType)) (av : List Value) (w : va_W) (sz : Nat) : Array Value → State → Prop := va_Pc av (fun U => U.heap.size = sz ∧ va_P D vwCl w U.heap ∧ va_K D vwCl tys U ∧ va_D (fun _ => True) w)
def cB (D : va_G) (tys : List (ClassId × FieldType)) (A : Nat → Prop) (w1 : va_W) : Unit → State → Prop := fun _ t => va_P D vwCl w1 t.heap ∧ va_K D vwCl tys t ∧ va_D A w1
theorem cP.blind {D : va_G} {tys : List (ClassId × FieldType)} {av : List Value} {w : va_W} {sz : Nat} : FrameBlind (cP D tys av w sz) := fun a U g mk q => by
  obtain ⟨q0, q1, qP, qK, qD⟩ := q
  exact ⟨q0, q1, qP, va_K.moved (u := U) (U := U.calling g mk a) (Vm.Alike.refl U.vm) qK, qD⟩
theorem free_all {A : Nat → Prop} {ws : va_W} {H0 H : Heap} {locs : List Loc} (hD : va_D A ws) (hS : va_S A H0 H locs) (hA : ∀ q, H0.size ≤ q → A q) : ∀ q, va_A ws H.size q → A q := by
  intro q h
  rcases h with ⟨k, e, h⟩ | h
  · exact hD.2 k (q, e) h
  · exact hA q (Nat.le_trans hS.1 h)
def qI (D : va_G) (tys : List (ClassId × FieldType)) (A : Nat → Prop) (w1 : va_W) (r0 : Int32) : Array Value → State → Outcome → State → Prop := va_Qi (fun (r : Int32) (_ : Unit) => r = r0) (cB D tys A w1) A
def cI (l : Launch) (y : MethodName) (ws : List Cond) (rm : Room) (D : va_G) (tys : List (ClassId × FieldType)) (av : List Value) (w w1 : va_W) (r0 : Int32) (mc ms : Nat) : Prop := ∀ sz : Nat, Met l y ws rm (cP D tys av w sz) (qI D tys (va_A w sz) w1 r0) mc ms (va_A w sz)
theorem cI.of {l : Launch} {y : MethodName} {ws ws' : List Cond} {rm : Room} {cc : ByteArray} {maxL : Nat} {ret : FieldType} {D : va_G} {tys : List (ClassId × FieldType)} {av : List Value} {w w1 : va_W} {r0 : Int32} {mc ms : Nat} (hy : plainName y.cls = true) (hw : ws = Cond.code y cc maxL (some ret) :: ws') {lv : List (Nat × Value)} (ks : List Nat) (hlv : lv_pick (lv_args 0 av) ks = lv) (hav : (lg_sl av).length ≤ maxL)
    (body : ∀ (p : Program) (e : Env) (s : State) (m : MethodId) (args : Array Value) (below : List Frame) (meth : Method) (c : Code) (A : Nat → Prop), GC p s m args meth c cc maxL y.cls ws D tys A → meth.sig.returnType = some ret → J p l e rm s m args below meth c maxL D A 0 0 (MQ below (qI D tys A w1 r0) args s mc ms A) w lv 0 []) : cI l y ws rm D tys av w w1 r0 mc ms := by
  intro sz
  refine Met.ofW (cc := cc) (maxL := maxL) (ret := some ret) hy hw ?_
  intro p e s m args below meth c s₁ B hml hv
  obtain ⟨rfl, hsz, hP, hK, hD0⟩ := hv
  subst hsz
  have hD := hD0.self (sz := s.heap.size)
  have hl := lv_entry av (n := maxL) hav
  rw [lg_entry_eq]
  exact body p e s m av.toArray below meth c (va_A w s.heap.size) ⟨B.exec, B.bytes, hml, findClass_of_methodNamed B.named, atoms_spec (ws := ws) B.pre, hK, fun q h => Or.inr h, B.notSynchronized⟩ B.returns s.heap [] _ hP hD va_S.rf (lv_sub hl ks hlv)
theorem cI.ofW {l : Launch} {y : MethodName} {ws ws' : List Cond} {rm : Room} {cc : ByteArray} {maxL : Nat} {ret : FieldType} {hh : List (Nat × Nat × Nat × Nat)} {D : va_G} {tys : List (ClassId × FieldType)} {av : List Value} {w w1 : va_W} {r0 : Int32} {mc ms : Nat} (hy : plainName y.cls = true) (hw : ws = Cond.codeWith y cc maxL (some ret) hh :: ws') {lv : List (Nat × Value)} (ks : List Nat) (hlv : lv_pick (lv_args 0 av) ks = lv) (hav : (lg_sl av).length ≤ maxL)
    (body : ∀ (p : Program) (e : Env) (s : State) (m : MethodId) (args : Array Value) (below : List Frame) (meth : Method) (c : Code) (A : Nat → Prop), GC p s m args meth c cc maxL y.cls ws D tys A → meth.sig.returnType = some ret → J p l e rm s m args below meth c maxL D A 0 0 (MQ below (qI D tys A w1 r0) args s mc ms A) w lv 0 []) : cI l y ws rm D tys av w w1 r0 mc ms := by
  intro sz
  refine va_MetW (hh := hh) (cc := cc) (maxL := maxL) (ret := some ret) hy hw ?_
  intro p e s m args below meth c s₁ B hml hv
  obtain ⟨rfl, hsz, hP, hK, hD0⟩ := hv
  subst hsz
  have hD := hD0.self (sz := s.heap.size)
  have hl := lv_entry av (n := maxL) hav
  rw [lg_entry_eq]
  exact body p e s m av.toArray below meth c (va_A w s.heap.size) ⟨B.exec, B.bytes, hml, findClass_of_methodNamed B.named, atoms_spec (ws := ws) B.pre, hK, fun q h => Or.inr h, B.notSynchronized⟩ B.returns s.heap [] _ hP hD va_S.rf (lv_sub hl ks hlv)
def qL (D : va_G) (tys : List (ClassId × FieldType)) (A : Nat → Prop) (w1 : va_W) (r0 : Int64) : Array Value → State → Outcome → State → Prop := va_Ql (fun (r : Int64) (_ : Unit) => r = r0) (cB D tys A w1) A
def cL (l : Launch) (y : MethodName) (ws : List Cond) (rm : Room) (D : va_G) (tys : List (ClassId × FieldType)) (av : List Value) (w w1 : va_W) (r0 : Int64) (mc ms : Nat) : Prop := ∀ sz : Nat, Met l y ws rm (cP D tys av w sz) (qL D tys (va_A w sz) w1 r0) mc ms (va_A w sz)
theorem cL.of {l : Launch} {y : MethodName} {ws ws' : List Cond} {rm : Room} {cc : ByteArray} {maxL : Nat}  {D : va_G} {tys : List (ClassId × FieldType)} {av : List Value} {w w1 : va_W} {r0 : Int64} {mc ms : Nat} (hy : plainName y.cls = true) (hw : ws = Cond.code y cc maxL (some .long) :: ws') {lv : List (Nat × Value)} (ks : List Nat) (hlv : lv_pick (lv_args 0 av) ks = lv) (hav : (lg_sl av).length ≤ maxL)
    (body : ∀ (p : Program) (e : Env) (s : State) (m : MethodId) (args : Array Value) (below : List Frame) (meth : Method) (c : Code) (A : Nat → Prop), GC p s m args meth c cc maxL y.cls ws D tys A → meth.sig.returnType = some .long → J p l e rm s m args below meth c maxL D A 0 0 (MQ below (qL D tys A w1 r0) args s mc ms A) w lv 0 []) : cL l y ws rm D tys av w w1 r0 mc ms := by
  intro sz
  refine Met.ofW (cc := cc) (maxL := maxL) (ret := some .long) hy hw ?_
  intro p e s m args below meth c s₁ B hml hv
  obtain ⟨rfl, hsz, hP, hK, hD0⟩ := hv
  subst hsz
  have hD := hD0.self (sz := s.heap.size)
  have hl := lv_entry av (n := maxL) hav
  rw [lg_entry_eq]
  exact body p e s m av.toArray below meth c (va_A w s.heap.size) ⟨B.exec, B.bytes, hml, findClass_of_methodNamed B.named, atoms_spec (ws := ws) B.pre, hK, fun q h => Or.inr h, B.notSynchronized⟩ B.returns s.heap [] _ hP hD va_S.rf (lv_sub hl ks hlv)
theorem cL.ofW {l : Launch} {y : MethodName} {ws ws' : List Cond} {rm : Room} {cc : ByteArray} {maxL : Nat}  {hh : List (Nat × Nat × Nat × Nat)} {D : va_G} {tys : List (ClassId × FieldType)} {av : List Value} {w w1 : va_W} {r0 : Int64} {mc ms : Nat} (hy : plainName y.cls = true) (hw : ws = Cond.codeWith y cc maxL (some .long) hh :: ws') {lv : List (Nat × Value)} (ks : List Nat) (hlv : lv_pick (lv_args 0 av) ks = lv) (hav : (lg_sl av).length ≤ maxL)
    (body : ∀ (p : Program) (e : Env) (s : State) (m : MethodId) (args : Array Value) (below : List Frame) (meth : Method) (c : Code) (A : Nat → Prop), GC p s m args meth c cc maxL y.cls ws D tys A → meth.sig.returnType = some .long → J p l e rm s m args below meth c maxL D A 0 0 (MQ below (qL D tys A w1 r0) args s mc ms A) w lv 0 []) : cL l y ws rm D tys av w w1 r0 mc ms := by
  intro sz
  refine va_MetW (hh := hh) (cc := cc) (maxL := maxL) (ret := some .long) hy hw ?_
  intro p e s m args below meth c s₁ B hml hv
  obtain ⟨rfl, hsz, hP, hK, hD0⟩ := hv
  subst hsz
  have hD := hD0.self (sz := s.heap.size)
  have hl := lv_entry av (n := maxL) hav
  rw [lg_entry_eq]
  exact body p e s m av.toArray below meth c (va_A w s.heap.size) ⟨B.exec, B.bytes, hml, findClass_of_methodNamed B.named, atoms_spec (ws := ws) B.pre, hK, fun q h => Or.inr h, B.notSynchronized⟩ B.returns s.heap [] _ hP hD va_S.rf (lv_sub hl ks hlv)
def qD (D : va_G) (tys : List (ClassId × FieldType)) (A : Nat → Prop) (w1 : va_W) (r0 : UInt64) : Array Value → State → Outcome → State → Prop := va_Qd (fun (r : UInt64) (_ : Unit) => r = r0) (cB D tys A w1) A
def cD (l : Launch) (y : MethodName) (ws : List Cond) (rm : Room) (D : va_G) (tys : List (ClassId × FieldType)) (av : List Value) (w w1 : va_W) (r0 : UInt64) (mc ms : Nat) : Prop := ∀ sz : Nat, Met l y ws rm (cP D tys av w sz) (qD D tys (va_A w sz) w1 r0) mc ms (va_A w sz)
theorem cD.of {l : Launch} {y : MethodName} {ws ws' : List Cond} {rm : Room} {cc : ByteArray} {maxL : Nat}  {D : va_G} {tys : List (ClassId × FieldType)} {av : List Value} {w w1 : va_W} {r0 : UInt64} {mc ms : Nat} (hy : plainName y.cls = true) (hw : ws = Cond.code y cc maxL (some .double) :: ws') {lv : List (Nat × Value)} (ks : List Nat) (hlv : lv_pick (lv_args 0 av) ks = lv) (hav : (lg_sl av).length ≤ maxL)
    (body : ∀ (p : Program) (e : Env) (s : State) (m : MethodId) (args : Array Value) (below : List Frame) (meth : Method) (c : Code) (A : Nat → Prop), GC p s m args meth c cc maxL y.cls ws D tys A → meth.sig.returnType = some .double → J p l e rm s m args below meth c maxL D A 0 0 (MQ below (qD D tys A w1 r0) args s mc ms A) w lv 0 []) : cD l y ws rm D tys av w w1 r0 mc ms := by
  intro sz
  refine Met.ofW (cc := cc) (maxL := maxL) (ret := some .double) hy hw ?_
  intro p e s m args below meth c s₁ B hml hv
  obtain ⟨rfl, hsz, hP, hK, hD0⟩ := hv
  subst hsz
  have hD := hD0.self (sz := s.heap.size)
  have hl := lv_entry av (n := maxL) hav
  rw [lg_entry_eq]
  exact body p e s m av.toArray below meth c (va_A w s.heap.size) ⟨B.exec, B.bytes, hml, findClass_of_methodNamed B.named, atoms_spec (ws := ws) B.pre, hK, fun q h => Or.inr h, B.notSynchronized⟩ B.returns s.heap [] _ hP hD va_S.rf (lv_sub hl ks hlv)
theorem cD.ofW {l : Launch} {y : MethodName} {ws ws' : List Cond} {rm : Room} {cc : ByteArray} {maxL : Nat}  {hh : List (Nat × Nat × Nat × Nat)} {D : va_G} {tys : List (ClassId × FieldType)} {av : List Value} {w w1 : va_W} {r0 : UInt64} {mc ms : Nat} (hy : plainName y.cls = true) (hw : ws = Cond.codeWith y cc maxL (some .double) hh :: ws') {lv : List (Nat × Value)} (ks : List Nat) (hlv : lv_pick (lv_args 0 av) ks = lv) (hav : (lg_sl av).length ≤ maxL)
    (body : ∀ (p : Program) (e : Env) (s : State) (m : MethodId) (args : Array Value) (below : List Frame) (meth : Method) (c : Code) (A : Nat → Prop), GC p s m args meth c cc maxL y.cls ws D tys A → meth.sig.returnType = some .double → J p l e rm s m args below meth c maxL D A 0 0 (MQ below (qD D tys A w1 r0) args s mc ms A) w lv 0 []) : cD l y ws rm D tys av w w1 r0 mc ms := by
  intro sz
  refine va_MetW (hh := hh) (cc := cc) (maxL := maxL) (ret := some .double) hy hw ?_
  intro p e s m args below meth c s₁ B hml hv
  obtain ⟨rfl, hsz, hP, hK, hD0⟩ := hv
  subst hsz
  have hD := hD0.self (sz := s.heap.size)
  have hl := lv_entry av (n := maxL) hav
  rw [lg_entry_eq]
  exact body p e s m av.toArray below meth c (va_A w s.heap.size) ⟨B.exec, B.bytes, hml, findClass_of_methodNamed B.named, atoms_spec (ws := ws) B.pre, hK, fun q h => Or.inr h, B.notSynchronized⟩ B.returns s.heap [] _ hP hD va_S.rf (lv_sub hl ks hlv)
def qV (D : va_G) (tys : List (ClassId × FieldType)) (A : Nat → Prop) (w1 : va_W)  : Array Value → State → Outcome → State → Prop := va_Qv (fun (_ : Unit) => True) (cB D tys A w1) A
def cV (l : Launch) (y : MethodName) (ws : List Cond) (rm : Room) (D : va_G) (tys : List (ClassId × FieldType)) (av : List Value) (w w1 : va_W)  (mc ms : Nat) : Prop := ∀ sz : Nat, Met l y ws rm (cP D tys av w sz) (qV D tys (va_A w sz) w1 ) mc ms (va_A w sz)
theorem cV.of {l : Launch} {y : MethodName} {ws ws' : List Cond} {rm : Room} {cc : ByteArray} {maxL : Nat}  {D : va_G} {tys : List (ClassId × FieldType)} {av : List Value} {w w1 : va_W}  {mc ms : Nat} (hy : plainName y.cls = true) (hw : ws = Cond.code y cc maxL (none) :: ws') {lv : List (Nat × Value)} (ks : List Nat) (hlv : lv_pick (lv_args 0 av) ks = lv) (hav : (lg_sl av).length ≤ maxL)
    (body : ∀ (p : Program) (e : Env) (s : State) (m : MethodId) (args : Array Value) (below : List Frame) (meth : Method) (c : Code) (A : Nat → Prop), GC p s m args meth c cc maxL y.cls ws D tys A → meth.sig.returnType = none → J p l e rm s m args below meth c maxL D A 0 0 (MQ below (qV D tys A w1 ) args s mc ms A) w lv 0 []) : cV l y ws rm D tys av w w1  mc ms := by
  intro sz
  refine Met.ofW (cc := cc) (maxL := maxL) (ret := none) hy hw ?_
  intro p e s m args below meth c s₁ B hml hv
  obtain ⟨rfl, hsz, hP, hK, hD0⟩ := hv
  subst hsz
  have hD := hD0.self (sz := s.heap.size)
  have hl := lv_entry av (n := maxL) hav
  rw [lg_entry_eq]
  exact body p e s m av.toArray below meth c (va_A w s.heap.size) ⟨B.exec, B.bytes, hml, findClass_of_methodNamed B.named, atoms_spec (ws := ws) B.pre, hK, fun q h => Or.inr h, B.notSynchronized⟩ B.returns s.heap [] _ hP hD va_S.rf (lv_sub hl ks hlv)
theorem cV.ofW {l : Launch} {y : MethodName} {ws ws' : List Cond} {rm : Room} {cc : ByteArray} {maxL : Nat}  {hh : List (Nat × Nat × Nat × Nat)} {D : va_G} {tys : List (ClassId × FieldType)} {av : List Value} {w w1 : va_W}  {mc ms : Nat} (hy : plainName y.cls = true) (hw : ws = Cond.codeWith y cc maxL (none) hh :: ws') {lv : List (Nat × Value)} (ks : List Nat) (hlv : lv_pick (lv_args 0 av) ks = lv) (hav : (lg_sl av).length ≤ maxL)
    (body : ∀ (p : Program) (e : Env) (s : State) (m : MethodId) (args : Array Value) (below : List Frame) (meth : Method) (c : Code) (A : Nat → Prop), GC p s m args meth c cc maxL y.cls ws D tys A → meth.sig.returnType = none → J p l e rm s m args below meth c maxL D A 0 0 (MQ below (qV D tys A w1 ) args s mc ms A) w lv 0 []) : cV l y ws rm D tys av w w1  mc ms := by
  intro sz
  refine va_MetW (hh := hh) (cc := cc) (maxL := maxL) (ret := none) hy hw ?_
  intro p e s m args below meth c s₁ B hml hv
  obtain ⟨rfl, hsz, hP, hK, hD0⟩ := hv
  subst hsz
  have hD := hD0.self (sz := s.heap.size)
  have hl := lv_entry av (n := maxL) hav
  rw [lg_entry_eq]
  exact body p e s m av.toArray below meth c (va_A w s.heap.size) ⟨B.exec, B.bytes, hml, findClass_of_methodNamed B.named, atoms_spec (ws := ws) B.pre, hK, fun q h => Or.inr h, B.notSynchronized⟩ B.returns s.heap [] _ hP hD va_S.rf (lv_sub hl ks hlv)
section JC
variable {p : Program} {l : Launch} {e : Env} {R : Room} {s : State} {m : MethodId} {args : Array Value} {below : List Frame} {meth : Method} {c : Code} {cc : ByteArray} {nL : Nat} {own : String} {Ts : List Cond} {D : va_G} {tys : List (ClassId × FieldType)} {A : Nat → Prop} {cells slots : Nat} {Q : State → Prop} {ws : va_W} {lv : List (Nat × Value)} {pc : Nat} {st : List Value}
theorem j_iret (C : GC p s m args meth c cc nL own Ts D tys A) (hr : meth.sig.returnType = some .int) {w1 : va_W} {r0 v : Int32} {mc ms : Nat} (dg : decode cc pc = .ok (.ireturn, 1)) (hv : v = r0) (hw : ws = w1) (hc : cells ≤ mc) (hs : slots ≤ ms) : J p l e R s m args below meth c nL D A cells slots (MQ below (qI D tys A w1 r0) args s mc ms A) ws lv pc [.int v] := by
  subst hv; subst hw
  intro H locs ls hP hD hS hl
  have hlocks : meth.locks = false := C.2.2.2.2.2.2.2
  refine W.widen hc hs ?_
  exact W.iret C.1 C.2.1 hr (fun t ht hW => ⟨⟨_, (), rfl, rfl, by rw [ht]; exact hP, va_K.moved hW.alike C.2.2.2.2.2.1, hD⟩, hS.F ht⟩) hS.2.2 dg hlocks
theorem j_zret (C : GC p s m args meth c cc nL own Ts D tys A) (hr : meth.sig.returnType = some .boolean) {w1 : va_W} {r0 v : Int32} {mc ms : Nat} (dg : decode cc pc = .ok (.ireturn, 1)) (hn : narrow .boolean (.int v) = .int v) (hv : v = r0) (hw : ws = w1) (hc : cells ≤ mc) (hs : slots ≤ ms) : J p l e R s m args below meth c nL D A cells slots (MQ below (qI D tys A w1 r0) args s mc ms A) ws lv pc [.int v] := by
  subst hv; subst hw
  intro H locs ls hP hD hS hl
  have hlocks : meth.locks = false := C.2.2.2.2.2.2.2
  refine W.widen hc hs ?_
  exact W.zret C.1 C.2.1 hr hn (fun t ht hW => ⟨⟨_, (), rfl, rfl, by rw [ht]; exact hP, va_K.moved hW.alike C.2.2.2.2.2.1, hD⟩, hS.F ht⟩) hS.2.2 dg hlocks
theorem j_callI (C : GC p s m args meth c cc nL own Ts D tys A) {y : MethodName} {wy : List Cond} {rm' : Room} {bytes : ByteArray} {maxL n index mc ms h : Nat} {ret : Option FieldType} {RX : String} {As rest : List Value} {w1 : va_W} {r0 : Int32} (hM : cI l y wy rm' D tys (.ref h :: As) ws w1 r0 mc ms) (cw : CallW R s args own RX index y bytes maxL ret wy rm' mc ms n)
    (q0 : Nat) {ci : Nat} {fs : List Value} {q : vw_C} (hc : vwCl[ci]? = some q) (he : ws[q0]? = some (h, .inr (ci, fs))) (hq : q.1 = RX) (dg : decode cc pc = .ok (.invokevirtual index, 3)) (hn : As.length = n) (hst : st = As.reverse ++ .ref h :: rest) (hro : (rest.map fun v => v.category).sum ≤ 8) (hf : cells + mc ≤ R.cells ∧ slots + ms ≤ R.slots)
    (k : J p l e R s m args below meth c nL D A (cells + mc) (slots + ms) Q w1 lv (pc + 3) (.int r0 :: rest)) : J p l e R s m args below meth c nL D A cells slots Q ws lv pc st := by
  subst hst; subst hq
  intro H locs ls hP hD hS hl
  have hFc := free_all hD hS C.2.2.2.2.2.2.1
  refine va_calli (va_runV (As := As) (rest := rest) ⟨C.1, C.2.1, C.2.2.1, C.2.2.2.1, C.2.2.2.2.1⟩ (hM H.size) cw ⟨cP.blind, va_recv C.2.2.2.2.2.1 hP hc he, fun U hU hW => ⟨rfl, by rw [hU], by rw [hU]; exact hP, va_K.moved hW.alike C.2.2.2.2.2.1, hD.weaken (fun _ _ _ _ => trivial)⟩⟩ rfl hn hl.1 rfl (lv_room hro) dg hf) hS (fun q _ h => hFc q h) hFc (fun r u t H1 locs1 ht hvm hw hB hz1 hk1 hS1 => ?_)
  obtain ⟨hP1, hK1, hD1⟩ := hB
  rw [ht] at hP1
  have hw : r = r0 := hw
  subst hw
  exact k H1 locs1 ls hP1 (hD1.weaken (fun _ q _ hA => hFc q.1 hA)) hS1 hl
theorem j_callSI (C : GC p s m args meth c cc nL own Ts D tys A) {y : MethodName} {wy : List Cond} {rm' : Room} {bytes : ByteArray} {maxL n index : Nat} {ret : Option FieldType} {As rest : List Value} {r0 : Int32} (hM : cI l y wy rm' D tys As [] [] r0 0 0) (cw : CallB R s args own index y bytes maxL ret wy rm' 0 0 n ∧ (Cond.static y).before args s = true)
    (dg : decode cc pc = .ok (.invokestatic index, 3)) (hn : As.length = n) (hst : st = As.reverse ++ rest) (hro : (rest.map fun v => v.category).sum ≤ 8) (hf : cells ≤ R.cells ∧ slots ≤ R.slots)
    (k : J p l e R s m args below meth c nL D A cells slots Q ws lv (pc + 3) (.int r0 :: rest)) : J p l e R s m args below meth c nL D A cells slots Q ws lv pc st := by
  subst hst
  intro H locs ls hP hD hS hl
  have hFc : ∀ q, va_A [] H.size q → A q := fun q h => by
    rcases h with ⟨k, e, h⟩ | h
    · simp at h
    · exact C.2.2.2.2.2.2.1 q (Nat.le_trans hS.1 h)
  refine va_calli (va_runS (As := As) (rest := rest) ⟨C.1, C.2.1, C.2.2.1, C.2.2.2.1, C.2.2.2.2.1⟩ (hM H.size) cw ⟨cP.blind, fun U hU hW => ⟨rfl, by rw [hU], fun k q h => by simp at h, va_K.moved hW.alike C.2.2.2.2.2.1, ⟨fun i j p q h => by simp at h, fun k q h => by simp at h⟩⟩⟩ rfl hn hl.1 rfl (lv_room hro) dg hf) hS (fun q _ h => hFc q h) hFc (fun r u t H1 locs1 ht hvm hw hB hz1 hk1 hS1 => ?_)
  have hw : r = r0 := hw
  subst hw
  have hP1 : va_P D vwCl ws H1 := hP.kept (fun k q hq => hk1 q.1 ((hP k q hq).lt) (fun h => by
    rcases h with ⟨k, e, h⟩ | h
    · simp at h
    · exact absurd ((hP k q hq).lt) (Nat.not_lt.mpr h)))
  exact k H1 locs1 ls hP1 hD hS1 hl
theorem j_lret (C : GC p s m args meth c cc nL own Ts D tys A) (hr : meth.sig.returnType = some .long) {w1 : va_W} {r0 v : Int64} {mc ms : Nat} (dg : decode cc pc = .ok (.lreturn, 1)) (hv : v = r0) (hw : ws = w1) (hc : cells ≤ mc) (hs : slots ≤ ms) : J p l e R s m args below meth c nL D A cells slots (MQ below (qL D tys A w1 r0) args s mc ms A) ws lv pc [.long v] := by
  subst hv; subst hw
  intro H locs ls hP hD hS hl
  have hlocks : meth.locks = false := C.2.2.2.2.2.2.2
  refine W.widen hc hs ?_
  exact W.lret C.1 C.2.1 hr (fun t ht hW => ⟨⟨_, (), rfl, rfl, by rw [ht]; exact hP, va_K.moved hW.alike C.2.2.2.2.2.1, hD⟩, hS.F ht⟩) hS.2.2 dg hlocks
theorem j_callL (C : GC p s m args meth c cc nL own Ts D tys A) {y : MethodName} {wy : List Cond} {rm' : Room} {bytes : ByteArray} {maxL n index mc ms h : Nat} {ret : Option FieldType} {RX : String} {As rest : List Value} {w1 : va_W} {r0 : Int64} (hM : cL l y wy rm' D tys (.ref h :: As) ws w1 r0 mc ms) (cw : CallW R s args own RX index y bytes maxL ret wy rm' mc ms n)
    (q0 : Nat) {ci : Nat} {fs : List Value} {q : vw_C} (hc : vwCl[ci]? = some q) (he : ws[q0]? = some (h, .inr (ci, fs))) (hq : q.1 = RX) (dg : decode cc pc = .ok (.invokevirtual index, 3)) (hn : As.length = n) (hst : st = As.reverse ++ .ref h :: rest) (hro : (rest.map fun v => v.category).sum ≤ 8) (hf : cells + mc ≤ R.cells ∧ slots + ms ≤ R.slots)
    (k : J p l e R s m args below meth c nL D A (cells + mc) (slots + ms) Q w1 lv (pc + 3) (.long r0 :: rest)) : J p l e R s m args below meth c nL D A cells slots Q ws lv pc st := by
  subst hst; subst hq
  intro H locs ls hP hD hS hl
  have hFc := free_all hD hS C.2.2.2.2.2.2.1
  refine va_calll (va_runV (As := As) (rest := rest) ⟨C.1, C.2.1, C.2.2.1, C.2.2.2.1, C.2.2.2.2.1⟩ (hM H.size) cw ⟨cP.blind, va_recv C.2.2.2.2.2.1 hP hc he, fun U hU hW => ⟨rfl, by rw [hU], by rw [hU]; exact hP, va_K.moved hW.alike C.2.2.2.2.2.1, hD.weaken (fun _ _ _ _ => trivial)⟩⟩ rfl hn hl.1 rfl (lv_room hro) dg hf) hS (fun q _ h => hFc q h) hFc (fun r u t H1 locs1 ht hvm hw hB hz1 hk1 hS1 => ?_)
  obtain ⟨hP1, hK1, hD1⟩ := hB
  rw [ht] at hP1
  have hw : r = r0 := hw
  subst hw
  exact k H1 locs1 ls hP1 (hD1.weaken (fun _ q _ hA => hFc q.1 hA)) hS1 hl
theorem j_callSL (C : GC p s m args meth c cc nL own Ts D tys A) {y : MethodName} {wy : List Cond} {rm' : Room} {bytes : ByteArray} {maxL n index : Nat} {ret : Option FieldType} {As rest : List Value} {r0 : Int64} (hM : cL l y wy rm' D tys As [] [] r0 0 0) (cw : CallB R s args own index y bytes maxL ret wy rm' 0 0 n ∧ (Cond.static y).before args s = true)
    (dg : decode cc pc = .ok (.invokestatic index, 3)) (hn : As.length = n) (hst : st = As.reverse ++ rest) (hro : (rest.map fun v => v.category).sum ≤ 8) (hf : cells ≤ R.cells ∧ slots ≤ R.slots)
    (k : J p l e R s m args below meth c nL D A cells slots Q ws lv (pc + 3) (.long r0 :: rest)) : J p l e R s m args below meth c nL D A cells slots Q ws lv pc st := by
  subst hst
  intro H locs ls hP hD hS hl
  have hFc : ∀ q, va_A [] H.size q → A q := fun q h => by
    rcases h with ⟨k, e, h⟩ | h
    · simp at h
    · exact C.2.2.2.2.2.2.1 q (Nat.le_trans hS.1 h)
  refine va_calll (va_runS (As := As) (rest := rest) ⟨C.1, C.2.1, C.2.2.1, C.2.2.2.1, C.2.2.2.2.1⟩ (hM H.size) cw ⟨cP.blind, fun U hU hW => ⟨rfl, by rw [hU], fun k q h => by simp at h, va_K.moved hW.alike C.2.2.2.2.2.1, ⟨fun i j p q h => by simp at h, fun k q h => by simp at h⟩⟩⟩ rfl hn hl.1 rfl (lv_room hro) dg hf) hS (fun q _ h => hFc q h) hFc (fun r u t H1 locs1 ht hvm hw hB hz1 hk1 hS1 => ?_)
  have hw : r = r0 := hw
  subst hw
  have hP1 : va_P D vwCl ws H1 := hP.kept (fun k q hq => hk1 q.1 ((hP k q hq).lt) (fun h => by
    rcases h with ⟨k, e, h⟩ | h
    · simp at h
    · exact absurd ((hP k q hq).lt) (Nat.not_lt.mpr h)))
  exact k H1 locs1 ls hP1 hD hS1 hl
theorem j_dret (C : GC p s m args meth c cc nL own Ts D tys A) (hr : meth.sig.returnType = some .double) {w1 : va_W} {r0 v : UInt64} {mc ms : Nat} (dg : decode cc pc = .ok (.dreturn, 1)) (hv : v = r0) (hw : ws = w1) (hc : cells ≤ mc) (hs : slots ≤ ms) : J p l e R s m args below meth c nL D A cells slots (MQ below (qD D tys A w1 r0) args s mc ms A) ws lv pc [.double v] := by
  subst hv; subst hw
  intro H locs ls hP hD hS hl
  have hlocks : meth.locks = false := C.2.2.2.2.2.2.2
  refine W.widen hc hs ?_
  exact W.dret C.1 C.2.1 hr (fun t ht hW => ⟨⟨_, (), rfl, rfl, by rw [ht]; exact hP, va_K.moved hW.alike C.2.2.2.2.2.1, hD⟩, hS.F ht⟩) hS.2.2 dg hlocks
theorem j_callD (C : GC p s m args meth c cc nL own Ts D tys A) {y : MethodName} {wy : List Cond} {rm' : Room} {bytes : ByteArray} {maxL n index mc ms h : Nat} {ret : Option FieldType} {RX : String} {As rest : List Value} {w1 : va_W} {r0 : UInt64} (hM : cD l y wy rm' D tys (.ref h :: As) ws w1 r0 mc ms) (cw : CallW R s args own RX index y bytes maxL ret wy rm' mc ms n)
    (q0 : Nat) {ci : Nat} {fs : List Value} {q : vw_C} (hc : vwCl[ci]? = some q) (he : ws[q0]? = some (h, .inr (ci, fs))) (hq : q.1 = RX) (dg : decode cc pc = .ok (.invokevirtual index, 3)) (hn : As.length = n) (hst : st = As.reverse ++ .ref h :: rest) (hro : (rest.map fun v => v.category).sum ≤ 8) (hf : cells + mc ≤ R.cells ∧ slots + ms ≤ R.slots)
    (k : J p l e R s m args below meth c nL D A (cells + mc) (slots + ms) Q w1 lv (pc + 3) (.double r0 :: rest)) : J p l e R s m args below meth c nL D A cells slots Q ws lv pc st := by
  subst hst; subst hq
  intro H locs ls hP hD hS hl
  have hFc := free_all hD hS C.2.2.2.2.2.2.1
  refine va_calld (va_runV (As := As) (rest := rest) ⟨C.1, C.2.1, C.2.2.1, C.2.2.2.1, C.2.2.2.2.1⟩ (hM H.size) cw ⟨cP.blind, va_recv C.2.2.2.2.2.1 hP hc he, fun U hU hW => ⟨rfl, by rw [hU], by rw [hU]; exact hP, va_K.moved hW.alike C.2.2.2.2.2.1, hD.weaken (fun _ _ _ _ => trivial)⟩⟩ rfl hn hl.1 rfl (lv_room hro) dg hf) hS (fun q _ h => hFc q h) hFc (fun r u t H1 locs1 ht hvm hw hB hz1 hk1 hS1 => ?_)
  obtain ⟨hP1, hK1, hD1⟩ := hB
  rw [ht] at hP1
  have hw : r = r0 := hw
  subst hw
  exact k H1 locs1 ls hP1 (hD1.weaken (fun _ q _ hA => hFc q.1 hA)) hS1 hl
theorem j_callSD (C : GC p s m args meth c cc nL own Ts D tys A) {y : MethodName} {wy : List Cond} {rm' : Room} {bytes : ByteArray} {maxL n index : Nat} {ret : Option FieldType} {As rest : List Value} {r0 : UInt64} (hM : cD l y wy rm' D tys As [] [] r0 0 0) (cw : CallB R s args own index y bytes maxL ret wy rm' 0 0 n ∧ (Cond.static y).before args s = true)
    (dg : decode cc pc = .ok (.invokestatic index, 3)) (hn : As.length = n) (hst : st = As.reverse ++ rest) (hro : (rest.map fun v => v.category).sum ≤ 8) (hf : cells ≤ R.cells ∧ slots ≤ R.slots)
    (k : J p l e R s m args below meth c nL D A cells slots Q ws lv (pc + 3) (.double r0 :: rest)) : J p l e R s m args below meth c nL D A cells slots Q ws lv pc st := by
  subst hst
  intro H locs ls hP hD hS hl
  have hFc : ∀ q, va_A [] H.size q → A q := fun q h => by
    rcases h with ⟨k, e, h⟩ | h
    · simp at h
    · exact C.2.2.2.2.2.2.1 q (Nat.le_trans hS.1 h)
  refine va_calld (va_runS (As := As) (rest := rest) ⟨C.1, C.2.1, C.2.2.1, C.2.2.2.1, C.2.2.2.2.1⟩ (hM H.size) cw ⟨cP.blind, fun U hU hW => ⟨rfl, by rw [hU], fun k q h => by simp at h, va_K.moved hW.alike C.2.2.2.2.2.1, ⟨fun i j p q h => by simp at h, fun k q h => by simp at h⟩⟩⟩ rfl hn hl.1 rfl (lv_room hro) dg hf) hS (fun q _ h => hFc q h) hFc (fun r u t H1 locs1 ht hvm hw hB hz1 hk1 hS1 => ?_)
  have hw : r = r0 := hw
  subst hw
  have hP1 : va_P D vwCl ws H1 := hP.kept (fun k q hq => hk1 q.1 ((hP k q hq).lt) (fun h => by
    rcases h with ⟨k, e, h⟩ | h
    · simp at h
    · exact absurd ((hP k q hq).lt) (Nat.not_lt.mpr h)))
  exact k H1 locs1 ls hP1 hD hS1 hl
theorem j_vret (C : GC p s m args meth c cc nL own Ts D tys A) (hr : meth.sig.returnType = none) {w1 : va_W} {mc ms : Nat} (dg : decode cc pc = .ok (.return_, 1)) (hw : ws = w1) (hc : cells ≤ mc) (hs : slots ≤ ms) : J p l e R s m args below meth c nL D A cells slots (MQ below (qV D tys A w1) args s mc ms A) ws lv pc [] := by
  subst hw
  intro H locs ls hP hD hS hl
  have hlocks : meth.locks = false := C.2.2.2.2.2.2.2
  refine W.widen hc hs ?_
  exact W.vret C.1 C.2.1 hr (fun t ht hW => ⟨⟨(), rfl, trivial, by rw [ht]; exact hP, va_K.moved hW.alike C.2.2.2.2.2.1, hD⟩, hS.F ht⟩) hS.2.2 dg hlocks
theorem j_callV (C : GC p s m args meth c cc nL own Ts D tys A) {y : MethodName} {wy : List Cond} {rm' : Room} {bytes : ByteArray} {maxL n index mc ms h : Nat} {ret : Option FieldType} {RX : String} {As rest : List Value} {w1 : va_W}  (hM : cV l y wy rm' D tys (.ref h :: As) ws w1  mc ms) (cw : CallW R s args own RX index y bytes maxL ret wy rm' mc ms n)
    (q0 : Nat) {ci : Nat} {fs : List Value} {q : vw_C} (hc : vwCl[ci]? = some q) (he : ws[q0]? = some (h, .inr (ci, fs))) (hq : q.1 = RX) (dg : decode cc pc = .ok (.invokevirtual index, 3)) (hn : As.length = n) (hst : st = As.reverse ++ .ref h :: rest) (hro : (rest.map fun v => v.category).sum ≤ 8) (hf : cells + mc ≤ R.cells ∧ slots + ms ≤ R.slots)
    (k : J p l e R s m args below meth c nL D A (cells + mc) (slots + ms) Q w1 lv (pc + 3) rest) : J p l e R s m args below meth c nL D A cells slots Q ws lv pc st := by
  subst hst; subst hq
  intro H locs ls hP hD hS hl
  have hFc := free_all hD hS C.2.2.2.2.2.2.1
  refine va_callv (va_runV (As := As) (rest := rest) ⟨C.1, C.2.1, C.2.2.1, C.2.2.2.1, C.2.2.2.2.1⟩ (hM H.size) cw ⟨cP.blind, va_recv C.2.2.2.2.2.1 hP hc he, fun U hU hW => ⟨rfl, by rw [hU], by rw [hU]; exact hP, va_K.moved hW.alike C.2.2.2.2.2.1, hD.weaken (fun _ _ _ _ => trivial)⟩⟩ rfl hn hl.1 rfl (lv_room hro) dg hf) hS (fun q _ h => hFc q h) hFc (fun u t H1 locs1 ht hvm hw hB hz1 hk1 hS1 => ?_)
  obtain ⟨hP1, hK1, hD1⟩ := hB
  rw [ht] at hP1
  exact k H1 locs1 ls hP1 (hD1.weaken (fun _ q _ hA => hFc q.1 hA)) hS1 hl
theorem j_callSV (C : GC p s m args meth c cc nL own Ts D tys A) {y : MethodName} {wy : List Cond} {rm' : Room} {bytes : ByteArray} {maxL n index : Nat} {ret : Option FieldType} {As rest : List Value}  (hM : cV l y wy rm' D tys As [] []  0 0) (cw : CallB R s args own index y bytes maxL ret wy rm' 0 0 n ∧ (Cond.static y).before args s = true)
    (dg : decode cc pc = .ok (.invokestatic index, 3)) (hn : As.length = n) (hst : st = As.reverse ++ rest) (hro : (rest.map fun v => v.category).sum ≤ 8) (hf : cells ≤ R.cells ∧ slots ≤ R.slots)
    (k : J p l e R s m args below meth c nL D A cells slots Q ws lv (pc + 3) rest) : J p l e R s m args below meth c nL D A cells slots Q ws lv pc st := by
  subst hst
  intro H locs ls hP hD hS hl
  have hFc : ∀ q, va_A [] H.size q → A q := fun q h => by
    rcases h with ⟨k, e, h⟩ | h
    · simp at h
    · exact C.2.2.2.2.2.2.1 q (Nat.le_trans hS.1 h)
  refine va_callv (va_runS (As := As) (rest := rest) ⟨C.1, C.2.1, C.2.2.1, C.2.2.2.1, C.2.2.2.2.1⟩ (hM H.size) cw ⟨cP.blind, fun U hU hW => ⟨rfl, by rw [hU], fun k q h => by simp at h, va_K.moved hW.alike C.2.2.2.2.2.1, ⟨fun i j p q h => by simp at h, fun k q h => by simp at h⟩⟩⟩ rfl hn hl.1 rfl (lv_room hro) dg hf) hS (fun q _ h => hFc q h) hFc (fun u t H1 locs1 ht hvm hw hB hz1 hk1 hS1 => ?_)
  have hP1 : va_P D vwCl ws H1 := hP.kept (fun k q hq => hk1 q.1 ((hP k q hq).lt) (fun h => by
    rcases h with ⟨k, e, h⟩ | h
    · simp at h
    · exact absurd ((hP k q hq).lt) (Nat.not_lt.mpr h)))
  exact k H1 locs1 ls hP1 hD hS1 hl
end JC
/-! ===== the worlds: GrainSilo's cells and GrainSiloModel's ===== -/
def wG (h : Nat → Nat) (c1 c2 : ClassId) (K Dm : Int → Int) (L : Int) (lo hi su db : Int → Int) (S dy li so sp : Int) (tu ah : Int → Int) (M : Int → Int → Int) : va_W :=
  [(h 0, .inr (0, [.ref (h 1), .ref (h 2), .int (zI L), .ref (h 3), .ref (h 4), .ref (h 5), .ref (h 6), .int (zI S), .int (zI dy), .int (zI li), .int (zI so), .int (zI sp), .ref (h 7), .ref (h 8), .ref (h 9)])),
   (h 1, .inl (c1, 12, .inl (zA K))), (h 2, .inl (c1, 12, .inl (zA Dm))), (h 3, .inl (c1, 16, .inl (zA lo))), (h 4, .inl (c1, 16, .inl (zA hi))), (h 5, .inl (c1, 16, .inl (zA su))), (h 6, .inl (c1, 16, .inl (zA db))), (h 7, .inl (c1, 12, .inl (zA tu))), (h 8, .inl (c1, 12, .inl (zA ah))),
   (h 9, .inl (c2, 13, .inr (.inr (.inr (.inr (fun j => some (h (10 + j)))))))),
   (h 10, .inl (c1, 13, .inl (zA (M 0)))), (h 11, .inl (c1, 13, .inl (zA (M 1)))), (h 12, .inl (c1, 13, .inl (zA (M 2)))), (h 13, .inl (c1, 13, .inl (zA (M 3)))), (h 14, .inl (c1, 13, .inl (zA (M 4)))), (h 15, .inl (c1, 13, .inl (zA (M 5)))), (h 16, .inl (c1, 13, .inl (zA (M 6)))), (h 17, .inl (c1, 13, .inl (zA (M 7)))), (h 18, .inl (c1, 13, .inl (zA (M 8)))), (h 19, .inl (c1, 13, .inl (zA (M 9)))), (h 20, .inl (c1, 13, .inl (zA (M 10)))), (h 21, .inl (c1, 13, .inl (zA (M 11)))), (h 22, .inl (c1, 13, .inl (zA (M 12))))]
def wM (h : Nat → Nat) (c1 : ClassId) (th L : Int) (K Dm : Int → Int) (S : Int) (lo hi su db : Int → Int) (dy li so sp : Int) (mo ke se : Int → Int) : va_W :=
  [(h 0, .inr (1, [.int (zI th), .int (zI L), .ref (h 1), .ref (h 2), .int (zI S), .ref (h 3), .ref (h 4), .ref (h 5), .ref (h 6), .int (zI dy), .int (zI li), .int (zI so), .int (zI sp), .ref (h 7), .ref (h 8), .ref (h 9)])),
   (h 1, .inl (c1, 12, .inl (zA K))), (h 2, .inl (c1, 12, .inl (zA Dm))), (h 3, .inl (c1, 16, .inl (zA lo))), (h 4, .inl (c1, 16, .inl (zA hi))), (h 5, .inl (c1, 16, .inl (zA su))), (h 6, .inl (c1, 16, .inl (zA db))), (h 7, .inl (c1, 169, .inl (zA mo))), (h 8, .inl (c1, 12, .inl (zA ke))), (h 9, .inl (c1, 12, .inl (zA se)))]
def tyS (c1 c2 c3 : ClassId) : List (ClassId × FieldType) := [(c1, .int), (c2, .array .int), (c3, .long)]
def upR (M : Int → Int → Int) (i : Int) (f : Int → Int) : Int → Int → Int := fun a => if a = i then f else M a
def up2 (M : Int → Int → Int) (i j v : Int) : Int → Int → Int := fun a b => if a = i ∧ b = j then v else M a b
theorem upR_up2 (M : Int → Int → Int) (i j v : Int) : upR M i (upZ (M i) j v) = up2 M i j v := by
  funext a b
  unfold upR up2 upZ
  by_cases h : a = i
  · subst h
    by_cases h2 : b = j <;> simp [h2]
  · simp [h]
theorem wG_row (h : Nat → Nat) (c1 c2 : ClassId) (K Dm : Int → Int) (L : Int) (lo hi su db : Int → Int) (S dy li so sp : Int) (tu ah : Int → Int) (M : Int → Int → Int) (i : Int) (h0 : 0 ≤ i) (h1 : i < 13) : (wG h c1 c2 K Dm L lo hi su db S dy li so sp tu ah M)[10 + i.toNat]? = some (h (10 + i.toNat), .inl (c1, 13, .inl (zA (M i)))) := by
  have h2 : i = 0 ∨ i = 1 ∨ i = 2 ∨ i = 3 ∨ i = 4 ∨ i = 5 ∨ i = 6 ∨ i = 7 ∨ i = 8 ∨ i = 9 ∨ i = 10 ∨ i = 11 ∨ i = 12 := by omega
  rcases h2 with rfl | rfl | rfl | rfl | rfl | rfl | rfl | rfl | rfl | rfl | rfl | rfl | rfl <;> rfl
theorem wG_setR (h : Nat → Nat) (c1 c2 : ClassId) (K Dm : Int → Int) (L : Int) (lo hi su db : Int → Int) (S dy li so sp : Int) (tu ah : Int → Int) (M : Int → Int → Int) (i : Int) (h0 : 0 ≤ i) (h1 : i < 13) (f : Int → Int) : (wG h c1 c2 K Dm L lo hi su db S dy li so sp tu ah M).set (10 + i.toNat) (h (10 + i.toNat), .inl (c1, 13, .inl (zA f))) = wG h c1 c2 K Dm L lo hi su db S dy li so sp tu ah (upR M i f) := by
  have h2 : i = 0 ∨ i = 1 ∨ i = 2 ∨ i = 3 ∨ i = 4 ∨ i = 5 ∨ i = 6 ∨ i = 7 ∨ i = 8 ∨ i = 9 ∨ i = 10 ∨ i = 11 ∨ i = 12 := by omega
  rcases h2 with rfl | rfl | rfl | rfl | rfl | rfl | rfl | rfl | rfl | rfl | rfl | rfl | rfl <;> first | rfl | simp [wG, upR]
theorem wG_set (h : Nat → Nat) (c1 c2 : ClassId) (K Dm : Int → Int) (L : Int) (lo hi su db : Int → Int) (S dy li so sp : Int) (tu ah : Int → Int) (M : Int → Int → Int) (i j v : Int) (h0 : 0 ≤ i) (h1 : i < 13) : (wG h c1 c2 K Dm L lo hi su db S dy li so sp tu ah M).set (10 + i.toNat) (h (10 + i.toNat), .inl (c1, 13, .inl (zA (upZ (M i) j v)))) = wG h c1 c2 K Dm L lo hi su db S dy li so sp tu ah (up2 M i j v) := by
  rw [wG_setR h c1 c2 K Dm L lo hi su db S dy li so sp tu ah M i h0 h1, upR_up2]
end
section
/-! ===== plain words of the loops: leaves ===== -/
/-- all but the lowest go down, as far as i -/
def shf (f : Int → Int) (i : Int) : Int → Int := fun j => if 0 ≤ j ∧ j + 1 < i then f (j + 1) else f j
theorem shf_1 (f : Int → Int) : shf f 1 = f := by
  funext j
  unfold shf
  rw [if_neg (by omega)]
theorem shf_up (f : Int → Int) (i : Int) (h : 1 ≤ i) : shf f (i + 1) = upZ (shf f i) (i - 1) (shf f i i) := by
  funext j
  unfold upZ shf
  by_cases h1 : j = i - 1
  · subst h1
    rw [if_pos (by omega), if_pos rfl, if_neg (by omega)]
    congr 1; omega
  · rw [if_neg h1]
    by_cases h2 : 0 ≤ j ∧ j + 1 < i
    · rw [if_pos h2, if_pos (by omega)]
    · rw [if_neg h2, if_neg (by omega)]
/-- f a + .. + f (b - 1) -/
def zsN (f : Int → Int) (a : Int) : Nat → Int
  | 0 => 0
  | n + 1 => zsN f a n + f (a + n)
def zs (f : Int → Int) (a b : Int) : Int := zsN f a (b - a).toNat
theorem zs_0 (f : Int → Int) (a : Int) : zs f a a = 0 := by
  unfold zs
  rw [show (a - a).toNat = 0 by omega]
  rfl
theorem zs_up (f : Int → Int) (a i : Int) (h : a ≤ i) : zs f a (i + 1) = zs f a i + f i := by
  unfold zs
  rw [show (i + 1 - a).toNat = (i - a).toNat + 1 by omega]
  show zsN f a (i - a).toNat + f (a + ((i - a).toNat : Int)) = _
  rw [show a + ((i - a).toNat : Int) = i by omega]
/-- g's values below i, f's from there on -/
def mix (g f : Int → Int) (i : Int) : Int → Int := fun j => if 0 ≤ j ∧ j < i then g j else f j
theorem mix_0 (g f : Int → Int) : mix g f 0 = f := by
  funext j
  unfold mix
  rw [if_neg (by omega)]
theorem mix_ge (g f : Int → Int) (i j : Int) (h : i ≤ j) : mix g f i j = f j := by
  unfold mix
  rw [if_neg (by omega)]
theorem mix_lt (g f : Int → Int) (i j : Int) (h0 : 0 ≤ j) (h : j < i) : mix g f i j = g j := by
  unfold mix
  rw [if_pos ⟨h0, h⟩]
theorem mix_up (g f : Int → Int) (i : Int) (h : 0 ≤ i) : mix g f (i + 1) = upZ (mix g f i) i (g i) := by
  funext j
  unfold upZ mix
  by_cases h1 : j = i
  · subst h1
    rw [if_pos (by omega), if_pos rfl]
  · rw [if_neg h1]
    by_cases h2 : 0 ≤ j ∧ j < i
    · rw [if_pos h2, if_pos (by omega)]
    · rw [if_neg h2, if_neg (by omega)]
/-- nothing to write at i -/
theorem mix_same (g f : Int → Int) (i : Int) (h : 0 ≤ i) (e : g i = f i) : mix g f (i + 1) = mix g f i := by
  rw [mix_up g f i h]
  funext j
  unfold upZ
  by_cases h1 : j = i
  · subst h1
    rw [if_pos rfl, e, mix_ge g f _ _ (Int.le_refl _)]
  · rw [if_neg h1]
/-- how many of a .. b - 1 have p -/
def zc (p : Int → Bool) (a b : Int) : Int := zs (fun j => if p j then 1 else 0) a b
theorem zc_0 (p : Int → Bool) (a : Int) : zc p a a = 0 := zs_0 _ a
theorem zc_t (p : Int → Bool) (a i : Int) (h : a ≤ i) (e : p i = true) : zc p a (i + 1) = zc p a i + 1 := by
  unfold zc
  rw [zs_up _ a i h, if_pos e]
theorem zc_f (p : Int → Bool) (a i : Int) (h : a ≤ i) (e : p i = false) : zc p a (i + 1) = zc p a i := by
  unfold zc
  rw [zs_up _ a i h, if_neg (by rw [e]; decide), Int.add_zero]
theorem zc_le (p : Int → Bool) (a : Int) (i : Int) (h : a ≤ i) : 0 ≤ zc p a i ∧ zc p a i ≤ i - a := by
  suffices K : ∀ n : Nat, 0 ≤ zc p a (a + n) ∧ zc p a (a + n) ≤ n by
    have := K (i - a).toNat
    rw [show a + ((i - a).toNat : Int) = i by omega] at this
    omega
  intro n
  induction n with
  | zero => simp [zc_0]
  | succ n ih =>
    have e : a + ((n + 1 : Nat) : Int) = (a + n) + 1 := by omega
    rw [e]
    cases hp : p (a + n) with
    | true => rw [zc_t p a _ (by omega) hp]; omega
    | false => rw [zc_f p a _ (by omega) hp]; omega
/-- how a layer is pulled by one beside it; how it turns; a day -/
def pull (f : Int → Int) (L a b : Int) : Int := if b < 0 ∨ L ≤ b then 0 else if 2 ≤ f b - f a then 1 else if f b - f a ≤ -2 then -1 else 0
theorem pull_in (f : Int → Int) (L a b : Int) : -1 ≤ pull f L a b ∧ pull f L a b ≤ 1 := by
  unfold pull
  split
  · omega
  · split
    · omega
    · split <;> omega
def turn (f : Int → Int) (L a : Int) : Int := if 0 < pull f L a (a - 1) + pull f L a (a + 1) then 1 else if pull f L a (a - 1) + pull f L a (a + 1) < 0 then -1 else 0
theorem turn_in (f : Int → Int) (L a : Int) : -1 ≤ turn f L a ∧ turn f L a ≤ 1 := by
  unfold turn
  split
  · omega
  · split <;> omega
def turnD (f : Int → Int) (L : Int) : Int → Int := fun j => f j + turn f L j
def turnC (f : Int → Int) (L : Int) : Int := zc (fun j => decide (turn f L j ≠ 0)) 0 L
end
section
/-! ===== GrainSilo: leaves ===== -/
set_option maxHeartbeats 4000000 in
set_option maxRecDepth 100000 in
theorem kX0_isKind (l : Launch) (D : va_G) (c1 c2 c3 : ClassId) (a : Int) (ha : zR a) : cI l yX0_isKind wsX0_isKind ({ frames := 0, cells := 0, slots := 0, locals := 0 }) D (tyS c1 c2 c3) [.int (zI a)] ([]) ([]) (zI (if 0 ≤ a ∧ a ≤ 4 then 1 else 0)) 0 0 := by
  refine cI.of (cc := cX0_isKind) (maxL := 1) (ret := .boolean) (by decide) rfl (lv := [(0, .int (zI a))]) [0] rfl (Nat.le_of_ble_eq_true rfl) ?_
  intro p e s m args below meth c A C hr
  have C : GC p s m args meth c cX0_isKind 1 RX0 wsX0_isKind D (tyS c1 c2 c3) A := C
  obtain ⟨ha1, ha2⟩ := ha
  refine j_iload_n (pc := 0) C dX0_isKind_0 0 rfl ?_
  refine j_if_lt (pc := 1) C 13 dX0_isKind_1 (by decide) ⟨by omega, by omega⟩ (fun c_1 => ?_) (fun c_1 => ?_)
  · skip
    refine j_iconst (pc := 13) C dX0_isKind_13 ?_
    exact j_zret (pc := 14) C hr dX0_isKind_14 rfl (by first | rfl | rw [if_pos (by omega)] | rw [if_neg (by omega)]) (by rfl) (by decide) (by decide)
  · skip
    refine j_iload_n (pc := 4) C dX0_isKind_4 0 rfl ?_
    refine j_iconst (pc := 5) C dX0_isKind_5 ?_
    refine j_icmp_gt (pc := 6) C 13 dX0_isKind_6 (by decide) ⟨by omega, by omega⟩ ⟨by omega, by omega⟩ (fun c_6 => ?_) (fun c_6 => ?_)
    · skip
      refine j_iconst (pc := 13) C dX0_isKind_13 ?_
      exact j_zret (pc := 14) C hr dX0_isKind_14 rfl (by first | rfl | rw [if_pos (by omega)] | rw [if_neg (by omega)]) (by rfl) (by decide) (by decide)
    · skip
      refine j_iconst (pc := 9) C dX0_isKind_9 ?_
      refine j_goto (pc := 10) C 14 dX0_isKind_10 (by decide) ?_
      exact j_zret (pc := 14) C hr dX0_isKind_14 rfl (by first | rfl | rw [if_pos (by omega)] | rw [if_neg (by omega)]) (by rfl) (by decide) (by decide)
set_option maxHeartbeats 4000000 in
set_option maxRecDepth 100000 in
theorem kX0_isDampness (l : Launch) (D : va_G) (c1 c2 c3 : ClassId) (a : Int) (ha : zR a) : cI l yX0_isDampness wsX0_isDampness ({ frames := 0, cells := 0, slots := 0, locals := 0 }) D (tyS c1 c2 c3) [.int (zI a)] ([]) ([]) (zI (if 0 ≤ a ∧ a ≤ 40 then 1 else 0)) 0 0 := by
  refine cI.of (cc := cX0_isDampness) (maxL := 1) (ret := .boolean) (by decide) rfl (lv := [(0, .int (zI a))]) [0] rfl (Nat.le_of_ble_eq_true rfl) ?_
  intro p e s m args below meth c A C hr
  have C : GC p s m args meth c cX0_isDampness 1 RX0 wsX0_isDampness D (tyS c1 c2 c3) A := C
  obtain ⟨ha1, ha2⟩ := ha
  refine j_iload_n (pc := 0) C dX0_isDampness_0 0 rfl ?_
  refine j_if_lt (pc := 1) C 14 dX0_isDampness_1 (by decide) ⟨by omega, by omega⟩ (fun c_1 => ?_) (fun c_1 => ?_)
  · skip
    refine j_iconst (pc := 14) C dX0_isDampness_14 ?_
    exact j_zret (pc := 15) C hr dX0_isDampness_15 rfl (by first | rfl | rw [if_pos (by omega)] | rw [if_neg (by omega)]) (by rfl) (by decide) (by decide)
  · skip
    refine j_iload_n (pc := 4) C dX0_isDampness_4 0 rfl ?_
    refine j_bipush (pc := 5) C dX0_isDampness_5 (by decide +kernel) ?_
    refine j_icmp_gt (pc := 7) C 14 dX0_isDampness_7 (by decide) ⟨by omega, by omega⟩ ⟨by omega, by omega⟩ (fun c_7 => ?_) (fun c_7 => ?_)
    · skip
      refine j_iconst (pc := 14) C dX0_isDampness_14 ?_
      exact j_zret (pc := 15) C hr dX0_isDampness_15 rfl (by first | rfl | rw [if_pos (by omega)] | rw [if_neg (by omega)]) (by rfl) (by decide) (by decide)
    · skip
      refine j_iconst (pc := 10) C dX0_isDampness_10 ?_
      refine j_goto (pc := 11) C 15 dX0_isDampness_11 (by decide) ?_
      exact j_zret (pc := 15) C hr dX0_isDampness_15 rfl (by first | rfl | rw [if_pos (by omega)] | rw [if_neg (by omega)]) (by rfl) (by decide) (by decide)
set_option maxHeartbeats 4000000 in
set_option maxRecDepth 100000 in
theorem kX0_isDamp (l : Launch) (D : va_G) (h : Nat → Nat) (c1 c2 c3 : ClassId) (K Dm : Int → Int) (L : Int) (lo hi su db : Int → Int) (S dy li so sp : Int) (tu ah : Int → Int) (M : Int → Int → Int) (a : Int) (ha : zR a) (hl : zR li) : cI l yX0_isDamp wsX0_isDamp ({ frames := 0, cells := 0, slots := 0, locals := 0 }) D (tyS c1 c2 c3) [.ref (h 0), .int (zI a)] (wG h c1 c2 K Dm L lo hi su db S dy li so sp tu ah M) (wG h c1 c2 K Dm L lo hi su db S dy li so sp tu ah M) (zI (if li < a then 1 else 0)) 0 0 := by
  refine cI.of (cc := cX0_isDamp) (maxL := 2) (ret := .boolean) (by decide) rfl (lv := [(0, .ref (h 0)), (1, .int (zI a))]) [0, 1] rfl (Nat.le_of_ble_eq_true rfl) ?_
  intro p e s m args below meth c A C hr
  have C : GC p s m args meth c cX0_isDamp 2 RX0 wsX0_isDamp D (tyS c1 c2 c3) A := C
  have hin : ∀ w ∈ wsX00, w ∈ wsX0_isDamp := fun _ h => List.mem_cons_of_mem _ (List.mem_append_right _ h)
  obtain ⟨ha1, ha2⟩ := ha
  obtain ⟨hl1, hl2⟩ := hl
  refine j_iload_n (pc := 0) C dX0_isDamp_0 1 rfl ?_
  refine j_aload_n (pc := 1) C dX0_isDamp_1 0 rfl ?_
  refine j_get (pc := 2) C (ref := "GrainSilo") (T := TX0) (N := 15) hin 0 rfl rfl 9 (by decide) (C.w 1 rfl) rfl rfl dX0_isDamp_2 ?_
  refine j_icmp_le (pc := 5) C 12 dX0_isDamp_5 (by decide) ⟨by omega, by omega⟩ ⟨by omega, by omega⟩ (fun c_5 => ?_) (fun c_5 => ?_)
  · skip
    refine j_iconst (pc := 12) C dX0_isDamp_12 ?_
    exact j_zret (pc := 13) C hr dX0_isDamp_13 rfl (by first | rfl | rw [if_pos (by omega)] | rw [if_neg (by omega)]) (by rfl) (by decide) (by decide)
  · skip
    refine j_iconst (pc := 8) C dX0_isDamp_8 ?_
    refine j_goto (pc := 9) C 13 dX0_isDamp_9 (by decide) ?_
    exact j_zret (pc := 13) C hr dX0_isDamp_13 rfl (by first | rfl | rw [if_pos (by omega)] | rw [if_neg (by omega)]) (by rfl) (by decide) (by decide)
set_option maxHeartbeats 4000000 in
set_option maxRecDepth 100000 in
theorem kX0_samples (l : Launch) (D : va_G) (h : Nat → Nat) (c1 c2 c3 : ClassId) (K Dm : Int → Int) (L : Int) (lo hi su db : Int → Int) (S dy li so sp : Int) (tu ah : Int → Int) (M : Int → Int → Int)  : cI l yX0_samples wsX0_samples ({ frames := 0, cells := 0, slots := 0, locals := 0 }) D (tyS c1 c2 c3) [.ref (h 0)] (wG h c1 c2 K Dm L lo hi su db S dy li so sp tu ah M) (wG h c1 c2 K Dm L lo hi su db S dy li so sp tu ah M) (zI S) 0 0 := by
  refine cI.of (cc := cX0_samples) (maxL := 1) (ret := .int) (by decide) rfl (lv := [(0, .ref (h 0))]) [0] rfl (Nat.le_of_ble_eq_true rfl) ?_
  intro p e s m args below meth c A C hr
  have C : GC p s m args meth c cX0_samples 1 RX0 wsX0_samples D (tyS c1 c2 c3) A := C
  have hin : ∀ w ∈ wsX00, w ∈ wsX0_samples := fun _ h => List.mem_cons_of_mem _ (List.mem_append_right _ h)
  refine j_aload_n (pc := 0) C dX0_samples_0 0 rfl ?_
  refine j_get (pc := 1) C (ref := "GrainSilo") (T := TX0) (N := 15) hin 0 rfl rfl 7 (by decide) (C.w 1 rfl) rfl rfl dX0_samples_1 ?_
  exact j_iret (pc := 4) C hr dX0_samples_4 (by rfl) (by rfl) (by decide) (by decide)
set_option maxHeartbeats 4000000 in
set_option maxRecDepth 100000 in
theorem kX0_layers (l : Launch) (D : va_G) (h : Nat → Nat) (c1 c2 c3 : ClassId) (K Dm : Int → Int) (L : Int) (lo hi su db : Int → Int) (S dy li so sp : Int) (tu ah : Int → Int) (M : Int → Int → Int)  : cI l yX0_layers wsX0_layers ({ frames := 0, cells := 0, slots := 0, locals := 0 }) D (tyS c1 c2 c3) [.ref (h 0)] (wG h c1 c2 K Dm L lo hi su db S dy li so sp tu ah M) (wG h c1 c2 K Dm L lo hi su db S dy li so sp tu ah M) (zI L) 0 0 := by
  refine cI.of (cc := cX0_layers) (maxL := 1) (ret := .int) (by decide) rfl (lv := [(0, .ref (h 0))]) [0] rfl (Nat.le_of_ble_eq_true rfl) ?_
  intro p e s m args below meth c A C hr
  have C : GC p s m args meth c cX0_layers 1 RX0 wsX0_layers D (tyS c1 c2 c3) A := C
  have hin : ∀ w ∈ wsX00, w ∈ wsX0_layers := fun _ h => List.mem_cons_of_mem _ (List.mem_append_right _ h)
  refine j_aload_n (pc := 0) C dX0_layers_0 0 rfl ?_
  refine j_get (pc := 1) C (ref := "GrainSilo") (T := TX0) (N := 15) hin 0 rfl rfl 2 (by decide) (C.w 1 rfl) rfl rfl dX0_layers_1 ?_
  exact j_iret (pc := 4) C hr dX0_layers_4 (by rfl) (by rfl) (by decide) (by decide)
set_option maxHeartbeats 4000000 in
set_option maxRecDepth 100000 in
theorem kX0_day (l : Launch) (D : va_G) (h : Nat → Nat) (c1 c2 c3 : ClassId) (K Dm : Int → Int) (L : Int) (lo hi su db : Int → Int) (S dy li so sp : Int) (tu ah : Int → Int) (M : Int → Int → Int)  : cI l yX0_day wsX0_day ({ frames := 0, cells := 0, slots := 0, locals := 0 }) D (tyS c1 c2 c3) [.ref (h 0)] (wG h c1 c2 K Dm L lo hi su db S dy li so sp tu ah M) (wG h c1 c2 K Dm L lo hi su db S dy li so sp tu ah M) (zI dy) 0 0 := by
  refine cI.of (cc := cX0_day) (maxL := 1) (ret := .int) (by decide) rfl (lv := [(0, .ref (h 0))]) [0] rfl (Nat.le_of_ble_eq_true rfl) ?_
  intro p e s m args below meth c A C hr
  have C : GC p s m args meth c cX0_day 1 RX0 wsX0_day D (tyS c1 c2 c3) A := C
  have hin : ∀ w ∈ wsX00, w ∈ wsX0_day := fun _ h => List.mem_cons_of_mem _ (List.mem_append_right _ h)
  refine j_aload_n (pc := 0) C dX0_day_0 0 rfl ?_
  refine j_get (pc := 1) C (ref := "GrainSilo") (T := TX0) (N := 15) hin 0 rfl rfl 8 (by decide) (C.w 1 rfl) rfl rfl dX0_day_1 ?_
  exact j_iret (pc := 4) C hr dX0_day_4 (by rfl) (by rfl) (by decide) (by decide)
set_option maxHeartbeats 4000000 in
set_option maxRecDepth 100000 in
theorem kX0_limit (l : Launch) (D : va_G) (h : Nat → Nat) (c1 c2 c3 : ClassId) (K Dm : Int → Int) (L : Int) (lo hi su db : Int → Int) (S dy li so sp : Int) (tu ah : Int → Int) (M : Int → Int → Int)  : cI l yX0_limit wsX0_limit ({ frames := 0, cells := 0, slots := 0, locals := 0 }) D (tyS c1 c2 c3) [.ref (h 0)] (wG h c1 c2 K Dm L lo hi su db S dy li so sp tu ah M) (wG h c1 c2 K Dm L lo hi su db S dy li so sp tu ah M) (zI li) 0 0 := by
  refine cI.of (cc := cX0_limit) (maxL := 1) (ret := .int) (by decide) rfl (lv := [(0, .ref (h 0))]) [0] rfl (Nat.le_of_ble_eq_true rfl) ?_
  intro p e s m args below meth c A C hr
  have C : GC p s m args meth c cX0_limit 1 RX0 wsX0_limit D (tyS c1 c2 c3) A := C
  have hin : ∀ w ∈ wsX00, w ∈ wsX0_limit := fun _ h => List.mem_cons_of_mem _ (List.mem_append_right _ h)
  refine j_aload_n (pc := 0) C dX0_limit_0 0 rfl ?_
  refine j_get (pc := 1) C (ref := "GrainSilo") (T := TX0) (N := 15) hin 0 rfl rfl 9 (by decide) (C.w 1 rfl) rfl rfl dX0_limit_1 ?_
  exact j_iret (pc := 4) C hr dX0_limit_4 (by rfl) (by rfl) (by decide) (by decide)
set_option maxHeartbeats 4000000 in
set_option maxRecDepth 100000 in
theorem kX0_sold (l : Launch) (D : va_G) (h : Nat → Nat) (c1 c2 c3 : ClassId) (K Dm : Int → Int) (L : Int) (lo hi su db : Int → Int) (S dy li so sp : Int) (tu ah : Int → Int) (M : Int → Int → Int)  : cI l yX0_sold wsX0_sold ({ frames := 0, cells := 0, slots := 0, locals := 0 }) D (tyS c1 c2 c3) [.ref (h 0)] (wG h c1 c2 K Dm L lo hi su db S dy li so sp tu ah M) (wG h c1 c2 K Dm L lo hi su db S dy li so sp tu ah M) (zI so) 0 0 := by
  refine cI.of (cc := cX0_sold) (maxL := 1) (ret := .int) (by decide) rfl (lv := [(0, .ref (h 0))]) [0] rfl (Nat.le_of_ble_eq_true rfl) ?_
  intro p e s m args below meth c A C hr
  have C : GC p s m args meth c cX0_sold 1 RX0 wsX0_sold D (tyS c1 c2 c3) A := C
  have hin : ∀ w ∈ wsX00, w ∈ wsX0_sold := fun _ h => List.mem_cons_of_mem _ (List.mem_append_right _ h)
  refine j_aload_n (pc := 0) C dX0_sold_0 0 rfl ?_
  refine j_get (pc := 1) C (ref := "GrainSilo") (T := TX0) (N := 15) hin 0 rfl rfl 10 (by decide) (C.w 1 rfl) rfl rfl dX0_sold_1 ?_
  exact j_iret (pc := 4) C hr dX0_sold_4 (by rfl) (by rfl) (by decide) (by decide)
set_option maxHeartbeats 4000000 in
set_option maxRecDepth 100000 in
theorem kX0_spoilt (l : Launch) (D : va_G) (h : Nat → Nat) (c1 c2 c3 : ClassId) (K Dm : Int → Int) (L : Int) (lo hi su db : Int → Int) (S dy li so sp : Int) (tu ah : Int → Int) (M : Int → Int → Int)  : cI l yX0_spoilt wsX0_spoilt ({ frames := 0, cells := 0, slots := 0, locals := 0 }) D (tyS c1 c2 c3) [.ref (h 0)] (wG h c1 c2 K Dm L lo hi su db S dy li so sp tu ah M) (wG h c1 c2 K Dm L lo hi su db S dy li so sp tu ah M) (zI sp) 0 0 := by
  refine cI.of (cc := cX0_spoilt) (maxL := 1) (ret := .int) (by decide) rfl (lv := [(0, .ref (h 0))]) [0] rfl (Nat.le_of_ble_eq_true rfl) ?_
  intro p e s m args below meth c A C hr
  have C : GC p s m args meth c cX0_spoilt 1 RX0 wsX0_spoilt D (tyS c1 c2 c3) A := C
  have hin : ∀ w ∈ wsX00, w ∈ wsX0_spoilt := fun _ h => List.mem_cons_of_mem _ (List.mem_append_right _ h)
  refine j_aload_n (pc := 0) C dX0_spoilt_0 0 rfl ?_
  refine j_get (pc := 1) C (ref := "GrainSilo") (T := TX0) (N := 15) hin 0 rfl rfl 11 (by decide) (C.w 1 rfl) rfl rfl dX0_spoilt_1 ?_
  exact j_iret (pc := 4) C hr dX0_spoilt_4 (by rfl) (by rfl) (by decide) (by decide)
set_option maxHeartbeats 4000000 in
set_option maxRecDepth 100000 in
theorem kX0_putOnTop (l : Launch) (D : va_G) (h : Nat → Nat) (c1 c2 c3 : ClassId) (K Dm : Int → Int) (L : Int) (lo hi su db : Int → Int) (S dy li so sp : Int) (tu ah : Int → Int) (M : Int → Int → Int) (a b : Int) (hL0 : 0 ≤ L) (hL : L < 12) : cI l yX0_putOnTop wsX0_putOnTop ({ frames := 0, cells := 0, slots := 0, locals := 0 }) D (tyS c1 c2 c3) [.ref (h 0), .int (zI a), .int (zI b)] (wG h c1 c2 K Dm L lo hi su db S dy li so sp tu ah M) (wG h c1 c2 (upZ K L a) (upZ Dm L b) (L + 1) lo hi su db S dy li so sp tu ah M) (zI L) 0 0 := by
  refine cI.of (cc := cX0_putOnTop) (maxL := 4) (ret := .int) (by decide) rfl (lv := [(0, .ref (h 0)), (1, .int (zI a)), (2, .int (zI b))]) [0, 1, 2] rfl (Nat.le_of_ble_eq_true rfl) ?_
  intro p e s m args below meth c A C hr
  have C : GC p s m args meth c cX0_putOnTop 4 RX0 wsX0_putOnTop D (tyS c1 c2 c3) A := C
  have hin : ∀ w ∈ wsX00, w ∈ wsX0_putOnTop := fun _ h => List.mem_cons_of_mem _ (List.mem_append_right _ h)
  refine j_aload_n (pc := 0) C dX0_putOnTop_0 0 rfl ?_
  refine j_get (pc := 1) C (ref := "GrainSilo") (T := TX0) (N := 15) hin 0 rfl rfl 2 (by decide) (C.w 1 rfl) rfl rfl dX0_putOnTop_1 ?_
  refine j_istore_n (pc := 4) C (lv' := [(0, .ref (h 0)), (1, .int (zI a)), (2, .int (zI b)), (3, .int (zI L))]) dX0_putOnTop_4 (by decide) [1, 2, 3, 0] rfl ?_
  refine j_aload_n (pc := 5) C dX0_putOnTop_5 0 rfl ?_
  refine j_get (pc := 6) C (ref := "GrainSilo") (T := TX0) (N := 15) hin 0 rfl rfl 0 (by decide) (C.w 2 rfl) rfl rfl dX0_putOnTop_6 ?_
  refine j_iload_n (pc := 9) C dX0_putOnTop_9 3 rfl ?_
  refine j_iload_n (pc := 10) C dX0_putOnTop_10 1 rfl ?_
  refine j_iast (pc := 11) C 1 0 rfl rfl (by omega) (by omega) (by decide) (ws' := wG h c1 c2 (upZ K L a) Dm L lo hi su db S dy li so sp tu ah M) rfl dX0_putOnTop_11 ?_
  refine j_aload_n (pc := 12) C dX0_putOnTop_12 0 rfl ?_
  refine j_get (pc := 13) C (ref := "GrainSilo") (T := TX0) (N := 15) hin 0 rfl rfl 1 (by decide) (C.w 3 rfl) rfl rfl dX0_putOnTop_13 ?_
  refine j_iload_n (pc := 16) C dX0_putOnTop_16 3 rfl ?_
  refine j_iload_n (pc := 17) C dX0_putOnTop_17 2 rfl ?_
  refine j_iast (pc := 18) C 2 0 rfl rfl (by omega) (by omega) (by decide) (ws' := wG h c1 c2 (upZ K L a) (upZ Dm L b) L lo hi su db S dy li so sp tu ah M) rfl dX0_putOnTop_18 ?_
  refine j_aload_n (pc := 19) C dX0_putOnTop_19 0 rfl ?_
  refine j_dup (pc := 20) C dX0_putOnTop_20 rfl ?_
  refine j_get (pc := 21) C (ref := "GrainSilo") (T := TX0) (N := 15) hin 0 rfl rfl 2 (by decide) (C.w 1 rfl) rfl rfl dX0_putOnTop_21 ?_
  refine j_iconst (pc := 24) C dX0_putOnTop_24 ?_
  refine j_iadd (pc := 25) C dX0_putOnTop_25 ?_
  refine j_put (pc := 26) C (ref := "GrainSilo") (T := TX0) (N := 15) (ws' := wG h c1 c2 (upZ K L a) (upZ Dm L b) (L + 1) lo hi su db S dy li so sp tu ah M) hin tyX0 tyX0_ok nmX0 0 rfl rfl 2 (by decide) (C.w 1 rfl) rfl rfl (by decide +kernel) (Nat.le_of_ble_eq_true rfl) rfl dX0_putOnTop_26 ?_
  refine j_iload_n (pc := 29) C dX0_putOnTop_29 3 rfl ?_
  exact j_iret (pc := 30) C hr dX0_putOnTop_30 (by rfl) (by rfl) (by decide) (by decide)
set_option maxHeartbeats 4000000 in
set_option maxRecDepth 100000 in
theorem kX0_countOut (l : Launch) (D : va_G) (h : Nat → Nat) (c1 c2 c3 : ClassId) (K Dm : Int → Int) (L : Int) (lo hi su db : Int → Int) (S dy li so sp : Int) (tu ah : Int → Int) (M : Int → Int → Int) (a : Int) (ha : zR a) (hl : zR li) : cV l yX0_countOut wsX0_countOut ({ frames := 1, cells := 0, slots := 0, locals := 21 }) D (tyS c1 c2 c3) [.ref (h 0), .int (zI a)] (wG h c1 c2 K Dm L lo hi su db S dy li so sp tu ah M) (wG h c1 c2 K Dm L lo hi su db S dy li (if li < a then so else so + 1) (if li < a then sp + 1 else sp) tu ah M) 0 0 := by
  refine cV.of (cc := cX0_countOut) (maxL := 2) (by decide) rfl (lv := [(0, .ref (h 0)), (1, .int (zI a))]) [0, 1] rfl (Nat.le_of_ble_eq_true rfl) ?_
  intro p e s m args below meth c A C hr
  have C : GC p s m args meth c cX0_countOut 2 RX0 wsX0_countOut D (tyS c1 c2 c3) A := C
  have hin : ∀ w ∈ wsX00, w ∈ wsX0_countOut := fun _ h => List.mem_cons_of_mem _ (List.mem_append_right _ h)
  obtain ⟨ha1, ha2⟩ := ha
  obtain ⟨hl1, hl2⟩ := hl
  refine j_aload_n (pc := 0) C dX0_countOut_0 0 rfl ?_
  refine j_iload_n (pc := 1) C dX0_countOut_1 1 rfl ?_
  refine j_callI (pc := 2) C (As := [.int (zI a)]) (rest := []) (kX0_isDamp l D h c1 c2 c3 K Dm L lo hi su db S dy li so sp tu ah M a ⟨by omega, by omega⟩ ⟨by omega, by omega⟩) (cwV 1 C.2.2.2.2.1 gX0_countOut_X0_isDamp rfl rfl rfl (by decide +kernel) ⟨Nat.le_of_ble_eq_true rfl, Nat.le_of_ble_eq_true rfl⟩) 0 (ci := 0) rfl rfl rfl dX0_countOut_2 rfl rfl (by decide) (by decide) ?_
  refine j_if_eq (pc := 5) C 21 dX0_countOut_5 (by decide) (by split <;> exact ⟨by omega, by omega⟩) (fun c_5 => ?_) (fun c_5 => ?_)
  · skip
    have c_5 : ¬ li < a := by intro h; rw [if_pos h] at c_5; omega
    refine j_aload_n (pc := 21) C dX0_countOut_21 0 rfl ?_
    refine j_dup (pc := 22) C dX0_countOut_22 rfl ?_
    refine j_get (pc := 23) C (ref := "GrainSilo") (T := TX0) (N := 15) hin 0 rfl rfl 10 (by decide) (C.w 2 rfl) rfl rfl dX0_countOut_23 ?_
    refine j_iconst (pc := 26) C dX0_countOut_26 ?_
    refine j_iadd (pc := 27) C dX0_countOut_27 ?_
    refine j_put (pc := 28) C (ref := "GrainSilo") (T := TX0) (N := 15) (ws' := wG h c1 c2 K Dm L lo hi su db S dy li (so + 1) sp tu ah M) hin tyX0 tyX0_ok nmX0 0 rfl rfl 10 (by decide) (C.w 2 rfl) rfl rfl (by decide +kernel) (Nat.le_of_ble_eq_true rfl) rfl dX0_countOut_28 ?_
    exact j_vret (pc := 31) C hr dX0_countOut_31 (by first | rw [if_pos c_5, if_pos c_5] | rw [if_neg c_5, if_neg c_5]) (by decide) (by decide)
  · skip
    have c_5 : li < a := by apply Decidable.byContradiction; intro h; rw [if_neg h] at c_5; exact c_5 rfl
    refine j_aload_n (pc := 8) C dX0_countOut_8 0 rfl ?_
    refine j_dup (pc := 9) C dX0_countOut_9 rfl ?_
    refine j_get (pc := 10) C (ref := "GrainSilo") (T := TX0) (N := 15) hin 0 rfl rfl 11 (by decide) (C.w 1 rfl) rfl rfl dX0_countOut_10 ?_
    refine j_iconst (pc := 13) C dX0_countOut_13 ?_
    refine j_iadd (pc := 14) C dX0_countOut_14 ?_
    refine j_put (pc := 15) C (ref := "GrainSilo") (T := TX0) (N := 15) (ws' := wG h c1 c2 K Dm L lo hi su db S dy li so (sp + 1) tu ah M) hin tyX0 tyX0_ok nmX0 0 rfl rfl 11 (by decide) (C.w 1 rfl) rfl rfl (by decide +kernel) (Nat.le_of_ble_eq_true rfl) rfl dX0_countOut_15 ?_
    refine j_goto (pc := 18) C 31 dX0_countOut_18 (by decide) ?_
    exact j_vret (pc := 31) C hr dX0_countOut_31 (by first | rw [if_pos c_5, if_pos c_5] | rw [if_neg c_5, if_neg c_5]) (by decide) (by decide)
set_option maxHeartbeats 4000000 in
set_option maxRecDepth 100000 in
theorem kX0_lowerLayers (l : Launch) (D : va_G) (h : Nat → Nat) (c1 c2 c3 : ClassId) (K Dm : Int → Int) (L : Int) (lo hi su db : Int → Int) (S dy li so sp : Int) (tu ah : Int → Int) (M : Int → Int → Int) (hL0 : 1 ≤ L) (hL : L ≤ 12) : cV l yX0_lowerLayers wsX0_lowerLayers ({ frames := 0, cells := 0, slots := 0, locals := 0 }) D (tyS c1 c2 c3) [.ref (h 0)] (wG h c1 c2 K Dm L lo hi su db S dy li so sp tu ah M) (wG h c1 c2 (shf K L) (shf Dm L) (L - 1) lo hi su db S dy li so sp tu ah M) 0 0 := by
  refine cV.of (cc := cX0_lowerLayers) (maxL := 2) (by decide) rfl (lv := [(0, .ref (h 0))]) [0] rfl (Nat.le_of_ble_eq_true rfl) ?_
  intro p e s m args below meth c A C hr
  have C : GC p s m args meth c cX0_lowerLayers 2 RX0 wsX0_lowerLayers D (tyS c1 c2 c3) A := C
  have hin : ∀ w ∈ wsX00, w ∈ wsX0_lowerLayers := fun _ h => List.mem_cons_of_mem _ (List.mem_append_right _ h)
  refine j_iconst (pc := 0) C dX0_lowerLayers_0 ?_
  refine j_istore_n (pc := 1) C (lv' := [(0, .ref (h 0)), (1, .int (zI 1))]) dX0_lowerLayers_1 (by decide) [1, 0] rfl ?_
  refine J.cast (ws' := wG h c1 c2 (shf K 1) (shf Dm 1) L lo hi su db S dy li so sp tu ah M) (lv' := [(0, .ref (h 0)), (1, .int (zI 1))]) ?_ (by simp only [shf_1]) (by rfl) rfl
  refine j_up (fun i : Int => wG h c1 c2 (shf K i) (shf Dm i) L lo hi su db S dy li so sp tu ah M) (fun i : Int => [(0, .ref (h 0)), (1, .int (zI i))]) (fun i : Int => True) 1 L (by omega) trivial ?_ ?_
  · intro i h0_2 h1_2 hI_2 hk_2
    try dsimp only at hI_2 hk_2 ⊢
    refine j_iload_n (pc := 2) C dX0_lowerLayers_2 1 rfl ?_
    refine j_aload_n (pc := 3) C dX0_lowerLayers_3 0 rfl ?_
    refine j_get (pc := 4) C (ref := "GrainSilo") (T := TX0) (N := 15) hin 0 rfl rfl 2 (by decide) (C.w 1 rfl) rfl rfl dX0_lowerLayers_4 ?_
    refine j_icmp_ge (pc := 7) C 44 dX0_lowerLayers_7 (by decide) ⟨by omega, by omega⟩ ⟨by omega, by omega⟩ (fun c_7 => absurd c_7 (by omega)) (fun c_7 => ?_)
    refine j_aload_n (pc := 10) C dX0_lowerLayers_10 0 rfl ?_
    refine j_get (pc := 11) C (ref := "GrainSilo") (T := TX0) (N := 15) hin 0 rfl rfl 0 (by decide) (C.w 2 rfl) rfl rfl dX0_lowerLayers_11 ?_
    refine j_iload_n (pc := 14) C dX0_lowerLayers_14 1 rfl ?_
    refine j_iconst (pc := 15) C dX0_lowerLayers_15 ?_
    refine j_isub (pc := 16) C dX0_lowerLayers_16 ?_
    refine j_aload_n (pc := 17) C dX0_lowerLayers_17 0 rfl ?_
    refine j_get (pc := 18) C (ref := "GrainSilo") (T := TX0) (N := 15) hin 0 rfl rfl 0 (by decide) (C.w 2 rfl) rfl rfl dX0_lowerLayers_18 ?_
    refine j_iload_n (pc := 21) C dX0_lowerLayers_21 1 rfl ?_
    refine j_iald (pc := 22) C 1 0 rfl rfl (by omega) (by omega) (by decide) dX0_lowerLayers_22 ?_
    refine j_iast (pc := 23) C 1 0 rfl rfl (by omega) (by omega) (by decide) (ws' := wG h c1 c2 (upZ (shf K i) (i - 1) ((shf K i) i)) (shf Dm i) L lo hi su db S dy li so sp tu ah M) rfl dX0_lowerLayers_23 ?_
    refine j_aload_n (pc := 24) C dX0_lowerLayers_24 0 rfl ?_
    refine j_get (pc := 25) C (ref := "GrainSilo") (T := TX0) (N := 15) hin 0 rfl rfl 1 (by decide) (C.w 3 rfl) rfl rfl dX0_lowerLayers_25 ?_
    refine j_iload_n (pc := 28) C dX0_lowerLayers_28 1 rfl ?_
    refine j_iconst (pc := 29) C dX0_lowerLayers_29 ?_
    refine j_isub (pc := 30) C dX0_lowerLayers_30 ?_
    refine j_aload_n (pc := 31) C dX0_lowerLayers_31 0 rfl ?_
    refine j_get (pc := 32) C (ref := "GrainSilo") (T := TX0) (N := 15) hin 0 rfl rfl 1 (by decide) (C.w 3 rfl) rfl rfl dX0_lowerLayers_32 ?_
    refine j_iload_n (pc := 35) C dX0_lowerLayers_35 1 rfl ?_
    refine j_iald (pc := 36) C 2 0 rfl rfl (by omega) (by omega) (by decide) dX0_lowerLayers_36 ?_
    refine j_iast (pc := 37) C 2 0 rfl rfl (by omega) (by omega) (by decide) (ws' := wG h c1 c2 (upZ (shf K i) (i - 1) ((shf K i) i)) (upZ (shf Dm i) (i - 1) ((shf Dm i) i)) L lo hi su db S dy li so sp tu ah M) rfl dX0_lowerLayers_37 ?_
    refine j_iinc (pc := 38) C (lv' := [(0, .ref (h 0)), (1, .int (zI (i + 1)))]) dX0_lowerLayers_38 1 rfl (by decide) [1, 0] rfl ?_
    refine j_goto (pc := 41) C 2 dX0_lowerLayers_41 (by decide) ?_
    exact J.cast (hk_2 trivial) (by rw [shf_up K i (by omega), shf_up Dm i (by omega)]) (by rfl) rfl
  · intro hI_2
    try dsimp only at hI_2 ⊢
    refine j_iload_n (pc := 2) C dX0_lowerLayers_2 1 rfl ?_
    refine j_aload_n (pc := 3) C dX0_lowerLayers_3 0 rfl ?_
    refine j_get (pc := 4) C (ref := "GrainSilo") (T := TX0) (N := 15) hin 0 rfl rfl 2 (by decide) (C.w 1 rfl) rfl rfl dX0_lowerLayers_4 ?_
    refine j_icmp_ge (pc := 7) C 44 dX0_lowerLayers_7 (by decide) ⟨by omega, by omega⟩ ⟨by omega, by omega⟩ (fun c_7 => ?_) (fun c_7 => absurd c_7 (by omega))
    refine j_aload_n (pc := 44) C dX0_lowerLayers_44 0 rfl ?_
    refine j_dup (pc := 45) C dX0_lowerLayers_45 rfl ?_
    refine j_get (pc := 46) C (ref := "GrainSilo") (T := TX0) (N := 15) hin 0 rfl rfl 2 (by decide) (C.w 1 rfl) rfl rfl dX0_lowerLayers_46 ?_
    refine j_iconst (pc := 49) C dX0_lowerLayers_49 ?_
    refine j_isub (pc := 50) C dX0_lowerLayers_50 ?_
    refine j_put (pc := 51) C (ref := "GrainSilo") (T := TX0) (N := 15) (ws' := wG h c1 c2 (shf K L) (shf Dm L) (L - 1) lo hi su db S dy li so sp tu ah M) hin tyX0 tyX0_ok nmX0 0 rfl rfl 2 (by decide) (C.w 1 rfl) rfl rfl (by decide +kernel) (Nat.le_of_ble_eq_true rfl) rfl dX0_lowerLayers_51 ?_
    exact j_vret (pc := 54) C hr dX0_lowerLayers_54 (by rfl) (by decide) (by decide)
set_option maxHeartbeats 4000000 in
set_option maxRecDepth 100000 in
theorem kX0_sumNow (l : Launch) (D : va_G) (h : Nat → Nat) (c1 c2 c3 : ClassId) (K Dm : Int → Int) (L : Int) (lo hi su db : Int → Int) (S dy li so sp : Int) (tu ah : Int → Int) (M : Int → Int → Int) (a b : Int) (h0 : 0 ≤ a) (h1 : a ≤ b + 1) (h2 : b < 12) : cI l yX0_sumNow wsX0_sumNow ({ frames := 0, cells := 0, slots := 0, locals := 0 }) D (tyS c1 c2 c3) [.ref (h 0), .int (zI a), .int (zI b)] (wG h c1 c2 K Dm L lo hi su db S dy li so sp tu ah M) (wG h c1 c2 K Dm L lo hi su db S dy li so sp tu ah M) (zI (zs Dm a (b + 1))) 0 0 := by
  refine cI.of (cc := cX0_sumNow) (maxL := 5) (ret := .int) (by decide) rfl (lv := [(0, .ref (h 0)), (1, .int (zI a)), (2, .int (zI b))]) [0, 1, 2] rfl (Nat.le_of_ble_eq_true rfl) ?_
  intro p e s m args below meth c A C hr
  have C : GC p s m args meth c cX0_sumNow 5 RX0 wsX0_sumNow D (tyS c1 c2 c3) A := C
  have hin : ∀ w ∈ wsX00, w ∈ wsX0_sumNow := fun _ h => List.mem_cons_of_mem _ (List.mem_append_right _ h)
  refine j_iconst (pc := 0) C dX0_sumNow_0 ?_
  refine j_istore_n (pc := 1) C (lv' := [(0, .ref (h 0)), (1, .int (zI a)), (2, .int (zI b)), (3, .int (zI 0))]) dX0_sumNow_1 (by decide) [1, 2, 3, 0] rfl ?_
  refine j_iload_n (pc := 2) C dX0_sumNow_2 1 rfl ?_
  refine j_istore (pc := 3) C (lv' := [(0, .ref (h 0)), (1, .int (zI a)), (2, .int (zI b)), (3, .int (zI 0)), (4, .int (zI a))]) dX0_sumNow_3 (by decide) [1, 2, 3, 4, 0] rfl ?_
  refine J.cast (ws' := wG h c1 c2 K Dm L lo hi su db S dy li so sp tu ah M) (lv' := [(0, .ref (h 0)), (1, .int (zI a)), (2, .int (zI b)), (3, .int (zI (zs Dm a a))), (4, .int (zI a))]) ?_ (by rfl) (by rw [zs_0]) rfl
  refine j_up (fun i : Int => wG h c1 c2 K Dm L lo hi su db S dy li so sp tu ah M) (fun i : Int => [(0, .ref (h 0)), (1, .int (zI a)), (2, .int (zI b)), (3, .int (zI (zs Dm a i))), (4, .int (zI i))]) (fun i : Int => True) a (b + 1) (by omega) trivial ?_ ?_
  · intro i h0_5 h1_5 hI_5 hk_5
    try dsimp only at hI_5 hk_5 ⊢
    refine j_iload (pc := 5) C dX0_sumNow_5 4 rfl ?_
    refine j_iload_n (pc := 7) C dX0_sumNow_7 2 rfl ?_
    refine j_icmp_gt (pc := 8) C 27 dX0_sumNow_8 (by decide) ⟨by omega, by omega⟩ ⟨by omega, by omega⟩ (fun c_8 => absurd c_8 (by omega)) (fun c_8 => ?_)
    refine j_iload_n (pc := 11) C dX0_sumNow_11 3 rfl ?_
    refine j_aload_n (pc := 12) C dX0_sumNow_12 0 rfl ?_
    refine j_get (pc := 13) C (ref := "GrainSilo") (T := TX0) (N := 15) hin 0 rfl rfl 1 (by decide) (C.w 1 rfl) rfl rfl dX0_sumNow_13 ?_
    refine j_iload (pc := 16) C dX0_sumNow_16 4 rfl ?_
    refine j_iald (pc := 18) C 2 0 rfl rfl (by omega) (by omega) (by decide) dX0_sumNow_18 ?_
    refine j_iadd (pc := 19) C dX0_sumNow_19 ?_
    refine j_istore_n (pc := 20) C (lv' := [(0, .ref (h 0)), (1, .int (zI a)), (2, .int (zI b)), (3, .int (zI ((zs Dm a i) + (Dm i)))), (4, .int (zI i))]) dX0_sumNow_20 (by decide) [1, 2, 3, 0, 4] rfl ?_
    refine j_iinc (pc := 21) C (lv' := [(0, .ref (h 0)), (1, .int (zI a)), (2, .int (zI b)), (3, .int (zI ((zs Dm a i) + (Dm i)))), (4, .int (zI (i + 1)))]) dX0_sumNow_21 4 rfl (by decide) [1, 2, 3, 4, 0] rfl ?_
    refine j_goto (pc := 24) C 5 dX0_sumNow_24 (by decide) ?_
    exact J.cast (hk_5 trivial) (by rfl) (by rw [zs_up Dm a i (by omega)]) rfl
  · intro hI_5
    try dsimp only at hI_5 ⊢
    refine j_iload (pc := 5) C dX0_sumNow_5 4 rfl ?_
    refine j_iload_n (pc := 7) C dX0_sumNow_7 2 rfl ?_
    refine j_icmp_gt (pc := 8) C 27 dX0_sumNow_8 (by decide) ⟨by omega, by omega⟩ ⟨by omega, by omega⟩ (fun c_8 => ?_) (fun c_8 => absurd c_8 (by omega))
    refine j_iload_n (pc := 27) C dX0_sumNow_27 3 rfl ?_
    exact j_iret (pc := 28) C hr dX0_sumNow_28 (by rfl) (by rfl) (by decide) (by decide)
set_option maxHeartbeats 4000000 in
set_option maxRecDepth 100000 in
theorem kX0_moveSample (l : Launch) (D : va_G) (h : Nat → Nat) (c1 c2 c3 : ClassId) (K Dm : Int → Int) (L : Int) (lo hi su db : Int → Int) (S dy li so sp : Int) (tu ah : Int → Int) (M : Int → Int → Int) (a b : Int) (h0 : 0 ≤ a) (h1 : a < 16) (h2 : 0 ≤ b) (h3 : b < 16) : cV l yX0_moveSample wsX0_moveSample ({ frames := 0, cells := 0, slots := 0, locals := 0 }) D (tyS c1 c2 c3) [.ref (h 0), .int (zI a), .int (zI b)] (wG h c1 c2 K Dm L lo hi su db S dy li so sp tu ah M) (wG h c1 c2 K Dm L (upZ lo b (lo a)) (upZ hi b (hi a)) (upZ su b (su a)) (upZ db b (db a)) S dy li so sp tu ah M) 0 0 := by
  refine cV.of (cc := cX0_moveSample) (maxL := 3) (by decide) rfl (lv := [(0, .ref (h 0)), (1, .int (zI a)), (2, .int (zI b))]) [0, 1, 2] rfl (Nat.le_of_ble_eq_true rfl) ?_
  intro p e s m args below meth c A C hr
  have C : GC p s m args meth c cX0_moveSample 3 RX0 wsX0_moveSample D (tyS c1 c2 c3) A := C
  have hin : ∀ w ∈ wsX00, w ∈ wsX0_moveSample := fun _ h => List.mem_cons_of_mem _ (List.mem_append_right _ h)
  refine j_aload_n (pc := 0) C dX0_moveSample_0 0 rfl ?_
  refine j_get (pc := 1) C (ref := "GrainSilo") (T := TX0) (N := 15) hin 0 rfl rfl 3 (by decide) (C.w 1 rfl) rfl rfl dX0_moveSample_1 ?_
  refine j_iload_n (pc := 4) C dX0_moveSample_4 2 rfl ?_
  refine j_aload_n (pc := 5) C dX0_moveSample_5 0 rfl ?_
  refine j_get (pc := 6) C (ref := "GrainSilo") (T := TX0) (N := 15) hin 0 rfl rfl 3 (by decide) (C.w 1 rfl) rfl rfl dX0_moveSample_6 ?_
  refine j_iload_n (pc := 9) C dX0_moveSample_9 1 rfl ?_
  refine j_iald (pc := 10) C 3 0 rfl rfl (by omega) (by omega) (by decide) dX0_moveSample_10 ?_
  refine j_iast (pc := 11) C 3 0 rfl rfl (by omega) (by omega) (by decide) (ws' := wG h c1 c2 K Dm L (upZ lo b (lo a)) hi su db S dy li so sp tu ah M) rfl dX0_moveSample_11 ?_
  refine j_aload_n (pc := 12) C dX0_moveSample_12 0 rfl ?_
  refine j_get (pc := 13) C (ref := "GrainSilo") (T := TX0) (N := 15) hin 0 rfl rfl 4 (by decide) (C.w 2 rfl) rfl rfl dX0_moveSample_13 ?_
  refine j_iload_n (pc := 16) C dX0_moveSample_16 2 rfl ?_
  refine j_aload_n (pc := 17) C dX0_moveSample_17 0 rfl ?_
  refine j_get (pc := 18) C (ref := "GrainSilo") (T := TX0) (N := 15) hin 0 rfl rfl 4 (by decide) (C.w 2 rfl) rfl rfl dX0_moveSample_18 ?_
  refine j_iload_n (pc := 21) C dX0_moveSample_21 1 rfl ?_
  refine j_iald (pc := 22) C 4 0 rfl rfl (by omega) (by omega) (by decide) dX0_moveSample_22 ?_
  refine j_iast (pc := 23) C 4 0 rfl rfl (by omega) (by omega) (by decide) (ws' := wG h c1 c2 K Dm L (upZ lo b (lo a)) (upZ hi b (hi a)) su db S dy li so sp tu ah M) rfl dX0_moveSample_23 ?_
  refine j_aload_n (pc := 24) C dX0_moveSample_24 0 rfl ?_
  refine j_get (pc := 25) C (ref := "GrainSilo") (T := TX0) (N := 15) hin 0 rfl rfl 5 (by decide) (C.w 3 rfl) rfl rfl dX0_moveSample_25 ?_
  refine j_iload_n (pc := 28) C dX0_moveSample_28 2 rfl ?_
  refine j_aload_n (pc := 29) C dX0_moveSample_29 0 rfl ?_
  refine j_get (pc := 30) C (ref := "GrainSilo") (T := TX0) (N := 15) hin 0 rfl rfl 5 (by decide) (C.w 3 rfl) rfl rfl dX0_moveSample_30 ?_
  refine j_iload_n (pc := 33) C dX0_moveSample_33 1 rfl ?_
  refine j_iald (pc := 34) C 5 0 rfl rfl (by omega) (by omega) (by decide) dX0_moveSample_34 ?_
  refine j_iast (pc := 35) C 5 0 rfl rfl (by omega) (by omega) (by decide) (ws' := wG h c1 c2 K Dm L (upZ lo b (lo a)) (upZ hi b (hi a)) (upZ su b (su a)) db S dy li so sp tu ah M) rfl dX0_moveSample_35 ?_
  refine j_aload_n (pc := 36) C dX0_moveSample_36 0 rfl ?_
  refine j_get (pc := 37) C (ref := "GrainSilo") (T := TX0) (N := 15) hin 0 rfl rfl 6 (by decide) (C.w 4 rfl) rfl rfl dX0_moveSample_37 ?_
  refine j_iload_n (pc := 40) C dX0_moveSample_40 2 rfl ?_
  refine j_aload_n (pc := 41) C dX0_moveSample_41 0 rfl ?_
  refine j_get (pc := 42) C (ref := "GrainSilo") (T := TX0) (N := 15) hin 0 rfl rfl 6 (by decide) (C.w 4 rfl) rfl rfl dX0_moveSample_42 ?_
  refine j_iload_n (pc := 45) C dX0_moveSample_45 1 rfl ?_
  refine j_iald (pc := 46) C 6 0 rfl rfl (by omega) (by omega) (by decide) dX0_moveSample_46 ?_
  refine j_iast (pc := 47) C 6 0 rfl rfl (by omega) (by omega) (by decide) (ws' := wG h c1 c2 K Dm L (upZ lo b (lo a)) (upZ hi b (hi a)) (upZ su b (su a)) (upZ db b (db a)) S dy li so sp tu ah M) rfl dX0_moveSample_47 ?_
  exact j_vret (pc := 48) C hr dX0_moveSample_48 (by rfl) (by decide) (by decide)
set_option maxHeartbeats 4000000 in
set_option maxRecDepth 100000 in
theorem kX0_lowerSamples (l : Launch) (D : va_G) (h : Nat → Nat) (c1 c2 c3 : ClassId) (K Dm : Int → Int) (L : Int) (lo hi su db : Int → Int) (S dy li so sp : Int) (tu ah : Int → Int) (M : Int → Int → Int) (hS0 : 0 ≤ S) (hS : S ≤ 16) : cV l yX0_lowerSamples wsX0_lowerSamples ({ frames := 0, cells := 0, slots := 0, locals := 0 }) D (tyS c1 c2 c3) [.ref (h 0)] (wG h c1 c2 K Dm L lo hi su db S dy li so sp tu ah M) (wG h c1 c2 K Dm L (mix (fun j => lo j - 1) lo S) (mix (fun j => hi j - 1) hi S) su db S dy li so sp tu ah M) 0 0 := by
  refine cV.of (cc := cX0_lowerSamples) (maxL := 2) (by decide) rfl (lv := [(0, .ref (h 0))]) [0] rfl (Nat.le_of_ble_eq_true rfl) ?_
  intro p e s m args below meth c A C hr
  have C : GC p s m args meth c cX0_lowerSamples 2 RX0 wsX0_lowerSamples D (tyS c1 c2 c3) A := C
  have hin : ∀ w ∈ wsX00, w ∈ wsX0_lowerSamples := fun _ h => List.mem_cons_of_mem _ (List.mem_append_right _ h)
  refine j_iconst (pc := 0) C dX0_lowerSamples_0 ?_
  refine j_istore_n (pc := 1) C (lv' := [(0, .ref (h 0)), (1, .int (zI 0))]) dX0_lowerSamples_1 (by decide) [1, 0] rfl ?_
  refine J.cast (ws' := wG h c1 c2 K Dm L (mix (fun j => lo j - 1) lo 0) (mix (fun j => hi j - 1) hi 0) su db S dy li so sp tu ah M) (lv' := [(0, .ref (h 0)), (1, .int (zI 0))]) ?_ (by rw [mix_0, mix_0]) (by rfl) rfl
  refine j_up (fun i : Int => wG h c1 c2 K Dm L (mix (fun j => lo j - 1) lo i) (mix (fun j => hi j - 1) hi i) su db S dy li so sp tu ah M) (fun i : Int => [(0, .ref (h 0)), (1, .int (zI i))]) (fun i : Int => True) 0 S (by omega) trivial ?_ ?_
  · intro i h0_2 h1_2 hI_2 hk_2
    try dsimp only at hI_2 hk_2 ⊢
    refine j_iload_n (pc := 2) C dX0_lowerSamples_2 1 rfl ?_
    refine j_aload_n (pc := 3) C dX0_lowerSamples_3 0 rfl ?_
    refine j_get (pc := 4) C (ref := "GrainSilo") (T := TX0) (N := 15) hin 0 rfl rfl 7 (by decide) (C.w 1 rfl) rfl rfl dX0_lowerSamples_4 ?_
    refine j_icmp_ge (pc := 7) C 36 dX0_lowerSamples_7 (by decide) ⟨by omega, by omega⟩ ⟨by omega, by omega⟩ (fun c_7 => absurd c_7 (by omega)) (fun c_7 => ?_)
    refine j_aload_n (pc := 10) C dX0_lowerSamples_10 0 rfl ?_
    refine j_get (pc := 11) C (ref := "GrainSilo") (T := TX0) (N := 15) hin 0 rfl rfl 3 (by decide) (C.w 2 rfl) rfl rfl dX0_lowerSamples_11 ?_
    refine j_iload_n (pc := 14) C dX0_lowerSamples_14 1 rfl ?_
    refine j_dup2 (pc := 15) C dX0_lowerSamples_15 rfl rfl ?_
    refine j_iald (pc := 16) C 3 0 rfl rfl (by omega) (by omega) (by decide) dX0_lowerSamples_16 ?_
    refine j_iconst (pc := 17) C dX0_lowerSamples_17 ?_
    refine j_isub (pc := 18) C dX0_lowerSamples_18 ?_
    refine j_iast (pc := 19) C 3 0 rfl rfl (by omega) (by omega) (by decide) (ws' := wG h c1 c2 K Dm L (upZ (mix (fun j => lo j - 1) lo i) i (((mix (fun j => lo j - 1) lo i) i) - 1)) (mix (fun j => hi j - 1) hi i) su db S dy li so sp tu ah M) rfl dX0_lowerSamples_19 ?_
    refine j_aload_n (pc := 20) C dX0_lowerSamples_20 0 rfl ?_
    refine j_get (pc := 21) C (ref := "GrainSilo") (T := TX0) (N := 15) hin 0 rfl rfl 4 (by decide) (C.w 3 rfl) rfl rfl dX0_lowerSamples_21 ?_
    refine j_iload_n (pc := 24) C dX0_lowerSamples_24 1 rfl ?_
    refine j_dup2 (pc := 25) C dX0_lowerSamples_25 rfl rfl ?_
    refine j_iald (pc := 26) C 4 0 rfl rfl (by omega) (by omega) (by decide) dX0_lowerSamples_26 ?_
    refine j_iconst (pc := 27) C dX0_lowerSamples_27 ?_
    refine j_isub (pc := 28) C dX0_lowerSamples_28 ?_
    refine j_iast (pc := 29) C 4 0 rfl rfl (by omega) (by omega) (by decide) (ws' := wG h c1 c2 K Dm L (upZ (mix (fun j => lo j - 1) lo i) i (((mix (fun j => lo j - 1) lo i) i) - 1)) (upZ (mix (fun j => hi j - 1) hi i) i (((mix (fun j => hi j - 1) hi i) i) - 1)) su db S dy li so sp tu ah M) rfl dX0_lowerSamples_29 ?_
    refine j_iinc (pc := 30) C (lv' := [(0, .ref (h 0)), (1, .int (zI (i + 1)))]) dX0_lowerSamples_30 1 rfl (by decide) [1, 0] rfl ?_
    refine j_goto (pc := 33) C 2 dX0_lowerSamples_33 (by decide) ?_
    exact J.cast (hk_2 trivial) (by rw [mix_up _ lo i h0_2, mix_up _ hi i h0_2, mix_ge _ lo i i (Int.le_refl _), mix_ge _ hi i i (Int.le_refl _)]) (by rfl) rfl
  · intro hI_2
    try dsimp only at hI_2 ⊢
    refine j_iload_n (pc := 2) C dX0_lowerSamples_2 1 rfl ?_
    refine j_aload_n (pc := 3) C dX0_lowerSamples_3 0 rfl ?_
    refine j_get (pc := 4) C (ref := "GrainSilo") (T := TX0) (N := 15) hin 0 rfl rfl 7 (by decide) (C.w 1 rfl) rfl rfl dX0_lowerSamples_4 ?_
    refine j_icmp_ge (pc := 7) C 36 dX0_lowerSamples_7 (by decide) ⟨by omega, by omega⟩ ⟨by omega, by omega⟩ (fun c_7 => ?_) (fun c_7 => absurd c_7 (by omega))
    exact j_vret (pc := 36) C hr dX0_lowerSamples_36 (by rfl) (by decide) (by decide)
set_option maxHeartbeats 4000000 in
set_option maxRecDepth 100000 in
theorem kX0_addDoubt (l : Launch) (D : va_G) (h : Nat → Nat) (c1 c2 c3 : ClassId) (K Dm : Int → Int) (L : Int) (lo hi su db : Int → Int) (S dy li so sp : Int) (tu ah : Int → Int) (M : Int → Int → Int) (a : Int) (hS0 : 0 ≤ S) (hS : S ≤ 16) : cV l yX0_addDoubt wsX0_addDoubt ({ frames := 0, cells := 0, slots := 0, locals := 0 }) D (tyS c1 c2 c3) [.ref (h 0), .int (zI a)] (wG h c1 c2 K Dm L lo hi su db S dy li so sp tu ah M) (wG h c1 c2 K Dm L lo hi su (mix (fun j => db j + a * (hi j - lo j + 1)) db S) S dy li so sp tu ah M) 0 0 := by
  refine cV.of (cc := cX0_addDoubt) (maxL := 3) (by decide) rfl (lv := [(0, .ref (h 0)), (1, .int (zI a))]) [0, 1] rfl (Nat.le_of_ble_eq_true rfl) ?_
  intro p e s m args below meth c A C hr
  have C : GC p s m args meth c cX0_addDoubt 3 RX0 wsX0_addDoubt D (tyS c1 c2 c3) A := C
  have hin : ∀ w ∈ wsX00, w ∈ wsX0_addDoubt := fun _ h => List.mem_cons_of_mem _ (List.mem_append_right _ h)
  refine j_iconst (pc := 0) C dX0_addDoubt_0 ?_
  refine j_istore_n (pc := 1) C (lv' := [(0, .ref (h 0)), (1, .int (zI a)), (2, .int (zI 0))]) dX0_addDoubt_1 (by decide) [1, 2, 0] rfl ?_
  refine J.cast (ws' := wG h c1 c2 K Dm L lo hi su (mix (fun j => db j + a * (hi j - lo j + 1)) db 0) S dy li so sp tu ah M) (lv' := [(0, .ref (h 0)), (1, .int (zI a)), (2, .int (zI 0))]) ?_ (by rw [mix_0]) (by rfl) rfl
  refine j_up (fun i : Int => wG h c1 c2 K Dm L lo hi su (mix (fun j => db j + a * (hi j - lo j + 1)) db i) S dy li so sp tu ah M) (fun i : Int => [(0, .ref (h 0)), (1, .int (zI a)), (2, .int (zI i))]) (fun i : Int => True) 0 S (by omega) trivial ?_ ?_
  · intro i h0_2 h1_2 hI_2 hk_2
    try dsimp only at hI_2 hk_2 ⊢
    refine j_iload_n (pc := 2) C dX0_addDoubt_2 2 rfl ?_
    refine j_aload_n (pc := 3) C dX0_addDoubt_3 0 rfl ?_
    refine j_get (pc := 4) C (ref := "GrainSilo") (T := TX0) (N := 15) hin 0 rfl rfl 7 (by decide) (C.w 1 rfl) rfl rfl dX0_addDoubt_4 ?_
    refine j_icmp_ge (pc := 7) C 42 dX0_addDoubt_7 (by decide) ⟨by omega, by omega⟩ ⟨by omega, by omega⟩ (fun c_7 => absurd c_7 (by omega)) (fun c_7 => ?_)
    refine j_aload_n (pc := 10) C dX0_addDoubt_10 0 rfl ?_
    refine j_get (pc := 11) C (ref := "GrainSilo") (T := TX0) (N := 15) hin 0 rfl rfl 6 (by decide) (C.w 2 rfl) rfl rfl dX0_addDoubt_11 ?_
    refine j_iload_n (pc := 14) C dX0_addDoubt_14 2 rfl ?_
    refine j_dup2 (pc := 15) C dX0_addDoubt_15 rfl rfl ?_
    refine j_iald (pc := 16) C 6 0 rfl rfl (by omega) (by omega) (by decide) dX0_addDoubt_16 ?_
    refine j_iload_n (pc := 17) C dX0_addDoubt_17 1 rfl ?_
    refine j_aload_n (pc := 18) C dX0_addDoubt_18 0 rfl ?_
    refine j_get (pc := 19) C (ref := "GrainSilo") (T := TX0) (N := 15) hin 0 rfl rfl 4 (by decide) (C.w 3 rfl) rfl rfl dX0_addDoubt_19 ?_
    refine j_iload_n (pc := 22) C dX0_addDoubt_22 2 rfl ?_
    refine j_iald (pc := 23) C 4 0 rfl rfl (by omega) (by omega) (by decide) dX0_addDoubt_23 ?_
    refine j_aload_n (pc := 24) C dX0_addDoubt_24 0 rfl ?_
    refine j_get (pc := 25) C (ref := "GrainSilo") (T := TX0) (N := 15) hin 0 rfl rfl 3 (by decide) (C.w 4 rfl) rfl rfl dX0_addDoubt_25 ?_
    refine j_iload_n (pc := 28) C dX0_addDoubt_28 2 rfl ?_
    refine j_iald (pc := 29) C 3 0 rfl rfl (by omega) (by omega) (by decide) dX0_addDoubt_29 ?_
    refine j_isub (pc := 30) C dX0_addDoubt_30 ?_
    refine j_iconst (pc := 31) C dX0_addDoubt_31 ?_
    refine j_iadd (pc := 32) C dX0_addDoubt_32 ?_
    refine j_imul (pc := 33) C dX0_addDoubt_33 ?_
    refine j_iadd (pc := 34) C dX0_addDoubt_34 ?_
    refine j_iast (pc := 35) C 6 0 rfl rfl (by omega) (by omega) (by decide) (ws' := wG h c1 c2 K Dm L lo hi su (upZ (mix (fun j => db j + a * (hi j - lo j + 1)) db i) i (((mix (fun j => db j + a * (hi j - lo j + 1)) db i) i) + (a * (((hi i) - (lo i)) + 1)))) S dy li so sp tu ah M) rfl dX0_addDoubt_35 ?_
    refine j_iinc (pc := 36) C (lv' := [(0, .ref (h 0)), (1, .int (zI a)), (2, .int (zI (i + 1)))]) dX0_addDoubt_36 2 rfl (by decide) [1, 2, 0] rfl ?_
    refine j_goto (pc := 39) C 2 dX0_addDoubt_39 (by decide) ?_
    exact J.cast (hk_2 trivial) (by rw [mix_up _ db i h0_2, mix_ge _ db i i (Int.le_refl _)]) (by rfl) rfl
  · intro hI_2
    try dsimp only at hI_2 ⊢
    refine j_iload_n (pc := 2) C dX0_addDoubt_2 2 rfl ?_
    refine j_aload_n (pc := 3) C dX0_addDoubt_3 0 rfl ?_
    refine j_get (pc := 4) C (ref := "GrainSilo") (T := TX0) (N := 15) hin 0 rfl rfl 7 (by decide) (C.w 1 rfl) rfl rfl dX0_addDoubt_4 ?_
    refine j_icmp_ge (pc := 7) C 42 dX0_addDoubt_7 (by decide) ⟨by omega, by omega⟩ ⟨by omega, by omega⟩ (fun c_7 => ?_) (fun c_7 => absurd c_7 (by omega))
    exact j_vret (pc := 42) C hr dX0_addDoubt_42 (by rfl) (by decide) (by decide)
set_option maxHeartbeats 4000000 in
set_option maxRecDepth 100000 in
theorem kX0_copyDampnessAhead (l : Launch) (D : va_G) (h : Nat → Nat) (c1 c2 c3 : ClassId) (K Dm : Int → Int) (L : Int) (lo hi su db : Int → Int) (S dy li so sp : Int) (tu ah : Int → Int) (M : Int → Int → Int) (hL0 : 0 ≤ L) (hL : L ≤ 12) : cV l yX0_copyDampnessAhead wsX0_copyDampnessAhead ({ frames := 0, cells := 0, slots := 0, locals := 0 }) D (tyS c1 c2 c3) [.ref (h 0)] (wG h c1 c2 K Dm L lo hi su db S dy li so sp tu ah M) (wG h c1 c2 K Dm L lo hi su db S dy li so sp tu (mix Dm ah L) M) 0 0 := by
  refine cV.of (cc := cX0_copyDampnessAhead) (maxL := 2) (by decide) rfl (lv := [(0, .ref (h 0))]) [0] rfl (Nat.le_of_ble_eq_true rfl) ?_
  intro p e s m args below meth c A C hr
  have C : GC p s m args meth c cX0_copyDampnessAhead 2 RX0 wsX0_copyDampnessAhead D (tyS c1 c2 c3) A := C
  have hin : ∀ w ∈ wsX00, w ∈ wsX0_copyDampnessAhead := fun _ h => List.mem_cons_of_mem _ (List.mem_append_right _ h)
  refine j_iconst (pc := 0) C dX0_copyDampnessAhead_0 ?_
  refine j_istore_n (pc := 1) C (lv' := [(0, .ref (h 0)), (1, .int (zI 0))]) dX0_copyDampnessAhead_1 (by decide) [1, 0] rfl ?_
  refine J.cast (ws' := wG h c1 c2 K Dm L lo hi su db S dy li so sp tu (mix Dm ah 0) M) (lv' := [(0, .ref (h 0)), (1, .int (zI 0))]) ?_ (by rw [mix_0]) (by rfl) rfl
  refine j_up (fun i : Int => wG h c1 c2 K Dm L lo hi su db S dy li so sp tu (mix Dm ah i) M) (fun i : Int => [(0, .ref (h 0)), (1, .int (zI i))]) (fun i : Int => True) 0 L (by omega) trivial ?_ ?_
  · intro i h0_2 h1_2 hI_2 hk_2
    try dsimp only at hI_2 hk_2 ⊢
    refine j_iload_n (pc := 2) C dX0_copyDampnessAhead_2 1 rfl ?_
    refine j_aload_n (pc := 3) C dX0_copyDampnessAhead_3 0 rfl ?_
    refine j_get (pc := 4) C (ref := "GrainSilo") (T := TX0) (N := 15) hin 0 rfl rfl 2 (by decide) (C.w 1 rfl) rfl rfl dX0_copyDampnessAhead_4 ?_
    refine j_icmp_ge (pc := 7) C 28 dX0_copyDampnessAhead_7 (by decide) ⟨by omega, by omega⟩ ⟨by omega, by omega⟩ (fun c_7 => absurd c_7 (by omega)) (fun c_7 => ?_)
    refine j_aload_n (pc := 10) C dX0_copyDampnessAhead_10 0 rfl ?_
    refine j_get (pc := 11) C (ref := "GrainSilo") (T := TX0) (N := 15) hin 0 rfl rfl 13 (by decide) (C.w 2 rfl) rfl rfl dX0_copyDampnessAhead_11 ?_
    refine j_iload_n (pc := 14) C dX0_copyDampnessAhead_14 1 rfl ?_
    refine j_aload_n (pc := 15) C dX0_copyDampnessAhead_15 0 rfl ?_
    refine j_get (pc := 16) C (ref := "GrainSilo") (T := TX0) (N := 15) hin 0 rfl rfl 1 (by decide) (C.w 3 rfl) rfl rfl dX0_copyDampnessAhead_16 ?_
    refine j_iload_n (pc := 19) C dX0_copyDampnessAhead_19 1 rfl ?_
    refine j_iald (pc := 20) C 2 0 rfl rfl (by omega) (by omega) (by decide) dX0_copyDampnessAhead_20 ?_
    refine j_iast (pc := 21) C 8 0 rfl rfl (by omega) (by omega) (by decide) (ws' := wG h c1 c2 K Dm L lo hi su db S dy li so sp tu (upZ (mix Dm ah i) i (Dm i)) M) rfl dX0_copyDampnessAhead_21 ?_
    refine j_iinc (pc := 22) C (lv' := [(0, .ref (h 0)), (1, .int (zI (i + 1)))]) dX0_copyDampnessAhead_22 1 rfl (by decide) [1, 0] rfl ?_
    refine j_goto (pc := 25) C 2 dX0_copyDampnessAhead_25 (by decide) ?_
    exact J.cast (hk_2 trivial) (by rw [mix_up _ ah i h0_2]) (by rfl) rfl
  · intro hI_2
    try dsimp only at hI_2 ⊢
    refine j_iload_n (pc := 2) C dX0_copyDampnessAhead_2 1 rfl ?_
    refine j_aload_n (pc := 3) C dX0_copyDampnessAhead_3 0 rfl ?_
    refine j_get (pc := 4) C (ref := "GrainSilo") (T := TX0) (N := 15) hin 0 rfl rfl 2 (by decide) (C.w 1 rfl) rfl rfl dX0_copyDampnessAhead_4 ?_
    refine j_icmp_ge (pc := 7) C 28 dX0_copyDampnessAhead_7 (by decide) ⟨by omega, by omega⟩ ⟨by omega, by omega⟩ (fun c_7 => ?_) (fun c_7 => absurd c_7 (by omega))
    exact j_vret (pc := 28) C hr dX0_copyDampnessAhead_28 (by rfl) (by decide) (by decide)
end
