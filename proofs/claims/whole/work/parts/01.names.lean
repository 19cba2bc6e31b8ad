-- ===== PART A: goes FIRST, ahead of the names: the tables' words, and 'selects' of the private methods out of them =====
/-- a private method of a class that the tables say can be made, by its rows of tables_1 -/
def lw_okq (q : MethodName × Nat) : Prop := (q.1.cls ≠ "java/lang/invoke/MethodHandle" ∧ q.1.cls ≠ "java/lang/invoke/VarHandle") ∧ Cond.instantiable q.1.cls q.2 ∈ tables_1 ∧ Cond.privateMethod q.1 ∈ tables_1 ∧ Cond.instanceMethod q.1 ∈ tables_1
theorem lw_p0 : lw_okq (⟨"SparrowChange$Text", "skipBlanks", "()V"⟩, 6) := ⟨⟨by decide +kernel, by decide +kernel⟩, List.mem_of_getElem? (i := 21) (by decide +kernel), List.mem_of_getElem? (i := 291) (by decide +kernel), List.mem_of_getElem? (i := 292) (by decide +kernel)⟩
theorem lw_p1 : lw_okq (⟨"SparrowChange$Text", "readClause", "(LSparrowChange$Parish;)V"⟩, 6) := ⟨⟨by decide +kernel, by decide +kernel⟩, List.mem_of_getElem? (i := 21) (by decide +kernel), List.mem_of_getElem? (i := 295) (by decide +kernel), List.mem_of_getElem? (i := 296) (by decide +kernel)⟩
theorem lw_p2 : lw_okq (⟨"SparrowChange$Text", "noteFault", "(II)V"⟩, 6) := ⟨⟨by decide +kernel, by decide +kernel⟩, List.mem_of_getElem? (i := 21) (by decide +kernel), List.mem_of_getElem? (i := 302) (by decide +kernel), List.mem_of_getElem? (i := 303) (by decide +kernel)⟩
theorem lw_p3 : lw_okq (⟨"SparrowChange$Text", "readTree", "(LSparrowChange$Parish;)V"⟩, 6) := ⟨⟨by decide +kernel, by decide +kernel⟩, List.mem_of_getElem? (i := 21) (by decide +kernel), List.mem_of_getElem? (i := 306) (by decide +kernel), List.mem_of_getElem? (i := 307) (by decide +kernel)⟩
theorem lw_p4 : lw_okq (⟨"SparrowChange$Text", "readNumber", "(II)I"⟩, 6) := ⟨⟨by decide +kernel, by decide +kernel⟩, List.mem_of_getElem? (i := 21) (by decide +kernel), List.mem_of_getElem? (i := 310) (by decide +kernel), List.mem_of_getElem? (i := 311) (by decide +kernel)⟩
theorem lw_p5 : lw_okq (⟨"SparrowChange$Text", "readEnd", "()V"⟩, 6) := ⟨⟨by decide +kernel, by decide +kernel⟩, List.mem_of_getElem? (i := 21) (by decide +kernel), List.mem_of_getElem? (i := 315) (by decide +kernel), List.mem_of_getElem? (i := 316) (by decide +kernel)⟩
theorem lw_p6 : lw_okq (⟨"SparrowChange$Text", "readPerson", "(LSparrowChange$Parish;)V"⟩, 6) := ⟨⟨by decide +kernel, by decide +kernel⟩, List.mem_of_getElem? (i := 21) (by decide +kernel), List.mem_of_getElem? (i := 323) (by decide +kernel), List.mem_of_getElem? (i := 324) (by decide +kernel)⟩
theorem lw_p7 : lw_okq (⟨"SparrowChange$Text", "readDebt", "(LSparrowChange$Parish;)V"⟩, 6) := ⟨⟨by decide +kernel, by decide +kernel⟩, List.mem_of_getElem? (i := 21) (by decide +kernel), List.mem_of_getElem? (i := 331) (by decide +kernel), List.mem_of_getElem? (i := 332) (by decide +kernel)⟩
theorem lw_p8 : lw_okq (⟨"SparrowChange$Flock", "notePlace", "()V"⟩, 9) := ⟨⟨by decide +kernel, by decide +kernel⟩, List.mem_of_getElem? (i := 114) (by decide +kernel), List.mem_of_getElem? (i := 351) (by decide +kernel), List.mem_of_getElem? (i := 352) (by decide +kernel)⟩
theorem lw_p9 : lw_okq (⟨"SparrowChange", "richest", "()I"⟩, 13) := ⟨⟨by decide +kernel, by decide +kernel⟩, List.mem_of_getElem? (i := 13) (by decide +kernel), List.mem_of_getElem? (i := 385) (by decide +kernel), List.mem_of_getElem? (i := 386) (by decide +kernel)⟩
theorem lw_p10 : lw_okq (⟨"SparrowChange", "rings", "()I"⟩, 13) := ⟨⟨by decide +kernel, by decide +kernel⟩, List.mem_of_getElem? (i := 13) (by decide +kernel), List.mem_of_getElem? (i := 389) (by decide +kernel), List.mem_of_getElem? (i := 390) (by decide +kernel)⟩
theorem lw_p11 : lw_okq (⟨"SparrowChange", "creditorsOf", "(I)I"⟩, 13) := ⟨⟨by decide +kernel, by decide +kernel⟩, List.mem_of_getElem? (i := 13) (by decide +kernel), List.mem_of_getElem? (i := 393) (by decide +kernel), List.mem_of_getElem? (i := 394) (by decide +kernel)⟩
theorem lw_p12 : lw_okq (⟨"SparrowChange", "owedInAll", "()I"⟩, 13) := ⟨⟨by decide +kernel, by decide +kernel⟩, List.mem_of_getElem? (i := 13) (by decide +kernel), List.mem_of_getElem? (i := 400) (by decide +kernel), List.mem_of_getElem? (i := 401) (by decide +kernel)⟩
theorem lw_p13 : lw_okq (⟨"SparrowChange", "suspects", "()I"⟩, 13) := ⟨⟨by decide +kernel, by decide +kernel⟩, List.mem_of_getElem? (i := 13) (by decide +kernel), List.mem_of_getElem? (i := 404) (by decide +kernel), List.mem_of_getElem? (i := 405) (by decide +kernel)⟩
theorem lw_p14 : lw_okq (⟨"SparrowChange", "owedBy", "(I)I"⟩, 13) := ⟨⟨by decide +kernel, by decide +kernel⟩, List.mem_of_getElem? (i := 13) (by decide +kernel), List.mem_of_getElem? (i := 432) (by decide +kernel), List.mem_of_getElem? (i := 433) (by decide +kernel)⟩
theorem lw_p15 : lw_okq (⟨"SparrowChange", "owedTo", "(I)I"⟩, 13) := ⟨⟨by decide +kernel, by decide +kernel⟩, List.mem_of_getElem? (i := 13) (by decide +kernel), List.mem_of_getElem? (i := 436) (by decide +kernel), List.mem_of_getElem? (i := 437) (by decide +kernel)⟩
def lw_privs_1 : List (MethodName × Nat) := [(⟨"SparrowChange$Text", "skipBlanks", "()V"⟩, 6), (⟨"SparrowChange$Text", "readClause", "(LSparrowChange$Parish;)V"⟩, 6), (⟨"SparrowChange$Text", "noteFault", "(II)V"⟩, 6), (⟨"SparrowChange$Text", "readTree", "(LSparrowChange$Parish;)V"⟩, 6), (⟨"SparrowChange$Text", "readNumber", "(II)I"⟩, 6), (⟨"SparrowChange$Text", "readEnd", "()V"⟩, 6), (⟨"SparrowChange$Text", "readPerson", "(LSparrowChange$Parish;)V"⟩, 6), (⟨"SparrowChange$Text", "readDebt", "(LSparrowChange$Parish;)V"⟩, 6), (⟨"SparrowChange$Flock", "notePlace", "()V"⟩, 9), (⟨"SparrowChange", "richest", "()I"⟩, 13), (⟨"SparrowChange", "rings", "()I"⟩, 13), (⟨"SparrowChange", "creditorsOf", "(I)I"⟩, 13), (⟨"SparrowChange", "owedInAll", "()I"⟩, 13), (⟨"SparrowChange", "suspects", "()I"⟩, 13), (⟨"SparrowChange", "owedBy", "(I)I"⟩, 13), (⟨"SparrowChange", "owedTo", "(I)I"⟩, 13)]
theorem lw_r1 : ∀ q ∈ lw_privs_1, lw_okq q := List.forall_mem_cons.mpr ⟨lw_p0, List.forall_mem_cons.mpr ⟨lw_p1, List.forall_mem_cons.mpr ⟨lw_p2, List.forall_mem_cons.mpr ⟨lw_p3, List.forall_mem_cons.mpr ⟨lw_p4, List.forall_mem_cons.mpr ⟨lw_p5, List.forall_mem_cons.mpr ⟨lw_p6, List.forall_mem_cons.mpr ⟨lw_p7, List.forall_mem_cons.mpr ⟨lw_p8, List.forall_mem_cons.mpr ⟨lw_p9, List.forall_mem_cons.mpr ⟨lw_p10, List.forall_mem_cons.mpr ⟨lw_p11, List.forall_mem_cons.mpr ⟨lw_p12, List.forall_mem_cons.mpr ⟨lw_p13, List.forall_mem_cons.mpr ⟨lw_p14, List.forall_mem_cons.mpr ⟨lw_p15, fun _ h => absurd h List.not_mem_nil⟩⟩⟩⟩⟩⟩⟩⟩⟩⟩⟩⟩⟩⟩⟩⟩
theorem lw_p16 : lw_okq (⟨"SparrowChange$Flock", "changeBy", "(II)V"⟩, 9) := ⟨⟨by decide +kernel, by decide +kernel⟩, List.mem_of_getElem? (i := 114) (by decide +kernel), List.mem_of_getElem? (i := 476) (by decide +kernel), List.mem_of_getElem? (i := 477) (by decide +kernel)⟩
theorem lw_p17 : lw_okq (⟨"SparrowChange", "refusalOfHours", "(I)I"⟩, 13) := ⟨⟨by decide +kernel, by decide +kernel⟩, List.mem_of_getElem? (i := 13) (by decide +kernel), List.mem_of_getElem? (i := 516) (by decide +kernel), List.mem_of_getElem? (i := 517) (by decide +kernel)⟩
theorem lw_p18 : lw_okq (⟨"SparrowChange$Flock", "whoDraws", "()I"⟩, 9) := ⟨⟨by decide +kernel, by decide +kernel⟩, List.mem_of_getElem? (i := 114) (by decide +kernel), List.mem_of_getElem? (i := 528) (by decide +kernel), List.mem_of_getElem? (i := 529) (by decide +kernel)⟩
theorem lw_p19 : lw_okq (⟨"SparrowChange$Flock", "goHome", "(LSparrowChange$Parish;)V"⟩, 9) := ⟨⟨by decide +kernel, by decide +kernel⟩, List.mem_of_getElem? (i := 114) (by decide +kernel), List.mem_of_getElem? (i := 536) (by decide +kernel), List.mem_of_getElem? (i := 537) (by decide +kernel)⟩
theorem lw_p20 : lw_okq (⟨"SparrowChange", "doByDraw", "()V"⟩, 13) := ⟨⟨by decide +kernel, by decide +kernel⟩, List.mem_of_getElem? (i := 13) (by decide +kernel), List.mem_of_getElem? (i := 544) (by decide +kernel), List.mem_of_getElem? (i := 545) (by decide +kernel)⟩
theorem lw_p21 : lw_okq (⟨"SparrowChange", "drawOf", "(I)I"⟩, 13) := ⟨⟨by decide +kernel, by decide +kernel⟩, List.mem_of_getElem? (i := 13) (by decide +kernel), List.mem_of_getElem? (i := 548) (by decide +kernel), List.mem_of_getElem? (i := 549) (by decide +kernel)⟩
theorem lw_p22 : lw_okq (⟨"SparrowChange$Settling", "beginSets", "()V"⟩, 2) := ⟨⟨by decide +kernel, by decide +kernel⟩, List.mem_of_getElem? (i := 178) (by decide +kernel), List.mem_of_getElem? (i := 587) (by decide +kernel), List.mem_of_getElem? (i := 588) (by decide +kernel)⟩
theorem lw_p23 : lw_okq (⟨"SparrowChange$Settling", "fillHats", "(LSparrowChange$Parish;LSparrowChange$Flock;I)V"⟩, 2) := ⟨⟨by decide +kernel, by decide +kernel⟩, List.mem_of_getElem? (i := 178) (by decide +kernel), List.mem_of_getElem? (i := 597) (by decide +kernel), List.mem_of_getElem? (i := 598) (by decide +kernel)⟩
theorem lw_p24 : lw_okq (⟨"SparrowChange$Settling", "offer", "(II)V"⟩, 2) := ⟨⟨by decide +kernel, by decide +kernel⟩, List.mem_of_getElem? (i := 178) (by decide +kernel), List.mem_of_getElem? (i := 606) (by decide +kernel), List.mem_of_getElem? (i := 607) (by decide +kernel)⟩
theorem lw_p25 : lw_okq (⟨"SparrowChange", "birdsWithNets", "(II)I"⟩, 13) := ⟨⟨by decide +kernel, by decide +kernel⟩, List.mem_of_getElem? (i := 13) (by decide +kernel), List.mem_of_getElem? (i := 632) (by decide +kernel), List.mem_of_getElem? (i := 633) (by decide +kernel)⟩
theorem lw_p26 : lw_okq (⟨"SparrowChange$Seen", "canReach", "(I)Z"⟩, 8) := ⟨⟨by decide +kernel, by decide +kernel⟩, List.mem_of_getElem? (i := 192) (by decide +kernel), List.mem_of_getElem? (i := 667) (by decide +kernel), List.mem_of_getElem? (i := 668) (by decide +kernel)⟩
theorem lw_p27 : lw_okq (⟨"SparrowChangeModel", "step", "()V"⟩, 26) := ⟨⟨by decide +kernel, by decide +kernel⟩, List.mem_of_getElem? (i := 717) (by decide +kernel), List.mem_of_getElem? (i := 816) (by decide +kernel), List.mem_of_getElem? (i := 817) (by decide +kernel)⟩
theorem lw_p28 : lw_okq (⟨"SparrowChangeModel", "here", "()I"⟩, 26) := ⟨⟨by decide +kernel, by decide +kernel⟩, List.mem_of_getElem? (i := 717) (by decide +kernel), List.mem_of_getElem? (i := 820) (by decide +kernel), List.mem_of_getElem? (i := 821) (by decide +kernel)⟩
theorem lw_p29 : lw_okq (⟨"SparrowChangeModel", "readsClause", "()Z"⟩, 26) := ⟨⟨by decide +kernel, by decide +kernel⟩, List.mem_of_getElem? (i := 717) (by decide +kernel), List.mem_of_getElem? (i := 826) (by decide +kernel), List.mem_of_getElem? (i := 827) (by decide +kernel)⟩
theorem lw_p30 : lw_okq (⟨"SparrowChangeModel", "fails", "(I)Z"⟩, 26) := ⟨⟨by decide +kernel, by decide +kernel⟩, List.mem_of_getElem? (i := 717) (by decide +kernel), List.mem_of_getElem? (i := 830) (by decide +kernel), List.mem_of_getElem? (i := 831) (by decide +kernel)⟩
theorem lw_p31 : lw_okq (⟨"SparrowChangeModel", "number", "(III)Z"⟩, 26) := ⟨⟨by decide +kernel, by decide +kernel⟩, List.mem_of_getElem? (i := 717) (by decide +kernel), List.mem_of_getElem? (i := 834) (by decide +kernel), List.mem_of_getElem? (i := 835) (by decide +kernel)⟩
def lw_privs_2 : List (MethodName × Nat) := [(⟨"SparrowChange$Flock", "changeBy", "(II)V"⟩, 9), (⟨"SparrowChange", "refusalOfHours", "(I)I"⟩, 13), (⟨"SparrowChange$Flock", "whoDraws", "()I"⟩, 9), (⟨"SparrowChange$Flock", "goHome", "(LSparrowChange$Parish;)V"⟩, 9), (⟨"SparrowChange", "doByDraw", "()V"⟩, 13), (⟨"SparrowChange", "drawOf", "(I)I"⟩, 13), (⟨"SparrowChange$Settling", "beginSets", "()V"⟩, 2), (⟨"SparrowChange$Settling", "fillHats", "(LSparrowChange$Parish;LSparrowChange$Flock;I)V"⟩, 2), (⟨"SparrowChange$Settling", "offer", "(II)V"⟩, 2), (⟨"SparrowChange", "birdsWithNets", "(II)I"⟩, 13), (⟨"SparrowChange$Seen", "canReach", "(I)Z"⟩, 8), (⟨"SparrowChangeModel", "step", "()V"⟩, 26), (⟨"SparrowChangeModel", "here", "()I"⟩, 26), (⟨"SparrowChangeModel", "readsClause", "()Z"⟩, 26), (⟨"SparrowChangeModel", "fails", "(I)Z"⟩, 26), (⟨"SparrowChangeModel", "number", "(III)Z"⟩, 26)]
theorem lw_r2 : ∀ q ∈ lw_privs_2, lw_okq q := List.forall_mem_cons.mpr ⟨lw_p16, List.forall_mem_cons.mpr ⟨lw_p17, List.forall_mem_cons.mpr ⟨lw_p18, List.forall_mem_cons.mpr ⟨lw_p19, List.forall_mem_cons.mpr ⟨lw_p20, List.forall_mem_cons.mpr ⟨lw_p21, List.forall_mem_cons.mpr ⟨lw_p22, List.forall_mem_cons.mpr ⟨lw_p23, List.forall_mem_cons.mpr ⟨lw_p24, List.forall_mem_cons.mpr ⟨lw_p25, List.forall_mem_cons.mpr ⟨lw_p26, List.forall_mem_cons.mpr ⟨lw_p27, List.forall_mem_cons.mpr ⟨lw_p28, List.forall_mem_cons.mpr ⟨lw_p29, List.forall_mem_cons.mpr ⟨lw_p30, List.forall_mem_cons.mpr ⟨lw_p31, fun _ h => absurd h List.not_mem_nil⟩⟩⟩⟩⟩⟩⟩⟩⟩⟩⟩⟩⟩⟩⟩⟩
theorem lw_p32 : lw_okq (⟨"SparrowChangeModel", "ends", "()Z"⟩, 26) := ⟨⟨by decide +kernel, by decide +kernel⟩, List.mem_of_getElem? (i := 717) (by decide +kernel), List.mem_of_getElem? (i := 838) (by decide +kernel), List.mem_of_getElem? (i := 839) (by decide +kernel)⟩
theorem lw_p33 : lw_okq (⟨"SparrowChangeModel", "readsPerson", "()Z"⟩, 26) := ⟨⟨by decide +kernel, by decide +kernel⟩, List.mem_of_getElem? (i := 717) (by decide +kernel), List.mem_of_getElem? (i := 842) (by decide +kernel), List.mem_of_getElem? (i := 843) (by decide +kernel)⟩
theorem lw_p34 : lw_okq (⟨"SparrowChangeModel", "readsDebt", "()Z"⟩, 26) := ⟨⟨by decide +kernel, by decide +kernel⟩, List.mem_of_getElem? (i := 717) (by decide +kernel), List.mem_of_getElem? (i := 846) (by decide +kernel), List.mem_of_getElem? (i := 847) (by decide +kernel)⟩
theorem lw_p35 : lw_okq (⟨"SparrowChangeModel", "begins", "()V"⟩, 26) := ⟨⟨by decide +kernel, by decide +kernel⟩, List.mem_of_getElem? (i := 717) (by decide +kernel), List.mem_of_getElem? (i := 853) (by decide +kernel), List.mem_of_getElem? (i := 854) (by decide +kernel)⟩
theorem lw_p36 : lw_okq (⟨"SparrowChangeModel", "hatsOn", "([I)I"⟩, 26) := ⟨⟨by decide +kernel, by decide +kernel⟩, List.mem_of_getElem? (i := 717) (by decide +kernel), List.mem_of_getElem? (i := 865) (by decide +kernel), List.mem_of_getElem? (i := 866) (by decide +kernel)⟩
theorem lw_p37 : lw_okq (⟨"SparrowChangeModel", "rich", "()I"⟩, 26) := ⟨⟨by decide +kernel, by decide +kernel⟩, List.mem_of_getElem? (i := 717) (by decide +kernel), List.mem_of_getElem? (i := 869) (by decide +kernel), List.mem_of_getElem? (i := 870) (by decide +kernel)⟩
theorem lw_p38 : lw_okq (⟨"SparrowChangeModel", "rings", "()I"⟩, 26) := ⟨⟨by decide +kernel, by decide +kernel⟩, List.mem_of_getElem? (i := 717) (by decide +kernel), List.mem_of_getElem? (i := 873) (by decide +kernel), List.mem_of_getElem? (i := 874) (by decide +kernel)⟩
theorem lw_p39 : lw_okq (⟨"SparrowChangeModel", "owes", "(II)I"⟩, 26) := ⟨⟨by decide +kernel, by decide +kernel⟩, List.mem_of_getElem? (i := 717) (by decide +kernel), List.mem_of_getElem? (i := 880) (by decide +kernel), List.mem_of_getElem? (i := 881) (by decide +kernel)⟩
theorem lw_p40 : lw_okq (⟨"SparrowChangeModel", "who", "()I"⟩, 26) := ⟨⟨by decide +kernel, by decide +kernel⟩, List.mem_of_getElem? (i := 717) (by decide +kernel), List.mem_of_getElem? (i := 884) (by decide +kernel), List.mem_of_getElem? (i := 885) (by decide +kernel)⟩
theorem lw_p41 : lw_okq (⟨"SparrowChangeModel", "drawnBy", "(I)I"⟩, 26) := ⟨⟨by decide +kernel, by decide +kernel⟩, List.mem_of_getElem? (i := 717) (by decide +kernel), List.mem_of_getElem? (i := 888) (by decide +kernel), List.mem_of_getElem? (i := 889) (by decide +kernel)⟩
theorem lw_p42 : lw_okq (⟨"SparrowChangeModel", "isPerson", "(I)Z"⟩, 26) := ⟨⟨by decide +kernel, by decide +kernel⟩, List.mem_of_getElem? (i := 717) (by decide +kernel), List.mem_of_getElem? (i := 905) (by decide +kernel), List.mem_of_getElem? (i := 906) (by decide +kernel)⟩
theorem lw_p43 : lw_okq (⟨"SparrowChangeModel", "lossOn", "([II)I"⟩, 26) := ⟨⟨by decide +kernel, by decide +kernel⟩, List.mem_of_getElem? (i := 717) (by decide +kernel), List.mem_of_getElem? (i := 910) (by decide +kernel), List.mem_of_getElem? (i := 911) (by decide +kernel)⟩
theorem lw_p44 : lw_okq (⟨"SparrowChangeModel", "remember", "()V"⟩, 26) := ⟨⟨by decide +kernel, by decide +kernel⟩, List.mem_of_getElem? (i := 717) (by decide +kernel), List.mem_of_getElem? (i := 929) (by decide +kernel), List.mem_of_getElem? (i := 930) (by decide +kernel)⟩
theorem lw_p45 : lw_okq (⟨"SparrowChangeModel", "strews", "(II)V"⟩, 26) := ⟨⟨by decide +kernel, by decide +kernel⟩, List.mem_of_getElem? (i := 717) (by decide +kernel), List.mem_of_getElem? (i := 945) (by decide +kernel), List.mem_of_getElem? (i := 946) (by decide +kernel)⟩
theorem lw_p46 : lw_okq (⟨"SparrowChangeModel", "hawks", "(II)I"⟩, 26) := ⟨⟨by decide +kernel, by decide +kernel⟩, List.mem_of_getElem? (i := 717) (by decide +kernel), List.mem_of_getElem? (i := 958) (by decide +kernel), List.mem_of_getElem? (i := 959) (by decide +kernel)⟩
theorem lw_p47 : lw_okq (⟨"SparrowChangeModel", "refuses", "(I)I"⟩, 26) := ⟨⟨by decide +kernel, by decide +kernel⟩, List.mem_of_getElem? (i := 717) (by decide +kernel), List.mem_of_getElem? (i := 966) (by decide +kernel), List.mem_of_getElem? (i := 967) (by decide +kernel)⟩
def lw_privs_3 : List (MethodName × Nat) := [(⟨"SparrowChangeModel", "ends", "()Z"⟩, 26), (⟨"SparrowChangeModel", "readsPerson", "()Z"⟩, 26), (⟨"SparrowChangeModel", "readsDebt", "()Z"⟩, 26), (⟨"SparrowChangeModel", "begins", "()V"⟩, 26), (⟨"SparrowChangeModel", "hatsOn", "([I)I"⟩, 26), (⟨"SparrowChangeModel", "rich", "()I"⟩, 26), (⟨"SparrowChangeModel", "rings", "()I"⟩, 26), (⟨"SparrowChangeModel", "owes", "(II)I"⟩, 26), (⟨"SparrowChangeModel", "who", "()I"⟩, 26), (⟨"SparrowChangeModel", "drawnBy", "(I)I"⟩, 26), (⟨"SparrowChangeModel", "isPerson", "(I)Z"⟩, 26), (⟨"SparrowChangeModel", "lossOn", "([II)I"⟩, 26), (⟨"SparrowChangeModel", "remember", "()V"⟩, 26), (⟨"SparrowChangeModel", "strews", "(II)V"⟩, 26), (⟨"SparrowChangeModel", "hawks", "(II)I"⟩, 26), (⟨"SparrowChangeModel", "refuses", "(I)I"⟩, 26)]
theorem lw_r3 : ∀ q ∈ lw_privs_3, lw_okq q := List.forall_mem_cons.mpr ⟨lw_p32, List.forall_mem_cons.mpr ⟨lw_p33, List.forall_mem_cons.mpr ⟨lw_p34, List.forall_mem_cons.mpr ⟨lw_p35, List.forall_mem_cons.mpr ⟨lw_p36, List.forall_mem_cons.mpr ⟨lw_p37, List.forall_mem_cons.mpr ⟨lw_p38, List.forall_mem_cons.mpr ⟨lw_p39, List.forall_mem_cons.mpr ⟨lw_p40, List.forall_mem_cons.mpr ⟨lw_p41, List.forall_mem_cons.mpr ⟨lw_p42, List.forall_mem_cons.mpr ⟨lw_p43, List.forall_mem_cons.mpr ⟨lw_p44, List.forall_mem_cons.mpr ⟨lw_p45, List.forall_mem_cons.mpr ⟨lw_p46, List.forall_mem_cons.mpr ⟨lw_p47, fun _ h => absurd h List.not_mem_nil⟩⟩⟩⟩⟩⟩⟩⟩⟩⟩⟩⟩⟩⟩⟩⟩
theorem lw_p48 : lw_okq (⟨"SparrowChangeModel", "hourGoes", "([IZ)V"⟩, 26) := ⟨⟨by decide +kernel, by decide +kernel⟩, List.mem_of_getElem? (i := 717) (by decide +kernel), List.mem_of_getElem? (i := 971) (by decide +kernel), List.mem_of_getElem? (i := 972) (by decide +kernel)⟩
theorem lw_p49 : lw_okq (⟨"SparrowChangeModel", "drawerOn", "([I)I"⟩, 26) := ⟨⟨by decide +kernel, by decide +kernel⟩, List.mem_of_getElem? (i := 717) (by decide +kernel), List.mem_of_getElem? (i := 975) (by decide +kernel), List.mem_of_getElem? (i := 976) (by decide +kernel)⟩
theorem lw_p50 : lw_okq (⟨"SparrowChangeModel", "draws", "()V"⟩, 26) := ⟨⟨by decide +kernel, by decide +kernel⟩, List.mem_of_getElem? (i := 717) (by decide +kernel), List.mem_of_getElem? (i := 983) (by decide +kernel), List.mem_of_getElem? (i := 984) (by decide +kernel)⟩
theorem lw_p51 : lw_okq (⟨"SparrowChangeModel", "draw", "(I)I"⟩, 26) := ⟨⟨by decide +kernel, by decide +kernel⟩, List.mem_of_getElem? (i := 717) (by decide +kernel), List.mem_of_getElem? (i := 987) (by decide +kernel), List.mem_of_getElem? (i := 988) (by decide +kernel)⟩
theorem lw_p52 : lw_okq (⟨"SparrowChangeModel", "layAside", "()V"⟩, 26) := ⟨⟨by decide +kernel, by decide +kernel⟩, List.mem_of_getElem? (i := 717) (by decide +kernel), List.mem_of_getElem? (i := 1004) (by decide +kernel), List.mem_of_getElem? (i := 1005) (by decide +kernel)⟩
theorem lw_p53 : lw_okq (⟨"SparrowChangeModel", "laysDebts", "(II)I"⟩, 26) := ⟨⟨by decide +kernel, by decide +kernel⟩, List.mem_of_getElem? (i := 717) (by decide +kernel), List.mem_of_getElem? (i := 1023) (by decide +kernel), List.mem_of_getElem? (i := 1024) (by decide +kernel)⟩
theorem lw_p54 : lw_okq (⟨"SparrowChangeModel", "isOwed", "(I)Z"⟩, 26) := ⟨⟨by decide +kernel, by decide +kernel⟩, List.mem_of_getElem? (i := 717) (by decide +kernel), List.mem_of_getElem? (i := 1027) (by decide +kernel), List.mem_of_getElem? (i := 1028) (by decide +kernel)⟩
theorem lw_p55 : lw_okq (⟨"SparrowChangeModel", "mayPay", "(IIII)Z"⟩, 26) := ⟨⟨by decide +kernel, by decide +kernel⟩, List.mem_of_getElem? (i := 717) (by decide +kernel), List.mem_of_getElem? (i := 1031) (by decide +kernel), List.mem_of_getElem? (i := 1032) (by decide +kernel)⟩
theorem lw_p56 : lw_okq (⟨"SparrowChangeModel", "isSo", "(I)Z"⟩, 26) := ⟨⟨by decide +kernel, by decide +kernel⟩, List.mem_of_getElem? (i := 717) (by decide +kernel), List.mem_of_getElem? (i := 1066) (by decide +kernel), List.mem_of_getElem? (i := 1067) (by decide +kernel)⟩
def lw_privs_4 : List (MethodName × Nat) := [(⟨"SparrowChangeModel", "hourGoes", "([IZ)V"⟩, 26), (⟨"SparrowChangeModel", "drawerOn", "([I)I"⟩, 26), (⟨"SparrowChangeModel", "draws", "()V"⟩, 26), (⟨"SparrowChangeModel", "draw", "(I)I"⟩, 26), (⟨"SparrowChangeModel", "layAside", "()V"⟩, 26), (⟨"SparrowChangeModel", "laysDebts", "(II)I"⟩, 26), (⟨"SparrowChangeModel", "isOwed", "(I)Z"⟩, 26), (⟨"SparrowChangeModel", "mayPay", "(IIII)Z"⟩, 26), (⟨"SparrowChangeModel", "isSo", "(I)Z"⟩, 26)]
theorem lw_r4 : ∀ q ∈ lw_privs_4, lw_okq q := List.forall_mem_cons.mpr ⟨lw_p48, List.forall_mem_cons.mpr ⟨lw_p49, List.forall_mem_cons.mpr ⟨lw_p50, List.forall_mem_cons.mpr ⟨lw_p51, List.forall_mem_cons.mpr ⟨lw_p52, List.forall_mem_cons.mpr ⟨lw_p53, List.forall_mem_cons.mpr ⟨lw_p54, List.forall_mem_cons.mpr ⟨lw_p55, List.forall_mem_cons.mpr ⟨lw_p56, fun _ h => absurd h List.not_mem_nil⟩⟩⟩⟩⟩⟩⟩⟩⟩
def lw_privs : List (MethodName × Nat) := lw_privs_1 ++ (lw_privs_2 ++ (lw_privs_3 ++ (lw_privs_4)))
def lw_tbl : List Cond := k2_sels lw_privs ++ tables_1
theorem lw_privs_ok : ∀ q ∈ lw_privs, lw_okq q := by
  show ∀ q ∈ lw_privs_1 ++ (lw_privs_2 ++ (lw_privs_3 ++ (lw_privs_4))), lw_okq q
  exact List.forall_mem_append.mpr ⟨lw_r1, List.forall_mem_append.mpr ⟨lw_r2, List.forall_mem_append.mpr ⟨lw_r3, lw_r4⟩⟩⟩

def RX0 : String := "SparrowChange$Flock"
def TX0 : u_T := fun k => match k with
  | 0 => ("SparrowChange$Flock", "tree", "I", false)
  | 1 => ("SparrowChange$Flock", "hours", "I", false)
  | 2 => ("SparrowChange$Flock", "netted", "I", false)
  | 3 => ("SparrowChange$Flock", "ringed", "I", false)
  | 4 => ("SparrowChange$Flock", "placesEver", "I", false)
  | 5 => ("SparrowChange$Flock", "birds", "[I", true)
  | 6 => ("SparrowChange$Flock", "crumbs", "[I", true)
  | 7 => ("SparrowChange$Flock", "owed", "[I", true)
  | _ => ("SparrowChange$Flock", "places", "[I", true)
def tyX0 : Nat → FieldType := fun k => match k with
  | 0 => .int
  | 1 => .int
  | 2 => .int
  | 3 => .int
  | 4 => .int
  | 5 => .array .int
  | 6 => .array .int
  | 7 => .array .int
  | _ => .array .int
abbrev wsX00 : List Cond := u_ws RX0 TX0 9
theorem nmX0 : ∀ a, a < 9 → ∀ b, b < 9 → a ≠ b → (TX0 a).2.1 ≠ (TX0 b).2.1 := by decide +kernel
theorem tyX0_ok : ∀ k, k < 9 → parseFieldDescriptor (TX0 k).2.2.1 = some (tyX0 k) := by decide +kernel
abbrev cX0_init : ByteArray := prog_2_method_1_code
def yX0_init : MethodName := ⟨RX0, "<init>", "()V"⟩
abbrev cX0_begin : ByteArray := prog_2_method_2_code
def yX0_begin : MethodName := ⟨RX0, "begin", "(LSparrowChange$Parish;)V"⟩
abbrev cX0_copyFrom : ByteArray := prog_2_method_3_code
def yX0_copyFrom : MethodName := ⟨RX0, "copyFrom", "(LSparrowChange$Flock;)V"⟩
abbrev cX0_hasNet : ByteArray := prog_2_method_4_code
def yX0_hasNet : MethodName := ⟨RX0, "hasNet", "(I)Z"⟩
abbrev cX0_inAllHats : ByteArray := prog_2_method_5_code
def yX0_inAllHats : MethodName := ⟨RX0, "inAllHats", "()I"⟩
abbrev cX0_notePlace : ByteArray := prog_2_method_6_code
def yX0_notePlace : MethodName := ⟨RX0, "notePlace", "()V"⟩
abbrev cX0_placesKnown : ByteArray := prog_2_method_7_code
def yX0_placesKnown : MethodName := ⟨RX0, "placesKnown", "()I"⟩
abbrev cX0_placeBack : ByteArray := prog_2_method_8_code
def yX0_placeBack : MethodName := ⟨RX0, "placeBack", "(I)I"⟩
abbrev cX0_move : ByteArray := prog_2_method_9_code
def yX0_move : MethodName := ⟨RX0, "move", "(III)V"⟩
abbrev cX0_changeBy : ByteArray := prog_2_method_10_code
def yX0_changeBy : MethodName := ⟨RX0, "changeBy", "(II)V"⟩
abbrev cX0_addCrumbs : ByteArray := prog_2_method_11_code
def yX0_addCrumbs : MethodName := ⟨RX0, "addCrumbs", "(II)V"⟩
abbrev cX0_lessenDebts : ByteArray := prog_2_method_12_code
def yX0_lessenDebts : MethodName := ⟨RX0, "lessenDebts", "(LSparrowChange$Parish;III)I"⟩
abbrev cX0_scare : ByteArray := prog_2_method_13_code
def yX0_scare : MethodName := ⟨RX0, "scare", "(LSparrowChange$Parish;II)I"⟩
abbrev cX0_loss : ByteArray := prog_2_method_14_code
def yX0_loss : MethodName := ⟨RX0, "loss", "(LSparrowChange$Parish;IZ)I"⟩
abbrev cX0_drawnBy : ByteArray := prog_2_method_15_code
def yX0_drawnBy : MethodName := ⟨RX0, "drawnBy", "(LSparrowChange$Parish;I)I"⟩
abbrev cX0_whoDraws : ByteArray := prog_2_method_16_code
def yX0_whoDraws : MethodName := ⟨RX0, "whoDraws", "()I"⟩
abbrev cX0_flyForAnHour : ByteArray := prog_2_method_17_code
def yX0_flyForAnHour : MethodName := ⟨RX0, "flyForAnHour", "(LSparrowChange$Parish;)V"⟩
abbrev cX0_isDusk : ByteArray := prog_2_method_18_code
def yX0_isDusk : MethodName := ⟨RX0, "isDusk", "(LSparrowChange$Parish;)Z"⟩
abbrev cX0_passHour : ByteArray := prog_2_method_19_code
def yX0_passHour : MethodName := ⟨RX0, "passHour", "(LSparrowChange$Parish;)V"⟩
abbrev cX0_goHome : ByteArray := prog_2_method_20_code
def yX0_goHome : MethodName := ⟨RX0, "goHome", "(LSparrowChange$Parish;)V"⟩
def RX1 : String := "SparrowChange$Parish"
def TX1 : u_T := fun k => match k with
  | 0 => ("SparrowChange$Parish", "stands", "Z", false)
  | 1 => ("SparrowChange$Parish", "dusk", "I", false)
  | 2 => ("SparrowChange$Parish", "tree", "I", false)
  | 3 => ("SparrowChange$Parish", "persons", "I", false)
  | 4 => ("SparrowChange$Parish", "debts", "I", false)
  | 5 => ("SparrowChange$Parish", "kind", "[I", true)
  | 6 => ("SparrowChange$Parish", "birds", "[I", true)
  | 7 => ("SparrowChange$Parish", "door", "[I", true)
  | 8 => ("SparrowChange$Parish", "debtor", "[I", true)
  | 9 => ("SparrowChange$Parish", "creditor", "[I", true)
  | _ => ("SparrowChange$Parish", "owed", "[I", true)
def tyX1 : Nat → FieldType := fun k => match k with
  | 0 => .boolean
  | 1 => .int
  | 2 => .int
  | 3 => .int
  | 4 => .int
  | 5 => .array .int
  | 6 => .array .int
  | 7 => .array .int
  | 8 => .array .int
  | 9 => .array .int
  | _ => .array .int
abbrev wsX10 : List Cond := u_ws RX1 TX1 11
theorem nmX1 : ∀ a, a < 11 → ∀ b, b < 11 → a ≠ b → (TX1 a).2.1 ≠ (TX1 b).2.1 := by decide +kernel
theorem tyX1_ok : ∀ k, k < 11 → parseFieldDescriptor (TX1 k).2.2.1 = some (tyX1 k) := by decide +kernel
abbrev cX1_init : ByteArray := prog_3_method_1_code
def yX1_init : MethodName := ⟨RX1, "<init>", "()V"⟩
abbrev cX1_clear : ByteArray := prog_3_method_2_code
def yX1_clear : MethodName := ⟨RX1, "clear", "()V"⟩
abbrev cX1_setTree : ByteArray := prog_3_method_3_code
def yX1_setTree : MethodName := ⟨RX1, "setTree", "(II)V"⟩
abbrev cX1_addPerson : ByteArray := prog_3_method_4_code
def yX1_addPerson : MethodName := ⟨RX1, "addPerson", "(III)V"⟩
abbrev cX1_addDebt : ByteArray := prog_3_method_5_code
def yX1_addDebt : MethodName := ⟨RX1, "addDebt", "(III)V"⟩
abbrev cX1_hasPerson : ByteArray := prog_3_method_6_code
def yX1_hasPerson : MethodName := ⟨RX1, "hasPerson", "(I)Z"⟩
abbrev cX1_hasDebt : ByteArray := prog_3_method_7_code
def yX1_hasDebt : MethodName := ⟨RX1, "hasDebt", "(I)Z"⟩
def RX2 : String := "SparrowChange$Past"
def TX2 : u_T := fun k => match k with
  | 0 => ("SparrowChange$Past", "flocks", "[LSparrowChange$Flock;", true)
  | 1 => ("SparrowChange$Past", "next", "I", false)
  | _ => ("SparrowChange$Past", "size", "I", false)
def tyX2 : Nat → FieldType := fun k => match k with
  | 0 => .array (.object "SparrowChange$Flock")
  | 1 => .int
  | _ => .int
abbrev wsX20 : List Cond := u_ws RX2 TX2 3
theorem nmX2 : ∀ a, a < 3 → ∀ b, b < 3 → a ≠ b → (TX2 a).2.1 ≠ (TX2 b).2.1 := by decide +kernel
theorem tyX2_ok : ∀ k, k < 3 → parseFieldDescriptor (TX2 k).2.2.1 = some (tyX2 k) := by decide +kernel
abbrev cX2_init : ByteArray := prog_4_method_1_code
def yX2_init : MethodName := ⟨RX2, "<init>", "()V"⟩
abbrev cX2_forget : ByteArray := prog_4_method_2_code
def yX2_forget : MethodName := ⟨RX2, "forget", "()V"⟩
abbrev cX2_remember : ByteArray := prog_4_method_3_code
def yX2_remember : MethodName := ⟨RX2, "remember", "(LSparrowChange$Flock;)V"⟩
abbrev cX2_recallInto : ByteArray := prog_4_method_4_code
def yX2_recallInto : MethodName := ⟨RX2, "recallInto", "(LSparrowChange$Flock;)V"⟩
def RX3 : String := "SparrowChange$Seen"
def TX3 : u_T := fun k => match k with
  | 0 => ("SparrowChange$Seen", "watched", "[I", true)
  | 1 => ("SparrowChange$Seen", "doorsOff", "[I", true)
  | 2 => ("SparrowChange$Seen", "wasFelt", "[Z", true)
  | 3 => ("SparrowChange$Seen", "entryPerson", "[I", true)
  | 4 => ("SparrowChange$Seen", "entryBirds", "[I", true)
  | 5 => ("SparrowChange$Seen", "watches", "I", false)
  | 6 => ("SparrowChange$Seen", "feelings", "I", false)
  | _ => ("SparrowChange$Seen", "entries", "I", false)
def tyX3 : Nat → FieldType := fun k => match k with
  | 0 => .array .int
  | 1 => .array .int
  | 2 => .array .boolean
  | 3 => .array .int
  | 4 => .array .int
  | 5 => .int
  | 6 => .int
  | _ => .int
abbrev wsX30 : List Cond := u_ws RX3 TX3 8
theorem nmX3 : ∀ a, a < 8 → ∀ b, b < 8 → a ≠ b → (TX3 a).2.1 ≠ (TX3 b).2.1 := by decide +kernel
theorem tyX3_ok : ∀ k, k < 8 → parseFieldDescriptor (TX3 k).2.2.1 = some (tyX3 k) := by decide +kernel
abbrev cX3_init : ByteArray := prog_5_method_1_code
def yX3_init : MethodName := ⟨RX3, "<init>", "()V"⟩
abbrev cX3_forget : ByteArray := prog_5_method_2_code
def yX3_forget : MethodName := ⟨RX3, "forget", "()V"⟩
abbrev cX3_addWatched : ByteArray := prog_5_method_3_code
def yX3_addWatched : MethodName := ⟨RX3, "addWatched", "(I)I"⟩
abbrev cX3_addFelt : ByteArray := prog_5_method_4_code
def yX3_addFelt : MethodName := ⟨RX3, "addFelt", "(IZ)I"⟩
abbrev cX3_addEntry : ByteArray := prog_5_method_5_code
def yX3_addEntry : MethodName := ⟨RX3, "addEntry", "(II)I"⟩
abbrev cX3_allWatchedAre : ByteArray := prog_5_method_6_code
def yX3_allWatchedAre : MethodName := ⟨RX3, "allWatchedAre", "(I)Z"⟩
abbrev cX3_firstWrong : ByteArray := prog_5_method_7_code
def yX3_firstWrong : MethodName := ⟨RX3, "firstWrong", "(LSparrowChange$Flock;)I"⟩
abbrev cX3_canReach : ByteArray := prog_5_method_8_code
def yX3_canReach : MethodName := ⟨RX3, "canReach", "(I)Z"⟩
abbrev cX3_reachesBelow : ByteArray := prog_5_method_9_code
def yX3_reachesBelow : MethodName := ⟨RX3, "reachesBelow", "(I)I"⟩
abbrev cX3_leastReach : ByteArray := prog_5_method_10_code
def yX3_leastReach : MethodName := ⟨RX3, "leastReach", "()I"⟩
abbrev cX3_greatestReach : ByteArray := prog_5_method_11_code
def yX3_greatestReach : MethodName := ⟨RX3, "greatestReach", "()I"⟩
abbrev cX3_bestDoorToPart : ByteArray := prog_5_method_12_code
def yX3_bestDoorToPart : MethodName := ⟨RX3, "bestDoorToPart", "()I"⟩
def RX4 : String := "SparrowChange$Settling"
def TX4 : u_T := fun k => match k with
  | 0 => ("SparrowChange$Settling", "hats", "[I", true)
  | _ => ("SparrowChange$Settling", "bestBySet", "[I", true)
def tyX4 : Nat → FieldType := fun k => match k with
  | 0 => .array .int
  | _ => .array .int
abbrev wsX40 : List Cond := u_ws RX4 TX4 2
theorem nmX4 : ∀ a, a < 2 → ∀ b, b < 2 → a ≠ b → (TX4 a).2.1 ≠ (TX4 b).2.1 := by decide +kernel
theorem tyX4_ok : ∀ k, k < 2 → parseFieldDescriptor (TX4 k).2.2.1 = some (tyX4 k) := by decide +kernel
abbrev cX4_init : ByteArray := prog_6_method_1_code
def yX4_init : MethodName := ⟨RX4, "<init>", "()V"⟩
abbrev cX4_longestRow : ByteArray := prog_6_method_2_code
def yX4_longestRow : MethodName := ⟨RX4, "longestRow", "(LSparrowChange$Parish;LSparrowChange$Flock;)I"⟩
abbrev cX4_leastFloat : ByteArray := prog_6_method_3_code
def yX4_leastFloat : MethodName := ⟨RX4, "leastFloat", "(LSparrowChange$Parish;LSparrowChange$Flock;I)I"⟩
abbrev cX4_allOpen : ByteArray := prog_6_method_4_code
def yX4_allOpen : MethodName := ⟨RX4, "allOpen", "(LSparrowChange$Parish;LSparrowChange$Flock;)I"⟩
abbrev cX4_beginSets : ByteArray := prog_6_method_5_code
def yX4_beginSets : MethodName := ⟨RX4, "beginSets", "()V"⟩
abbrev cX4_offer : ByteArray := prog_6_method_6_code
def yX4_offer : MethodName := ⟨RX4, "offer", "(II)V"⟩
abbrev cX4_isOpen : ByteArray := prog_6_method_7_code
def yX4_isOpen : MethodName := ⟨RX4, "isOpen", "(LSparrowChange$Flock;II)Z"⟩
abbrev cX4_fillHats : ByteArray := prog_6_method_8_code
def yX4_fillHats : MethodName := ⟨RX4, "fillHats", "(LSparrowChange$Parish;LSparrowChange$Flock;I)V"⟩
def RX5 : String := "SparrowChange$Text"
def TX5 : u_T := fun k => match k with
  | 0 => ("SparrowChange$Text", "letters", "[I", true)
  | 1 => ("SparrowChange$Text", "length", "I", false)
  | 2 => ("SparrowChange$Text", "faultAt", "I", false)
  | 3 => ("SparrowChange$Text", "faultNumber", "I", false)
  | 4 => ("SparrowChange$Text", "at", "I", false)
  | _ => ("SparrowChange$Text", "numberAt", "I", false)
def tyX5 : Nat → FieldType := fun k => match k with
  | 0 => .array .int
  | 1 => .int
  | 2 => .int
  | 3 => .int
  | 4 => .int
  | _ => .int
abbrev wsX50 : List Cond := u_ws RX5 TX5 6
theorem nmX5 : ∀ a, a < 6 → ∀ b, b < 6 → a ≠ b → (TX5 a).2.1 ≠ (TX5 b).2.1 := by decide +kernel
theorem tyX5_ok : ∀ k, k < 6 → parseFieldDescriptor (TX5 k).2.2.1 = some (tyX5 k) := by decide +kernel
abbrev cX5_init : ByteArray := prog_7_method_1_code
def yX5_init : MethodName := ⟨RX5, "<init>", "()V"⟩
abbrev cX5_append : ByteArray := prog_7_method_2_code
def yX5_append : MethodName := ⟨RX5, "append", "(I)I"⟩
abbrev cX5_readInto : ByteArray := prog_7_method_3_code
def yX5_readInto : MethodName := ⟨RX5, "readInto", "(LSparrowChange$Parish;)I"⟩
abbrev cX5_readClause : ByteArray := prog_7_method_4_code
def yX5_readClause : MethodName := ⟨RX5, "readClause", "(LSparrowChange$Parish;)V"⟩
abbrev cX5_faultOfWord : ByteArray := prog_7_method_5_code
def yX5_faultOfWord : MethodName := ⟨RX5, "faultOfWord", "(LSparrowChange$Parish;I)I"⟩
abbrev cX5_readTree : ByteArray := prog_7_method_6_code
def yX5_readTree : MethodName := ⟨RX5, "readTree", "(LSparrowChange$Parish;)V"⟩
abbrev cX5_readPerson : ByteArray := prog_7_method_7_code
def yX5_readPerson : MethodName := ⟨RX5, "readPerson", "(LSparrowChange$Parish;)V"⟩
abbrev cX5_readDebt : ByteArray := prog_7_method_8_code
def yX5_readDebt : MethodName := ⟨RX5, "readDebt", "(LSparrowChange$Parish;)V"⟩
abbrev cX5_readNumber : ByteArray := prog_7_method_9_code
def yX5_readNumber : MethodName := ⟨RX5, "readNumber", "(II)I"⟩
abbrev cX5_readEnd : ByteArray := prog_7_method_10_code
def yX5_readEnd : MethodName := ⟨RX5, "readEnd", "()V"⟩
abbrev cX5_skipBlanks : ByteArray := prog_7_method_11_code
def yX5_skipBlanks : MethodName := ⟨RX5, "skipBlanks", "()V"⟩
abbrev cX5_noteFault : ByteArray := prog_7_method_12_code
def yX5_noteFault : MethodName := ⟨RX5, "noteFault", "(II)V"⟩
def RX6 : String := "SparrowChange"
def TX6 : u_T := fun k => match k with
  | 0 => ("SparrowChange", "text", "LSparrowChange$Text;", true)
  | 1 => ("SparrowChange", "here", "LSparrowChange$Parish;", false)
  | 2 => ("SparrowChange", "draft", "LSparrowChange$Parish;", false)
  | 3 => ("SparrowChange", "now", "LSparrowChange$Flock;", true)
  | 4 => ("SparrowChange", "trial", "LSparrowChange$Flock;", true)
  | 5 => ("SparrowChange", "past", "LSparrowChange$Past;", true)
  | 6 => ("SparrowChange", "images", "[LSparrowChange$Flock;", true)
  | 7 => ("SparrowChange", "imageSeeds", "[I", true)
  | 8 => ("SparrowChange", "imageThere", "[Z", true)
  | 9 => ("SparrowChange", "settling", "LSparrowChange$Settling;", true)
  | 10 => ("SparrowChange", "seen", "LSparrowChange$Seen;", true)
  | 11 => ("SparrowChange", "owedOnward", "[I", true)
  | _ => ("SparrowChange", "theSeed", "I", false)
def tyX6 : Nat → FieldType := fun k => match k with
  | 0 => .object "SparrowChange$Text"
  | 1 => .object "SparrowChange$Parish"
  | 2 => .object "SparrowChange$Parish"
  | 3 => .object "SparrowChange$Flock"
  | 4 => .object "SparrowChange$Flock"
  | 5 => .object "SparrowChange$Past"
  | 6 => .array (.object "SparrowChange$Flock")
  | 7 => .array .int
  | 8 => .array .boolean
  | 9 => .object "SparrowChange$Settling"
  | 10 => .object "SparrowChange$Seen"
  | 11 => .array .int
  | _ => .int
abbrev wsX60 : List Cond := u_ws RX6 TX6 13
theorem nmX6 : ∀ a, a < 13 → ∀ b, b < 13 → a ≠ b → (TX6 a).2.1 ≠ (TX6 b).2.1 := by decide +kernel
theorem tyX6_ok : ∀ k, k < 13 → parseFieldDescriptor (TX6 k).2.2.1 = some (tyX6 k) := by decide +kernel
abbrev cX6_init : ByteArray := prog_1_method_1_code
def yX6_init : MethodName := ⟨RX6, "<init>", "()V"⟩
abbrev cX6_feed : ByteArray := prog_1_method_2_code
def yX6_feed : MethodName := ⟨RX6, "feed", "(I)I"⟩
abbrev cX6_parish : ByteArray := prog_1_method_3_code
def yX6_parish : MethodName := ⟨RX6, "parish", "()I"⟩
abbrev cX6_fault : ByteArray := prog_1_method_4_code
def yX6_fault : MethodName := ⟨RX6, "fault", "()I"⟩
abbrev cX6_told : ByteArray := prog_1_method_5_code
def yX6_told : MethodName := ⟨RX6, "told", "(I)I"⟩
abbrev cX6_person : ByteArray := prog_1_method_6_code
def yX6_person : MethodName := ⟨RX6, "person", "(II)I"⟩
abbrev cX6_debt : ByteArray := prog_1_method_7_code
def yX6_debt : MethodName := ⟨RX6, "debt", "(II)I"⟩
abbrev cX6_trace : ByteArray := prog_1_method_8_code
def yX6_trace : MethodName := ⟨RX6, "trace", "(I)I"⟩
abbrev cX6_count : ByteArray := prog_1_method_9_code
def yX6_count : MethodName := ⟨RX6, "count", "(II)I"⟩
abbrev cX6_pay : ByteArray := prog_1_method_10_code
def yX6_pay : MethodName := ⟨RX6, "pay", "(III)I"⟩
abbrev cX6_strew : ByteArray := prog_1_method_11_code
def yX6_strew : MethodName := ⟨RX6, "strew", "(II)I"⟩
abbrev cX6_net : ByteArray := prog_1_method_12_code
def yX6_net : MethodName := ⟨RX6, "net", "(IZ)I"⟩
abbrev cX6_hawk : ByteArray := prog_1_method_13_code
def yX6_hawk : MethodName := ⟨RX6, "hawk", "(II)I"⟩
abbrev cX6_hour : ByteArray := prog_1_method_14_code
def yX6_hour : MethodName := ⟨RX6, "hour", "(I)I"⟩
abbrev cX6_drift : ByteArray := prog_1_method_15_code
def yX6_drift : MethodName := ⟨RX6, "drift", "(I)I"⟩
abbrev cX6_undo : ByteArray := prog_1_method_16_code
def yX6_undo : MethodName := ⟨RX6, "undo", "()I"⟩
abbrev cX6_hat : ByteArray := prog_1_method_17_code
def yX6_hat : MethodName := ⟨RX6, "hat", "(II)I"⟩
abbrev cX6_most : ByteArray := prog_1_method_18_code
def yX6_most : MethodName := ⟨RX6, "most", "(III)I"⟩
abbrev cX6_kept : ByteArray := prog_1_method_19_code
def yX6_kept : MethodName := ⟨RX6, "kept", "(I)I"⟩
abbrev cX6_settled : ByteArray := prog_1_method_20_code
def yX6_settled : MethodName := ⟨RX6, "settled", "(I)I"⟩
abbrev cX6_toFloat : ByteArray := prog_1_method_21_code
def yX6_toFloat : MethodName := ⟨RX6, "toFloat", "(I)I"⟩
abbrev cX6_nets : ByteArray := prog_1_method_22_code
def yX6_nets : MethodName := ⟨RX6, "nets", "(II)I"⟩
abbrev cX6_calm : ByteArray := prog_1_method_23_code
def yX6_calm : MethodName := ⟨RX6, "calm", "(II)I"⟩
abbrev cX6_watch : ByteArray := prog_1_method_24_code
def yX6_watch : MethodName := ⟨RX6, "watch", "(I)I"⟩
abbrev cX6_feel : ByteArray := prog_1_method_25_code
def yX6_feel : MethodName := ⟨RX6, "feel", "(IIZ)I"⟩
abbrev cX6_reach : ByteArray := prog_1_method_26_code
def yX6_reach : MethodName := ⟨RX6, "reach", "(I)I"⟩
abbrev cX6_write : ByteArray := prog_1_method_27_code
def yX6_write : MethodName := ⟨RX6, "write", "(II)I"⟩
abbrev cX6_tear : ByteArray := prog_1_method_28_code
def yX6_tear : MethodName := ⟨RX6, "tear", "()I"⟩
abbrev cX6_judge : ByteArray := prog_1_method_29_code
def yX6_judge : MethodName := ⟨RX6, "judge", "()I"⟩
abbrev cX6_seed : ByteArray := prog_1_method_30_code
def yX6_seed : MethodName := ⟨RX6, "seed", "(I)I"⟩
abbrev cX6_keep : ByteArray := prog_1_method_31_code
def yX6_keep : MethodName := ⟨RX6, "keep", "(I)I"⟩
abbrev cX6_goBack : ByteArray := prog_1_method_32_code
def yX6_goBack : MethodName := ⟨RX6, "goBack", "(I)I"⟩
abbrev cX6_isOutside : ByteArray := prog_1_method_33_code
def yX6_isOutside : MethodName := ⟨RX6, "isOutside", "(III)Z"⟩
abbrev cX6_has : ByteArray := prog_1_method_34_code
def yX6_has : MethodName := ⟨RX6, "has", "(II)Z"⟩
abbrev cX6_figuresOf : ByteArray := prog_1_method_35_code
def yX6_figuresOf : MethodName := ⟨RX6, "figuresOf", "(I)I"⟩
abbrev cX6_refusalOfHours : ByteArray := prog_1_method_36_code
def yX6_refusalOfHours : MethodName := ⟨RX6, "refusalOfHours", "(I)I"⟩
abbrev cX6_drawOf : ByteArray := prog_1_method_37_code
def yX6_drawOf : MethodName := ⟨RX6, "drawOf", "(I)I"⟩
abbrev cX6_doByDraw : ByteArray := prog_1_method_38_code
def yX6_doByDraw : MethodName := ⟨RX6, "doByDraw", "()V"⟩
abbrev cX6_birdsWithNets : ByteArray := prog_1_method_39_code
def yX6_birdsWithNets : MethodName := ⟨RX6, "birdsWithNets", "(II)I"⟩
abbrev cX6_richest : ByteArray := prog_1_method_40_code
def yX6_richest : MethodName := ⟨RX6, "richest", "()I"⟩
abbrev cX6_rings : ByteArray := prog_1_method_41_code
def yX6_rings : MethodName := ⟨RX6, "rings", "()I"⟩
abbrev cX6_creditorsOf : ByteArray := prog_1_method_42_code
def yX6_creditorsOf : MethodName := ⟨RX6, "creditorsOf", "(I)I"⟩
abbrev cX6_owedBy : ByteArray := prog_1_method_43_code
def yX6_owedBy : MethodName := ⟨RX6, "owedBy", "(I)I"⟩
abbrev cX6_owedTo : ByteArray := prog_1_method_44_code
def yX6_owedTo : MethodName := ⟨RX6, "owedTo", "(I)I"⟩
abbrev cX6_owedInAll : ByteArray := prog_1_method_45_code
def yX6_owedInAll : MethodName := ⟨RX6, "owedInAll", "()I"⟩
abbrev cX6_suspects : ByteArray := prog_1_method_46_code
def yX6_suspects : MethodName := ⟨RX6, "suspects", "()I"⟩
def RX7 : String := "SparrowChangeModel"
def TX7 : u_T := fun k => match k with
  | 0 => ("SparrowChangeModel", "parish", "[I", true)
  | 1 => ("SparrowChangeModel", "read", "[I", true)
  | 2 => ("SparrowChangeModel", "now", "[I", true)
  | 3 => ("SparrowChangeModel", "aside", "[I", true)
  | 4 => ("SparrowChangeModel", "past", "[I", true)
  | 5 => ("SparrowChangeModel", "undos", "I", false)
  | 6 => ("SparrowChangeModel", "images", "[I", true)
  | 7 => ("SparrowChangeModel", "kept", "[Z", true)
  | 8 => ("SparrowChangeModel", "seed", "J", false)
  | 9 => ("SparrowChangeModel", "text", "[I", true)
  | 10 => ("SparrowChangeModel", "size", "I", false)
  | 11 => ("SparrowChangeModel", "fault", "I", false)
  | 12 => ("SparrowChangeModel", "watched", "[I", true)
  | 13 => ("SparrowChangeModel", "watchedMany", "I", false)
  | 14 => ("SparrowChangeModel", "felt", "[I", true)
  | 15 => ("SparrowChangeModel", "feltMany", "I", false)
  | 16 => ("SparrowChangeModel", "book", "[I", true)
  | 17 => ("SparrowChangeModel", "bookMany", "I", false)
  | 18 => ("SparrowChangeModel", "at", "I", false)
  | 19 => ("SparrowChangeModel", "begin", "I", false)
  | 20 => ("SparrowChangeModel", "sign", "I", false)
  | 21 => ("SparrowChangeModel", "figures", "I", false)
  | 22 => ("SparrowChangeModel", "value", "I", false)
  | 23 => ("SparrowChangeModel", "wrong", "I", false)
  | 24 => ("SparrowChangeModel", "loss", "[I", true)
  | _ => ("SparrowChangeModel", "can", "[I", true)
def tyX7 : Nat → FieldType := fun k => match k with
  | 0 => .array .int
  | 1 => .array .int
  | 2 => .array .int
  | 3 => .array .int
  | 4 => .array .int
  | 5 => .int
  | 6 => .array .int
  | 7 => .array .boolean
  | 8 => .long
  | 9 => .array .int
  | 10 => .int
  | 11 => .int
  | 12 => .array .int
  | 13 => .int
  | 14 => .array .int
  | 15 => .int
  | 16 => .array .int
  | 17 => .int
  | 18 => .int
  | 19 => .int
  | 20 => .int
  | 21 => .int
  | 22 => .int
  | 23 => .int
  | 24 => .array .int
  | _ => .array .int
abbrev wsX70 : List Cond := u_ws RX7 TX7 26
theorem nmX7 : ∀ a, a < 26 → ∀ b, b < 26 → a ≠ b → (TX7 a).2.1 ≠ (TX7 b).2.1 := by decide +kernel
theorem tyX7_ok : ∀ k, k < 26 → parseFieldDescriptor (TX7 k).2.2.1 = some (tyX7 k) := by decide +kernel
abbrev cX7_init : ByteArray := prog_9_method_1_code
def yX7_init : MethodName := ⟨RX7, "<init>", "()V"⟩
abbrev cX7_in : ByteArray := prog_9_method_3_code
def yX7_in : MethodName := ⟨RX7, "in", "(JJJ)Z"⟩
abbrev cX7_has : ByteArray := prog_9_method_4_code
def yX7_has : MethodName := ⟨RX7, "has", "(II)Z"⟩
abbrev cX7_bits : ByteArray := prog_9_method_5_code
def yX7_bits : MethodName := ⟨RX7, "bits", "(I)I"⟩
abbrev cX7_lesser : ByteArray := prog_9_method_6_code
def yX7_lesser : MethodName := ⟨RX7, "lesser", "(II)I"⟩
abbrev cX7_greater : ByteArray := prog_9_method_7_code
def yX7_greater : MethodName := ⟨RX7, "greater", "(II)I"⟩
abbrev cX7_copies : ByteArray := prog_9_method_8_code
def yX7_copies : MethodName := ⟨RX7, "copies", "([II[III)V"⟩
abbrev cX7_begins : ByteArray := prog_9_method_9_code
def yX7_begins : MethodName := ⟨RX7, "begins", "()V"⟩
abbrev cX7_feed : ByteArray := prog_9_method_10_code
def yX7_feed : MethodName := ⟨RX7, "feed", "(I)I"⟩
abbrev cX7_here : ByteArray := prog_9_method_11_code
def yX7_here : MethodName := ⟨RX7, "here", "()I"⟩
abbrev cX7_step : ByteArray := prog_9_method_12_code
def yX7_step : MethodName := ⟨RX7, "step", "()V"⟩
abbrev cX7_fails : ByteArray := prog_9_method_13_code
def yX7_fails : MethodName := ⟨RX7, "fails", "(I)Z"⟩
abbrev cX7_number : ByteArray := prog_9_method_14_code
def yX7_number : MethodName := ⟨RX7, "number", "(III)Z"⟩
abbrev cX7_ends : ByteArray := prog_9_method_15_code
def yX7_ends : MethodName := ⟨RX7, "ends", "()Z"⟩
abbrev cX7_readsPerson : ByteArray := prog_9_method_16_code
def yX7_readsPerson : MethodName := ⟨RX7, "readsPerson", "()Z"⟩
abbrev cX7_readsDebt : ByteArray := prog_9_method_17_code
def yX7_readsDebt : MethodName := ⟨RX7, "readsDebt", "()Z"⟩
abbrev cX7_readsClause : ByteArray := prog_9_method_18_code
def yX7_readsClause : MethodName := ⟨RX7, "readsClause", "()Z"⟩
abbrev cX7_parish : ByteArray := prog_9_method_19_code
def yX7_parish : MethodName := ⟨RX7, "parish", "()I"⟩
abbrev cX7_fault : ByteArray := prog_9_method_20_code
def yX7_fault : MethodName := ⟨RX7, "fault", "()I"⟩
abbrev cX7_isPerson : ByteArray := prog_9_method_21_code
def yX7_isPerson : MethodName := ⟨RX7, "isPerson", "(I)Z"⟩
abbrev cX7_plainLoss : ByteArray := prog_9_method_22_code
def yX7_plainLoss : MethodName := ⟨RX7, "plainLoss", "(I)I"⟩
abbrev cX7_lossBy : ByteArray := prog_9_method_23_code
def yX7_lossBy : MethodName := ⟨RX7, "lossBy", "(IIZ)I"⟩
abbrev cX7_lossOn : ByteArray := prog_9_method_24_code
def yX7_lossOn : MethodName := ⟨RX7, "lossOn", "([II)I"⟩
abbrev cX7_drawerOn : ByteArray := prog_9_method_25_code
def yX7_drawerOn : MethodName := ⟨RX7, "drawerOn", "([I)I"⟩
abbrev cX7_flies : ByteArray := prog_9_method_26_code
def yX7_flies : MethodName := ⟨RX7, "flies", "([IIII)V"⟩
abbrev cX7_hourGoes : ByteArray := prog_9_method_27_code
def yX7_hourGoes : MethodName := ⟨RX7, "hourGoes", "([IZ)V"⟩
abbrev cX7_hatsOn : ByteArray := prog_9_method_28_code
def yX7_hatsOn : MethodName := ⟨RX7, "hatsOn", "([I)I"⟩
abbrev cX7_owes : ByteArray := prog_9_method_29_code
def yX7_owes : MethodName := ⟨RX7, "owes", "(II)I"⟩
abbrev cX7_rich : ByteArray := prog_9_method_30_code
def yX7_rich : MethodName := ⟨RX7, "rich", "()I"⟩
abbrev cX7_rings : ByteArray := prog_9_method_31_code
def yX7_rings : MethodName := ⟨RX7, "rings", "()I"⟩
abbrev cX7_drawnBy : ByteArray := prog_9_method_32_code
def yX7_drawnBy : MethodName := ⟨RX7, "drawnBy", "(I)I"⟩
abbrev cX7_who : ByteArray := prog_9_method_33_code
def yX7_who : MethodName := ⟨RX7, "who", "()I"⟩
abbrev cX7_told : ByteArray := prog_9_method_34_code
def yX7_told : MethodName := ⟨RX7, "told", "(I)I"⟩
abbrev cX7_person : ByteArray := prog_9_method_35_code
def yX7_person : MethodName := ⟨RX7, "person", "(II)I"⟩
abbrev cX7_debt : ByteArray := prog_9_method_36_code
def yX7_debt : MethodName := ⟨RX7, "debt", "(II)I"⟩
abbrev cX7_trace : ByteArray := prog_9_method_37_code
def yX7_trace : MethodName := ⟨RX7, "trace", "(I)I"⟩
abbrev cX7_remember : ByteArray := prog_9_method_38_code
def yX7_remember : MethodName := ⟨RX7, "remember", "()V"⟩
abbrev cX7_count : ByteArray := prog_9_method_39_code
def yX7_count : MethodName := ⟨RX7, "count", "(II)I"⟩
abbrev cX7_pay : ByteArray := prog_9_method_40_code
def yX7_pay : MethodName := ⟨RX7, "pay", "(III)I"⟩
abbrev cX7_strews : ByteArray := prog_9_method_41_code
def yX7_strews : MethodName := ⟨RX7, "strews", "(II)V"⟩
abbrev cX7_strew : ByteArray := prog_9_method_42_code
def yX7_strew : MethodName := ⟨RX7, "strew", "(II)I"⟩
abbrev cX7_net : ByteArray := prog_9_method_43_code
def yX7_net : MethodName := ⟨RX7, "net", "(IZ)I"⟩
abbrev cX7_hawks : ByteArray := prog_9_method_44_code
def yX7_hawks : MethodName := ⟨RX7, "hawks", "(II)I"⟩
abbrev cX7_hawk : ByteArray := prog_9_method_45_code
def yX7_hawk : MethodName := ⟨RX7, "hawk", "(II)I"⟩
abbrev cX7_refuses : ByteArray := prog_9_method_46_code
def yX7_refuses : MethodName := ⟨RX7, "refuses", "(I)I"⟩
abbrev cX7_hour : ByteArray := prog_9_method_47_code
def yX7_hour : MethodName := ⟨RX7, "hour", "(I)I"⟩
abbrev cX7_draw : ByteArray := prog_9_method_48_code
def yX7_draw : MethodName := ⟨RX7, "draw", "(I)I"⟩
abbrev cX7_draws : ByteArray := prog_9_method_49_code
def yX7_draws : MethodName := ⟨RX7, "draws", "()V"⟩
abbrev cX7_drift : ByteArray := prog_9_method_50_code
def yX7_drift : MethodName := ⟨RX7, "drift", "(I)I"⟩
abbrev cX7_undo : ByteArray := prog_9_method_51_code
def yX7_undo : MethodName := ⟨RX7, "undo", "()I"⟩
abbrev cX7_layAside : ByteArray := prog_9_method_52_code
def yX7_layAside : MethodName := ⟨RX7, "layAside", "()V"⟩
abbrev cX7_hat : ByteArray := prog_9_method_53_code
def yX7_hat : MethodName := ⟨RX7, "hat", "(II)I"⟩
abbrev cX7_most : ByteArray := prog_9_method_54_code
def yX7_most : MethodName := ⟨RX7, "most", "(III)I"⟩
abbrev cX7_kept : ByteArray := prog_9_method_55_code
def yX7_kept : MethodName := ⟨RX7, "kept", "(I)I"⟩
abbrev cX7_isOwed : ByteArray := prog_9_method_56_code
def yX7_isOwed : MethodName := ⟨RX7, "isOwed", "(I)Z"⟩
abbrev cX7_mayPay : ByteArray := prog_9_method_57_code
def yX7_mayPay : MethodName := ⟨RX7, "mayPay", "(IIII)Z"⟩
abbrev cX7_laysDebts : ByteArray := prog_9_method_58_code
def yX7_laysDebts : MethodName := ⟨RX7, "laysDebts", "(II)I"⟩
abbrev cX7_settled : ByteArray := prog_9_method_59_code
def yX7_settled : MethodName := ⟨RX7, "settled", "(I)I"⟩
abbrev cX7_toFloat : ByteArray := prog_9_method_60_code
def yX7_toFloat : MethodName := ⟨RX7, "toFloat", "(I)I"⟩
abbrev cX7_nets : ByteArray := prog_9_method_61_code
def yX7_nets : MethodName := ⟨RX7, "nets", "(II)I"⟩
abbrev cX7_calm : ByteArray := prog_9_method_62_code
def yX7_calm : MethodName := ⟨RX7, "calm", "(II)I"⟩
abbrev cX7_watch : ByteArray := prog_9_method_63_code
def yX7_watch : MethodName := ⟨RX7, "watch", "(I)I"⟩
abbrev cX7_feel : ByteArray := prog_9_method_64_code
def yX7_feel : MethodName := ⟨RX7, "feel", "(IIZ)I"⟩
abbrev cX7_isSo : ByteArray := prog_9_method_65_code
def yX7_isSo : MethodName := ⟨RX7, "isSo", "(I)Z"⟩
abbrev cX7_reach : ByteArray := prog_9_method_66_code
def yX7_reach : MethodName := ⟨RX7, "reach", "(I)I"⟩
abbrev cX7_write : ByteArray := prog_9_method_67_code
def yX7_write : MethodName := ⟨RX7, "write", "(II)I"⟩
abbrev cX7_tear : ByteArray := prog_9_method_68_code
def yX7_tear : MethodName := ⟨RX7, "tear", "()I"⟩
abbrev cX7_judge : ByteArray := prog_9_method_69_code
def yX7_judge : MethodName := ⟨RX7, "judge", "()I"⟩
abbrev cX7_seed : ByteArray := prog_9_method_70_code
def yX7_seed : MethodName := ⟨RX7, "seed", "(I)I"⟩
abbrev cX7_keep : ByteArray := prog_9_method_71_code
def yX7_keep : MethodName := ⟨RX7, "keep", "(I)I"⟩
abbrev cX7_goBack : ByteArray := prog_9_method_72_code
def yX7_goBack : MethodName := ⟨RX7, "goBack", "(I)I"⟩
def RJ6 : String := "java/lang/Integer"
abbrev cJ6_bitCount_0f7a4 : ByteArray := prog_10_method_49_code
def yJ6_bitCount_0f7a4 : MethodName := ⟨RJ6, "bitCount", "(I)I"⟩
def RJ9 : String := "java/lang/Math"
abbrev cJ9_floorMod_7cf53 : ByteArray := prog_11_method_50_code
def yJ9_floorMod_7cf53 : MethodName := ⟨RJ9, "floorMod", "(II)I"⟩
abbrev cJ9_abs_0f7a4 : ByteArray := prog_11_method_59_code
def yJ9_abs_0f7a4 : MethodName := ⟨RJ9, "abs", "(I)I"⟩
abbrev cJ9_max_7cf53 : ByteArray := prog_11_method_65_code
def yJ9_max_7cf53 : MethodName := ⟨RJ9, "max", "(II)I"⟩
abbrev cJ9_min_7cf53 : ByteArray := prog_11_method_69_code
def yJ9_min_7cf53 : MethodName := ⟨RJ9, "min", "(II)I"⟩
def RJ10 : String := "java/lang/System"
def RL : String := "SparrowChangeLaw"
abbrev cL_law : ByteArray := code
def yL_law : MethodName := ⟨RL, "law", "([I)Z"⟩
abbrev vwCl : List vw_C := [(RX0, TX0, 9), (RX1, TX1, 11), (RX2, TX2, 3), (RX3, TX3, 8), (RX4, TX4, 2), (RX5, TX5, 6), (RX6, TX6, 13), (RX7, TX7, 26)]
theorem inX0 : ∀ w ∈ wsX00, w ∈ lw_tbl := by decide +kernel
theorem inX1 : ∀ w ∈ wsX10, w ∈ lw_tbl := by decide +kernel
theorem inX2 : ∀ w ∈ wsX20, w ∈ lw_tbl := by decide +kernel
theorem inX3 : ∀ w ∈ wsX30, w ∈ lw_tbl := by decide +kernel
theorem inX4 : ∀ w ∈ wsX40, w ∈ lw_tbl := by decide +kernel
theorem inX5 : ∀ w ∈ wsX50, w ∈ lw_tbl := by decide +kernel
theorem inX6 : ∀ w ∈ wsX60, w ∈ lw_tbl := by decide +kernel
theorem inX7 : ∀ w ∈ wsX70, w ∈ lw_tbl := by decide +kernel
