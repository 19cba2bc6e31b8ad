section
-- ===== PART A: goes FIRST, ahead of the names: the tables' words, and 'selects' of the private methods out of them =====
/-- a private method of a class that the tables say can be made, by its rows of tables_1 -/
def lw_okq (q : MethodName × Nat) : Prop := (q.1.cls ≠ "java/lang/invoke/MethodHandle" ∧ q.1.cls ≠ "java/lang/invoke/VarHandle") ∧ Cond.instantiable q.1.cls q.2 ∈ tables_1 ∧ Cond.privateMethod q.1 ∈ tables_1 ∧ Cond.instanceMethod q.1 ∈ tables_1
theorem lw_p0 : lw_okq (⟨"SparrowChange$Text", "skipBlanks", "()V"⟩, 6) := ⟨⟨by decide +kernel, by decide +kernel⟩, List.mem_of_getElem? (i := 21) (by decide +kernel), List.mem_of_getElem? (i := 291) (by decide +kernel), List.mem_of_getElem? (i := 292) (by decide +kernel)⟩
theorem lw_p1 : lw_okq (⟨"SparrowChange$Text", "readClause", "(LSparrowChange$Parish;)V"⟩, 6) := ⟨⟨by decide +kernel, by decide +kernel⟩, List.mem_of_getElem? (i := 21) (by decide +kernel), List.mem_of_getElem? (i := 295) (by decide +kernel), List.mem_of_getElem? (i := 296) (by decide +kernel)⟩
theorem lw_p2 : lw_okq (⟨"SparrowChange$Text", "noteFault", "(II)V"⟩, 6) := ⟨⟨by decide +kernel, by decide +kernel⟩, List.mem_of_getElem? (i := 21) (by decide +kernel), List.mem_of_getElem? (i := 302) (by decide +kernel), List.mem_of_getElem? (i := 303) (by decide +kernel)⟩
theorem lw_p3 : lw_okq (⟨"SparrowChange$Text", "readTree", "(LSparrowChange$Parish;)V"⟩, 6) := ⟨⟨by decide +kernel, by decide +kernel⟩, List.mem_of_getElem? (i := 21) (by decide +kernel), List.mem_of_getElem? (i := 306) (by decide +kernel), List.mem_of_getElem? (i := 307) (by decide +kernel)⟩
theorem lw_p4 : lw_okq (⟨"SparrowChange$Text", "readNumber", "(II)I"⟩, 6) := ⟨⟨by decide +kernel, by decide +kernel⟩, List.mem_of_getElem? (i := 21) (by decide +kernel), List.mem_of_getElem? (i := 310) (by decide +kernel), List.mem_of_getElem? (i := 311) (by decide +kernel)⟩
theorem lw_p5 : lw_okq (⟨"SparrowChange$Text", "readEnd", "()V"⟩, 6) := ⟨⟨by decide +kernel, by decide +kernel⟩, List.mem_of_getElem? (i := 21) (by decide +kernel), List.mem_of_getElem? (i := 315) (by decide +kernel), List.mem_of_getElem? (i := 316) (by decide +kernel)⟩
theorem lw_p6 : lw_okq (⟨"SparrowChange$Text", "readPerson", "(LSparrowChange$Parish;)V"⟩, 6) := ⟨⟨by decide +kernel, by decide +kernel⟩, List.mem_of_getElem? (i := 21) (by decide +kernel), List.mem_of_getElem? (i := 323) (by decide +kernel), List.mem_of_getElem? (i := 324) (by decide +kernel)⟩
theorem lw_p7 : lw_okq (⟨"SparrowChange$Text", "readDebt", "(LSparrowChange$Parish;)V"⟩, 6) := ⟨⟨by decide +kernel, by decide +kernel⟩, List.mem_of_getElem? (i := 21) (by decide +kernel), List.mem_of_getElem? (i := 331) (by decide +kernel), List.mem_of_getElem? (i := 332) (by decide +kernel)⟩
theorem lw_p8 : lw_okq (⟨"SparrowChange$Flock", "notePlace", "()V"⟩, 9) := ⟨⟨by decide +kernel, by decide +kernel⟩, List.mem_of_getElem? (i := 114) (by decide +kernel), List.mem_of_getElem? (i := 351) (by decide +kernel), List.mem_of_getElem? (i := 352) (by decide +kernel)⟩
theorem lw_p9 : lw_okq (⟨"SparrowChange", "richest", "()I"⟩, 13) := ⟨⟨by decide +kernel, by decide +kernel⟩, List.mem_of_getElem? (i := 13) (by decide +kernel), List.mem_of_getElem? (i := 385) (by decide +kernel), List.mem_of_getElem? (i := 386) (by decide +kernel)⟩
theorem lw_p10 : lw_okq (⟨"SparrowChange", "rings", "()I"⟩, 13) := ⟨⟨by decide +kernel, by decide +kernel⟩, List.mem_of_getElem? (i := 13) (by decide +kernel), List.mem_of_getElem? (i := 389) (by decide +kernel), List.mem_of_getElem? (i := 390) (by decide +kernel)⟩
theorem lw_p11 : lw_okq (⟨"SparrowChange", "creditorsOf", "(I)I"⟩, 13) := ⟨⟨by decide +kernel, by decide +kernel⟩, List.mem_of_getElem? (i := 13) (by decide +kernel), List.mem_of_getElem? (i := 393) (by decide +kernel), List.mem_of_getElem? (i := 394) (by decide +kernel)⟩
theorem lw_p12 : lw_okq (⟨"SparrowChange", "owedInAll", "()I"⟩, 13) := ⟨⟨by decide +kernel, by decide +kernel⟩, List.mem_of_getElem? (i := 13) (by decide +kernel), List.mem_of_getElem? (i := 400) (by decide +kernel), List.mem_of_getElem? (i := 401) (by decide +kernel)⟩
theorem lw_p13 : lw_okq (⟨"SparrowChange", "suspects", "()I"⟩, 13) := ⟨⟨by decide +kernel, by decide +kernel⟩, List.mem_of_getElem? (i := 13) (by decide +kernel), List.mem_of_getElem? (i := 404) (by decide +kernel), List.mem_of_getElem? (i := 405) (by decide +kernel)⟩
theorem lw_p14 : lw_okq (⟨"SparrowChange", "owedBy", "(I)I"⟩, 13) := ⟨⟨by decide +kernel, by decide +kernel⟩, List.mem_of_getElem? (i := 13) (by decide +kernel), List.mem_of_getElem? (i := 432) (by decide +kernel), List.mem_of_getElem? (i := 433) (by decide +kernel)⟩
theorem lw_p15 : lw_okq (⟨"SparrowChange", "owedTo", "(I)I"⟩, 13) := ⟨⟨by decide +kernel, by decide +kernel⟩, List.mem_of_getElem? (i := 13) (by decide +kernel), List.mem_of_getElem? (i := 436) (by decide +kernel), List.mem_of_getElem? (i := 437) (by decide +kernel)⟩
def lw_privs_1 : List (MethodName × Nat) := [(⟨"SparrowChange$Text", "skipBlanks", "()V"⟩, 6), (⟨"SparrowChange$Text", "readClause", "(LSparrowChange$Parish;)V"⟩, 6), (⟨"SparrowChange$Text", "noteFault", "(II)V"⟩, 6), (⟨"SparrowChange$Text", "readTree", "(LSparrowChange$Parish;)V"⟩, 6), (⟨"SparrowChange$Text", "readNumber", "(II)I"⟩, 6), (⟨"SparrowChange$Text", "readEnd", "()V"⟩, 6), (⟨"SparrowChange$Text", "readPerson", "(LSparrowChange$Parish;)V"⟩, 6), (⟨"SparrowChange$Text", "readDebt", "(LSparrowChange$Parish;)V"⟩, 6), (⟨"SparrowChange$Flock", "notePlace", "()V"⟩, 9), (⟨"SparrowChange", "richest", "()I"⟩, 13), (⟨"SparrowChange", "rings", "()I"⟩, 13), (⟨"SparrowChange", "creditorsOf", "(I)I"⟩, 13), (⟨"SparrowChange", "owedInAll", "()I"⟩, 13), (⟨"SparrowChange", "suspects", "()I"⟩, 13), (⟨"SparrowChange", "owedBy", "(I)I"⟩, 13), (⟨"SparrowChange", "owedTo", "(I)I"⟩, 13)]
theorem lw_r1 : ∀ q ∈ lw_privs_1, lw_okq q := List.forall_mem_cons.mpr ⟨lw_p0, List.forall_mem_cons.mpr ⟨lw_p1, List.forall_mem_cons.mpr ⟨lw_p2, List.forall_mem_cons.mpr ⟨lw_p3, List.forall_mem_cons.mpr ⟨lw_p4, List.forall_mem_cons.mpr ⟨lw_p5, List.forall_mem_cons.mpr ⟨lw_p6, List.forall_mem_cons.mpr ⟨lw_p7, List.forall_mem_cons.mpr ⟨lw_p8, List.forall_mem_cons.mpr ⟨lw_p9, List.forall_mem_cons.mpr ⟨lw_p10, List.forall_mem_cons.mpr ⟨lw_p11, List.forall_mem_cons.mpr ⟨lw_p12, List.forall_mem_cons.mpr ⟨lw_p13, List.forall_mem_cons.mpr ⟨lw_p14, List.forall_mem_cons.mpr ⟨lw_p15, fun _ h => absurd h List.not_mem_nil⟩⟩⟩⟩⟩⟩⟩⟩⟩⟩⟩⟩⟩⟩⟩⟩
theorem lw_p16 : lw_okq (⟨"SparrowChange$Flock", "changeBy", "(II)V"⟩, 9) := ⟨⟨by decide +kernel, by decide +kernel⟩, List.mem_of_getElem? (i := 114) (by decide +kernel), List.mem_of_getElem? (i := 476) (by decide +kernel), List.mem_of_getElem? (i := 477) (by decide +kernel)⟩
theorem lw_p17 : lw_okq (⟨"SparrowChange", "refusalOfHours", "(I)I"⟩, 13) := ⟨⟨by decide +kernel, by decide +kernel⟩, List.mem_of_getElem? (i := 13) (by decide +kernel), List.mem_of_getElem? (i := 516) (by decide +kernel), List.mem_of_getElem? (i := 517) (by decide +kernel)⟩
theorem lw_p18 : lw_okq (⟨"SparrowChange$Flock", "whoDraws", "()I"⟩, 9) := ⟨⟨by decide +kernel, by decide +kernel⟩, List.mem_of_getElem? (i := 114) (by decide +kernel), List.mem_of_getElem? (i := 528) (by decide +kernel), List.mem_of_getElem? (i := 529) (by decide +kernel)⟩
theorem lw_p19 : lw_okq (⟨"SparrowChange$Flock", "goHome", "(LSparrowChange$Parish;)V"⟩, 9) := ⟨⟨by decide +kernel, by decide +kernel⟩, List.mem_of_getElem? (i := 114) (by decide +kernel), List.mem_of_getElem? (i := 536) (by decide +kernel), List.mem_of_getElem? (i := 537) (by decide +kernel)⟩
theorem lw_p20 : lw_okq (⟨"SparrowChange", "doByDraw", "()V"⟩, 13) := ⟨⟨by decide +kernel, by decide +kernel⟩, List.mem_of_getElem? (i := 13) (by decide +kernel), List.mem_of_getElem? (i := 544) (by decide +kernel), List.mem_of_getElem? (i := 545) (by decide +kernel)⟩
theorem lw_p21 : lw_okq (⟨"SparrowChange", "drawOf", "(I)I"⟩, 13) := ⟨⟨by decide +kernel, by decide +kernel⟩, List.mem_of_getElem? (i := 13) (by decide +kernel), List.mem_of_getElem? (i := 548) (by decide +kernel), List.mem_of_getElem? (i := 549) (by decide +kernel)⟩
theorem lw_p22 : lw_okq (⟨"SparrowChange$Settling", "beginSets", "()V"⟩, 2) := ⟨⟨by decide +kernel, by decide +kernel⟩, List.mem_of_getElem? (i := 178) (by decide +kernel), List.mem_of_getElem? (i := 587) (by decide +kernel), List.mem_of_getElem? (i := 588) (by decide +kernel)⟩
theorem lw_p23 : lw_okq (⟨"SparrowChange$Settling", "fillHats", "(LSparrowChange$Parish;LSparrowChange$Flock;I)V"⟩, 2) := ⟨⟨by decide +kernel, by decide +kernel⟩, List.mem_of_getElem? (i := 178) (by decide +kernel), List.mem_of_getElem? (i := 597) (by decide +kernel), List.mem_of_getElem? (i := 598) (by decide +kernel)⟩
theorem lw_p24 : lw_okq (⟨"SparrowChange$Settling", "offer", "(II)V"⟩, 2) := ⟨⟨by decide +kernel, by decide +kernel⟩, List.mem_of_getElem? (i := 178) (by decide +kernel), List.mem_of_getElem? (i := 606) (by decide +kernel), List.mem_of_getElem? (i := 607) (by decide +kernel)⟩
theorem lw_p25 : lw_okq (⟨"SparrowChange", "birdsWithNets", "(II)I"⟩, 13) := ⟨⟨by decide +kernel, by decide +kernel⟩, List.mem_of_getElem? (i := 13) (by decide +kernel), List.mem_of_getElem? (i := 632) (by decide +kernel), List.mem_of_getElem? (i := 633) (by decide +kernel)⟩
theorem lw_p26 : lw_okq (⟨"SparrowChange$Seen", "canReach", "(I)Z"⟩, 8) := ⟨⟨by decide +kernel, by decide +kernel⟩, List.mem_of_getElem? (i := 192) (by decide +kernel), List.mem_of_getElem? (i := 667) (by decide +kernel), List.mem_of_getElem? (i := 668) (by decide +kernel)⟩
theorem lw_p27 : lw_okq (⟨"SparrowChangeModel", "step", "()V"⟩, 26) := ⟨⟨by decide +kernel, by decide +kernel⟩, List.mem_of_getElem? (i := 717) (by decide +kernel), List.mem_of_getElem? (i := 816) (by decide +kernel), List.mem_of_getElem? (i := 817) (by decide +kernel)⟩
theorem lw_p28 : lw_okq (⟨"SparrowChangeModel", "here", "()I"⟩, 26) := ⟨⟨by decide +kernel, by decide +kernel⟩, List.mem_of_getElem? (i := 717) (by decide +kernel), List.mem_of_getElem? (i := 820) (by decide +kernel), List.mem_of_getElem? (i := 821) (by decide +kernel)⟩
theorem lw_p29 : lw_okq (⟨"SparrowChangeModel", "readsClause", "()Z"⟩, 26) := ⟨⟨by decide +kernel, by decide +kernel⟩, List.mem_of_getElem? (i := 717) (by decide +kernel), List.mem_of_getElem? (i := 826) (by decide +kernel), List.mem_of_getElem? (i := 827) (by decide +kernel)⟩
theorem lw_p30 : lw_okq (⟨"SparrowChangeModel", "fails", "(I)Z"⟩, 26) := ⟨⟨by decide +kernel, by decide +kernel⟩, List.mem_of_getElem? (i := 717) (by decide +kernel), List.mem_of_getElem? (i := 830) (by decide +kernel), List.mem_of_getElem? (i := 831) (by decide +kernel)⟩
theorem lw_p31 : lw_okq (⟨"SparrowChangeModel", "number", "(III)Z"⟩, 26) := ⟨⟨by decide +kernel, by decide +kernel⟩, List.mem_of_getElem? (i := 717) (by decide +kernel), List.mem_of_getElem? (i := 834) (by decide +kernel), List.mem_of_getElem? (i := 835) (by decide +kernel)⟩
def lw_privs_2 : List (MethodName × Nat) := [(⟨"SparrowChange$Flock", "changeBy", "(II)V"⟩, 9), (⟨"SparrowChange", "refusalOfHours", "(I)I"⟩, 13), (⟨"SparrowChange$Flock", "whoDraws", "()I"⟩, 9), (⟨"SparrowChange$Flock", "goHome", "(LSparrowChange$Parish;)V"⟩, 9), (⟨"SparrowChange", "doByDraw", "()V"⟩, 13), (⟨"SparrowChange", "drawOf", "(I)I"⟩, 13), (⟨"SparrowChange$Settling", "beginSets", "()V"⟩, 2), (⟨"SparrowChange$Settling", "fillHats", "(LSparrowChange$Parish;LSparrowChange$Flock;I)V"⟩, 2), (⟨"SparrowChange$Settling", "offer", "(II)V"⟩, 2), (⟨"SparrowChange", "birdsWithNets", "(II)I"⟩, 13), (⟨"SparrowChange$Seen", "canReach", "(I)Z"⟩, 8), (⟨"SparrowChangeModel", "step", "()V"⟩, 26), (⟨"SparrowChangeModel", "here", "()I"⟩, 26), (⟨"SparrowChangeModel", "readsClause", "()Z"⟩, 26), (⟨"SparrowChangeModel", "fails", "(I)Z"⟩, 26), (⟨"SparrowChangeModel", "number", "(III)Z"⟩, 26)]
theorem lw_r2 : ∀ q ∈ lw_privs_2, lw_okq q := List.forall_mem_cons.mpr ⟨lw_p16, List.forall_mem_cons.mpr ⟨lw_p17, List.forall_mem_cons.mpr ⟨lw_p18, List.forall_mem_cons.mpr ⟨lw_p19, List.forall_mem_cons.mpr ⟨lw_p20, List.forall_mem_cons.mpr ⟨lw_p21, List.forall_mem_cons.mpr ⟨lw_p22, List.forall_mem_cons.mpr ⟨lw_p23, List.forall_mem_cons.mpr ⟨lw_p24, List.forall_mem_cons.mpr ⟨lw_p25, List.forall_mem_cons.mpr ⟨lw_p26, List.forall_mem_cons.mpr ⟨lw_p27, List.forall_mem_cons.mpr ⟨lw_p28, List.forall_mem_cons.mpr ⟨lw_p29, List.forall_mem_cons.mpr ⟨lw_p30, List.forall_mem_cons.mpr ⟨lw_p31, fun _ h => absurd h List.not_mem_nil⟩⟩⟩⟩⟩⟩⟩⟩⟩⟩⟩⟩⟩⟩⟩⟩
theorem lw_p32 : lw_okq (⟨"SparrowChangeModel", "ends", "()Z"⟩, 26) := ⟨⟨by decide +kernel, by decide +kernel⟩, List.mem_of_getElem? (i := 717) (by decide +kernel), List.mem_of_getElem? (i := 838) (by decide +kernel), List.mem_of_getElem? (i := 839) (by decide +kernel)⟩
theorem lw_p33 : lw_okq (⟨"SparrowChangeModel", "readsPerson", "()Z"⟩, 26) := ⟨⟨by decide +kernel, by decide +kernel⟩, List.mem_of_getElem? (i := 717) (by decide +kernel), List.mem_of_getElem? (i := 842) (by decide +kernel), List.mem_of_getElem? (i := 843) (by decide +kernel)⟩
theorem lw_p34 : lw_okq (⟨"SparrowChangeModel", "readsDebt", "()Z"⟩, 26) := ⟨⟨by decide +kernel, by decide +kernel⟩, List.mem_of_getElem? (i := 717) (by decide +kernel), List.mem_of_getElem? (i := 846) (by decide +kernel), List.mem_of_getElem? (i := 847) (by decide +kernel)⟩
theorem lw_p35 : lw_okq (⟨"SparrowChangeModel", "begins", "()V"⟩, 26) := ⟨⟨by decide +kernel, by decide +kernel⟩, List.mem_of_getElem? (i := 717) (by decide +kernel), List.mem_of_getElem? (i := 853) (by decide +kernel), List.mem_of_getElem? (i := 854) (by decide +kernel)⟩
theorem lw_p36 : lw_okq (⟨"SparrowChangeModel", "hatsOn", "([I)I"⟩, 26) := ⟨⟨by decide +kernel, by decide +kernel⟩, List.mem_of_getElem? (i := 717) (by decide +kernel), List.mem_of_getElem? (i := 865) (by decide +kernel), List.mem_of_getElem? (i := 866) (by decide +kernel)⟩
theorem lw_p37 : lw_okq (⟨"SparrowChangeModel", "rich", "()I"⟩, 26) := ⟨⟨by decide +kernel, by decide +kernel⟩, List.mem_of_getElem? (i := 717) (by decide +kernel), List.mem_of_getElem? (i := 869) (by decide +kernel), List.mem_of_getElem? (i := 870) (by decide +kernel)⟩
theorem lw_p38 : lw_okq (⟨"SparrowChangeModel", "rings", "()I"⟩, 26) := ⟨⟨by decide +kernel, by decide +kernel⟩, List.mem_of_getElem? (i := 717) (by decide +kernel), List.mem_of_getElem? (i := 873) (by decide +kernel), List.mem_of_getElem? (i := 874) (by decide +kernel)⟩
theorem lw_p39 : lw_okq (⟨"SparrowChangeModel", "owes", "(II)I"⟩, 26) := ⟨⟨by decide +kernel, by decide +kernel⟩, List.mem_of_getElem? (i := 717) (by decide +kernel), List.mem_of_getElem? (i := 880) (by decide +kernel), List.mem_of_getElem? (i := 881) (by decide +kernel)⟩
theorem lw_p40 : lw_okq (⟨"SparrowChangeModel", "who", "()I"⟩, 26) := ⟨⟨by decide +kernel, by decide +kernel⟩, List.mem_of_getElem? (i := 717) (by decide +kernel), List.mem_of_getElem? (i := 884) (by decide +kernel), List.mem_of_getElem? (i := 885) (by decide +kernel)⟩
theorem lw_p41 : lw_okq (⟨"SparrowChangeModel", "drawnBy", "(I)I"⟩, 26) := ⟨⟨by decide +kernel, by decide +kernel⟩, List.mem_of_getElem? (i := 717) (by decide +kernel), List.mem_of_getElem? (i := 888) (by decide +kernel), List.mem_of_getElem? (i := 889) (by decide +kernel)⟩
theorem lw_p42 : lw_okq (⟨"SparrowChangeModel", "isPerson", "(I)Z"⟩, 26) := ⟨⟨by decide +kernel, by decide +kernel⟩, List.mem_of_getElem? (i := 717) (by decide +kernel), List.mem_of_getElem? (i := 905) (by decide +kernel), List.mem_of_getElem? (i := 906) (by decide +kernel)⟩
theorem lw_p43 : lw_okq (⟨"SparrowChangeModel", "lossOn", "([II)I"⟩, 26) := ⟨⟨by decide +kernel, by decide +kernel⟩, List.mem_of_getElem? (i := 717) (by decide +kernel), List.mem_of_getElem? (i := 910) (by decide +kernel), List.mem_of_getElem? (i := 911) (by decide +kernel)⟩
theorem lw_p44 : lw_okq (⟨"SparrowChangeModel", "remember", "()V"⟩, 26) := ⟨⟨by decide +kernel, by decide +kernel⟩, List.mem_of_getElem? (i := 717) (by decide +kernel), List.mem_of_getElem? (i := 929) (by decide +kernel), List.mem_of_getElem? (i := 930) (by decide +kernel)⟩
theorem lw_p45 : lw_okq (⟨"SparrowChangeModel", "strews", "(II)V"⟩, 26) := ⟨⟨by decide +kernel, by decide +kernel⟩, List.mem_of_getElem? (i := 717) (by decide +kernel), List.mem_of_getElem? (i := 945) (by decide +kernel), List.mem_of_getElem? (i := 946) (by decide +kernel)⟩
theorem lw_p46 : lw_okq (⟨"SparrowChangeModel", "hawks", "(II)I"⟩, 26) := ⟨⟨by decide +kernel, by decide +kernel⟩, List.mem_of_getElem? (i := 717) (by decide +kernel), List.mem_of_getElem? (i := 958) (by decide +kernel), List.mem_of_getElem? (i := 959) (by decide +kernel)⟩
theorem lw_p47 : lw_okq (⟨"SparrowChangeModel", "refuses", "(I)I"⟩, 26) := ⟨⟨by decide +kernel, by decide +kernel⟩, List.mem_of_getElem? (i := 717) (by decide +kernel), List.mem_of_getElem? (i := 966) (by decide +kernel), List.mem_of_getElem? (i := 967) (by decide +kernel)⟩
def lw_privs_3 : List (MethodName × Nat) := [(⟨"SparrowChangeModel", "ends", "()Z"⟩, 26), (⟨"SparrowChangeModel", "readsPerson", "()Z"⟩, 26), (⟨"SparrowChangeModel", "readsDebt", "()Z"⟩, 26), (⟨"SparrowChangeModel", "begins", "()V"⟩, 26), (⟨"SparrowChangeModel", "hatsOn", "([I)I"⟩, 26), (⟨"SparrowChangeModel", "rich", "()I"⟩, 26), (⟨"SparrowChangeModel", "rings", "()I"⟩, 26), (⟨"SparrowChangeModel", "owes", "(II)I"⟩, 26), (⟨"SparrowChangeModel", "who", "()I"⟩, 26), (⟨"SparrowChangeModel", "drawnBy", "(I)I"⟩, 26), (⟨"SparrowChangeModel", "isPerson", "(I)Z"⟩, 26), (⟨"SparrowChangeModel", "lossOn", "([II)I"⟩, 26), (⟨"SparrowChangeModel", "remember", "()V"⟩, 26), (⟨"SparrowChangeModel", "strews", "(II)V"⟩, 26), (⟨"SparrowChangeModel", "hawks", "(II)I"⟩, 26), (⟨"SparrowChangeModel", "refuses", "(I)I"⟩, 26)]
theorem lw_r3 : ∀ q ∈ lw_privs_3, lw_okq q := List.forall_mem_cons.mpr ⟨lw_p32, List.forall_mem_cons.mpr ⟨lw_p33, List.forall_mem_cons.mpr ⟨lw_p34, List.forall_mem_cons.mpr ⟨lw_p35, List.forall_mem_cons.mpr ⟨lw_p36, List.forall_mem_cons.mpr ⟨lw_p37, List.forall_mem_cons.mpr ⟨lw_p38, List.forall_mem_cons.mpr ⟨lw_p39, List.forall_mem_cons.mpr ⟨lw_p40, List.forall_mem_cons.mpr ⟨lw_p41, List.forall_mem_cons.mpr ⟨lw_p42, List.forall_mem_cons.mpr ⟨lw_p43, List.forall_mem_cons.mpr ⟨lw_p44, List.forall_mem_cons.mpr ⟨lw_p45, List.forall_mem_cons.mpr ⟨lw_p46, List.forall_mem_cons.mpr ⟨lw_p47, fun _ h => absurd h List.not_mem_nil⟩⟩⟩⟩⟩⟩⟩⟩⟩⟩⟩⟩⟩⟩⟩⟩
theorem lw_p48 : lw_okq (⟨"SparrowChangeModel", "hourGoes", "([IZ)V"⟩, 26) := ⟨⟨by decide +kernel, by decide +kernel⟩, List.mem_of_getElem? (i := 717) (by decide +kernel), List.mem_of_getElem? (i := 971) (by decide +kernel), List.mem_of_getElem? (i := 972) (by decide +kernel)⟩
theorem lw_p49 : lw_okq (⟨"SparrowChangeModel", "drawerOn", "([I)I"⟩, 26) := ⟨⟨by decide +kernel, by decide +kernel⟩, List.mem_of_getElem? (i := 717) (by decide +kernel), List.mem_of_getElem? (i := 975) (by decide +kernel), List.mem_of_getElem? (i := 976) (by decide +kernel)⟩
theorem lw_p50 : lw_okq (⟨"SparrowChangeModel", "draws", "()V"⟩, 26) := ⟨⟨by decide +kernel, by decide +kernel⟩, List.mem_of_getElem? (i := 717) (by decide +kernel), List.mem_of_getElem? (i := 983) (by decide +kernel), List.mem_of_getElem? (i := 984) (by decide +kernel)⟩
theorem lw_p51 : lw_okq (⟨"SparrowChangeModel", "draw", "(I)I"⟩, 26) := ⟨⟨by decide +kernel, by decide +kernel⟩, List.mem_of_getElem? (i := 717) (by decide +kernel), List.mem_of_getElem? (i := 987) (by decide +kernel), List.mem_of_getElem? (i := 988) (by decide +kernel)⟩
theorem lw_p52 : lw_okq (⟨"SparrowChangeModel", "layAside", "()V"⟩, 26) := ⟨⟨by decide +kernel, by decide +kernel⟩, List.mem_of_getElem? (i := 717) (by decide +kernel), List.mem_of_getElem? (i := 1004) (by decide +kernel), List.mem_of_getElem? (i := 1005) (by decide +kernel)⟩
theorem lw_p53 : lw_okq (⟨"SparrowChangeModel", "laysDebts", "(II)I"⟩, 26) := ⟨⟨by decide +kernel, by decide +kernel⟩, List.mem_of_getElem? (i := 717) (by decide +kernel), List.mem_of_getElem? (i := 1023) (by decide +kernel), List.mem_of_getElem? (i := 1024) (by decide +kernel)⟩
theorem lw_p54 : lw_okq (⟨"SparrowChangeModel", "isOwed", "(I)Z"⟩, 26) := ⟨⟨by decide +kernel, by decide +kernel⟩, List.mem_of_getElem? (i := 717) (by decide +kernel), List.mem_of_getElem? (i := 1027) (by decide +kernel), List.mem_of_getElem? (i := 1028) (by decide +kernel)⟩
theorem lw_p55 : lw_okq (⟨"SparrowChangeModel", "mayPay", "(IIII)Z"⟩, 26) := ⟨⟨by decide +kernel, by decide +kernel⟩, List.mem_of_getElem? (i := 717) (by decide +kernel), List.mem_of_getElem? (i := 1031) (by decide +kernel), List.mem_of_getElem? (i := 1032) (by decide +kernel)⟩
theorem lw_p56 : lw_okq (⟨"SparrowChangeModel", "isSo", "(I)Z"⟩, 26) := ⟨⟨by decide +kernel, by decide +kernel⟩, List.mem_of_getElem? (i := 717) (by decide +kernel), List.mem_of_getElem? (i := 1066) (by decide +kernel), List.mem_of_getElem? (i := 1067) (by decide +kernel)⟩
def lw_privs_4 : List (MethodName × Nat) := [(⟨"SparrowChangeModel", "hourGoes", "([IZ)V"⟩, 26), (⟨"SparrowChangeModel", "drawerOn", "([I)I"⟩, 26), (⟨"SparrowChangeModel", "draws", "()V"⟩, 26), (⟨"SparrowChangeModel", "draw", "(I)I"⟩, 26), (⟨"SparrowChangeModel", "layAside", "()V"⟩, 26), (⟨"SparrowChangeModel", "laysDebts", "(II)I"⟩, 26), (⟨"SparrowChangeModel", "isOwed", "(I)Z"⟩, 26), (⟨"SparrowChangeModel", "mayPay", "(IIII)Z"⟩, 26), (⟨"SparrowChangeModel", "isSo", "(I)Z"⟩, 26)]
theorem lw_r4 : ∀ q ∈ lw_privs_4, lw_okq q := List.forall_mem_cons.mpr ⟨lw_p48, List.forall_mem_cons.mpr ⟨lw_p49, List.forall_mem_cons.mpr ⟨lw_p50, List.forall_mem_cons.mpr ⟨lw_p51, List.forall_mem_cons.mpr ⟨lw_p52, List.forall_mem_cons.mpr ⟨lw_p53, List.forall_mem_cons.mpr ⟨lw_p54, List.forall_mem_cons.mpr ⟨lw_p55, List.forall_mem_cons.mpr ⟨lw_p56, fun _ h => absurd h List.not_mem_nil⟩⟩⟩⟩⟩⟩⟩⟩⟩
def lw_privs : List (MethodName × Nat) := lw_privs_1 ++ (lw_privs_2 ++ (lw_privs_3 ++ (lw_privs_4)))
def lw_tbl : List Cond := k2_sels lw_privs ++ tables_1
theorem lw_privs_ok : ∀ q ∈ lw_privs, lw_okq q := by
  show ∀ q ∈ lw_privs_1 ++ (lw_privs_2 ++ (lw_privs_3 ++ (lw_privs_4))), lw_okq q
  exact List.forall_mem_append.mpr ⟨lw_r1, List.forall_mem_append.mpr ⟨lw_r2, List.forall_mem_append.mpr ⟨lw_r3, lw_r4⟩⟩⟩

def RX0 : String := "SparrowChange$Flock"
def TX0 : u_T := fun k => match k with
  | 0 => ("SparrowChange$Flock", "tree", "I", false)
  | 1 => ("SparrowChange$Flock", "hours", "I", false)
  | 2 => ("SparrowChange$Flock", "netted", "I", false)
  | 3 => ("SparrowChange$Flock", "ringed", "I", false)
  | 4 => ("SparrowChange$Flock", "placesEver", "I", false)
  | 5 => ("SparrowChange$Flock", "birds", "[I", true)
  | 6 => ("SparrowChange$Flock", "crumbs", "[I", true)
  | 7 => ("SparrowChange$Flock", "owed", "[I", true)
  | _ => ("SparrowChange$Flock", "places", "[I", true)
def tyX0 : Nat → FieldType := fun k => match k with
  | 0 => .int
  | 1 => .int
  | 2 => .int
  | 3 => .int
  | 4 => .int
  | 5 => .array .int
  | 6 => .array .int
  | 7 => .array .int
  | _ => .array .int
abbrev wsX00 : List Cond := u_ws RX0 TX0 9
theorem nmX0 : ∀ a, a < 9 → ∀ b, b < 9 → a ≠ b → (TX0 a).2.1 ≠ (TX0 b).2.1 := by decide +kernel
theorem tyX0_ok : ∀ k, k < 9 → parseFieldDescriptor (TX0 k).2.2.1 = some (tyX0 k) := by decide +kernel
abbrev cX0_init : ByteArray := prog_2_method_1_code
def yX0_init : MethodName := ⟨RX0, "<init>", "()V"⟩
abbrev cX0_begin : ByteArray := prog_2_method_2_code
def yX0_begin : MethodName := ⟨RX0, "begin", "(LSparrowChange$Parish;)V"⟩
abbrev cX0_copyFrom : ByteArray := prog_2_method_3_code
def yX0_copyFrom : MethodName := ⟨RX0, "copyFrom", "(LSparrowChange$Flock;)V"⟩
abbrev cX0_hasNet : ByteArray := prog_2_method_4_code
def yX0_hasNet : MethodName := ⟨RX0, "hasNet", "(I)Z"⟩
abbrev cX0_inAllHats : ByteArray := prog_2_method_5_code
def yX0_inAllHats : MethodName := ⟨RX0, "inAllHats", "()I"⟩
abbrev cX0_notePlace : ByteArray := prog_2_method_6_code
def yX0_notePlace : MethodName := ⟨RX0, "notePlace", "()V"⟩
abbrev cX0_placesKnown : ByteArray := prog_2_method_7_code
def yX0_placesKnown : MethodName := ⟨RX0, "placesKnown", "()I"⟩
abbrev cX0_placeBack : ByteArray := prog_2_method_8_code
def yX0_placeBack : MethodName := ⟨RX0, "placeBack", "(I)I"⟩
abbrev cX0_move : ByteArray := prog_2_method_9_code
def yX0_move : MethodName := ⟨RX0, "move", "(III)V"⟩
abbrev cX0_changeBy : ByteArray := prog_2_method_10_code
def yX0_changeBy : MethodName := ⟨RX0, "changeBy", "(II)V"⟩
abbrev cX0_addCrumbs : ByteArray := prog_2_method_11_code
def yX0_addCrumbs : MethodName := ⟨RX0, "addCrumbs", "(II)V"⟩
abbrev cX0_lessenDebts : ByteArray := prog_2_method_12_code
def yX0_lessenDebts : MethodName := ⟨RX0, "lessenDebts", "(LSparrowChange$Parish;III)I"⟩
abbrev cX0_scare : ByteArray := prog_2_method_13_code
def yX0_scare : MethodName := ⟨RX0, "scare", "(LSparrowChange$Parish;II)I"⟩
abbrev cX0_loss : ByteArray := prog_2_method_14_code
def yX0_loss : MethodName := ⟨RX0, "loss", "(LSparrowChange$Parish;IZ)I"⟩
abbrev cX0_drawnBy : ByteArray := prog_2_method_15_code
def yX0_drawnBy : MethodName := ⟨RX0, "drawnBy", "(LSparrowChange$Parish;I)I"⟩
abbrev cX0_whoDraws : ByteArray := prog_2_method_16_code
def yX0_whoDraws : MethodName := ⟨RX0, "whoDraws", "()I"⟩
abbrev cX0_flyForAnHour : ByteArray := prog_2_method_17_code
def yX0_flyForAnHour : MethodName := ⟨RX0, "flyForAnHour", "(LSparrowChange$Parish;)V"⟩
abbrev cX0_isDusk : ByteArray := prog_2_method_18_code
def yX0_isDusk : MethodName := ⟨RX0, "isDusk", "(LSparrowChange$Parish;)Z"⟩
abbrev cX0_passHour : ByteArray := prog_2_method_19_code
def yX0_passHour : MethodName := ⟨RX0, "passHour", "(LSparrowChange$Parish;)V"⟩
abbrev cX0_goHome : ByteArray := prog_2_method_20_code
def yX0_goHome : MethodName := ⟨RX0, "goHome", "(LSparrowChange$Parish;)V"⟩
def RX1 : String := "SparrowChange$Parish"
def TX1 : u_T := fun k => match k with
  | 0 => ("SparrowChange$Parish", "stands", "Z", false)
  | 1 => ("SparrowChange$Parish", "dusk", "I", false)
  | 2 => ("SparrowChange$Parish", "tree", "I", false)
  | 3 => ("SparrowChange$Parish", "persons", "I", false)
  | 4 => ("SparrowChange$Parish", "debts", "I", false)
  | 5 => ("SparrowChange$Parish", "kind", "[I", true)
  | 6 => ("SparrowChange$Parish", "birds", "[I", true)
  | 7 => ("SparrowChange$Parish", "door", "[I", true)
  | 8 => ("SparrowChange$Parish", "debtor", "[I", true)
  | 9 => ("SparrowChange$Parish", "creditor", "[I", true)
  | _ => ("SparrowChange$Parish", "owed", "[I", true)
def tyX1 : Nat → FieldType := fun k => match k with
  | 0 => .boolean
  | 1 => .int
  | 2 => .int
  | 3 => .int
  | 4 => .int
  | 5 => .array .int
  | 6 => .array .int
  | 7 => .array .int
  | 8 => .array .int
  | 9 => .array .int
  | _ => .array .int
abbrev wsX10 : List Cond := u_ws RX1 TX1 11
theorem nmX1 : ∀ a, a < 11 → ∀ b, b < 11 → a ≠ b → (TX1 a).2.1 ≠ (TX1 b).2.1 := by decide +kernel
theorem tyX1_ok : ∀ k, k < 11 → parseFieldDescriptor (TX1 k).2.2.1 = some (tyX1 k) := by decide +kernel
abbrev cX1_init : ByteArray := prog_3_method_1_code
def yX1_init : MethodName := ⟨RX1, "<init>", "()V"⟩
abbrev cX1_clear : ByteArray := prog_3_method_2_code
def yX1_clear : MethodName := ⟨RX1, "clear", "()V"⟩
abbrev cX1_setTree : ByteArray := prog_3_method_3_code
def yX1_setTree : MethodName := ⟨RX1, "setTree", "(II)V"⟩
abbrev cX1_addPerson : ByteArray := prog_3_method_4_code
def yX1_addPerson : MethodName := ⟨RX1, "addPerson", "(III)V"⟩
abbrev cX1_addDebt : ByteArray := prog_3_method_5_code
def yX1_addDebt : MethodName := ⟨RX1, "addDebt", "(III)V"⟩
abbrev cX1_hasPerson : ByteArray := prog_3_method_6_code
def yX1_hasPerson : MethodName := ⟨RX1, "hasPerson", "(I)Z"⟩
abbrev cX1_hasDebt : ByteArray := prog_3_method_7_code
def yX1_hasDebt : MethodName := ⟨RX1, "hasDebt", "(I)Z"⟩
def RX2 : String := "SparrowChange$Past"
def TX2 : u_T := fun k => match k with
  | 0 => ("SparrowChange$Past", "flocks", "[LSparrowChange$Flock;", true)
  | 1 => ("SparrowChange$Past", "next", "I", false)
  | _ => ("SparrowChange$Past", "size", "I", false)
def tyX2 : Nat → FieldType := fun k => match k with
  | 0 => .array (.object "SparrowChange$Flock")
  | 1 => .int
  | _ => .int
abbrev wsX20 : List Cond := u_ws RX2 TX2 3
theorem nmX2 : ∀ a, a < 3 → ∀ b, b < 3 → a ≠ b → (TX2 a).2.1 ≠ (TX2 b).2.1 := by decide +kernel
theorem tyX2_ok : ∀ k, k < 3 → parseFieldDescriptor (TX2 k).2.2.1 = some (tyX2 k) := by decide +kernel
abbrev cX2_init : ByteArray := prog_4_method_1_code
def yX2_init : MethodName := ⟨RX2, "<init>", "()V"⟩
abbrev cX2_forget : ByteArray := prog_4_method_2_code
def yX2_forget : MethodName := ⟨RX2, "forget", "()V"⟩
abbrev cX2_remember : ByteArray := prog_4_method_3_code
def yX2_remember : MethodName := ⟨RX2, "remember", "(LSparrowChange$Flock;)V"⟩
abbrev cX2_recallInto : ByteArray := prog_4_method_4_code
def yX2_recallInto : MethodName := ⟨RX2, "recallInto", "(LSparrowChange$Flock;)V"⟩
def RX3 : String := "SparrowChange$Seen"
def TX3 : u_T := fun k => match k with
  | 0 => ("SparrowChange$Seen", "watched", "[I", true)
  | 1 => ("SparrowChange$Seen", "doorsOff", "[I", true)
  | 2 => ("SparrowChange$Seen", "wasFelt", "[Z", true)
  | 3 => ("SparrowChange$Seen", "entryPerson", "[I", true)
  | 4 => ("SparrowChange$Seen", "entryBirds", "[I", true)
  | 5 => ("SparrowChange$Seen", "watches", "I", false)
  | 6 => ("SparrowChange$Seen", "feelings", "I", false)
  | _ => ("SparrowChange$Seen", "entries", "I", false)
def tyX3 : Nat → FieldType := fun k => match k with
  | 0 => .array .int
  | 1 => .array .int
  | 2 => .array .boolean
  | 3 => .array .int
  | 4 => .array .int
  | 5 => .int
  | 6 => .int
  | _ => .int
abbrev wsX30 : List Cond := u_ws RX3 TX3 8
theorem nmX3 : ∀ a, a < 8 → ∀ b, b < 8 → a ≠ b → (TX3 a).2.1 ≠ (TX3 b).2.1 := by decide +kernel
theorem tyX3_ok : ∀ k, k < 8 → parseFieldDescriptor (TX3 k).2.2.1 = some (tyX3 k) := by decide +kernel
abbrev cX3_init : ByteArray := prog_5_method_1_code
def yX3_init : MethodName := ⟨RX3, "<init>", "()V"⟩
abbrev cX3_forget : ByteArray := prog_5_method_2_code
def yX3_forget : MethodName := ⟨RX3, "forget", "()V"⟩
abbrev cX3_addWatched : ByteArray := prog_5_method_3_code
def yX3_addWatched : MethodName := ⟨RX3, "addWatched", "(I)I"⟩
abbrev cX3_addFelt : ByteArray := prog_5_method_4_code
def yX3_addFelt : MethodName := ⟨RX3, "addFelt", "(IZ)I"⟩
abbrev cX3_addEntry : ByteArray := prog_5_method_5_code
def yX3_addEntry : MethodName := ⟨RX3, "addEntry", "(II)I"⟩
abbrev cX3_allWatchedAre : ByteArray := prog_5_method_6_code
def yX3_allWatchedAre : MethodName := ⟨RX3, "allWatchedAre", "(I)Z"⟩
abbrev cX3_firstWrong : ByteArray := prog_5_method_7_code
def yX3_firstWrong : MethodName := ⟨RX3, "firstWrong", "(LSparrowChange$Flock;)I"⟩
abbrev cX3_canReach : ByteArray := prog_5_method_8_code
def yX3_canReach : MethodName := ⟨RX3, "canReach", "(I)Z"⟩
abbrev cX3_reachesBelow : ByteArray := prog_5_method_9_code
def yX3_reachesBelow : MethodName := ⟨RX3, "reachesBelow", "(I)I"⟩
abbrev cX3_leastReach : ByteArray := prog_5_method_10_code
def yX3_leastReach : MethodName := ⟨RX3, "leastReach", "()I"⟩
abbrev cX3_greatestReach : ByteArray := prog_5_method_11_code
def yX3_greatestReach : MethodName := ⟨RX3, "greatestReach", "()I"⟩
abbrev cX3_bestDoorToPart : ByteArray := prog_5_method_12_code
def yX3_bestDoorToPart : MethodName := ⟨RX3, "bestDoorToPart", "()I"⟩
def RX4 : String := "SparrowChange$Settling"
def TX4 : u_T := fun k => match k with
  | 0 => ("SparrowChange$Settling", "hats", "[I", true)
  | _ => ("SparrowChange$Settling", "bestBySet", "[I", true)
def tyX4 : Nat → FieldType := fun k => match k with
  | 0 => .array .int
  | _ => .array .int
abbrev wsX40 : List Cond := u_ws RX4 TX4 2
theorem nmX4 : ∀ a, a < 2 → ∀ b, b < 2 → a ≠ b → (TX4 a).2.1 ≠ (TX4 b).2.1 := by decide +kernel
theorem tyX4_ok : ∀ k, k < 2 → parseFieldDescriptor (TX4 k).2.2.1 = some (tyX4 k) := by decide +kernel
abbrev cX4_init : ByteArray := prog_6_method_1_code
def yX4_init : MethodName := ⟨RX4, "<init>", "()V"⟩
abbrev cX4_longestRow : ByteArray := prog_6_method_2_code
def yX4_longestRow : MethodName := ⟨RX4, "longestRow", "(LSparrowChange$Parish;LSparrowChange$Flock;)I"⟩
abbrev cX4_leastFloat : ByteArray := prog_6_method_3_code
def yX4_leastFloat : MethodName := ⟨RX4, "leastFloat", "(LSparrowChange$Parish;LSparrowChange$Flock;I)I"⟩
abbrev cX4_allOpen : ByteArray := prog_6_method_4_code
def yX4_allOpen : MethodName := ⟨RX4, "allOpen", "(LSparrowChange$Parish;LSparrowChange$Flock;)I"⟩
abbrev cX4_beginSets : ByteArray := prog_6_method_5_code
def yX4_beginSets : MethodName := ⟨RX4, "beginSets", "()V"⟩
abbrev cX4_offer : ByteArray := prog_6_method_6_code
def yX4_offer : MethodName := ⟨RX4, "offer", "(II)V"⟩
abbrev cX4_isOpen : ByteArray := prog_6_method_7_code
def yX4_isOpen : MethodName := ⟨RX4, "isOpen", "(LSparrowChange$Flock;II)Z"⟩
abbrev cX4_fillHats : ByteArray := prog_6_method_8_code
def yX4_fillHats : MethodName := ⟨RX4, "fillHats", "(LSparrowChange$Parish;LSparrowChange$Flock;I)V"⟩
def RX5 : String := "SparrowChange$Text"
def TX5 : u_T := fun k => match k with
  | 0 => ("SparrowChange$Text", "letters", "[I", true)
  | 1 => ("SparrowChange$Text", "length", "I", false)
  | 2 => ("SparrowChange$Text", "faultAt", "I", false)
  | 3 => ("SparrowChange$Text", "faultNumber", "I", false)
  | 4 => ("SparrowChange$Text", "at", "I", false)
  | _ => ("SparrowChange$Text", "numberAt", "I", false)
def tyX5 : Nat → FieldType := fun k => match k with
  | 0 => .array .int
  | 1 => .int
  | 2 => .int
  | 3 => .int
  | 4 => .int
  | _ => .int
abbrev wsX50 : List Cond := u_ws RX5 TX5 6
theorem nmX5 : ∀ a, a < 6 → ∀ b, b < 6 → a ≠ b → (TX5 a).2.1 ≠ (TX5 b).2.1 := by decide +kernel
theorem tyX5_ok : ∀ k, k < 6 → parseFieldDescriptor (TX5 k).2.2.1 = some (tyX5 k) := by decide +kernel
abbrev cX5_init : ByteArray := prog_7_method_1_code
def yX5_init : MethodName := ⟨RX5, "<init>", "()V"⟩
abbrev cX5_append : ByteArray := prog_7_method_2_code
def yX5_append : MethodName := ⟨RX5, "append", "(I)I"⟩
abbrev cX5_readInto : ByteArray := prog_7_method_3_code
def yX5_readInto : MethodName := ⟨RX5, "readInto", "(LSparrowChange$Parish;)I"⟩
abbrev cX5_readClause : ByteArray := prog_7_method_4_code
def yX5_readClause : MethodName := ⟨RX5, "readClause", "(LSparrowChange$Parish;)V"⟩
abbrev cX5_faultOfWord : ByteArray := prog_7_method_5_code
def yX5_faultOfWord : MethodName := ⟨RX5, "faultOfWord", "(LSparrowChange$Parish;I)I"⟩
abbrev cX5_readTree : ByteArray := prog_7_method_6_code
def yX5_readTree : MethodName := ⟨RX5, "readTree", "(LSparrowChange$Parish;)V"⟩
abbrev cX5_readPerson : ByteArray := prog_7_method_7_code
def yX5_readPerson : MethodName := ⟨RX5, "readPerson", "(LSparrowChange$Parish;)V"⟩
abbrev cX5_readDebt : ByteArray := prog_7_method_8_code
def yX5_readDebt : MethodName := ⟨RX5, "readDebt", "(LSparrowChange$Parish;)V"⟩
abbrev cX5_readNumber : ByteArray := prog_7_method_9_code
def yX5_readNumber : MethodName := ⟨RX5, "readNumber", "(II)I"⟩
abbrev cX5_readEnd : ByteArray := prog_7_method_10_code
def yX5_readEnd : MethodName := ⟨RX5, "readEnd", "()V"⟩
abbrev cX5_skipBlanks : ByteArray := prog_7_method_11_code
def yX5_skipBlanks : MethodName := ⟨RX5, "skipBlanks", "()V"⟩
abbrev cX5_noteFault : ByteArray := prog_7_method_12_code
def yX5_noteFault : MethodName := ⟨RX5, "noteFault", "(II)V"⟩
def RX6 : String := "SparrowChange"
def TX6 : u_T := fun k => match k with
  | 0 => ("SparrowChange", "text", "LSparrowChange$Text;", true)
  | 1 => ("SparrowChange", "here", "LSparrowChange$Parish;", false)
  | 2 => ("SparrowChange", "draft", "LSparrowChange$Parish;", false)
  | 3 => ("SparrowChange", "now", "LSparrowChange$Flock;", true)
  | 4 => ("SparrowChange", "trial", "LSparrowChange$Flock;", true)
  | 5 => ("SparrowChange", "past", "LSparrowChange$Past;", true)
  | 6 => ("SparrowChange", "images", "[LSparrowChange$Flock;", true)
  | 7 => ("SparrowChange", "imageSeeds", "[I", true)
  | 8 => ("SparrowChange", "imageThere", "[Z", true)
  | 9 => ("SparrowChange", "settling", "LSparrowChange$Settling;", true)
  | 10 => ("SparrowChange", "seen", "LSparrowChange$Seen;", true)
  | 11 => ("SparrowChange", "owedOnward", "[I", true)
  | _ => ("SparrowChange", "theSeed", "I", false)
def tyX6 : Nat → FieldType := fun k => match k with
  | 0 => .object "SparrowChange$Text"
  | 1 => .object "SparrowChange$Parish"
  | 2 => .object "SparrowChange$Parish"
  | 3 => .object "SparrowChange$Flock"
  | 4 => .object "SparrowChange$Flock"
  | 5 => .object "SparrowChange$Past"
  | 6 => .array (.object "SparrowChange$Flock")
  | 7 => .array .int
  | 8 => .array .boolean
  | 9 => .object "SparrowChange$Settling"
  | 10 => .object "SparrowChange$Seen"
  | 11 => .array .int
  | _ => .int
abbrev wsX60 : List Cond := u_ws RX6 TX6 13
theorem nmX6 : ∀ a, a < 13 → ∀ b, b < 13 → a ≠ b → (TX6 a).2.1 ≠ (TX6 b).2.1 := by decide +kernel
theorem tyX6_ok : ∀ k, k < 13 → parseFieldDescriptor (TX6 k).2.2.1 = some (tyX6 k) := by decide +kernel
abbrev cX6_init : ByteArray := prog_1_method_1_code
def yX6_init : MethodName := ⟨RX6, "<init>", "()V"⟩
abbrev cX6_feed : ByteArray := prog_1_method_2_code
def yX6_feed : MethodName := ⟨RX6, "feed", "(I)I"⟩
abbrev cX6_parish : ByteArray := prog_1_method_3_code
def yX6_parish : MethodName := ⟨RX6, "parish", "()I"⟩
abbrev cX6_fault : ByteArray := prog_1_method_4_code
def yX6_fault : MethodName := ⟨RX6, "fault", "()I"⟩
abbrev cX6_told : ByteArray := prog_1_method_5_code
def yX6_told : MethodName := ⟨RX6, "told", "(I)I"⟩
abbrev cX6_person : ByteArray := prog_1_method_6_code
def yX6_person : MethodName := ⟨RX6, "person", "(II)I"⟩
abbrev cX6_debt : ByteArray := prog_1_method_7_code
def yX6_debt : MethodName := ⟨RX6, "debt", "(II)I"⟩
abbrev cX6_trace : ByteArray := prog_1_method_8_code
def yX6_trace : MethodName := ⟨RX6, "trace", "(I)I"⟩
abbrev cX6_count : ByteArray := prog_1_method_9_code
def yX6_count : MethodName := ⟨RX6, "count", "(II)I"⟩
abbrev cX6_pay : ByteArray := prog_1_method_10_code
def yX6_pay : MethodName := ⟨RX6, "pay", "(III)I"⟩
abbrev cX6_strew : ByteArray := prog_1_method_11_code
def yX6_strew : MethodName := ⟨RX6, "strew", "(II)I"⟩
abbrev cX6_net : ByteArray := prog_1_method_12_code
def yX6_net : MethodName := ⟨RX6, "net", "(IZ)I"⟩
abbrev cX6_hawk : ByteArray := prog_1_method_13_code
def yX6_hawk : MethodName := ⟨RX6, "hawk", "(II)I"⟩
abbrev cX6_hour : ByteArray := prog_1_method_14_code
def yX6_hour : MethodName := ⟨RX6, "hour", "(I)I"⟩
abbrev cX6_drift : ByteArray := prog_1_method_15_code
def yX6_drift : MethodName := ⟨RX6, "drift", "(I)I"⟩
abbrev cX6_undo : ByteArray := prog_1_method_16_code
def yX6_undo : MethodName := ⟨RX6, "undo", "()I"⟩
abbrev cX6_hat : ByteArray := prog_1_method_17_code
def yX6_hat : MethodName := ⟨RX6, "hat", "(II)I"⟩
abbrev cX6_most : ByteArray := prog_1_method_18_code
def yX6_most : MethodName := ⟨RX6, "most", "(III)I"⟩
abbrev cX6_kept : ByteArray := prog_1_method_19_code
def yX6_kept : MethodName := ⟨RX6, "kept", "(I)I"⟩
abbrev cX6_settled : ByteArray := prog_1_method_20_code
def yX6_settled : MethodName := ⟨RX6, "settled", "(I)I"⟩
abbrev cX6_toFloat : ByteArray := prog_1_method_21_code
def yX6_toFloat : MethodName := ⟨RX6, "toFloat", "(I)I"⟩
abbrev cX6_nets : ByteArray := prog_1_method_22_code
def yX6_nets : MethodName := ⟨RX6, "nets", "(II)I"⟩
abbrev cX6_calm : ByteArray := prog_1_method_23_code
def yX6_calm : MethodName := ⟨RX6, "calm", "(II)I"⟩
abbrev cX6_watch : ByteArray := prog_1_method_24_code
def yX6_watch : MethodName := ⟨RX6, "watch", "(I)I"⟩
abbrev cX6_feel : ByteArray := prog_1_method_25_code
def yX6_feel : MethodName := ⟨RX6, "feel", "(IIZ)I"⟩
abbrev cX6_reach : ByteArray := prog_1_method_26_code
def yX6_reach : MethodName := ⟨RX6, "reach", "(I)I"⟩
abbrev cX6_write : ByteArray := prog_1_method_27_code
def yX6_write : MethodName := ⟨RX6, "write", "(II)I"⟩
abbrev cX6_tear : ByteArray := prog_1_method_28_code
def yX6_tear : MethodName := ⟨RX6, "tear", "()I"⟩
abbrev cX6_judge : ByteArray := prog_1_method_29_code
def yX6_judge : MethodName := ⟨RX6, "judge", "()I"⟩
abbrev cX6_seed : ByteArray := prog_1_method_30_code
def yX6_seed : MethodName := ⟨RX6, "seed", "(I)I"⟩
abbrev cX6_keep : ByteArray := prog_1_method_31_code
def yX6_keep : MethodName := ⟨RX6, "keep", "(I)I"⟩
abbrev cX6_goBack : ByteArray := prog_1_method_32_code
def yX6_goBack : MethodName := ⟨RX6, "goBack", "(I)I"⟩
abbrev cX6_isOutside : ByteArray := prog_1_method_33_code
def yX6_isOutside : MethodName := ⟨RX6, "isOutside", "(III)Z"⟩
abbrev cX6_has : ByteArray := prog_1_method_34_code
def yX6_has : MethodName := ⟨RX6, "has", "(II)Z"⟩
abbrev cX6_figuresOf : ByteArray := prog_1_method_35_code
def yX6_figuresOf : MethodName := ⟨RX6, "figuresOf", "(I)I"⟩
abbrev cX6_refusalOfHours : ByteArray := prog_1_method_36_code
def yX6_refusalOfHours : MethodName := ⟨RX6, "refusalOfHours", "(I)I"⟩
abbrev cX6_drawOf : ByteArray := prog_1_method_37_code
def yX6_drawOf : MethodName := ⟨RX6, "drawOf", "(I)I"⟩
abbrev cX6_doByDraw : ByteArray := prog_1_method_38_code
def yX6_doByDraw : MethodName := ⟨RX6, "doByDraw", "()V"⟩
abbrev cX6_birdsWithNets : ByteArray := prog_1_method_39_code
def yX6_birdsWithNets : MethodName := ⟨RX6, "birdsWithNets", "(II)I"⟩
abbrev cX6_richest : ByteArray := prog_1_method_40_code
def yX6_richest : MethodName := ⟨RX6, "richest", "()I"⟩
abbrev cX6_rings : ByteArray := prog_1_method_41_code
def yX6_rings : MethodName := ⟨RX6, "rings", "()I"⟩
abbrev cX6_creditorsOf : ByteArray := prog_1_method_42_code
def yX6_creditorsOf : MethodName := ⟨RX6, "creditorsOf", "(I)I"⟩
abbrev cX6_owedBy : ByteArray := prog_1_method_43_code
def yX6_owedBy : MethodName := ⟨RX6, "owedBy", "(I)I"⟩
abbrev cX6_owedTo : ByteArray := prog_1_method_44_code
def yX6_owedTo : MethodName := ⟨RX6, "owedTo", "(I)I"⟩
abbrev cX6_owedInAll : ByteArray := prog_1_method_45_code
def yX6_owedInAll : MethodName := ⟨RX6, "owedInAll", "()I"⟩
abbrev cX6_suspects : ByteArray := prog_1_method_46_code
def yX6_suspects : MethodName := ⟨RX6, "suspects", "()I"⟩
def RX7 : String := "SparrowChangeModel"
def TX7 : u_T := fun k => match k with
  | 0 => ("SparrowChangeModel", "parish", "[I", true)
  | 1 => ("SparrowChangeModel", "read", "[I", true)
  | 2 => ("SparrowChangeModel", "now", "[I", true)
  | 3 => ("SparrowChangeModel", "aside", "[I", true)
  | 4 => ("SparrowChangeModel", "past", "[I", true)
  | 5 => ("SparrowChangeModel", "undos", "I", false)
  | 6 => ("SparrowChangeModel", "images", "[I", true)
  | 7 => ("SparrowChangeModel", "kept", "[Z", true)
  | 8 => ("SparrowChangeModel", "seed", "J", false)
  | 9 => ("SparrowChangeModel", "text", "[I", true)
  | 10 => ("SparrowChangeModel", "size", "I", false)
  | 11 => ("SparrowChangeModel", "fault", "I", false)
  | 12 => ("SparrowChangeModel", "watched", "[I", true)
  | 13 => ("SparrowChangeModel", "watchedMany", "I", false)
  | 14 => ("SparrowChangeModel", "felt", "[I", true)
  | 15 => ("SparrowChangeModel", "feltMany", "I", false)
  | 16 => ("SparrowChangeModel", "book", "[I", true)
  | 17 => ("SparrowChangeModel", "bookMany", "I", false)
  | 18 => ("SparrowChangeModel", "at", "I", false)
  | 19 => ("SparrowChangeModel", "begin", "I", false)
  | 20 => ("SparrowChangeModel", "sign", "I", false)
  | 21 => ("SparrowChangeModel", "figures", "I", false)
  | 22 => ("SparrowChangeModel", "value", "I", false)
  | 23 => ("SparrowChangeModel", "wrong", "I", false)
  | 24 => ("SparrowChangeModel", "loss", "[I", true)
  | _ => ("SparrowChangeModel", "can", "[I", true)
def tyX7 : Nat → FieldType := fun k => match k with
  | 0 => .array .int
  | 1 => .array .int
  | 2 => .array .int
  | 3 => .array .int
  | 4 => .array .int
  | 5 => .int
  | 6 => .array .int
  | 7 => .array .boolean
  | 8 => .long
  | 9 => .array .int
  | 10 => .int
  | 11 => .int
  | 12 => .array .int
  | 13 => .int
  | 14 => .array .int
  | 15 => .int
  | 16 => .array .int
  | 17 => .int
  | 18 => .int
  | 19 => .int
  | 20 => .int
  | 21 => .int
  | 22 => .int
  | 23 => .int
  | 24 => .array .int
  | _ => .array .int
abbrev wsX70 : List Cond := u_ws RX7 TX7 26
theorem nmX7 : ∀ a, a < 26 → ∀ b, b < 26 → a ≠ b → (TX7 a).2.1 ≠ (TX7 b).2.1 := by decide +kernel
theorem tyX7_ok : ∀ k, k < 26 → parseFieldDescriptor (TX7 k).2.2.1 = some (tyX7 k) := by decide +kernel
abbrev cX7_init : ByteArray := prog_9_method_1_code
def yX7_init : MethodName := ⟨RX7, "<init>", "()V"⟩
abbrev cX7_in : ByteArray := prog_9_method_3_code
def yX7_in : MethodName := ⟨RX7, "in", "(JJJ)Z"⟩
abbrev cX7_has : ByteArray := prog_9_method_4_code
def yX7_has : MethodName := ⟨RX7, "has", "(II)Z"⟩
abbrev cX7_bits : ByteArray := prog_9_method_5_code
def yX7_bits : MethodName := ⟨RX7, "bits", "(I)I"⟩
abbrev cX7_lesser : ByteArray := prog_9_method_6_code
def yX7_lesser : MethodName := ⟨RX7, "lesser", "(II)I"⟩
abbrev cX7_greater : ByteArray := prog_9_method_7_code
def yX7_greater : MethodName := ⟨RX7, "greater", "(II)I"⟩
abbrev cX7_copies : ByteArray := prog_9_method_8_code
def yX7_copies : MethodName := ⟨RX7, "copies", "([II[III)V"⟩
abbrev cX7_begins : ByteArray := prog_9_method_9_code
def yX7_begins : MethodName := ⟨RX7, "begins", "()V"⟩
abbrev cX7_feed : ByteArray := prog_9_method_10_code
def yX7_feed : MethodName := ⟨RX7, "feed", "(I)I"⟩
abbrev cX7_here : ByteArray := prog_9_method_11_code
def yX7_here : MethodName := ⟨RX7, "here", "()I"⟩
abbrev cX7_step : ByteArray := prog_9_method_12_code
def yX7_step : MethodName := ⟨RX7, "step", "()V"⟩
abbrev cX7_fails : ByteArray := prog_9_method_13_code
def yX7_fails : MethodName := ⟨RX7, "fails", "(I)Z"⟩
abbrev cX7_number : ByteArray := prog_9_method_14_code
def yX7_number : MethodName := ⟨RX7, "number", "(III)Z"⟩
abbrev cX7_ends : ByteArray := prog_9_method_15_code
def yX7_ends : MethodName := ⟨RX7, "ends", "()Z"⟩
abbrev cX7_readsPerson : ByteArray := prog_9_method_16_code
def yX7_readsPerson : MethodName := ⟨RX7, "readsPerson", "()Z"⟩
abbrev cX7_readsDebt : ByteArray := prog_9_method_17_code
def yX7_readsDebt : MethodName := ⟨RX7, "readsDebt", "()Z"⟩
abbrev cX7_readsClause : ByteArray := prog_9_method_18_code
def yX7_readsClause : MethodName := ⟨RX7, "readsClause", "()Z"⟩
abbrev cX7_parish : ByteArray := prog_9_method_19_code
def yX7_parish : MethodName := ⟨RX7, "parish", "()I"⟩
abbrev cX7_fault : ByteArray := prog_9_method_20_code
def yX7_fault : MethodName := ⟨RX7, "fault", "()I"⟩
abbrev cX7_isPerson : ByteArray := prog_9_method_21_code
def yX7_isPerson : MethodName := ⟨RX7, "isPerson", "(I)Z"⟩
abbrev cX7_plainLoss : ByteArray := prog_9_method_22_code
def yX7_plainLoss : MethodName := ⟨RX7, "plainLoss", "(I)I"⟩
abbrev cX7_lossBy : ByteArray := prog_9_method_23_code
def yX7_lossBy : MethodName := ⟨RX7, "lossBy", "(IIZ)I"⟩
abbrev cX7_lossOn : ByteArray := prog_9_method_24_code
def yX7_lossOn : MethodName := ⟨RX7, "lossOn", "([II)I"⟩
abbrev cX7_drawerOn : ByteArray := prog_9_method_25_code
def yX7_drawerOn : MethodName := ⟨RX7, "drawerOn", "([I)I"⟩
abbrev cX7_flies : ByteArray := prog_9_method_26_code
def yX7_flies : MethodName := ⟨RX7, "flies", "([IIII)V"⟩
abbrev cX7_hourGoes : ByteArray := prog_9_method_27_code
def yX7_hourGoes : MethodName := ⟨RX7, "hourGoes", "([IZ)V"⟩
abbrev cX7_hatsOn : ByteArray := prog_9_method_28_code
def yX7_hatsOn : MethodName := ⟨RX7, "hatsOn", "([I)I"⟩
abbrev cX7_owes : ByteArray := prog_9_method_29_code
def yX7_owes : MethodName := ⟨RX7, "owes", "(II)I"⟩
abbrev cX7_rich : ByteArray := prog_9_method_30_code
def yX7_rich : MethodName := ⟨RX7, "rich", "()I"⟩
abbrev cX7_rings : ByteArray := prog_9_method_31_code
def yX7_rings : MethodName := ⟨RX7, "rings", "()I"⟩
abbrev cX7_drawnBy : ByteArray := prog_9_method_32_code
def yX7_drawnBy : MethodName := ⟨RX7, "drawnBy", "(I)I"⟩
abbrev cX7_who : ByteArray := prog_9_method_33_code
def yX7_who : MethodName := ⟨RX7, "who", "()I"⟩
abbrev cX7_told : ByteArray := prog_9_method_34_code
def yX7_told : MethodName := ⟨RX7, "told", "(I)I"⟩
abbrev cX7_person : ByteArray := prog_9_method_35_code
def yX7_person : MethodName := ⟨RX7, "person", "(II)I"⟩
abbrev cX7_debt : ByteArray := prog_9_method_36_code
def yX7_debt : MethodName := ⟨RX7, "debt", "(II)I"⟩
abbrev cX7_trace : ByteArray := prog_9_method_37_code
def yX7_trace : MethodName := ⟨RX7, "trace", "(I)I"⟩
abbrev cX7_remember : ByteArray := prog_9_method_38_code
def yX7_remember : MethodName := ⟨RX7, "remember", "()V"⟩
abbrev cX7_count : ByteArray := prog_9_method_39_code
def yX7_count : MethodName := ⟨RX7, "count", "(II)I"⟩
abbrev cX7_pay : ByteArray := prog_9_method_40_code
def yX7_pay : MethodName := ⟨RX7, "pay", "(III)I"⟩
abbrev cX7_strews : ByteArray := prog_9_method_41_code
def yX7_strews : MethodName := ⟨RX7, "strews", "(II)V"⟩
abbrev cX7_strew : ByteArray := prog_9_method_42_code
def yX7_strew : MethodName := ⟨RX7, "strew", "(II)I"⟩
abbrev cX7_net : ByteArray := prog_9_method_43_code
def yX7_net : MethodName := ⟨RX7, "net", "(IZ)I"⟩
abbrev cX7_hawks : ByteArray := prog_9_method_44_code
def yX7_hawks : MethodName := ⟨RX7, "hawks", "(II)I"⟩
abbrev cX7_hawk : ByteArray := prog_9_method_45_code
def yX7_hawk : MethodName := ⟨RX7, "hawk", "(II)I"⟩
abbrev cX7_refuses : ByteArray := prog_9_method_46_code
def yX7_refuses : MethodName := ⟨RX7, "refuses", "(I)I"⟩
abbrev cX7_hour : ByteArray := prog_9_method_47_code
def yX7_hour : MethodName := ⟨RX7, "hour", "(I)I"⟩
abbrev cX7_draw : ByteArray := prog_9_method_48_code
def yX7_draw : MethodName := ⟨RX7, "draw", "(I)I"⟩
abbrev cX7_draws : ByteArray := prog_9_method_49_code
def yX7_draws : MethodName := ⟨RX7, "draws", "()V"⟩
abbrev cX7_drift : ByteArray := prog_9_method_50_code
def yX7_drift : MethodName := ⟨RX7, "drift", "(I)I"⟩
abbrev cX7_undo : ByteArray := prog_9_method_51_code
def yX7_undo : MethodName := ⟨RX7, "undo", "()I"⟩
abbrev cX7_layAside : ByteArray := prog_9_method_52_code
def yX7_layAside : MethodName := ⟨RX7, "layAside", "()V"⟩
abbrev cX7_hat : ByteArray := prog_9_method_53_code
def yX7_hat : MethodName := ⟨RX7, "hat", "(II)I"⟩
abbrev cX7_most : ByteArray := prog_9_method_54_code
def yX7_most : MethodName := ⟨RX7, "most", "(III)I"⟩
abbrev cX7_kept : ByteArray := prog_9_method_55_code
def yX7_kept : MethodName := ⟨RX7, "kept", "(I)I"⟩
abbrev cX7_isOwed : ByteArray := prog_9_method_56_code
def yX7_isOwed : MethodName := ⟨RX7, "isOwed", "(I)Z"⟩
abbrev cX7_mayPay : ByteArray := prog_9_method_57_code
def yX7_mayPay : MethodName := ⟨RX7, "mayPay", "(IIII)Z"⟩
abbrev cX7_laysDebts : ByteArray := prog_9_method_58_code
def yX7_laysDebts : MethodName := ⟨RX7, "laysDebts", "(II)I"⟩
abbrev cX7_settled : ByteArray := prog_9_method_59_code
def yX7_settled : MethodName := ⟨RX7, "settled", "(I)I"⟩
abbrev cX7_toFloat : ByteArray := prog_9_method_60_code
def yX7_toFloat : MethodName := ⟨RX7, "toFloat", "(I)I"⟩
abbrev cX7_nets : ByteArray := prog_9_method_61_code
def yX7_nets : MethodName := ⟨RX7, "nets", "(II)I"⟩
abbrev cX7_calm : ByteArray := prog_9_method_62_code
def yX7_calm : MethodName := ⟨RX7, "calm", "(II)I"⟩
abbrev cX7_watch : ByteArray := prog_9_method_63_code
def yX7_watch : MethodName := ⟨RX7, "watch", "(I)I"⟩
abbrev cX7_feel : ByteArray := prog_9_method_64_code
def yX7_feel : MethodName := ⟨RX7, "feel", "(IIZ)I"⟩
abbrev cX7_isSo : ByteArray := prog_9_method_65_code
def yX7_isSo : MethodName := ⟨RX7, "isSo", "(I)Z"⟩
abbrev cX7_reach : ByteArray := prog_9_method_66_code
def yX7_reach : MethodName := ⟨RX7, "reach", "(I)I"⟩
abbrev cX7_write : ByteArray := prog_9_method_67_code
def yX7_write : MethodName := ⟨RX7, "write", "(II)I"⟩
abbrev cX7_tear : ByteArray := prog_9_method_68_code
def yX7_tear : MethodName := ⟨RX7, "tear", "()I"⟩
abbrev cX7_judge : ByteArray := prog_9_method_69_code
def yX7_judge : MethodName := ⟨RX7, "judge", "()I"⟩
abbrev cX7_seed : ByteArray := prog_9_method_70_code
def yX7_seed : MethodName := ⟨RX7, "seed", "(I)I"⟩
abbrev cX7_keep : ByteArray := prog_9_method_71_code
def yX7_keep : MethodName := ⟨RX7, "keep", "(I)I"⟩
abbrev cX7_goBack : ByteArray := prog_9_method_72_code
def yX7_goBack : MethodName := ⟨RX7, "goBack", "(I)I"⟩
def RJ6 : String := "java/lang/Integer"
abbrev cJ6_bitCount_0f7a4 : ByteArray := prog_10_method_49_code
def yJ6_bitCount_0f7a4 : MethodName := ⟨RJ6, "bitCount", "(I)I"⟩
def RJ9 : String := "java/lang/Math"
abbrev cJ9_floorMod_7cf53 : ByteArray := prog_11_method_50_code
def yJ9_floorMod_7cf53 : MethodName := ⟨RJ9, "floorMod", "(II)I"⟩
abbrev cJ9_abs_0f7a4 : ByteArray := prog_11_method_59_code
def yJ9_abs_0f7a4 : MethodName := ⟨RJ9, "abs", "(I)I"⟩
abbrev cJ9_max_7cf53 : ByteArray := prog_11_method_65_code
def yJ9_max_7cf53 : MethodName := ⟨RJ9, "max", "(II)I"⟩
abbrev cJ9_min_7cf53 : ByteArray := prog_11_method_69_code
def yJ9_min_7cf53 : MethodName := ⟨RJ9, "min", "(II)I"⟩
def RJ10 : String := "java/lang/System"
def RL : String := "SparrowChangeLaw"
abbrev cL_law : ByteArray := code
def yL_law : MethodName := ⟨RL, "law", "([I)Z"⟩
abbrev vwCl : List vw_C := [(RX0, TX0, 9), (RX1, TX1, 11), (RX2, TX2, 3), (RX3, TX3, 8), (RX4, TX4, 2), (RX5, TX5, 6), (RX6, TX6, 13), (RX7, TX7, 26)]
theorem inX0 : ∀ w ∈ wsX00, w ∈ lw_tbl := by decide +kernel
theorem inX1 : ∀ w ∈ wsX10, w ∈ lw_tbl := by decide +kernel
theorem inX2 : ∀ w ∈ wsX20, w ∈ lw_tbl := by decide +kernel
theorem inX3 : ∀ w ∈ wsX30, w ∈ lw_tbl := by decide +kernel
theorem inX4 : ∀ w ∈ wsX40, w ∈ lw_tbl := by decide +kernel
theorem inX5 : ∀ w ∈ wsX50, w ∈ lw_tbl := by decide +kernel
theorem inX6 : ∀ w ∈ wsX60, w ∈ lw_tbl := by decide +kernel
theorem inX7 : ∀ w ∈ wsX70, w ∈ lw_tbl := by decide +kernel
end
section
/-! the words that a call keeps, and each of them by name -/
def TB : List Cond := lw_tbl.filter goodWord
theorem TB_in {w : Cond} (h : w ∈ lw_tbl) (hg : goodWord w = true) : w ∈ TB := List.mem_filter.mpr ⟨h, hg⟩
theorem TB_t {w : Cond} (i : Nat) (h : tables_1[i]? = some w) (hg : goodWord w = true) : w ∈ TB := TB_in (List.mem_append_right _ (List.mem_of_getElem? h)) hg
theorem TB_p {w : Cond} (i : Nat) (h : (k2_sels lw_privs)[i]? = some w) (hg : goodWord w = true) : w ∈ TB := TB_in (List.mem_append_left _ (List.mem_of_getElem? h)) hg
theorem in_L : Cond.initialized RL ∈ TB := TB_t 0 (by decide +kernel) rfl
theorem in_X6 : Cond.initialized RX6 ∈ TB := TB_t 1 (by decide +kernel) rfl
theorem in_X5 : Cond.initialized RX5 ∈ TB := TB_t 2 (by decide +kernel) rfl
theorem in_X1 : Cond.initialized RX1 ∈ TB := TB_t 3 (by decide +kernel) rfl
theorem in_X0 : Cond.initialized RX0 ∈ TB := TB_t 4 (by decide +kernel) rfl
theorem in_X2 : Cond.initialized RX2 ∈ TB := TB_t 5 (by decide +kernel) rfl
theorem in_X4 : Cond.initialized RX4 ∈ TB := TB_t 6 (by decide +kernel) rfl
theorem in_X3 : Cond.initialized RX3 ∈ TB := TB_t 7 (by decide +kernel) rfl
theorem in_X7 : Cond.initialized RX7 ∈ TB := TB_t 8 (by decide +kernel) rfl
theorem in_J9 : Cond.initialized RJ9 ∈ TB := TB_t 9 (by decide +kernel) rfl
theorem in_J10 : Cond.initialized RJ10 ∈ TB := TB_t 10 (by decide +kernel) rfl
theorem in_J6 : Cond.initialized RJ6 ∈ TB := TB_t 11 (by decide +kernel) rfl
theorem cl_L_7 : Cond.classLink RL 7 RX6 ∈ TB := TB_t 12 (by decide +kernel) rfl
theorem ia_X6 : Cond.instantiable RX6 13 ∈ TB := TB_t 13 (by decide +kernel) rfl
theorem ml_L_9 : Cond.methodLink RL 9 yX6_init ∈ TB := TB_t 14 (by decide +kernel) rfl
theorem im_X6_init : Cond.instanceMethod yX6_init ∈ TB := TB_t 15 (by decide +kernel) rfl
set_option maxRecDepth 100000 in
theorem co_X6_init : Cond.code yX6_init cX6_init 2 none ∈ TB := TB_t 16 rfl rfl
theorem ml_X6_1 : Cond.methodLink RX6 1 (⟨"java/lang/Object", "<init>", "()V"⟩ : MethodName) ∈ TB := TB_t 17 (by decide +kernel) rfl
theorem im_Obj : Cond.instanceMethod (⟨"java/lang/Object", "<init>", "()V"⟩ : MethodName) ∈ TB := TB_t 18 (by decide +kernel) rfl
set_option maxRecDepth 100000 in
theorem co_Obj : Cond.code objectInit ⟨#[0xb1]⟩ 1 none ∈ TB := TB_t 19 rfl rfl
theorem cl_X6_7 : Cond.classLink RX6 7 RX5 ∈ TB := TB_t 20 (by decide +kernel) rfl
theorem ia_X5 : Cond.instantiable RX5 6 ∈ TB := TB_t 21 (by decide +kernel) rfl
theorem im_X5_init : Cond.instanceMethod yX5_init ∈ TB := TB_t 23 (by decide +kernel) rfl
set_option maxRecDepth 100000 in
theorem co_X5_init : Cond.code yX5_init cX5_init 1 none ∈ TB := TB_t 24 rfl rfl
theorem ml_X5_3 : Cond.methodLink RX5 3 (⟨"java/lang/Object", "<init>", "()V"⟩ : MethodName) ∈ TB := TB_t 25 (by decide +kernel) rfl
theorem fl_X5_9 : Cond.fieldLink RX5 9 "SparrowChange$Text" "letters" "[I" ∈ TB := TB_t 26 (by decide +kernel) rfl
theorem fl_X5_15 : Cond.fieldLink RX5 15 "SparrowChange$Text" "length" "I" ∈ TB := TB_t 27 (by decide +kernel) rfl
theorem fl_X6_81 : Cond.fieldLink RX6 81 "SparrowChange$Text" "length" "I" ∈ TB := TB_t 28 (by decide +kernel) rfl
theorem fl_X5_19 : Cond.fieldLink RX5 19 "SparrowChange$Text" "faultAt" "I" ∈ TB := TB_t 29 (by decide +kernel) rfl
theorem fl_X6_104 : Cond.fieldLink RX6 104 "SparrowChange$Text" "faultAt" "I" ∈ TB := TB_t 30 (by decide +kernel) rfl
theorem fl_X5_22 : Cond.fieldLink RX5 22 "SparrowChange$Text" "faultNumber" "I" ∈ TB := TB_t 31 (by decide +kernel) rfl
theorem fl_X5_25 : Cond.fieldLink RX5 25 "SparrowChange$Text" "at" "I" ∈ TB := TB_t 32 (by decide +kernel) rfl
theorem fl_X5_28 : Cond.fieldLink RX5 28 "SparrowChange$Text" "numberAt" "I" ∈ TB := TB_t 33 (by decide +kernel) rfl
theorem ac_int : Cond.arrayClass .int ∈ TB := TB_t 47 (by decide +kernel) rfl
theorem cl_X6_16 : Cond.classLink RX6 16 RX1 ∈ TB := TB_t 48 (by decide +kernel) rfl
theorem ia_X1 : Cond.instantiable RX1 11 ∈ TB := TB_t 49 (by decide +kernel) rfl
theorem im_X1_init : Cond.instanceMethod yX1_init ∈ TB := TB_t 51 (by decide +kernel) rfl
set_option maxRecDepth 100000 in
theorem co_X1_init : Cond.code yX1_init cX1_init 1 none ∈ TB := TB_t 52 rfl rfl
theorem ml_X1_3 : Cond.methodLink RX1 3 (⟨"java/lang/Object", "<init>", "()V"⟩ : MethodName) ∈ TB := TB_t 53 (by decide +kernel) rfl
theorem fl_X1_9 : Cond.fieldLink RX1 9 "SparrowChange$Parish" "stands" "Z" ∈ TB := TB_t 54 (by decide +kernel) rfl
theorem fl_X0_43 : Cond.fieldLink RX0 43 "SparrowChange$Parish" "stands" "Z" ∈ TB := TB_t 55 (by decide +kernel) rfl
theorem fl_X5_60 : Cond.fieldLink RX5 60 "SparrowChange$Parish" "stands" "Z" ∈ TB := TB_t 56 (by decide +kernel) rfl
theorem fl_X6_218 : Cond.fieldLink RX6 218 "SparrowChange$Parish" "stands" "Z" ∈ TB := TB_t 57 (by decide +kernel) rfl
theorem fl_X1_15 : Cond.fieldLink RX1 15 "SparrowChange$Parish" "dusk" "I" ∈ TB := TB_t 58 (by decide +kernel) rfl
theorem fl_X6_107 : Cond.fieldLink RX6 107 "SparrowChange$Parish" "dusk" "I" ∈ TB := TB_t 59 (by decide +kernel) rfl
theorem fl_X0_122 : Cond.fieldLink RX0 122 "SparrowChange$Parish" "dusk" "I" ∈ TB := TB_t 60 (by decide +kernel) rfl
theorem fl_X1_19 : Cond.fieldLink RX1 19 "SparrowChange$Parish" "tree" "I" ∈ TB := TB_t 61 (by decide +kernel) rfl
theorem fl_X0_40 : Cond.fieldLink RX0 40 "SparrowChange$Parish" "tree" "I" ∈ TB := TB_t 62 (by decide +kernel) rfl
theorem fl_X1_22 : Cond.fieldLink RX1 22 "SparrowChange$Parish" "persons" "I" ∈ TB := TB_t 63 (by decide +kernel) rfl
theorem fl_X6_101 : Cond.fieldLink RX6 101 "SparrowChange$Parish" "persons" "I" ∈ TB := TB_t 64 (by decide +kernel) rfl
theorem fl_X5_64 : Cond.fieldLink RX5 64 "SparrowChange$Parish" "persons" "I" ∈ TB := TB_t 65 (by decide +kernel) rfl
theorem fl_X0_95 : Cond.fieldLink RX0 95 "SparrowChange$Parish" "persons" "I" ∈ TB := TB_t 66 (by decide +kernel) rfl
theorem fl_X1_25 : Cond.fieldLink RX1 25 "SparrowChange$Parish" "debts" "I" ∈ TB := TB_t 67 (by decide +kernel) rfl
theorem fl_X4_21 : Cond.fieldLink RX4 21 "SparrowChange$Parish" "debts" "I" ∈ TB := TB_t 68 (by decide +kernel) rfl
theorem fl_X5_67 : Cond.fieldLink RX5 67 "SparrowChange$Parish" "debts" "I" ∈ TB := TB_t 69 (by decide +kernel) rfl
theorem fl_X6_110 : Cond.fieldLink RX6 110 "SparrowChange$Parish" "debts" "I" ∈ TB := TB_t 70 (by decide +kernel) rfl
theorem fl_X0_86 : Cond.fieldLink RX0 86 "SparrowChange$Parish" "debts" "I" ∈ TB := TB_t 71 (by decide +kernel) rfl
theorem fl_X1_28 : Cond.fieldLink RX1 28 "SparrowChange$Parish" "kind" "[I" ∈ TB := TB_t 72 (by decide +kernel) rfl
theorem fl_X6_161 : Cond.fieldLink RX6 161 "SparrowChange$Parish" "kind" "[I" ∈ TB := TB_t 73 (by decide +kernel) rfl
theorem fl_X0_112 : Cond.fieldLink RX0 112 "SparrowChange$Parish" "kind" "[I" ∈ TB := TB_t 74 (by decide +kernel) rfl
theorem fl_X1_32 : Cond.fieldLink RX1 32 "SparrowChange$Parish" "birds" "[I" ∈ TB := TB_t 75 (by decide +kernel) rfl
theorem fl_X0_51 : Cond.fieldLink RX0 51 "SparrowChange$Parish" "birds" "[I" ∈ TB := TB_t 76 (by decide +kernel) rfl
theorem fl_X1_35 : Cond.fieldLink RX1 35 "SparrowChange$Parish" "door" "[I" ∈ TB := TB_t 77 (by decide +kernel) rfl
theorem fl_X6_167 : Cond.fieldLink RX6 167 "SparrowChange$Parish" "door" "[I" ∈ TB := TB_t 78 (by decide +kernel) rfl
theorem fl_X0_98 : Cond.fieldLink RX0 98 "SparrowChange$Parish" "door" "[I" ∈ TB := TB_t 79 (by decide +kernel) rfl
theorem fl_X1_38 : Cond.fieldLink RX1 38 "SparrowChange$Parish" "debtor" "[I" ∈ TB := TB_t 80 (by decide +kernel) rfl
theorem fl_X4_41 : Cond.fieldLink RX4 41 "SparrowChange$Parish" "debtor" "[I" ∈ TB := TB_t 81 (by decide +kernel) rfl
theorem fl_X6_189 : Cond.fieldLink RX6 189 "SparrowChange$Parish" "debtor" "[I" ∈ TB := TB_t 82 (by decide +kernel) rfl
theorem fl_X0_89 : Cond.fieldLink RX0 89 "SparrowChange$Parish" "debtor" "[I" ∈ TB := TB_t 83 (by decide +kernel) rfl
theorem fl_X1_41 : Cond.fieldLink RX1 41 "SparrowChange$Parish" "creditor" "[I" ∈ TB := TB_t 84 (by decide +kernel) rfl
theorem fl_X6_192 : Cond.fieldLink RX6 192 "SparrowChange$Parish" "creditor" "[I" ∈ TB := TB_t 85 (by decide +kernel) rfl
theorem fl_X4_76 : Cond.fieldLink RX4 76 "SparrowChange$Parish" "creditor" "[I" ∈ TB := TB_t 86 (by decide +kernel) rfl
theorem fl_X0_92 : Cond.fieldLink RX0 92 "SparrowChange$Parish" "creditor" "[I" ∈ TB := TB_t 87 (by decide +kernel) rfl
theorem fl_X1_44 : Cond.fieldLink RX1 44 "SparrowChange$Parish" "owed" "[I" ∈ TB := TB_t 88 (by decide +kernel) rfl
theorem fl_X0_55 : Cond.fieldLink RX0 55 "SparrowChange$Parish" "owed" "[I" ∈ TB := TB_t 89 (by decide +kernel) rfl
theorem cl_X6_26 : Cond.classLink RX6 26 RX0 ∈ TB := TB_t 113 (by decide +kernel) rfl
theorem ia_X0 : Cond.instantiable RX0 9 ∈ TB := TB_t 114 (by decide +kernel) rfl
theorem im_X0_init : Cond.instanceMethod yX0_init ∈ TB := TB_t 116 (by decide +kernel) rfl
set_option maxRecDepth 100000 in
theorem co_X0_init : Cond.code yX0_init cX0_init 1 none ∈ TB := TB_t 117 rfl rfl
theorem ml_X0_3 : Cond.methodLink RX0 3 (⟨"java/lang/Object", "<init>", "()V"⟩ : MethodName) ∈ TB := TB_t 118 (by decide +kernel) rfl
theorem fl_X0_9 : Cond.fieldLink RX0 9 "SparrowChange$Flock" "tree" "I" ∈ TB := TB_t 119 (by decide +kernel) rfl
theorem fl_X6_116 : Cond.fieldLink RX6 116 "SparrowChange$Flock" "tree" "I" ∈ TB := TB_t 120 (by decide +kernel) rfl
theorem fl_X0_15 : Cond.fieldLink RX0 15 "SparrowChange$Flock" "hours" "I" ∈ TB := TB_t 121 (by decide +kernel) rfl
theorem fl_X6_113 : Cond.fieldLink RX6 113 "SparrowChange$Flock" "hours" "I" ∈ TB := TB_t 122 (by decide +kernel) rfl
theorem fl_X0_18 : Cond.fieldLink RX0 18 "SparrowChange$Flock" "netted" "I" ∈ TB := TB_t 123 (by decide +kernel) rfl
theorem fl_X6_123 : Cond.fieldLink RX6 123 "SparrowChange$Flock" "netted" "I" ∈ TB := TB_t 124 (by decide +kernel) rfl
theorem fl_X0_21 : Cond.fieldLink RX0 21 "SparrowChange$Flock" "ringed" "I" ∈ TB := TB_t 125 (by decide +kernel) rfl
theorem fl_X6_126 : Cond.fieldLink RX6 126 "SparrowChange$Flock" "ringed" "I" ∈ TB := TB_t 126 (by decide +kernel) rfl
theorem fl_X0_24 : Cond.fieldLink RX0 24 "SparrowChange$Flock" "placesEver" "I" ∈ TB := TB_t 127 (by decide +kernel) rfl
theorem fl_X0_27 : Cond.fieldLink RX0 27 "SparrowChange$Flock" "birds" "[I" ∈ TB := TB_t 128 (by decide +kernel) rfl
theorem fl_X6_164 : Cond.fieldLink RX6 164 "SparrowChange$Flock" "birds" "[I" ∈ TB := TB_t 129 (by decide +kernel) rfl
theorem fl_X3_38 : Cond.fieldLink RX3 38 "SparrowChange$Flock" "birds" "[I" ∈ TB := TB_t 130 (by decide +kernel) rfl
theorem fl_X4_67 : Cond.fieldLink RX4 67 "SparrowChange$Flock" "birds" "[I" ∈ TB := TB_t 131 (by decide +kernel) rfl
theorem fl_X0_31 : Cond.fieldLink RX0 31 "SparrowChange$Flock" "crumbs" "[I" ∈ TB := TB_t 132 (by decide +kernel) rfl
theorem fl_X6_170 : Cond.fieldLink RX6 170 "SparrowChange$Flock" "crumbs" "[I" ∈ TB := TB_t 133 (by decide +kernel) rfl
theorem fl_X0_34 : Cond.fieldLink RX0 34 "SparrowChange$Flock" "owed" "[I" ∈ TB := TB_t 134 (by decide +kernel) rfl
theorem fl_X4_44 : Cond.fieldLink RX4 44 "SparrowChange$Flock" "owed" "[I" ∈ TB := TB_t 135 (by decide +kernel) rfl
theorem fl_X6_195 : Cond.fieldLink RX6 195 "SparrowChange$Flock" "owed" "[I" ∈ TB := TB_t 136 (by decide +kernel) rfl
theorem fl_X0_37 : Cond.fieldLink RX0 37 "SparrowChange$Flock" "places" "[I" ∈ TB := TB_t 137 (by decide +kernel) rfl
theorem cl_X6_36 : Cond.classLink RX6 36 RX2 ∈ TB := TB_t 157 (by decide +kernel) rfl
theorem ia_X2 : Cond.instantiable RX2 3 ∈ TB := TB_t 158 (by decide +kernel) rfl
theorem ml_X6_38 : Cond.methodLink RX6 38 yX2_init ∈ TB := TB_t 159 (by decide +kernel) rfl
theorem im_X2_init : Cond.instanceMethod yX2_init ∈ TB := TB_t 160 (by decide +kernel) rfl
set_option maxRecDepth 100000 in
theorem co_X2_init : Cond.code yX2_init cX2_init 2 none ∈ TB := TB_t 161 rfl rfl
theorem ml_X2_3 : Cond.methodLink RX2 3 (⟨"java/lang/Object", "<init>", "()V"⟩ : MethodName) ∈ TB := TB_t 162 (by decide +kernel) rfl
theorem cl_X2_9 : Cond.classLink RX2 9 RX0 ∈ TB := TB_t 163 (by decide +kernel) rfl
theorem fl_X2_11 : Cond.fieldLink RX2 11 "SparrowChange$Past" "flocks" "[LSparrowChange$Flock;" ∈ TB := TB_t 166 (by decide +kernel) rfl
theorem fl_X2_17 : Cond.fieldLink RX2 17 "SparrowChange$Past" "next" "I" ∈ TB := TB_t 167 (by decide +kernel) rfl
theorem fl_X2_21 : Cond.fieldLink RX2 21 "SparrowChange$Past" "size" "I" ∈ TB := TB_t 168 (by decide +kernel) rfl
theorem fl_X6_153 : Cond.fieldLink RX6 153 "SparrowChange$Past" "size" "I" ∈ TB := TB_t 169 (by decide +kernel) rfl
theorem cl_X6_55 : Cond.classLink RX6 55 RX4 ∈ TB := TB_t 177 (by decide +kernel) rfl
theorem ia_X4 : Cond.instantiable RX4 2 ∈ TB := TB_t 178 (by decide +kernel) rfl
theorem im_X4_init : Cond.instanceMethod yX4_init ∈ TB := TB_t 180 (by decide +kernel) rfl
set_option maxRecDepth 100000 in
theorem co_X4_init : Cond.code yX4_init cX4_init 1 none ∈ TB := TB_t 181 rfl rfl
theorem ml_X4_3 : Cond.methodLink RX4 3 (⟨"java/lang/Object", "<init>", "()V"⟩ : MethodName) ∈ TB := TB_t 182 (by decide +kernel) rfl
theorem fl_X4_9 : Cond.fieldLink RX4 9 "SparrowChange$Settling" "hats" "[I" ∈ TB := TB_t 183 (by decide +kernel) rfl
theorem fl_X4_15 : Cond.fieldLink RX4 15 "SparrowChange$Settling" "bestBySet" "[I" ∈ TB := TB_t 184 (by decide +kernel) rfl
theorem ac_boolean : Cond.arrayClass .boolean ∈ TB := TB_t 190 (by decide +kernel) rfl
theorem cl_X6_62 : Cond.classLink RX6 62 RX3 ∈ TB := TB_t 191 (by decide +kernel) rfl
theorem ia_X3 : Cond.instantiable RX3 8 ∈ TB := TB_t 192 (by decide +kernel) rfl
theorem im_X3_init : Cond.instanceMethod yX3_init ∈ TB := TB_t 194 (by decide +kernel) rfl
set_option maxRecDepth 100000 in
theorem co_X3_init : Cond.code yX3_init cX3_init 1 none ∈ TB := TB_t 195 rfl rfl
theorem ml_X3_3 : Cond.methodLink RX3 3 (⟨"java/lang/Object", "<init>", "()V"⟩ : MethodName) ∈ TB := TB_t 196 (by decide +kernel) rfl
theorem fl_X3_9 : Cond.fieldLink RX3 9 "SparrowChange$Seen" "watched" "[I" ∈ TB := TB_t 197 (by decide +kernel) rfl
theorem fl_X3_15 : Cond.fieldLink RX3 15 "SparrowChange$Seen" "doorsOff" "[I" ∈ TB := TB_t 198 (by decide +kernel) rfl
theorem fl_X3_18 : Cond.fieldLink RX3 18 "SparrowChange$Seen" "wasFelt" "[Z" ∈ TB := TB_t 199 (by decide +kernel) rfl
theorem fl_X3_22 : Cond.fieldLink RX3 22 "SparrowChange$Seen" "entryPerson" "[I" ∈ TB := TB_t 200 (by decide +kernel) rfl
theorem fl_X3_25 : Cond.fieldLink RX3 25 "SparrowChange$Seen" "entryBirds" "[I" ∈ TB := TB_t 201 (by decide +kernel) rfl
theorem fl_X3_28 : Cond.fieldLink RX3 28 "SparrowChange$Seen" "watches" "I" ∈ TB := TB_t 202 (by decide +kernel) rfl
theorem fl_X6_144 : Cond.fieldLink RX6 144 "SparrowChange$Seen" "watches" "I" ∈ TB := TB_t 203 (by decide +kernel) rfl
theorem fl_X3_32 : Cond.fieldLink RX3 32 "SparrowChange$Seen" "feelings" "I" ∈ TB := TB_t 204 (by decide +kernel) rfl
theorem fl_X6_147 : Cond.fieldLink RX6 147 "SparrowChange$Seen" "feelings" "I" ∈ TB := TB_t 205 (by decide +kernel) rfl
theorem fl_X3_35 : Cond.fieldLink RX3 35 "SparrowChange$Seen" "entries" "I" ∈ TB := TB_t 206 (by decide +kernel) rfl
theorem fl_X6_150 : Cond.fieldLink RX6 150 "SparrowChange$Seen" "entries" "I" ∈ TB := TB_t 207 (by decide +kernel) rfl
theorem fl_X6_10 : Cond.fieldLink RX6 10 "SparrowChange" "text" "LSparrowChange$Text;" ∈ TB := TB_t 225 (by decide +kernel) rfl
theorem fl_X6_19 : Cond.fieldLink RX6 19 "SparrowChange" "here" "LSparrowChange$Parish;" ∈ TB := TB_t 226 (by decide +kernel) rfl
theorem fl_X6_23 : Cond.fieldLink RX6 23 "SparrowChange" "draft" "LSparrowChange$Parish;" ∈ TB := TB_t 227 (by decide +kernel) rfl
theorem fl_X6_29 : Cond.fieldLink RX6 29 "SparrowChange" "now" "LSparrowChange$Flock;" ∈ TB := TB_t 228 (by decide +kernel) rfl
theorem fl_X6_33 : Cond.fieldLink RX6 33 "SparrowChange" "trial" "LSparrowChange$Flock;" ∈ TB := TB_t 229 (by decide +kernel) rfl
theorem fl_X6_39 : Cond.fieldLink RX6 39 "SparrowChange" "past" "LSparrowChange$Past;" ∈ TB := TB_t 230 (by decide +kernel) rfl
theorem fl_X6_43 : Cond.fieldLink RX6 43 "SparrowChange" "images" "[LSparrowChange$Flock;" ∈ TB := TB_t 231 (by decide +kernel) rfl
theorem fl_X6_47 : Cond.fieldLink RX6 47 "SparrowChange" "imageSeeds" "[I" ∈ TB := TB_t 232 (by decide +kernel) rfl
theorem fl_X6_51 : Cond.fieldLink RX6 51 "SparrowChange" "imageThere" "[Z" ∈ TB := TB_t 233 (by decide +kernel) rfl
theorem fl_X6_58 : Cond.fieldLink RX6 58 "SparrowChange" "settling" "LSparrowChange$Settling;" ∈ TB := TB_t 234 (by decide +kernel) rfl
theorem fl_X6_65 : Cond.fieldLink RX6 65 "SparrowChange" "seen" "LSparrowChange$Seen;" ∈ TB := TB_t 235 (by decide +kernel) rfl
theorem fl_X6_69 : Cond.fieldLink RX6 69 "SparrowChange" "owedOnward" "[I" ∈ TB := TB_t 236 (by decide +kernel) rfl
theorem fl_X6_72 : Cond.fieldLink RX6 72 "SparrowChange" "theSeed" "I" ∈ TB := TB_t 237 (by decide +kernel) rfl
theorem ml_L_13 : Cond.methodLink RL 13 yX6_feed ∈ TB := TB_t 265 (by decide +kernel) rfl
theorem im_X6_feed : Cond.instanceMethod yX6_feed ∈ TB := TB_t 266 (by decide +kernel) rfl
theorem se_X6_feed : Cond.selects RX6 yX6_feed yX6_feed ∈ TB := TB_t 267 (by decide +kernel) rfl
set_option maxRecDepth 100000 in
theorem co_X6_feed : Cond.code yX6_feed cX6_feed 2 (some .int) ∈ TB := TB_t 268 rfl rfl
theorem ml_X6_76 : Cond.methodLink RX6 76 yX6_isOutside ∈ TB := TB_t 269 (by decide +kernel) rfl
theorem sm_X6_isOutside : Cond.static yX6_isOutside ∈ TB := TB_t 270 (by decide +kernel) rfl
set_option maxRecDepth 100000 in
theorem co_X6_isOutside : Cond.code yX6_isOutside cX6_isOutside 3 (some .boolean) ∈ TB := TB_t 271 rfl rfl
theorem kc_X6_80 : Cond.constant RX6 80 (-1000000002) ∈ TB := TB_t 272 (by decide +kernel) rfl
theorem kc_X6_84 : Cond.constant RX6 84 (-1000000004) ∈ TB := TB_t 273 (by decide +kernel) rfl
theorem ml_X6_85 : Cond.methodLink RX6 85 yX5_append ∈ TB := TB_t 274 (by decide +kernel) rfl
theorem im_X5_append : Cond.instanceMethod yX5_append ∈ TB := TB_t 275 (by decide +kernel) rfl
theorem se_X5_append : Cond.selects RX5 yX5_append yX5_append ∈ TB := TB_t 276 (by decide +kernel) rfl
set_option maxRecDepth 100000 in
theorem co_X5_append : Cond.code yX5_append cX5_append 2 (some .int) ∈ TB := TB_t 277 rfl rfl
theorem ml_L_18 : Cond.methodLink RL 18 yX6_parish ∈ TB := TB_t 278 (by decide +kernel) rfl
theorem im_X6_parish : Cond.instanceMethod yX6_parish ∈ TB := TB_t 279 (by decide +kernel) rfl
theorem se_X6_parish : Cond.selects RX6 yX6_parish yX6_parish ∈ TB := TB_t 280 (by decide +kernel) rfl
set_option maxRecDepth 100000 in
theorem co_X6_parish : Cond.code yX6_parish cX6_parish 4 (some .int) ∈ TB := TB_t 281 rfl rfl
theorem ml_X6_89 : Cond.methodLink RX6 89 yX5_readInto ∈ TB := TB_t 282 (by decide +kernel) rfl
theorem im_X5_readInto : Cond.instanceMethod yX5_readInto ∈ TB := TB_t 283 (by decide +kernel) rfl
theorem se_X5_readInto : Cond.selects RX5 yX5_readInto yX5_readInto ∈ TB := TB_t 284 (by decide +kernel) rfl
set_option maxRecDepth 100000 in
theorem co_X5_readInto : Cond.code yX5_readInto cX5_readInto 3 (some .int) ∈ TB := TB_t 285 rfl rfl
theorem ml_X5_31 : Cond.methodLink RX5 31 yX1_clear ∈ TB := TB_t 286 (by decide +kernel) rfl
theorem im_X1_clear : Cond.instanceMethod yX1_clear ∈ TB := TB_t 287 (by decide +kernel) rfl
theorem se_X1_clear : Cond.selects RX1 yX1_clear yX1_clear ∈ TB := TB_t 288 (by decide +kernel) rfl
set_option maxRecDepth 100000 in
theorem co_X1_clear : Cond.code yX1_clear cX1_clear 1 none ∈ TB := TB_t 289 rfl rfl
theorem ml_X5_36 : Cond.methodLink RX5 36 yX5_skipBlanks ∈ TB := TB_t 290 (by decide +kernel) rfl
theorem im_X5_skipBlanks : Cond.instanceMethod yX5_skipBlanks ∈ TB := TB_t 292 (by decide +kernel) rfl
set_option maxRecDepth 100000 in
theorem co_X5_skipBlanks : Cond.code yX5_skipBlanks cX5_skipBlanks 1 none ∈ TB := TB_t 293 rfl rfl
theorem ml_X5_39 : Cond.methodLink RX5 39 yX5_readClause ∈ TB := TB_t 294 (by decide +kernel) rfl
theorem im_X5_readClause : Cond.instanceMethod yX5_readClause ∈ TB := TB_t 296 (by decide +kernel) rfl
set_option maxRecDepth 100000 in
theorem co_X5_readClause : Cond.code yX5_readClause cX5_readClause 4 none ∈ TB := TB_t 297 rfl rfl
theorem ml_X5_43 : Cond.methodLink RX5 43 yX5_faultOfWord ∈ TB := TB_t 298 (by decide +kernel) rfl
theorem sm_X5_faultOfWord : Cond.static yX5_faultOfWord ∈ TB := TB_t 299 (by decide +kernel) rfl
set_option maxRecDepth 100000 in
theorem co_X5_faultOfWord : Cond.code yX5_faultOfWord cX5_faultOfWord 2 (some .int) ∈ TB := TB_t 300 rfl rfl
theorem ml_X5_47 : Cond.methodLink RX5 47 yX5_noteFault ∈ TB := TB_t 301 (by decide +kernel) rfl
theorem im_X5_noteFault : Cond.instanceMethod yX5_noteFault ∈ TB := TB_t 303 (by decide +kernel) rfl
set_option maxRecDepth 100000 in
theorem co_X5_noteFault : Cond.code yX5_noteFault cX5_noteFault 3 none ∈ TB := TB_t 304 rfl rfl
theorem ml_X5_51 : Cond.methodLink RX5 51 yX5_readTree ∈ TB := TB_t 305 (by decide +kernel) rfl
theorem im_X5_readTree : Cond.instanceMethod yX5_readTree ∈ TB := TB_t 307 (by decide +kernel) rfl
set_option maxRecDepth 100000 in
theorem co_X5_readTree : Cond.code yX5_readTree cX5_readTree 4 none ∈ TB := TB_t 308 rfl rfl
theorem ml_X5_70 : Cond.methodLink RX5 70 yX5_readNumber ∈ TB := TB_t 309 (by decide +kernel) rfl
theorem im_X5_readNumber : Cond.instanceMethod yX5_readNumber ∈ TB := TB_t 311 (by decide +kernel) rfl
set_option maxRecDepth 100000 in
theorem co_X5_readNumber : Cond.code yX5_readNumber cX5_readNumber 4 (some .int) ∈ TB := TB_t 312 rfl rfl
theorem ml_X5_74 : Cond.methodLink RX5 74 yX5_readEnd ∈ TB := TB_t 314 (by decide +kernel) rfl
theorem im_X5_readEnd : Cond.instanceMethod yX5_readEnd ∈ TB := TB_t 316 (by decide +kernel) rfl
set_option maxRecDepth 100000 in
theorem co_X5_readEnd : Cond.code yX5_readEnd cX5_readEnd 1 none ∈ TB := TB_t 317 rfl rfl
theorem ml_X5_77 : Cond.methodLink RX5 77 yX1_setTree ∈ TB := TB_t 318 (by decide +kernel) rfl
theorem im_X1_setTree : Cond.instanceMethod yX1_setTree ∈ TB := TB_t 319 (by decide +kernel) rfl
theorem se_X1_setTree : Cond.selects RX1 yX1_setTree yX1_setTree ∈ TB := TB_t 320 (by decide +kernel) rfl
set_option maxRecDepth 100000 in
theorem co_X1_setTree : Cond.code yX1_setTree cX1_setTree 3 none ∈ TB := TB_t 321 rfl rfl
theorem ml_X5_54 : Cond.methodLink RX5 54 yX5_readPerson ∈ TB := TB_t 322 (by decide +kernel) rfl
theorem im_X5_readPerson : Cond.instanceMethod yX5_readPerson ∈ TB := TB_t 324 (by decide +kernel) rfl
set_option maxRecDepth 100000 in
theorem co_X5_readPerson : Cond.code yX5_readPerson cX5_readPerson 5 none ∈ TB := TB_t 325 rfl rfl
theorem ml_X5_80 : Cond.methodLink RX5 80 yX1_addPerson ∈ TB := TB_t 326 (by decide +kernel) rfl
theorem im_X1_addPerson : Cond.instanceMethod yX1_addPerson ∈ TB := TB_t 327 (by decide +kernel) rfl
theorem se_X1_addPerson : Cond.selects RX1 yX1_addPerson yX1_addPerson ∈ TB := TB_t 328 (by decide +kernel) rfl
set_option maxRecDepth 100000 in
theorem co_X1_addPerson : Cond.code yX1_addPerson cX1_addPerson 4 none ∈ TB := TB_t 329 rfl rfl
theorem ml_X5_57 : Cond.methodLink RX5 57 yX5_readDebt ∈ TB := TB_t 330 (by decide +kernel) rfl
theorem im_X5_readDebt : Cond.instanceMethod yX5_readDebt ∈ TB := TB_t 332 (by decide +kernel) rfl
set_option maxRecDepth 100000 in
theorem co_X5_readDebt : Cond.code yX5_readDebt cX5_readDebt 5 none ∈ TB := TB_t 333 rfl rfl
theorem ml_X5_84 : Cond.methodLink RX5 84 yX1_addDebt ∈ TB := TB_t 334 (by decide +kernel) rfl
theorem im_X1_addDebt : Cond.instanceMethod yX1_addDebt ∈ TB := TB_t 335 (by decide +kernel) rfl
theorem se_X1_addDebt : Cond.selects RX1 yX1_addDebt yX1_addDebt ∈ TB := TB_t 336 (by decide +kernel) rfl
set_option maxRecDepth 100000 in
theorem co_X1_addDebt : Cond.code yX1_addDebt cX1_addDebt 4 none ∈ TB := TB_t 337 rfl rfl
theorem ml_X6_93 : Cond.methodLink RX6 93 yX0_begin ∈ TB := TB_t 338 (by decide +kernel) rfl
theorem im_X0_begin : Cond.instanceMethod yX0_begin ∈ TB := TB_t 339 (by decide +kernel) rfl
theorem se_X0_begin : Cond.selects RX0 yX0_begin yX0_begin ∈ TB := TB_t 340 (by decide +kernel) rfl
set_option maxRecDepth 100000 in
theorem co_X0_begin : Cond.code yX0_begin cX0_begin 3 none ∈ TB := TB_t 341 rfl rfl
theorem ml_X0_47 : Cond.methodLink RX0 47 yX1_hasPerson ∈ TB := TB_t 342 (by decide +kernel) rfl
theorem im_X1_hasPerson : Cond.instanceMethod yX1_hasPerson ∈ TB := TB_t 343 (by decide +kernel) rfl
theorem se_X1_hasPerson : Cond.selects RX1 yX1_hasPerson yX1_hasPerson ∈ TB := TB_t 344 (by decide +kernel) rfl
set_option maxRecDepth 100000 in
theorem co_X1_hasPerson : Cond.code yX1_hasPerson cX1_hasPerson 2 (some .boolean) ∈ TB := TB_t 345 rfl rfl
theorem ml_X0_52 : Cond.methodLink RX0 52 yX1_hasDebt ∈ TB := TB_t 346 (by decide +kernel) rfl
theorem im_X1_hasDebt : Cond.instanceMethod yX1_hasDebt ∈ TB := TB_t 347 (by decide +kernel) rfl
theorem se_X1_hasDebt : Cond.selects RX1 yX1_hasDebt yX1_hasDebt ∈ TB := TB_t 348 (by decide +kernel) rfl
set_option maxRecDepth 100000 in
theorem co_X1_hasDebt : Cond.code yX1_hasDebt cX1_hasDebt 2 (some .boolean) ∈ TB := TB_t 349 rfl rfl
theorem ml_X0_56 : Cond.methodLink RX0 56 yX0_notePlace ∈ TB := TB_t 350 (by decide +kernel) rfl
theorem im_X0_notePlace : Cond.instanceMethod yX0_notePlace ∈ TB := TB_t 352 (by decide +kernel) rfl
set_option maxRecDepth 100000 in
theorem co_X0_notePlace : Cond.code yX0_notePlace cX0_notePlace 1 none ∈ TB := TB_t 353 rfl rfl
theorem ml_X0_69 : Cond.methodLink RX0 69 yJ9_floorMod_7cf53 ∈ TB := TB_t 354 (by decide +kernel) rfl
theorem sm_J9_floorMod_7cf53 : Cond.static yJ9_floorMod_7cf53 ∈ TB := TB_t 355 (by decide +kernel) rfl
set_option maxRecDepth 100000 in
theorem co_J9_floorMod_7cf53 : Cond.code yJ9_floorMod_7cf53 cJ9_floorMod_7cf53 3 (some .int) ∈ TB := TB_t 356 rfl rfl
theorem ml_X6_97 : Cond.methodLink RX6 97 yX2_forget ∈ TB := TB_t 357 (by decide +kernel) rfl
theorem im_X2_forget : Cond.instanceMethod yX2_forget ∈ TB := TB_t 358 (by decide +kernel) rfl
theorem se_X2_forget : Cond.selects RX2 yX2_forget yX2_forget ∈ TB := TB_t 359 (by decide +kernel) rfl
set_option maxRecDepth 100000 in
theorem co_X2_forget : Cond.code yX2_forget cX2_forget 1 none ∈ TB := TB_t 360 rfl rfl
theorem ml_X6_100 : Cond.methodLink RX6 100 yX3_forget ∈ TB := TB_t 361 (by decide +kernel) rfl
theorem im_X3_forget : Cond.instanceMethod yX3_forget ∈ TB := TB_t 362 (by decide +kernel) rfl
theorem se_X3_forget : Cond.selects RX3 yX3_forget yX3_forget ∈ TB := TB_t 363 (by decide +kernel) rfl
set_option maxRecDepth 100000 in
theorem co_X3_forget : Cond.code yX3_forget cX3_forget 1 none ∈ TB := TB_t 364 rfl rfl
theorem ml_L_23 : Cond.methodLink RL 23 yX6_fault ∈ TB := TB_t 365 (by decide +kernel) rfl
theorem im_X6_fault : Cond.instanceMethod yX6_fault ∈ TB := TB_t 366 (by decide +kernel) rfl
theorem se_X6_fault : Cond.selects RX6 yX6_fault yX6_fault ∈ TB := TB_t 367 (by decide +kernel) rfl
set_option maxRecDepth 100000 in
theorem co_X6_fault : Cond.code yX6_fault cX6_fault 1 (some .int) ∈ TB := TB_t 368 rfl rfl
theorem ml_L_27 : Cond.methodLink RL 27 yX6_told ∈ TB := TB_t 369 (by decide +kernel) rfl
theorem im_X6_told : Cond.instanceMethod yX6_told ∈ TB := TB_t 370 (by decide +kernel) rfl
theorem se_X6_told : Cond.selects RX6 yX6_told yX6_told ∈ TB := TB_t 371 (by decide +kernel) rfl
set_option maxRecDepth 100000 in
theorem co_X6_told : Cond.code yX6_told cX6_told 2 (some .int) ∈ TB := TB_t 372 rfl rfl
theorem ml_X6_119 : Cond.methodLink RX6 119 yX0_inAllHats ∈ TB := TB_t 373 (by decide +kernel) rfl
theorem im_X0_inAllHats : Cond.instanceMethod yX0_inAllHats ∈ TB := TB_t 374 (by decide +kernel) rfl
theorem se_X0_inAllHats : Cond.selects RX0 yX0_inAllHats yX0_inAllHats ∈ TB := TB_t 375 (by decide +kernel) rfl
set_option maxRecDepth 100000 in
theorem co_X0_inAllHats : Cond.code yX0_inAllHats cX0_inAllHats 3 (some .int) ∈ TB := TB_t 376 rfl rfl
theorem ml_X6_129 : Cond.methodLink RX6 129 yX0_placesKnown ∈ TB := TB_t 377 (by decide +kernel) rfl
theorem im_X0_placesKnown : Cond.instanceMethod yX0_placesKnown ∈ TB := TB_t 378 (by decide +kernel) rfl
theorem se_X0_placesKnown : Cond.selects RX0 yX0_placesKnown yX0_placesKnown ∈ TB := TB_t 379 (by decide +kernel) rfl
set_option maxRecDepth 100000 in
theorem co_X0_placesKnown : Cond.code yX0_placesKnown cX0_placesKnown 1 (some .int) ∈ TB := TB_t 380 rfl rfl
theorem ml_X0_75 : Cond.methodLink RX0 75 yJ9_min_7cf53 ∈ TB := TB_t 381 (by decide +kernel) rfl
theorem sm_J9_min_7cf53 : Cond.static yJ9_min_7cf53 ∈ TB := TB_t 382 (by decide +kernel) rfl
set_option maxRecDepth 100000 in
theorem co_J9_min_7cf53 : Cond.code yJ9_min_7cf53 cJ9_min_7cf53 2 (some .int) ∈ TB := TB_t 383 rfl rfl
theorem ml_X6_132 : Cond.methodLink RX6 132 yX6_richest ∈ TB := TB_t 384 (by decide +kernel) rfl
theorem im_X6_richest : Cond.instanceMethod yX6_richest ∈ TB := TB_t 386 (by decide +kernel) rfl
set_option maxRecDepth 100000 in
theorem co_X6_richest : Cond.code yX6_richest cX6_richest 4 (some .int) ∈ TB := TB_t 387 rfl rfl
theorem ml_X6_135 : Cond.methodLink RX6 135 yX6_rings ∈ TB := TB_t 388 (by decide +kernel) rfl
theorem im_X6_rings : Cond.instanceMethod yX6_rings ∈ TB := TB_t 390 (by decide +kernel) rfl
set_option maxRecDepth 100000 in
theorem co_X6_rings : Cond.code yX6_rings cX6_rings 3 (some .int) ∈ TB := TB_t 391 rfl rfl
theorem ml_X6_312 : Cond.methodLink RX6 312 yX6_creditorsOf ∈ TB := TB_t 392 (by decide +kernel) rfl
theorem im_X6_creditorsOf : Cond.instanceMethod yX6_creditorsOf ∈ TB := TB_t 394 (by decide +kernel) rfl
set_option maxRecDepth 100000 in
theorem co_X6_creditorsOf : Cond.code yX6_creditorsOf cX6_creditorsOf 4 (some .int) ∈ TB := TB_t 395 rfl rfl
theorem ml_X6_315 : Cond.methodLink RX6 315 yX6_has ∈ TB := TB_t 396 (by decide +kernel) rfl
theorem sm_X6_has : Cond.static yX6_has ∈ TB := TB_t 397 (by decide +kernel) rfl
set_option maxRecDepth 100000 in
theorem co_X6_has : Cond.code yX6_has cX6_has 2 (some .boolean) ∈ TB := TB_t 398 rfl rfl
theorem ml_X6_138 : Cond.methodLink RX6 138 yX6_owedInAll ∈ TB := TB_t 399 (by decide +kernel) rfl
theorem im_X6_owedInAll : Cond.instanceMethod yX6_owedInAll ∈ TB := TB_t 401 (by decide +kernel) rfl
set_option maxRecDepth 100000 in
theorem co_X6_owedInAll : Cond.code yX6_owedInAll cX6_owedInAll 3 (some .int) ∈ TB := TB_t 402 rfl rfl
theorem ml_X6_141 : Cond.methodLink RX6 141 yX6_suspects ∈ TB := TB_t 403 (by decide +kernel) rfl
theorem im_X6_suspects : Cond.instanceMethod yX6_suspects ∈ TB := TB_t 405 (by decide +kernel) rfl
set_option maxRecDepth 100000 in
theorem co_X6_suspects : Cond.code yX6_suspects cX6_suspects 3 (some .int) ∈ TB := TB_t 406 rfl rfl
theorem ml_X6_319 : Cond.methodLink RX6 319 yX0_drawnBy ∈ TB := TB_t 407 (by decide +kernel) rfl
theorem im_X0_drawnBy : Cond.instanceMethod yX0_drawnBy ∈ TB := TB_t 408 (by decide +kernel) rfl
theorem se_X0_drawnBy : Cond.selects RX0 yX0_drawnBy yX0_drawnBy ∈ TB := TB_t 409 (by decide +kernel) rfl
set_option maxRecDepth 100000 in
theorem co_X0_drawnBy : Cond.code yX0_drawnBy cX0_drawnBy 5 (some .int) ∈ TB := TB_t 410 rfl rfl
theorem ml_X0_115 : Cond.methodLink RX0 115 yX0_loss ∈ TB := TB_t 411 (by decide +kernel) rfl
theorem im_X0_loss : Cond.instanceMethod yX0_loss ∈ TB := TB_t 412 (by decide +kernel) rfl
theorem se_X0_loss : Cond.selects RX0 yX0_loss yX0_loss ∈ TB := TB_t 413 (by decide +kernel) rfl
set_option maxRecDepth 100000 in
theorem co_X0_loss : Cond.code yX0_loss cX0_loss 6 (some .int) ∈ TB := TB_t 414 rfl rfl
theorem ml_X0_105 : Cond.methodLink RX0 105 yX0_hasNet ∈ TB := TB_t 415 (by decide +kernel) rfl
theorem im_X0_hasNet : Cond.instanceMethod yX0_hasNet ∈ TB := TB_t 416 (by decide +kernel) rfl
theorem se_X0_hasNet : Cond.selects RX0 yX0_hasNet yX0_hasNet ∈ TB := TB_t 417 (by decide +kernel) rfl
set_option maxRecDepth 100000 in
theorem co_X0_hasNet : Cond.code yX0_hasNet cX0_hasNet 2 (some .boolean) ∈ TB := TB_t 418 rfl rfl
theorem ml_X6_323 : Cond.methodLink RX6 323 yX3_allWatchedAre ∈ TB := TB_t 420 (by decide +kernel) rfl
theorem im_X3_allWatchedAre : Cond.instanceMethod yX3_allWatchedAre ∈ TB := TB_t 421 (by decide +kernel) rfl
theorem se_X3_allWatchedAre : Cond.selects RX3 yX3_allWatchedAre yX3_allWatchedAre ∈ TB := TB_t 422 (by decide +kernel) rfl
set_option maxRecDepth 100000 in
theorem co_X3_allWatchedAre : Cond.code yX3_allWatchedAre cX3_allWatchedAre 3 (some .boolean) ∈ TB := TB_t 423 rfl rfl
theorem ml_L_31 : Cond.methodLink RL 31 yX6_person ∈ TB := TB_t 424 (by decide +kernel) rfl
theorem im_X6_person : Cond.instanceMethod yX6_person ∈ TB := TB_t 425 (by decide +kernel) rfl
theorem se_X6_person : Cond.selects RX6 yX6_person yX6_person ∈ TB := TB_t 426 (by decide +kernel) rfl
set_option maxRecDepth 100000 in
theorem co_X6_person : Cond.code yX6_person cX6_person 3 (some .int) ∈ TB := TB_t 427 rfl rfl
theorem ml_X6_156 : Cond.methodLink RX6 156 yX1_hasPerson ∈ TB := TB_t 428 (by decide +kernel) rfl
theorem kc_X6_160 : Cond.constant RX6 160 (-1000000001) ∈ TB := TB_t 429 (by decide +kernel) rfl
theorem ml_X6_173 : Cond.methodLink RX6 173 yX0_hasNet ∈ TB := TB_t 430 (by decide +kernel) rfl
theorem ml_X6_176 : Cond.methodLink RX6 176 yX6_owedBy ∈ TB := TB_t 431 (by decide +kernel) rfl
theorem im_X6_owedBy : Cond.instanceMethod yX6_owedBy ∈ TB := TB_t 433 (by decide +kernel) rfl
set_option maxRecDepth 100000 in
theorem co_X6_owedBy : Cond.code yX6_owedBy cX6_owedBy 4 (some .int) ∈ TB := TB_t 434 rfl rfl
theorem ml_X6_179 : Cond.methodLink RX6 179 yX6_owedTo ∈ TB := TB_t 435 (by decide +kernel) rfl
theorem im_X6_owedTo : Cond.instanceMethod yX6_owedTo ∈ TB := TB_t 437 (by decide +kernel) rfl
set_option maxRecDepth 100000 in
theorem co_X6_owedTo : Cond.code yX6_owedTo cX6_owedTo 4 (some .int) ∈ TB := TB_t 438 rfl rfl
theorem ml_X6_182 : Cond.methodLink RX6 182 yX0_loss ∈ TB := TB_t 439 (by decide +kernel) rfl
theorem ml_L_36 : Cond.methodLink RL 36 yX6_debt ∈ TB := TB_t 440 (by decide +kernel) rfl
theorem im_X6_debt : Cond.instanceMethod yX6_debt ∈ TB := TB_t 441 (by decide +kernel) rfl
theorem se_X6_debt : Cond.selects RX6 yX6_debt yX6_debt ∈ TB := TB_t 442 (by decide +kernel) rfl
set_option maxRecDepth 100000 in
theorem co_X6_debt : Cond.code yX6_debt cX6_debt 3 (some .int) ∈ TB := TB_t 443 rfl rfl
theorem ml_X6_186 : Cond.methodLink RX6 186 yX1_hasDebt ∈ TB := TB_t 444 (by decide +kernel) rfl
theorem ml_L_40 : Cond.methodLink RL 40 yX6_trace ∈ TB := TB_t 445 (by decide +kernel) rfl
theorem im_X6_trace : Cond.instanceMethod yX6_trace ∈ TB := TB_t 446 (by decide +kernel) rfl
theorem se_X6_trace : Cond.selects RX6 yX6_trace yX6_trace ∈ TB := TB_t 447 (by decide +kernel) rfl
set_option maxRecDepth 100000 in
theorem co_X6_trace : Cond.code yX6_trace cX6_trace 2 (some .int) ∈ TB := TB_t 448 rfl rfl
theorem ml_X6_198 : Cond.methodLink RX6 198 yX0_placeBack ∈ TB := TB_t 449 (by decide +kernel) rfl
theorem im_X0_placeBack : Cond.instanceMethod yX0_placeBack ∈ TB := TB_t 450 (by decide +kernel) rfl
theorem se_X0_placeBack : Cond.selects RX0 yX0_placeBack yX0_placeBack ∈ TB := TB_t 451 (by decide +kernel) rfl
set_option maxRecDepth 100000 in
theorem co_X0_placeBack : Cond.code yX0_placeBack cX0_placeBack 2 (some .int) ∈ TB := TB_t 452 rfl rfl
theorem ml_X0_78 : Cond.methodLink RX0 78 yX0_placesKnown ∈ TB := TB_t 453 (by decide +kernel) rfl
theorem ml_L_44 : Cond.methodLink RL 44 yX6_count ∈ TB := TB_t 454 (by decide +kernel) rfl
theorem im_X6_count : Cond.instanceMethod yX6_count ∈ TB := TB_t 455 (by decide +kernel) rfl
theorem se_X6_count : Cond.selects RX6 yX6_count yX6_count ∈ TB := TB_t 456 (by decide +kernel) rfl
set_option maxRecDepth 100000 in
theorem co_X6_count : Cond.code yX6_count cX6_count 3 (some .int) ∈ TB := TB_t 457 rfl rfl
theorem kc_X6_201 : Cond.constant RX6 201 (-1000000003) ∈ TB := TB_t 458 (by decide +kernel) rfl
theorem ml_X6_202 : Cond.methodLink RX6 202 yX2_remember ∈ TB := TB_t 459 (by decide +kernel) rfl
theorem im_X2_remember : Cond.instanceMethod yX2_remember ∈ TB := TB_t 460 (by decide +kernel) rfl
theorem se_X2_remember : Cond.selects RX2 yX2_remember yX2_remember ∈ TB := TB_t 461 (by decide +kernel) rfl
set_option maxRecDepth 100000 in
theorem co_X2_remember : Cond.code yX2_remember cX2_remember 2 none ∈ TB := TB_t 462 rfl rfl
theorem ml_X2_25 : Cond.methodLink RX2 25 yX0_copyFrom ∈ TB := TB_t 463 (by decide +kernel) rfl
theorem im_X0_copyFrom : Cond.instanceMethod yX0_copyFrom ∈ TB := TB_t 464 (by decide +kernel) rfl
theorem se_X0_copyFrom : Cond.selects RX0 yX0_copyFrom yX0_copyFrom ∈ TB := TB_t 465 (by decide +kernel) rfl
set_option maxRecDepth 100000 in
theorem co_X0_copyFrom : Cond.code yX0_copyFrom cX0_copyFrom 2 none ∈ TB := TB_t 466 rfl rfl
theorem ml_X0_59 : Cond.methodLink RX0 59 (⟨"java/lang/System", "arraycopy", "(Ljava/lang/Object;ILjava/lang/Object;II)V"⟩ : MethodName) ∈ TB := TB_t 467 (by decide +kernel) rfl
theorem sm_Obj : Cond.static (⟨"java/lang/System", "arraycopy", "(Ljava/lang/Object;ILjava/lang/Object;II)V"⟩ : MethodName) ∈ TB := TB_t 468 (by decide +kernel) rfl
theorem nat_arraycopy : Cond.native arraycopyName ∈ TB := TB_t 469 (by decide +kernel) rfl
theorem ml_X2_29 : Cond.methodLink RX2 29 yJ9_min_7cf53 ∈ TB := TB_t 470 (by decide +kernel) rfl
theorem ml_X6_206 : Cond.methodLink RX6 206 yX0_move ∈ TB := TB_t 471 (by decide +kernel) rfl
theorem im_X0_move : Cond.instanceMethod yX0_move ∈ TB := TB_t 472 (by decide +kernel) rfl
theorem se_X0_move : Cond.selects RX0 yX0_move yX0_move ∈ TB := TB_t 473 (by decide +kernel) rfl
set_option maxRecDepth 100000 in
theorem co_X0_move : Cond.code yX0_move cX0_move 4 none ∈ TB := TB_t 474 rfl rfl
theorem ml_X0_82 : Cond.methodLink RX0 82 yX0_changeBy ∈ TB := TB_t 475 (by decide +kernel) rfl
theorem im_X0_changeBy : Cond.instanceMethod yX0_changeBy ∈ TB := TB_t 477 (by decide +kernel) rfl
set_option maxRecDepth 100000 in
theorem co_X0_changeBy : Cond.code yX0_changeBy cX0_changeBy 3 none ∈ TB := TB_t 478 rfl rfl
theorem ml_L_48 : Cond.methodLink RL 48 yX6_pay ∈ TB := TB_t 479 (by decide +kernel) rfl
theorem im_X6_pay : Cond.instanceMethod yX6_pay ∈ TB := TB_t 480 (by decide +kernel) rfl
theorem se_X6_pay : Cond.selects RX6 yX6_pay yX6_pay ∈ TB := TB_t 481 (by decide +kernel) rfl
set_option maxRecDepth 100000 in
theorem co_X6_pay : Cond.code yX6_pay cX6_pay 4 (some .int) ∈ TB := TB_t 482 rfl rfl
theorem ml_X6_210 : Cond.methodLink RX6 210 yX0_lessenDebts ∈ TB := TB_t 483 (by decide +kernel) rfl
theorem im_X0_lessenDebts : Cond.instanceMethod yX0_lessenDebts ∈ TB := TB_t 484 (by decide +kernel) rfl
theorem se_X0_lessenDebts : Cond.selects RX0 yX0_lessenDebts yX0_lessenDebts ∈ TB := TB_t 485 (by decide +kernel) rfl
set_option maxRecDepth 100000 in
theorem co_X0_lessenDebts : Cond.code yX0_lessenDebts cX0_lessenDebts 9 (some .int) ∈ TB := TB_t 486 rfl rfl
theorem ml_L_53 : Cond.methodLink RL 53 yX6_strew ∈ TB := TB_t 487 (by decide +kernel) rfl
theorem im_X6_strew : Cond.instanceMethod yX6_strew ∈ TB := TB_t 488 (by decide +kernel) rfl
theorem se_X6_strew : Cond.selects RX6 yX6_strew yX6_strew ∈ TB := TB_t 489 (by decide +kernel) rfl
set_option maxRecDepth 100000 in
theorem co_X6_strew : Cond.code yX6_strew cX6_strew 3 (some .int) ∈ TB := TB_t 490 rfl rfl
theorem ml_X6_214 : Cond.methodLink RX6 214 yX0_addCrumbs ∈ TB := TB_t 491 (by decide +kernel) rfl
theorem im_X0_addCrumbs : Cond.instanceMethod yX0_addCrumbs ∈ TB := TB_t 492 (by decide +kernel) rfl
theorem se_X0_addCrumbs : Cond.selects RX0 yX0_addCrumbs yX0_addCrumbs ∈ TB := TB_t 493 (by decide +kernel) rfl
set_option maxRecDepth 100000 in
theorem co_X0_addCrumbs : Cond.code yX0_addCrumbs cX0_addCrumbs 3 none ∈ TB := TB_t 494 rfl rfl
theorem ml_L_57 : Cond.methodLink RL 57 yX6_net ∈ TB := TB_t 495 (by decide +kernel) rfl
theorem im_X6_net : Cond.instanceMethod yX6_net ∈ TB := TB_t 496 (by decide +kernel) rfl
theorem se_X6_net : Cond.selects RX6 yX6_net yX6_net ∈ TB := TB_t 497 (by decide +kernel) rfl
set_option maxRecDepth 100000 in
theorem co_X6_net : Cond.code yX6_net cX6_net 5 (some .int) ∈ TB := TB_t 498 rfl rfl
theorem ml_L_62 : Cond.methodLink RL 62 yX6_hawk ∈ TB := TB_t 499 (by decide +kernel) rfl
theorem im_X6_hawk : Cond.instanceMethod yX6_hawk ∈ TB := TB_t 500 (by decide +kernel) rfl
theorem se_X6_hawk : Cond.selects RX6 yX6_hawk yX6_hawk ∈ TB := TB_t 501 (by decide +kernel) rfl
set_option maxRecDepth 100000 in
theorem co_X6_hawk : Cond.code yX6_hawk cX6_hawk 3 (some .int) ∈ TB := TB_t 502 rfl rfl
theorem ml_X6_222 : Cond.methodLink RX6 222 yX0_scare ∈ TB := TB_t 503 (by decide +kernel) rfl
theorem im_X0_scare : Cond.instanceMethod yX0_scare ∈ TB := TB_t 504 (by decide +kernel) rfl
theorem se_X0_scare : Cond.selects RX0 yX0_scare yX0_scare ∈ TB := TB_t 505 (by decide +kernel) rfl
set_option maxRecDepth 100000 in
theorem co_X0_scare : Cond.code yX0_scare cX0_scare 6 (some .int) ∈ TB := TB_t 506 rfl rfl
theorem ml_X0_101 : Cond.methodLink RX0 101 yJ9_abs_0f7a4 ∈ TB := TB_t 507 (by decide +kernel) rfl
theorem sm_J9_abs_0f7a4 : Cond.static yJ9_abs_0f7a4 ∈ TB := TB_t 508 (by decide +kernel) rfl
set_option maxRecDepth 100000 in
theorem co_J9_abs_0f7a4 : Cond.code yJ9_abs_0f7a4 cJ9_abs_0f7a4 1 (some .int) ∈ TB := TB_t 509 rfl rfl
theorem ml_X0_108 : Cond.methodLink RX0 108 yX0_move ∈ TB := TB_t 510 (by decide +kernel) rfl
theorem ml_L_66 : Cond.methodLink RL 66 yX6_hour ∈ TB := TB_t 511 (by decide +kernel) rfl
theorem im_X6_hour : Cond.instanceMethod yX6_hour ∈ TB := TB_t 512 (by decide +kernel) rfl
theorem se_X6_hour : Cond.selects RX6 yX6_hour yX6_hour ∈ TB := TB_t 513 (by decide +kernel) rfl
set_option maxRecDepth 100000 in
theorem co_X6_hour : Cond.code yX6_hour cX6_hour 4 (some .int) ∈ TB := TB_t 514 rfl rfl
theorem ml_X6_226 : Cond.methodLink RX6 226 yX6_refusalOfHours ∈ TB := TB_t 515 (by decide +kernel) rfl
theorem im_X6_refusalOfHours : Cond.instanceMethod yX6_refusalOfHours ∈ TB := TB_t 517 (by decide +kernel) rfl
set_option maxRecDepth 100000 in
theorem co_X6_refusalOfHours : Cond.code yX6_refusalOfHours cX6_refusalOfHours 2 (some .int) ∈ TB := TB_t 518 rfl rfl
theorem ml_X6_229 : Cond.methodLink RX6 229 yX0_passHour ∈ TB := TB_t 519 (by decide +kernel) rfl
theorem im_X0_passHour : Cond.instanceMethod yX0_passHour ∈ TB := TB_t 520 (by decide +kernel) rfl
theorem se_X0_passHour : Cond.selects RX0 yX0_passHour yX0_passHour ∈ TB := TB_t 521 (by decide +kernel) rfl
set_option maxRecDepth 100000 in
theorem co_X0_passHour : Cond.code yX0_passHour cX0_passHour 2 none ∈ TB := TB_t 522 rfl rfl
theorem ml_X0_125 : Cond.methodLink RX0 125 yX0_flyForAnHour ∈ TB := TB_t 523 (by decide +kernel) rfl
theorem im_X0_flyForAnHour : Cond.instanceMethod yX0_flyForAnHour ∈ TB := TB_t 524 (by decide +kernel) rfl
theorem se_X0_flyForAnHour : Cond.selects RX0 yX0_flyForAnHour yX0_flyForAnHour ∈ TB := TB_t 525 (by decide +kernel) rfl
set_option maxRecDepth 100000 in
theorem co_X0_flyForAnHour : Cond.code yX0_flyForAnHour cX0_flyForAnHour 4 none ∈ TB := TB_t 526 rfl rfl
theorem ml_X0_119 : Cond.methodLink RX0 119 yX0_whoDraws ∈ TB := TB_t 527 (by decide +kernel) rfl
theorem im_X0_whoDraws : Cond.instanceMethod yX0_whoDraws ∈ TB := TB_t 529 (by decide +kernel) rfl
set_option maxRecDepth 100000 in
theorem co_X0_whoDraws : Cond.code yX0_whoDraws cX0_whoDraws 4 (some .int) ∈ TB := TB_t 530 rfl rfl
theorem ml_X0_129 : Cond.methodLink RX0 129 yX0_isDusk ∈ TB := TB_t 531 (by decide +kernel) rfl
theorem im_X0_isDusk : Cond.instanceMethod yX0_isDusk ∈ TB := TB_t 532 (by decide +kernel) rfl
theorem se_X0_isDusk : Cond.selects RX0 yX0_isDusk yX0_isDusk ∈ TB := TB_t 533 (by decide +kernel) rfl
set_option maxRecDepth 100000 in
theorem co_X0_isDusk : Cond.code yX0_isDusk cX0_isDusk 2 (some .boolean) ∈ TB := TB_t 534 rfl rfl
theorem ml_X0_133 : Cond.methodLink RX0 133 yX0_goHome ∈ TB := TB_t 535 (by decide +kernel) rfl
theorem im_X0_goHome : Cond.instanceMethod yX0_goHome ∈ TB := TB_t 537 (by decide +kernel) rfl
set_option maxRecDepth 100000 in
theorem co_X0_goHome : Cond.code yX0_goHome cX0_goHome 3 none ∈ TB := TB_t 538 rfl rfl
theorem ml_L_70 : Cond.methodLink RL 70 yX6_drift ∈ TB := TB_t 539 (by decide +kernel) rfl
theorem im_X6_drift : Cond.instanceMethod yX6_drift ∈ TB := TB_t 540 (by decide +kernel) rfl
theorem se_X6_drift : Cond.selects RX6 yX6_drift yX6_drift ∈ TB := TB_t 541 (by decide +kernel) rfl
set_option maxRecDepth 100000 in
theorem co_X6_drift : Cond.code yX6_drift cX6_drift 4 (some .int) ∈ TB := TB_t 542 rfl rfl
theorem ml_X6_232 : Cond.methodLink RX6 232 yX6_doByDraw ∈ TB := TB_t 543 (by decide +kernel) rfl
theorem im_X6_doByDraw : Cond.instanceMethod yX6_doByDraw ∈ TB := TB_t 545 (by decide +kernel) rfl
set_option maxRecDepth 100000 in
theorem co_X6_doByDraw : Cond.code yX6_doByDraw cX6_doByDraw 3 none ∈ TB := TB_t 546 rfl rfl
theorem ml_X6_306 : Cond.methodLink RX6 306 yX6_drawOf ∈ TB := TB_t 547 (by decide +kernel) rfl
theorem im_X6_drawOf : Cond.instanceMethod yX6_drawOf ∈ TB := TB_t 549 (by decide +kernel) rfl
set_option maxRecDepth 100000 in
theorem co_X6_drawOf : Cond.code yX6_drawOf cX6_drawOf 2 (some .int) ∈ TB := TB_t 550 rfl rfl
theorem kc_X6_303 : Cond.constant RX6 303 (1103515245) ∈ TB := TB_t 551 (by decide +kernel) rfl
theorem kc_X6_304 : Cond.constant RX6 304 (2147483647) ∈ TB := TB_t 552 (by decide +kernel) rfl
theorem kc_X6_305 : Cond.constant RX6 305 (65536) ∈ TB := TB_t 553 (by decide +kernel) rfl
theorem ml_X6_309 : Cond.methodLink RX6 309 yJ9_min_7cf53 ∈ TB := TB_t 554 (by decide +kernel) rfl
theorem ml_L_74 : Cond.methodLink RL 74 yX6_undo ∈ TB := TB_t 555 (by decide +kernel) rfl
theorem im_X6_undo : Cond.instanceMethod yX6_undo ∈ TB := TB_t 556 (by decide +kernel) rfl
theorem se_X6_undo : Cond.selects RX6 yX6_undo yX6_undo ∈ TB := TB_t 557 (by decide +kernel) rfl
set_option maxRecDepth 100000 in
theorem co_X6_undo : Cond.code yX6_undo cX6_undo 1 (some .int) ∈ TB := TB_t 558 rfl rfl
theorem ml_X6_235 : Cond.methodLink RX6 235 yX2_recallInto ∈ TB := TB_t 559 (by decide +kernel) rfl
theorem im_X2_recallInto : Cond.instanceMethod yX2_recallInto ∈ TB := TB_t 560 (by decide +kernel) rfl
theorem se_X2_recallInto : Cond.selects RX2 yX2_recallInto yX2_recallInto ∈ TB := TB_t 561 (by decide +kernel) rfl
set_option maxRecDepth 100000 in
theorem co_X2_recallInto : Cond.code yX2_recallInto cX2_recallInto 2 none ∈ TB := TB_t 562 rfl rfl
theorem ml_L_78 : Cond.methodLink RL 78 yX6_hat ∈ TB := TB_t 563 (by decide +kernel) rfl
theorem im_X6_hat : Cond.instanceMethod yX6_hat ∈ TB := TB_t 564 (by decide +kernel) rfl
theorem se_X6_hat : Cond.selects RX6 yX6_hat yX6_hat ∈ TB := TB_t 565 (by decide +kernel) rfl
set_option maxRecDepth 100000 in
theorem co_X6_hat : Cond.code yX6_hat cX6_hat 4 (some .int) ∈ TB := TB_t 566 rfl rfl
theorem ml_X6_238 : Cond.methodLink RX6 238 yX0_copyFrom ∈ TB := TB_t 567 (by decide +kernel) rfl
theorem ml_L_82 : Cond.methodLink RL 82 yX6_most ∈ TB := TB_t 568 (by decide +kernel) rfl
theorem im_X6_most : Cond.instanceMethod yX6_most ∈ TB := TB_t 569 (by decide +kernel) rfl
theorem se_X6_most : Cond.selects RX6 yX6_most yX6_most ∈ TB := TB_t 570 (by decide +kernel) rfl
set_option maxRecDepth 100000 in
theorem co_X6_most : Cond.code yX6_most cX6_most 7 (some .int) ∈ TB := TB_t 571 rfl rfl
theorem ml_L_86 : Cond.methodLink RL 86 yX6_kept ∈ TB := TB_t 572 (by decide +kernel) rfl
theorem im_X6_kept : Cond.instanceMethod yX6_kept ∈ TB := TB_t 573 (by decide +kernel) rfl
theorem se_X6_kept : Cond.selects RX6 yX6_kept yX6_kept ∈ TB := TB_t 574 (by decide +kernel) rfl
set_option maxRecDepth 100000 in
theorem co_X6_kept : Cond.code yX6_kept cX6_kept 3 (some .int) ∈ TB := TB_t 575 rfl rfl
theorem ml_X6_241 : Cond.methodLink RX6 241 yX0_flyForAnHour ∈ TB := TB_t 576 (by decide +kernel) rfl
theorem ml_X6_244 : Cond.methodLink RX6 244 yX0_isDusk ∈ TB := TB_t 577 (by decide +kernel) rfl
theorem ml_L_90 : Cond.methodLink RL 90 yX6_settled ∈ TB := TB_t 578 (by decide +kernel) rfl
theorem im_X6_settled : Cond.instanceMethod yX6_settled ∈ TB := TB_t 579 (by decide +kernel) rfl
theorem se_X6_settled : Cond.selects RX6 yX6_settled yX6_settled ∈ TB := TB_t 580 (by decide +kernel) rfl
set_option maxRecDepth 100000 in
theorem co_X6_settled : Cond.code yX6_settled cX6_settled 3 (some .int) ∈ TB := TB_t 581 rfl rfl
theorem ml_X6_248 : Cond.methodLink RX6 248 yX4_longestRow ∈ TB := TB_t 582 (by decide +kernel) rfl
theorem im_X4_longestRow : Cond.instanceMethod yX4_longestRow ∈ TB := TB_t 583 (by decide +kernel) rfl
theorem se_X4_longestRow : Cond.selects RX4 yX4_longestRow yX4_longestRow ∈ TB := TB_t 584 (by decide +kernel) rfl
set_option maxRecDepth 100000 in
theorem co_X4_longestRow : Cond.code yX4_longestRow cX4_longestRow 9 (some .int) ∈ TB := TB_t 585 rfl rfl
theorem ml_X4_18 : Cond.methodLink RX4 18 yX4_beginSets ∈ TB := TB_t 586 (by decide +kernel) rfl
theorem im_X4_beginSets : Cond.instanceMethod yX4_beginSets ∈ TB := TB_t 588 (by decide +kernel) rfl
set_option maxRecDepth 100000 in
theorem co_X4_beginSets : Cond.code yX4_beginSets cX4_beginSets 2 none ∈ TB := TB_t 589 rfl rfl
theorem ml_X4_27 : Cond.methodLink RX4 27 yJ6_bitCount_0f7a4 ∈ TB := TB_t 590 (by decide +kernel) rfl
theorem sm_J6_bitCount_0f7a4 : Cond.static yJ6_bitCount_0f7a4 ∈ TB := TB_t 591 (by decide +kernel) rfl
set_option maxRecDepth 100000 in
theorem co_J6_bitCount_0f7a4 : Cond.code yJ6_bitCount_0f7a4 cJ6_bitCount_0f7a4 1 (some .int) ∈ TB := TB_t 592 rfl rfl
theorem kc_J6_265 : Cond.constant RJ6 265 (1431655765) ∈ TB := TB_t 593 (by decide +kernel) rfl
theorem kc_J6_266 : Cond.constant RJ6 266 (858993459) ∈ TB := TB_t 594 (by decide +kernel) rfl
theorem kc_J6_267 : Cond.constant RJ6 267 (252645135) ∈ TB := TB_t 595 (by decide +kernel) rfl
theorem ml_X4_33 : Cond.methodLink RX4 33 yX4_fillHats ∈ TB := TB_t 596 (by decide +kernel) rfl
theorem im_X4_fillHats : Cond.instanceMethod yX4_fillHats ∈ TB := TB_t 598 (by decide +kernel) rfl
set_option maxRecDepth 100000 in
theorem co_X4_fillHats : Cond.code yX4_fillHats cX4_fillHats 5 none ∈ TB := TB_t 599 rfl rfl
theorem ml_X4_70 : Cond.methodLink RX4 70 (⟨"java/lang/System", "arraycopy", "(Ljava/lang/Object;ILjava/lang/Object;II)V"⟩ : MethodName) ∈ TB := TB_t 600 (by decide +kernel) rfl
theorem ml_X4_37 : Cond.methodLink RX4 37 yX4_isOpen ∈ TB := TB_t 602 (by decide +kernel) rfl
theorem sm_X4_isOpen : Cond.static yX4_isOpen ∈ TB := TB_t 603 (by decide +kernel) rfl
set_option maxRecDepth 100000 in
theorem co_X4_isOpen : Cond.code yX4_isOpen cX4_isOpen 3 (some .boolean) ∈ TB := TB_t 604 rfl rfl
theorem ml_X4_49 : Cond.methodLink RX4 49 yX4_offer ∈ TB := TB_t 605 (by decide +kernel) rfl
theorem im_X4_offer : Cond.instanceMethod yX4_offer ∈ TB := TB_t 607 (by decide +kernel) rfl
set_option maxRecDepth 100000 in
theorem co_X4_offer : Cond.code yX4_offer cX4_offer 3 none ∈ TB := TB_t 608 rfl rfl
theorem ml_X6_252 : Cond.methodLink RX6 252 yX6_figuresOf ∈ TB := TB_t 609 (by decide +kernel) rfl
theorem sm_X6_figuresOf : Cond.static yX6_figuresOf ∈ TB := TB_t 610 (by decide +kernel) rfl
set_option maxRecDepth 100000 in
theorem co_X6_figuresOf : Cond.code yX6_figuresOf cX6_figuresOf 3 (some .int) ∈ TB := TB_t 611 rfl rfl
theorem ml_L_94 : Cond.methodLink RL 94 yX6_toFloat ∈ TB := TB_t 612 (by decide +kernel) rfl
theorem im_X6_toFloat : Cond.instanceMethod yX6_toFloat ∈ TB := TB_t 613 (by decide +kernel) rfl
theorem se_X6_toFloat : Cond.selects RX6 yX6_toFloat yX6_toFloat ∈ TB := TB_t 614 (by decide +kernel) rfl
set_option maxRecDepth 100000 in
theorem co_X6_toFloat : Cond.code yX6_toFloat cX6_toFloat 2 (some .int) ∈ TB := TB_t 615 rfl rfl
theorem ml_X6_255 : Cond.methodLink RX6 255 yX4_leastFloat ∈ TB := TB_t 616 (by decide +kernel) rfl
theorem im_X4_leastFloat : Cond.instanceMethod yX4_leastFloat ∈ TB := TB_t 617 (by decide +kernel) rfl
theorem se_X4_leastFloat : Cond.selects RX4 yX4_leastFloat yX4_leastFloat ∈ TB := TB_t 618 (by decide +kernel) rfl
set_option maxRecDepth 100000 in
theorem co_X4_leastFloat : Cond.code yX4_leastFloat cX4_leastFloat 8 (some .int) ∈ TB := TB_t 619 rfl rfl
theorem ml_X4_53 : Cond.methodLink RX4 53 yJ9_max_7cf53 ∈ TB := TB_t 620 (by decide +kernel) rfl
theorem sm_J9_max_7cf53 : Cond.static yJ9_max_7cf53 ∈ TB := TB_t 621 (by decide +kernel) rfl
set_option maxRecDepth 100000 in
theorem co_J9_max_7cf53 : Cond.code yJ9_max_7cf53 cJ9_max_7cf53 2 (some .int) ∈ TB := TB_t 622 rfl rfl
theorem ml_X4_59 : Cond.methodLink RX4 59 yX4_allOpen ∈ TB := TB_t 623 (by decide +kernel) rfl
theorem sm_X4_allOpen : Cond.static yX4_allOpen ∈ TB := TB_t 624 (by decide +kernel) rfl
set_option maxRecDepth 100000 in
theorem co_X4_allOpen : Cond.code yX4_allOpen cX4_allOpen 4 (some .int) ∈ TB := TB_t 625 rfl rfl
theorem ml_L_98 : Cond.methodLink RL 98 yX6_nets ∈ TB := TB_t 626 (by decide +kernel) rfl
theorem im_X6_nets : Cond.instanceMethod yX6_nets ∈ TB := TB_t 627 (by decide +kernel) rfl
theorem se_X6_nets : Cond.selects RX6 yX6_nets yX6_nets ∈ TB := TB_t 628 (by decide +kernel) rfl
set_option maxRecDepth 100000 in
theorem co_X6_nets : Cond.code yX6_nets cX6_nets 8 (some .int) ∈ TB := TB_t 629 rfl rfl
theorem ml_X6_259 : Cond.methodLink RX6 259 yJ6_bitCount_0f7a4 ∈ TB := TB_t 630 (by decide +kernel) rfl
theorem ml_X6_264 : Cond.methodLink RX6 264 yX6_birdsWithNets ∈ TB := TB_t 631 (by decide +kernel) rfl
theorem im_X6_birdsWithNets : Cond.instanceMethod yX6_birdsWithNets ∈ TB := TB_t 633 (by decide +kernel) rfl
set_option maxRecDepth 100000 in
theorem co_X6_birdsWithNets : Cond.code yX6_birdsWithNets cX6_birdsWithNets 4 (some .int) ∈ TB := TB_t 634 rfl rfl
theorem ml_L_102 : Cond.methodLink RL 102 yX6_calm ∈ TB := TB_t 635 (by decide +kernel) rfl
theorem im_X6_calm : Cond.instanceMethod yX6_calm ∈ TB := TB_t 636 (by decide +kernel) rfl
theorem se_X6_calm : Cond.selects RX6 yX6_calm yX6_calm ∈ TB := TB_t 637 (by decide +kernel) rfl
set_option maxRecDepth 100000 in
theorem co_X6_calm : Cond.code yX6_calm cX6_calm 6 (some .int) ∈ TB := TB_t 638 rfl rfl
theorem kl_X6_268 : Cond.constantLong RX6 268 (1000000000) ∈ TB := TB_t 639 (by decide +kernel) rfl
theorem kl_X6_270 : Cond.constantLong RX6 270 (100) ∈ TB := TB_t 640 (by decide +kernel) rfl
theorem ml_L_106 : Cond.methodLink RL 106 yX6_watch ∈ TB := TB_t 641 (by decide +kernel) rfl
theorem im_X6_watch : Cond.instanceMethod yX6_watch ∈ TB := TB_t 642 (by decide +kernel) rfl
theorem se_X6_watch : Cond.selects RX6 yX6_watch yX6_watch ∈ TB := TB_t 643 (by decide +kernel) rfl
set_option maxRecDepth 100000 in
theorem co_X6_watch : Cond.code yX6_watch cX6_watch 2 (some .int) ∈ TB := TB_t 644 rfl rfl
theorem ml_X6_272 : Cond.methodLink RX6 272 yX3_addWatched ∈ TB := TB_t 645 (by decide +kernel) rfl
theorem im_X3_addWatched : Cond.instanceMethod yX3_addWatched ∈ TB := TB_t 646 (by decide +kernel) rfl
theorem se_X3_addWatched : Cond.selects RX3 yX3_addWatched yX3_addWatched ∈ TB := TB_t 647 (by decide +kernel) rfl
set_option maxRecDepth 100000 in
theorem co_X3_addWatched : Cond.code yX3_addWatched cX3_addWatched 2 (some .int) ∈ TB := TB_t 648 rfl rfl
theorem ml_L_110 : Cond.methodLink RL 110 yX6_feel ∈ TB := TB_t 649 (by decide +kernel) rfl
theorem im_X6_feel : Cond.instanceMethod yX6_feel ∈ TB := TB_t 650 (by decide +kernel) rfl
theorem se_X6_feel : Cond.selects RX6 yX6_feel yX6_feel ∈ TB := TB_t 651 (by decide +kernel) rfl
set_option maxRecDepth 100000 in
theorem co_X6_feel : Cond.code yX6_feel cX6_feel 4 (some .int) ∈ TB := TB_t 652 rfl rfl
theorem ml_X6_275 : Cond.methodLink RX6 275 yJ9_abs_0f7a4 ∈ TB := TB_t 653 (by decide +kernel) rfl
theorem ml_X6_280 : Cond.methodLink RX6 280 yX3_addFelt ∈ TB := TB_t 654 (by decide +kernel) rfl
theorem im_X3_addFelt : Cond.instanceMethod yX3_addFelt ∈ TB := TB_t 655 (by decide +kernel) rfl
theorem se_X3_addFelt : Cond.selects RX3 yX3_addFelt yX3_addFelt ∈ TB := TB_t 656 (by decide +kernel) rfl
set_option maxRecDepth 100000 in
theorem co_X3_addFelt : Cond.code yX3_addFelt cX3_addFelt 3 (some .int) ∈ TB := TB_t 657 rfl rfl
theorem ml_L_115 : Cond.methodLink RL 115 yX6_reach ∈ TB := TB_t 658 (by decide +kernel) rfl
theorem im_X6_reach : Cond.instanceMethod yX6_reach ∈ TB := TB_t 659 (by decide +kernel) rfl
theorem se_X6_reach : Cond.selects RX6 yX6_reach yX6_reach ∈ TB := TB_t 660 (by decide +kernel) rfl
set_option maxRecDepth 100000 in
theorem co_X6_reach : Cond.code yX6_reach cX6_reach 2 (some .int) ∈ TB := TB_t 661 rfl rfl
theorem ml_X6_284 : Cond.methodLink RX6 284 yX3_reachesBelow ∈ TB := TB_t 662 (by decide +kernel) rfl
theorem im_X3_reachesBelow : Cond.instanceMethod yX3_reachesBelow ∈ TB := TB_t 663 (by decide +kernel) rfl
theorem se_X3_reachesBelow : Cond.selects RX3 yX3_reachesBelow yX3_reachesBelow ∈ TB := TB_t 664 (by decide +kernel) rfl
set_option maxRecDepth 100000 in
theorem co_X3_reachesBelow : Cond.code yX3_reachesBelow cX3_reachesBelow 4 (some .int) ∈ TB := TB_t 665 rfl rfl
theorem ml_X3_43 : Cond.methodLink RX3 43 yX3_canReach ∈ TB := TB_t 666 (by decide +kernel) rfl
theorem im_X3_canReach : Cond.instanceMethod yX3_canReach ∈ TB := TB_t 668 (by decide +kernel) rfl
set_option maxRecDepth 100000 in
theorem co_X3_canReach : Cond.code yX3_canReach cX3_canReach 3 (some .boolean) ∈ TB := TB_t 669 rfl rfl
theorem ml_X6_287 : Cond.methodLink RX6 287 yX3_leastReach ∈ TB := TB_t 670 (by decide +kernel) rfl
theorem im_X3_leastReach : Cond.instanceMethod yX3_leastReach ∈ TB := TB_t 671 (by decide +kernel) rfl
theorem se_X3_leastReach : Cond.selects RX3 yX3_leastReach yX3_leastReach ∈ TB := TB_t 672 (by decide +kernel) rfl
set_option maxRecDepth 100000 in
theorem co_X3_leastReach : Cond.code yX3_leastReach cX3_leastReach 2 (some .int) ∈ TB := TB_t 673 rfl rfl
theorem ml_X6_290 : Cond.methodLink RX6 290 yX3_greatestReach ∈ TB := TB_t 674 (by decide +kernel) rfl
theorem im_X3_greatestReach : Cond.instanceMethod yX3_greatestReach ∈ TB := TB_t 675 (by decide +kernel) rfl
theorem se_X3_greatestReach : Cond.selects RX3 yX3_greatestReach yX3_greatestReach ∈ TB := TB_t 676 (by decide +kernel) rfl
set_option maxRecDepth 100000 in
theorem co_X3_greatestReach : Cond.code yX3_greatestReach cX3_greatestReach 2 (some .int) ∈ TB := TB_t 677 rfl rfl
theorem ml_X6_293 : Cond.methodLink RX6 293 yX3_bestDoorToPart ∈ TB := TB_t 678 (by decide +kernel) rfl
theorem im_X3_bestDoorToPart : Cond.instanceMethod yX3_bestDoorToPart ∈ TB := TB_t 679 (by decide +kernel) rfl
theorem se_X3_bestDoorToPart : Cond.selects RX3 yX3_bestDoorToPart yX3_bestDoorToPart ∈ TB := TB_t 680 (by decide +kernel) rfl
set_option maxRecDepth 100000 in
theorem co_X3_bestDoorToPart : Cond.code yX3_bestDoorToPart cX3_bestDoorToPart 7 (some .int) ∈ TB := TB_t 681 rfl rfl
theorem ml_X3_47 : Cond.methodLink RX3 47 yX3_reachesBelow ∈ TB := TB_t 682 (by decide +kernel) rfl
theorem ml_X3_51 : Cond.methodLink RX3 51 yJ9_max_7cf53 ∈ TB := TB_t 683 (by decide +kernel) rfl
theorem ml_L_119 : Cond.methodLink RL 119 yX6_write ∈ TB := TB_t 684 (by decide +kernel) rfl
theorem im_X6_write : Cond.instanceMethod yX6_write ∈ TB := TB_t 685 (by decide +kernel) rfl
theorem se_X6_write : Cond.selects RX6 yX6_write yX6_write ∈ TB := TB_t 686 (by decide +kernel) rfl
set_option maxRecDepth 100000 in
theorem co_X6_write : Cond.code yX6_write cX6_write 3 (some .int) ∈ TB := TB_t 687 rfl rfl
theorem ml_X6_296 : Cond.methodLink RX6 296 yX3_addEntry ∈ TB := TB_t 688 (by decide +kernel) rfl
theorem im_X3_addEntry : Cond.instanceMethod yX3_addEntry ∈ TB := TB_t 689 (by decide +kernel) rfl
theorem se_X3_addEntry : Cond.selects RX3 yX3_addEntry yX3_addEntry ∈ TB := TB_t 690 (by decide +kernel) rfl
set_option maxRecDepth 100000 in
theorem co_X3_addEntry : Cond.code yX3_addEntry cX3_addEntry 3 (some .int) ∈ TB := TB_t 691 rfl rfl
theorem ml_L_123 : Cond.methodLink RL 123 yX6_tear ∈ TB := TB_t 692 (by decide +kernel) rfl
theorem im_X6_tear : Cond.instanceMethod yX6_tear ∈ TB := TB_t 693 (by decide +kernel) rfl
theorem se_X6_tear : Cond.selects RX6 yX6_tear yX6_tear ∈ TB := TB_t 694 (by decide +kernel) rfl
set_option maxRecDepth 100000 in
theorem co_X6_tear : Cond.code yX6_tear cX6_tear 2 (some .int) ∈ TB := TB_t 695 rfl rfl
theorem ml_L_127 : Cond.methodLink RL 127 yX6_judge ∈ TB := TB_t 696 (by decide +kernel) rfl
theorem im_X6_judge : Cond.instanceMethod yX6_judge ∈ TB := TB_t 697 (by decide +kernel) rfl
theorem se_X6_judge : Cond.selects RX6 yX6_judge yX6_judge ∈ TB := TB_t 698 (by decide +kernel) rfl
set_option maxRecDepth 100000 in
theorem co_X6_judge : Cond.code yX6_judge cX6_judge 1 (some .int) ∈ TB := TB_t 699 rfl rfl
theorem ml_X6_299 : Cond.methodLink RX6 299 yX3_firstWrong ∈ TB := TB_t 700 (by decide +kernel) rfl
theorem im_X3_firstWrong : Cond.instanceMethod yX3_firstWrong ∈ TB := TB_t 701 (by decide +kernel) rfl
theorem se_X3_firstWrong : Cond.selects RX3 yX3_firstWrong yX3_firstWrong ∈ TB := TB_t 702 (by decide +kernel) rfl
set_option maxRecDepth 100000 in
theorem co_X3_firstWrong : Cond.code yX3_firstWrong cX3_firstWrong 3 (some .int) ∈ TB := TB_t 703 rfl rfl
theorem ml_L_131 : Cond.methodLink RL 131 yX6_seed ∈ TB := TB_t 704 (by decide +kernel) rfl
theorem im_X6_seed : Cond.instanceMethod yX6_seed ∈ TB := TB_t 705 (by decide +kernel) rfl
theorem se_X6_seed : Cond.selects RX6 yX6_seed yX6_seed ∈ TB := TB_t 706 (by decide +kernel) rfl
set_option maxRecDepth 100000 in
theorem co_X6_seed : Cond.code yX6_seed cX6_seed 3 (some .int) ∈ TB := TB_t 707 rfl rfl
theorem ml_L_135 : Cond.methodLink RL 135 yX6_keep ∈ TB := TB_t 708 (by decide +kernel) rfl
theorem im_X6_keep : Cond.instanceMethod yX6_keep ∈ TB := TB_t 709 (by decide +kernel) rfl
theorem se_X6_keep : Cond.selects RX6 yX6_keep yX6_keep ∈ TB := TB_t 710 (by decide +kernel) rfl
set_option maxRecDepth 100000 in
theorem co_X6_keep : Cond.code yX6_keep cX6_keep 2 (some .int) ∈ TB := TB_t 711 rfl rfl
theorem ml_L_139 : Cond.methodLink RL 139 yX6_goBack ∈ TB := TB_t 712 (by decide +kernel) rfl
theorem im_X6_goBack : Cond.instanceMethod yX6_goBack ∈ TB := TB_t 713 (by decide +kernel) rfl
theorem se_X6_goBack : Cond.selects RX6 yX6_goBack yX6_goBack ∈ TB := TB_t 714 (by decide +kernel) rfl
set_option maxRecDepth 100000 in
theorem co_X6_goBack : Cond.code yX6_goBack cX6_goBack 2 (some .int) ∈ TB := TB_t 715 rfl rfl
theorem cl_L_10 : Cond.classLink RL 10 RX7 ∈ TB := TB_t 716 (by decide +kernel) rfl
theorem ia_X7 : Cond.instantiable RX7 26 ∈ TB := TB_t 717 (by decide +kernel) rfl
theorem ml_L_12 : Cond.methodLink RL 12 yX7_init ∈ TB := TB_t 718 (by decide +kernel) rfl
theorem im_X7_init : Cond.instanceMethod yX7_init ∈ TB := TB_t 719 (by decide +kernel) rfl
set_option maxRecDepth 100000 in
theorem co_X7_init : Cond.code yX7_init cX7_init 1 none ∈ TB := TB_t 720 rfl rfl
theorem ml_X7_1 : Cond.methodLink RX7 1 (⟨"java/lang/Object", "<init>", "()V"⟩ : MethodName) ∈ TB := TB_t 721 (by decide +kernel) rfl
theorem fl_X7_7 : Cond.fieldLink RX7 7 "SparrowChangeModel" "parish" "[I" ∈ TB := TB_t 722 (by decide +kernel) rfl
theorem fl_X7_13 : Cond.fieldLink RX7 13 "SparrowChangeModel" "read" "[I" ∈ TB := TB_t 723 (by decide +kernel) rfl
theorem fl_X7_16 : Cond.fieldLink RX7 16 "SparrowChangeModel" "now" "[I" ∈ TB := TB_t 724 (by decide +kernel) rfl
theorem fl_X7_19 : Cond.fieldLink RX7 19 "SparrowChangeModel" "aside" "[I" ∈ TB := TB_t 725 (by decide +kernel) rfl
theorem fl_X7_22 : Cond.fieldLink RX7 22 "SparrowChangeModel" "past" "[I" ∈ TB := TB_t 726 (by decide +kernel) rfl
theorem fl_X7_58 : Cond.fieldLink RX7 58 "SparrowChangeModel" "undos" "I" ∈ TB := TB_t 727 (by decide +kernel) rfl
theorem fl_X7_25 : Cond.fieldLink RX7 25 "SparrowChangeModel" "images" "[I" ∈ TB := TB_t 728 (by decide +kernel) rfl
theorem fl_X7_28 : Cond.fieldLink RX7 28 "SparrowChangeModel" "kept" "[Z" ∈ TB := TB_t 729 (by decide +kernel) rfl
theorem fl_X7_212 : Cond.fieldLink RX7 212 "SparrowChangeModel" "seed" "J" ∈ TB := TB_t 730 (by decide +kernel) rfl
theorem fl_X7_32 : Cond.fieldLink RX7 32 "SparrowChangeModel" "text" "[I" ∈ TB := TB_t 731 (by decide +kernel) rfl
theorem fl_X7_77 : Cond.fieldLink RX7 77 "SparrowChangeModel" "size" "I" ∈ TB := TB_t 732 (by decide +kernel) rfl
theorem fl_X7_35 : Cond.fieldLink RX7 35 "SparrowChangeModel" "fault" "I" ∈ TB := TB_t 733 (by decide +kernel) rfl
theorem fl_X7_39 : Cond.fieldLink RX7 39 "SparrowChangeModel" "watched" "[I" ∈ TB := TB_t 734 (by decide +kernel) rfl
theorem fl_X7_61 : Cond.fieldLink RX7 61 "SparrowChangeModel" "watchedMany" "I" ∈ TB := TB_t 735 (by decide +kernel) rfl
theorem fl_X7_42 : Cond.fieldLink RX7 42 "SparrowChangeModel" "felt" "[I" ∈ TB := TB_t 736 (by decide +kernel) rfl
theorem fl_X7_64 : Cond.fieldLink RX7 64 "SparrowChangeModel" "feltMany" "I" ∈ TB := TB_t 737 (by decide +kernel) rfl
theorem fl_X7_45 : Cond.fieldLink RX7 45 "SparrowChangeModel" "book" "[I" ∈ TB := TB_t 738 (by decide +kernel) rfl
theorem fl_X7_67 : Cond.fieldLink RX7 67 "SparrowChangeModel" "bookMany" "I" ∈ TB := TB_t 739 (by decide +kernel) rfl
theorem fl_X7_81 : Cond.fieldLink RX7 81 "SparrowChangeModel" "at" "I" ∈ TB := TB_t 740 (by decide +kernel) rfl
theorem fl_X7_88 : Cond.fieldLink RX7 88 "SparrowChangeModel" "begin" "I" ∈ TB := TB_t 741 (by decide +kernel) rfl
theorem fl_X7_91 : Cond.fieldLink RX7 91 "SparrowChangeModel" "sign" "I" ∈ TB := TB_t 742 (by decide +kernel) rfl
theorem fl_X7_94 : Cond.fieldLink RX7 94 "SparrowChangeModel" "figures" "I" ∈ TB := TB_t 743 (by decide +kernel) rfl
theorem fl_X7_97 : Cond.fieldLink RX7 97 "SparrowChangeModel" "value" "I" ∈ TB := TB_t 744 (by decide +kernel) rfl
theorem fl_X7_104 : Cond.fieldLink RX7 104 "SparrowChangeModel" "wrong" "I" ∈ TB := TB_t 745 (by decide +kernel) rfl
theorem fl_X7_48 : Cond.fieldLink RX7 48 "SparrowChangeModel" "loss" "[I" ∈ TB := TB_t 746 (by decide +kernel) rfl
theorem fl_X7_51 : Cond.fieldLink RX7 51 "SparrowChangeModel" "can" "[I" ∈ TB := TB_t 747 (by decide +kernel) rfl
theorem ml_L_17 : Cond.methodLink RL 17 yX7_feed ∈ TB := TB_t 801 (by decide +kernel) rfl
theorem im_X7_feed : Cond.instanceMethod yX7_feed ∈ TB := TB_t 802 (by decide +kernel) rfl
theorem se_X7_feed : Cond.selects RX7 yX7_feed yX7_feed ∈ TB := TB_t 803 (by decide +kernel) rfl
set_option maxRecDepth 100000 in
theorem co_X7_feed : Cond.code yX7_feed cX7_feed 2 (some .int) ∈ TB := TB_t 804 rfl rfl
theorem kl_X7_70 : Cond.constantLong RX7 70 (255) ∈ TB := TB_t 805 (by decide +kernel) rfl
theorem ml_X7_72 : Cond.methodLink RX7 72 yX7_in ∈ TB := TB_t 806 (by decide +kernel) rfl
theorem sm_X7_in : Cond.static yX7_in ∈ TB := TB_t 807 (by decide +kernel) rfl
set_option maxRecDepth 100000 in
theorem co_X7_in : Cond.code yX7_in cX7_in 6 (some .boolean) ∈ TB := TB_t 808 rfl rfl
theorem kc_X7_76 : Cond.constant RX7 76 (-1000000002) ∈ TB := TB_t 809 (by decide +kernel) rfl
theorem kc_X7_80 : Cond.constant RX7 80 (-1000000004) ∈ TB := TB_t 810 (by decide +kernel) rfl
theorem ml_L_22 : Cond.methodLink RL 22 yX7_parish ∈ TB := TB_t 811 (by decide +kernel) rfl
theorem im_X7_parish : Cond.instanceMethod yX7_parish ∈ TB := TB_t 812 (by decide +kernel) rfl
theorem se_X7_parish : Cond.selects RX7 yX7_parish yX7_parish ∈ TB := TB_t 813 (by decide +kernel) rfl
set_option maxRecDepth 100000 in
theorem co_X7_parish : Cond.code yX7_parish cX7_parish 2 (some .int) ∈ TB := TB_t 814 rfl rfl
theorem ml_X7_107 : Cond.methodLink RX7 107 yX7_step ∈ TB := TB_t 815 (by decide +kernel) rfl
theorem im_X7_step : Cond.instanceMethod yX7_step ∈ TB := TB_t 817 (by decide +kernel) rfl
set_option maxRecDepth 100000 in
theorem co_X7_step : Cond.code yX7_step cX7_step 1 none ∈ TB := TB_t 818 rfl rfl
theorem ml_X7_84 : Cond.methodLink RX7 84 yX7_here ∈ TB := TB_t 819 (by decide +kernel) rfl
theorem im_X7_here : Cond.instanceMethod yX7_here ∈ TB := TB_t 821 (by decide +kernel) rfl
set_option maxRecDepth 100000 in
theorem co_X7_here : Cond.code yX7_here cX7_here 1 (some .int) ∈ TB := TB_t 822 rfl rfl
theorem kl_X7_100 : Cond.constantLong RX7 100 (48) ∈ TB := TB_t 823 (by decide +kernel) rfl
theorem kl_X7_102 : Cond.constantLong RX7 102 (57) ∈ TB := TB_t 824 (by decide +kernel) rfl
theorem ml_X7_128 : Cond.methodLink RX7 128 yX7_readsClause ∈ TB := TB_t 825 (by decide +kernel) rfl
theorem im_X7_readsClause : Cond.instanceMethod yX7_readsClause ∈ TB := TB_t 827 (by decide +kernel) rfl
set_option maxRecDepth 100000 in
theorem co_X7_readsClause : Cond.code yX7_readsClause cX7_readsClause 1 (some .boolean) ∈ TB := TB_t 828 rfl rfl
theorem ml_X7_110 : Cond.methodLink RX7 110 yX7_fails ∈ TB := TB_t 829 (by decide +kernel) rfl
theorem im_X7_fails : Cond.instanceMethod yX7_fails ∈ TB := TB_t 831 (by decide +kernel) rfl
set_option maxRecDepth 100000 in
theorem co_X7_fails : Cond.code yX7_fails cX7_fails 2 (some .boolean) ∈ TB := TB_t 832 rfl rfl
theorem ml_X7_114 : Cond.methodLink RX7 114 yX7_number ∈ TB := TB_t 833 (by decide +kernel) rfl
theorem im_X7_number : Cond.instanceMethod yX7_number ∈ TB := TB_t 835 (by decide +kernel) rfl
set_option maxRecDepth 100000 in
theorem co_X7_number : Cond.code yX7_number cX7_number 4 (some .boolean) ∈ TB := TB_t 836 rfl rfl
theorem ml_X7_118 : Cond.methodLink RX7 118 yX7_ends ∈ TB := TB_t 837 (by decide +kernel) rfl
theorem im_X7_ends : Cond.instanceMethod yX7_ends ∈ TB := TB_t 839 (by decide +kernel) rfl
set_option maxRecDepth 100000 in
theorem co_X7_ends : Cond.code yX7_ends cX7_ends 1 (some .boolean) ∈ TB := TB_t 840 rfl rfl
theorem ml_X7_122 : Cond.methodLink RX7 122 yX7_readsPerson ∈ TB := TB_t 841 (by decide +kernel) rfl
theorem im_X7_readsPerson : Cond.instanceMethod yX7_readsPerson ∈ TB := TB_t 843 (by decide +kernel) rfl
set_option maxRecDepth 100000 in
theorem co_X7_readsPerson : Cond.code yX7_readsPerson cX7_readsPerson 2 (some .boolean) ∈ TB := TB_t 844 rfl rfl
theorem ml_X7_125 : Cond.methodLink RX7 125 yX7_readsDebt ∈ TB := TB_t 845 (by decide +kernel) rfl
theorem im_X7_readsDebt : Cond.instanceMethod yX7_readsDebt ∈ TB := TB_t 847 (by decide +kernel) rfl
set_option maxRecDepth 100000 in
theorem co_X7_readsDebt : Cond.code yX7_readsDebt cX7_readsDebt 3 (some .boolean) ∈ TB := TB_t 848 rfl rfl
theorem ml_X7_54 : Cond.methodLink RX7 54 yX7_copies ∈ TB := TB_t 849 (by decide +kernel) rfl
theorem sm_X7_copies : Cond.static yX7_copies ∈ TB := TB_t 850 (by decide +kernel) rfl
set_option maxRecDepth 100000 in
theorem co_X7_copies : Cond.code yX7_copies cX7_copies 6 none ∈ TB := TB_t 851 rfl rfl
theorem ml_X7_131 : Cond.methodLink RX7 131 yX7_begins ∈ TB := TB_t 852 (by decide +kernel) rfl
theorem im_X7_begins : Cond.instanceMethod yX7_begins ∈ TB := TB_t 854 (by decide +kernel) rfl
set_option maxRecDepth 100000 in
theorem co_X7_begins : Cond.code yX7_begins cX7_begins 2 none ∈ TB := TB_t 855 rfl rfl
theorem ml_L_26 : Cond.methodLink RL 26 yX7_fault ∈ TB := TB_t 856 (by decide +kernel) rfl
theorem im_X7_fault : Cond.instanceMethod yX7_fault ∈ TB := TB_t 857 (by decide +kernel) rfl
theorem se_X7_fault : Cond.selects RX7 yX7_fault yX7_fault ∈ TB := TB_t 858 (by decide +kernel) rfl
set_option maxRecDepth 100000 in
theorem co_X7_fault : Cond.code yX7_fault cX7_fault 1 (some .int) ∈ TB := TB_t 859 rfl rfl
theorem ml_L_30 : Cond.methodLink RL 30 yX7_told ∈ TB := TB_t 860 (by decide +kernel) rfl
theorem im_X7_told : Cond.instanceMethod yX7_told ∈ TB := TB_t 861 (by decide +kernel) rfl
theorem se_X7_told : Cond.selects RX7 yX7_told yX7_told ∈ TB := TB_t 862 (by decide +kernel) rfl
set_option maxRecDepth 100000 in
theorem co_X7_told : Cond.code yX7_told cX7_told 2 (some .int) ∈ TB := TB_t 863 rfl rfl
theorem ml_X7_165 : Cond.methodLink RX7 165 yX7_hatsOn ∈ TB := TB_t 864 (by decide +kernel) rfl
theorem im_X7_hatsOn : Cond.instanceMethod yX7_hatsOn ∈ TB := TB_t 866 (by decide +kernel) rfl
set_option maxRecDepth 100000 in
theorem co_X7_hatsOn : Cond.code yX7_hatsOn cX7_hatsOn 4 (some .int) ∈ TB := TB_t 867 rfl rfl
theorem ml_X7_168 : Cond.methodLink RX7 168 yX7_rich ∈ TB := TB_t 868 (by decide +kernel) rfl
theorem im_X7_rich : Cond.instanceMethod yX7_rich ∈ TB := TB_t 870 (by decide +kernel) rfl
set_option maxRecDepth 100000 in
theorem co_X7_rich : Cond.code yX7_rich cX7_rich 3 (some .int) ∈ TB := TB_t 871 rfl rfl
theorem ml_X7_171 : Cond.methodLink RX7 171 yX7_rings ∈ TB := TB_t 872 (by decide +kernel) rfl
theorem im_X7_rings : Cond.instanceMethod yX7_rings ∈ TB := TB_t 874 (by decide +kernel) rfl
set_option maxRecDepth 100000 in
theorem co_X7_rings : Cond.code yX7_rings cX7_rings 7 (some .int) ∈ TB := TB_t 875 rfl rfl
theorem ml_X7_142 : Cond.methodLink RX7 142 yX7_has ∈ TB := TB_t 876 (by decide +kernel) rfl
theorem sm_X7_has : Cond.static yX7_has ∈ TB := TB_t 877 (by decide +kernel) rfl
set_option maxRecDepth 100000 in
theorem co_X7_has : Cond.code yX7_has cX7_has 2 (some .boolean) ∈ TB := TB_t 878 rfl rfl
theorem ml_X7_174 : Cond.methodLink RX7 174 yX7_owes ∈ TB := TB_t 879 (by decide +kernel) rfl
theorem im_X7_owes : Cond.instanceMethod yX7_owes ∈ TB := TB_t 881 (by decide +kernel) rfl
set_option maxRecDepth 100000 in
theorem co_X7_owes : Cond.code yX7_owes cX7_owes 6 (some .int) ∈ TB := TB_t 882 rfl rfl
theorem ml_X7_177 : Cond.methodLink RX7 177 yX7_who ∈ TB := TB_t 883 (by decide +kernel) rfl
theorem im_X7_who : Cond.instanceMethod yX7_who ∈ TB := TB_t 885 (by decide +kernel) rfl
set_option maxRecDepth 100000 in
theorem co_X7_who : Cond.code yX7_who cX7_who 5 (some .int) ∈ TB := TB_t 886 rfl rfl
theorem ml_X7_162 : Cond.methodLink RX7 162 yX7_drawnBy ∈ TB := TB_t 887 (by decide +kernel) rfl
theorem im_X7_drawnBy : Cond.instanceMethod yX7_drawnBy ∈ TB := TB_t 889 (by decide +kernel) rfl
set_option maxRecDepth 100000 in
theorem co_X7_drawnBy : Cond.code yX7_drawnBy cX7_drawnBy 4 (some .int) ∈ TB := TB_t 890 rfl rfl
theorem ml_X7_146 : Cond.methodLink RX7 146 yX7_lossBy ∈ TB := TB_t 891 (by decide +kernel) rfl
theorem sm_X7_lossBy : Cond.static yX7_lossBy ∈ TB := TB_t 892 (by decide +kernel) rfl
set_option maxRecDepth 100000 in
theorem co_X7_lossBy : Cond.code yX7_lossBy cX7_lossBy 3 (some .int) ∈ TB := TB_t 893 rfl rfl
theorem ml_X7_134 : Cond.methodLink RX7 134 yX7_plainLoss ∈ TB := TB_t 894 (by decide +kernel) rfl
theorem sm_X7_plainLoss : Cond.static yX7_plainLoss ∈ TB := TB_t 895 (by decide +kernel) rfl
set_option maxRecDepth 100000 in
theorem co_X7_plainLoss : Cond.code yX7_plainLoss cX7_plainLoss 1 (some .int) ∈ TB := TB_t 896 rfl rfl
theorem ml_X7_138 : Cond.methodLink RX7 138 yX7_lesser ∈ TB := TB_t 897 (by decide +kernel) rfl
theorem sm_X7_lesser : Cond.static yX7_lesser ∈ TB := TB_t 898 (by decide +kernel) rfl
set_option maxRecDepth 100000 in
theorem co_X7_lesser : Cond.code yX7_lesser cX7_lesser 2 (some .int) ∈ TB := TB_t 899 rfl rfl
theorem ml_L_35 : Cond.methodLink RL 35 yX7_person ∈ TB := TB_t 900 (by decide +kernel) rfl
theorem im_X7_person : Cond.instanceMethod yX7_person ∈ TB := TB_t 901 (by decide +kernel) rfl
theorem se_X7_person : Cond.selects RX7 yX7_person yX7_person ∈ TB := TB_t 902 (by decide +kernel) rfl
set_option maxRecDepth 100000 in
theorem co_X7_person : Cond.code yX7_person cX7_person 3 (some .int) ∈ TB := TB_t 903 rfl rfl
theorem ml_X7_180 : Cond.methodLink RX7 180 yX7_isPerson ∈ TB := TB_t 904 (by decide +kernel) rfl
theorem im_X7_isPerson : Cond.instanceMethod yX7_isPerson ∈ TB := TB_t 906 (by decide +kernel) rfl
set_option maxRecDepth 100000 in
theorem co_X7_isPerson : Cond.code yX7_isPerson cX7_isPerson 2 (some .boolean) ∈ TB := TB_t 907 rfl rfl
theorem kc_X7_183 : Cond.constant RX7 183 (-1000000001) ∈ TB := TB_t 908 (by decide +kernel) rfl
theorem ml_X7_154 : Cond.methodLink RX7 154 yX7_lossOn ∈ TB := TB_t 909 (by decide +kernel) rfl
theorem im_X7_lossOn : Cond.instanceMethod yX7_lossOn ∈ TB := TB_t 911 (by decide +kernel) rfl
set_option maxRecDepth 100000 in
theorem co_X7_lossOn : Cond.code yX7_lossOn cX7_lossOn 3 (some .int) ∈ TB := TB_t 912 rfl rfl
theorem ml_L_39 : Cond.methodLink RL 39 yX7_debt ∈ TB := TB_t 913 (by decide +kernel) rfl
theorem im_X7_debt : Cond.instanceMethod yX7_debt ∈ TB := TB_t 914 (by decide +kernel) rfl
theorem se_X7_debt : Cond.selects RX7 yX7_debt yX7_debt ∈ TB := TB_t 915 (by decide +kernel) rfl
set_option maxRecDepth 100000 in
theorem co_X7_debt : Cond.code yX7_debt cX7_debt 3 (some .int) ∈ TB := TB_t 916 rfl rfl
theorem kl_X7_184 : Cond.constantLong RX7 184 (2) ∈ TB := TB_t 917 (by decide +kernel) rfl
theorem ml_L_43 : Cond.methodLink RL 43 yX7_trace ∈ TB := TB_t 918 (by decide +kernel) rfl
theorem im_X7_trace : Cond.instanceMethod yX7_trace ∈ TB := TB_t 919 (by decide +kernel) rfl
theorem se_X7_trace : Cond.selects RX7 yX7_trace yX7_trace ∈ TB := TB_t 920 (by decide +kernel) rfl
set_option maxRecDepth 100000 in
theorem co_X7_trace : Cond.code yX7_trace cX7_trace 2 (some .int) ∈ TB := TB_t 921 rfl rfl
theorem ml_L_47 : Cond.methodLink RL 47 yX7_count ∈ TB := TB_t 922 (by decide +kernel) rfl
theorem im_X7_count : Cond.instanceMethod yX7_count ∈ TB := TB_t 923 (by decide +kernel) rfl
theorem se_X7_count : Cond.selects RX7 yX7_count yX7_count ∈ TB := TB_t 924 (by decide +kernel) rfl
set_option maxRecDepth 100000 in
theorem co_X7_count : Cond.code yX7_count cX7_count 3 (some .int) ∈ TB := TB_t 925 rfl rfl
theorem kl_X7_186 : Cond.constantLong RX7 186 (999) ∈ TB := TB_t 926 (by decide +kernel) rfl
theorem kc_X7_188 : Cond.constant RX7 188 (-1000000003) ∈ TB := TB_t 927 (by decide +kernel) rfl
theorem ml_X7_189 : Cond.methodLink RX7 189 yX7_remember ∈ TB := TB_t 928 (by decide +kernel) rfl
theorem im_X7_remember : Cond.instanceMethod yX7_remember ∈ TB := TB_t 930 (by decide +kernel) rfl
set_option maxRecDepth 100000 in
theorem co_X7_remember : Cond.code yX7_remember cX7_remember 2 none ∈ TB := TB_t 931 rfl rfl
theorem ml_X7_158 : Cond.methodLink RX7 158 yX7_flies ∈ TB := TB_t 932 (by decide +kernel) rfl
theorem sm_X7_flies : Cond.static yX7_flies ∈ TB := TB_t 933 (by decide +kernel) rfl
set_option maxRecDepth 100000 in
theorem co_X7_flies : Cond.code yX7_flies cX7_flies 5 none ∈ TB := TB_t 934 rfl rfl
theorem ml_L_52 : Cond.methodLink RL 52 yX7_pay ∈ TB := TB_t 935 (by decide +kernel) rfl
theorem im_X7_pay : Cond.instanceMethod yX7_pay ∈ TB := TB_t 936 (by decide +kernel) rfl
theorem se_X7_pay : Cond.selects RX7 yX7_pay yX7_pay ∈ TB := TB_t 937 (by decide +kernel) rfl
set_option maxRecDepth 100000 in
theorem co_X7_pay : Cond.code yX7_pay cX7_pay 7 (some .int) ∈ TB := TB_t 938 rfl rfl
theorem ml_L_56 : Cond.methodLink RL 56 yX7_strew ∈ TB := TB_t 939 (by decide +kernel) rfl
theorem im_X7_strew : Cond.instanceMethod yX7_strew ∈ TB := TB_t 940 (by decide +kernel) rfl
theorem se_X7_strew : Cond.selects RX7 yX7_strew yX7_strew ∈ TB := TB_t 941 (by decide +kernel) rfl
set_option maxRecDepth 100000 in
theorem co_X7_strew : Cond.code yX7_strew cX7_strew 3 (some .int) ∈ TB := TB_t 942 rfl rfl
theorem kl_X7_192 : Cond.constantLong RX7 192 (99) ∈ TB := TB_t 943 (by decide +kernel) rfl
theorem ml_X7_194 : Cond.methodLink RX7 194 yX7_strews ∈ TB := TB_t 944 (by decide +kernel) rfl
theorem im_X7_strews : Cond.instanceMethod yX7_strews ∈ TB := TB_t 946 (by decide +kernel) rfl
set_option maxRecDepth 100000 in
theorem co_X7_strews : Cond.code yX7_strews cX7_strews 3 none ∈ TB := TB_t 947 rfl rfl
theorem ml_L_61 : Cond.methodLink RL 61 yX7_net ∈ TB := TB_t 948 (by decide +kernel) rfl
theorem im_X7_net : Cond.instanceMethod yX7_net ∈ TB := TB_t 949 (by decide +kernel) rfl
theorem se_X7_net : Cond.selects RX7 yX7_net yX7_net ∈ TB := TB_t 950 (by decide +kernel) rfl
set_option maxRecDepth 100000 in
theorem co_X7_net : Cond.code yX7_net cX7_net 4 (some .int) ∈ TB := TB_t 951 rfl rfl
theorem ml_L_65 : Cond.methodLink RL 65 yX7_hawk ∈ TB := TB_t 952 (by decide +kernel) rfl
theorem im_X7_hawk : Cond.instanceMethod yX7_hawk ∈ TB := TB_t 953 (by decide +kernel) rfl
theorem se_X7_hawk : Cond.selects RX7 yX7_hawk yX7_hawk ∈ TB := TB_t 954 (by decide +kernel) rfl
set_option maxRecDepth 100000 in
theorem co_X7_hawk : Cond.code yX7_hawk cX7_hawk 3 (some .int) ∈ TB := TB_t 955 rfl rfl
theorem kl_X7_198 : Cond.constantLong RX7 198 (50) ∈ TB := TB_t 956 (by decide +kernel) rfl
theorem ml_X7_200 : Cond.methodLink RX7 200 yX7_hawks ∈ TB := TB_t 957 (by decide +kernel) rfl
theorem im_X7_hawks : Cond.instanceMethod yX7_hawks ∈ TB := TB_t 959 (by decide +kernel) rfl
set_option maxRecDepth 100000 in
theorem co_X7_hawks : Cond.code yX7_hawks cX7_hawks 6 (some .int) ∈ TB := TB_t 960 rfl rfl
theorem ml_L_69 : Cond.methodLink RL 69 yX7_hour ∈ TB := TB_t 961 (by decide +kernel) rfl
theorem im_X7_hour : Cond.instanceMethod yX7_hour ∈ TB := TB_t 962 (by decide +kernel) rfl
theorem se_X7_hour : Cond.selects RX7 yX7_hour yX7_hour ∈ TB := TB_t 963 (by decide +kernel) rfl
set_option maxRecDepth 100000 in
theorem co_X7_hour : Cond.code yX7_hour cX7_hour 4 (some .int) ∈ TB := TB_t 964 rfl rfl
theorem ml_X7_205 : Cond.methodLink RX7 205 yX7_refuses ∈ TB := TB_t 965 (by decide +kernel) rfl
theorem im_X7_refuses : Cond.instanceMethod yX7_refuses ∈ TB := TB_t 967 (by decide +kernel) rfl
set_option maxRecDepth 100000 in
theorem co_X7_refuses : Cond.code yX7_refuses cX7_refuses 2 (some .int) ∈ TB := TB_t 968 rfl rfl
theorem kl_X7_203 : Cond.constantLong RX7 203 (60) ∈ TB := TB_t 969 (by decide +kernel) rfl
theorem ml_X7_208 : Cond.methodLink RX7 208 yX7_hourGoes ∈ TB := TB_t 970 (by decide +kernel) rfl
theorem im_X7_hourGoes : Cond.instanceMethod yX7_hourGoes ∈ TB := TB_t 972 (by decide +kernel) rfl
set_option maxRecDepth 100000 in
theorem co_X7_hourGoes : Cond.code yX7_hourGoes cX7_hourGoes 5 none ∈ TB := TB_t 973 rfl rfl
theorem ml_X7_150 : Cond.methodLink RX7 150 yX7_drawerOn ∈ TB := TB_t 974 (by decide +kernel) rfl
theorem im_X7_drawerOn : Cond.instanceMethod yX7_drawerOn ∈ TB := TB_t 976 (by decide +kernel) rfl
set_option maxRecDepth 100000 in
theorem co_X7_drawerOn : Cond.code yX7_drawerOn cX7_drawerOn 4 (some .int) ∈ TB := TB_t 977 rfl rfl
theorem ml_L_73 : Cond.methodLink RL 73 yX7_drift ∈ TB := TB_t 978 (by decide +kernel) rfl
theorem im_X7_drift : Cond.instanceMethod yX7_drift ∈ TB := TB_t 979 (by decide +kernel) rfl
theorem se_X7_drift : Cond.selects RX7 yX7_drift yX7_drift ∈ TB := TB_t 980 (by decide +kernel) rfl
set_option maxRecDepth 100000 in
theorem co_X7_drift : Cond.code yX7_drift cX7_drift 4 (some .int) ∈ TB := TB_t 981 rfl rfl
theorem ml_X7_227 : Cond.methodLink RX7 227 yX7_draws ∈ TB := TB_t 982 (by decide +kernel) rfl
theorem im_X7_draws : Cond.instanceMethod yX7_draws ∈ TB := TB_t 984 (by decide +kernel) rfl
set_option maxRecDepth 100000 in
theorem co_X7_draws : Cond.code yX7_draws cX7_draws 4 none ∈ TB := TB_t 985 rfl rfl
theorem ml_X7_224 : Cond.methodLink RX7 224 yX7_draw ∈ TB := TB_t 986 (by decide +kernel) rfl
theorem im_X7_draw : Cond.instanceMethod yX7_draw ∈ TB := TB_t 988 (by decide +kernel) rfl
set_option maxRecDepth 100000 in
theorem co_X7_draw : Cond.code yX7_draw cX7_draw 2 (some .int) ∈ TB := TB_t 989 rfl rfl
theorem kl_X7_216 : Cond.constantLong RX7 216 (1103515245) ∈ TB := TB_t 990 (by decide +kernel) rfl
theorem kl_X7_218 : Cond.constantLong RX7 218 (12345) ∈ TB := TB_t 991 (by decide +kernel) rfl
theorem kl_X7_220 : Cond.constantLong RX7 220 (2147483648) ∈ TB := TB_t 992 (by decide +kernel) rfl
theorem kl_X7_222 : Cond.constantLong RX7 222 (65536) ∈ TB := TB_t 993 (by decide +kernel) rfl
theorem ml_L_77 : Cond.methodLink RL 77 yX7_undo ∈ TB := TB_t 994 (by decide +kernel) rfl
theorem im_X7_undo : Cond.instanceMethod yX7_undo ∈ TB := TB_t 995 (by decide +kernel) rfl
theorem se_X7_undo : Cond.selects RX7 yX7_undo yX7_undo ∈ TB := TB_t 996 (by decide +kernel) rfl
set_option maxRecDepth 100000 in
theorem co_X7_undo : Cond.code yX7_undo cX7_undo 1 (some .int) ∈ TB := TB_t 997 rfl rfl
theorem ml_L_81 : Cond.methodLink RL 81 yX7_hat ∈ TB := TB_t 998 (by decide +kernel) rfl
theorem im_X7_hat : Cond.instanceMethod yX7_hat ∈ TB := TB_t 999 (by decide +kernel) rfl
theorem se_X7_hat : Cond.selects RX7 yX7_hat yX7_hat ∈ TB := TB_t 1000 (by decide +kernel) rfl
set_option maxRecDepth 100000 in
theorem co_X7_hat : Cond.code yX7_hat cX7_hat 4 (some .int) ∈ TB := TB_t 1001 rfl rfl
theorem kl_X7_230 : Cond.constantLong RX7 230 (100) ∈ TB := TB_t 1002 (by decide +kernel) rfl
theorem ml_X7_232 : Cond.methodLink RX7 232 yX7_layAside ∈ TB := TB_t 1003 (by decide +kernel) rfl
theorem im_X7_layAside : Cond.instanceMethod yX7_layAside ∈ TB := TB_t 1005 (by decide +kernel) rfl
set_option maxRecDepth 100000 in
theorem co_X7_layAside : Cond.code yX7_layAside cX7_layAside 1 none ∈ TB := TB_t 1006 rfl rfl
theorem ml_L_85 : Cond.methodLink RL 85 yX7_most ∈ TB := TB_t 1007 (by decide +kernel) rfl
theorem im_X7_most : Cond.instanceMethod yX7_most ∈ TB := TB_t 1008 (by decide +kernel) rfl
theorem se_X7_most : Cond.selects RX7 yX7_most yX7_most ∈ TB := TB_t 1009 (by decide +kernel) rfl
set_option maxRecDepth 100000 in
theorem co_X7_most : Cond.code yX7_most cX7_most 7 (some .int) ∈ TB := TB_t 1010 rfl rfl
theorem ml_X7_235 : Cond.methodLink RX7 235 yX7_greater ∈ TB := TB_t 1011 (by decide +kernel) rfl
theorem sm_X7_greater : Cond.static yX7_greater ∈ TB := TB_t 1012 (by decide +kernel) rfl
set_option maxRecDepth 100000 in
theorem co_X7_greater : Cond.code yX7_greater cX7_greater 2 (some .int) ∈ TB := TB_t 1013 rfl rfl
theorem ml_L_89 : Cond.methodLink RL 89 yX7_kept ∈ TB := TB_t 1014 (by decide +kernel) rfl
theorem im_X7_kept : Cond.instanceMethod yX7_kept ∈ TB := TB_t 1015 (by decide +kernel) rfl
theorem se_X7_kept : Cond.selects RX7 yX7_kept yX7_kept ∈ TB := TB_t 1016 (by decide +kernel) rfl
set_option maxRecDepth 100000 in
theorem co_X7_kept : Cond.code yX7_kept cX7_kept 2 (some .int) ∈ TB := TB_t 1017 rfl rfl
theorem ml_L_93 : Cond.methodLink RL 93 yX7_settled ∈ TB := TB_t 1018 (by decide +kernel) rfl
theorem im_X7_settled : Cond.instanceMethod yX7_settled ∈ TB := TB_t 1019 (by decide +kernel) rfl
theorem se_X7_settled : Cond.selects RX7 yX7_settled yX7_settled ∈ TB := TB_t 1020 (by decide +kernel) rfl
set_option maxRecDepth 100000 in
theorem co_X7_settled : Cond.code yX7_settled cX7_settled 6 (some .int) ∈ TB := TB_t 1021 rfl rfl
theorem ml_X7_245 : Cond.methodLink RX7 245 yX7_laysDebts ∈ TB := TB_t 1022 (by decide +kernel) rfl
theorem im_X7_laysDebts : Cond.instanceMethod yX7_laysDebts ∈ TB := TB_t 1024 (by decide +kernel) rfl
set_option maxRecDepth 100000 in
theorem co_X7_laysDebts : Cond.code yX7_laysDebts cX7_laysDebts 5 (some .int) ∈ TB := TB_t 1025 rfl rfl
theorem ml_X7_238 : Cond.methodLink RX7 238 yX7_isOwed ∈ TB := TB_t 1026 (by decide +kernel) rfl
theorem im_X7_isOwed : Cond.instanceMethod yX7_isOwed ∈ TB := TB_t 1028 (by decide +kernel) rfl
set_option maxRecDepth 100000 in
theorem co_X7_isOwed : Cond.code yX7_isOwed cX7_isOwed 2 (some .boolean) ∈ TB := TB_t 1029 rfl rfl
theorem ml_X7_241 : Cond.methodLink RX7 241 yX7_mayPay ∈ TB := TB_t 1030 (by decide +kernel) rfl
theorem im_X7_mayPay : Cond.instanceMethod yX7_mayPay ∈ TB := TB_t 1032 (by decide +kernel) rfl
set_option maxRecDepth 100000 in
theorem co_X7_mayPay : Cond.code yX7_mayPay cX7_mayPay 8 (some .boolean) ∈ TB := TB_t 1033 rfl rfl
theorem ml_L_97 : Cond.methodLink RL 97 yX7_toFloat ∈ TB := TB_t 1034 (by decide +kernel) rfl
theorem im_X7_toFloat : Cond.instanceMethod yX7_toFloat ∈ TB := TB_t 1035 (by decide +kernel) rfl
theorem se_X7_toFloat : Cond.selects RX7 yX7_toFloat yX7_toFloat ∈ TB := TB_t 1036 (by decide +kernel) rfl
set_option maxRecDepth 100000 in
theorem co_X7_toFloat : Cond.code yX7_toFloat cX7_toFloat 6 (some .int) ∈ TB := TB_t 1037 rfl rfl
theorem ml_L_101 : Cond.methodLink RL 101 yX7_nets ∈ TB := TB_t 1038 (by decide +kernel) rfl
theorem im_X7_nets : Cond.instanceMethod yX7_nets ∈ TB := TB_t 1039 (by decide +kernel) rfl
theorem se_X7_nets : Cond.selects RX7 yX7_nets yX7_nets ∈ TB := TB_t 1040 (by decide +kernel) rfl
set_option maxRecDepth 100000 in
theorem co_X7_nets : Cond.code yX7_nets cX7_nets 6 (some .int) ∈ TB := TB_t 1041 rfl rfl
theorem kl_X7_248 : Cond.constantLong RX7 248 (9999) ∈ TB := TB_t 1042 (by decide +kernel) rfl
theorem kl_X7_250 : Cond.constantLong RX7 250 (24) ∈ TB := TB_t 1043 (by decide +kernel) rfl
theorem ml_X7_252 : Cond.methodLink RX7 252 yX7_bits ∈ TB := TB_t 1044 (by decide +kernel) rfl
theorem sm_X7_bits : Cond.static yX7_bits ∈ TB := TB_t 1045 (by decide +kernel) rfl
set_option maxRecDepth 100000 in
theorem co_X7_bits : Cond.code yX7_bits cX7_bits 3 (some .int) ∈ TB := TB_t 1046 rfl rfl
theorem ml_L_105 : Cond.methodLink RL 105 yX7_calm ∈ TB := TB_t 1047 (by decide +kernel) rfl
theorem im_X7_calm : Cond.instanceMethod yX7_calm ∈ TB := TB_t 1048 (by decide +kernel) rfl
theorem se_X7_calm : Cond.selects RX7 yX7_calm yX7_calm ∈ TB := TB_t 1049 (by decide +kernel) rfl
set_option maxRecDepth 100000 in
theorem co_X7_calm : Cond.code yX7_calm cX7_calm 6 (some .int) ∈ TB := TB_t 1050 rfl rfl
theorem kl_X7_255 : Cond.constantLong RX7 255 (1000000000) ∈ TB := TB_t 1051 (by decide +kernel) rfl
theorem ml_L_109 : Cond.methodLink RL 109 yX7_watch ∈ TB := TB_t 1052 (by decide +kernel) rfl
theorem im_X7_watch : Cond.instanceMethod yX7_watch ∈ TB := TB_t 1053 (by decide +kernel) rfl
theorem se_X7_watch : Cond.selects RX7 yX7_watch yX7_watch ∈ TB := TB_t 1054 (by decide +kernel) rfl
set_option maxRecDepth 100000 in
theorem co_X7_watch : Cond.code yX7_watch cX7_watch 2 (some .int) ∈ TB := TB_t 1055 rfl rfl
theorem ml_L_114 : Cond.methodLink RL 114 yX7_feel ∈ TB := TB_t 1056 (by decide +kernel) rfl
theorem im_X7_feel : Cond.instanceMethod yX7_feel ∈ TB := TB_t 1057 (by decide +kernel) rfl
theorem se_X7_feel : Cond.selects RX7 yX7_feel yX7_feel ∈ TB := TB_t 1058 (by decide +kernel) rfl
set_option maxRecDepth 100000 in
theorem co_X7_feel : Cond.code yX7_feel cX7_feel 4 (some .int) ∈ TB := TB_t 1059 rfl rfl
theorem ml_L_118 : Cond.methodLink RL 118 yX7_reach ∈ TB := TB_t 1060 (by decide +kernel) rfl
theorem im_X7_reach : Cond.instanceMethod yX7_reach ∈ TB := TB_t 1061 (by decide +kernel) rfl
theorem se_X7_reach : Cond.selects RX7 yX7_reach yX7_reach ∈ TB := TB_t 1062 (by decide +kernel) rfl
set_option maxRecDepth 100000 in
theorem co_X7_reach : Cond.code yX7_reach cX7_reach 10 (some .int) ∈ TB := TB_t 1063 rfl rfl
theorem kl_X7_257 : Cond.constantLong RX7 257 (3) ∈ TB := TB_t 1064 (by decide +kernel) rfl
theorem ml_X7_259 : Cond.methodLink RX7 259 yX7_isSo ∈ TB := TB_t 1065 (by decide +kernel) rfl
theorem im_X7_isSo : Cond.instanceMethod yX7_isSo ∈ TB := TB_t 1067 (by decide +kernel) rfl
set_option maxRecDepth 100000 in
theorem co_X7_isSo : Cond.code yX7_isSo cX7_isSo 4 (some .boolean) ∈ TB := TB_t 1068 rfl rfl
theorem ml_L_122 : Cond.methodLink RL 122 yX7_write ∈ TB := TB_t 1069 (by decide +kernel) rfl
theorem im_X7_write : Cond.instanceMethod yX7_write ∈ TB := TB_t 1070 (by decide +kernel) rfl
theorem se_X7_write : Cond.selects RX7 yX7_write yX7_write ∈ TB := TB_t 1071 (by decide +kernel) rfl
set_option maxRecDepth 100000 in
theorem co_X7_write : Cond.code yX7_write cX7_write 3 (some .int) ∈ TB := TB_t 1072 rfl rfl
theorem ml_L_126 : Cond.methodLink RL 126 yX7_tear ∈ TB := TB_t 1073 (by decide +kernel) rfl
theorem im_X7_tear : Cond.instanceMethod yX7_tear ∈ TB := TB_t 1074 (by decide +kernel) rfl
theorem se_X7_tear : Cond.selects RX7 yX7_tear yX7_tear ∈ TB := TB_t 1075 (by decide +kernel) rfl
set_option maxRecDepth 100000 in
theorem co_X7_tear : Cond.code yX7_tear cX7_tear 2 (some .int) ∈ TB := TB_t 1076 rfl rfl
theorem ml_L_130 : Cond.methodLink RL 130 yX7_judge ∈ TB := TB_t 1077 (by decide +kernel) rfl
theorem im_X7_judge : Cond.instanceMethod yX7_judge ∈ TB := TB_t 1078 (by decide +kernel) rfl
theorem se_X7_judge : Cond.selects RX7 yX7_judge yX7_judge ∈ TB := TB_t 1079 (by decide +kernel) rfl
set_option maxRecDepth 100000 in
theorem co_X7_judge : Cond.code yX7_judge cX7_judge 2 (some .int) ∈ TB := TB_t 1080 rfl rfl
theorem ml_L_134 : Cond.methodLink RL 134 yX7_seed ∈ TB := TB_t 1081 (by decide +kernel) rfl
theorem im_X7_seed : Cond.instanceMethod yX7_seed ∈ TB := TB_t 1082 (by decide +kernel) rfl
theorem se_X7_seed : Cond.selects RX7 yX7_seed yX7_seed ∈ TB := TB_t 1083 (by decide +kernel) rfl
set_option maxRecDepth 100000 in
theorem co_X7_seed : Cond.code yX7_seed cX7_seed 3 (some .int) ∈ TB := TB_t 1084 rfl rfl
theorem ml_L_138 : Cond.methodLink RL 138 yX7_keep ∈ TB := TB_t 1085 (by decide +kernel) rfl
theorem im_X7_keep : Cond.instanceMethod yX7_keep ∈ TB := TB_t 1086 (by decide +kernel) rfl
theorem se_X7_keep : Cond.selects RX7 yX7_keep yX7_keep ∈ TB := TB_t 1087 (by decide +kernel) rfl
set_option maxRecDepth 100000 in
theorem co_X7_keep : Cond.code yX7_keep cX7_keep 2 (some .int) ∈ TB := TB_t 1088 rfl rfl
theorem ml_L_142 : Cond.methodLink RL 142 yX7_goBack ∈ TB := TB_t 1089 (by decide +kernel) rfl
theorem im_X7_goBack : Cond.instanceMethod yX7_goBack ∈ TB := TB_t 1090 (by decide +kernel) rfl
theorem se_X7_goBack : Cond.selects RX7 yX7_goBack yX7_goBack ∈ TB := TB_t 1091 (by decide +kernel) rfl
set_option maxRecDepth 100000 in
theorem co_X7_goBack : Cond.code yX7_goBack cX7_goBack 2 (some .int) ∈ TB := TB_t 1092 rfl rfl
theorem se_X5_skipBlanks : Cond.selects RX5 yX5_skipBlanks yX5_skipBlanks ∈ TB := TB_p 0 (by decide +kernel) rfl
theorem se_X5_readClause : Cond.selects RX5 yX5_readClause yX5_readClause ∈ TB := TB_p 1 (by decide +kernel) rfl
theorem se_X5_noteFault : Cond.selects RX5 yX5_noteFault yX5_noteFault ∈ TB := TB_p 2 (by decide +kernel) rfl
theorem se_X5_readTree : Cond.selects RX5 yX5_readTree yX5_readTree ∈ TB := TB_p 3 (by decide +kernel) rfl
theorem se_X5_readNumber : Cond.selects RX5 yX5_readNumber yX5_readNumber ∈ TB := TB_p 4 (by decide +kernel) rfl
theorem se_X5_readEnd : Cond.selects RX5 yX5_readEnd yX5_readEnd ∈ TB := TB_p 5 (by decide +kernel) rfl
theorem se_X5_readPerson : Cond.selects RX5 yX5_readPerson yX5_readPerson ∈ TB := TB_p 6 (by decide +kernel) rfl
theorem se_X5_readDebt : Cond.selects RX5 yX5_readDebt yX5_readDebt ∈ TB := TB_p 7 (by decide +kernel) rfl
theorem se_X0_notePlace : Cond.selects RX0 yX0_notePlace yX0_notePlace ∈ TB := TB_p 8 (by decide +kernel) rfl
theorem se_X6_richest : Cond.selects RX6 yX6_richest yX6_richest ∈ TB := TB_p 9 (by decide +kernel) rfl
theorem se_X6_rings : Cond.selects RX6 yX6_rings yX6_rings ∈ TB := TB_p 10 (by decide +kernel) rfl
theorem se_X6_creditorsOf : Cond.selects RX6 yX6_creditorsOf yX6_creditorsOf ∈ TB := TB_p 11 (by decide +kernel) rfl
theorem se_X6_owedInAll : Cond.selects RX6 yX6_owedInAll yX6_owedInAll ∈ TB := TB_p 12 (by decide +kernel) rfl
theorem se_X6_suspects : Cond.selects RX6 yX6_suspects yX6_suspects ∈ TB := TB_p 13 (by decide +kernel) rfl
theorem se_X6_owedBy : Cond.selects RX6 yX6_owedBy yX6_owedBy ∈ TB := TB_p 14 (by decide +kernel) rfl
theorem se_X6_owedTo : Cond.selects RX6 yX6_owedTo yX6_owedTo ∈ TB := TB_p 15 (by decide +kernel) rfl
theorem se_X0_changeBy : Cond.selects RX0 yX0_changeBy yX0_changeBy ∈ TB := TB_p 16 (by decide +kernel) rfl
theorem se_X6_refusalOfHours : Cond.selects RX6 yX6_refusalOfHours yX6_refusalOfHours ∈ TB := TB_p 17 (by decide +kernel) rfl
theorem se_X0_whoDraws : Cond.selects RX0 yX0_whoDraws yX0_whoDraws ∈ TB := TB_p 18 (by decide +kernel) rfl
theorem se_X0_goHome : Cond.selects RX0 yX0_goHome yX0_goHome ∈ TB := TB_p 19 (by decide +kernel) rfl
theorem se_X6_doByDraw : Cond.selects RX6 yX6_doByDraw yX6_doByDraw ∈ TB := TB_p 20 (by decide +kernel) rfl
theorem se_X6_drawOf : Cond.selects RX6 yX6_drawOf yX6_drawOf ∈ TB := TB_p 21 (by decide +kernel) rfl
theorem se_X4_beginSets : Cond.selects RX4 yX4_beginSets yX4_beginSets ∈ TB := TB_p 22 (by decide +kernel) rfl
theorem se_X4_fillHats : Cond.selects RX4 yX4_fillHats yX4_fillHats ∈ TB := TB_p 23 (by decide +kernel) rfl
theorem se_X4_offer : Cond.selects RX4 yX4_offer yX4_offer ∈ TB := TB_p 24 (by decide +kernel) rfl
theorem se_X6_birdsWithNets : Cond.selects RX6 yX6_birdsWithNets yX6_birdsWithNets ∈ TB := TB_p 25 (by decide +kernel) rfl
theorem se_X3_canReach : Cond.selects RX3 yX3_canReach yX3_canReach ∈ TB := TB_p 26 (by decide +kernel) rfl
theorem se_X7_step : Cond.selects RX7 yX7_step yX7_step ∈ TB := TB_p 27 (by decide +kernel) rfl
theorem se_X7_here : Cond.selects RX7 yX7_here yX7_here ∈ TB := TB_p 28 (by decide +kernel) rfl
theorem se_X7_readsClause : Cond.selects RX7 yX7_readsClause yX7_readsClause ∈ TB := TB_p 29 (by decide +kernel) rfl
theorem se_X7_fails : Cond.selects RX7 yX7_fails yX7_fails ∈ TB := TB_p 30 (by decide +kernel) rfl
theorem se_X7_number : Cond.selects RX7 yX7_number yX7_number ∈ TB := TB_p 31 (by decide +kernel) rfl
theorem se_X7_ends : Cond.selects RX7 yX7_ends yX7_ends ∈ TB := TB_p 32 (by decide +kernel) rfl
theorem se_X7_readsPerson : Cond.selects RX7 yX7_readsPerson yX7_readsPerson ∈ TB := TB_p 33 (by decide +kernel) rfl
theorem se_X7_readsDebt : Cond.selects RX7 yX7_readsDebt yX7_readsDebt ∈ TB := TB_p 34 (by decide +kernel) rfl
theorem se_X7_begins : Cond.selects RX7 yX7_begins yX7_begins ∈ TB := TB_p 35 (by decide +kernel) rfl
theorem se_X7_hatsOn : Cond.selects RX7 yX7_hatsOn yX7_hatsOn ∈ TB := TB_p 36 (by decide +kernel) rfl
theorem se_X7_rich : Cond.selects RX7 yX7_rich yX7_rich ∈ TB := TB_p 37 (by decide +kernel) rfl
theorem se_X7_rings : Cond.selects RX7 yX7_rings yX7_rings ∈ TB := TB_p 38 (by decide +kernel) rfl
theorem se_X7_owes : Cond.selects RX7 yX7_owes yX7_owes ∈ TB := TB_p 39 (by decide +kernel) rfl
theorem se_X7_who : Cond.selects RX7 yX7_who yX7_who ∈ TB := TB_p 40 (by decide +kernel) rfl
theorem se_X7_drawnBy : Cond.selects RX7 yX7_drawnBy yX7_drawnBy ∈ TB := TB_p 41 (by decide +kernel) rfl
theorem se_X7_isPerson : Cond.selects RX7 yX7_isPerson yX7_isPerson ∈ TB := TB_p 42 (by decide +kernel) rfl
theorem se_X7_lossOn : Cond.selects RX7 yX7_lossOn yX7_lossOn ∈ TB := TB_p 43 (by decide +kernel) rfl
theorem se_X7_remember : Cond.selects RX7 yX7_remember yX7_remember ∈ TB := TB_p 44 (by decide +kernel) rfl
theorem se_X7_strews : Cond.selects RX7 yX7_strews yX7_strews ∈ TB := TB_p 45 (by decide +kernel) rfl
theorem se_X7_hawks : Cond.selects RX7 yX7_hawks yX7_hawks ∈ TB := TB_p 46 (by decide +kernel) rfl
theorem se_X7_refuses : Cond.selects RX7 yX7_refuses yX7_refuses ∈ TB := TB_p 47 (by decide +kernel) rfl
theorem se_X7_hourGoes : Cond.selects RX7 yX7_hourGoes yX7_hourGoes ∈ TB := TB_p 48 (by decide +kernel) rfl
theorem se_X7_drawerOn : Cond.selects RX7 yX7_drawerOn yX7_drawerOn ∈ TB := TB_p 49 (by decide +kernel) rfl
theorem se_X7_draws : Cond.selects RX7 yX7_draws yX7_draws ∈ TB := TB_p 50 (by decide +kernel) rfl
theorem se_X7_draw : Cond.selects RX7 yX7_draw yX7_draw ∈ TB := TB_p 51 (by decide +kernel) rfl
theorem se_X7_layAside : Cond.selects RX7 yX7_layAside yX7_layAside ∈ TB := TB_p 52 (by decide +kernel) rfl
theorem se_X7_laysDebts : Cond.selects RX7 yX7_laysDebts yX7_laysDebts ∈ TB := TB_p 53 (by decide +kernel) rfl
theorem se_X7_isOwed : Cond.selects RX7 yX7_isOwed yX7_isOwed ∈ TB := TB_p 54 (by decide +kernel) rfl
theorem se_X7_mayPay : Cond.selects RX7 yX7_mayPay yX7_mayPay ∈ TB := TB_p 55 (by decide +kernel) rfl
theorem se_X7_isSo : Cond.selects RX7 yX7_isSo yX7_isSo ∈ TB := TB_p 56 (by decide +kernel) rfl
def nestW : List (String × Nat × MethodName × String) := [(RX6, 9, yX5_init, RX6), (RX6, 18, yX1_init, RX6), (RX6, 28, yX0_init, RX6), (RX2, 24, yX0_init, RX6), (RX6, 57, yX4_init, RX6), (RX6, 64, yX3_init, RX6), (RX5, 87, yX6_isOutside, RX6), (RX0, 65, yX6_has, RX6), (RX4, 63, yX6_has, RX6)]
theorem nestW_in : ∀ q ∈ nestW, Cond.methodLinkNest q.1 q.2.1 q.2.2.1 q.2.2.2 ∈ lw_tbl := by decide +kernel
set_option maxRecDepth 100000 in
theorem ao_in : Cond.arrayOver (.object "SparrowChange$Flock") ∈ lw_tbl := List.mem_append_right _ (List.mem_of_getElem? (i := 164) rfl)
theorem inB0 : ∀ w ∈ u_ws RX0 TX0 9, w ∈ TB := fun w hw => TB_in (inX0 w hw) (List.all_eq_true.mp (by decide +kernel : (u_ws RX0 TX0 9).all goodWord = true) w hw)
theorem inB1 : ∀ w ∈ u_ws RX1 TX1 11, w ∈ TB := fun w hw => TB_in (inX1 w hw) (List.all_eq_true.mp (by decide +kernel : (u_ws RX1 TX1 11).all goodWord = true) w hw)
theorem inB2 : ∀ w ∈ u_ws RX2 TX2 3, w ∈ TB := fun w hw => TB_in (inX2 w hw) (List.all_eq_true.mp (by decide +kernel : (u_ws RX2 TX2 3).all goodWord = true) w hw)
theorem inB3 : ∀ w ∈ u_ws RX3 TX3 8, w ∈ TB := fun w hw => TB_in (inX3 w hw) (List.all_eq_true.mp (by decide +kernel : (u_ws RX3 TX3 8).all goodWord = true) w hw)
theorem inB4 : ∀ w ∈ u_ws RX4 TX4 2, w ∈ TB := fun w hw => TB_in (inX4 w hw) (List.all_eq_true.mp (by decide +kernel : (u_ws RX4 TX4 2).all goodWord = true) w hw)
theorem inB5 : ∀ w ∈ u_ws RX5 TX5 6, w ∈ TB := fun w hw => TB_in (inX5 w hw) (List.all_eq_true.mp (by decide +kernel : (u_ws RX5 TX5 6).all goodWord = true) w hw)
theorem inB6 : ∀ w ∈ u_ws RX6 TX6 13, w ∈ TB := fun w hw => TB_in (inX6 w hw) (List.all_eq_true.mp (by decide +kernel : (u_ws RX6 TX6 13).all goodWord = true) w hw)
theorem inB7 : ∀ w ∈ u_ws RX7 TX7 26, w ∈ TB := fun w hw => TB_in (inX7 w hw) (List.all_eq_true.mp (by decide +kernel : (u_ws RX7 TX7 26).all goodWord = true) w hw)
end
section
/-! the environment; the heap as a map of offsets; the judgement V over it -/
theorem TB_good {c c' : Cond} (hc : c' ∈ TB) : GoodIn (c :: TB) (c' :: TB) := fun w hw => by
  rcases List.mem_cons.mp hw with rfl | hw
  · exact ⟨List.mem_cons_of_mem _ hc, good_of_word (List.mem_filter.mp hc).2⟩
  · exact ⟨List.mem_cons_of_mem _ hw, good_of_word (List.mem_filter.mp hw).2⟩
theorem TB_goodB {c' : Cond} (hc : c' ∈ TB) : GoodIn TB (c' :: TB) := fun w hw => by
  rcases List.mem_cons.mp hw with rfl | hw
  · exact ⟨hc, good_of_word (List.mem_filter.mp hc).2⟩
  · exact ⟨hw, good_of_word (List.mem_filter.mp hw).2⟩
abbrev Hp : Type := Nat → va_E
/-- launch, numbers and slots of the made ones, the heap's size at the law's start, int[], boolean[], Flock[] -/
abbrev Ev : Type := Launch × va_G × Nat × ClassId × ClassId × ClassId
abbrev Ez (E : Ev) : Nat := E.2.2.1
abbrev EI (E : Ev) : ClassId := E.2.2.2.1
abbrev EZ (E : Ev) : ClassId := E.2.2.2.2.1
abbrev EF (E : Ev) : ClassId := E.2.2.2.2.2
def tyE (E : Ev) : List (ClassId × FieldType) := [(EI E, .int), (EZ E, .boolean), (EF E, .object "SparrowChange$Flock")]
def zA (E : Ev) : Nat → Prop := fun q => Ez E ≤ q
def Rr (E : Ev) (B : Bool) (N : Nat) (h : Hp) (H : Heap) : Prop := (Ez E + N ≤ H.size ∧ (B = true → H.size = Ez E + N)) ∧ ∀ o, o < N → va_at E.2.1 vwCl (Ez E + o, h o) H
def NW (U : State) : Prop := ∀ q ∈ nestW, va_Nw (.methodLinkNest q.1 q.2.1 q.2.2.1 q.2.2.2) U
def KK (E : Ev) (U : State) : Prop := va_K E.2.1 vwCl (tyE E) U ∧ NW U ∧ va_AO "SparrowChange$Flock" U
theorem KK.warm {E : Ev} {s U : State} (hW : s.WarmedH U.vm) (h : KK E s) : KK E U := ⟨va_K.moved hW.alike h.1, fun q hq => (h.2.1 q hq).warmM hW, h.2.2.moved hW.alike⟩
theorem KK.same {E : Ev} {s U : State} (hv : s.vm = U.vm) (h : KK E s) : KK E U := ⟨va_K.moved (by rw [hv]; exact Vm.Alike.refl _) h.1, fun q hq => (h.2.1 q hq).same rfl hv, h.2.2.moved (by rw [hv]; exact Vm.Alike.refl _)⟩
/-- program, environment, state at entry, method, arguments, frames below, the method and its code -/
abbrev Cx : Type := Program × Env × State × MethodId × Array Value × List Frame × Method × Code
def okX (E : Ev) (X : Cx) (own : String) (cc : ByteArray) (nL : Nat) (ret : Option FieldType) : Prop :=
  X.1.tables.exec = Jvm.exec ∧ X.2.2.2.2.2.2.2.code = cc ∧ X.2.2.2.2.2.2.2.maxLocals = nL ∧ X.2.2.1.vm.findClass own = some X.2.2.2.1.cls ∧ (∀ w ∈ TB, w.before X.2.2.2.2.1 X.2.2.1 = true) ∧ KK E X.2.2.1 ∧ X.2.2.2.2.2.2.1.sig.returnType = ret ∧ X.2.2.2.2.2.2.1.locks = false ∧ Ez E ≤ X.2.2.1.heap.size
def V (E : Ev) (X : Cx) (R : Room) (own : String) (cc : ByteArray) (nL : Nat) (ret : Option FieldType) (k n : Nat) (Q : State → Prop) (B : Bool) (N : Nat) (pc : Nat) (lv : List (Nat × Value)) (st : List Value) (h : Hp) : Prop :=
  okX E X own cc nL ret → ∀ (H : Heap) (locs : List Loc) (ls : Array Slot), Rr E B N h H → va_S (zA E) X.2.2.1.heap H locs → lv_has ls nL lv →
    W X.1 E.1 X.2.1 R X.2.2.1 X.2.2.2.1 X.2.2.2.2.1 X.2.2.2.2.2.1 X.2.2.2.2.2.2.1 X.2.2.2.2.2.2.2 H locs k n Q (F0 X.2.2.2.1 pc ls st)
def Qx (E : Ev) (B : Bool) (N' : Nat) (post : Option Value → Hp → Prop) : Array Value → State → Outcome → State → Prop := fun _ st oc t => (∃ (r : Option Value) (h' : Hp), oc = .returned r ∧ post r h' ∧ Rr E B N' h' t.heap) ∧ va_F (zA E) st t
/-- a method's contract over the map of the heap -/
def Ct (E : Ev) (y : MethodName) (cc : ByteArray) (nL : Nat) (ret : Option FieldType) (rm : Room) (B : Bool) (N : Nat) (av : List Value) (h : Hp) (N' mc ms : Nat) (post : Option Value → Hp → Prop) : Prop :=
  Met E.1 y (.code y cc nL ret :: TB) rm (va_Pc av (fun U => Rr E B N h U.heap ∧ KK E U ∧ Ez E ≤ U.heap.size)) (Qx E B N' post) mc ms (zA E)
def QX (E : Ev) (X : Cx) (B : Bool) (N' : Nat) (post : Option Value → Hp → Prop) (k n : Nat) : State → Prop := MQ X.2.2.2.2.2.1 (Qx E B N' post) X.2.2.2.2.1 X.2.2.1 k n (zA E)
/-- an answer and a heap that are told by functions -/
def Ff (r : Option Value) (h : Hp) : Option Value → Hp → Prop := fun r2 h2 => r2 = r ∧ h2 = h
theorem Ct.ofV {E : Ev} {y : MethodName} {cc : ByteArray} {nL : Nat} {ret : Option FieldType} {rm : Room} {B : Bool} {N : Nat} {av : List Value} {h : Hp} {N' mc ms : Nat} {post : Option Value → Hp → Prop} (hy : plainName y.cls = true) (hlen : (lg_sl av).length ≤ nL)
    (body : ∀ X : Cx, X.2.2.2.2.2.2.1.name = y.name → V E X rm y.cls cc nL ret 0 0 (QX E X B N' post mc ms) B N 0 (lv_args 0 av) [] h) : Ct E y cc nL ret rm B N av h N' mc ms post := by
  refine Met.ofW (cc := cc) (maxL := nL) (ret := ret) hy rfl ?_
  intro p e s m args below meth c s₁ Bd hml hv
  obtain ⟨rfl, hr, hK, hz⟩ := hv
  have hts := atoms_spec (ws := .code y cc nL ret :: TB) Bd.pre
  have hl := lv_entry av (n := nL) hlen
  rw [lg_entry_eq]
  have hb := body (p, e, s, m, av.toArray, below, meth, c) (name_of_methodNamed Bd.named Bd.method).1
  exact hb ⟨Bd.exec, Bd.bytes, hml, findClass_of_methodNamed Bd.named, fun w hw => hts w (List.mem_cons_of_mem _ hw), hK, Bd.returns, Bd.notSynchronized, hz⟩ s.heap [] _ hr va_S.rf hl
section VV
variable {E : Ev} {X : Cx} {R : Room} {own : String} {cc : ByteArray} {nL : Nat} {ret : Option FieldType} {k n : Nat} {Q : State → Prop} {B : Bool} {N pc : Nat} {lv lv' : List (Nat × Value)} {st : List Value} {h h' : Hp}
theorem v_cast {lv2 : List (Nat × Value)} {st2 : List Value} (e1 : lv = lv2) (e2 : st = st2) (e3 : h = h') (kk : V E X R own cc nL ret k n Q B N pc lv2 st2 h') : V E X R own cc nL ret k n Q B N pc lv st h := by subst e1; subst e2; subst e3; exact kk
theorem v_heap (e3 : ∀ o, o < N → h o = h' o) (kk : V E X R own cc nL ret k n Q B N pc lv st h') : V E X R own cc nL ret k n Q B N pc lv st h := fun ok H locs ls hr hS hl => kk ok H locs ls ⟨hr.1, fun o ho => by rw [← e3 o ho]; exact hr.2 o ho⟩ hS hl
theorem v_sub (ks : List Nat) (hp : lv_pick lv ks = lv') (kk : V E X R own cc nL ret k n Q B N pc lv' st h) : V E X R own cc nL ret k n Q B N pc lv st h := fun ok H locs ls hr hS hl => kk ok H locs ls hr hS (lv_sub hl ks hp)
theorem v_ok (kk : okX E X own cc nL ret → V E X R own cc nL ret k n Q B N pc lv st h) : V E X R own cc nL ret k n Q B N pc lv st h := fun ok => kk ok ok
theorem v_iconst {a : Int} (v : Int32) (hd : decode cc pc = .ok (.iconst a, 1)) (hv : Int32.ofInt a = v) (kk : V E X R own cc nL ret k n Q B N (pc + 1) lv (.int v :: st) h) : V E X R own cc nL ret k n Q B N pc lv st h := fun ok H locs ls hr hS hl => lv_iconst ok.1 ok.2.1 hd hv (kk ok H locs ls hr hS hl)
theorem v_bipush {a : Int} (v : Int32) (hd : decode cc pc = .ok (.bipush a, 2)) (hv : (Int8.ofInt a).toInt32 = v) (kk : V E X R own cc nL ret k n Q B N (pc + 2) lv (.int v :: st) h) : V E X R own cc nL ret k n Q B N pc lv st h := fun ok H locs ls hr hS hl => lv_bipush ok.1 ok.2.1 hd hv (kk ok H locs ls hr hS hl)
theorem v_sipush {a : Int} (v : Int32) (hd : decode cc pc = .ok (.sipush a, 3)) (hv : (Int16.ofInt a).toInt32 = v) (kk : V E X R own cc nL ret k n Q B N (pc + 3) lv (.int v :: st) h) : V E X R own cc nL ret k n Q B N pc lv st h := fun ok H locs ls hr hS hl => lv_sipush ok.1 ok.2.1 hd hv (kk ok H locs ls hr hS hl)
theorem v_lconst {a : Fin 2} (v : Int64) (hd : decode cc pc = .ok (.lconst a, 1)) (hv : Int64.ofNat (a : Nat) = v) (kk : V E X R own cc nL ret k n Q B N (pc + 1) lv (.long v :: st) h) : V E X R own cc nL ret k n Q B N pc lv st h := fun ok H locs ls hr hS hl => lv_lconst ok.1 ok.2.1 hd hv (kk ok H locs ls hr hS hl)
theorem v_ldc {index : Nat} {v : Int32} (v' : Int32) (hw : Cond.constant own index v ∈ TB) (hd : decode cc pc = .ok (.ldc index, 2)) (hv : v = v') (kk : V E X R own cc nL ret k n Q B N (pc + 2) lv (.int v' :: st) h) : V E X R own cc nL ret k n Q B N pc lv st h := fun ok H locs ls hr hS hl => lv_ldc ok.1 ok.2.1 ok.2.2.2.1 (ok.2.2.2.2.1 _ hw) hd (by rw [hv]; exact kk ok H locs ls hr hS hl)
theorem v_ldcw {index : Nat} {v : Int32} (v' : Int32) (hw : Cond.constant own index v ∈ TB) (hd : decode cc pc = .ok (.ldc_w index, 3)) (hv : v = v') (kk : V E X R own cc nL ret k n Q B N (pc + 3) lv (.int v' :: st) h) : V E X R own cc nL ret k n Q B N pc lv st h := fun ok H locs ls hr hS hl => lv_ldcw ok.1 ok.2.1 ok.2.2.2.1 (ok.2.2.2.2.1 _ hw) hd (by rw [hv]; exact kk ok H locs ls hr hS hl)
theorem v_ldc2 {index : Nat} {v : Int64} (v' : Int64) (hw : Cond.constantLong own index v ∈ TB) (hd : decode cc pc = .ok (.ldc2_w index, 3)) (hv : v = v') (kk : V E X R own cc nL ret k n Q B N (pc + 3) lv (.long v' :: st) h) : V E X R own cc nL ret k n Q B N pc lv st h := fun ok H locs ls hr hS hl => lv_ldc2 ok.1 ok.2.1 ok.2.2.2.1 (ok.2.2.2.2.1 _ hw) hd (by rw [hv]; exact kk ok H locs ls hr hS hl)
theorem v_iload_n {a : Fin 4} {i : Nat} {x : Int32} (j : Nat) (hd : decode cc pc = .ok (.iload_n a, 1)) (hj : lv[j]? = some (i, .int x)) (hi : (a : Nat) = i) (kk : V E X R own cc nL ret k n Q B N (pc + 1) lv (.int x :: st) h) : V E X R own cc nL ret k n Q B N pc lv st h := fun ok H locs ls hr hS hl => lv_iload_n ok.1 ok.2.1 hd hi (lv_at hl j hj) (kk ok H locs ls hr hS hl)
theorem v_iload {i : Nat} {x : Int32} (j : Nat) (hd : decode cc pc = .ok (.iload i, 2)) (hj : lv[j]? = some (i, .int x)) (kk : V E X R own cc nL ret k n Q B N (pc + 2) lv (.int x :: st) h) : V E X R own cc nL ret k n Q B N pc lv st h := fun ok H locs ls hr hS hl => lv_iload ok.1 ok.2.1 hd (lv_at hl j hj) (kk ok H locs ls hr hS hl)
theorem v_lload_n {a : Fin 4} {i : Nat} {x : Int64} (j : Nat) (hd : decode cc pc = .ok (.lload_n a, 1)) (hj : lv[j]? = some (i, .long x)) (hi : (a : Nat) = i) (kk : V E X R own cc nL ret k n Q B N (pc + 1) lv (.long x :: st) h) : V E X R own cc nL ret k n Q B N pc lv st h := fun ok H locs ls hr hS hl => lv_lload_n ok.1 ok.2.1 hd hi (lv_at hl j hj) (kk ok H locs ls hr hS hl)
theorem v_lload {i : Nat} {x : Int64} (j : Nat) (hd : decode cc pc = .ok (.lload i, 2)) (hj : lv[j]? = some (i, .long x)) (kk : V E X R own cc nL ret k n Q B N (pc + 2) lv (.long x :: st) h) : V E X R own cc nL ret k n Q B N pc lv st h := fun ok H locs ls hr hS hl => lv_lload ok.1 ok.2.1 hd (lv_at hl j hj) (kk ok H locs ls hr hS hl)
theorem v_aload_n {a : Fin 4} {i : Nat} {x : Nat} (j : Nat) (hd : decode cc pc = .ok (.aload_n a, 1)) (hj : lv[j]? = some (i, .ref x)) (hi : (a : Nat) = i) (kk : V E X R own cc nL ret k n Q B N (pc + 1) lv (.ref x :: st) h) : V E X R own cc nL ret k n Q B N pc lv st h := fun ok H locs ls hr hS hl => lv_aload_n ok.1 ok.2.1 hd hi (lv_at hl j hj) (kk ok H locs ls hr hS hl)
theorem v_aload {i : Nat} {x : Nat} (j : Nat) (hd : decode cc pc = .ok (.aload i, 2)) (hj : lv[j]? = some (i, .ref x)) (kk : V E X R own cc nL ret k n Q B N (pc + 2) lv (.ref x :: st) h) : V E X R own cc nL ret k n Q B N pc lv st h := fun ok H locs ls hr hS hl => lv_aload ok.1 ok.2.1 hd (lv_at hl j hj) (kk ok H locs ls hr hS hl)
theorem v_istore_n {a : Fin 4} {i : Nat} {x : Int32} (ks : List Nat) (lv' : List (Nat × Value)) (hd : decode cc pc = .ok (.istore_n a, 1)) (hi : (a : Nat) = i) (hn : i < nL) (hp : lv_pick ((i, Value.int x) :: lv.filter (fun q => !(q.1 == i) && !(q.1 + 1 == i && q.2.category == 2))) ks = lv') (kk : V E X R own cc nL ret k n Q B N (pc + 1) lv' st h) : V E X R own cc nL ret k n Q B N pc lv (.int x :: st) h := fun ok H locs ls hr hS hl => lv_istore_n ok.1 ok.2.1 hd hi hl hn rfl (fun ls' hl' => kk ok H locs ls' hr hS (lv_sub hl' ks hp))
theorem v_istore {i : Nat} {x : Int32} (ks : List Nat) (lv' : List (Nat × Value)) (hd : decode cc pc = .ok (.istore i, 2)) (hn : i < nL) (hp : lv_pick ((i, Value.int x) :: lv.filter (fun q => !(q.1 == i) && !(q.1 + 1 == i && q.2.category == 2))) ks = lv') (kk : V E X R own cc nL ret k n Q B N (pc + 2) lv' st h) : V E X R own cc nL ret k n Q B N pc lv (.int x :: st) h := fun ok H locs ls hr hS hl => lv_istore ok.1 ok.2.1 hd hl hn rfl (fun ls' hl' => kk ok H locs ls' hr hS (lv_sub hl' ks hp))
theorem v_astore_n {a : Fin 4} {i : Nat} {x : Nat} (ks : List Nat) (lv' : List (Nat × Value)) (hd : decode cc pc = .ok (.astore_n a, 1)) (hi : (a : Nat) = i) (hn : i < nL) (hp : lv_pick ((i, Value.ref x) :: lv.filter (fun q => !(q.1 == i) && !(q.1 + 1 == i && q.2.category == 2))) ks = lv') (kk : V E X R own cc nL ret k n Q B N (pc + 1) lv' st h) : V E X R own cc nL ret k n Q B N pc lv (.ref x :: st) h := fun ok H locs ls hr hS hl => lv_astore_n ok.1 ok.2.1 hd hi hl hn rfl (fun ls' hl' => kk ok H locs ls' hr hS (lv_sub hl' ks hp))
theorem v_astore {i : Nat} {x : Nat} (ks : List Nat) (lv' : List (Nat × Value)) (hd : decode cc pc = .ok (.astore i, 2)) (hn : i < nL) (hp : lv_pick ((i, Value.ref x) :: lv.filter (fun q => !(q.1 == i) && !(q.1 + 1 == i && q.2.category == 2))) ks = lv') (kk : V E X R own cc nL ret k n Q B N (pc + 2) lv' st h) : V E X R own cc nL ret k n Q B N pc lv (.ref x :: st) h := fun ok H locs ls hr hS hl => lv_astore ok.1 ok.2.1 hd hl hn rfl (fun ls' hl' => kk ok H locs ls' hr hS (lv_sub hl' ks hp))
theorem v_lstore_n {a : Fin 4} {i : Nat} {x : Int64} (ks : List Nat) (lv' : List (Nat × Value)) (hd : decode cc pc = .ok (.lstore_n a, 1)) (hi : (a : Nat) = i) (hn : i + 1 < nL) (hp : lv_pick ((i, Value.long x) :: lv.filter (fun q => !(q.1 == i) && (!(q.1 == i + 1) && !(q.1 + 1 == i && q.2.category == 2)))) ks = lv') (kk : V E X R own cc nL ret k n Q B N (pc + 1) lv' st h) : V E X R own cc nL ret k n Q B N pc lv (.long x :: st) h := fun ok H locs ls hr hS hl => lv_lstore_n ok.1 ok.2.1 hd hi hl hn rfl (fun ls' hl' => kk ok H locs ls' hr hS (lv_sub hl' ks hp))
theorem v_lstore {i : Nat} {x : Int64} (ks : List Nat) (lv' : List (Nat × Value)) (hd : decode cc pc = .ok (.lstore i, 2)) (hn : i + 1 < nL) (hp : lv_pick ((i, Value.long x) :: lv.filter (fun q => !(q.1 == i) && (!(q.1 == i + 1) && !(q.1 + 1 == i && q.2.category == 2)))) ks = lv') (kk : V E X R own cc nL ret k n Q B N (pc + 2) lv' st h) : V E X R own cc nL ret k n Q B N pc lv (.long x :: st) h := fun ok H locs ls hr hS hl => lv_lstore ok.1 ok.2.1 hd hl hn rfl (fun ls' hl' => kk ok H locs ls' hr hS (lv_sub hl' ks hp))
theorem v_iinc {i : Nat} {a : Int} {x : Int32} (v : Int32) (j : Nat) (ks : List Nat) (lv' : List (Nat × Value)) (hd : decode cc pc = .ok (.iinc i a, 3)) (hj : lv[j]? = some (i, .int x)) (hv : x + Int32.ofInt a = v) (hn : i < nL) (hp : lv_pick ((i, Value.int v) :: lv.filter (fun q => !(q.1 == i) && !(q.1 + 1 == i && q.2.category == 2))) ks = lv') (kk : V E X R own cc nL ret k n Q B N (pc + 3) lv' st h) : V E X R own cc nL ret k n Q B N pc lv st h := fun ok H locs ls hr hS hl => lv_iinc ok.1 ok.2.1 hd hl hj hv hn rfl (fun ls' hl' => kk ok H locs ls' hr hS (lv_sub hl' ks hp))
theorem v_iadd {x y : Int32} (hd : decode cc pc = .ok (.iadd, 1)) (kk : V E X R own cc nL ret k n Q B N (pc + 1) lv (.int (x + y) :: st) h) : V E X R own cc nL ret k n Q B N pc lv (.int y :: .int x :: st) h := fun ok H locs ls hr hS hl => lv_iadd ok.1 ok.2.1 hd (kk ok H locs ls hr hS hl)
theorem v_isub {x y : Int32} (hd : decode cc pc = .ok (.isub, 1)) (kk : V E X R own cc nL ret k n Q B N (pc + 1) lv (.int (x - y) :: st) h) : V E X R own cc nL ret k n Q B N pc lv (.int y :: .int x :: st) h := fun ok H locs ls hr hS hl => lv_isub ok.1 ok.2.1 hd (kk ok H locs ls hr hS hl)
theorem v_imul {x y : Int32} (hd : decode cc pc = .ok (.imul, 1)) (kk : V E X R own cc nL ret k n Q B N (pc + 1) lv (.int (x * y) :: st) h) : V E X R own cc nL ret k n Q B N pc lv (.int y :: .int x :: st) h := fun ok H locs ls hr hS hl => lv_imul ok.1 ok.2.1 hd (kk ok H locs ls hr hS hl)
theorem v_iand {x y : Int32} (hd : decode cc pc = .ok (.iand, 1)) (kk : V E X R own cc nL ret k n Q B N (pc + 1) lv (.int (x &&& y) :: st) h) : V E X R own cc nL ret k n Q B N pc lv (.int y :: .int x :: st) h := fun ok H locs ls hr hS hl => lv_iand ok.1 ok.2.1 hd (kk ok H locs ls hr hS hl)
theorem v_ior {x y : Int32} (hd : decode cc pc = .ok (.ior, 1)) (kk : V E X R own cc nL ret k n Q B N (pc + 1) lv (.int (x ||| y) :: st) h) : V E X R own cc nL ret k n Q B N pc lv (.int y :: .int x :: st) h := fun ok H locs ls hr hS hl => lv_ior ok.1 ok.2.1 hd (kk ok H locs ls hr hS hl)
theorem v_ixor {x y : Int32} (hd : decode cc pc = .ok (.ixor, 1)) (kk : V E X R own cc nL ret k n Q B N (pc + 1) lv (.int (x ^^^ y) :: st) h) : V E X R own cc nL ret k n Q B N pc lv (.int y :: .int x :: st) h := fun ok H locs ls hr hS hl => lv_ixor ok.1 ok.2.1 hd (kk ok H locs ls hr hS hl)
theorem v_ishl {x y : Int32} (hd : decode cc pc = .ok (.ishl, 1)) (kk : V E X R own cc nL ret k n Q B N (pc + 1) lv (.int (x <<< (y &&& 31)) :: st) h) : V E X R own cc nL ret k n Q B N pc lv (.int y :: .int x :: st) h := fun ok H locs ls hr hS hl => lv_ishl ok.1 ok.2.1 hd (kk ok H locs ls hr hS hl)
theorem v_ishr {x y : Int32} (hd : decode cc pc = .ok (.ishr, 1)) (kk : V E X R own cc nL ret k n Q B N (pc + 1) lv (.int (x >>> (y &&& 31)) :: st) h) : V E X R own cc nL ret k n Q B N pc lv (.int y :: .int x :: st) h := fun ok H locs ls hr hS hl => lv_ishr ok.1 ok.2.1 hd (kk ok H locs ls hr hS hl)
theorem v_iushr {x y : Int32} (hd : decode cc pc = .ok (.iushr, 1)) (kk : V E X R own cc nL ret k n Q B N (pc + 1) lv (.int ((x.toUInt32 >>> (y.toUInt32 &&& Int32.toUInt32 31)).toInt32) :: st) h) : V E X R own cc nL ret k n Q B N pc lv (.int y :: .int x :: st) h := fun ok H locs ls hr hS hl => lv_iushr ok.1 ok.2.1 hd rfl (kk ok H locs ls hr hS hl)
theorem v_idiv {x y : Int32} (hd : decode cc pc = .ok (.idiv, 1)) (hne : ¬ y = 0) (kk : V E X R own cc nL ret k n Q B N (pc + 1) lv (.int (x / y) :: st) h) : V E X R own cc nL ret k n Q B N pc lv (.int y :: .int x :: st) h := fun ok H locs ls hr hS hl => lv_idiv ok.1 ok.2.1 hd hne (kk ok H locs ls hr hS hl)
theorem v_irem {x y : Int32} (hd : decode cc pc = .ok (.irem, 1)) (hne : ¬ y = 0) (kk : V E X R own cc nL ret k n Q B N (pc + 1) lv (.int (x - x / y * y) :: st) h) : V E X R own cc nL ret k n Q B N pc lv (.int y :: .int x :: st) h := fun ok H locs ls hr hS hl => lv_irem ok.1 ok.2.1 hd hne (kk ok H locs ls hr hS hl)
theorem v_ladd {x y : Int64} (hd : decode cc pc = .ok (.ladd, 1)) (kk : V E X R own cc nL ret k n Q B N (pc + 1) lv (.long (x + y) :: st) h) : V E X R own cc nL ret k n Q B N pc lv (.long y :: .long x :: st) h := fun ok H locs ls hr hS hl => lv_ladd ok.1 ok.2.1 hd (kk ok H locs ls hr hS hl)
theorem v_lmul {x y : Int64} (hd : decode cc pc = .ok (.lmul, 1)) (kk : V E X R own cc nL ret k n Q B N (pc + 1) lv (.long (x * y) :: st) h) : V E X R own cc nL ret k n Q B N pc lv (.long y :: .long x :: st) h := fun ok H locs ls hr hS hl => lv_lmul ok.1 ok.2.1 hd (kk ok H locs ls hr hS hl)
theorem v_ldiv {x y : Int64} (hd : decode cc pc = .ok (.ldiv, 1)) (hne : ¬ y = 0) (kk : V E X R own cc nL ret k n Q B N (pc + 1) lv (.long (x / y) :: st) h) : V E X R own cc nL ret k n Q B N pc lv (.long y :: .long x :: st) h := fun ok H locs ls hr hS hl => lv_ldiv ok.1 ok.2.1 hd hne (kk ok H locs ls hr hS hl)
theorem v_lrem {x y : Int64} (hd : decode cc pc = .ok (.lrem, 1)) (hne : ¬ y = 0) (kk : V E X R own cc nL ret k n Q B N (pc + 1) lv (.long (x - x / y * y) :: st) h) : V E X R own cc nL ret k n Q B N pc lv (.long y :: .long x :: st) h := fun ok H locs ls hr hS hl => lv_lrem ok.1 ok.2.1 hd hne (kk ok H locs ls hr hS hl)
theorem v_ineg {x : Int32} (hd : decode cc pc = .ok (.ineg, 1)) (kk : V E X R own cc nL ret k n Q B N (pc + 1) lv (.int (-x) :: st) h) : V E X R own cc nL ret k n Q B N pc lv (.int x :: st) h := fun ok H locs ls hr hS hl => lv_ineg ok.1 ok.2.1 hd (kk ok H locs ls hr hS hl)
theorem v_i2l {x : Int32} (hd : decode cc pc = .ok (.i2l, 1)) (kk : V E X R own cc nL ret k n Q B N (pc + 1) lv (.long x.toInt64 :: st) h) : V E X R own cc nL ret k n Q B N pc lv (.int x :: st) h := fun ok H locs ls hr hS hl => lv_i2l ok.1 ok.2.1 hd rfl (kk ok H locs ls hr hS hl)
theorem v_l2i {x : Int64} (hd : decode cc pc = .ok (.l2i, 1)) (kk : V E X R own cc nL ret k n Q B N (pc + 1) lv (.int x.toInt32 :: st) h) : V E X R own cc nL ret k n Q B N pc lv (.long x :: st) h := fun ok H locs ls hr hS hl => lv_l2i ok.1 ok.2.1 hd rfl (kk ok H locs ls hr hS hl)
theorem v_lcmp {x y : Int64} (hd : decode cc pc = .ok (.lcmp, 1)) (kk : V E X R own cc nL ret k n Q B N (pc + 1) lv (.int (lg_cmp x y) :: st) h) : V E X R own cc nL ret k n Q B N pc lv (.long y :: .long x :: st) h := fun ok H locs ls hr hS hl => W.lcmp ok.1 ok.2.1 hd (kk ok H locs ls hr hS hl)
theorem v_dup {va : Value} (hd : decode cc pc = .ok (.dup, 1)) (hva : va.category = 1) (kk : V E X R own cc nL ret k n Q B N (pc + 1) lv (va :: va :: st) h) : V E X R own cc nL ret k n Q B N pc lv (va :: st) h := fun ok H locs ls hr hS hl => lv_dup ok.1 ok.2.1 hd hva (kk ok H locs ls hr hS hl)
theorem v_pop {va : Value} (hd : decode cc pc = .ok (.pop, 1)) (hva : va.category = 1) (kk : V E X R own cc nL ret k n Q B N (pc + 1) lv st h) : V E X R own cc nL ret k n Q B N pc lv (va :: st) h := fun ok H locs ls hr hS hl => lv_pop ok.1 ok.2.1 hd hva (kk ok H locs ls hr hS hl)
theorem v_dup2 {va vb : Value} (hd : decode cc pc = .ok (.dup2, 1)) (hva : va.category = 1) (hvb : vb.category = 1) (kk : V E X R own cc nL ret k n Q B N (pc + 1) lv (va :: vb :: va :: vb :: st) h) : V E X R own cc nL ret k n Q B N pc lv (va :: vb :: st) h := fun ok H locs ls hr hS hl => lv_dup2_11 ok.1 ok.2.1 hd hva hvb (kk ok H locs ls hr hS hl)
theorem v_if_eq {x : Int32} {off : Int} {tgt : Nat} (hd : decode cc pc = .ok (.ifCond .eq off, 3)) (ht : (pc : Int) + off = (tgt : Int)) (kt : x = 0 → V E X R own cc nL ret k n Q B N tgt lv st h) (kf : ¬ x = 0 → V E X R own cc nL ret k n Q B N (pc + 3) lv st h) : V E X R own cc nL ret k n Q B N pc lv (.int x :: st) h := fun ok H locs ls hr hS hl => lv_if_eq ok.1 ok.2.1 hd ht (fun c => kt c ok H locs ls hr hS hl) (fun c => kf c ok H locs ls hr hS hl)
theorem v_icmp_eq {x y : Int32} {off : Int} {tgt : Nat} (hd : decode cc pc = .ok (.if_icmp .eq off, 3)) (ht : (pc : Int) + off = (tgt : Int)) (kt : x = y → V E X R own cc nL ret k n Q B N tgt lv st h) (kf : ¬ x = y → V E X R own cc nL ret k n Q B N (pc + 3) lv st h) : V E X R own cc nL ret k n Q B N pc lv (.int y :: .int x :: st) h := fun ok H locs ls hr hS hl => lv_icmp_eq ok.1 ok.2.1 hd ht (fun c => kt c ok H locs ls hr hS hl) (fun c => kf c ok H locs ls hr hS hl)
theorem v_if_ne {x : Int32} {off : Int} {tgt : Nat} (hd : decode cc pc = .ok (.ifCond .ne off, 3)) (ht : (pc : Int) + off = (tgt : Int)) (kt : ¬ x = 0 → V E X R own cc nL ret k n Q B N tgt lv st h) (kf : x = 0 → V E X R own cc nL ret k n Q B N (pc + 3) lv st h) : V E X R own cc nL ret k n Q B N pc lv (.int x :: st) h := fun ok H locs ls hr hS hl => lv_if_ne ok.1 ok.2.1 hd ht (fun c => kt c ok H locs ls hr hS hl) (fun c => kf c ok H locs ls hr hS hl)
theorem v_icmp_ne {x y : Int32} {off : Int} {tgt : Nat} (hd : decode cc pc = .ok (.if_icmp .ne off, 3)) (ht : (pc : Int) + off = (tgt : Int)) (kt : ¬ x = y → V E X R own cc nL ret k n Q B N tgt lv st h) (kf : x = y → V E X R own cc nL ret k n Q B N (pc + 3) lv st h) : V E X R own cc nL ret k n Q B N pc lv (.int y :: .int x :: st) h := fun ok H locs ls hr hS hl => lv_icmp_ne ok.1 ok.2.1 hd ht (fun c => kt c ok H locs ls hr hS hl) (fun c => kf c ok H locs ls hr hS hl)
theorem v_if_lt {x : Int32} {off : Int} {tgt : Nat} (hd : decode cc pc = .ok (.ifCond .lt off, 3)) (ht : (pc : Int) + off = (tgt : Int)) (kt : x < 0 → V E X R own cc nL ret k n Q B N tgt lv st h) (kf : ¬ x < 0 → V E X R own cc nL ret k n Q B N (pc + 3) lv st h) : V E X R own cc nL ret k n Q B N pc lv (.int x :: st) h := fun ok H locs ls hr hS hl => lv_if_lt ok.1 ok.2.1 hd ht (fun c => kt c ok H locs ls hr hS hl) (fun c => kf c ok H locs ls hr hS hl)
theorem v_icmp_lt {x y : Int32} {off : Int} {tgt : Nat} (hd : decode cc pc = .ok (.if_icmp .lt off, 3)) (ht : (pc : Int) + off = (tgt : Int)) (kt : x < y → V E X R own cc nL ret k n Q B N tgt lv st h) (kf : ¬ x < y → V E X R own cc nL ret k n Q B N (pc + 3) lv st h) : V E X R own cc nL ret k n Q B N pc lv (.int y :: .int x :: st) h := fun ok H locs ls hr hS hl => lv_icmp_lt ok.1 ok.2.1 hd ht (fun c => kt c ok H locs ls hr hS hl) (fun c => kf c ok H locs ls hr hS hl)
theorem v_if_ge {x : Int32} {off : Int} {tgt : Nat} (hd : decode cc pc = .ok (.ifCond .ge off, 3)) (ht : (pc : Int) + off = (tgt : Int)) (kt : 0 ≤ x → V E X R own cc nL ret k n Q B N tgt lv st h) (kf : ¬ 0 ≤ x → V E X R own cc nL ret k n Q B N (pc + 3) lv st h) : V E X R own cc nL ret k n Q B N pc lv (.int x :: st) h := fun ok H locs ls hr hS hl => lv_if_ge ok.1 ok.2.1 hd ht (fun c => kt c ok H locs ls hr hS hl) (fun c => kf c ok H locs ls hr hS hl)
theorem v_icmp_ge {x y : Int32} {off : Int} {tgt : Nat} (hd : decode cc pc = .ok (.if_icmp .ge off, 3)) (ht : (pc : Int) + off = (tgt : Int)) (kt : y ≤ x → V E X R own cc nL ret k n Q B N tgt lv st h) (kf : ¬ y ≤ x → V E X R own cc nL ret k n Q B N (pc + 3) lv st h) : V E X R own cc nL ret k n Q B N pc lv (.int y :: .int x :: st) h := fun ok H locs ls hr hS hl => lv_icmp_ge ok.1 ok.2.1 hd ht (fun c => kt c ok H locs ls hr hS hl) (fun c => kf c ok H locs ls hr hS hl)
theorem v_if_gt {x : Int32} {off : Int} {tgt : Nat} (hd : decode cc pc = .ok (.ifCond .gt off, 3)) (ht : (pc : Int) + off = (tgt : Int)) (kt : 0 < x → V E X R own cc nL ret k n Q B N tgt lv st h) (kf : ¬ 0 < x → V E X R own cc nL ret k n Q B N (pc + 3) lv st h) : V E X R own cc nL ret k n Q B N pc lv (.int x :: st) h := fun ok H locs ls hr hS hl => lv_if_gt ok.1 ok.2.1 hd ht (fun c => kt c ok H locs ls hr hS hl) (fun c => kf c ok H locs ls hr hS hl)
theorem v_icmp_gt {x y : Int32} {off : Int} {tgt : Nat} (hd : decode cc pc = .ok (.if_icmp .gt off, 3)) (ht : (pc : Int) + off = (tgt : Int)) (kt : y < x → V E X R own cc nL ret k n Q B N tgt lv st h) (kf : ¬ y < x → V E X R own cc nL ret k n Q B N (pc + 3) lv st h) : V E X R own cc nL ret k n Q B N pc lv (.int y :: .int x :: st) h := fun ok H locs ls hr hS hl => lv_icmp_gt ok.1 ok.2.1 hd ht (fun c => kt c ok H locs ls hr hS hl) (fun c => kf c ok H locs ls hr hS hl)
theorem v_if_le {x : Int32} {off : Int} {tgt : Nat} (hd : decode cc pc = .ok (.ifCond .le off, 3)) (ht : (pc : Int) + off = (tgt : Int)) (kt : x ≤ 0 → V E X R own cc nL ret k n Q B N tgt lv st h) (kf : ¬ x ≤ 0 → V E X R own cc nL ret k n Q B N (pc + 3) lv st h) : V E X R own cc nL ret k n Q B N pc lv (.int x :: st) h := fun ok H locs ls hr hS hl => lv_if_le ok.1 ok.2.1 hd ht (fun c => kt c ok H locs ls hr hS hl) (fun c => kf c ok H locs ls hr hS hl)
theorem v_icmp_le {x y : Int32} {off : Int} {tgt : Nat} (hd : decode cc pc = .ok (.if_icmp .le off, 3)) (ht : (pc : Int) + off = (tgt : Int)) (kt : x ≤ y → V E X R own cc nL ret k n Q B N tgt lv st h) (kf : ¬ x ≤ y → V E X R own cc nL ret k n Q B N (pc + 3) lv st h) : V E X R own cc nL ret k n Q B N pc lv (.int y :: .int x :: st) h := fun ok H locs ls hr hS hl => lv_icmp_le ok.1 ok.2.1 hd ht (fun c => kt c ok H locs ls hr hS hl) (fun c => kf c ok H locs ls hr hS hl)
theorem v_goto {off : Int} {tgt : Nat} (hd : decode cc pc = .ok (.goto off, 3)) (ht : (pc : Int) + off = (tgt : Int)) (kk : V E X R own cc nL ret k n Q B N tgt lv st h) : V E X R own cc nL ret k n Q B N pc lv st h := fun ok H locs ls hr hS hl => lv_goto ok.1 ok.2.1 hd ht (kk ok H locs ls hr hS hl)
theorem v_tabOut {dflt lo hi : Int} {offs : Array Int} {len : Nat} {x : Int32} {tgt : Nat} (hd : decode cc pc = .ok (.tableswitch dflt lo hi offs, len)) (hx : x.toInt < lo ∨ hi < x.toInt) (ht : (pc : Int) + dflt = (tgt : Int)) (kk : V E X R own cc nL ret k n Q B N tgt lv st h) : V E X R own cc nL ret k n Q B N pc lv (.int x :: st) h := fun ok H locs ls hr hS hl => lv_tableOut ok.1 ok.2.1 hd hx ht (kk ok H locs ls hr hS hl)
theorem v_tabIn {dflt lo hi : Int} {offs : Array Int} {len : Nat} {x : Int32} {off : Int} {tgt : Nat} (hd : decode cc pc = .ok (.tableswitch dflt lo hi offs, len)) (h1 : ¬ x.toInt < lo) (h2 : ¬ hi < x.toInt) (ho : offs[(x.toInt - lo).toNat]? = some off) (ht : (pc : Int) + off = (tgt : Int)) (kk : V E X R own cc nL ret k n Q B N tgt lv st h) : V E X R own cc nL ret k n Q B N pc lv (.int x :: st) h := fun ok H locs ls hr hS hl => lv_tableIn ok.1 ok.2.1 hd h1 h2 ho ht (kk ok H locs ls hr hS hl)
theorem v_lookup {dflt : Int} {ps : Array (Int × Int)} {len : Nat} {x : Int32} {off : Int} {tgt : Nat} (hd : decode cc pc = .ok (.lookupswitch dflt ps, len)) (hp : (ps.toList.zip (ps.toList.drop 1)).all (fun (a, next) => a.1 < next.1) = true) (ho : Op.lookupswitch.offset ps.toList dflt x.toInt = off) (ht : (pc : Int) + off = (tgt : Int)) (kk : V E X R own cc nL ret k n Q B N tgt lv st h) : V E X R own cc nL ret k n Q B N pc lv (.int x :: st) h := fun ok H locs ls hr hS hl => lv_lookup ok.1 ok.2.1 hd hp ho ht (kk ok H locs ls hr hS hl)
theorem rr1 {o : Nat} {H : Heap} (hr : Rr E B N h H) (ho : o < N) {e : va_E} (he : h o = e) : va_P E.2.1 vwCl [(Ez E + o, e)] H := fun i q hq => by
  have hz : i < 1 := (List.getElem?_eq_some_iff.mp hq).1
  rw [show i = 0 by omega] at hq
  cases hq
  rw [← he]
  exact hr.2 o ho
theorem rr2 {o o2 : Nat} {H : Heap} (hr : Rr E B N h H) (ho : o < N) (ho2 : o2 < N) {e e2 : va_E} (he : h o = e) (he2 : h o2 = e2) : va_P E.2.1 vwCl [(Ez E + o, e), (Ez E + o2, e2)] H := fun i q hq => by
  match i, hq with
  | 0, hq => cases hq; rw [← he]; exact hr.2 o ho
  | 1, hq => cases hq; rw [← he2]; exact hr.2 o2 ho2
  | i + 2, hq => cases hq
theorem dd1 {o : Nat} {e : va_E} : va_D (zA E) [(Ez E + o, e)] := ⟨fun i j p q h1 h2 _ => by
  have hi : i < 1 := (List.getElem?_eq_some_iff.mp h1).1
  have hj : j < 1 := (List.getElem?_eq_some_iff.mp h2).1
  omega, fun i q hq => by
  have hz : i < 1 := (List.getElem?_eq_some_iff.mp hq).1
  rw [show i = 0 by omega] at hq
  cases hq
  exact Nat.le_add_right _ _⟩
theorem ddN : va_D (zA E) ((List.range N).map (fun o => (Ez E + o, h o))) := by
  refine ⟨fun i j p q h1 h2 hpq => ?_, fun i q hq => ?_⟩
  · rw [List.getElem?_map] at h1 h2
    by_cases hi : i < N
    · by_cases hj : j < N
      · rw [List.getElem?_range hi] at h1
        rw [List.getElem?_range hj] at h2
        cases h1; cases h2
        have e : Ez E + i = Ez E + j := hpq
        omega
      · rw [List.getElem?_eq_none (by simpa using hj)] at h2; cases h2
    · rw [List.getElem?_eq_none (by simpa using hi)] at h1; cases h1
  · rw [List.getElem?_map] at hq
    by_cases hi : i < N
    · rw [List.getElem?_range hi] at hq
      cases hq
      exact Nat.le_add_right _ _
    · rw [List.getElem?_eq_none (by simpa using hi)] at hq; cases hq
theorem rrN {H : Heap} (hr : Rr E B N h H) : va_P E.2.1 vwCl ((List.range N).map (fun o => (Ez E + o, h o))) H := fun i q hq => by
  rw [List.getElem?_map] at hq
  by_cases hi : i < N
  · rw [List.getElem?_range hi] at hq
    cases hq
    exact hr.2 i hi
  · rw [List.getElem?_eq_none (by simpa using hi)] at hq; cases hq
theorem atN {o : Nat} {e : va_E} (ho : o < N) (he : h o = e) : ((List.range N).map (fun o => (Ez E + o, h o)))[o]? = some (Ez E + o, e) := by
  rw [List.getElem?_map, List.getElem?_range ho]
  show some (Ez E + o, h o) = _
  rw [he]
/-- one cell is written -/
theorem rr_up {o : Nat} {H H1 : Heap} (hr : Rr E B N h H) (ho : o < N) {e : va_E} (hz : H1.size = H.size) (hk : ∀ q : Nat, q ≠ Ez E + o → H1[q]? = H[q]?) (hP : va_at E.2.1 vwCl (Ez E + o, e) H1) (hu : ∀ o', o' < N → h' o' = va_up h o e o') : Rr E B N h' H1 := by
  refine ⟨by rw [hz]; exact hr.1, fun o' ho' => ?_⟩
  rw [hu o' ho']
  by_cases he : o' = o
  · subst he; rw [va_up_self]; exact hP
  · rw [va_up_ne _ _ he]
    exact (hr.2 o' ho').kept (hk _ (by show ¬ Ez E + o' = Ez E + o; omega))
theorem v_get {o ci index M : Nat} {fs : List Value} {C : String} {T : u_T} {v : Value} (hin : ∀ w ∈ u_ws C T M, w ∈ TB) (hcl : vwCl[ci]? = some (C, T, M)) (j : Nat) (hj : j < M) (hw : Cond.fieldLink own index (T j).1 (T j).2.1 (T j).2.2.1 ∈ TB) (hc : h o = .inr (ci, fs)) (ho : o < N) (hv : fs[j]? = some v) (hd : decode cc pc = .ok (.getfield index, 3))
    (kk : V E X R own cc nL ret k n Q B N (pc + 3) lv (v :: st) h) : V E X R own cc nL ret k n Q B N pc lv (.ref (Ez E + o) :: st) h := fun ok H locs ls hr hS hl =>
  va_get ok.1 ok.2.1 ok.2.2.2.2.1 hin ok.2.2.2.1 ok.2.2.2.2.2.1.1 (rr1 hr ho hc) 0 rfl hcl j hj (ok.2.2.2.2.1 _ hw) (fun _ h9 => h9) hv hd (kk ok H locs ls hr hS hl)
theorem v_put {o ci index M : Nat} {fs : List Value} {C : String} {T : u_T} {v : Value} {ty : FieldType} (hin : ∀ w ∈ u_ws C T M, w ∈ TB) (ty0 : Nat → FieldType) (hty : ∀ k, k < M → parseFieldDescriptor (T k).2.2.1 = some (ty0 k)) (hnm : ∀ a, a < M → ∀ b, b < M → a ≠ b → (T a).2.1 ≠ (T b).2.1) (hcl : vwCl[ci]? = some (C, T, M)) (j : Nat) (hj : j < M) (hw : Cond.fieldLink own index (T j).1 (T j).2.1 (T j).2.2.1 ∈ TB) (hfin : (T j).2.2.2 = false) (htd : parseFieldDescriptor (T j).2.2.1 = some ty) (hc : h o = .inr (ci, fs)) (ho : o < N) (hn2 : narrow ty v = v) (hfit : fits ty v = true) (hl2 : j < fs.length) (hd : decode cc pc = .ok (.putfield index, 3))
    (hu : ∀ o', o' < N → h' o' = va_up h o (.inr (ci, fs.set j v)) o') (kk : V E X R own cc nL ret k n Q B N (pc + 3) lv st h') : V E X R own cc nL ret k n Q B N pc lv (v :: .ref (Ez E + o) :: st) h := by
  intro ok H locs ls hr hS hl
  have hK := ok.2.2.2.2.2.1.1
  have hts := ok.2.2.2.2.1
  have hap := va_apart (own := own) (cl := vwCl) hts hin ty0 hty hnm hK hcl
  have hat := hr.2 o ho
  rw [hc] at hat
  obtain ⟨r, h1, cell, q1, q2, q3, q4⟩ := hat
  have hrr : r = (C, T, M) := Option.some.inj (h1.symm.trans hcl)
  subst hrr
  obtain ⟨hSl, hfc, kC, hkC, hkind⟩ := hK.1 ci _ hcl
  obtain ⟨cf, kf, fi, f, hi, hsl⟩ := hSl j hj
  have hlay := hts _ (hin _ (u_in_lay hj))
  unfold u_lay at hlay
  rw [if_neg (by rw [hfin]; decide)] at hlay
  have hst := (u_facts hfc hkC (u_lays hts hin hj) hi).1
  have h6 := u_store hfc hkC hkind hlay hi htd hn2 hfit
  refine W.putK ok.1 ok.2.1 (f := f) ⟨ok.2.2.2.1, hts _ hw, ⟨_, _, _, hi⟩, hst⟩ (by rw [q2]; exact h6) q1 q3 (by rw [hsl]; exact k2_hasslot (q4 j hj)) rfl rfl hd fun H' e1 e2 e3 => ?_
  rw [hsl] at e1 ⊢
  exact kk ok H' _ ls (rr_up (e := .inr (ci, fs.set j v)) hr ho e2 e3 ⟨_, hcl, t_OB.to (V := updV (vp_V fs) j v) ⟨_, e1, q2, q3, t_set q4 hap hj v⟩ (fun j' _ => vp_updV_set hl2 v j')⟩ hu) (hS.put e2 e3 (Nat.le_add_right _ _)) hl
theorem v_putF {o ci index M : Nat} {fs : List Value} {C : String} {T : u_T} {v : Value} {ty : FieldType} (hin : ∀ w ∈ u_ws C T M, w ∈ TB) (ty0 : Nat → FieldType) (hty : ∀ k, k < M → parseFieldDescriptor (T k).2.2.1 = some (ty0 k)) (hnm : ∀ a, a < M → ∀ b, b < M → a ≠ b → (T a).2.1 ≠ (T b).2.1) (hcl : vwCl[ci]? = some (C, T, M)) (j : Nat) (hj : j < M) (hw : Cond.fieldLink own index (T j).1 (T j).2.1 (T j).2.2.1 ∈ TB) (hfin : (T j).2.2.2 = true) (hin2 : X.2.2.2.2.2.2.1.name = "<init>") (hdecl : (T j).1 = own) (htd : parseFieldDescriptor (T j).2.2.1 = some ty) (hc : h o = .inr (ci, fs)) (ho : o < N) (hn2 : narrow ty v = v) (hfit : fits ty v = true) (hl2 : j < fs.length) (hd : decode cc pc = .ok (.putfield index, 3))
    (hu : ∀ o', o' < N → h' o' = va_up h o (.inr (ci, fs.set j v)) o') (kk : V E X R own cc nL ret k n Q B N (pc + 3) lv st h') : V E X R own cc nL ret k n Q B N pc lv (v :: .ref (Ez E + o) :: st) h := by
  intro ok H locs ls hr hS hl
  have hK := ok.2.2.2.2.2.1.1
  have hts := ok.2.2.2.2.1
  have hap := va_apart (own := own) (cl := vwCl) hts hin ty0 hty hnm hK hcl
  have hat := hr.2 o ho
  rw [hc] at hat
  obtain ⟨r, h1, cell, q1, q2, q3, q4⟩ := hat
  have hrr : r = (C, T, M) := Option.some.inj (h1.symm.trans hcl)
  subst hrr
  obtain ⟨hSl, hfc, kC, hkC, hkind⟩ := hK.1 ci _ hcl
  obtain ⟨cf, kf, fi, f, hi, hsl⟩ := hSl j hj
  have hlay := hts _ (hin _ (u_in_lay hj))
  unfold u_lay at hlay
  rw [if_pos hfin] at hlay
  have hst := (u_facts hfc hkC (u_lays hts hin hj) hi).1
  have hcf : X.2.2.2.1.cls = cf := by
    obtain ⟨_, _, c', _, _, _, -, -, hf', -, -, -, hown2, -⟩ := Cond.laysFinal_spec hlay
    have e1 : c' = cf := by have := hi.symm.trans hf'; simp at this; exact this.1.symm
    rw [hdecl] at hown2
    rw [← e1]; exact Option.some.inj (ok.2.2.2.1.symm.trans hown2)
  have h6 := u_fits hfc hkC hkind (Or.inr hlay) hi htd hn2 hfit
  refine W.putFinK ok.1 ok.2.1 ok.2.2.2.1 (hts _ hw) hi hst hcf hin2 (by rw [q2]; exact h6) q1 q3 (by rw [hsl]; exact k2_hasslot (q4 j hj)) rfl rfl hd fun H' e1 e2 e3 => ?_
  rw [hsl] at e1 ⊢
  exact kk ok H' _ ls (rr_up (e := .inr (ci, fs.set j v)) hr ho e2 e3 ⟨_, hcl, t_OB.to (V := updV (vp_V fs) j v) ⟨_, e1, q2, q3, t_set q4 hap hj v⟩ (fun j' _ => vp_updV_set hl2 v j')⟩ hu) (hS.put e2 e3 (Nat.le_add_right _ _)) hl
theorem v_iald {o len : Nat} {f : Nat → Int32} {i : Int32} (hc : h o = .inl (EI E, len, .inl f)) (ho : o < N) (hin : vp_in i len) (hd : decode cc pc = .ok (.iaload, 1)) (kk : V E X R own cc nL ret k n Q B N (pc + 1) lv (.int (f i.toNatClampNeg) :: st) h) : V E X R own cc nL ret k n Q B N pc lv (.int i :: .ref (Ez E + o) :: st) h := fun ok H locs ls hr hS hl =>
  va_iald ok.1 ok.2.1 ok.2.2.2.2.2.1.1 (rr1 hr ho hc) 0 0 rfl rfl hin hd (kk ok H locs ls hr hS hl)
theorem v_zald {o len : Nat} {f : Nat → Int32} {i : Int32} (hc : h o = .inl (EZ E, len, .inl f)) (ho : o < N) (hin : vp_in i len) (hd : decode cc pc = .ok (.baload, 1)) (kk : V E X R own cc nL ret k n Q B N (pc + 1) lv (.int (f i.toNatClampNeg) :: st) h) : V E X R own cc nL ret k n Q B N pc lv (.int i :: .ref (Ez E + o) :: st) h := fun ok H locs ls hr hS hl =>
  va_zald ok.1 ok.2.1 ok.2.2.2.2.2.1.1 (rr1 hr ho hc) 0 1 rfl rfl hin hd (kk ok H locs ls hr hS hl)
theorem v_iast {o len : Nat} {f : Nat → Int32} {i x : Int32} (hc : h o = .inl (EI E, len, .inl f)) (ho : o < N) (hin : vp_in i len) (hd : decode cc pc = .ok (.iastore, 1)) (hu : ∀ o', o' < N → h' o' = va_up h o (.inl (EI E, len, .inl (upd f i.toNatClampNeg x))) o') (kk : V E X R own cc nL ret k n Q B N (pc + 1) lv st h') : V E X R own cc nL ret k n Q B N pc lv (.int x :: .int i :: .ref (Ez E + o) :: st) h := by
  intro ok H locs ls hr hS hl
  have hat := hr.2 o ho
  rw [hc] at hat
  refine W.iast ok.1 ok.2.1 hat ((ok.2.2.2.2.2.1.1.2 0 _ rfl).1 len (fun j => .int (f j))) (fun q => by cases q) (by show ¬ (i < 0 ∨ (arrV _ _ _).slots.size ≤ _); rw [arrV_size]; exact hin) rfl rfl hd fun H1 e z oq => ?_
  refine kk ok H1 _ ls (rr_up hr ho z oq ?_ hu) (hS.put z oq (Nat.le_add_right _ _)) hl
  show H1[_]? = some (vp_cell _ _)
  rw [e, vp_cell_i, vp_cell_i, arrV_store]
  congr 2
  funext q
  by_cases hq : q = i.toNatClampNeg
  · subst hq
    simp [updV, upd, vp_nar]
    try rfl
  · simp [updV, upd, hq]
theorem v_zast {o len : Nat} {f : Nat → Int32} {i x : Int32} (hc : h o = .inl (EZ E, len, .inl f)) (ho : o < N) (hin : vp_in i len) (hd : decode cc pc = .ok (.bastore, 1)) (hu : ∀ o', o' < N → h' o' = va_up h o (.inl (EZ E, len, .inl (upd f i.toNatClampNeg (vp_nar .boolean x)))) o') (kk : V E X R own cc nL ret k n Q B N (pc + 1) lv st h') : V E X R own cc nL ret k n Q B N pc lv (.int x :: .int i :: .ref (Ez E + o) :: st) h := by
  intro ok H locs ls hr hS hl
  have hat := hr.2 o ho
  rw [hc] at hat
  refine W.zast ok.1 ok.2.1 hat ((ok.2.2.2.2.2.1.1.2 1 _ rfl).1 len (fun j => .int (f j))) (fun q => by cases q) (by show ¬ (i < 0 ∨ (arrV _ _ _).slots.size ≤ _); rw [arrV_size]; exact hin) rfl rfl hd fun H1 e z oq => ?_
  refine kk ok H1 _ ls (rr_up hr ho z oq ?_ hu) (hS.put z oq (Nat.le_add_right _ _)) hl
  show H1[_]? = some (vp_cell _ _)
  rw [e, vp_cell_i, vp_cell_i, arrV_store]
  congr 2
  funext q
  by_cases hq : q = i.toNatClampNeg
  · subst hq
    simp [updV, upd, vp_nar]
    try rfl
  · simp [updV, upd, hq]
theorem v_alen {o : Nat} {cA : ClassId} {x : vp_A} {ty : FieldType} (t0 : Nat) (v : Int32) (hc : h o = .inl (cA, x)) (ho : o < N) (ht : (tyE E)[t0]? = some (cA, ty)) (hv : Int32.ofNat x.1 = v) (hd : decode cc pc = .ok (.arraylength, 1)) (kk : V E X R own cc nL ret k n Q B N (pc + 1) lv (.int v :: st) h) : V E X R own cc nL ret k n Q B N pc lv (.ref (Ez E + o) :: st) h := fun ok H locs ls hr hS hl =>
  va_alen ok.1 ok.2.1 ok.2.2.2.2.2.1.1 (rr1 hr ho hc) 0 t0 rfl ht hv hd (kk ok H locs ls hr hS hl)
theorem v_aald {o len : Nat} {f : Nat → Option Nat} {i : Int32} {v : Value} (hc : h o = .inl (EF E, len, .inr (.inr (.inr (.inr f))))) (ho : o < N) (hin : vp_in i len) (hv : va_rf (f i.toNatClampNeg) = v) (hd : decode cc pc = .ok (.aaload, 1)) (kk : V E X R own cc nL ret k n Q B N (pc + 1) lv (v :: st) h) : V E X R own cc nL ret k n Q B N pc lv (.int i :: .ref (Ez E + o) :: st) h := fun ok H locs ls hr hS hl =>
  va_aldq ok.1 ok.2.1 ok.2.2.2.2.2.1.1 (rr1 hr ho hc) 0 2 rfl rfl hin hd (by rw [hv]; exact kk ok H locs ls hr hS hl)
theorem v_aast {o ov len : Nat} {fs : List Value} {f : Nat → Option Nat} {i : Int32} (hc : h o = .inl (EF E, len, .inr (.inr (.inr (.inr f))))) (ho : o < N) (hcv : h ov = .inr (0, fs)) (hov : ov < N) (hin : vp_in i len) (hd : decode cc pc = .ok (.aastore, 1)) (hu : ∀ o', o' < N → h' o' = va_up h o (.inl (EF E, len, .inr (.inr (.inr (.inr (va_up f i.toNatClampNeg (some (Ez E + ov)))))))) o') (kk : V E X R own cc nL ret k n Q B N (pc + 1) lv st h') : V E X R own cc nL ret k n Q B N pc lv (.ref (Ez E + ov) :: .int i :: .ref (Ez E + o) :: st) h := by
  intro ok H locs ls hr hS hl
  have hat := hr.2 o ho
  rw [hc] at hat
  have hav := hr.2 ov hov
  rw [hcv] at hav
  have hK := ok.2.2.2.2.2.1.1
  have hlt : i.toNatClampNeg < len := Nat.not_le.mp fun q => hin (Or.inr q)
  have h0 : ¬ i < 0 := fun q => hin (Or.inl q)
  obtain ⟨r', hr', cellV, g1, g2, g3, -⟩ := hav
  have hcls := (hK.1 0 _ rfl).2
  obtain ⟨kA, comp, k1, k2, k3, -⟩ := (hK.2 2 _ rfl).2
  have hcomp : comp = E.2.1.1 0 := Option.some.inj (k3.symm.trans hcls.1)
  subst hcomp
  obtain ⟨kC, hkC, -⟩ := id hcls.2
  refine W.aast ok.1 ok.2.1 hat (fun q h => by cases h) (fun h => by cases h) k1 k2 rfl hkC ⟨h0, by show _ < (arrV _ _ _).slots.size; rw [arrV_size]; exact hlt⟩ g1 (fun q h => by rw [g3] at h; cases h) (by rw [g2]; exact hkC) (by rw [g2]; exact va_assign hcls) rfl rfl hd fun H1 e z oq => ?_
  refine kk ok H1 _ ls (rr_up hr ho z oq ?_ hu) (hS.put z oq (Nat.le_add_right _ _)) hl
  show H1[_]? = some (vp_cell _ _)
  rw [e, vp_cell_q, vp_cell_q, arrV_store]
  congr 2
  funext q
  by_cases hq : q = i.toNatClampNeg
  · subst hq
    simp [updV, va_up, va_rf]
  · simp [updV, va_up, hq]
/-- a new cell comes behind the last one -/
theorem rr_new {H H1 : Heap} {e : va_E} (hr : Rr E true N h H) (hz : H1.size = H.size + 1) (hk : ∀ q : Nat, q < H.size → H1[q]? = H[q]?) (hP : va_at E.2.1 vwCl (Ez E + N, e) H1) (hu : ∀ o', o' < N + 1 → h' o' = va_up h N e o') : Rr E true (N + 1) h' H1 := by
  have hs := hr.1.2 rfl
  refine ⟨⟨by omega, fun _ => by omega⟩, fun o' ho' => ?_⟩
  rw [hu o' ho']
  by_cases he : o' = N
  · subst he; rw [va_up_self]; exact hP
  · rw [va_up_ne _ _ he]
    exact (hr.2 o' (by omega)).kept (hk _ (by show Ez E + o' < H.size; omega))
theorem va_S.more {H0 H H1 : Heap} {locs : List Loc} {A : Nat → Prop} (hS : va_S A H0 H locs) (hz : H1.size = H.size + 1) (hk : ∀ q : Nat, q < H.size → H1[q]? = H[q]?) : va_S A H0 H1 locs := ⟨Nat.le_trans hS.1 (by omega), fun x h1 h2 => (hk x (Nat.lt_of_lt_of_le h1 hS.1)).trans (hS.2.1 x h1 h2), hS.2.2⟩
theorem v_newa {atype : ArrayType} {ty : FieldType} {cA : ClassId} {a0 : vp_A} {x : Int32} {M : Nat} (t0 : Nat) (hw : Cond.arrayClass ty ∈ TB) (hty : newarray.typeOf atype = ty) (ht : (tyE E)[t0]? = some (cA, ty)) (hra : ∀ (U : State) (c1 : ClassId), va_RA U c1 ty → U.vm.findClass ("[" ++ ty.toString) = some c1) (ha : ∀ c : ClassId, vp_cell c a0 = arrV c M (fun _ => defaultValue ty)) (hn : ¬ x < 0) (hM : x.toNatClampNeg = M) (hb : M * componentBytes ty ≤ 536870912) (hcells : k + 1 ≤ R.cells) (hslots : n + M ≤ R.slots) (hd : decode cc pc = .ok (.newarray atype, 2)) (hu : ∀ o', o' < N + 1 → h' o' = va_up h N (.inl (cA, a0)) o')
    (kk : V E X R own cc nL ret (k + 1) (n + M) Q true (N + 1) (pc + 2) lv (.ref (Ez E + N) :: st) h') : V E X R own cc nL ret k n Q true N pc lv (.int x :: st) h := by
  intro ok H locs ls hr hS hl
  subst hty
  have hs := hr.1.2 rfl
  refine va_newaK ok.1 ok.2.1 (ok.2.2.2.2.1 _ hw) rfl hd rfl hn hM hb hcells hslots hs fun H1 c1 e1 z1 o1 hAr hNm => ?_
  have hc1 : c1 = cA := Option.some.inj (hNm.symm.trans (hra _ _ (ok.2.2.2.2.2.1.1.2 t0 _ ht).2))
  subst hc1
  exact kk ok H1 locs ls (rr_new hr (by omega) (fun q hq => o1 q (by omega)) (by show H1[_]? = some (vp_cell _ _); rw [ha]; exact e1) hu) (hS.more (by omega) (fun q hq => o1 q (by omega))) hl
theorem v_newq {index : Nat} {x : Int32} {M : Nat} (hcl : Cond.classLink own index "SparrowChange$Flock" ∈ TB) (hn : ¬ x < 0) (hM : x.toNatClampNeg = M) (hb : M * 4 ≤ 536870912) (hcells : k + 1 ≤ R.cells) (hslots : n + M ≤ R.slots) (hd : decode cc pc = .ok (.anewarray index, 3)) (hu : ∀ o', o' < N + 1 → h' o' = va_up h N (.inl (EF E, M, .inr (.inr (.inr (.inr (fun _ => none)))))) o')
    (kk : V E X R own cc nL ret (k + 1) (n + M) Q true (N + 1) (pc + 3) lv (.ref (Ez E + N) :: st) h') : V E X R own cc nL ret k n Q true N pc lv (.int x :: st) h := by
  intro ok H locs ls hr hS hl
  subst hM
  have hs := hr.1.2 rfl
  refine W.anew ok.1 ok.2.1 ok.2.2.2.1 (ok.2.2.2.2.1 _ hcl) (va_AO.use ok.2.2.2.2.2.1.2.2) rfl hd rfl hn hb hcells hslots fun cA kA comp f1 f2 f3 f4 => ?_
  obtain ⟨kA', comp', -, -, -, k4⟩ := (ok.2.2.2.2.2.1.1.2 2 _ rfl).2
  have hc1 : cA = EF E := Option.some.inj (f1.symm.trans k4)
  subst hc1
  rw [hs]
  refine kk ok _ locs ls (rr_new hr (by simp) (fun q hq => by rw [Array.getElem?_push, if_neg (Nat.ne_of_lt hq)]) ?_ hu) (hS.more (by simp) (fun q hq => by rw [Array.getElem?_push, if_neg (Nat.ne_of_lt hq)])) hl
  show (H.push _)[_]? = some (vp_cell _ _)
  rw [vp_cell_q, ← hs, Array.getElem?_push_size, ← arrV_new]
  rfl
theorem v_new {ci index M : Nat} {C : String} {T : u_T} {fs : List Value} (hin : ∀ w ∈ u_ws C T M, w ∈ TB) (ty : Nat → FieldType) (hty : ∀ k, k < M → parseFieldDescriptor (T k).2.2.1 = some (ty k)) (hc : vwCl[ci]? = some (C, T, M)) (hcl : Cond.classLink own index C ∈ TB) (hinst : Cond.instantiable C M ∈ TB) (hini : Cond.initialized C ∈ TB) (hfs : ∀ j, j < M → defaultValue (ty j) = vp_V fs j) (hcells : k + 1 ≤ R.cells) (hslots : n + M ≤ R.slots) (hd : decode cc pc = .ok (.new index, 3)) (hu : ∀ o', o' < N + 1 → h' o' = va_up h N (.inr (ci, fs)) o')
    (kk : V E X R own cc nL ret (k + 1) (n + M) Q true (N + 1) (pc + 3) lv (.ref (Ez E + N) :: st) h') : V E X R own cc nL ret k n Q true N pc lv st h := by
  intro ok H locs ls hr hS hl
  have hs := hr.1.2 rfl
  have hts := ok.2.2.2.2.1
  have hKn := ok.2.2.2.2.2.1.1.1 ci _ hc
  refine W.newcK ok.1 ok.2.1 ok.2.2.2.1 (hts _ hcl) (hts _ hinst) (hts _ hini) rfl hd hcells hslots hKn.2.1 hs fun H1 kC hkC e1 z1 o1 => ?_
  exact kk ok H1 locs ls (rr_new (e := .inr (ci, fs)) hr (by omega) (fun q hq => o1 q (by omega)) ⟨_, hc, (u_born ty hts hin hKn hkC e1 hty).to hfs⟩ hu) (hS.more (by omega) (fun q hq => o1 q (by omega))) hl
theorem v_iret {post : Option Value → Hp → Prop} {v : Int32} (hd : decode cc pc = .ok (.ireturn, 1)) (hp : post (some (.int v)) h) : V E X R own cc nL (some .int) k n (QX E X B N post k n) B N pc lv [.int v] h := fun ok H locs ls hr hS hl =>
  W.iret ok.1 ok.2.1 ok.2.2.2.2.2.2.1 (fun t ht hW => ⟨⟨_, h, rfl, hp, by rw [ht]; exact hr⟩, hS.F ht⟩) hS.2.2 hd ok.2.2.2.2.2.2.2.1
theorem v_zret {post : Option Value → Hp → Prop} {v : Int32} (hd : decode cc pc = .ok (.ireturn, 1)) (hn : narrow .boolean (.int v) = .int v) (hp : post (some (.int v)) h) : V E X R own cc nL (some .boolean) k n (QX E X B N post k n) B N pc lv [.int v] h := fun ok H locs ls hr hS hl =>
  W.zret ok.1 ok.2.1 ok.2.2.2.2.2.2.1 hn (fun t ht hW => ⟨⟨_, h, rfl, hp, by rw [ht]; exact hr⟩, hS.F ht⟩) hS.2.2 hd ok.2.2.2.2.2.2.2.1
theorem v_vret {post : Option Value → Hp → Prop} (hd : decode cc pc = .ok (.return_, 1)) (hp : post none h) : V E X R own cc nL none k n (QX E X B N post k n) B N pc lv [] h := fun ok H locs ls hr hS hl =>
  W.vret ok.1 ok.2.1 ok.2.2.2.2.2.2.1 (fun t ht hW => ⟨⟨_, h, rfl, hp, by rw [ht]; exact hr⟩, hS.F ht⟩) hS.2.2 hd ok.2.2.2.2.2.2.2.1
theorem v_objInit {idx : Nat} {a : Nat} (hl : Cond.methodLink own idx objectInit ∈ TB) (hd : decode cc pc = .ok (.invokespecial idx, 3)) (hR : 1 ≤ R.frames) (hR2 : (st.map fun v => v.category).sum + 12 ≤ R.locals) (kk : V E X R own cc nL ret k n Q B N (pc + 3) lv st h) : V E X R own cc nL ret k n Q B N pc lv (.ref a :: st) h := by
  intro ok H locs ls hr hS hl2
  refine W.objInit ok.1 ok.2.1 ok.2.2.2.1 (ok.2.2.2.2.1 _ hl) (ok.2.2.2.2.1 _ im_Obj) (ok.2.2.2.2.1 _ co_Obj) rfl (by rw [ok.2.2.1]; exact hl2.1) rfl hd hR (by show 2 * 0 + _ + 12 ≤ _; omega) ?_
  exact W.eq (g2 := F0 X.2.2.2.1 (pc + 3) ls st) rfl (kk ok H locs ls hr hS hl2)
abbrev dscOk (y : MethodName) (nA : Nat) : Prop := y.cls ≠ "java/lang/invoke/MethodHandle" ∧ y.cls ≠ "java/lang/invoke/VarHandle" ∧ (parseMethodDescriptor y.desc).map (fun d => d.parameters.length) = some nA
def LkV (own : String) (index : Nat) (y : MethodName) (C : String) (c1 : ByteArray) (m1 : Nat) (r1 : Option FieldType) (nA : Nat) : Prop := Cond.methodLink own index y ∈ TB ∧ Cond.instanceMethod y ∈ TB ∧ Cond.selects C y y ∈ TB ∧ Cond.initialized y.cls ∈ TB ∧ Cond.code y c1 m1 r1 ∈ TB ∧ dscOk y nA
def LkS (own : String) (index : Nat) (y : MethodName) (c1 : ByteArray) (m1 : Nat) (r1 : Option FieldType) (nA : Nat) : Prop := Cond.methodLink own index y ∈ TB ∧ Cond.static y ∈ TB ∧ Cond.initialized y.cls ∈ TB ∧ Cond.code y c1 m1 r1 ∈ TB ∧ dscOk y nA
def LkSN (own : String) (index : Nat) (y : MethodName) (host : String) (c1 : ByteArray) (m1 : Nat) (r1 : Option FieldType) (nA : Nat) : Prop := (own, index, y, host) ∈ nestW ∧ Cond.static y ∈ TB ∧ Cond.initialized y.cls ∈ TB ∧ Cond.code y c1 m1 r1 ∈ TB ∧ dscOk y nA
def LkI (own : String) (index : Nat) (y : MethodName) (c1 : ByteArray) (m1 : Nat) (nA : Nat) : Prop := Cond.methodLink own index y ∈ TB ∧ y.name = "<init>" ∧ Cond.instanceMethod y ∈ TB ∧ Cond.initialized y.cls ∈ TB ∧ Cond.code y c1 m1 none ∈ TB ∧ dscOk y nA
def LkIN (own : String) (index : Nat) (y : MethodName) (host : String) (c1 : ByteArray) (m1 : Nat) (nA : Nat) : Prop := (own, index, y, host) ∈ nestW ∧ y.name = "<init>" ∧ Cond.instanceMethod y ∈ TB ∧ Cond.initialized y.cls ∈ TB ∧ Cond.code y c1 m1 none ∈ TB ∧ dscOk y nA
/-- the room that a call needs -/
abbrev Rm (rm R : Room) (m1 : Nat) : Prop := rm.frames + 1 ≤ R.frames ∧ 8 + (m1 + 11) + rm.locals ≤ R.locals
theorem v_run {N' mc ms : Nat} {post : Option Value → Hp → Prop} {rest st0 : List Value} {a : Array Value}
    (hr : okX E X own cc nL ret → ∀ (H : Heap) (locs : List Loc) (ls : Array Slot), Rr E B N h H → va_S (zA E) X.2.2.1.heap H locs → lv_has ls nL lv → va_Run X.1 E.1 X.2.1 R X.2.2.1 X.2.2.2.1 X.2.2.2.2.1 X.2.2.2.2.2.1 X.2.2.2.2.2.2.1 X.2.2.2.2.2.2.2 H locs k n mc ms (F0 X.2.2.2.1 pc ls st0) rest (Qx E B N' post a) (zA E))
    (kk : ∀ (r : Option Value) (h' : Hp), post r h' → V E X R own cc nL ret (k + mc) (n + ms) Q B N' (pc + 3) lv (r.toList ++ rest) h') : V E X R own cc nL ret k n Q B N pc lv st0 h := by
  intro ok H locs ls hR hS hl T hT X0
  obtain ⟨v, st₀, t, T', L, h0, X', hL, e1, e2, ⟨⟨r, h', hv, hp, hb⟩, hz, hk⟩, stp⟩ := hr ok H locs ls hR hS hl T hT X0
  cases hv
  rw [h0] at hz hk
  obtain ⟨t2, a1, b1⟩ := kk v h' hp ok T'.heap (locs ++ L) ls (by rw [e1]; exact hb)
    ⟨Nat.le_trans hS.1 (by rw [e1]; exact hz), fun q h1 h2 => by rw [e1, hk q (Nat.lt_of_lt_of_le h1 hS.1) h2]; exact hS.2.1 q h1 h2, fun q hq => by
      rcases List.mem_append.mp hq with h | h
      · exact hS.2.2 q h
      · exact hL q h⟩ hl T' rfl X'
  exact ⟨t2, stp t2 a1, b1⟩
theorem pcx {av : List Value} {H : Heap} (ok : okX E X own cc nL ret) (hR : Rr E B N h H) : FrameBlind (va_Pc av (fun U => Rr E B N h U.heap ∧ KK E U ∧ Ez E ≤ U.heap.size)) ∧ ∀ U : State, U.heap = H → X.2.2.1.WarmedH U.vm → va_Pc av (fun U => Rr E B N h U.heap ∧ KK E U ∧ Ez E ≤ U.heap.size) av.toArray U :=
  ⟨fun _ U g mk q => ⟨q.1, q.2.1, KK.same (s := U) rfl q.2.2.1, q.2.2.2⟩, fun U hU hW => ⟨rfl, by rw [hU]; exact hR, ok.2.2.2.2.2.1.warm hW, by rw [hU]; exact Nat.le_trans (Nat.le_add_right _ _) hR.1.1⟩⟩
theorem v_callV {y : MethodName} {C : String} {T : u_T} {c1 : ByteArray} {m1 nA : Nat} {r1 : Option FieldType} {rm : Room} {index o ci M : Nat} {fs : List Value} {N' mc ms : Nat} {post : Option Value → Hp → Prop} (As rest : List Value) (lk : LkV own index y C c1 m1 r1 nA) (hc : h o = .inr (ci, fs)) (hcl : vwCl[ci]? = some (C, T, M)) (ho : o < N) (ct : Ct E y c1 m1 r1 rm B N (.ref (Ez E + o) :: As) h N' mc ms post) (hrm : rm.cells = mc ∧ rm.slots = ms ∧ Rm rm R m1) (hn : As.length = nA) (hst : st = As.reverse ++ .ref (Ez E + o) :: rest) (hcat : (rest.map fun v => v.category).sum ≤ 8) (hf : k + mc ≤ R.cells ∧ n + ms ≤ R.slots) (hd : decode cc pc = .ok (.invokevirtual index, 3))
    (kk : ∀ (r : Option Value) (h' : Hp), post r h' → V E X R own cc nL ret (k + mc) (n + ms) Q B N' (pc + 3) lv (r.toList ++ rest) h') : V E X R own cc nL ret k n Q B N pc lv st h := by
  subst hst
  refine v_run (a := (Value.ref (Ez E + o) :: As).toArray) (fun ok H locs ls hR hS hl => ?_) kk
  have hts := ok.2.2.2.2.1
  obtain ⟨l1, l2, l3, l4, l5, l6⟩ := lk
  exact va_runV (Ts := TB) (n := nA) (bytes := c1) (maxL := m1) (ret := r1) (C := C) ⟨ok.1, ok.2.1, ok.2.2.1, ok.2.2.2.1, hts⟩ ct ⟨callB_of nA hts (TB_goodB l5) rfl hrm.1 hrm.2.1 (hts _ l4) (hts _ l1) l6 hrm.2.2, hts _ l2, hts _ l3⟩ ⟨(pcx ok hR).1, va_recv (q0 := 0) ok.2.2.2.2.2.1.1 (rr1 hR ho hc) hcl rfl, (pcx ok hR).2⟩ rfl hn hl.1 rfl (lv_room hcat) hd hf
theorem v_callS {y : MethodName} {c1 : ByteArray} {m1 nA : Nat} {r1 : Option FieldType} {rm : Room} {index : Nat} {N' mc ms : Nat} {post : Option Value → Hp → Prop} (As rest : List Value) (lk : LkS own index y c1 m1 r1 nA) (ct : Ct E y c1 m1 r1 rm B N As h N' mc ms post) (hrm : rm.cells = mc ∧ rm.slots = ms ∧ Rm rm R m1) (hn : As.length = nA) (hst : st = As.reverse ++ rest) (hcat : (rest.map fun v => v.category).sum ≤ 8) (hf : k + mc ≤ R.cells ∧ n + ms ≤ R.slots) (hd : decode cc pc = .ok (.invokestatic index, 3))
    (kk : ∀ (r : Option Value) (h' : Hp), post r h' → V E X R own cc nL ret (k + mc) (n + ms) Q B N' (pc + 3) lv (r.toList ++ rest) h') : V E X R own cc nL ret k n Q B N pc lv st h := by
  subst hst
  refine v_run (a := As.toArray) (fun ok H locs ls hR hS hl => ?_) kk
  have hts := ok.2.2.2.2.1
  obtain ⟨l1, l2, l4, l5, l6⟩ := lk
  exact va_runS (Ts := TB) (n := nA) (bytes := c1) (maxL := m1) (ret := r1) ⟨ok.1, ok.2.1, ok.2.2.1, ok.2.2.2.1, hts⟩ ct ⟨callB_of nA hts (TB_goodB l5) rfl hrm.1 hrm.2.1 (hts _ l4) (hts _ l1) l6 hrm.2.2, hts _ l2⟩ (pcx ok hR) rfl hn hl.1 rfl (lv_room hcat) hd hf
theorem v_callSN {y : MethodName} {c1 : ByteArray} {m1 nA : Nat} {r1 : Option FieldType} {rm : Room} {index : Nat} {host : String} {N' mc ms : Nat} {post : Option Value → Hp → Prop} (As rest : List Value) (lk : LkSN own index y host c1 m1 r1 nA) (ct : Ct E y c1 m1 r1 rm B N As h N' mc ms post) (hrm : rm.cells = mc ∧ rm.slots = ms ∧ Rm rm R m1) (hn : As.length = nA) (hst : st = As.reverse ++ rest) (hcat : (rest.map fun v => v.category).sum ≤ 8) (hf : k + mc ≤ R.cells ∧ n + ms ≤ R.slots) (hd : decode cc pc = .ok (.invokestatic index, 3))
    (kk : ∀ (r : Option Value) (h' : Hp), post r h' → V E X R own cc nL ret (k + mc) (n + ms) Q B N' (pc + 3) lv (r.toList ++ rest) h') : V E X R own cc nL ret k n Q B N pc lv st h := by
  subst hst
  refine v_run (a := As.toArray) (fun ok H locs ls hR hS hl => ?_) kk
  have hts := ok.2.2.2.2.1
  obtain ⟨l1, l2, l4, l5, l6⟩ := lk
  exact va_runSN (Ts := TB) (n := nA) (bytes := c1) (maxL := m1) (ret := r1) ⟨ok.1, ok.2.1, ok.2.2.1, ok.2.2.2.1, hts⟩ ct ⟨va_cnB nA hts (TB_goodB l5) rfl hrm.1 hrm.2.1 (ok.2.2.2.2.2.1.2.1 _ l1) (hts _ l4) l6 hrm.2.2, hts _ l2, trivial⟩ (pcx ok hR) rfl hn hl.1 rfl (lv_room hcat) hd hf
theorem v_callI {y : MethodName} {c1 : ByteArray} {m1 nA : Nat} {rm : Room} {index a : Nat} {N' mc ms : Nat} {post : Option Value → Hp → Prop} (As rest : List Value) (lk : LkI own index y c1 m1 nA) (ct : Ct E y c1 m1 none rm B N (.ref a :: As) h N' mc ms post) (hrm : rm.cells = mc ∧ rm.slots = ms ∧ Rm rm R m1) (hn : As.length = nA) (hst : st = As.reverse ++ .ref a :: rest) (hcat : (rest.map fun v => v.category).sum ≤ 8) (hf : k + mc ≤ R.cells ∧ n + ms ≤ R.slots) (hd : decode cc pc = .ok (.invokespecial index, 3))
    (kk : ∀ (r : Option Value) (h' : Hp), post r h' → V E X R own cc nL ret (k + mc) (n + ms) Q B N' (pc + 3) lv (r.toList ++ rest) h') : V E X R own cc nL ret k n Q B N pc lv st h := by
  subst hst
  refine v_run (a := (Value.ref a :: As).toArray) (fun ok H locs ls hR hS hl => ?_) kk
  have hts := ok.2.2.2.2.1
  obtain ⟨l1, l2, l3, l4, l5, l6⟩ := lk
  exact va_runI (Ts := TB) (n := nA) (bytes := c1) (maxL := m1) ⟨ok.1, ok.2.1, ok.2.2.1, ok.2.2.2.1, hts⟩ ct ⟨callB_of nA hts (TB_goodB l5) rfl hrm.1 hrm.2.1 (hts _ l4) (hts _ l1) l6 hrm.2.2, l2, hts _ l3⟩ (pcx ok hR) rfl hn hl.1 rfl (lv_room hcat) hd hf
theorem v_callIN {y : MethodName} {c1 : ByteArray} {m1 nA : Nat} {rm : Room} {index a : Nat} {host : String} {N' mc ms : Nat} {post : Option Value → Hp → Prop} (As rest : List Value) (lk : LkIN own index y host c1 m1 nA) (ct : Ct E y c1 m1 none rm B N (.ref a :: As) h N' mc ms post) (hrm : rm.cells = mc ∧ rm.slots = ms ∧ Rm rm R m1) (hn : As.length = nA) (hst : st = As.reverse ++ .ref a :: rest) (hcat : (rest.map fun v => v.category).sum ≤ 8) (hf : k + mc ≤ R.cells ∧ n + ms ≤ R.slots) (hd : decode cc pc = .ok (.invokespecial index, 3))
    (kk : ∀ (r : Option Value) (h' : Hp), post r h' → V E X R own cc nL ret (k + mc) (n + ms) Q B N' (pc + 3) lv (r.toList ++ rest) h') : V E X R own cc nL ret k n Q B N pc lv st h := by
  subst hst
  refine v_run (a := (Value.ref a :: As).toArray) (fun ok H locs ls hR hS hl => ?_) kk
  have hts := ok.2.2.2.2.1
  obtain ⟨l1, l2, l3, l4, l5, l6⟩ := lk
  exact va_runIN (Ts := TB) (n := nA) (bytes := c1) (maxL := m1) ⟨ok.1, ok.2.1, ok.2.2.1, ok.2.2.2.1, hts⟩ ct ⟨va_cnB nA hts (TB_goodB l5) rfl hrm.1 hrm.2.1 (ok.2.2.2.2.2.1.2.1 _ l1) (hts _ l4) l6 hrm.2.2, l2, hts _ l3⟩ (pcx ok hR) rfl hn hl.1 rfl (lv_room hcat) hd hf
theorem v_copy {index o0 o1 n0 n1 : Nat} {f g : Nat → Int32} {sp dp x : Int32} (hlink : Cond.methodLink own index arraycopyName ∈ TB) (hs : Cond.static arraycopyName ∈ TB) (hi : Cond.initialized "java/lang/System" ∈ TB) (hc0 : h o0 = .inl (EI E, n0, .inl f)) (hc1 : h o1 = .inl (EI E, n1, .inl g)) (ho0 : o0 < N) (ho1 : o1 < N) (hne : o0 ≠ o1) (h1 : ¬ sp < 0) (h2 : ¬ dp < 0) (h3 : ¬ x < 0) (h4 : sp.toNatClampNeg + x.toNatClampNeg ≤ n0) (h5 : dp.toNatClampNeg + x.toNatClampNeg ≤ n1) (hframes : 1 ≤ R.frames) (hlocals : (st.map fun v => v.category).sum + (nativeFrameWords "java/lang/System" "arraycopy" 5 + 11) ≤ R.locals) (hd : decode cc pc = .ok (.invokestatic index, 3))
    (hu : ∀ o', o' < N → h' o' = va_up h o1 (.inl (EI E, n1, .inl (va_cpy f g sp.toNatClampNeg dp.toNatClampNeg x.toNatClampNeg))) o')
    (kk : V E X R own cc nL ret k n Q false N (pc + 3) lv st h') : V E X R own cc nL ret k n Q false N pc lv (.int x :: .int dp :: .ref (Ez E + o1) :: .int sp :: .ref (Ez E + o0) :: st) h := by
  intro ok H locs ls hr hS hl
  have hts := ok.2.2.2.2.1
  refine va_copyi (D := E.2.1) (cl := vwCl) (A := zA E) (H0 := X.2.2.1.heap) ok.1 ok.2.1 (by rw [ok.2.2.1]; exact hl.1.symm) ok.2.2.2.1 (hts _ hlink) (hts _ nat_arraycopy) (hts _ hs) (hts _ hi) ok.2.2.2.2.2.1.1 (rrN hr) ddN hS o0 o1 0 0 (atN ho0 hc0) (atN ho1 hc1) rfl rfl rfl h1 h2 h3 h4 h5 (fun i hi => rfl) hframes hlocals hd (fun H1 locs1 hP1 hD1 hS1 => ?_)
  have hcell : ∀ o', o' < N → va_at E.2.1 vwCl (Ez E + o', h' o') H1 := fun o' ho' => by
    rw [hu o' ho']
    by_cases he : o' = o1
    · subst he
      rw [va_up_self]
      exact hP1 o' _ (by rw [List.getElem?_set_self (by simpa using ho1)])
    · rw [va_up_ne _ _ he]
      exact hP1 o' _ (by rw [List.getElem?_set_ne (Ne.symm he)]; exact atN ho' rfl)
  have hsz : Ez E + N ≤ H1.size := by
    cases N with
    | zero => omega
    | succ M => have := (hcell M (by omega)).lt; simp only at this; omega
  exact kk ok H1 locs1 ls ⟨⟨hsz, fun e => by cases e⟩, hcell⟩ hS1 hl
end VV
end
section
/-! what a state of both systems is (tuples), and which cell lies at which offset; 146 cells in all -/
abbrev Fn : Type := Nat → Int32
/-- tree hours netted ringed placesEver; birds crumbs owed places -/
abbrev FlockV : Type := Int32 × Int32 × Int32 × Int32 × Int32 × Fn × Fn × Fn × Fn
/-- stands dusk tree persons debts; kind birds door debtor creditor owed -/
abbrev ParV : Type := Int32 × Int32 × Int32 × Int32 × Int32 × Fn × Fn × Fn × Fn × Fn × Fn
/-- letters; length faultAt faultNumber at numberAt -/
abbrev TextV : Type := Fn × Int32 × Int32 × Int32 × Int32 × Int32
/-- next size -/
abbrev PastV : Type := Int32 × Int32
/-- watched doorsOff wasFelt entryPerson entryBirds; watches feelings entries -/
abbrev SeenV : Type := Fn × Fn × Fn × Fn × Fn × Int32 × Int32 × Int32
/-- hats bestBySet -/
abbrev SettV : Type := Fn × Fn
/-- which parish is here, which the draft; theSeed; imageSeeds imageThere owedOnward -/
abbrev TopV : Type := Nat × Nat × Int32 × Fn × Fn × Fn
abbrev CSt : Type := (Nat → FlockV) × (Nat → ParV) × TextV × PastV × SeenV × SettV × TopV
/-- undos size fault watchedMany feltMany bookMany at begin sign figures value wrong -/
abbrev IntV : Type := Int32 × Int32 × Int32 × Int32 × Int32 × Int32 × Int32 × Int32 × Int32 × Int32 × Int32 × Int32
/-- rows: parish read now aside past images kept text watched felt book loss can; ints; seed -/
abbrev MSt : Type := (Nat → Fn) × IntV × Int64
abbrev Sg : Type := CSt × MSt
/-- flock 0 is now, 1 trial, 2 .. 17 the past, 18 and 19 the images -/
def adr (k : Nat) : Nat := if k < 2 then 17 + 5 * k else if k < 18 then 19 + 5 * k else 32 + 5 * k
def pad (k : Nat) : Nat := 3 + 7 * k
theorem adr_cases {k : Nat} (hk : k < 20) : (k < 2 ∧ adr k = 17 + 5 * k) ∨ (2 ≤ k ∧ k < 18 ∧ adr k = 19 + 5 * k) ∨ (18 ≤ k ∧ k < 20 ∧ adr k = 32 + 5 * k) := by
  unfold adr
  by_cases h : k < 2
  · rw [if_pos h]; omega
  · rw [if_neg h]
    by_cases h2 : k < 18
    · rw [if_pos h2]; omega
    · rw [if_neg h2]; omega
theorem adr_lt {k j : Nat} (hk : k < 20) (hj : j < 5) : adr k + j < 146 := by have := adr_cases hk; omega
theorem adr_lt0 {k : Nat} (hk : k < 20) : adr k < 146 := by have := adr_cases hk; omega
theorem pad_lt {k j : Nat} (hk : k < 2) (hj : j < 7) : pad k + j < 146 := by unfold pad; omega
theorem pad_lt0 {k : Nat} (hk : k < 2) : pad k < 146 := by unfold pad; omega
theorem adr_ne {k k2 j j2 : Nat} (hk : k < 20) (hk2 : k2 < 20) (hj : j < 5) (hj2 : j2 < 5) (h : k ≠ k2 ∨ j ≠ j2) : adr k + j ≠ adr k2 + j2 := by have := adr_cases hk; have := adr_cases hk2; omega
abbrev gF (σ : Sg) (k : Nat) : FlockV := σ.1.1 k
abbrev gP (σ : Sg) (k : Nat) : ParV := σ.1.2.1 k
abbrev gT (σ : Sg) : TextV := σ.1.2.2.1
abbrev gQ (σ : Sg) : PastV := σ.1.2.2.2.1
abbrev gS (σ : Sg) : SeenV := σ.1.2.2.2.2.1
abbrev gL (σ : Sg) : SettV := σ.1.2.2.2.2.2.1
abbrev gU (σ : Sg) : TopV := σ.1.2.2.2.2.2.2
abbrev sFl (σ : Sg) (k : Nat) (F : FlockV) : Sg := ((va_up σ.1.1 k F, σ.1.2), σ.2)
abbrev sPar (σ : Sg) (k : Nat) (F : ParV) : Sg := ((σ.1.1, va_up σ.1.2.1 k F, σ.1.2.2), σ.2)
abbrev sTx (σ : Sg) (F : TextV) : Sg := ((σ.1.1, σ.1.2.1, F, σ.1.2.2.2), σ.2)
abbrev sPa (σ : Sg) (F : PastV) : Sg := ((σ.1.1, σ.1.2.1, σ.1.2.2.1, F, σ.1.2.2.2.2), σ.2)
abbrev sSe (σ : Sg) (F : SeenV) : Sg := ((σ.1.1, σ.1.2.1, σ.1.2.2.1, σ.1.2.2.2.1, F, σ.1.2.2.2.2.2), σ.2)
abbrev sSt (σ : Sg) (F : SettV) : Sg := ((σ.1.1, σ.1.2.1, σ.1.2.2.1, σ.1.2.2.2.1, σ.1.2.2.2.2.1, F, σ.1.2.2.2.2.2.2), σ.2)
abbrev sU (σ : Sg) (F : TopV) : Sg := ((σ.1.1, σ.1.2.1, σ.1.2.2.1, σ.1.2.2.2.1, σ.1.2.2.2.2.1, σ.1.2.2.2.2.2.1, F), σ.2)
abbrev sM (σ : Sg) (μ : MSt) : Sg := (σ.1, μ)
theorem va_up_uu {α : Type} (f : Nat → α) (k : Nat) (v w : α) : va_up (va_up f k v) k w = va_up f k w := by
  funext j; by_cases h : j = k <;> simp [va_up, h]
theorem va_up_id {α : Type} (f : Nat → α) (k : Nat) : va_up f k (f k) = f := by
  funext j; by_cases h : j = k <;> simp [va_up, h]
theorem gF_s (σ : Sg) (k : Nat) (F : FlockV) : gF (sFl σ k F) k = F := va_up_self _ _ _
theorem gP_s (σ : Sg) (k : Nat) (F : ParV) : gP (sPar σ k F) k = F := va_up_self _ _ _
theorem sFl_id (σ : Sg) (k : Nat) : sFl σ k (gF σ k) = σ := by show ((va_up σ.1.1 k (σ.1.1 k), σ.1.2), σ.2) = σ; rw [va_up_id]
theorem sPar_id (σ : Sg) (k : Nat) : sPar σ k (gP σ k) = σ := by show ((σ.1.1, va_up σ.1.2.1 k (σ.1.2.1 k), σ.1.2.2), σ.2) = σ; rw [va_up_id]
theorem sFl_s (σ : Sg) (k : Nat) (F G : FlockV) : sFl (sFl σ k F) k G = sFl σ k G := by show ((va_up (va_up σ.1.1 k F) k G, σ.1.2), σ.2) = _; rw [va_up_uu]
theorem sPar_s (σ : Sg) (k : Nat) (F G : ParV) : sPar (sPar σ k F) k G = sPar σ k G := by show ((σ.1.1, va_up (va_up σ.1.2.1 k F) k G, σ.1.2.2), σ.2) = _; rw [va_up_uu]
theorem gF_ne (σ : Sg) {k k2 : Nat} (F : FlockV) (h : k2 ≠ k) : gF (sFl σ k F) k2 = gF σ k2 := va_up_ne _ _ h
theorem gP_ne (σ : Sg) {k k2 : Nat} (F : ParV) (h : k2 ≠ k) : gP (sPar σ k F) k2 = gP σ k2 := va_up_ne _ _ h
def fC (E : Ev) (a : Nat) : FlockV → Nat → va_E
  | (t, hr, nt, rg, pe, b, c, o, p), 0 => .inr (0, [.int t, .int hr, .int nt, .int rg, .int pe, .ref (Ez E + (a + 1)), .ref (Ez E + (a + 2)), .ref (Ez E + (a + 3)), .ref (Ez E + (a + 4))])
  | (t, hr, nt, rg, pe, b, c, o, p), 1 => .inl (EI E, 7, .inl b)
  | (t, hr, nt, rg, pe, b, c, o, p), 2 => .inl (EI E, 7, .inl c)
  | (t, hr, nt, rg, pe, b, c, o, p), 3 => .inl (EI E, 9, .inl o)
  | (t, hr, nt, rg, pe, b, c, o, p), _ => .inl (EI E, 20, .inl p)
def pC (E : Ev) (a : Nat) : ParV → Nat → va_E
  | (sd, du, tr, ps, db, kd, bd, dr, dt, cr, ow), 0 => .inr (1, [.int sd, .int du, .int tr, .int ps, .int db, .ref (Ez E + (a + 1)), .ref (Ez E + (a + 2)), .ref (Ez E + (a + 3)), .ref (Ez E + (a + 4)), .ref (Ez E + (a + 5)), .ref (Ez E + (a + 6))])
  | (sd, du, tr, ps, db, kd, bd, dr, dt, cr, ow), 1 => .inl (EI E, 7, .inl kd)
  | (sd, du, tr, ps, db, kd, bd, dr, dt, cr, ow), 2 => .inl (EI E, 7, .inl bd)
  | (sd, du, tr, ps, db, kd, bd, dr, dt, cr, ow), 3 => .inl (EI E, 7, .inl dr)
  | (sd, du, tr, ps, db, kd, bd, dr, dt, cr, ow), 4 => .inl (EI E, 9, .inl dt)
  | (sd, du, tr, ps, db, kd, bd, dr, dt, cr, ow), 5 => .inl (EI E, 9, .inl cr)
  | (sd, du, tr, ps, db, kd, bd, dr, dt, cr, ow), _ => .inl (EI E, 9, .inl ow)
def tC (E : Ev) (a : Nat) : TextV → Nat → va_E
  | (lt, ln, fa, fn, ap, na), 0 => .inr (5, [.ref (Ez E + (a + 1)), .int ln, .int fa, .int fn, .int ap, .int na])
  | (lt, ln, fa, fn, ap, na), _ => .inl (EI E, 240, .inl lt)
def sC (E : Ev) (a : Nat) : SeenV → Nat → va_E
  | (wa, df, wf, ep, eb, ws, fs, es), 0 => .inr (3, [.ref (Ez E + (a + 1)), .ref (Ez E + (a + 2)), .ref (Ez E + (a + 3)), .ref (Ez E + (a + 4)), .ref (Ez E + (a + 5)), .int ws, .int fs, .int es])
  | (wa, df, wf, ep, eb, ws, fs, es), 1 => .inl (EI E, 6, .inl wa)
  | (wa, df, wf, ep, eb, ws, fs, es), 2 => .inl (EI E, 6, .inl df)
  | (wa, df, wf, ep, eb, ws, fs, es), 3 => .inl (EZ E, 6, .inl wf)
  | (wa, df, wf, ep, eb, ws, fs, es), 4 => .inl (EI E, 15, .inl ep)
  | (wa, df, wf, ep, eb, ws, fs, es), _ => .inl (EI E, 15, .inl eb)
def lC (E : Ev) (a : Nat) : SettV → Nat → va_E
  | (ht, be), 0 => .inr (4, [.ref (Ez E + (a + 1)), .ref (Ez E + (a + 2))])
  | (ht, be), 1 => .inl (EI E, 7, .inl ht)
  | (ht, be), _ => .inl (EI E, 512, .inl be)
/-- the past: its row of flocks never changes -/
def qC (E : Ev) : PastV → Nat → va_E
  | (nx, sz), 0 => .inr (2, [.ref (Ez E + 28), .int nx, .int sz])
  | _, _ => .inl (EF E, 16, .inr (.inr (.inr (.inr (fun i => if i < 16 then some (Ez E + adr (2 + i)) else none)))))
def iC (E : Ev) : TopV → Nat → va_E
  | _, 0 => .inl (EF E, 2, .inr (.inr (.inr (.inr (fun i => if i < 2 then some (Ez E + adr (18 + i)) else none)))))
  | (hj, dj, se, is, it, oo), 1 => .inl (EI E, 2, .inl is)
  | (hj, dj, se, is, it, oo), _ => .inl (EZ E, 2, .inl it)
def uC (E : Ev) : TopV → va_E
  | (hj, dj, se, is, it, oo) => .inr (6, [.ref (Ez E + 1), .ref (Ez E + pad hj), .ref (Ez E + pad dj), .ref (Ez E + adr 0), .ref (Ez E + adr 1), .ref (Ez E + 27), .ref (Ez E + 109), .ref (Ez E + 110), .ref (Ez E + 111), .ref (Ez E + 112), .ref (Ez E + 115), .ref (Ez E + 121), .int se])
/-- how long the reference's rows are -/
def mL : Nat → Nat
  | 0 => 52 | 1 => 52 | 2 => 48 | 3 => 48 | 4 => 768 | 5 => 98 | 6 => 2 | 7 => 240 | 8 => 6 | 9 => 18 | 10 => 30 | 11 => 7 | _ => 512
def mK (E : Ev) : Nat → ClassId
  | 6 => EZ E | _ => EI E
def mC (E : Ev) : MSt → Nat → va_E
  | (A, (un, sz, ft, wm, fm, bm, at_, bg, sg, fg, vl, wr), sd), 0 => .inr (7, [.ref (Ez E + 133), .ref (Ez E + 134), .ref (Ez E + 135), .ref (Ez E + 136), .ref (Ez E + 137), .int un, .ref (Ez E + 138), .ref (Ez E + 139), .long sd, .ref (Ez E + 140), .int sz, .int ft, .ref (Ez E + 141), .int wm, .ref (Ez E + 142), .int fm, .ref (Ez E + 143), .int bm, .int at_, .int bg, .int sg, .int fg, .int vl, .int wr, .ref (Ez E + 144), .ref (Ez E + 145)])
  | (A, _, _), j + 1 => .inl (mK E j, mL j, .inl (A j))
def cellOf (E : Ev) (σ : Sg) (o : Nat) : va_E :=
  if o = 0 then uC E (gU σ)
  else if o < 3 then tC E 1 (gT σ) (o - 1)
  else if o < 17 then pC E (3 + 7 * ((o - 3) / 7)) (gP σ ((o - 3) / 7)) ((o - 3) % 7)
  else if o < 27 then fC E (17 + 5 * ((o - 17) / 5)) (gF σ ((o - 17) / 5)) ((o - 17) % 5)
  else if o < 29 then qC E (gQ σ) (o - 27)
  else if o < 109 then fC E (29 + 5 * ((o - 29) / 5)) (gF σ (2 + (o - 29) / 5)) ((o - 29) % 5)
  else if o < 112 then iC E (gU σ) (o - 109)
  else if o < 115 then lC E 112 (gL σ) (o - 112)
  else if o < 121 then sC E 115 (gS σ) (o - 115)
  else if o < 122 then .inl (EI E, 7, .inl (gU σ).2.2.2.2.2)
  else if o < 132 then fC E (122 + 5 * ((o - 122) / 5)) (gF σ (18 + (o - 122) / 5)) ((o - 122) % 5)
  else mC E σ.2 (o - 132)
theorem cF_at (E : Ev) (σ : Sg) {k j : Nat} (hk : k < 20) (hj : j < 5) : cellOf E σ (adr k + j) = fC E (adr k) (gF σ k) j := by
  unfold cellOf
  rcases adr_cases hk with ⟨h, ha⟩ | ⟨h, h2, ha⟩ | ⟨h, h2, ha⟩
  · rw [if_neg (by omega), if_neg (by omega), if_neg (by omega), if_pos (by omega), show (adr k + j - 17) / 5 = k by omega, show (adr k + j - 17) % 5 = j by omega, ← ha]
  · rw [if_neg (by omega), if_neg (by omega), if_neg (by omega), if_neg (by omega), if_neg (by omega), if_pos (by omega), show (adr k + j - 29) / 5 = k - 2 by omega, show (adr k + j - 29) % 5 = j by omega, show 29 + 5 * (k - 2) = adr k by omega, show 2 + (k - 2) = k by omega]
  · rw [if_neg (by omega), if_neg (by omega), if_neg (by omega), if_neg (by omega), if_neg (by omega), if_neg (by omega), if_neg (by omega), if_neg (by omega), if_neg (by omega), if_neg (by omega), if_pos (by omega), show (adr k + j - 122) / 5 = k - 18 by omega, show (adr k + j - 122) % 5 = j by omega, show 122 + 5 * (k - 18) = adr k by omega, show 18 + (k - 18) = k by omega]
theorem cP_at (E : Ev) (σ : Sg) {k j : Nat} (hk : k < 2) (hj : j < 7) : cellOf E σ (pad k + j) = pC E (pad k) (gP σ k) j := by
  unfold cellOf pad
  rw [if_neg (by omega), if_neg (by omega), if_pos (by omega), show (3 + 7 * k + j - 3) / 7 = k by omega, show (3 + 7 * k + j - 3) % 7 = j by omega]
theorem cT_at (E : Ev) (σ : Sg) {j : Nat} (hj : j < 2) : cellOf E σ (1 + j) = tC E 1 (gT σ) j := by
  unfold cellOf
  rw [if_neg (by omega), if_pos (by omega), show 1 + j - 1 = j by omega]
theorem cQ_at (E : Ev) (σ : Sg) {j : Nat} (hj : j < 2) : cellOf E σ (27 + j) = qC E (gQ σ) j := by
  unfold cellOf
  rw [if_neg (by omega), if_neg (by omega), if_neg (by omega), if_neg (by omega), if_pos (by omega), show 27 + j - 27 = j by omega]
theorem cL_at (E : Ev) (σ : Sg) {j : Nat} (hj : j < 3) : cellOf E σ (112 + j) = lC E 112 (gL σ) j := by
  unfold cellOf
  rw [if_neg (by omega), if_neg (by omega), if_neg (by omega), if_neg (by omega), if_neg (by omega), if_neg (by omega), if_neg (by omega), if_pos (by omega), show 112 + j - 112 = j by omega]
theorem cS_at (E : Ev) (σ : Sg) {j : Nat} (hj : j < 6) : cellOf E σ (115 + j) = sC E 115 (gS σ) j := by
  unfold cellOf
  rw [if_neg (by omega), if_neg (by omega), if_neg (by omega), if_neg (by omega), if_neg (by omega), if_neg (by omega), if_neg (by omega), if_neg (by omega), if_pos (by omega), show 115 + j - 115 = j by omega]
theorem cI_at (E : Ev) (σ : Sg) {j : Nat} (hj : j < 3) : cellOf E σ (109 + j) = iC E (gU σ) j := by
  unfold cellOf
  rw [if_neg (by omega), if_neg (by omega), if_neg (by omega), if_neg (by omega), if_neg (by omega), if_neg (by omega), if_pos (by omega), show 109 + j - 109 = j by omega]
theorem cU_at (E : Ev) (σ : Sg) : cellOf E σ 0 = uC E (gU σ) := by unfold cellOf; rw [if_pos rfl]
theorem cO_at (E : Ev) (σ : Sg) : cellOf E σ 121 = .inl (EI E, 7, .inl (gU σ).2.2.2.2.2) := by
  unfold cellOf
  rw [if_neg (by omega), if_neg (by omega), if_neg (by omega), if_neg (by omega), if_neg (by omega), if_neg (by omega), if_neg (by omega), if_neg (by omega), if_neg (by omega), if_pos (by omega)]
theorem cM_at (E : Ev) (σ : Sg) (j : Nat) : cellOf E σ (132 + j) = mC E σ.2 j := by
  unfold cellOf
  rw [if_neg (by omega), if_neg (by omega), if_neg (by omega), if_neg (by omega), if_neg (by omega), if_neg (by omega), if_neg (by omega), if_neg (by omega), if_neg (by omega), if_neg (by omega), if_neg (by omega), show 132 + j - 132 = j by omega]
/-- what a setter leaves -/
theorem cF_out (E : Ev) (σ : Sg) {k o : Nat} (F : FlockV) (hk : k < 20) (h : o < adr k ∨ adr k + 5 ≤ o) : cellOf E (sFl σ k F) o = cellOf E σ o := by
  have e : ∀ i, i ≠ k → gF (sFl σ k F) i = gF σ i := fun i hi => va_up_ne _ _ hi
  have ha := adr_cases hk
  unfold cellOf
  by_cases h0 : o = 0
  · rw [if_pos h0, if_pos h0]
  rw [if_neg h0, if_neg h0]
  by_cases h1 : o < 3
  · rw [if_pos h1, if_pos h1]
  rw [if_neg h1, if_neg h1]
  by_cases h2 : o < 17
  · rw [if_pos h2, if_pos h2]
  rw [if_neg h2, if_neg h2]
  by_cases h3 : o < 27
  · rw [if_pos h3, if_pos h3, e _ (by omega)]
  rw [if_neg h3, if_neg h3]
  by_cases h4 : o < 29
  · rw [if_pos h4, if_pos h4]
  rw [if_neg h4, if_neg h4]
  by_cases h5 : o < 109
  · rw [if_pos h5, if_pos h5, e _ (by omega)]
  rw [if_neg h5, if_neg h5]
  by_cases h6 : o < 112
  · rw [if_pos h6, if_pos h6]
  rw [if_neg h6, if_neg h6]
  by_cases h7 : o < 115
  · rw [if_pos h7, if_pos h7]
  rw [if_neg h7, if_neg h7]
  by_cases h8 : o < 121
  · rw [if_pos h8, if_pos h8]
  rw [if_neg h8, if_neg h8]
  by_cases h9 : o < 122
  · rw [if_pos h9, if_pos h9]
  rw [if_neg h9, if_neg h9]
  by_cases h10 : o < 132
  · rw [if_pos h10, if_pos h10, e _ (by omega)]
  rw [if_neg h10, if_neg h10]
theorem cP_out (E : Ev) (σ : Sg) {k o : Nat} (F : ParV) (h : o < pad k ∨ pad k + 7 ≤ o) : cellOf E (sPar σ k F) o = cellOf E σ o := by
  have e : ∀ i, i ≠ k → gP (sPar σ k F) i = gP σ i := fun i hi => va_up_ne _ _ hi
  unfold pad at h
  unfold cellOf
  by_cases h0 : o = 0
  · rw [if_pos h0, if_pos h0]
  rw [if_neg h0, if_neg h0]
  by_cases h1 : o < 3
  · rw [if_pos h1, if_pos h1]
  rw [if_neg h1, if_neg h1]
  by_cases h2 : o < 17
  · rw [if_pos h2, if_pos h2, e _ (by omega)]
  rw [if_neg h2, if_neg h2]
theorem cT_out (E : Ev) (σ : Sg) {o : Nat} (F : TextV) (h : o < 1 ∨ 3 ≤ o) : cellOf E (sTx σ F) o = cellOf E σ o := by
  unfold cellOf
  by_cases h0 : o = 0
  · rw [if_pos h0, if_pos h0]
  rw [if_neg h0, if_neg h0]
  by_cases h1 : o < 3
  · exact absurd h1 (by omega)
  rw [if_neg h1, if_neg h1]
theorem cQ_out (E : Ev) (σ : Sg) {o : Nat} (F : PastV) (h : o < 27 ∨ 29 ≤ o) : cellOf E (sPa σ F) o = cellOf E σ o := by
  unfold cellOf
  by_cases h0 : o = 0
  · rw [if_pos h0, if_pos h0]
  rw [if_neg h0, if_neg h0]
  by_cases h1 : o < 3
  · rw [if_pos h1, if_pos h1]
  rw [if_neg h1, if_neg h1]
  by_cases h2 : o < 17
  · rw [if_pos h2, if_pos h2]
  rw [if_neg h2, if_neg h2]
  by_cases h3 : o < 27
  · rw [if_pos h3, if_pos h3]
  rw [if_neg h3, if_neg h3]
  by_cases h4 : o < 29
  · exact absurd h4 (by omega)
  rw [if_neg h4, if_neg h4]
theorem cS_out (E : Ev) (σ : Sg) {o : Nat} (F : SeenV) (h : o < 115 ∨ 121 ≤ o) : cellOf E (sSe σ F) o = cellOf E σ o := by
  unfold cellOf
  by_cases h0 : o = 0
  · rw [if_pos h0, if_pos h0]
  rw [if_neg h0, if_neg h0]
  by_cases h1 : o < 3
  · rw [if_pos h1, if_pos h1]
  rw [if_neg h1, if_neg h1]
  by_cases h2 : o < 17
  · rw [if_pos h2, if_pos h2]
  rw [if_neg h2, if_neg h2]
  by_cases h3 : o < 27
  · rw [if_pos h3, if_pos h3]
  rw [if_neg h3, if_neg h3]
  by_cases h4 : o < 29
  · rw [if_pos h4, if_pos h4]
  rw [if_neg h4, if_neg h4]
  by_cases h5 : o < 109
  · rw [if_pos h5, if_pos h5]
  rw [if_neg h5, if_neg h5]
  by_cases h6 : o < 112
  · rw [if_pos h6, if_pos h6]
  rw [if_neg h6, if_neg h6]
  by_cases h7 : o < 115
  · rw [if_pos h7, if_pos h7]
  rw [if_neg h7, if_neg h7]
  by_cases h8 : o < 121
  · exact absurd h8 (by omega)
  rw [if_neg h8, if_neg h8]
theorem cL_out (E : Ev) (σ : Sg) {o : Nat} (F : SettV) (h : o < 112 ∨ 115 ≤ o) : cellOf E (sSt σ F) o = cellOf E σ o := by
  unfold cellOf
  by_cases h0 : o = 0
  · rw [if_pos h0, if_pos h0]
  rw [if_neg h0, if_neg h0]
  by_cases h1 : o < 3
  · rw [if_pos h1, if_pos h1]
  rw [if_neg h1, if_neg h1]
  by_cases h2 : o < 17
  · rw [if_pos h2, if_pos h2]
  rw [if_neg h2, if_neg h2]
  by_cases h3 : o < 27
  · rw [if_pos h3, if_pos h3]
  rw [if_neg h3, if_neg h3]
  by_cases h4 : o < 29
  · rw [if_pos h4, if_pos h4]
  rw [if_neg h4, if_neg h4]
  by_cases h5 : o < 109
  · rw [if_pos h5, if_pos h5]
  rw [if_neg h5, if_neg h5]
  by_cases h6 : o < 112
  · rw [if_pos h6, if_pos h6]
  rw [if_neg h6, if_neg h6]
  by_cases h7 : o < 115
  · exact absurd h7 (by omega)
  rw [if_neg h7, if_neg h7]
theorem cU_out (E : Ev) (σ : Sg) {o : Nat} (F : TopV) (h : o ≠ 0 ∧ (o < 109 ∨ 112 ≤ o) ∧ o ≠ 121) : cellOf E (sU σ F) o = cellOf E σ o := by
  unfold cellOf
  by_cases h0 : o = 0
  · exact absurd h0 (by omega)
  rw [if_neg h0, if_neg h0]
  by_cases h1 : o < 3
  · rw [if_pos h1, if_pos h1]
  rw [if_neg h1, if_neg h1]
  by_cases h2 : o < 17
  · rw [if_pos h2, if_pos h2]
  rw [if_neg h2, if_neg h2]
  by_cases h3 : o < 27
  · rw [if_pos h3, if_pos h3]
  rw [if_neg h3, if_neg h3]
  by_cases h4 : o < 29
  · rw [if_pos h4, if_pos h4]
  rw [if_neg h4, if_neg h4]
  by_cases h5 : o < 109
  · rw [if_pos h5, if_pos h5]
  rw [if_neg h5, if_neg h5]
  by_cases h6 : o < 112
  · exact absurd h6 (by omega)
  rw [if_neg h6, if_neg h6]
  by_cases h7 : o < 115
  · rw [if_pos h7, if_pos h7]
  rw [if_neg h7, if_neg h7]
  by_cases h8 : o < 121
  · rw [if_pos h8, if_pos h8]
  rw [if_neg h8, if_neg h8]
  by_cases h9 : o < 122
  · exact absurd h9 (by omega)
  rw [if_neg h9, if_neg h9]
theorem cM_out (E : Ev) (σ : Sg) {o : Nat} (μ : MSt) (h : o < 132) : cellOf E (sM σ μ) o = cellOf E σ o := by
  unfold cellOf
  by_cases h0 : o = 0
  · rw [if_pos h0, if_pos h0]
  rw [if_neg h0, if_neg h0]
  by_cases h1 : o < 3
  · rw [if_pos h1, if_pos h1]
  rw [if_neg h1, if_neg h1]
  by_cases h2 : o < 17
  · rw [if_pos h2, if_pos h2]
  rw [if_neg h2, if_neg h2]
  by_cases h3 : o < 27
  · rw [if_pos h3, if_pos h3]
  rw [if_neg h3, if_neg h3]
  by_cases h4 : o < 29
  · rw [if_pos h4, if_pos h4]
  rw [if_neg h4, if_neg h4]
  by_cases h5 : o < 109
  · rw [if_pos h5, if_pos h5]
  rw [if_neg h5, if_neg h5]
  by_cases h6 : o < 112
  · rw [if_pos h6, if_pos h6]
  rw [if_neg h6, if_neg h6]
  by_cases h7 : o < 115
  · rw [if_pos h7, if_pos h7]
  rw [if_neg h7, if_neg h7]
  by_cases h8 : o < 121
  · rw [if_pos h8, if_pos h8]
  rw [if_neg h8, if_neg h8]
  by_cases h9 : o < 122
  · rw [if_pos h9, if_pos h9]
  rw [if_neg h9, if_neg h9]
  rw [if_pos h, if_pos h]
theorem wF_g (E : Ev) (σ : Sg) {k : Nat} (j : Nat) (hk : k < 20) (hj : j < 5) {F F' : FlockV} (hs : ∀ i, i < 5 → i ≠ j → fC E (adr k) F' i = fC E (adr k) F i) (o' : Nat) : cellOf E (sFl σ k F') o' = va_up (cellOf E (sFl σ k F)) (adr k + j) (fC E (adr k) F' j) o' := by
  by_cases he : o' = adr k + j
  · subst he
    rw [va_up_self, cF_at E _ hk hj, gF_s]
  · rw [va_up_ne _ _ he]
    by_cases hb : adr k ≤ o' ∧ o' < adr k + 5
    · obtain ⟨i, hi, rfl⟩ : ∃ i, i < 5 ∧ o' = adr k + i := ⟨o' - adr k, by omega, by omega⟩
      rw [cF_at E _ hk hi, cF_at E _ hk hi, gF_s, gF_s]
      exact hs i hi (by omega)
    · rw [cF_out E σ F' hk (by omega), cF_out E σ F hk (by omega)]
theorem wP_g (E : Ev) (σ : Sg) {k : Nat} (j : Nat) (hk : k < 2) (hj : j < 7) {F F' : ParV} (hs : ∀ i, i < 7 → i ≠ j → pC E (pad k) F' i = pC E (pad k) F i) (o' : Nat) : cellOf E (sPar σ k F') o' = va_up (cellOf E (sPar σ k F)) (pad k + j) (pC E (pad k) F' j) o' := by
  by_cases he : o' = pad k + j
  · subst he
    rw [va_up_self, cP_at E _ hk hj, gP_s]
  · rw [va_up_ne _ _ he]
    by_cases hb : pad k ≤ o' ∧ o' < pad k + 7
    · obtain ⟨i, hi, rfl⟩ : ∃ i, i < 7 ∧ o' = pad k + i := ⟨o' - pad k, by omega, by omega⟩
      rw [cP_at E _ hk hi, cP_at E _ hk hi, gP_s, gP_s]
      exact hs i hi (by omega)
    · rw [cP_out E σ F' (by omega), cP_out E σ F (by omega)]
theorem wT_g (E : Ev) (σ : Sg) (j : Nat) (hj : j < 2) {F F' : TextV} (hs : ∀ i, i < 2 → i ≠ j → tC E (1) F' i = tC E (1) F i) (o' : Nat) : cellOf E (sTx σ F') o' = va_up (cellOf E (sTx σ F)) (1 + j) (tC E (1) F' j) o' := by
  by_cases he : o' = 1 + j
  · subst he
    rw [va_up_self, cT_at E _ hj]
  · rw [va_up_ne _ _ he]
    by_cases hb : 1 ≤ o' ∧ o' < 1 + 2
    · obtain ⟨i, hi, rfl⟩ : ∃ i, i < 2 ∧ o' = 1 + i := ⟨o' - 1, by omega, by omega⟩
      rw [cT_at E _ hi, cT_at E _ hi]
      exact hs i hi (by omega)
    · rw [cT_out E σ F' (by omega), cT_out E σ F (by omega)]
theorem wS_g (E : Ev) (σ : Sg) (j : Nat) (hj : j < 6) {F F' : SeenV} (hs : ∀ i, i < 6 → i ≠ j → sC E (115) F' i = sC E (115) F i) (o' : Nat) : cellOf E (sSe σ F') o' = va_up (cellOf E (sSe σ F)) (115 + j) (sC E (115) F' j) o' := by
  by_cases he : o' = 115 + j
  · subst he
    rw [va_up_self, cS_at E _ hj]
  · rw [va_up_ne _ _ he]
    by_cases hb : 115 ≤ o' ∧ o' < 115 + 6
    · obtain ⟨i, hi, rfl⟩ : ∃ i, i < 6 ∧ o' = 115 + i := ⟨o' - 115, by omega, by omega⟩
      rw [cS_at E _ hi, cS_at E _ hi]
      exact hs i hi (by omega)
    · rw [cS_out E σ F' (by omega), cS_out E σ F (by omega)]
theorem wL_g (E : Ev) (σ : Sg) (j : Nat) (hj : j < 3) {F F' : SettV} (hs : ∀ i, i < 3 → i ≠ j → lC E (112) F' i = lC E (112) F i) (o' : Nat) : cellOf E (sSt σ F') o' = va_up (cellOf E (sSt σ F)) (112 + j) (lC E (112) F' j) o' := by
  by_cases he : o' = 112 + j
  · subst he
    rw [va_up_self, cL_at E _ hj]
  · rw [va_up_ne _ _ he]
    by_cases hb : 112 ≤ o' ∧ o' < 112 + 3
    · obtain ⟨i, hi, rfl⟩ : ∃ i, i < 3 ∧ o' = 112 + i := ⟨o' - 112, by omega, by omega⟩
      rw [cL_at E _ hi, cL_at E _ hi]
      exact hs i hi (by omega)
    · rw [cL_out E σ F' (by omega), cL_out E σ F (by omega)]
end
section
theorem cFr_obj {E : Ev} {σ : Sg} {k : Nat} {t : Int32} {hr : Int32} {nt : Int32} {rg : Int32} {pe : Int32} {b : Fn} {c : Fn} {o : Fn} {p : Fn} (hk : k < 20) (hF : gF σ k = (t, hr, nt, rg, pe, b, c, o, p)) : cellOf E σ (adr k) = .inr (0, [.int t, .int hr, .int nt, .int rg, .int pe, .ref (Ez E + (adr k + 1)), .ref (Ez E + (adr k + 2)), .ref (Ez E + (adr k + 3)), .ref (Ez E + (adr k + 4))]) := by
  have h := cF_at E σ hk (j := 0) (by decide)
  rw [hF] at h; exact h
theorem cFr_b {E : Ev} {σ : Sg} {k : Nat} {t : Int32} {hr : Int32} {nt : Int32} {rg : Int32} {pe : Int32} {b : Fn} {c : Fn} {o : Fn} {p : Fn} (hk : k < 20) (hF : gF σ k = (t, hr, nt, rg, pe, b, c, o, p)) : cellOf E σ (adr k + 1) = .inl (EI E, 7, .inl b) := by
  have h := cF_at E σ hk (j := 1) (by decide)
  rw [hF] at h; exact h
theorem cFr_c {E : Ev} {σ : Sg} {k : Nat} {t : Int32} {hr : Int32} {nt : Int32} {rg : Int32} {pe : Int32} {b : Fn} {c : Fn} {o : Fn} {p : Fn} (hk : k < 20) (hF : gF σ k = (t, hr, nt, rg, pe, b, c, o, p)) : cellOf E σ (adr k + 2) = .inl (EI E, 7, .inl c) := by
  have h := cF_at E σ hk (j := 2) (by decide)
  rw [hF] at h; exact h
theorem cFr_o {E : Ev} {σ : Sg} {k : Nat} {t : Int32} {hr : Int32} {nt : Int32} {rg : Int32} {pe : Int32} {b : Fn} {c : Fn} {o : Fn} {p : Fn} (hk : k < 20) (hF : gF σ k = (t, hr, nt, rg, pe, b, c, o, p)) : cellOf E σ (adr k + 3) = .inl (EI E, 9, .inl o) := by
  have h := cF_at E σ hk (j := 3) (by decide)
  rw [hF] at h; exact h
theorem cFr_p {E : Ev} {σ : Sg} {k : Nat} {t : Int32} {hr : Int32} {nt : Int32} {rg : Int32} {pe : Int32} {b : Fn} {c : Fn} {o : Fn} {p : Fn} (hk : k < 20) (hF : gF σ k = (t, hr, nt, rg, pe, b, c, o, p)) : cellOf E σ (adr k + 4) = .inl (EI E, 20, .inl p) := by
  have h := cF_at E σ hk (j := 4) (by decide)
  rw [hF] at h; exact h
theorem wF_t {E : Ev} {σ : Sg} {k : Nat} {t : Int32} {hr : Int32} {nt : Int32} {rg : Int32} {pe : Int32} {b : Fn} {c : Fn} {o : Fn} {p : Fn} {v_ : Int32} (hk : k < 20) (o' : Nat) (_ : o' < 146) : cellOf E (sFl σ k (v_, hr, nt, rg, pe, b, c, o, p)) o' = va_up (cellOf E (sFl σ k (t, hr, nt, rg, pe, b, c, o, p))) (adr k) (.inr (0, [.int v_, .int hr, .int nt, .int rg, .int pe, .ref (Ez E + (adr k + 1)), .ref (Ez E + (adr k + 2)), .ref (Ez E + (adr k + 3)), .ref (Ez E + (adr k + 4))])) o' :=
  wF_g E σ 0 hk (by decide) (fun i hi hne => by match i, hi, hne with | 0, _, h => exact absurd rfl h | 1, _, _ => rfl | 2, _, _ => rfl | 3, _, _ => rfl | 4, _, _ => rfl | i + 5, h, _ => exact absurd h (by omega)) o'
theorem wF_hr {E : Ev} {σ : Sg} {k : Nat} {t : Int32} {hr : Int32} {nt : Int32} {rg : Int32} {pe : Int32} {b : Fn} {c : Fn} {o : Fn} {p : Fn} {v_ : Int32} (hk : k < 20) (o' : Nat) (_ : o' < 146) : cellOf E (sFl σ k (t, v_, nt, rg, pe, b, c, o, p)) o' = va_up (cellOf E (sFl σ k (t, hr, nt, rg, pe, b, c, o, p))) (adr k) (.inr (0, [.int t, .int v_, .int nt, .int rg, .int pe, .ref (Ez E + (adr k + 1)), .ref (Ez E + (adr k + 2)), .ref (Ez E + (adr k + 3)), .ref (Ez E + (adr k + 4))])) o' :=
  wF_g E σ 0 hk (by decide) (fun i hi hne => by match i, hi, hne with | 0, _, h => exact absurd rfl h | 1, _, _ => rfl | 2, _, _ => rfl | 3, _, _ => rfl | 4, _, _ => rfl | i + 5, h, _ => exact absurd h (by omega)) o'
theorem wF_nt {E : Ev} {σ : Sg} {k : Nat} {t : Int32} {hr : Int32} {nt : Int32} {rg : Int32} {pe : Int32} {b : Fn} {c : Fn} {o : Fn} {p : Fn} {v_ : Int32} (hk : k < 20) (o' : Nat) (_ : o' < 146) : cellOf E (sFl σ k (t, hr, v_, rg, pe, b, c, o, p)) o' = va_up (cellOf E (sFl σ k (t, hr, nt, rg, pe, b, c, o, p))) (adr k) (.inr (0, [.int t, .int hr, .int v_, .int rg, .int pe, .ref (Ez E + (adr k + 1)), .ref (Ez E + (adr k + 2)), .ref (Ez E + (adr k + 3)), .ref (Ez E + (adr k + 4))])) o' :=
  wF_g E σ 0 hk (by decide) (fun i hi hne => by match i, hi, hne with | 0, _, h => exact absurd rfl h | 1, _, _ => rfl | 2, _, _ => rfl | 3, _, _ => rfl | 4, _, _ => rfl | i + 5, h, _ => exact absurd h (by omega)) o'
theorem wF_rg {E : Ev} {σ : Sg} {k : Nat} {t : Int32} {hr : Int32} {nt : Int32} {rg : Int32} {pe : Int32} {b : Fn} {c : Fn} {o : Fn} {p : Fn} {v_ : Int32} (hk : k < 20) (o' : Nat) (_ : o' < 146) : cellOf E (sFl σ k (t, hr, nt, v_, pe, b, c, o, p)) o' = va_up (cellOf E (sFl σ k (t, hr, nt, rg, pe, b, c, o, p))) (adr k) (.inr (0, [.int t, .int hr, .int nt, .int v_, .int pe, .ref (Ez E + (adr k + 1)), .ref (Ez E + (adr k + 2)), .ref (Ez E + (adr k + 3)), .ref (Ez E + (adr k + 4))])) o' :=
  wF_g E σ 0 hk (by decide) (fun i hi hne => by match i, hi, hne with | 0, _, h => exact absurd rfl h | 1, _, _ => rfl | 2, _, _ => rfl | 3, _, _ => rfl | 4, _, _ => rfl | i + 5, h, _ => exact absurd h (by omega)) o'
theorem wF_pe {E : Ev} {σ : Sg} {k : Nat} {t : Int32} {hr : Int32} {nt : Int32} {rg : Int32} {pe : Int32} {b : Fn} {c : Fn} {o : Fn} {p : Fn} {v_ : Int32} (hk : k < 20) (o' : Nat) (_ : o' < 146) : cellOf E (sFl σ k (t, hr, nt, rg, v_, b, c, o, p)) o' = va_up (cellOf E (sFl σ k (t, hr, nt, rg, pe, b, c, o, p))) (adr k) (.inr (0, [.int t, .int hr, .int nt, .int rg, .int v_, .ref (Ez E + (adr k + 1)), .ref (Ez E + (adr k + 2)), .ref (Ez E + (adr k + 3)), .ref (Ez E + (adr k + 4))])) o' :=
  wF_g E σ 0 hk (by decide) (fun i hi hne => by match i, hi, hne with | 0, _, h => exact absurd rfl h | 1, _, _ => rfl | 2, _, _ => rfl | 3, _, _ => rfl | 4, _, _ => rfl | i + 5, h, _ => exact absurd h (by omega)) o'
theorem wF_b {E : Ev} {σ : Sg} {k : Nat} {t : Int32} {hr : Int32} {nt : Int32} {rg : Int32} {pe : Int32} {b : Fn} {c : Fn} {o : Fn} {p : Fn} {v_ : Fn} (hk : k < 20) (o' : Nat) (_ : o' < 146) : cellOf E (sFl σ k (t, hr, nt, rg, pe, v_, c, o, p)) o' = va_up (cellOf E (sFl σ k (t, hr, nt, rg, pe, b, c, o, p))) (adr k + 1) (.inl (EI E, 7, .inl v_)) o' :=
  wF_g E σ 1 hk (by decide) (fun i hi hne => by match i, hi, hne with | 0, _, _ => rfl | 1, _, h => exact absurd rfl h | 2, _, _ => rfl | 3, _, _ => rfl | 4, _, _ => rfl | i + 5, h, _ => exact absurd h (by omega)) o'
theorem wF_c {E : Ev} {σ : Sg} {k : Nat} {t : Int32} {hr : Int32} {nt : Int32} {rg : Int32} {pe : Int32} {b : Fn} {c : Fn} {o : Fn} {p : Fn} {v_ : Fn} (hk : k < 20) (o' : Nat) (_ : o' < 146) : cellOf E (sFl σ k (t, hr, nt, rg, pe, b, v_, o, p)) o' = va_up (cellOf E (sFl σ k (t, hr, nt, rg, pe, b, c, o, p))) (adr k + 2) (.inl (EI E, 7, .inl v_)) o' :=
  wF_g E σ 2 hk (by decide) (fun i hi hne => by match i, hi, hne with | 0, _, _ => rfl | 1, _, _ => rfl | 2, _, h => exact absurd rfl h | 3, _, _ => rfl | 4, _, _ => rfl | i + 5, h, _ => exact absurd h (by omega)) o'
theorem wF_o {E : Ev} {σ : Sg} {k : Nat} {t : Int32} {hr : Int32} {nt : Int32} {rg : Int32} {pe : Int32} {b : Fn} {c : Fn} {o : Fn} {p : Fn} {v_ : Fn} (hk : k < 20) (o' : Nat) (_ : o' < 146) : cellOf E (sFl σ k (t, hr, nt, rg, pe, b, c, v_, p)) o' = va_up (cellOf E (sFl σ k (t, hr, nt, rg, pe, b, c, o, p))) (adr k + 3) (.inl (EI E, 9, .inl v_)) o' :=
  wF_g E σ 3 hk (by decide) (fun i hi hne => by match i, hi, hne with | 0, _, _ => rfl | 1, _, _ => rfl | 2, _, _ => rfl | 3, _, h => exact absurd rfl h | 4, _, _ => rfl | i + 5, h, _ => exact absurd h (by omega)) o'
theorem wF_p {E : Ev} {σ : Sg} {k : Nat} {t : Int32} {hr : Int32} {nt : Int32} {rg : Int32} {pe : Int32} {b : Fn} {c : Fn} {o : Fn} {p : Fn} {v_ : Fn} (hk : k < 20) (o' : Nat) (_ : o' < 146) : cellOf E (sFl σ k (t, hr, nt, rg, pe, b, c, o, v_)) o' = va_up (cellOf E (sFl σ k (t, hr, nt, rg, pe, b, c, o, p))) (adr k + 4) (.inl (EI E, 20, .inl v_)) o' :=
  wF_g E σ 4 hk (by decide) (fun i hi hne => by match i, hi, hne with | 0, _, _ => rfl | 1, _, _ => rfl | 2, _, _ => rfl | 3, _, _ => rfl | 4, _, h => exact absurd rfl h | i + 5, h, _ => exact absurd h (by omega)) o'
theorem cPr_obj {E : Ev} {σ : Sg} {k : Nat} {sd : Int32} {du : Int32} {tr : Int32} {ps : Int32} {db : Int32} {kd : Fn} {bd : Fn} {dr : Fn} {dt : Fn} {cr : Fn} {ow : Fn} (hk : k < 2) (hF : gP σ k = (sd, du, tr, ps, db, kd, bd, dr, dt, cr, ow)) : cellOf E σ (pad k) = .inr (1, [.int sd, .int du, .int tr, .int ps, .int db, .ref (Ez E + (pad k + 1)), .ref (Ez E + (pad k + 2)), .ref (Ez E + (pad k + 3)), .ref (Ez E + (pad k + 4)), .ref (Ez E + (pad k + 5)), .ref (Ez E + (pad k + 6))]) := by
  have h := cP_at E σ hk (j := 0) (by decide)
  rw [hF] at h; exact h
theorem cPr_kd {E : Ev} {σ : Sg} {k : Nat} {sd : Int32} {du : Int32} {tr : Int32} {ps : Int32} {db : Int32} {kd : Fn} {bd : Fn} {dr : Fn} {dt : Fn} {cr : Fn} {ow : Fn} (hk : k < 2) (hF : gP σ k = (sd, du, tr, ps, db, kd, bd, dr, dt, cr, ow)) : cellOf E σ (pad k + 1) = .inl (EI E, 7, .inl kd) := by
  have h := cP_at E σ hk (j := 1) (by decide)
  rw [hF] at h; exact h
theorem cPr_bd {E : Ev} {σ : Sg} {k : Nat} {sd : Int32} {du : Int32} {tr : Int32} {ps : Int32} {db : Int32} {kd : Fn} {bd : Fn} {dr : Fn} {dt : Fn} {cr : Fn} {ow : Fn} (hk : k < 2) (hF : gP σ k = (sd, du, tr, ps, db, kd, bd, dr, dt, cr, ow)) : cellOf E σ (pad k + 2) = .inl (EI E, 7, .inl bd) := by
  have h := cP_at E σ hk (j := 2) (by decide)
  rw [hF] at h; exact h
theorem cPr_dr {E : Ev} {σ : Sg} {k : Nat} {sd : Int32} {du : Int32} {tr : Int32} {ps : Int32} {db : Int32} {kd : Fn} {bd : Fn} {dr : Fn} {dt : Fn} {cr : Fn} {ow : Fn} (hk : k < 2) (hF : gP σ k = (sd, du, tr, ps, db, kd, bd, dr, dt, cr, ow)) : cellOf E σ (pad k + 3) = .inl (EI E, 7, .inl dr) := by
  have h := cP_at E σ hk (j := 3) (by decide)
  rw [hF] at h; exact h
theorem cPr_dt {E : Ev} {σ : Sg} {k : Nat} {sd : Int32} {du : Int32} {tr : Int32} {ps : Int32} {db : Int32} {kd : Fn} {bd : Fn} {dr : Fn} {dt : Fn} {cr : Fn} {ow : Fn} (hk : k < 2) (hF : gP σ k = (sd, du, tr, ps, db, kd, bd, dr, dt, cr, ow)) : cellOf E σ (pad k + 4) = .inl (EI E, 9, .inl dt) := by
  have h := cP_at E σ hk (j := 4) (by decide)
  rw [hF] at h; exact h
theorem cPr_cr {E : Ev} {σ : Sg} {k : Nat} {sd : Int32} {du : Int32} {tr : Int32} {ps : Int32} {db : Int32} {kd : Fn} {bd : Fn} {dr : Fn} {dt : Fn} {cr : Fn} {ow : Fn} (hk : k < 2) (hF : gP σ k = (sd, du, tr, ps, db, kd, bd, dr, dt, cr, ow)) : cellOf E σ (pad k + 5) = .inl (EI E, 9, .inl cr) := by
  have h := cP_at E σ hk (j := 5) (by decide)
  rw [hF] at h; exact h
theorem cPr_ow {E : Ev} {σ : Sg} {k : Nat} {sd : Int32} {du : Int32} {tr : Int32} {ps : Int32} {db : Int32} {kd : Fn} {bd : Fn} {dr : Fn} {dt : Fn} {cr : Fn} {ow : Fn} (hk : k < 2) (hF : gP σ k = (sd, du, tr, ps, db, kd, bd, dr, dt, cr, ow)) : cellOf E σ (pad k + 6) = .inl (EI E, 9, .inl ow) := by
  have h := cP_at E σ hk (j := 6) (by decide)
  rw [hF] at h; exact h
theorem wP_sd {E : Ev} {σ : Sg} {k : Nat} {sd : Int32} {du : Int32} {tr : Int32} {ps : Int32} {db : Int32} {kd : Fn} {bd : Fn} {dr : Fn} {dt : Fn} {cr : Fn} {ow : Fn} {v_ : Int32} (hk : k < 2) (o' : Nat) (_ : o' < 146) : cellOf E (sPar σ k (v_, du, tr, ps, db, kd, bd, dr, dt, cr, ow)) o' = va_up (cellOf E (sPar σ k (sd, du, tr, ps, db, kd, bd, dr, dt, cr, ow))) (pad k) (.inr (1, [.int v_, .int du, .int tr, .int ps, .int db, .ref (Ez E + (pad k + 1)), .ref (Ez E + (pad k + 2)), .ref (Ez E + (pad k + 3)), .ref (Ez E + (pad k + 4)), .ref (Ez E + (pad k + 5)), .ref (Ez E + (pad k + 6))])) o' :=
  wP_g E σ 0 hk (by decide) (fun i hi hne => by match i, hi, hne with | 0, _, h => exact absurd rfl h | 1, _, _ => rfl | 2, _, _ => rfl | 3, _, _ => rfl | 4, _, _ => rfl | 5, _, _ => rfl | 6, _, _ => rfl | i + 7, h, _ => exact absurd h (by omega)) o'
theorem wP_du {E : Ev} {σ : Sg} {k : Nat} {sd : Int32} {du : Int32} {tr : Int32} {ps : Int32} {db : Int32} {kd : Fn} {bd : Fn} {dr : Fn} {dt : Fn} {cr : Fn} {ow : Fn} {v_ : Int32} (hk : k < 2) (o' : Nat) (_ : o' < 146) : cellOf E (sPar σ k (sd, v_, tr, ps, db, kd, bd, dr, dt, cr, ow)) o' = va_up (cellOf E (sPar σ k (sd, du, tr, ps, db, kd, bd, dr, dt, cr, ow))) (pad k) (.inr (1, [.int sd, .int v_, .int tr, .int ps, .int db, .ref (Ez E + (pad k + 1)), .ref (Ez E + (pad k + 2)), .ref (Ez E + (pad k + 3)), .ref (Ez E + (pad k + 4)), .ref (Ez E + (pad k + 5)), .ref (Ez E + (pad k + 6))])) o' :=
  wP_g E σ 0 hk (by decide) (fun i hi hne => by match i, hi, hne with | 0, _, h => exact absurd rfl h | 1, _, _ => rfl | 2, _, _ => rfl | 3, _, _ => rfl | 4, _, _ => rfl | 5, _, _ => rfl | 6, _, _ => rfl | i + 7, h, _ => exact absurd h (by omega)) o'
theorem wP_tr {E : Ev} {σ : Sg} {k : Nat} {sd : Int32} {du : Int32} {tr : Int32} {ps : Int32} {db : Int32} {kd : Fn} {bd : Fn} {dr : Fn} {dt : Fn} {cr : Fn} {ow : Fn} {v_ : Int32} (hk : k < 2) (o' : Nat) (_ : o' < 146) : cellOf E (sPar σ k (sd, du, v_, ps, db, kd, bd, dr, dt, cr, ow)) o' = va_up (cellOf E (sPar σ k (sd, du, tr, ps, db, kd, bd, dr, dt, cr, ow))) (pad k) (.inr (1, [.int sd, .int du, .int v_, .int ps, .int db, .ref (Ez E + (pad k + 1)), .ref (Ez E + (pad k + 2)), .ref (Ez E + (pad k + 3)), .ref (Ez E + (pad k + 4)), .ref (Ez E + (pad k + 5)), .ref (Ez E + (pad k + 6))])) o' :=
  wP_g E σ 0 hk (by decide) (fun i hi hne => by match i, hi, hne with | 0, _, h => exact absurd rfl h | 1, _, _ => rfl | 2, _, _ => rfl | 3, _, _ => rfl | 4, _, _ => rfl | 5, _, _ => rfl | 6, _, _ => rfl | i + 7, h, _ => exact absurd h (by omega)) o'
theorem wP_ps {E : Ev} {σ : Sg} {k : Nat} {sd : Int32} {du : Int32} {tr : Int32} {ps : Int32} {db : Int32} {kd : Fn} {bd : Fn} {dr : Fn} {dt : Fn} {cr : Fn} {ow : Fn} {v_ : Int32} (hk : k < 2) (o' : Nat) (_ : o' < 146) : cellOf E (sPar σ k (sd, du, tr, v_, db, kd, bd, dr, dt, cr, ow)) o' = va_up (cellOf E (sPar σ k (sd, du, tr, ps, db, kd, bd, dr, dt, cr, ow))) (pad k) (.inr (1, [.int sd, .int du, .int tr, .int v_, .int db, .ref (Ez E + (pad k + 1)), .ref (Ez E + (pad k + 2)), .ref (Ez E + (pad k + 3)), .ref (Ez E + (pad k + 4)), .ref (Ez E + (pad k + 5)), .ref (Ez E + (pad k + 6))])) o' :=
  wP_g E σ 0 hk (by decide) (fun i hi hne => by match i, hi, hne with | 0, _, h => exact absurd rfl h | 1, _, _ => rfl | 2, _, _ => rfl | 3, _, _ => rfl | 4, _, _ => rfl | 5, _, _ => rfl | 6, _, _ => rfl | i + 7, h, _ => exact absurd h (by omega)) o'
theorem wP_db {E : Ev} {σ : Sg} {k : Nat} {sd : Int32} {du : Int32} {tr : Int32} {ps : Int32} {db : Int32} {kd : Fn} {bd : Fn} {dr : Fn} {dt : Fn} {cr : Fn} {ow : Fn} {v_ : Int32} (hk : k < 2) (o' : Nat) (_ : o' < 146) : cellOf E (sPar σ k (sd, du, tr, ps, v_, kd, bd, dr, dt, cr, ow)) o' = va_up (cellOf E (sPar σ k (sd, du, tr, ps, db, kd, bd, dr, dt, cr, ow))) (pad k) (.inr (1, [.int sd, .int du, .int tr, .int ps, .int v_, .ref (Ez E + (pad k + 1)), .ref (Ez E + (pad k + 2)), .ref (Ez E + (pad k + 3)), .ref (Ez E + (pad k + 4)), .ref (Ez E + (pad k + 5)), .ref (Ez E + (pad k + 6))])) o' :=
  wP_g E σ 0 hk (by decide) (fun i hi hne => by match i, hi, hne with | 0, _, h => exact absurd rfl h | 1, _, _ => rfl | 2, _, _ => rfl | 3, _, _ => rfl | 4, _, _ => rfl | 5, _, _ => rfl | 6, _, _ => rfl | i + 7, h, _ => exact absurd h (by omega)) o'
theorem wP_kd {E : Ev} {σ : Sg} {k : Nat} {sd : Int32} {du : Int32} {tr : Int32} {ps : Int32} {db : Int32} {kd : Fn} {bd : Fn} {dr : Fn} {dt : Fn} {cr : Fn} {ow : Fn} {v_ : Fn} (hk : k < 2) (o' : Nat) (_ : o' < 146) : cellOf E (sPar σ k (sd, du, tr, ps, db, v_, bd, dr, dt, cr, ow)) o' = va_up (cellOf E (sPar σ k (sd, du, tr, ps, db, kd, bd, dr, dt, cr, ow))) (pad k + 1) (.inl (EI E, 7, .inl v_)) o' :=
  wP_g E σ 1 hk (by decide) (fun i hi hne => by match i, hi, hne with | 0, _, _ => rfl | 1, _, h => exact absurd rfl h | 2, _, _ => rfl | 3, _, _ => rfl | 4, _, _ => rfl | 5, _, _ => rfl | 6, _, _ => rfl | i + 7, h, _ => exact absurd h (by omega)) o'
theorem wP_bd {E : Ev} {σ : Sg} {k : Nat} {sd : Int32} {du : Int32} {tr : Int32} {ps : Int32} {db : Int32} {kd : Fn} {bd : Fn} {dr : Fn} {dt : Fn} {cr : Fn} {ow : Fn} {v_ : Fn} (hk : k < 2) (o' : Nat) (_ : o' < 146) : cellOf E (sPar σ k (sd, du, tr, ps, db, kd, v_, dr, dt, cr, ow)) o' = va_up (cellOf E (sPar σ k (sd, du, tr, ps, db, kd, bd, dr, dt, cr, ow))) (pad k + 2) (.inl (EI E, 7, .inl v_)) o' :=
  wP_g E σ 2 hk (by decide) (fun i hi hne => by match i, hi, hne with | 0, _, _ => rfl | 1, _, _ => rfl | 2, _, h => exact absurd rfl h | 3, _, _ => rfl | 4, _, _ => rfl | 5, _, _ => rfl | 6, _, _ => rfl | i + 7, h, _ => exact absurd h (by omega)) o'
theorem wP_dr {E : Ev} {σ : Sg} {k : Nat} {sd : Int32} {du : Int32} {tr : Int32} {ps : Int32} {db : Int32} {kd : Fn} {bd : Fn} {dr : Fn} {dt : Fn} {cr : Fn} {ow : Fn} {v_ : Fn} (hk : k < 2) (o' : Nat) (_ : o' < 146) : cellOf E (sPar σ k (sd, du, tr, ps, db, kd, bd, v_, dt, cr, ow)) o' = va_up (cellOf E (sPar σ k (sd, du, tr, ps, db, kd, bd, dr, dt, cr, ow))) (pad k + 3) (.inl (EI E, 7, .inl v_)) o' :=
  wP_g E σ 3 hk (by decide) (fun i hi hne => by match i, hi, hne with | 0, _, _ => rfl | 1, _, _ => rfl | 2, _, _ => rfl | 3, _, h => exact absurd rfl h | 4, _, _ => rfl | 5, _, _ => rfl | 6, _, _ => rfl | i + 7, h, _ => exact absurd h (by omega)) o'
theorem wP_dt {E : Ev} {σ : Sg} {k : Nat} {sd : Int32} {du : Int32} {tr : Int32} {ps : Int32} {db : Int32} {kd : Fn} {bd : Fn} {dr : Fn} {dt : Fn} {cr : Fn} {ow : Fn} {v_ : Fn} (hk : k < 2) (o' : Nat) (_ : o' < 146) : cellOf E (sPar σ k (sd, du, tr, ps, db, kd, bd, dr, v_, cr, ow)) o' = va_up (cellOf E (sPar σ k (sd, du, tr, ps, db, kd, bd, dr, dt, cr, ow))) (pad k + 4) (.inl (EI E, 9, .inl v_)) o' :=
  wP_g E σ 4 hk (by decide) (fun i hi hne => by match i, hi, hne with | 0, _, _ => rfl | 1, _, _ => rfl | 2, _, _ => rfl | 3, _, _ => rfl | 4, _, h => exact absurd rfl h | 5, _, _ => rfl | 6, _, _ => rfl | i + 7, h, _ => exact absurd h (by omega)) o'
theorem wP_cr {E : Ev} {σ : Sg} {k : Nat} {sd : Int32} {du : Int32} {tr : Int32} {ps : Int32} {db : Int32} {kd : Fn} {bd : Fn} {dr : Fn} {dt : Fn} {cr : Fn} {ow : Fn} {v_ : Fn} (hk : k < 2) (o' : Nat) (_ : o' < 146) : cellOf E (sPar σ k (sd, du, tr, ps, db, kd, bd, dr, dt, v_, ow)) o' = va_up (cellOf E (sPar σ k (sd, du, tr, ps, db, kd, bd, dr, dt, cr, ow))) (pad k + 5) (.inl (EI E, 9, .inl v_)) o' :=
  wP_g E σ 5 hk (by decide) (fun i hi hne => by match i, hi, hne with | 0, _, _ => rfl | 1, _, _ => rfl | 2, _, _ => rfl | 3, _, _ => rfl | 4, _, _ => rfl | 5, _, h => exact absurd rfl h | 6, _, _ => rfl | i + 7, h, _ => exact absurd h (by omega)) o'
theorem wP_ow {E : Ev} {σ : Sg} {k : Nat} {sd : Int32} {du : Int32} {tr : Int32} {ps : Int32} {db : Int32} {kd : Fn} {bd : Fn} {dr : Fn} {dt : Fn} {cr : Fn} {ow : Fn} {v_ : Fn} (hk : k < 2) (o' : Nat) (_ : o' < 146) : cellOf E (sPar σ k (sd, du, tr, ps, db, kd, bd, dr, dt, cr, v_)) o' = va_up (cellOf E (sPar σ k (sd, du, tr, ps, db, kd, bd, dr, dt, cr, ow))) (pad k + 6) (.inl (EI E, 9, .inl v_)) o' :=
  wP_g E σ 6 hk (by decide) (fun i hi hne => by match i, hi, hne with | 0, _, _ => rfl | 1, _, _ => rfl | 2, _, _ => rfl | 3, _, _ => rfl | 4, _, _ => rfl | 5, _, _ => rfl | 6, _, h => exact absurd rfl h | i + 7, h, _ => exact absurd h (by omega)) o'
theorem cTr_obj {E : Ev} {σ : Sg} {lt : Fn} {ln : Int32} {fa : Int32} {fn : Int32} {ap : Int32} {na : Int32} (hF : gT σ = (lt, ln, fa, fn, ap, na)) : cellOf E σ (1) = .inr (5, [.ref (Ez E + (1 + 1)), .int ln, .int fa, .int fn, .int ap, .int na]) := by
  have h := cT_at E σ (j := 0) (by decide)
  rw [hF] at h; exact h
theorem cTr_lt {E : Ev} {σ : Sg} {lt : Fn} {ln : Int32} {fa : Int32} {fn : Int32} {ap : Int32} {na : Int32} (hF : gT σ = (lt, ln, fa, fn, ap, na)) : cellOf E σ (1 + 1) = .inl (EI E, 240, .inl lt) := by
  have h := cT_at E σ (j := 1) (by decide)
  rw [hF] at h; exact h
theorem wT_lt {E : Ev} {σ : Sg} {lt : Fn} {ln : Int32} {fa : Int32} {fn : Int32} {ap : Int32} {na : Int32} {v_ : Fn} (o' : Nat) (_ : o' < 146) : cellOf E (sTx σ (v_, ln, fa, fn, ap, na)) o' = va_up (cellOf E (sTx σ (lt, ln, fa, fn, ap, na))) (1 + 1) (.inl (EI E, 240, .inl v_)) o' :=
  wT_g E σ 1 (by decide) (fun i hi hne => by match i, hi, hne with | 0, _, _ => rfl | 1, _, h => exact absurd rfl h | i + 2, h, _ => exact absurd h (by omega)) o'
theorem wT_ln {E : Ev} {σ : Sg} {lt : Fn} {ln : Int32} {fa : Int32} {fn : Int32} {ap : Int32} {na : Int32} {v_ : Int32} (o' : Nat) (_ : o' < 146) : cellOf E (sTx σ (lt, v_, fa, fn, ap, na)) o' = va_up (cellOf E (sTx σ (lt, ln, fa, fn, ap, na))) (1) (.inr (5, [.ref (Ez E + (1 + 1)), .int v_, .int fa, .int fn, .int ap, .int na])) o' :=
  wT_g E σ 0 (by decide) (fun i hi hne => by match i, hi, hne with | 0, _, h => exact absurd rfl h | 1, _, _ => rfl | i + 2, h, _ => exact absurd h (by omega)) o'
theorem wT_fa {E : Ev} {σ : Sg} {lt : Fn} {ln : Int32} {fa : Int32} {fn : Int32} {ap : Int32} {na : Int32} {v_ : Int32} (o' : Nat) (_ : o' < 146) : cellOf E (sTx σ (lt, ln, v_, fn, ap, na)) o' = va_up (cellOf E (sTx σ (lt, ln, fa, fn, ap, na))) (1) (.inr (5, [.ref (Ez E + (1 + 1)), .int ln, .int v_, .int fn, .int ap, .int na])) o' :=
  wT_g E σ 0 (by decide) (fun i hi hne => by match i, hi, hne with | 0, _, h => exact absurd rfl h | 1, _, _ => rfl | i + 2, h, _ => exact absurd h (by omega)) o'
theorem wT_fn {E : Ev} {σ : Sg} {lt : Fn} {ln : Int32} {fa : Int32} {fn : Int32} {ap : Int32} {na : Int32} {v_ : Int32} (o' : Nat) (_ : o' < 146) : cellOf E (sTx σ (lt, ln, fa, v_, ap, na)) o' = va_up (cellOf E (sTx σ (lt, ln, fa, fn, ap, na))) (1) (.inr (5, [.ref (Ez E + (1 + 1)), .int ln, .int fa, .int v_, .int ap, .int na])) o' :=
  wT_g E σ 0 (by decide) (fun i hi hne => by match i, hi, hne with | 0, _, h => exact absurd rfl h | 1, _, _ => rfl | i + 2, h, _ => exact absurd h (by omega)) o'
theorem wT_ap {E : Ev} {σ : Sg} {lt : Fn} {ln : Int32} {fa : Int32} {fn : Int32} {ap : Int32} {na : Int32} {v_ : Int32} (o' : Nat) (_ : o' < 146) : cellOf E (sTx σ (lt, ln, fa, fn, v_, na)) o' = va_up (cellOf E (sTx σ (lt, ln, fa, fn, ap, na))) (1) (.inr (5, [.ref (Ez E + (1 + 1)), .int ln, .int fa, .int fn, .int v_, .int na])) o' :=
  wT_g E σ 0 (by decide) (fun i hi hne => by match i, hi, hne with | 0, _, h => exact absurd rfl h | 1, _, _ => rfl | i + 2, h, _ => exact absurd h (by omega)) o'
theorem wT_na {E : Ev} {σ : Sg} {lt : Fn} {ln : Int32} {fa : Int32} {fn : Int32} {ap : Int32} {na : Int32} {v_ : Int32} (o' : Nat) (_ : o' < 146) : cellOf E (sTx σ (lt, ln, fa, fn, ap, v_)) o' = va_up (cellOf E (sTx σ (lt, ln, fa, fn, ap, na))) (1) (.inr (5, [.ref (Ez E + (1 + 1)), .int ln, .int fa, .int fn, .int ap, .int v_])) o' :=
  wT_g E σ 0 (by decide) (fun i hi hne => by match i, hi, hne with | 0, _, h => exact absurd rfl h | 1, _, _ => rfl | i + 2, h, _ => exact absurd h (by omega)) o'
theorem cSr_obj {E : Ev} {σ : Sg} {wa : Fn} {df : Fn} {wf : Fn} {ep : Fn} {eb : Fn} {ws : Int32} {fs : Int32} {es : Int32} (hF : gS σ = (wa, df, wf, ep, eb, ws, fs, es)) : cellOf E σ (115) = .inr (3, [.ref (Ez E + (115 + 1)), .ref (Ez E + (115 + 2)), .ref (Ez E + (115 + 3)), .ref (Ez E + (115 + 4)), .ref (Ez E + (115 + 5)), .int ws, .int fs, .int es]) := by
  have h := cS_at E σ (j := 0) (by decide)
  rw [hF] at h; exact h
theorem cSr_wa {E : Ev} {σ : Sg} {wa : Fn} {df : Fn} {wf : Fn} {ep : Fn} {eb : Fn} {ws : Int32} {fs : Int32} {es : Int32} (hF : gS σ = (wa, df, wf, ep, eb, ws, fs, es)) : cellOf E σ (115 + 1) = .inl (EI E, 6, .inl wa) := by
  have h := cS_at E σ (j := 1) (by decide)
  rw [hF] at h; exact h
theorem cSr_df {E : Ev} {σ : Sg} {wa : Fn} {df : Fn} {wf : Fn} {ep : Fn} {eb : Fn} {ws : Int32} {fs : Int32} {es : Int32} (hF : gS σ = (wa, df, wf, ep, eb, ws, fs, es)) : cellOf E σ (115 + 2) = .inl (EI E, 6, .inl df) := by
  have h := cS_at E σ (j := 2) (by decide)
  rw [hF] at h; exact h
theorem cSr_wf {E : Ev} {σ : Sg} {wa : Fn} {df : Fn} {wf : Fn} {ep : Fn} {eb : Fn} {ws : Int32} {fs : Int32} {es : Int32} (hF : gS σ = (wa, df, wf, ep, eb, ws, fs, es)) : cellOf E σ (115 + 3) = .inl (EZ E, 6, .inl wf) := by
  have h := cS_at E σ (j := 3) (by decide)
  rw [hF] at h; exact h
theorem cSr_ep {E : Ev} {σ : Sg} {wa : Fn} {df : Fn} {wf : Fn} {ep : Fn} {eb : Fn} {ws : Int32} {fs : Int32} {es : Int32} (hF : gS σ = (wa, df, wf, ep, eb, ws, fs, es)) : cellOf E σ (115 + 4) = .inl (EI E, 15, .inl ep) := by
  have h := cS_at E σ (j := 4) (by decide)
  rw [hF] at h; exact h
theorem cSr_eb {E : Ev} {σ : Sg} {wa : Fn} {df : Fn} {wf : Fn} {ep : Fn} {eb : Fn} {ws : Int32} {fs : Int32} {es : Int32} (hF : gS σ = (wa, df, wf, ep, eb, ws, fs, es)) : cellOf E σ (115 + 5) = .inl (EI E, 15, .inl eb) := by
  have h := cS_at E σ (j := 5) (by decide)
  rw [hF] at h; exact h
theorem wS_wa {E : Ev} {σ : Sg} {wa : Fn} {df : Fn} {wf : Fn} {ep : Fn} {eb : Fn} {ws : Int32} {fs : Int32} {es : Int32} {v_ : Fn} (o' : Nat) (_ : o' < 146) : cellOf E (sSe σ (v_, df, wf, ep, eb, ws, fs, es)) o' = va_up (cellOf E (sSe σ (wa, df, wf, ep, eb, ws, fs, es))) (115 + 1) (.inl (EI E, 6, .inl v_)) o' :=
  wS_g E σ 1 (by decide) (fun i hi hne => by match i, hi, hne with | 0, _, _ => rfl | 1, _, h => exact absurd rfl h | 2, _, _ => rfl | 3, _, _ => rfl | 4, _, _ => rfl | 5, _, _ => rfl | i + 6, h, _ => exact absurd h (by omega)) o'
theorem wS_df {E : Ev} {σ : Sg} {wa : Fn} {df : Fn} {wf : Fn} {ep : Fn} {eb : Fn} {ws : Int32} {fs : Int32} {es : Int32} {v_ : Fn} (o' : Nat) (_ : o' < 146) : cellOf E (sSe σ (wa, v_, wf, ep, eb, ws, fs, es)) o' = va_up (cellOf E (sSe σ (wa, df, wf, ep, eb, ws, fs, es))) (115 + 2) (.inl (EI E, 6, .inl v_)) o' :=
  wS_g E σ 2 (by decide) (fun i hi hne => by match i, hi, hne with | 0, _, _ => rfl | 1, _, _ => rfl | 2, _, h => exact absurd rfl h | 3, _, _ => rfl | 4, _, _ => rfl | 5, _, _ => rfl | i + 6, h, _ => exact absurd h (by omega)) o'
theorem wS_wf {E : Ev} {σ : Sg} {wa : Fn} {df : Fn} {wf : Fn} {ep : Fn} {eb : Fn} {ws : Int32} {fs : Int32} {es : Int32} {v_ : Fn} (o' : Nat) (_ : o' < 146) : cellOf E (sSe σ (wa, df, v_, ep, eb, ws, fs, es)) o' = va_up (cellOf E (sSe σ (wa, df, wf, ep, eb, ws, fs, es))) (115 + 3) (.inl (EZ E, 6, .inl v_)) o' :=
  wS_g E σ 3 (by decide) (fun i hi hne => by match i, hi, hne with | 0, _, _ => rfl | 1, _, _ => rfl | 2, _, _ => rfl | 3, _, h => exact absurd rfl h | 4, _, _ => rfl | 5, _, _ => rfl | i + 6, h, _ => exact absurd h (by omega)) o'
theorem wS_ep {E : Ev} {σ : Sg} {wa : Fn} {df : Fn} {wf : Fn} {ep : Fn} {eb : Fn} {ws : Int32} {fs : Int32} {es : Int32} {v_ : Fn} (o' : Nat) (_ : o' < 146) : cellOf E (sSe σ (wa, df, wf, v_, eb, ws, fs, es)) o' = va_up (cellOf E (sSe σ (wa, df, wf, ep, eb, ws, fs, es))) (115 + 4) (.inl (EI E, 15, .inl v_)) o' :=
  wS_g E σ 4 (by decide) (fun i hi hne => by match i, hi, hne with | 0, _, _ => rfl | 1, _, _ => rfl | 2, _, _ => rfl | 3, _, _ => rfl | 4, _, h => exact absurd rfl h | 5, _, _ => rfl | i + 6, h, _ => exact absurd h (by omega)) o'
theorem wS_eb {E : Ev} {σ : Sg} {wa : Fn} {df : Fn} {wf : Fn} {ep : Fn} {eb : Fn} {ws : Int32} {fs : Int32} {es : Int32} {v_ : Fn} (o' : Nat) (_ : o' < 146) : cellOf E (sSe σ (wa, df, wf, ep, v_, ws, fs, es)) o' = va_up (cellOf E (sSe σ (wa, df, wf, ep, eb, ws, fs, es))) (115 + 5) (.inl (EI E, 15, .inl v_)) o' :=
  wS_g E σ 5 (by decide) (fun i hi hne => by match i, hi, hne with | 0, _, _ => rfl | 1, _, _ => rfl | 2, _, _ => rfl | 3, _, _ => rfl | 4, _, _ => rfl | 5, _, h => exact absurd rfl h | i + 6, h, _ => exact absurd h (by omega)) o'
theorem wS_ws {E : Ev} {σ : Sg} {wa : Fn} {df : Fn} {wf : Fn} {ep : Fn} {eb : Fn} {ws : Int32} {fs : Int32} {es : Int32} {v_ : Int32} (o' : Nat) (_ : o' < 146) : cellOf E (sSe σ (wa, df, wf, ep, eb, v_, fs, es)) o' = va_up (cellOf E (sSe σ (wa, df, wf, ep, eb, ws, fs, es))) (115) (.inr (3, [.ref (Ez E + (115 + 1)), .ref (Ez E + (115 + 2)), .ref (Ez E + (115 + 3)), .ref (Ez E + (115 + 4)), .ref (Ez E + (115 + 5)), .int v_, .int fs, .int es])) o' :=
  wS_g E σ 0 (by decide) (fun i hi hne => by match i, hi, hne with | 0, _, h => exact absurd rfl h | 1, _, _ => rfl | 2, _, _ => rfl | 3, _, _ => rfl | 4, _, _ => rfl | 5, _, _ => rfl | i + 6, h, _ => exact absurd h (by omega)) o'
theorem wS_fs {E : Ev} {σ : Sg} {wa : Fn} {df : Fn} {wf : Fn} {ep : Fn} {eb : Fn} {ws : Int32} {fs : Int32} {es : Int32} {v_ : Int32} (o' : Nat) (_ : o' < 146) : cellOf E (sSe σ (wa, df, wf, ep, eb, ws, v_, es)) o' = va_up (cellOf E (sSe σ (wa, df, wf, ep, eb, ws, fs, es))) (115) (.inr (3, [.ref (Ez E + (115 + 1)), .ref (Ez E + (115 + 2)), .ref (Ez E + (115 + 3)), .ref (Ez E + (115 + 4)), .ref (Ez E + (115 + 5)), .int ws, .int v_, .int es])) o' :=
  wS_g E σ 0 (by decide) (fun i hi hne => by match i, hi, hne with | 0, _, h => exact absurd rfl h | 1, _, _ => rfl | 2, _, _ => rfl | 3, _, _ => rfl | 4, _, _ => rfl | 5, _, _ => rfl | i + 6, h, _ => exact absurd h (by omega)) o'
theorem wS_es {E : Ev} {σ : Sg} {wa : Fn} {df : Fn} {wf : Fn} {ep : Fn} {eb : Fn} {ws : Int32} {fs : Int32} {es : Int32} {v_ : Int32} (o' : Nat) (_ : o' < 146) : cellOf E (sSe σ (wa, df, wf, ep, eb, ws, fs, v_)) o' = va_up (cellOf E (sSe σ (wa, df, wf, ep, eb, ws, fs, es))) (115) (.inr (3, [.ref (Ez E + (115 + 1)), .ref (Ez E + (115 + 2)), .ref (Ez E + (115 + 3)), .ref (Ez E + (115 + 4)), .ref (Ez E + (115 + 5)), .int ws, .int fs, .int v_])) o' :=
  wS_g E σ 0 (by decide) (fun i hi hne => by match i, hi, hne with | 0, _, h => exact absurd rfl h | 1, _, _ => rfl | 2, _, _ => rfl | 3, _, _ => rfl | 4, _, _ => rfl | 5, _, _ => rfl | i + 6, h, _ => exact absurd h (by omega)) o'
theorem cLr_obj {E : Ev} {σ : Sg} {ht : Fn} {be : Fn} (hF : gL σ = (ht, be)) : cellOf E σ (112) = .inr (4, [.ref (Ez E + (112 + 1)), .ref (Ez E + (112 + 2))]) := by
  have h := cL_at E σ (j := 0) (by decide)
  rw [hF] at h; exact h
theorem cLr_ht {E : Ev} {σ : Sg} {ht : Fn} {be : Fn} (hF : gL σ = (ht, be)) : cellOf E σ (112 + 1) = .inl (EI E, 7, .inl ht) := by
  have h := cL_at E σ (j := 1) (by decide)
  rw [hF] at h; exact h
theorem cLr_be {E : Ev} {σ : Sg} {ht : Fn} {be : Fn} (hF : gL σ = (ht, be)) : cellOf E σ (112 + 2) = .inl (EI E, 512, .inl be) := by
  have h := cL_at E σ (j := 2) (by decide)
  rw [hF] at h; exact h
theorem wL_ht {E : Ev} {σ : Sg} {ht : Fn} {be : Fn} {v_ : Fn} (o' : Nat) (_ : o' < 146) : cellOf E (sSt σ (v_, be)) o' = va_up (cellOf E (sSt σ (ht, be))) (112 + 1) (.inl (EI E, 7, .inl v_)) o' :=
  wL_g E σ 1 (by decide) (fun i hi hne => by match i, hi, hne with | 0, _, _ => rfl | 1, _, h => exact absurd rfl h | 2, _, _ => rfl | i + 3, h, _ => exact absurd h (by omega)) o'
theorem wL_be {E : Ev} {σ : Sg} {ht : Fn} {be : Fn} {v_ : Fn} (o' : Nat) (_ : o' < 146) : cellOf E (sSt σ (ht, v_)) o' = va_up (cellOf E (sSt σ (ht, be))) (112 + 2) (.inl (EI E, 512, .inl v_)) o' :=
  wL_g E σ 2 (by decide) (fun i hi hne => by match i, hi, hne with | 0, _, _ => rfl | 1, _, _ => rfl | 2, _, h => exact absurd rfl h | i + 3, h, _ => exact absurd h (by omega)) o'
theorem cQr_obj {E : Ev} {σ : Sg} {nx sz : Int32} (hF : gQ σ = (nx, sz)) : cellOf E σ 27 = .inr (2, [.ref (Ez E + 28), .int nx, .int sz]) := by
  have h := cQ_at E σ (j := 0) (by decide)
  rw [hF] at h; exact h
theorem cQr_f {E : Ev} {σ : Sg} : cellOf E σ 28 = .inl (EF E, 16, .inr (.inr (.inr (.inr (fun i => if i < 16 then some (Ez E + adr (2 + i)) else none))))) := cQ_at E σ (j := 1) (by decide)
theorem wQ_nx {E : Ev} {σ : Sg} {nx sz v_ : Int32} (o' : Nat) (_ : o' < 146) : cellOf E (sPa σ (v_, sz)) o' = va_up (cellOf E (sPa σ (nx, sz))) 27 (.inr (2, [.ref (Ez E + 28), .int v_, .int sz])) o' := by
  by_cases he : o' = 27
  · subst he; rw [va_up_self]; exact cQr_obj rfl
  · rw [va_up_ne _ _ he]
    by_cases h2 : o' = 28
    · subst h2; rw [cQr_f, cQr_f]
    · exact (cQ_out E σ _ (by omega)).trans (cQ_out E σ _ (by omega)).symm
theorem wQ_sz {E : Ev} {σ : Sg} {nx sz v_ : Int32} (o' : Nat) (_ : o' < 146) : cellOf E (sPa σ (nx, v_)) o' = va_up (cellOf E (sPa σ (nx, sz))) 27 (.inr (2, [.ref (Ez E + 28), .int nx, .int v_])) o' := by
  by_cases he : o' = 27
  · subst he; rw [va_up_self]; exact cQr_obj rfl
  · rw [va_up_ne _ _ he]
    by_cases h2 : o' = 28
    · subst h2; rw [cQr_f, cQr_f]
    · exact (cQ_out E σ _ (by omega)).trans (cQ_out E σ _ (by omega)).symm
theorem cUr_obj {E : Ev} {σ : Sg} {hj dj : Nat} {se : Int32} {is it oo : Fn} (hF : gU σ = (hj, dj, se, is, it, oo)) : cellOf E σ 0 = .inr (6, [.ref (Ez E + 1), .ref (Ez E + pad hj), .ref (Ez E + pad dj), .ref (Ez E + adr 0), .ref (Ez E + adr 1), .ref (Ez E + 27), .ref (Ez E + 109), .ref (Ez E + 110), .ref (Ez E + 111), .ref (Ez E + 112), .ref (Ez E + 115), .ref (Ez E + 121), .int se]) := by rw [cU_at, hF]; rfl
theorem cUr_im {E : Ev} {σ : Sg} : cellOf E σ 109 = .inl (EF E, 2, .inr (.inr (.inr (.inr (fun i => if i < 2 then some (Ez E + adr (18 + i)) else none))))) := cI_at E σ (j := 0) (by decide)
theorem cUr_is {E : Ev} {σ : Sg} {hj dj : Nat} {se : Int32} {is it oo : Fn} (hF : gU σ = (hj, dj, se, is, it, oo)) : cellOf E σ 110 = .inl (EI E, 2, .inl is) := by have h := cI_at E σ (j := 1) (by decide); rw [hF] at h; exact h
theorem cUr_it {E : Ev} {σ : Sg} {hj dj : Nat} {se : Int32} {is it oo : Fn} (hF : gU σ = (hj, dj, se, is, it, oo)) : cellOf E σ 111 = .inl (EZ E, 2, .inl it) := by have h := cI_at E σ (j := 2) (by decide); rw [hF] at h; exact h
theorem cUr_oo {E : Ev} {σ : Sg} {hj dj : Nat} {se : Int32} {is it oo : Fn} (hF : gU σ = (hj, dj, se, is, it, oo)) : cellOf E σ 121 = .inl (EI E, 7, .inl oo) := by rw [cO_at, hF]

theorem wU_hj {E : Ev} {σ : Sg} {hj dj : Nat} {se : Int32} {is it oo : Fn} {v_ : Nat} (o' : Nat) (_ : o' < 146) : cellOf E (sU σ (v_, dj, se, is, it, oo)) o' = va_up (cellOf E (sU σ (hj, dj, se, is, it, oo))) 0 (.inr (6, [.ref (Ez E + 1), .ref (Ez E + pad v_), .ref (Ez E + pad dj), .ref (Ez E + adr 0), .ref (Ez E + adr 1), .ref (Ez E + 27), .ref (Ez E + 109), .ref (Ez E + 110), .ref (Ez E + 111), .ref (Ez E + 112), .ref (Ez E + 115), .ref (Ez E + 121), .int se])) o' := by
  by_cases he : o' = 0
  · subst he; rw [va_up_self]; exact cUr_obj rfl
  · rw [va_up_ne _ _ he]
    by_cases h109 : o' = 109
    · subst h109; rw [cUr_im, cUr_im]
    by_cases h110 : o' = 110
    · subst h110; rw [cUr_is (σ := sU σ (v_, dj, se, is, it, oo)) rfl, cUr_is (σ := sU σ (hj, dj, se, is, it, oo)) rfl]
    by_cases h111 : o' = 111
    · subst h111; rw [cUr_it (σ := sU σ (v_, dj, se, is, it, oo)) rfl, cUr_it (σ := sU σ (hj, dj, se, is, it, oo)) rfl]
    by_cases h121 : o' = 121
    · subst h121; rw [cUr_oo (σ := sU σ (v_, dj, se, is, it, oo)) rfl, cUr_oo (σ := sU σ (hj, dj, se, is, it, oo)) rfl]
    exact (cU_out E σ _ (by omega)).trans (cU_out E σ _ (by omega)).symm
theorem wU_dj {E : Ev} {σ : Sg} {hj dj : Nat} {se : Int32} {is it oo : Fn} {v_ : Nat} (o' : Nat) (_ : o' < 146) : cellOf E (sU σ (hj, v_, se, is, it, oo)) o' = va_up (cellOf E (sU σ (hj, dj, se, is, it, oo))) 0 (.inr (6, [.ref (Ez E + 1), .ref (Ez E + pad hj), .ref (Ez E + pad v_), .ref (Ez E + adr 0), .ref (Ez E + adr 1), .ref (Ez E + 27), .ref (Ez E + 109), .ref (Ez E + 110), .ref (Ez E + 111), .ref (Ez E + 112), .ref (Ez E + 115), .ref (Ez E + 121), .int se])) o' := by
  by_cases he : o' = 0
  · subst he; rw [va_up_self]; exact cUr_obj rfl
  · rw [va_up_ne _ _ he]
    by_cases h109 : o' = 109
    · subst h109; rw [cUr_im, cUr_im]
    by_cases h110 : o' = 110
    · subst h110; rw [cUr_is (σ := sU σ (hj, v_, se, is, it, oo)) rfl, cUr_is (σ := sU σ (hj, dj, se, is, it, oo)) rfl]
    by_cases h111 : o' = 111
    · subst h111; rw [cUr_it (σ := sU σ (hj, v_, se, is, it, oo)) rfl, cUr_it (σ := sU σ (hj, dj, se, is, it, oo)) rfl]
    by_cases h121 : o' = 121
    · subst h121; rw [cUr_oo (σ := sU σ (hj, v_, se, is, it, oo)) rfl, cUr_oo (σ := sU σ (hj, dj, se, is, it, oo)) rfl]
    exact (cU_out E σ _ (by omega)).trans (cU_out E σ _ (by omega)).symm
theorem wU_se {E : Ev} {σ : Sg} {hj dj : Nat} {se : Int32} {is it oo : Fn} {v_ : Int32} (o' : Nat) (_ : o' < 146) : cellOf E (sU σ (hj, dj, v_, is, it, oo)) o' = va_up (cellOf E (sU σ (hj, dj, se, is, it, oo))) 0 (.inr (6, [.ref (Ez E + 1), .ref (Ez E + pad hj), .ref (Ez E + pad dj), .ref (Ez E + adr 0), .ref (Ez E + adr 1), .ref (Ez E + 27), .ref (Ez E + 109), .ref (Ez E + 110), .ref (Ez E + 111), .ref (Ez E + 112), .ref (Ez E + 115), .ref (Ez E + 121), .int v_])) o' := by
  by_cases he : o' = 0
  · subst he; rw [va_up_self]; exact cUr_obj rfl
  · rw [va_up_ne _ _ he]
    by_cases h109 : o' = 109
    · subst h109; rw [cUr_im, cUr_im]
    by_cases h110 : o' = 110
    · subst h110; rw [cUr_is (σ := sU σ (hj, dj, v_, is, it, oo)) rfl, cUr_is (σ := sU σ (hj, dj, se, is, it, oo)) rfl]
    by_cases h111 : o' = 111
    · subst h111; rw [cUr_it (σ := sU σ (hj, dj, v_, is, it, oo)) rfl, cUr_it (σ := sU σ (hj, dj, se, is, it, oo)) rfl]
    by_cases h121 : o' = 121
    · subst h121; rw [cUr_oo (σ := sU σ (hj, dj, v_, is, it, oo)) rfl, cUr_oo (σ := sU σ (hj, dj, se, is, it, oo)) rfl]
    exact (cU_out E σ _ (by omega)).trans (cU_out E σ _ (by omega)).symm
theorem wU_is {E : Ev} {σ : Sg} {hj dj : Nat} {se : Int32} {is it oo : Fn} {v_ : Fn} (o' : Nat) (_ : o' < 146) : cellOf E (sU σ (hj, dj, se, v_, it, oo)) o' = va_up (cellOf E (sU σ (hj, dj, se, is, it, oo))) 110 (.inl (EI E, 2, .inl v_)) o' := by
  by_cases he : o' = 110
  · subst he; rw [va_up_self]; exact cUr_is rfl
  · rw [va_up_ne _ _ he]
    by_cases h0 : o' = 0
    · subst h0; rw [cUr_obj (σ := sU σ (hj, dj, se, v_, it, oo)) rfl, cUr_obj (σ := sU σ (hj, dj, se, is, it, oo)) rfl]
    by_cases h109 : o' = 109
    · subst h109; rw [cUr_im, cUr_im]
    by_cases h111 : o' = 111
    · subst h111; rw [cUr_it (σ := sU σ (hj, dj, se, v_, it, oo)) rfl, cUr_it (σ := sU σ (hj, dj, se, is, it, oo)) rfl]
    by_cases h121 : o' = 121
    · subst h121; rw [cUr_oo (σ := sU σ (hj, dj, se, v_, it, oo)) rfl, cUr_oo (σ := sU σ (hj, dj, se, is, it, oo)) rfl]
    exact (cU_out E σ _ (by omega)).trans (cU_out E σ _ (by omega)).symm
theorem wU_it {E : Ev} {σ : Sg} {hj dj : Nat} {se : Int32} {is it oo : Fn} {v_ : Fn} (o' : Nat) (_ : o' < 146) : cellOf E (sU σ (hj, dj, se, is, v_, oo)) o' = va_up (cellOf E (sU σ (hj, dj, se, is, it, oo))) 111 (.inl (EZ E, 2, .inl v_)) o' := by
  by_cases he : o' = 111
  · subst he; rw [va_up_self]; exact cUr_it rfl
  · rw [va_up_ne _ _ he]
    by_cases h0 : o' = 0
    · subst h0; rw [cUr_obj (σ := sU σ (hj, dj, se, is, v_, oo)) rfl, cUr_obj (σ := sU σ (hj, dj, se, is, it, oo)) rfl]
    by_cases h109 : o' = 109
    · subst h109; rw [cUr_im, cUr_im]
    by_cases h110 : o' = 110
    · subst h110; rw [cUr_is (σ := sU σ (hj, dj, se, is, v_, oo)) rfl, cUr_is (σ := sU σ (hj, dj, se, is, it, oo)) rfl]
    by_cases h121 : o' = 121
    · subst h121; rw [cUr_oo (σ := sU σ (hj, dj, se, is, v_, oo)) rfl, cUr_oo (σ := sU σ (hj, dj, se, is, it, oo)) rfl]
    exact (cU_out E σ _ (by omega)).trans (cU_out E σ _ (by omega)).symm
theorem wU_oo {E : Ev} {σ : Sg} {hj dj : Nat} {se : Int32} {is it oo : Fn} {v_ : Fn} (o' : Nat) (_ : o' < 146) : cellOf E (sU σ (hj, dj, se, is, it, v_)) o' = va_up (cellOf E (sU σ (hj, dj, se, is, it, oo))) 121 (.inl (EI E, 7, .inl v_)) o' := by
  by_cases he : o' = 121
  · subst he; rw [va_up_self]; exact cUr_oo rfl
  · rw [va_up_ne _ _ he]
    by_cases h0 : o' = 0
    · subst h0; rw [cUr_obj (σ := sU σ (hj, dj, se, is, it, v_)) rfl, cUr_obj (σ := sU σ (hj, dj, se, is, it, oo)) rfl]
    by_cases h109 : o' = 109
    · subst h109; rw [cUr_im, cUr_im]
    by_cases h110 : o' = 110
    · subst h110; rw [cUr_is (σ := sU σ (hj, dj, se, is, it, v_)) rfl, cUr_is (σ := sU σ (hj, dj, se, is, it, oo)) rfl]
    by_cases h111 : o' = 111
    · subst h111; rw [cUr_it (σ := sU σ (hj, dj, se, is, it, v_)) rfl, cUr_it (σ := sU σ (hj, dj, se, is, it, oo)) rfl]
    exact (cU_out E σ _ (by omega)).trans (cU_out E σ _ (by omega)).symm
theorem cMr_obj {E : Ev} {c : CSt} {A : Nat → Fn} {un sz ft wm fm bm at_ bg sg fg vl wr : Int32} {sd : Int64} : cellOf E (c, (A, (un, sz, ft, wm, fm, bm, at_, bg, sg, fg, vl, wr), sd)) 132 = .inr (7, [.ref (Ez E + 133), .ref (Ez E + 134), .ref (Ez E + 135), .ref (Ez E + 136), .ref (Ez E + 137), .int un, .ref (Ez E + 138), .ref (Ez E + 139), .long sd, .ref (Ez E + 140), .int sz, .int ft, .ref (Ez E + 141), .int wm, .ref (Ez E + 142), .int fm, .ref (Ez E + 143), .int bm, .int at_, .int bg, .int sg, .int fg, .int vl, .int wr, .ref (Ez E + 144), .ref (Ez E + 145)]) := cM_at E _ 0
theorem cMr_a {E : Ev} {c : CSt} {A : Nat → Fn} {I : IntV} {sd : Int64} (j : Nat) : cellOf E (c, (A, I, sd)) (133 + j) = .inl (mK E j, mL j, .inl (A j)) := by rw [show 133 + j = 132 + (j + 1) by omega, cM_at]; rfl
theorem wM_i {E : Ev} {c : CSt} {A : Nat → Fn} {I I' : IntV} {sd sd' : Int64} (o' : Nat) (_ : o' < 146) : cellOf E (c, (A, I', sd')) o' = va_up (cellOf E (c, (A, I, sd))) 132 (mC E (A, I', sd') 0) o' := by
  by_cases he : o' = 132
  · subst he; rw [va_up_self]; exact cM_at E _ 0
  · rw [va_up_ne _ _ he]
    by_cases h2 : o' < 132
    · rw [cM_out E (c, (A, I, sd)) (A, I', sd') h2]
    · obtain ⟨j, rfl⟩ : ∃ j, o' = 133 + j := ⟨o' - 133, by omega⟩
      rw [cMr_a, cMr_a]
theorem wM_a {E : Ev} {c : CSt} {A : Nat → Fn} {I : IntV} {sd : Int64} (j : Nat) {g : Fn} (o' : Nat) (_ : o' < 146) : cellOf E (c, (va_up A j g, I, sd)) o' = va_up (cellOf E (c, (A, I, sd))) (133 + j) (.inl (mK E j, mL j, .inl g)) o' := by
  by_cases he : o' = 133 + j
  · subst he; rw [va_up_self, cMr_a, va_up_self]
  · rw [va_up_ne _ _ he]
    by_cases h2 : o' < 132
    · rw [cM_out E (c, (A, I, sd)) (va_up A j g, I, sd) h2]
    · by_cases h3 : o' = 132
      · subst h3; rw [cM_at E (c, (va_up A j g, I, sd)) 0, cM_at E (c, (A, I, sd)) 0]; rfl
      · obtain ⟨i, rfl⟩ : ∃ i, o' = 133 + i := ⟨o' - 133, by omega⟩
        rw [cMr_a, cMr_a, va_up_ne _ _ (by omega)]
theorem g_X5_9 {E : Ev} {X : Cx} {R : Room} {cc : ByteArray} {nL : Nat} {ret : Option FieldType} {k n : Nat} {Q : State → Prop} {B : Bool} {N pc : Nat} {lv : List (Nat × Value)} {st : List Value} {h h' : Hp} {o : Nat} {fs : List Value} {v : Value} (hc : h o = .inr (5, fs)) (ho : o < N) (hv : fs[0]? = some v) (hd : decode cc pc = .ok (.getfield 9, 3)) (kk : V E X R RX5 cc nL ret k n Q B N (pc + 3) lv (v :: st) h) : V E X R RX5 cc nL ret k n Q B N pc lv (.ref (Ez E + o) :: st) h := v_get inB5 rfl 0 (by decide) fl_X5_9 hc ho hv hd kk
theorem p_X5_9 {E : Ev} {X : Cx} {R : Room} {cc : ByteArray} {nL : Nat} {ret : Option FieldType} {k n : Nat} {Q : State → Prop} {B : Bool} {N pc : Nat} {lv : List (Nat × Value)} {st : List Value} {h h' : Hp} {o : Nat} {fs : List Value} {v : Value} (hin : X.2.2.2.2.2.2.1.name = "<init>") (hc : h o = .inr (5, fs)) (ho : o < N) (hn2 : narrow (.array .int) v = v) (hfit : fits (.array .int) v = true) (hl2 : 0 < fs.length) (hd : decode cc pc = .ok (.putfield 9, 3)) (hu : ∀ o', o' < N → h' o' = va_up h o (.inr (5, fs.set 0 v)) o') (kk : V E X R RX5 cc nL ret k n Q B N (pc + 3) lv st h') : V E X R RX5 cc nL ret k n Q B N pc lv (v :: .ref (Ez E + o) :: st) h := v_putF inB5 tyX5 tyX5_ok nmX5 rfl 0 (by decide) fl_X5_9 rfl hin rfl (by decide +kernel) hc ho hn2 hfit hl2 hd hu kk
theorem g_X5_15 {E : Ev} {X : Cx} {R : Room} {cc : ByteArray} {nL : Nat} {ret : Option FieldType} {k n : Nat} {Q : State → Prop} {B : Bool} {N pc : Nat} {lv : List (Nat × Value)} {st : List Value} {h h' : Hp} {o : Nat} {fs : List Value} {v : Value} (hc : h o = .inr (5, fs)) (ho : o < N) (hv : fs[1]? = some v) (hd : decode cc pc = .ok (.getfield 15, 3)) (kk : V E X R RX5 cc nL ret k n Q B N (pc + 3) lv (v :: st) h) : V E X R RX5 cc nL ret k n Q B N pc lv (.ref (Ez E + o) :: st) h := v_get inB5 rfl 1 (by decide) fl_X5_15 hc ho hv hd kk
theorem p_X5_15 {E : Ev} {X : Cx} {R : Room} {cc : ByteArray} {nL : Nat} {ret : Option FieldType} {k n : Nat} {Q : State → Prop} {B : Bool} {N pc : Nat} {lv : List (Nat × Value)} {st : List Value} {h h' : Hp} {o : Nat} {fs : List Value} {v : Value} (hc : h o = .inr (5, fs)) (ho : o < N) (hn2 : narrow .int v = v) (hfit : fits .int v = true) (hl2 : 1 < fs.length) (hd : decode cc pc = .ok (.putfield 15, 3)) (hu : ∀ o', o' < N → h' o' = va_up h o (.inr (5, fs.set 1 v)) o') (kk : V E X R RX5 cc nL ret k n Q B N (pc + 3) lv st h') : V E X R RX5 cc nL ret k n Q B N pc lv (v :: .ref (Ez E + o) :: st) h := v_put inB5 tyX5 tyX5_ok nmX5 rfl 1 (by decide) fl_X5_15 rfl (by decide +kernel) hc ho hn2 hfit hl2 hd hu kk
theorem g_X6_81 {E : Ev} {X : Cx} {R : Room} {cc : ByteArray} {nL : Nat} {ret : Option FieldType} {k n : Nat} {Q : State → Prop} {B : Bool} {N pc : Nat} {lv : List (Nat × Value)} {st : List Value} {h h' : Hp} {o : Nat} {fs : List Value} {v : Value} (hc : h o = .inr (5, fs)) (ho : o < N) (hv : fs[1]? = some v) (hd : decode cc pc = .ok (.getfield 81, 3)) (kk : V E X R RX6 cc nL ret k n Q B N (pc + 3) lv (v :: st) h) : V E X R RX6 cc nL ret k n Q B N pc lv (.ref (Ez E + o) :: st) h := v_get inB5 rfl 1 (by decide) fl_X6_81 hc ho hv hd kk
theorem p_X6_81 {E : Ev} {X : Cx} {R : Room} {cc : ByteArray} {nL : Nat} {ret : Option FieldType} {k n : Nat} {Q : State → Prop} {B : Bool} {N pc : Nat} {lv : List (Nat × Value)} {st : List Value} {h h' : Hp} {o : Nat} {fs : List Value} {v : Value} (hc : h o = .inr (5, fs)) (ho : o < N) (hn2 : narrow .int v = v) (hfit : fits .int v = true) (hl2 : 1 < fs.length) (hd : decode cc pc = .ok (.putfield 81, 3)) (hu : ∀ o', o' < N → h' o' = va_up h o (.inr (5, fs.set 1 v)) o') (kk : V E X R RX6 cc nL ret k n Q B N (pc + 3) lv st h') : V E X R RX6 cc nL ret k n Q B N pc lv (v :: .ref (Ez E + o) :: st) h := v_put inB5 tyX5 tyX5_ok nmX5 rfl 1 (by decide) fl_X6_81 rfl (by decide +kernel) hc ho hn2 hfit hl2 hd hu kk
theorem g_X5_19 {E : Ev} {X : Cx} {R : Room} {cc : ByteArray} {nL : Nat} {ret : Option FieldType} {k n : Nat} {Q : State → Prop} {B : Bool} {N pc : Nat} {lv : List (Nat × Value)} {st : List Value} {h h' : Hp} {o : Nat} {fs : List Value} {v : Value} (hc : h o = .inr (5, fs)) (ho : o < N) (hv : fs[2]? = some v) (hd : decode cc pc = .ok (.getfield 19, 3)) (kk : V E X R RX5 cc nL ret k n Q B N (pc + 3) lv (v :: st) h) : V E X R RX5 cc nL ret k n Q B N pc lv (.ref (Ez E + o) :: st) h := v_get inB5 rfl 2 (by decide) fl_X5_19 hc ho hv hd kk
theorem p_X5_19 {E : Ev} {X : Cx} {R : Room} {cc : ByteArray} {nL : Nat} {ret : Option FieldType} {k n : Nat} {Q : State → Prop} {B : Bool} {N pc : Nat} {lv : List (Nat × Value)} {st : List Value} {h h' : Hp} {o : Nat} {fs : List Value} {v : Value} (hc : h o = .inr (5, fs)) (ho : o < N) (hn2 : narrow .int v = v) (hfit : fits .int v = true) (hl2 : 2 < fs.length) (hd : decode cc pc = .ok (.putfield 19, 3)) (hu : ∀ o', o' < N → h' o' = va_up h o (.inr (5, fs.set 2 v)) o') (kk : V E X R RX5 cc nL ret k n Q B N (pc + 3) lv st h') : V E X R RX5 cc nL ret k n Q B N pc lv (v :: .ref (Ez E + o) :: st) h := v_put inB5 tyX5 tyX5_ok nmX5 rfl 2 (by decide) fl_X5_19 rfl (by decide +kernel) hc ho hn2 hfit hl2 hd hu kk
theorem g_X6_104 {E : Ev} {X : Cx} {R : Room} {cc : ByteArray} {nL : Nat} {ret : Option FieldType} {k n : Nat} {Q : State → Prop} {B : Bool} {N pc : Nat} {lv : List (Nat × Value)} {st : List Value} {h h' : Hp} {o : Nat} {fs : List Value} {v : Value} (hc : h o = .inr (5, fs)) (ho : o < N) (hv : fs[2]? = some v) (hd : decode cc pc = .ok (.getfield 104, 3)) (kk : V E X R RX6 cc nL ret k n Q B N (pc + 3) lv (v :: st) h) : V E X R RX6 cc nL ret k n Q B N pc lv (.ref (Ez E + o) :: st) h := v_get inB5 rfl 2 (by decide) fl_X6_104 hc ho hv hd kk
theorem p_X6_104 {E : Ev} {X : Cx} {R : Room} {cc : ByteArray} {nL : Nat} {ret : Option FieldType} {k n : Nat} {Q : State → Prop} {B : Bool} {N pc : Nat} {lv : List (Nat × Value)} {st : List Value} {h h' : Hp} {o : Nat} {fs : List Value} {v : Value} (hc : h o = .inr (5, fs)) (ho : o < N) (hn2 : narrow .int v = v) (hfit : fits .int v = true) (hl2 : 2 < fs.length) (hd : decode cc pc = .ok (.putfield 104, 3)) (hu : ∀ o', o' < N → h' o' = va_up h o (.inr (5, fs.set 2 v)) o') (kk : V E X R RX6 cc nL ret k n Q B N (pc + 3) lv st h') : V E X R RX6 cc nL ret k n Q B N pc lv (v :: .ref (Ez E + o) :: st) h := v_put inB5 tyX5 tyX5_ok nmX5 rfl 2 (by decide) fl_X6_104 rfl (by decide +kernel) hc ho hn2 hfit hl2 hd hu kk
theorem g_X5_22 {E : Ev} {X : Cx} {R : Room} {cc : ByteArray} {nL : Nat} {ret : Option FieldType} {k n : Nat} {Q : State → Prop} {B : Bool} {N pc : Nat} {lv : List (Nat × Value)} {st : List Value} {h h' : Hp} {o : Nat} {fs : List Value} {v : Value} (hc : h o = .inr (5, fs)) (ho : o < N) (hv : fs[3]? = some v) (hd : decode cc pc = .ok (.getfield 22, 3)) (kk : V E X R RX5 cc nL ret k n Q B N (pc + 3) lv (v :: st) h) : V E X R RX5 cc nL ret k n Q B N pc lv (.ref (Ez E + o) :: st) h := v_get inB5 rfl 3 (by decide) fl_X5_22 hc ho hv hd kk
theorem p_X5_22 {E : Ev} {X : Cx} {R : Room} {cc : ByteArray} {nL : Nat} {ret : Option FieldType} {k n : Nat} {Q : State → Prop} {B : Bool} {N pc : Nat} {lv : List (Nat × Value)} {st : List Value} {h h' : Hp} {o : Nat} {fs : List Value} {v : Value} (hc : h o = .inr (5, fs)) (ho : o < N) (hn2 : narrow .int v = v) (hfit : fits .int v = true) (hl2 : 3 < fs.length) (hd : decode cc pc = .ok (.putfield 22, 3)) (hu : ∀ o', o' < N → h' o' = va_up h o (.inr (5, fs.set 3 v)) o') (kk : V E X R RX5 cc nL ret k n Q B N (pc + 3) lv st h') : V E X R RX5 cc nL ret k n Q B N pc lv (v :: .ref (Ez E + o) :: st) h := v_put inB5 tyX5 tyX5_ok nmX5 rfl 3 (by decide) fl_X5_22 rfl (by decide +kernel) hc ho hn2 hfit hl2 hd hu kk
theorem g_X5_25 {E : Ev} {X : Cx} {R : Room} {cc : ByteArray} {nL : Nat} {ret : Option FieldType} {k n : Nat} {Q : State → Prop} {B : Bool} {N pc : Nat} {lv : List (Nat × Value)} {st : List Value} {h h' : Hp} {o : Nat} {fs : List Value} {v : Value} (hc : h o = .inr (5, fs)) (ho : o < N) (hv : fs[4]? = some v) (hd : decode cc pc = .ok (.getfield 25, 3)) (kk : V E X R RX5 cc nL ret k n Q B N (pc + 3) lv (v :: st) h) : V E X R RX5 cc nL ret k n Q B N pc lv (.ref (Ez E + o) :: st) h := v_get inB5 rfl 4 (by decide) fl_X5_25 hc ho hv hd kk
theorem p_X5_25 {E : Ev} {X : Cx} {R : Room} {cc : ByteArray} {nL : Nat} {ret : Option FieldType} {k n : Nat} {Q : State → Prop} {B : Bool} {N pc : Nat} {lv : List (Nat × Value)} {st : List Value} {h h' : Hp} {o : Nat} {fs : List Value} {v : Value} (hc : h o = .inr (5, fs)) (ho : o < N) (hn2 : narrow .int v = v) (hfit : fits .int v = true) (hl2 : 4 < fs.length) (hd : decode cc pc = .ok (.putfield 25, 3)) (hu : ∀ o', o' < N → h' o' = va_up h o (.inr (5, fs.set 4 v)) o') (kk : V E X R RX5 cc nL ret k n Q B N (pc + 3) lv st h') : V E X R RX5 cc nL ret k n Q B N pc lv (v :: .ref (Ez E + o) :: st) h := v_put inB5 tyX5 tyX5_ok nmX5 rfl 4 (by decide) fl_X5_25 rfl (by decide +kernel) hc ho hn2 hfit hl2 hd hu kk
theorem g_X5_28 {E : Ev} {X : Cx} {R : Room} {cc : ByteArray} {nL : Nat} {ret : Option FieldType} {k n : Nat} {Q : State → Prop} {B : Bool} {N pc : Nat} {lv : List (Nat × Value)} {st : List Value} {h h' : Hp} {o : Nat} {fs : List Value} {v : Value} (hc : h o = .inr (5, fs)) (ho : o < N) (hv : fs[5]? = some v) (hd : decode cc pc = .ok (.getfield 28, 3)) (kk : V E X R RX5 cc nL ret k n Q B N (pc + 3) lv (v :: st) h) : V E X R RX5 cc nL ret k n Q B N pc lv (.ref (Ez E + o) :: st) h := v_get inB5 rfl 5 (by decide) fl_X5_28 hc ho hv hd kk
theorem p_X5_28 {E : Ev} {X : Cx} {R : Room} {cc : ByteArray} {nL : Nat} {ret : Option FieldType} {k n : Nat} {Q : State → Prop} {B : Bool} {N pc : Nat} {lv : List (Nat × Value)} {st : List Value} {h h' : Hp} {o : Nat} {fs : List Value} {v : Value} (hc : h o = .inr (5, fs)) (ho : o < N) (hn2 : narrow .int v = v) (hfit : fits .int v = true) (hl2 : 5 < fs.length) (hd : decode cc pc = .ok (.putfield 28, 3)) (hu : ∀ o', o' < N → h' o' = va_up h o (.inr (5, fs.set 5 v)) o') (kk : V E X R RX5 cc nL ret k n Q B N (pc + 3) lv st h') : V E X R RX5 cc nL ret k n Q B N pc lv (v :: .ref (Ez E + o) :: st) h := v_put inB5 tyX5 tyX5_ok nmX5 rfl 5 (by decide) fl_X5_28 rfl (by decide +kernel) hc ho hn2 hfit hl2 hd hu kk
theorem g_X1_9 {E : Ev} {X : Cx} {R : Room} {cc : ByteArray} {nL : Nat} {ret : Option FieldType} {k n : Nat} {Q : State → Prop} {B : Bool} {N pc : Nat} {lv : List (Nat × Value)} {st : List Value} {h h' : Hp} {o : Nat} {fs : List Value} {v : Value} (hc : h o = .inr (1, fs)) (ho : o < N) (hv : fs[0]? = some v) (hd : decode cc pc = .ok (.getfield 9, 3)) (kk : V E X R RX1 cc nL ret k n Q B N (pc + 3) lv (v :: st) h) : V E X R RX1 cc nL ret k n Q B N pc lv (.ref (Ez E + o) :: st) h := v_get inB1 rfl 0 (by decide) fl_X1_9 hc ho hv hd kk
theorem p_X1_9 {E : Ev} {X : Cx} {R : Room} {cc : ByteArray} {nL : Nat} {ret : Option FieldType} {k n : Nat} {Q : State → Prop} {B : Bool} {N pc : Nat} {lv : List (Nat × Value)} {st : List Value} {h h' : Hp} {o : Nat} {fs : List Value} {v : Value} (hc : h o = .inr (1, fs)) (ho : o < N) (hn2 : narrow .boolean v = v) (hfit : fits .boolean v = true) (hl2 : 0 < fs.length) (hd : decode cc pc = .ok (.putfield 9, 3)) (hu : ∀ o', o' < N → h' o' = va_up h o (.inr (1, fs.set 0 v)) o') (kk : V E X R RX1 cc nL ret k n Q B N (pc + 3) lv st h') : V E X R RX1 cc nL ret k n Q B N pc lv (v :: .ref (Ez E + o) :: st) h := v_put inB1 tyX1 tyX1_ok nmX1 rfl 0 (by decide) fl_X1_9 rfl (by decide +kernel) hc ho hn2 hfit hl2 hd hu kk
theorem g_X0_43 {E : Ev} {X : Cx} {R : Room} {cc : ByteArray} {nL : Nat} {ret : Option FieldType} {k n : Nat} {Q : State → Prop} {B : Bool} {N pc : Nat} {lv : List (Nat × Value)} {st : List Value} {h h' : Hp} {o : Nat} {fs : List Value} {v : Value} (hc : h o = .inr (1, fs)) (ho : o < N) (hv : fs[0]? = some v) (hd : decode cc pc = .ok (.getfield 43, 3)) (kk : V E X R RX0 cc nL ret k n Q B N (pc + 3) lv (v :: st) h) : V E X R RX0 cc nL ret k n Q B N pc lv (.ref (Ez E + o) :: st) h := v_get inB1 rfl 0 (by decide) fl_X0_43 hc ho hv hd kk
theorem p_X0_43 {E : Ev} {X : Cx} {R : Room} {cc : ByteArray} {nL : Nat} {ret : Option FieldType} {k n : Nat} {Q : State → Prop} {B : Bool} {N pc : Nat} {lv : List (Nat × Value)} {st : List Value} {h h' : Hp} {o : Nat} {fs : List Value} {v : Value} (hc : h o = .inr (1, fs)) (ho : o < N) (hn2 : narrow .boolean v = v) (hfit : fits .boolean v = true) (hl2 : 0 < fs.length) (hd : decode cc pc = .ok (.putfield 43, 3)) (hu : ∀ o', o' < N → h' o' = va_up h o (.inr (1, fs.set 0 v)) o') (kk : V E X R RX0 cc nL ret k n Q B N (pc + 3) lv st h') : V E X R RX0 cc nL ret k n Q B N pc lv (v :: .ref (Ez E + o) :: st) h := v_put inB1 tyX1 tyX1_ok nmX1 rfl 0 (by decide) fl_X0_43 rfl (by decide +kernel) hc ho hn2 hfit hl2 hd hu kk
theorem g_X5_60 {E : Ev} {X : Cx} {R : Room} {cc : ByteArray} {nL : Nat} {ret : Option FieldType} {k n : Nat} {Q : State → Prop} {B : Bool} {N pc : Nat} {lv : List (Nat × Value)} {st : List Value} {h h' : Hp} {o : Nat} {fs : List Value} {v : Value} (hc : h o = .inr (1, fs)) (ho : o < N) (hv : fs[0]? = some v) (hd : decode cc pc = .ok (.getfield 60, 3)) (kk : V E X R RX5 cc nL ret k n Q B N (pc + 3) lv (v :: st) h) : V E X R RX5 cc nL ret k n Q B N pc lv (.ref (Ez E + o) :: st) h := v_get inB1 rfl 0 (by decide) fl_X5_60 hc ho hv hd kk
theorem p_X5_60 {E : Ev} {X : Cx} {R : Room} {cc : ByteArray} {nL : Nat} {ret : Option FieldType} {k n : Nat} {Q : State → Prop} {B : Bool} {N pc : Nat} {lv : List (Nat × Value)} {st : List Value} {h h' : Hp} {o : Nat} {fs : List Value} {v : Value} (hc : h o = .inr (1, fs)) (ho : o < N) (hn2 : narrow .boolean v = v) (hfit : fits .boolean v = true) (hl2 : 0 < fs.length) (hd : decode cc pc = .ok (.putfield 60, 3)) (hu : ∀ o', o' < N → h' o' = va_up h o (.inr (1, fs.set 0 v)) o') (kk : V E X R RX5 cc nL ret k n Q B N (pc + 3) lv st h') : V E X R RX5 cc nL ret k n Q B N pc lv (v :: .ref (Ez E + o) :: st) h := v_put inB1 tyX1 tyX1_ok nmX1 rfl 0 (by decide) fl_X5_60 rfl (by decide +kernel) hc ho hn2 hfit hl2 hd hu kk
theorem g_X6_218 {E : Ev} {X : Cx} {R : Room} {cc : ByteArray} {nL : Nat} {ret : Option FieldType} {k n : Nat} {Q : State → Prop} {B : Bool} {N pc : Nat} {lv : List (Nat × Value)} {st : List Value} {h h' : Hp} {o : Nat} {fs : List Value} {v : Value} (hc : h o = .inr (1, fs)) (ho : o < N) (hv : fs[0]? = some v) (hd : decode cc pc = .ok (.getfield 218, 3)) (kk : V E X R RX6 cc nL ret k n Q B N (pc + 3) lv (v :: st) h) : V E X R RX6 cc nL ret k n Q B N pc lv (.ref (Ez E + o) :: st) h := v_get inB1 rfl 0 (by decide) fl_X6_218 hc ho hv hd kk
theorem p_X6_218 {E : Ev} {X : Cx} {R : Room} {cc : ByteArray} {nL : Nat} {ret : Option FieldType} {k n : Nat} {Q : State → Prop} {B : Bool} {N pc : Nat} {lv : List (Nat × Value)} {st : List Value} {h h' : Hp} {o : Nat} {fs : List Value} {v : Value} (hc : h o = .inr (1, fs)) (ho : o < N) (hn2 : narrow .boolean v = v) (hfit : fits .boolean v = true) (hl2 : 0 < fs.length) (hd : decode cc pc = .ok (.putfield 218, 3)) (hu : ∀ o', o' < N → h' o' = va_up h o (.inr (1, fs.set 0 v)) o') (kk : V E X R RX6 cc nL ret k n Q B N (pc + 3) lv st h') : V E X R RX6 cc nL ret k n Q B N pc lv (v :: .ref (Ez E + o) :: st) h := v_put inB1 tyX1 tyX1_ok nmX1 rfl 0 (by decide) fl_X6_218 rfl (by decide +kernel) hc ho hn2 hfit hl2 hd hu kk
theorem g_X1_15 {E : Ev} {X : Cx} {R : Room} {cc : ByteArray} {nL : Nat} {ret : Option FieldType} {k n : Nat} {Q : State → Prop} {B : Bool} {N pc : Nat} {lv : List (Nat × Value)} {st : List Value} {h h' : Hp} {o : Nat} {fs : List Value} {v : Value} (hc : h o = .inr (1, fs)) (ho : o < N) (hv : fs[1]? = some v) (hd : decode cc pc = .ok (.getfield 15, 3)) (kk : V E X R RX1 cc nL ret k n Q B N (pc + 3) lv (v :: st) h) : V E X R RX1 cc nL ret k n Q B N pc lv (.ref (Ez E + o) :: st) h := v_get inB1 rfl 1 (by decide) fl_X1_15 hc ho hv hd kk
theorem p_X1_15 {E : Ev} {X : Cx} {R : Room} {cc : ByteArray} {nL : Nat} {ret : Option FieldType} {k n : Nat} {Q : State → Prop} {B : Bool} {N pc : Nat} {lv : List (Nat × Value)} {st : List Value} {h h' : Hp} {o : Nat} {fs : List Value} {v : Value} (hc : h o = .inr (1, fs)) (ho : o < N) (hn2 : narrow .int v = v) (hfit : fits .int v = true) (hl2 : 1 < fs.length) (hd : decode cc pc = .ok (.putfield 15, 3)) (hu : ∀ o', o' < N → h' o' = va_up h o (.inr (1, fs.set 1 v)) o') (kk : V E X R RX1 cc nL ret k n Q B N (pc + 3) lv st h') : V E X R RX1 cc nL ret k n Q B N pc lv (v :: .ref (Ez E + o) :: st) h := v_put inB1 tyX1 tyX1_ok nmX1 rfl 1 (by decide) fl_X1_15 rfl (by decide +kernel) hc ho hn2 hfit hl2 hd hu kk
theorem g_X6_107 {E : Ev} {X : Cx} {R : Room} {cc : ByteArray} {nL : Nat} {ret : Option FieldType} {k n : Nat} {Q : State → Prop} {B : Bool} {N pc : Nat} {lv : List (Nat × Value)} {st : List Value} {h h' : Hp} {o : Nat} {fs : List Value} {v : Value} (hc : h o = .inr (1, fs)) (ho : o < N) (hv : fs[1]? = some v) (hd : decode cc pc = .ok (.getfield 107, 3)) (kk : V E X R RX6 cc nL ret k n Q B N (pc + 3) lv (v :: st) h) : V E X R RX6 cc nL ret k n Q B N pc lv (.ref (Ez E + o) :: st) h := v_get inB1 rfl 1 (by decide) fl_X6_107 hc ho hv hd kk
theorem p_X6_107 {E : Ev} {X : Cx} {R : Room} {cc : ByteArray} {nL : Nat} {ret : Option FieldType} {k n : Nat} {Q : State → Prop} {B : Bool} {N pc : Nat} {lv : List (Nat × Value)} {st : List Value} {h h' : Hp} {o : Nat} {fs : List Value} {v : Value} (hc : h o = .inr (1, fs)) (ho : o < N) (hn2 : narrow .int v = v) (hfit : fits .int v = true) (hl2 : 1 < fs.length) (hd : decode cc pc = .ok (.putfield 107, 3)) (hu : ∀ o', o' < N → h' o' = va_up h o (.inr (1, fs.set 1 v)) o') (kk : V E X R RX6 cc nL ret k n Q B N (pc + 3) lv st h') : V E X R RX6 cc nL ret k n Q B N pc lv (v :: .ref (Ez E + o) :: st) h := v_put inB1 tyX1 tyX1_ok nmX1 rfl 1 (by decide) fl_X6_107 rfl (by decide +kernel) hc ho hn2 hfit hl2 hd hu kk
theorem g_X0_122 {E : Ev} {X : Cx} {R : Room} {cc : ByteArray} {nL : Nat} {ret : Option FieldType} {k n : Nat} {Q : State → Prop} {B : Bool} {N pc : Nat} {lv : List (Nat × Value)} {st : List Value} {h h' : Hp} {o : Nat} {fs : List Value} {v : Value} (hc : h o = .inr (1, fs)) (ho : o < N) (hv : fs[1]? = some v) (hd : decode cc pc = .ok (.getfield 122, 3)) (kk : V E X R RX0 cc nL ret k n Q B N (pc + 3) lv (v :: st) h) : V E X R RX0 cc nL ret k n Q B N pc lv (.ref (Ez E + o) :: st) h := v_get inB1 rfl 1 (by decide) fl_X0_122 hc ho hv hd kk
theorem p_X0_122 {E : Ev} {X : Cx} {R : Room} {cc : ByteArray} {nL : Nat} {ret : Option FieldType} {k n : Nat} {Q : State → Prop} {B : Bool} {N pc : Nat} {lv : List (Nat × Value)} {st : List Value} {h h' : Hp} {o : Nat} {fs : List Value} {v : Value} (hc : h o = .inr (1, fs)) (ho : o < N) (hn2 : narrow .int v = v) (hfit : fits .int v = true) (hl2 : 1 < fs.length) (hd : decode cc pc = .ok (.putfield 122, 3)) (hu : ∀ o', o' < N → h' o' = va_up h o (.inr (1, fs.set 1 v)) o') (kk : V E X R RX0 cc nL ret k n Q B N (pc + 3) lv st h') : V E X R RX0 cc nL ret k n Q B N pc lv (v :: .ref (Ez E + o) :: st) h := v_put inB1 tyX1 tyX1_ok nmX1 rfl 1 (by decide) fl_X0_122 rfl (by decide +kernel) hc ho hn2 hfit hl2 hd hu kk
theorem g_X1_19 {E : Ev} {X : Cx} {R : Room} {cc : ByteArray} {nL : Nat} {ret : Option FieldType} {k n : Nat} {Q : State → Prop} {B : Bool} {N pc : Nat} {lv : List (Nat × Value)} {st : List Value} {h h' : Hp} {o : Nat} {fs : List Value} {v : Value} (hc : h o = .inr (1, fs)) (ho : o < N) (hv : fs[2]? = some v) (hd : decode cc pc = .ok (.getfield 19, 3)) (kk : V E X R RX1 cc nL ret k n Q B N (pc + 3) lv (v :: st) h) : V E X R RX1 cc nL ret k n Q B N pc lv (.ref (Ez E + o) :: st) h := v_get inB1 rfl 2 (by decide) fl_X1_19 hc ho hv hd kk
theorem p_X1_19 {E : Ev} {X : Cx} {R : Room} {cc : ByteArray} {nL : Nat} {ret : Option FieldType} {k n : Nat} {Q : State → Prop} {B : Bool} {N pc : Nat} {lv : List (Nat × Value)} {st : List Value} {h h' : Hp} {o : Nat} {fs : List Value} {v : Value} (hc : h o = .inr (1, fs)) (ho : o < N) (hn2 : narrow .int v = v) (hfit : fits .int v = true) (hl2 : 2 < fs.length) (hd : decode cc pc = .ok (.putfield 19, 3)) (hu : ∀ o', o' < N → h' o' = va_up h o (.inr (1, fs.set 2 v)) o') (kk : V E X R RX1 cc nL ret k n Q B N (pc + 3) lv st h') : V E X R RX1 cc nL ret k n Q B N pc lv (v :: .ref (Ez E + o) :: st) h := v_put inB1 tyX1 tyX1_ok nmX1 rfl 2 (by decide) fl_X1_19 rfl (by decide +kernel) hc ho hn2 hfit hl2 hd hu kk
theorem g_X0_40 {E : Ev} {X : Cx} {R : Room} {cc : ByteArray} {nL : Nat} {ret : Option FieldType} {k n : Nat} {Q : State → Prop} {B : Bool} {N pc : Nat} {lv : List (Nat × Value)} {st : List Value} {h h' : Hp} {o : Nat} {fs : List Value} {v : Value} (hc : h o = .inr (1, fs)) (ho : o < N) (hv : fs[2]? = some v) (hd : decode cc pc = .ok (.getfield 40, 3)) (kk : V E X R RX0 cc nL ret k n Q B N (pc + 3) lv (v :: st) h) : V E X R RX0 cc nL ret k n Q B N pc lv (.ref (Ez E + o) :: st) h := v_get inB1 rfl 2 (by decide) fl_X0_40 hc ho hv hd kk
theorem p_X0_40 {E : Ev} {X : Cx} {R : Room} {cc : ByteArray} {nL : Nat} {ret : Option FieldType} {k n : Nat} {Q : State → Prop} {B : Bool} {N pc : Nat} {lv : List (Nat × Value)} {st : List Value} {h h' : Hp} {o : Nat} {fs : List Value} {v : Value} (hc : h o = .inr (1, fs)) (ho : o < N) (hn2 : narrow .int v = v) (hfit : fits .int v = true) (hl2 : 2 < fs.length) (hd : decode cc pc = .ok (.putfield 40, 3)) (hu : ∀ o', o' < N → h' o' = va_up h o (.inr (1, fs.set 2 v)) o') (kk : V E X R RX0 cc nL ret k n Q B N (pc + 3) lv st h') : V E X R RX0 cc nL ret k n Q B N pc lv (v :: .ref (Ez E + o) :: st) h := v_put inB1 tyX1 tyX1_ok nmX1 rfl 2 (by decide) fl_X0_40 rfl (by decide +kernel) hc ho hn2 hfit hl2 hd hu kk
theorem g_X1_22 {E : Ev} {X : Cx} {R : Room} {cc : ByteArray} {nL : Nat} {ret : Option FieldType} {k n : Nat} {Q : State → Prop} {B : Bool} {N pc : Nat} {lv : List (Nat × Value)} {st : List Value} {h h' : Hp} {o : Nat} {fs : List Value} {v : Value} (hc : h o = .inr (1, fs)) (ho : o < N) (hv : fs[3]? = some v) (hd : decode cc pc = .ok (.getfield 22, 3)) (kk : V E X R RX1 cc nL ret k n Q B N (pc + 3) lv (v :: st) h) : V E X R RX1 cc nL ret k n Q B N pc lv (.ref (Ez E + o) :: st) h := v_get inB1 rfl 3 (by decide) fl_X1_22 hc ho hv hd kk
theorem p_X1_22 {E : Ev} {X : Cx} {R : Room} {cc : ByteArray} {nL : Nat} {ret : Option FieldType} {k n : Nat} {Q : State → Prop} {B : Bool} {N pc : Nat} {lv : List (Nat × Value)} {st : List Value} {h h' : Hp} {o : Nat} {fs : List Value} {v : Value} (hc : h o = .inr (1, fs)) (ho : o < N) (hn2 : narrow .int v = v) (hfit : fits .int v = true) (hl2 : 3 < fs.length) (hd : decode cc pc = .ok (.putfield 22, 3)) (hu : ∀ o', o' < N → h' o' = va_up h o (.inr (1, fs.set 3 v)) o') (kk : V E X R RX1 cc nL ret k n Q B N (pc + 3) lv st h') : V E X R RX1 cc nL ret k n Q B N pc lv (v :: .ref (Ez E + o) :: st) h := v_put inB1 tyX1 tyX1_ok nmX1 rfl 3 (by decide) fl_X1_22 rfl (by decide +kernel) hc ho hn2 hfit hl2 hd hu kk
theorem g_X6_101 {E : Ev} {X : Cx} {R : Room} {cc : ByteArray} {nL : Nat} {ret : Option FieldType} {k n : Nat} {Q : State → Prop} {B : Bool} {N pc : Nat} {lv : List (Nat × Value)} {st : List Value} {h h' : Hp} {o : Nat} {fs : List Value} {v : Value} (hc : h o = .inr (1, fs)) (ho : o < N) (hv : fs[3]? = some v) (hd : decode cc pc = .ok (.getfield 101, 3)) (kk : V E X R RX6 cc nL ret k n Q B N (pc + 3) lv (v :: st) h) : V E X R RX6 cc nL ret k n Q B N pc lv (.ref (Ez E + o) :: st) h := v_get inB1 rfl 3 (by decide) fl_X6_101 hc ho hv hd kk
theorem p_X6_101 {E : Ev} {X : Cx} {R : Room} {cc : ByteArray} {nL : Nat} {ret : Option FieldType} {k n : Nat} {Q : State → Prop} {B : Bool} {N pc : Nat} {lv : List (Nat × Value)} {st : List Value} {h h' : Hp} {o : Nat} {fs : List Value} {v : Value} (hc : h o = .inr (1, fs)) (ho : o < N) (hn2 : narrow .int v = v) (hfit : fits .int v = true) (hl2 : 3 < fs.length) (hd : decode cc pc = .ok (.putfield 101, 3)) (hu : ∀ o', o' < N → h' o' = va_up h o (.inr (1, fs.set 3 v)) o') (kk : V E X R RX6 cc nL ret k n Q B N (pc + 3) lv st h') : V E X R RX6 cc nL ret k n Q B N pc lv (v :: .ref (Ez E + o) :: st) h := v_put inB1 tyX1 tyX1_ok nmX1 rfl 3 (by decide) fl_X6_101 rfl (by decide +kernel) hc ho hn2 hfit hl2 hd hu kk
theorem g_X5_64 {E : Ev} {X : Cx} {R : Room} {cc : ByteArray} {nL : Nat} {ret : Option FieldType} {k n : Nat} {Q : State → Prop} {B : Bool} {N pc : Nat} {lv : List (Nat × Value)} {st : List Value} {h h' : Hp} {o : Nat} {fs : List Value} {v : Value} (hc : h o = .inr (1, fs)) (ho : o < N) (hv : fs[3]? = some v) (hd : decode cc pc = .ok (.getfield 64, 3)) (kk : V E X R RX5 cc nL ret k n Q B N (pc + 3) lv (v :: st) h) : V E X R RX5 cc nL ret k n Q B N pc lv (.ref (Ez E + o) :: st) h := v_get inB1 rfl 3 (by decide) fl_X5_64 hc ho hv hd kk
theorem p_X5_64 {E : Ev} {X : Cx} {R : Room} {cc : ByteArray} {nL : Nat} {ret : Option FieldType} {k n : Nat} {Q : State → Prop} {B : Bool} {N pc : Nat} {lv : List (Nat × Value)} {st : List Value} {h h' : Hp} {o : Nat} {fs : List Value} {v : Value} (hc : h o = .inr (1, fs)) (ho : o < N) (hn2 : narrow .int v = v) (hfit : fits .int v = true) (hl2 : 3 < fs.length) (hd : decode cc pc = .ok (.putfield 64, 3)) (hu : ∀ o', o' < N → h' o' = va_up h o (.inr (1, fs.set 3 v)) o') (kk : V E X R RX5 cc nL ret k n Q B N (pc + 3) lv st h') : V E X R RX5 cc nL ret k n Q B N pc lv (v :: .ref (Ez E + o) :: st) h := v_put inB1 tyX1 tyX1_ok nmX1 rfl 3 (by decide) fl_X5_64 rfl (by decide +kernel) hc ho hn2 hfit hl2 hd hu kk
theorem g_X0_95 {E : Ev} {X : Cx} {R : Room} {cc : ByteArray} {nL : Nat} {ret : Option FieldType} {k n : Nat} {Q : State → Prop} {B : Bool} {N pc : Nat} {lv : List (Nat × Value)} {st : List Value} {h h' : Hp} {o : Nat} {fs : List Value} {v : Value} (hc : h o = .inr (1, fs)) (ho : o < N) (hv : fs[3]? = some v) (hd : decode cc pc = .ok (.getfield 95, 3)) (kk : V E X R RX0 cc nL ret k n Q B N (pc + 3) lv (v :: st) h) : V E X R RX0 cc nL ret k n Q B N pc lv (.ref (Ez E + o) :: st) h := v_get inB1 rfl 3 (by decide) fl_X0_95 hc ho hv hd kk
theorem p_X0_95 {E : Ev} {X : Cx} {R : Room} {cc : ByteArray} {nL : Nat} {ret : Option FieldType} {k n : Nat} {Q : State → Prop} {B : Bool} {N pc : Nat} {lv : List (Nat × Value)} {st : List Value} {h h' : Hp} {o : Nat} {fs : List Value} {v : Value} (hc : h o = .inr (1, fs)) (ho : o < N) (hn2 : narrow .int v = v) (hfit : fits .int v = true) (hl2 : 3 < fs.length) (hd : decode cc pc = .ok (.putfield 95, 3)) (hu : ∀ o', o' < N → h' o' = va_up h o (.inr (1, fs.set 3 v)) o') (kk : V E X R RX0 cc nL ret k n Q B N (pc + 3) lv st h') : V E X R RX0 cc nL ret k n Q B N pc lv (v :: .ref (Ez E + o) :: st) h := v_put inB1 tyX1 tyX1_ok nmX1 rfl 3 (by decide) fl_X0_95 rfl (by decide +kernel) hc ho hn2 hfit hl2 hd hu kk
theorem g_X1_25 {E : Ev} {X : Cx} {R : Room} {cc : ByteArray} {nL : Nat} {ret : Option FieldType} {k n : Nat} {Q : State → Prop} {B : Bool} {N pc : Nat} {lv : List (Nat × Value)} {st : List Value} {h h' : Hp} {o : Nat} {fs : List Value} {v : Value} (hc : h o = .inr (1, fs)) (ho : o < N) (hv : fs[4]? = some v) (hd : decode cc pc = .ok (.getfield 25, 3)) (kk : V E X R RX1 cc nL ret k n Q B N (pc + 3) lv (v :: st) h) : V E X R RX1 cc nL ret k n Q B N pc lv (.ref (Ez E + o) :: st) h := v_get inB1 rfl 4 (by decide) fl_X1_25 hc ho hv hd kk
theorem p_X1_25 {E : Ev} {X : Cx} {R : Room} {cc : ByteArray} {nL : Nat} {ret : Option FieldType} {k n : Nat} {Q : State → Prop} {B : Bool} {N pc : Nat} {lv : List (Nat × Value)} {st : List Value} {h h' : Hp} {o : Nat} {fs : List Value} {v : Value} (hc : h o = .inr (1, fs)) (ho : o < N) (hn2 : narrow .int v = v) (hfit : fits .int v = true) (hl2 : 4 < fs.length) (hd : decode cc pc = .ok (.putfield 25, 3)) (hu : ∀ o', o' < N → h' o' = va_up h o (.inr (1, fs.set 4 v)) o') (kk : V E X R RX1 cc nL ret k n Q B N (pc + 3) lv st h') : V E X R RX1 cc nL ret k n Q B N pc lv (v :: .ref (Ez E + o) :: st) h := v_put inB1 tyX1 tyX1_ok nmX1 rfl 4 (by decide) fl_X1_25 rfl (by decide +kernel) hc ho hn2 hfit hl2 hd hu kk
theorem g_X4_21 {E : Ev} {X : Cx} {R : Room} {cc : ByteArray} {nL : Nat} {ret : Option FieldType} {k n : Nat} {Q : State → Prop} {B : Bool} {N pc : Nat} {lv : List (Nat × Value)} {st : List Value} {h h' : Hp} {o : Nat} {fs : List Value} {v : Value} (hc : h o = .inr (1, fs)) (ho : o < N) (hv : fs[4]? = some v) (hd : decode cc pc = .ok (.getfield 21, 3)) (kk : V E X R RX4 cc nL ret k n Q B N (pc + 3) lv (v :: st) h) : V E X R RX4 cc nL ret k n Q B N pc lv (.ref (Ez E + o) :: st) h := v_get inB1 rfl 4 (by decide) fl_X4_21 hc ho hv hd kk
theorem p_X4_21 {E : Ev} {X : Cx} {R : Room} {cc : ByteArray} {nL : Nat} {ret : Option FieldType} {k n : Nat} {Q : State → Prop} {B : Bool} {N pc : Nat} {lv : List (Nat × Value)} {st : List Value} {h h' : Hp} {o : Nat} {fs : List Value} {v : Value} (hc : h o = .inr (1, fs)) (ho : o < N) (hn2 : narrow .int v = v) (hfit : fits .int v = true) (hl2 : 4 < fs.length) (hd : decode cc pc = .ok (.putfield 21, 3)) (hu : ∀ o', o' < N → h' o' = va_up h o (.inr (1, fs.set 4 v)) o') (kk : V E X R RX4 cc nL ret k n Q B N (pc + 3) lv st h') : V E X R RX4 cc nL ret k n Q B N pc lv (v :: .ref (Ez E + o) :: st) h := v_put inB1 tyX1 tyX1_ok nmX1 rfl 4 (by decide) fl_X4_21 rfl (by decide +kernel) hc ho hn2 hfit hl2 hd hu kk
theorem g_X5_67 {E : Ev} {X : Cx} {R : Room} {cc : ByteArray} {nL : Nat} {ret : Option FieldType} {k n : Nat} {Q : State → Prop} {B : Bool} {N pc : Nat} {lv : List (Nat × Value)} {st : List Value} {h h' : Hp} {o : Nat} {fs : List Value} {v : Value} (hc : h o = .inr (1, fs)) (ho : o < N) (hv : fs[4]? = some v) (hd : decode cc pc = .ok (.getfield 67, 3)) (kk : V E X R RX5 cc nL ret k n Q B N (pc + 3) lv (v :: st) h) : V E X R RX5 cc nL ret k n Q B N pc lv (.ref (Ez E + o) :: st) h := v_get inB1 rfl 4 (by decide) fl_X5_67 hc ho hv hd kk
theorem p_X5_67 {E : Ev} {X : Cx} {R : Room} {cc : ByteArray} {nL : Nat} {ret : Option FieldType} {k n : Nat} {Q : State → Prop} {B : Bool} {N pc : Nat} {lv : List (Nat × Value)} {st : List Value} {h h' : Hp} {o : Nat} {fs : List Value} {v : Value} (hc : h o = .inr (1, fs)) (ho : o < N) (hn2 : narrow .int v = v) (hfit : fits .int v = true) (hl2 : 4 < fs.length) (hd : decode cc pc = .ok (.putfield 67, 3)) (hu : ∀ o', o' < N → h' o' = va_up h o (.inr (1, fs.set 4 v)) o') (kk : V E X R RX5 cc nL ret k n Q B N (pc + 3) lv st h') : V E X R RX5 cc nL ret k n Q B N pc lv (v :: .ref (Ez E + o) :: st) h := v_put inB1 tyX1 tyX1_ok nmX1 rfl 4 (by decide) fl_X5_67 rfl (by decide +kernel) hc ho hn2 hfit hl2 hd hu kk
theorem g_X6_110 {E : Ev} {X : Cx} {R : Room} {cc : ByteArray} {nL : Nat} {ret : Option FieldType} {k n : Nat} {Q : State → Prop} {B : Bool} {N pc : Nat} {lv : List (Nat × Value)} {st : List Value} {h h' : Hp} {o : Nat} {fs : List Value} {v : Value} (hc : h o = .inr (1, fs)) (ho : o < N) (hv : fs[4]? = some v) (hd : decode cc pc = .ok (.getfield 110, 3)) (kk : V E X R RX6 cc nL ret k n Q B N (pc + 3) lv (v :: st) h) : V E X R RX6 cc nL ret k n Q B N pc lv (.ref (Ez E + o) :: st) h := v_get inB1 rfl 4 (by decide) fl_X6_110 hc ho hv hd kk
theorem p_X6_110 {E : Ev} {X : Cx} {R : Room} {cc : ByteArray} {nL : Nat} {ret : Option FieldType} {k n : Nat} {Q : State → Prop} {B : Bool} {N pc : Nat} {lv : List (Nat × Value)} {st : List Value} {h h' : Hp} {o : Nat} {fs : List Value} {v : Value} (hc : h o = .inr (1, fs)) (ho : o < N) (hn2 : narrow .int v = v) (hfit : fits .int v = true) (hl2 : 4 < fs.length) (hd : decode cc pc = .ok (.putfield 110, 3)) (hu : ∀ o', o' < N → h' o' = va_up h o (.inr (1, fs.set 4 v)) o') (kk : V E X R RX6 cc nL ret k n Q B N (pc + 3) lv st h') : V E X R RX6 cc nL ret k n Q B N pc lv (v :: .ref (Ez E + o) :: st) h := v_put inB1 tyX1 tyX1_ok nmX1 rfl 4 (by decide) fl_X6_110 rfl (by decide +kernel) hc ho hn2 hfit hl2 hd hu kk
theorem g_X0_86 {E : Ev} {X : Cx} {R : Room} {cc : ByteArray} {nL : Nat} {ret : Option FieldType} {k n : Nat} {Q : State → Prop} {B : Bool} {N pc : Nat} {lv : List (Nat × Value)} {st : List Value} {h h' : Hp} {o : Nat} {fs : List Value} {v : Value} (hc : h o = .inr (1, fs)) (ho : o < N) (hv : fs[4]? = some v) (hd : decode cc pc = .ok (.getfield 86, 3)) (kk : V E X R RX0 cc nL ret k n Q B N (pc + 3) lv (v :: st) h) : V E X R RX0 cc nL ret k n Q B N pc lv (.ref (Ez E + o) :: st) h := v_get inB1 rfl 4 (by decide) fl_X0_86 hc ho hv hd kk
theorem p_X0_86 {E : Ev} {X : Cx} {R : Room} {cc : ByteArray} {nL : Nat} {ret : Option FieldType} {k n : Nat} {Q : State → Prop} {B : Bool} {N pc : Nat} {lv : List (Nat × Value)} {st : List Value} {h h' : Hp} {o : Nat} {fs : List Value} {v : Value} (hc : h o = .inr (1, fs)) (ho : o < N) (hn2 : narrow .int v = v) (hfit : fits .int v = true) (hl2 : 4 < fs.length) (hd : decode cc pc = .ok (.putfield 86, 3)) (hu : ∀ o', o' < N → h' o' = va_up h o (.inr (1, fs.set 4 v)) o') (kk : V E X R RX0 cc nL ret k n Q B N (pc + 3) lv st h') : V E X R RX0 cc nL ret k n Q B N pc lv (v :: .ref (Ez E + o) :: st) h := v_put inB1 tyX1 tyX1_ok nmX1 rfl 4 (by decide) fl_X0_86 rfl (by decide +kernel) hc ho hn2 hfit hl2 hd hu kk
theorem g_X1_28 {E : Ev} {X : Cx} {R : Room} {cc : ByteArray} {nL : Nat} {ret : Option FieldType} {k n : Nat} {Q : State → Prop} {B : Bool} {N pc : Nat} {lv : List (Nat × Value)} {st : List Value} {h h' : Hp} {o : Nat} {fs : List Value} {v : Value} (hc : h o = .inr (1, fs)) (ho : o < N) (hv : fs[5]? = some v) (hd : decode cc pc = .ok (.getfield 28, 3)) (kk : V E X R RX1 cc nL ret k n Q B N (pc + 3) lv (v :: st) h) : V E X R RX1 cc nL ret k n Q B N pc lv (.ref (Ez E + o) :: st) h := v_get inB1 rfl 5 (by decide) fl_X1_28 hc ho hv hd kk
theorem p_X1_28 {E : Ev} {X : Cx} {R : Room} {cc : ByteArray} {nL : Nat} {ret : Option FieldType} {k n : Nat} {Q : State → Prop} {B : Bool} {N pc : Nat} {lv : List (Nat × Value)} {st : List Value} {h h' : Hp} {o : Nat} {fs : List Value} {v : Value} (hin : X.2.2.2.2.2.2.1.name = "<init>") (hc : h o = .inr (1, fs)) (ho : o < N) (hn2 : narrow (.array .int) v = v) (hfit : fits (.array .int) v = true) (hl2 : 5 < fs.length) (hd : decode cc pc = .ok (.putfield 28, 3)) (hu : ∀ o', o' < N → h' o' = va_up h o (.inr (1, fs.set 5 v)) o') (kk : V E X R RX1 cc nL ret k n Q B N (pc + 3) lv st h') : V E X R RX1 cc nL ret k n Q B N pc lv (v :: .ref (Ez E + o) :: st) h := v_putF inB1 tyX1 tyX1_ok nmX1 rfl 5 (by decide) fl_X1_28 rfl hin rfl (by decide +kernel) hc ho hn2 hfit hl2 hd hu kk
theorem g_X6_161 {E : Ev} {X : Cx} {R : Room} {cc : ByteArray} {nL : Nat} {ret : Option FieldType} {k n : Nat} {Q : State → Prop} {B : Bool} {N pc : Nat} {lv : List (Nat × Value)} {st : List Value} {h h' : Hp} {o : Nat} {fs : List Value} {v : Value} (hc : h o = .inr (1, fs)) (ho : o < N) (hv : fs[5]? = some v) (hd : decode cc pc = .ok (.getfield 161, 3)) (kk : V E X R RX6 cc nL ret k n Q B N (pc + 3) lv (v :: st) h) : V E X R RX6 cc nL ret k n Q B N pc lv (.ref (Ez E + o) :: st) h := v_get inB1 rfl 5 (by decide) fl_X6_161 hc ho hv hd kk
theorem g_X0_112 {E : Ev} {X : Cx} {R : Room} {cc : ByteArray} {nL : Nat} {ret : Option FieldType} {k n : Nat} {Q : State → Prop} {B : Bool} {N pc : Nat} {lv : List (Nat × Value)} {st : List Value} {h h' : Hp} {o : Nat} {fs : List Value} {v : Value} (hc : h o = .inr (1, fs)) (ho : o < N) (hv : fs[5]? = some v) (hd : decode cc pc = .ok (.getfield 112, 3)) (kk : V E X R RX0 cc nL ret k n Q B N (pc + 3) lv (v :: st) h) : V E X R RX0 cc nL ret k n Q B N pc lv (.ref (Ez E + o) :: st) h := v_get inB1 rfl 5 (by decide) fl_X0_112 hc ho hv hd kk
theorem g_X1_32 {E : Ev} {X : Cx} {R : Room} {cc : ByteArray} {nL : Nat} {ret : Option FieldType} {k n : Nat} {Q : State → Prop} {B : Bool} {N pc : Nat} {lv : List (Nat × Value)} {st : List Value} {h h' : Hp} {o : Nat} {fs : List Value} {v : Value} (hc : h o = .inr (1, fs)) (ho : o < N) (hv : fs[6]? = some v) (hd : decode cc pc = .ok (.getfield 32, 3)) (kk : V E X R RX1 cc nL ret k n Q B N (pc + 3) lv (v :: st) h) : V E X R RX1 cc nL ret k n Q B N pc lv (.ref (Ez E + o) :: st) h := v_get inB1 rfl 6 (by decide) fl_X1_32 hc ho hv hd kk
theorem p_X1_32 {E : Ev} {X : Cx} {R : Room} {cc : ByteArray} {nL : Nat} {ret : Option FieldType} {k n : Nat} {Q : State → Prop} {B : Bool} {N pc : Nat} {lv : List (Nat × Value)} {st : List Value} {h h' : Hp} {o : Nat} {fs : List Value} {v : Value} (hin : X.2.2.2.2.2.2.1.name = "<init>") (hc : h o = .inr (1, fs)) (ho : o < N) (hn2 : narrow (.array .int) v = v) (hfit : fits (.array .int) v = true) (hl2 : 6 < fs.length) (hd : decode cc pc = .ok (.putfield 32, 3)) (hu : ∀ o', o' < N → h' o' = va_up h o (.inr (1, fs.set 6 v)) o') (kk : V E X R RX1 cc nL ret k n Q B N (pc + 3) lv st h') : V E X R RX1 cc nL ret k n Q B N pc lv (v :: .ref (Ez E + o) :: st) h := v_putF inB1 tyX1 tyX1_ok nmX1 rfl 6 (by decide) fl_X1_32 rfl hin rfl (by decide +kernel) hc ho hn2 hfit hl2 hd hu kk
theorem g_X0_51 {E : Ev} {X : Cx} {R : Room} {cc : ByteArray} {nL : Nat} {ret : Option FieldType} {k n : Nat} {Q : State → Prop} {B : Bool} {N pc : Nat} {lv : List (Nat × Value)} {st : List Value} {h h' : Hp} {o : Nat} {fs : List Value} {v : Value} (hc : h o = .inr (1, fs)) (ho : o < N) (hv : fs[6]? = some v) (hd : decode cc pc = .ok (.getfield 51, 3)) (kk : V E X R RX0 cc nL ret k n Q B N (pc + 3) lv (v :: st) h) : V E X R RX0 cc nL ret k n Q B N pc lv (.ref (Ez E + o) :: st) h := v_get inB1 rfl 6 (by decide) fl_X0_51 hc ho hv hd kk
theorem g_X1_35 {E : Ev} {X : Cx} {R : Room} {cc : ByteArray} {nL : Nat} {ret : Option FieldType} {k n : Nat} {Q : State → Prop} {B : Bool} {N pc : Nat} {lv : List (Nat × Value)} {st : List Value} {h h' : Hp} {o : Nat} {fs : List Value} {v : Value} (hc : h o = .inr (1, fs)) (ho : o < N) (hv : fs[7]? = some v) (hd : decode cc pc = .ok (.getfield 35, 3)) (kk : V E X R RX1 cc nL ret k n Q B N (pc + 3) lv (v :: st) h) : V E X R RX1 cc nL ret k n Q B N pc lv (.ref (Ez E + o) :: st) h := v_get inB1 rfl 7 (by decide) fl_X1_35 hc ho hv hd kk
theorem p_X1_35 {E : Ev} {X : Cx} {R : Room} {cc : ByteArray} {nL : Nat} {ret : Option FieldType} {k n : Nat} {Q : State → Prop} {B : Bool} {N pc : Nat} {lv : List (Nat × Value)} {st : List Value} {h h' : Hp} {o : Nat} {fs : List Value} {v : Value} (hin : X.2.2.2.2.2.2.1.name = "<init>") (hc : h o = .inr (1, fs)) (ho : o < N) (hn2 : narrow (.array .int) v = v) (hfit : fits (.array .int) v = true) (hl2 : 7 < fs.length) (hd : decode cc pc = .ok (.putfield 35, 3)) (hu : ∀ o', o' < N → h' o' = va_up h o (.inr (1, fs.set 7 v)) o') (kk : V E X R RX1 cc nL ret k n Q B N (pc + 3) lv st h') : V E X R RX1 cc nL ret k n Q B N pc lv (v :: .ref (Ez E + o) :: st) h := v_putF inB1 tyX1 tyX1_ok nmX1 rfl 7 (by decide) fl_X1_35 rfl hin rfl (by decide +kernel) hc ho hn2 hfit hl2 hd hu kk
theorem g_X6_167 {E : Ev} {X : Cx} {R : Room} {cc : ByteArray} {nL : Nat} {ret : Option FieldType} {k n : Nat} {Q : State → Prop} {B : Bool} {N pc : Nat} {lv : List (Nat × Value)} {st : List Value} {h h' : Hp} {o : Nat} {fs : List Value} {v : Value} (hc : h o = .inr (1, fs)) (ho : o < N) (hv : fs[7]? = some v) (hd : decode cc pc = .ok (.getfield 167, 3)) (kk : V E X R RX6 cc nL ret k n Q B N (pc + 3) lv (v :: st) h) : V E X R RX6 cc nL ret k n Q B N pc lv (.ref (Ez E + o) :: st) h := v_get inB1 rfl 7 (by decide) fl_X6_167 hc ho hv hd kk
theorem g_X0_98 {E : Ev} {X : Cx} {R : Room} {cc : ByteArray} {nL : Nat} {ret : Option FieldType} {k n : Nat} {Q : State → Prop} {B : Bool} {N pc : Nat} {lv : List (Nat × Value)} {st : List Value} {h h' : Hp} {o : Nat} {fs : List Value} {v : Value} (hc : h o = .inr (1, fs)) (ho : o < N) (hv : fs[7]? = some v) (hd : decode cc pc = .ok (.getfield 98, 3)) (kk : V E X R RX0 cc nL ret k n Q B N (pc + 3) lv (v :: st) h) : V E X R RX0 cc nL ret k n Q B N pc lv (.ref (Ez E + o) :: st) h := v_get inB1 rfl 7 (by decide) fl_X0_98 hc ho hv hd kk
theorem g_X1_38 {E : Ev} {X : Cx} {R : Room} {cc : ByteArray} {nL : Nat} {ret : Option FieldType} {k n : Nat} {Q : State → Prop} {B : Bool} {N pc : Nat} {lv : List (Nat × Value)} {st : List Value} {h h' : Hp} {o : Nat} {fs : List Value} {v : Value} (hc : h o = .inr (1, fs)) (ho : o < N) (hv : fs[8]? = some v) (hd : decode cc pc = .ok (.getfield 38, 3)) (kk : V E X R RX1 cc nL ret k n Q B N (pc + 3) lv (v :: st) h) : V E X R RX1 cc nL ret k n Q B N pc lv (.ref (Ez E + o) :: st) h := v_get inB1 rfl 8 (by decide) fl_X1_38 hc ho hv hd kk
theorem p_X1_38 {E : Ev} {X : Cx} {R : Room} {cc : ByteArray} {nL : Nat} {ret : Option FieldType} {k n : Nat} {Q : State → Prop} {B : Bool} {N pc : Nat} {lv : List (Nat × Value)} {st : List Value} {h h' : Hp} {o : Nat} {fs : List Value} {v : Value} (hin : X.2.2.2.2.2.2.1.name = "<init>") (hc : h o = .inr (1, fs)) (ho : o < N) (hn2 : narrow (.array .int) v = v) (hfit : fits (.array .int) v = true) (hl2 : 8 < fs.length) (hd : decode cc pc = .ok (.putfield 38, 3)) (hu : ∀ o', o' < N → h' o' = va_up h o (.inr (1, fs.set 8 v)) o') (kk : V E X R RX1 cc nL ret k n Q B N (pc + 3) lv st h') : V E X R RX1 cc nL ret k n Q B N pc lv (v :: .ref (Ez E + o) :: st) h := v_putF inB1 tyX1 tyX1_ok nmX1 rfl 8 (by decide) fl_X1_38 rfl hin rfl (by decide +kernel) hc ho hn2 hfit hl2 hd hu kk
theorem g_X4_41 {E : Ev} {X : Cx} {R : Room} {cc : ByteArray} {nL : Nat} {ret : Option FieldType} {k n : Nat} {Q : State → Prop} {B : Bool} {N pc : Nat} {lv : List (Nat × Value)} {st : List Value} {h h' : Hp} {o : Nat} {fs : List Value} {v : Value} (hc : h o = .inr (1, fs)) (ho : o < N) (hv : fs[8]? = some v) (hd : decode cc pc = .ok (.getfield 41, 3)) (kk : V E X R RX4 cc nL ret k n Q B N (pc + 3) lv (v :: st) h) : V E X R RX4 cc nL ret k n Q B N pc lv (.ref (Ez E + o) :: st) h := v_get inB1 rfl 8 (by decide) fl_X4_41 hc ho hv hd kk
theorem g_X6_189 {E : Ev} {X : Cx} {R : Room} {cc : ByteArray} {nL : Nat} {ret : Option FieldType} {k n : Nat} {Q : State → Prop} {B : Bool} {N pc : Nat} {lv : List (Nat × Value)} {st : List Value} {h h' : Hp} {o : Nat} {fs : List Value} {v : Value} (hc : h o = .inr (1, fs)) (ho : o < N) (hv : fs[8]? = some v) (hd : decode cc pc = .ok (.getfield 189, 3)) (kk : V E X R RX6 cc nL ret k n Q B N (pc + 3) lv (v :: st) h) : V E X R RX6 cc nL ret k n Q B N pc lv (.ref (Ez E + o) :: st) h := v_get inB1 rfl 8 (by decide) fl_X6_189 hc ho hv hd kk
theorem g_X0_89 {E : Ev} {X : Cx} {R : Room} {cc : ByteArray} {nL : Nat} {ret : Option FieldType} {k n : Nat} {Q : State → Prop} {B : Bool} {N pc : Nat} {lv : List (Nat × Value)} {st : List Value} {h h' : Hp} {o : Nat} {fs : List Value} {v : Value} (hc : h o = .inr (1, fs)) (ho : o < N) (hv : fs[8]? = some v) (hd : decode cc pc = .ok (.getfield 89, 3)) (kk : V E X R RX0 cc nL ret k n Q B N (pc + 3) lv (v :: st) h) : V E X R RX0 cc nL ret k n Q B N pc lv (.ref (Ez E + o) :: st) h := v_get inB1 rfl 8 (by decide) fl_X0_89 hc ho hv hd kk
theorem g_X1_41 {E : Ev} {X : Cx} {R : Room} {cc : ByteArray} {nL : Nat} {ret : Option FieldType} {k n : Nat} {Q : State → Prop} {B : Bool} {N pc : Nat} {lv : List (Nat × Value)} {st : List Value} {h h' : Hp} {o : Nat} {fs : List Value} {v : Value} (hc : h o = .inr (1, fs)) (ho : o < N) (hv : fs[9]? = some v) (hd : decode cc pc = .ok (.getfield 41, 3)) (kk : V E X R RX1 cc nL ret k n Q B N (pc + 3) lv (v :: st) h) : V E X R RX1 cc nL ret k n Q B N pc lv (.ref (Ez E + o) :: st) h := v_get inB1 rfl 9 (by decide) fl_X1_41 hc ho hv hd kk
theorem p_X1_41 {E : Ev} {X : Cx} {R : Room} {cc : ByteArray} {nL : Nat} {ret : Option FieldType} {k n : Nat} {Q : State → Prop} {B : Bool} {N pc : Nat} {lv : List (Nat × Value)} {st : List Value} {h h' : Hp} {o : Nat} {fs : List Value} {v : Value} (hin : X.2.2.2.2.2.2.1.name = "<init>") (hc : h o = .inr (1, fs)) (ho : o < N) (hn2 : narrow (.array .int) v = v) (hfit : fits (.array .int) v = true) (hl2 : 9 < fs.length) (hd : decode cc pc = .ok (.putfield 41, 3)) (hu : ∀ o', o' < N → h' o' = va_up h o (.inr (1, fs.set 9 v)) o') (kk : V E X R RX1 cc nL ret k n Q B N (pc + 3) lv st h') : V E X R RX1 cc nL ret k n Q B N pc lv (v :: .ref (Ez E + o) :: st) h := v_putF inB1 tyX1 tyX1_ok nmX1 rfl 9 (by decide) fl_X1_41 rfl hin rfl (by decide +kernel) hc ho hn2 hfit hl2 hd hu kk
theorem g_X6_192 {E : Ev} {X : Cx} {R : Room} {cc : ByteArray} {nL : Nat} {ret : Option FieldType} {k n : Nat} {Q : State → Prop} {B : Bool} {N pc : Nat} {lv : List (Nat × Value)} {st : List Value} {h h' : Hp} {o : Nat} {fs : List Value} {v : Value} (hc : h o = .inr (1, fs)) (ho : o < N) (hv : fs[9]? = some v) (hd : decode cc pc = .ok (.getfield 192, 3)) (kk : V E X R RX6 cc nL ret k n Q B N (pc + 3) lv (v :: st) h) : V E X R RX6 cc nL ret k n Q B N pc lv (.ref (Ez E + o) :: st) h := v_get inB1 rfl 9 (by decide) fl_X6_192 hc ho hv hd kk
theorem g_X4_76 {E : Ev} {X : Cx} {R : Room} {cc : ByteArray} {nL : Nat} {ret : Option FieldType} {k n : Nat} {Q : State → Prop} {B : Bool} {N pc : Nat} {lv : List (Nat × Value)} {st : List Value} {h h' : Hp} {o : Nat} {fs : List Value} {v : Value} (hc : h o = .inr (1, fs)) (ho : o < N) (hv : fs[9]? = some v) (hd : decode cc pc = .ok (.getfield 76, 3)) (kk : V E X R RX4 cc nL ret k n Q B N (pc + 3) lv (v :: st) h) : V E X R RX4 cc nL ret k n Q B N pc lv (.ref (Ez E + o) :: st) h := v_get inB1 rfl 9 (by decide) fl_X4_76 hc ho hv hd kk
theorem g_X0_92 {E : Ev} {X : Cx} {R : Room} {cc : ByteArray} {nL : Nat} {ret : Option FieldType} {k n : Nat} {Q : State → Prop} {B : Bool} {N pc : Nat} {lv : List (Nat × Value)} {st : List Value} {h h' : Hp} {o : Nat} {fs : List Value} {v : Value} (hc : h o = .inr (1, fs)) (ho : o < N) (hv : fs[9]? = some v) (hd : decode cc pc = .ok (.getfield 92, 3)) (kk : V E X R RX0 cc nL ret k n Q B N (pc + 3) lv (v :: st) h) : V E X R RX0 cc nL ret k n Q B N pc lv (.ref (Ez E + o) :: st) h := v_get inB1 rfl 9 (by decide) fl_X0_92 hc ho hv hd kk
theorem g_X1_44 {E : Ev} {X : Cx} {R : Room} {cc : ByteArray} {nL : Nat} {ret : Option FieldType} {k n : Nat} {Q : State → Prop} {B : Bool} {N pc : Nat} {lv : List (Nat × Value)} {st : List Value} {h h' : Hp} {o : Nat} {fs : List Value} {v : Value} (hc : h o = .inr (1, fs)) (ho : o < N) (hv : fs[10]? = some v) (hd : decode cc pc = .ok (.getfield 44, 3)) (kk : V E X R RX1 cc nL ret k n Q B N (pc + 3) lv (v :: st) h) : V E X R RX1 cc nL ret k n Q B N pc lv (.ref (Ez E + o) :: st) h := v_get inB1 rfl 10 (by decide) fl_X1_44 hc ho hv hd kk
theorem p_X1_44 {E : Ev} {X : Cx} {R : Room} {cc : ByteArray} {nL : Nat} {ret : Option FieldType} {k n : Nat} {Q : State → Prop} {B : Bool} {N pc : Nat} {lv : List (Nat × Value)} {st : List Value} {h h' : Hp} {o : Nat} {fs : List Value} {v : Value} (hin : X.2.2.2.2.2.2.1.name = "<init>") (hc : h o = .inr (1, fs)) (ho : o < N) (hn2 : narrow (.array .int) v = v) (hfit : fits (.array .int) v = true) (hl2 : 10 < fs.length) (hd : decode cc pc = .ok (.putfield 44, 3)) (hu : ∀ o', o' < N → h' o' = va_up h o (.inr (1, fs.set 10 v)) o') (kk : V E X R RX1 cc nL ret k n Q B N (pc + 3) lv st h') : V E X R RX1 cc nL ret k n Q B N pc lv (v :: .ref (Ez E + o) :: st) h := v_putF inB1 tyX1 tyX1_ok nmX1 rfl 10 (by decide) fl_X1_44 rfl hin rfl (by decide +kernel) hc ho hn2 hfit hl2 hd hu kk
theorem g_X0_55 {E : Ev} {X : Cx} {R : Room} {cc : ByteArray} {nL : Nat} {ret : Option FieldType} {k n : Nat} {Q : State → Prop} {B : Bool} {N pc : Nat} {lv : List (Nat × Value)} {st : List Value} {h h' : Hp} {o : Nat} {fs : List Value} {v : Value} (hc : h o = .inr (1, fs)) (ho : o < N) (hv : fs[10]? = some v) (hd : decode cc pc = .ok (.getfield 55, 3)) (kk : V E X R RX0 cc nL ret k n Q B N (pc + 3) lv (v :: st) h) : V E X R RX0 cc nL ret k n Q B N pc lv (.ref (Ez E + o) :: st) h := v_get inB1 rfl 10 (by decide) fl_X0_55 hc ho hv hd kk
theorem g_X0_9 {E : Ev} {X : Cx} {R : Room} {cc : ByteArray} {nL : Nat} {ret : Option FieldType} {k n : Nat} {Q : State → Prop} {B : Bool} {N pc : Nat} {lv : List (Nat × Value)} {st : List Value} {h h' : Hp} {o : Nat} {fs : List Value} {v : Value} (hc : h o = .inr (0, fs)) (ho : o < N) (hv : fs[0]? = some v) (hd : decode cc pc = .ok (.getfield 9, 3)) (kk : V E X R RX0 cc nL ret k n Q B N (pc + 3) lv (v :: st) h) : V E X R RX0 cc nL ret k n Q B N pc lv (.ref (Ez E + o) :: st) h := v_get inB0 rfl 0 (by decide) fl_X0_9 hc ho hv hd kk
theorem p_X0_9 {E : Ev} {X : Cx} {R : Room} {cc : ByteArray} {nL : Nat} {ret : Option FieldType} {k n : Nat} {Q : State → Prop} {B : Bool} {N pc : Nat} {lv : List (Nat × Value)} {st : List Value} {h h' : Hp} {o : Nat} {fs : List Value} {v : Value} (hc : h o = .inr (0, fs)) (ho : o < N) (hn2 : narrow .int v = v) (hfit : fits .int v = true) (hl2 : 0 < fs.length) (hd : decode cc pc = .ok (.putfield 9, 3)) (hu : ∀ o', o' < N → h' o' = va_up h o (.inr (0, fs.set 0 v)) o') (kk : V E X R RX0 cc nL ret k n Q B N (pc + 3) lv st h') : V E X R RX0 cc nL ret k n Q B N pc lv (v :: .ref (Ez E + o) :: st) h := v_put inB0 tyX0 tyX0_ok nmX0 rfl 0 (by decide) fl_X0_9 rfl (by decide +kernel) hc ho hn2 hfit hl2 hd hu kk
theorem g_X6_116 {E : Ev} {X : Cx} {R : Room} {cc : ByteArray} {nL : Nat} {ret : Option FieldType} {k n : Nat} {Q : State → Prop} {B : Bool} {N pc : Nat} {lv : List (Nat × Value)} {st : List Value} {h h' : Hp} {o : Nat} {fs : List Value} {v : Value} (hc : h o = .inr (0, fs)) (ho : o < N) (hv : fs[0]? = some v) (hd : decode cc pc = .ok (.getfield 116, 3)) (kk : V E X R RX6 cc nL ret k n Q B N (pc + 3) lv (v :: st) h) : V E X R RX6 cc nL ret k n Q B N pc lv (.ref (Ez E + o) :: st) h := v_get inB0 rfl 0 (by decide) fl_X6_116 hc ho hv hd kk
theorem p_X6_116 {E : Ev} {X : Cx} {R : Room} {cc : ByteArray} {nL : Nat} {ret : Option FieldType} {k n : Nat} {Q : State → Prop} {B : Bool} {N pc : Nat} {lv : List (Nat × Value)} {st : List Value} {h h' : Hp} {o : Nat} {fs : List Value} {v : Value} (hc : h o = .inr (0, fs)) (ho : o < N) (hn2 : narrow .int v = v) (hfit : fits .int v = true) (hl2 : 0 < fs.length) (hd : decode cc pc = .ok (.putfield 116, 3)) (hu : ∀ o', o' < N → h' o' = va_up h o (.inr (0, fs.set 0 v)) o') (kk : V E X R RX6 cc nL ret k n Q B N (pc + 3) lv st h') : V E X R RX6 cc nL ret k n Q B N pc lv (v :: .ref (Ez E + o) :: st) h := v_put inB0 tyX0 tyX0_ok nmX0 rfl 0 (by decide) fl_X6_116 rfl (by decide +kernel) hc ho hn2 hfit hl2 hd hu kk
theorem g_X0_15 {E : Ev} {X : Cx} {R : Room} {cc : ByteArray} {nL : Nat} {ret : Option FieldType} {k n : Nat} {Q : State → Prop} {B : Bool} {N pc : Nat} {lv : List (Nat × Value)} {st : List Value} {h h' : Hp} {o : Nat} {fs : List Value} {v : Value} (hc : h o = .inr (0, fs)) (ho : o < N) (hv : fs[1]? = some v) (hd : decode cc pc = .ok (.getfield 15, 3)) (kk : V E X R RX0 cc nL ret k n Q B N (pc + 3) lv (v :: st) h) : V E X R RX0 cc nL ret k n Q B N pc lv (.ref (Ez E + o) :: st) h := v_get inB0 rfl 1 (by decide) fl_X0_15 hc ho hv hd kk
theorem p_X0_15 {E : Ev} {X : Cx} {R : Room} {cc : ByteArray} {nL : Nat} {ret : Option FieldType} {k n : Nat} {Q : State → Prop} {B : Bool} {N pc : Nat} {lv : List (Nat × Value)} {st : List Value} {h h' : Hp} {o : Nat} {fs : List Value} {v : Value} (hc : h o = .inr (0, fs)) (ho : o < N) (hn2 : narrow .int v = v) (hfit : fits .int v = true) (hl2 : 1 < fs.length) (hd : decode cc pc = .ok (.putfield 15, 3)) (hu : ∀ o', o' < N → h' o' = va_up h o (.inr (0, fs.set 1 v)) o') (kk : V E X R RX0 cc nL ret k n Q B N (pc + 3) lv st h') : V E X R RX0 cc nL ret k n Q B N pc lv (v :: .ref (Ez E + o) :: st) h := v_put inB0 tyX0 tyX0_ok nmX0 rfl 1 (by decide) fl_X0_15 rfl (by decide +kernel) hc ho hn2 hfit hl2 hd hu kk
theorem g_X6_113 {E : Ev} {X : Cx} {R : Room} {cc : ByteArray} {nL : Nat} {ret : Option FieldType} {k n : Nat} {Q : State → Prop} {B : Bool} {N pc : Nat} {lv : List (Nat × Value)} {st : List Value} {h h' : Hp} {o : Nat} {fs : List Value} {v : Value} (hc : h o = .inr (0, fs)) (ho : o < N) (hv : fs[1]? = some v) (hd : decode cc pc = .ok (.getfield 113, 3)) (kk : V E X R RX6 cc nL ret k n Q B N (pc + 3) lv (v :: st) h) : V E X R RX6 cc nL ret k n Q B N pc lv (.ref (Ez E + o) :: st) h := v_get inB0 rfl 1 (by decide) fl_X6_113 hc ho hv hd kk
theorem p_X6_113 {E : Ev} {X : Cx} {R : Room} {cc : ByteArray} {nL : Nat} {ret : Option FieldType} {k n : Nat} {Q : State → Prop} {B : Bool} {N pc : Nat} {lv : List (Nat × Value)} {st : List Value} {h h' : Hp} {o : Nat} {fs : List Value} {v : Value} (hc : h o = .inr (0, fs)) (ho : o < N) (hn2 : narrow .int v = v) (hfit : fits .int v = true) (hl2 : 1 < fs.length) (hd : decode cc pc = .ok (.putfield 113, 3)) (hu : ∀ o', o' < N → h' o' = va_up h o (.inr (0, fs.set 1 v)) o') (kk : V E X R RX6 cc nL ret k n Q B N (pc + 3) lv st h') : V E X R RX6 cc nL ret k n Q B N pc lv (v :: .ref (Ez E + o) :: st) h := v_put inB0 tyX0 tyX0_ok nmX0 rfl 1 (by decide) fl_X6_113 rfl (by decide +kernel) hc ho hn2 hfit hl2 hd hu kk
theorem g_X0_18 {E : Ev} {X : Cx} {R : Room} {cc : ByteArray} {nL : Nat} {ret : Option FieldType} {k n : Nat} {Q : State → Prop} {B : Bool} {N pc : Nat} {lv : List (Nat × Value)} {st : List Value} {h h' : Hp} {o : Nat} {fs : List Value} {v : Value} (hc : h o = .inr (0, fs)) (ho : o < N) (hv : fs[2]? = some v) (hd : decode cc pc = .ok (.getfield 18, 3)) (kk : V E X R RX0 cc nL ret k n Q B N (pc + 3) lv (v :: st) h) : V E X R RX0 cc nL ret k n Q B N pc lv (.ref (Ez E + o) :: st) h := v_get inB0 rfl 2 (by decide) fl_X0_18 hc ho hv hd kk
theorem p_X0_18 {E : Ev} {X : Cx} {R : Room} {cc : ByteArray} {nL : Nat} {ret : Option FieldType} {k n : Nat} {Q : State → Prop} {B : Bool} {N pc : Nat} {lv : List (Nat × Value)} {st : List Value} {h h' : Hp} {o : Nat} {fs : List Value} {v : Value} (hc : h o = .inr (0, fs)) (ho : o < N) (hn2 : narrow .int v = v) (hfit : fits .int v = true) (hl2 : 2 < fs.length) (hd : decode cc pc = .ok (.putfield 18, 3)) (hu : ∀ o', o' < N → h' o' = va_up h o (.inr (0, fs.set 2 v)) o') (kk : V E X R RX0 cc nL ret k n Q B N (pc + 3) lv st h') : V E X R RX0 cc nL ret k n Q B N pc lv (v :: .ref (Ez E + o) :: st) h := v_put inB0 tyX0 tyX0_ok nmX0 rfl 2 (by decide) fl_X0_18 rfl (by decide +kernel) hc ho hn2 hfit hl2 hd hu kk
theorem g_X6_123 {E : Ev} {X : Cx} {R : Room} {cc : ByteArray} {nL : Nat} {ret : Option FieldType} {k n : Nat} {Q : State → Prop} {B : Bool} {N pc : Nat} {lv : List (Nat × Value)} {st : List Value} {h h' : Hp} {o : Nat} {fs : List Value} {v : Value} (hc : h o = .inr (0, fs)) (ho : o < N) (hv : fs[2]? = some v) (hd : decode cc pc = .ok (.getfield 123, 3)) (kk : V E X R RX6 cc nL ret k n Q B N (pc + 3) lv (v :: st) h) : V E X R RX6 cc nL ret k n Q B N pc lv (.ref (Ez E + o) :: st) h := v_get inB0 rfl 2 (by decide) fl_X6_123 hc ho hv hd kk
theorem p_X6_123 {E : Ev} {X : Cx} {R : Room} {cc : ByteArray} {nL : Nat} {ret : Option FieldType} {k n : Nat} {Q : State → Prop} {B : Bool} {N pc : Nat} {lv : List (Nat × Value)} {st : List Value} {h h' : Hp} {o : Nat} {fs : List Value} {v : Value} (hc : h o = .inr (0, fs)) (ho : o < N) (hn2 : narrow .int v = v) (hfit : fits .int v = true) (hl2 : 2 < fs.length) (hd : decode cc pc = .ok (.putfield 123, 3)) (hu : ∀ o', o' < N → h' o' = va_up h o (.inr (0, fs.set 2 v)) o') (kk : V E X R RX6 cc nL ret k n Q B N (pc + 3) lv st h') : V E X R RX6 cc nL ret k n Q B N pc lv (v :: .ref (Ez E + o) :: st) h := v_put inB0 tyX0 tyX0_ok nmX0 rfl 2 (by decide) fl_X6_123 rfl (by decide +kernel) hc ho hn2 hfit hl2 hd hu kk
theorem g_X0_21 {E : Ev} {X : Cx} {R : Room} {cc : ByteArray} {nL : Nat} {ret : Option FieldType} {k n : Nat} {Q : State → Prop} {B : Bool} {N pc : Nat} {lv : List (Nat × Value)} {st : List Value} {h h' : Hp} {o : Nat} {fs : List Value} {v : Value} (hc : h o = .inr (0, fs)) (ho : o < N) (hv : fs[3]? = some v) (hd : decode cc pc = .ok (.getfield 21, 3)) (kk : V E X R RX0 cc nL ret k n Q B N (pc + 3) lv (v :: st) h) : V E X R RX0 cc nL ret k n Q B N pc lv (.ref (Ez E + o) :: st) h := v_get inB0 rfl 3 (by decide) fl_X0_21 hc ho hv hd kk
theorem p_X0_21 {E : Ev} {X : Cx} {R : Room} {cc : ByteArray} {nL : Nat} {ret : Option FieldType} {k n : Nat} {Q : State → Prop} {B : Bool} {N pc : Nat} {lv : List (Nat × Value)} {st : List Value} {h h' : Hp} {o : Nat} {fs : List Value} {v : Value} (hc : h o = .inr (0, fs)) (ho : o < N) (hn2 : narrow .int v = v) (hfit : fits .int v = true) (hl2 : 3 < fs.length) (hd : decode cc pc = .ok (.putfield 21, 3)) (hu : ∀ o', o' < N → h' o' = va_up h o (.inr (0, fs.set 3 v)) o') (kk : V E X R RX0 cc nL ret k n Q B N (pc + 3) lv st h') : V E X R RX0 cc nL ret k n Q B N pc lv (v :: .ref (Ez E + o) :: st) h := v_put inB0 tyX0 tyX0_ok nmX0 rfl 3 (by decide) fl_X0_21 rfl (by decide +kernel) hc ho hn2 hfit hl2 hd hu kk
theorem g_X6_126 {E : Ev} {X : Cx} {R : Room} {cc : ByteArray} {nL : Nat} {ret : Option FieldType} {k n : Nat} {Q : State → Prop} {B : Bool} {N pc : Nat} {lv : List (Nat × Value)} {st : List Value} {h h' : Hp} {o : Nat} {fs : List Value} {v : Value} (hc : h o = .inr (0, fs)) (ho : o < N) (hv : fs[3]? = some v) (hd : decode cc pc = .ok (.getfield 126, 3)) (kk : V E X R RX6 cc nL ret k n Q B N (pc + 3) lv (v :: st) h) : V E X R RX6 cc nL ret k n Q B N pc lv (.ref (Ez E + o) :: st) h := v_get inB0 rfl 3 (by decide) fl_X6_126 hc ho hv hd kk
theorem p_X6_126 {E : Ev} {X : Cx} {R : Room} {cc : ByteArray} {nL : Nat} {ret : Option FieldType} {k n : Nat} {Q : State → Prop} {B : Bool} {N pc : Nat} {lv : List (Nat × Value)} {st : List Value} {h h' : Hp} {o : Nat} {fs : List Value} {v : Value} (hc : h o = .inr (0, fs)) (ho : o < N) (hn2 : narrow .int v = v) (hfit : fits .int v = true) (hl2 : 3 < fs.length) (hd : decode cc pc = .ok (.putfield 126, 3)) (hu : ∀ o', o' < N → h' o' = va_up h o (.inr (0, fs.set 3 v)) o') (kk : V E X R RX6 cc nL ret k n Q B N (pc + 3) lv st h') : V E X R RX6 cc nL ret k n Q B N pc lv (v :: .ref (Ez E + o) :: st) h := v_put inB0 tyX0 tyX0_ok nmX0 rfl 3 (by decide) fl_X6_126 rfl (by decide +kernel) hc ho hn2 hfit hl2 hd hu kk
theorem g_X0_24 {E : Ev} {X : Cx} {R : Room} {cc : ByteArray} {nL : Nat} {ret : Option FieldType} {k n : Nat} {Q : State → Prop} {B : Bool} {N pc : Nat} {lv : List (Nat × Value)} {st : List Value} {h h' : Hp} {o : Nat} {fs : List Value} {v : Value} (hc : h o = .inr (0, fs)) (ho : o < N) (hv : fs[4]? = some v) (hd : decode cc pc = .ok (.getfield 24, 3)) (kk : V E X R RX0 cc nL ret k n Q B N (pc + 3) lv (v :: st) h) : V E X R RX0 cc nL ret k n Q B N pc lv (.ref (Ez E + o) :: st) h := v_get inB0 rfl 4 (by decide) fl_X0_24 hc ho hv hd kk
theorem p_X0_24 {E : Ev} {X : Cx} {R : Room} {cc : ByteArray} {nL : Nat} {ret : Option FieldType} {k n : Nat} {Q : State → Prop} {B : Bool} {N pc : Nat} {lv : List (Nat × Value)} {st : List Value} {h h' : Hp} {o : Nat} {fs : List Value} {v : Value} (hc : h o = .inr (0, fs)) (ho : o < N) (hn2 : narrow .int v = v) (hfit : fits .int v = true) (hl2 : 4 < fs.length) (hd : decode cc pc = .ok (.putfield 24, 3)) (hu : ∀ o', o' < N → h' o' = va_up h o (.inr (0, fs.set 4 v)) o') (kk : V E X R RX0 cc nL ret k n Q B N (pc + 3) lv st h') : V E X R RX0 cc nL ret k n Q B N pc lv (v :: .ref (Ez E + o) :: st) h := v_put inB0 tyX0 tyX0_ok nmX0 rfl 4 (by decide) fl_X0_24 rfl (by decide +kernel) hc ho hn2 hfit hl2 hd hu kk
theorem g_X0_27 {E : Ev} {X : Cx} {R : Room} {cc : ByteArray} {nL : Nat} {ret : Option FieldType} {k n : Nat} {Q : State → Prop} {B : Bool} {N pc : Nat} {lv : List (Nat × Value)} {st : List Value} {h h' : Hp} {o : Nat} {fs : List Value} {v : Value} (hc : h o = .inr (0, fs)) (ho : o < N) (hv : fs[5]? = some v) (hd : decode cc pc = .ok (.getfield 27, 3)) (kk : V E X R RX0 cc nL ret k n Q B N (pc + 3) lv (v :: st) h) : V E X R RX0 cc nL ret k n Q B N pc lv (.ref (Ez E + o) :: st) h := v_get inB0 rfl 5 (by decide) fl_X0_27 hc ho hv hd kk
theorem p_X0_27 {E : Ev} {X : Cx} {R : Room} {cc : ByteArray} {nL : Nat} {ret : Option FieldType} {k n : Nat} {Q : State → Prop} {B : Bool} {N pc : Nat} {lv : List (Nat × Value)} {st : List Value} {h h' : Hp} {o : Nat} {fs : List Value} {v : Value} (hin : X.2.2.2.2.2.2.1.name = "<init>") (hc : h o = .inr (0, fs)) (ho : o < N) (hn2 : narrow (.array .int) v = v) (hfit : fits (.array .int) v = true) (hl2 : 5 < fs.length) (hd : decode cc pc = .ok (.putfield 27, 3)) (hu : ∀ o', o' < N → h' o' = va_up h o (.inr (0, fs.set 5 v)) o') (kk : V E X R RX0 cc nL ret k n Q B N (pc + 3) lv st h') : V E X R RX0 cc nL ret k n Q B N pc lv (v :: .ref (Ez E + o) :: st) h := v_putF inB0 tyX0 tyX0_ok nmX0 rfl 5 (by decide) fl_X0_27 rfl hin rfl (by decide +kernel) hc ho hn2 hfit hl2 hd hu kk
theorem g_X6_164 {E : Ev} {X : Cx} {R : Room} {cc : ByteArray} {nL : Nat} {ret : Option FieldType} {k n : Nat} {Q : State → Prop} {B : Bool} {N pc : Nat} {lv : List (Nat × Value)} {st : List Value} {h h' : Hp} {o : Nat} {fs : List Value} {v : Value} (hc : h o = .inr (0, fs)) (ho : o < N) (hv : fs[5]? = some v) (hd : decode cc pc = .ok (.getfield 164, 3)) (kk : V E X R RX6 cc nL ret k n Q B N (pc + 3) lv (v :: st) h) : V E X R RX6 cc nL ret k n Q B N pc lv (.ref (Ez E + o) :: st) h := v_get inB0 rfl 5 (by decide) fl_X6_164 hc ho hv hd kk
theorem g_X3_38 {E : Ev} {X : Cx} {R : Room} {cc : ByteArray} {nL : Nat} {ret : Option FieldType} {k n : Nat} {Q : State → Prop} {B : Bool} {N pc : Nat} {lv : List (Nat × Value)} {st : List Value} {h h' : Hp} {o : Nat} {fs : List Value} {v : Value} (hc : h o = .inr (0, fs)) (ho : o < N) (hv : fs[5]? = some v) (hd : decode cc pc = .ok (.getfield 38, 3)) (kk : V E X R RX3 cc nL ret k n Q B N (pc + 3) lv (v :: st) h) : V E X R RX3 cc nL ret k n Q B N pc lv (.ref (Ez E + o) :: st) h := v_get inB0 rfl 5 (by decide) fl_X3_38 hc ho hv hd kk
theorem g_X4_67 {E : Ev} {X : Cx} {R : Room} {cc : ByteArray} {nL : Nat} {ret : Option FieldType} {k n : Nat} {Q : State → Prop} {B : Bool} {N pc : Nat} {lv : List (Nat × Value)} {st : List Value} {h h' : Hp} {o : Nat} {fs : List Value} {v : Value} (hc : h o = .inr (0, fs)) (ho : o < N) (hv : fs[5]? = some v) (hd : decode cc pc = .ok (.getfield 67, 3)) (kk : V E X R RX4 cc nL ret k n Q B N (pc + 3) lv (v :: st) h) : V E X R RX4 cc nL ret k n Q B N pc lv (.ref (Ez E + o) :: st) h := v_get inB0 rfl 5 (by decide) fl_X4_67 hc ho hv hd kk
theorem g_X0_31 {E : Ev} {X : Cx} {R : Room} {cc : ByteArray} {nL : Nat} {ret : Option FieldType} {k n : Nat} {Q : State → Prop} {B : Bool} {N pc : Nat} {lv : List (Nat × Value)} {st : List Value} {h h' : Hp} {o : Nat} {fs : List Value} {v : Value} (hc : h o = .inr (0, fs)) (ho : o < N) (hv : fs[6]? = some v) (hd : decode cc pc = .ok (.getfield 31, 3)) (kk : V E X R RX0 cc nL ret k n Q B N (pc + 3) lv (v :: st) h) : V E X R RX0 cc nL ret k n Q B N pc lv (.ref (Ez E + o) :: st) h := v_get inB0 rfl 6 (by decide) fl_X0_31 hc ho hv hd kk
theorem p_X0_31 {E : Ev} {X : Cx} {R : Room} {cc : ByteArray} {nL : Nat} {ret : Option FieldType} {k n : Nat} {Q : State → Prop} {B : Bool} {N pc : Nat} {lv : List (Nat × Value)} {st : List Value} {h h' : Hp} {o : Nat} {fs : List Value} {v : Value} (hin : X.2.2.2.2.2.2.1.name = "<init>") (hc : h o = .inr (0, fs)) (ho : o < N) (hn2 : narrow (.array .int) v = v) (hfit : fits (.array .int) v = true) (hl2 : 6 < fs.length) (hd : decode cc pc = .ok (.putfield 31, 3)) (hu : ∀ o', o' < N → h' o' = va_up h o (.inr (0, fs.set 6 v)) o') (kk : V E X R RX0 cc nL ret k n Q B N (pc + 3) lv st h') : V E X R RX0 cc nL ret k n Q B N pc lv (v :: .ref (Ez E + o) :: st) h := v_putF inB0 tyX0 tyX0_ok nmX0 rfl 6 (by decide) fl_X0_31 rfl hin rfl (by decide +kernel) hc ho hn2 hfit hl2 hd hu kk
theorem g_X6_170 {E : Ev} {X : Cx} {R : Room} {cc : ByteArray} {nL : Nat} {ret : Option FieldType} {k n : Nat} {Q : State → Prop} {B : Bool} {N pc : Nat} {lv : List (Nat × Value)} {st : List Value} {h h' : Hp} {o : Nat} {fs : List Value} {v : Value} (hc : h o = .inr (0, fs)) (ho : o < N) (hv : fs[6]? = some v) (hd : decode cc pc = .ok (.getfield 170, 3)) (kk : V E X R RX6 cc nL ret k n Q B N (pc + 3) lv (v :: st) h) : V E X R RX6 cc nL ret k n Q B N pc lv (.ref (Ez E + o) :: st) h := v_get inB0 rfl 6 (by decide) fl_X6_170 hc ho hv hd kk
theorem g_X0_34 {E : Ev} {X : Cx} {R : Room} {cc : ByteArray} {nL : Nat} {ret : Option FieldType} {k n : Nat} {Q : State → Prop} {B : Bool} {N pc : Nat} {lv : List (Nat × Value)} {st : List Value} {h h' : Hp} {o : Nat} {fs : List Value} {v : Value} (hc : h o = .inr (0, fs)) (ho : o < N) (hv : fs[7]? = some v) (hd : decode cc pc = .ok (.getfield 34, 3)) (kk : V E X R RX0 cc nL ret k n Q B N (pc + 3) lv (v :: st) h) : V E X R RX0 cc nL ret k n Q B N pc lv (.ref (Ez E + o) :: st) h := v_get inB0 rfl 7 (by decide) fl_X0_34 hc ho hv hd kk
theorem p_X0_34 {E : Ev} {X : Cx} {R : Room} {cc : ByteArray} {nL : Nat} {ret : Option FieldType} {k n : Nat} {Q : State → Prop} {B : Bool} {N pc : Nat} {lv : List (Nat × Value)} {st : List Value} {h h' : Hp} {o : Nat} {fs : List Value} {v : Value} (hin : X.2.2.2.2.2.2.1.name = "<init>") (hc : h o = .inr (0, fs)) (ho : o < N) (hn2 : narrow (.array .int) v = v) (hfit : fits (.array .int) v = true) (hl2 : 7 < fs.length) (hd : decode cc pc = .ok (.putfield 34, 3)) (hu : ∀ o', o' < N → h' o' = va_up h o (.inr (0, fs.set 7 v)) o') (kk : V E X R RX0 cc nL ret k n Q B N (pc + 3) lv st h') : V E X R RX0 cc nL ret k n Q B N pc lv (v :: .ref (Ez E + o) :: st) h := v_putF inB0 tyX0 tyX0_ok nmX0 rfl 7 (by decide) fl_X0_34 rfl hin rfl (by decide +kernel) hc ho hn2 hfit hl2 hd hu kk
theorem g_X4_44 {E : Ev} {X : Cx} {R : Room} {cc : ByteArray} {nL : Nat} {ret : Option FieldType} {k n : Nat} {Q : State → Prop} {B : Bool} {N pc : Nat} {lv : List (Nat × Value)} {st : List Value} {h h' : Hp} {o : Nat} {fs : List Value} {v : Value} (hc : h o = .inr (0, fs)) (ho : o < N) (hv : fs[7]? = some v) (hd : decode cc pc = .ok (.getfield 44, 3)) (kk : V E X R RX4 cc nL ret k n Q B N (pc + 3) lv (v :: st) h) : V E X R RX4 cc nL ret k n Q B N pc lv (.ref (Ez E + o) :: st) h := v_get inB0 rfl 7 (by decide) fl_X4_44 hc ho hv hd kk
theorem g_X6_195 {E : Ev} {X : Cx} {R : Room} {cc : ByteArray} {nL : Nat} {ret : Option FieldType} {k n : Nat} {Q : State → Prop} {B : Bool} {N pc : Nat} {lv : List (Nat × Value)} {st : List Value} {h h' : Hp} {o : Nat} {fs : List Value} {v : Value} (hc : h o = .inr (0, fs)) (ho : o < N) (hv : fs[7]? = some v) (hd : decode cc pc = .ok (.getfield 195, 3)) (kk : V E X R RX6 cc nL ret k n Q B N (pc + 3) lv (v :: st) h) : V E X R RX6 cc nL ret k n Q B N pc lv (.ref (Ez E + o) :: st) h := v_get inB0 rfl 7 (by decide) fl_X6_195 hc ho hv hd kk
theorem g_X0_37 {E : Ev} {X : Cx} {R : Room} {cc : ByteArray} {nL : Nat} {ret : Option FieldType} {k n : Nat} {Q : State → Prop} {B : Bool} {N pc : Nat} {lv : List (Nat × Value)} {st : List Value} {h h' : Hp} {o : Nat} {fs : List Value} {v : Value} (hc : h o = .inr (0, fs)) (ho : o < N) (hv : fs[8]? = some v) (hd : decode cc pc = .ok (.getfield 37, 3)) (kk : V E X R RX0 cc nL ret k n Q B N (pc + 3) lv (v :: st) h) : V E X R RX0 cc nL ret k n Q B N pc lv (.ref (Ez E + o) :: st) h := v_get inB0 rfl 8 (by decide) fl_X0_37 hc ho hv hd kk
theorem p_X0_37 {E : Ev} {X : Cx} {R : Room} {cc : ByteArray} {nL : Nat} {ret : Option FieldType} {k n : Nat} {Q : State → Prop} {B : Bool} {N pc : Nat} {lv : List (Nat × Value)} {st : List Value} {h h' : Hp} {o : Nat} {fs : List Value} {v : Value} (hin : X.2.2.2.2.2.2.1.name = "<init>") (hc : h o = .inr (0, fs)) (ho : o < N) (hn2 : narrow (.array .int) v = v) (hfit : fits (.array .int) v = true) (hl2 : 8 < fs.length) (hd : decode cc pc = .ok (.putfield 37, 3)) (hu : ∀ o', o' < N → h' o' = va_up h o (.inr (0, fs.set 8 v)) o') (kk : V E X R RX0 cc nL ret k n Q B N (pc + 3) lv st h') : V E X R RX0 cc nL ret k n Q B N pc lv (v :: .ref (Ez E + o) :: st) h := v_putF inB0 tyX0 tyX0_ok nmX0 rfl 8 (by decide) fl_X0_37 rfl hin rfl (by decide +kernel) hc ho hn2 hfit hl2 hd hu kk
theorem g_X2_11 {E : Ev} {X : Cx} {R : Room} {cc : ByteArray} {nL : Nat} {ret : Option FieldType} {k n : Nat} {Q : State → Prop} {B : Bool} {N pc : Nat} {lv : List (Nat × Value)} {st : List Value} {h h' : Hp} {o : Nat} {fs : List Value} {v : Value} (hc : h o = .inr (2, fs)) (ho : o < N) (hv : fs[0]? = some v) (hd : decode cc pc = .ok (.getfield 11, 3)) (kk : V E X R RX2 cc nL ret k n Q B N (pc + 3) lv (v :: st) h) : V E X R RX2 cc nL ret k n Q B N pc lv (.ref (Ez E + o) :: st) h := v_get inB2 rfl 0 (by decide) fl_X2_11 hc ho hv hd kk
theorem p_X2_11 {E : Ev} {X : Cx} {R : Room} {cc : ByteArray} {nL : Nat} {ret : Option FieldType} {k n : Nat} {Q : State → Prop} {B : Bool} {N pc : Nat} {lv : List (Nat × Value)} {st : List Value} {h h' : Hp} {o : Nat} {fs : List Value} {v : Value} (hin : X.2.2.2.2.2.2.1.name = "<init>") (hc : h o = .inr (2, fs)) (ho : o < N) (hn2 : narrow (.array (.object "SparrowChange$Flock")) v = v) (hfit : fits (.array (.object "SparrowChange$Flock")) v = true) (hl2 : 0 < fs.length) (hd : decode cc pc = .ok (.putfield 11, 3)) (hu : ∀ o', o' < N → h' o' = va_up h o (.inr (2, fs.set 0 v)) o') (kk : V E X R RX2 cc nL ret k n Q B N (pc + 3) lv st h') : V E X R RX2 cc nL ret k n Q B N pc lv (v :: .ref (Ez E + o) :: st) h := v_putF inB2 tyX2 tyX2_ok nmX2 rfl 0 (by decide) fl_X2_11 rfl hin rfl (by decide +kernel) hc ho hn2 hfit hl2 hd hu kk
theorem g_X2_17 {E : Ev} {X : Cx} {R : Room} {cc : ByteArray} {nL : Nat} {ret : Option FieldType} {k n : Nat} {Q : State → Prop} {B : Bool} {N pc : Nat} {lv : List (Nat × Value)} {st : List Value} {h h' : Hp} {o : Nat} {fs : List Value} {v : Value} (hc : h o = .inr (2, fs)) (ho : o < N) (hv : fs[1]? = some v) (hd : decode cc pc = .ok (.getfield 17, 3)) (kk : V E X R RX2 cc nL ret k n Q B N (pc + 3) lv (v :: st) h) : V E X R RX2 cc nL ret k n Q B N pc lv (.ref (Ez E + o) :: st) h := v_get inB2 rfl 1 (by decide) fl_X2_17 hc ho hv hd kk
theorem p_X2_17 {E : Ev} {X : Cx} {R : Room} {cc : ByteArray} {nL : Nat} {ret : Option FieldType} {k n : Nat} {Q : State → Prop} {B : Bool} {N pc : Nat} {lv : List (Nat × Value)} {st : List Value} {h h' : Hp} {o : Nat} {fs : List Value} {v : Value} (hc : h o = .inr (2, fs)) (ho : o < N) (hn2 : narrow .int v = v) (hfit : fits .int v = true) (hl2 : 1 < fs.length) (hd : decode cc pc = .ok (.putfield 17, 3)) (hu : ∀ o', o' < N → h' o' = va_up h o (.inr (2, fs.set 1 v)) o') (kk : V E X R RX2 cc nL ret k n Q B N (pc + 3) lv st h') : V E X R RX2 cc nL ret k n Q B N pc lv (v :: .ref (Ez E + o) :: st) h := v_put inB2 tyX2 tyX2_ok nmX2 rfl 1 (by decide) fl_X2_17 rfl (by decide +kernel) hc ho hn2 hfit hl2 hd hu kk
theorem g_X2_21 {E : Ev} {X : Cx} {R : Room} {cc : ByteArray} {nL : Nat} {ret : Option FieldType} {k n : Nat} {Q : State → Prop} {B : Bool} {N pc : Nat} {lv : List (Nat × Value)} {st : List Value} {h h' : Hp} {o : Nat} {fs : List Value} {v : Value} (hc : h o = .inr (2, fs)) (ho : o < N) (hv : fs[2]? = some v) (hd : decode cc pc = .ok (.getfield 21, 3)) (kk : V E X R RX2 cc nL ret k n Q B N (pc + 3) lv (v :: st) h) : V E X R RX2 cc nL ret k n Q B N pc lv (.ref (Ez E + o) :: st) h := v_get inB2 rfl 2 (by decide) fl_X2_21 hc ho hv hd kk
theorem p_X2_21 {E : Ev} {X : Cx} {R : Room} {cc : ByteArray} {nL : Nat} {ret : Option FieldType} {k n : Nat} {Q : State → Prop} {B : Bool} {N pc : Nat} {lv : List (Nat × Value)} {st : List Value} {h h' : Hp} {o : Nat} {fs : List Value} {v : Value} (hc : h o = .inr (2, fs)) (ho : o < N) (hn2 : narrow .int v = v) (hfit : fits .int v = true) (hl2 : 2 < fs.length) (hd : decode cc pc = .ok (.putfield 21, 3)) (hu : ∀ o', o' < N → h' o' = va_up h o (.inr (2, fs.set 2 v)) o') (kk : V E X R RX2 cc nL ret k n Q B N (pc + 3) lv st h') : V E X R RX2 cc nL ret k n Q B N pc lv (v :: .ref (Ez E + o) :: st) h := v_put inB2 tyX2 tyX2_ok nmX2 rfl 2 (by decide) fl_X2_21 rfl (by decide +kernel) hc ho hn2 hfit hl2 hd hu kk
theorem g_X6_153 {E : Ev} {X : Cx} {R : Room} {cc : ByteArray} {nL : Nat} {ret : Option FieldType} {k n : Nat} {Q : State → Prop} {B : Bool} {N pc : Nat} {lv : List (Nat × Value)} {st : List Value} {h h' : Hp} {o : Nat} {fs : List Value} {v : Value} (hc : h o = .inr (2, fs)) (ho : o < N) (hv : fs[2]? = some v) (hd : decode cc pc = .ok (.getfield 153, 3)) (kk : V E X R RX6 cc nL ret k n Q B N (pc + 3) lv (v :: st) h) : V E X R RX6 cc nL ret k n Q B N pc lv (.ref (Ez E + o) :: st) h := v_get inB2 rfl 2 (by decide) fl_X6_153 hc ho hv hd kk
theorem p_X6_153 {E : Ev} {X : Cx} {R : Room} {cc : ByteArray} {nL : Nat} {ret : Option FieldType} {k n : Nat} {Q : State → Prop} {B : Bool} {N pc : Nat} {lv : List (Nat × Value)} {st : List Value} {h h' : Hp} {o : Nat} {fs : List Value} {v : Value} (hc : h o = .inr (2, fs)) (ho : o < N) (hn2 : narrow .int v = v) (hfit : fits .int v = true) (hl2 : 2 < fs.length) (hd : decode cc pc = .ok (.putfield 153, 3)) (hu : ∀ o', o' < N → h' o' = va_up h o (.inr (2, fs.set 2 v)) o') (kk : V E X R RX6 cc nL ret k n Q B N (pc + 3) lv st h') : V E X R RX6 cc nL ret k n Q B N pc lv (v :: .ref (Ez E + o) :: st) h := v_put inB2 tyX2 tyX2_ok nmX2 rfl 2 (by decide) fl_X6_153 rfl (by decide +kernel) hc ho hn2 hfit hl2 hd hu kk
theorem g_X4_9 {E : Ev} {X : Cx} {R : Room} {cc : ByteArray} {nL : Nat} {ret : Option FieldType} {k n : Nat} {Q : State → Prop} {B : Bool} {N pc : Nat} {lv : List (Nat × Value)} {st : List Value} {h h' : Hp} {o : Nat} {fs : List Value} {v : Value} (hc : h o = .inr (4, fs)) (ho : o < N) (hv : fs[0]? = some v) (hd : decode cc pc = .ok (.getfield 9, 3)) (kk : V E X R RX4 cc nL ret k n Q B N (pc + 3) lv (v :: st) h) : V E X R RX4 cc nL ret k n Q B N pc lv (.ref (Ez E + o) :: st) h := v_get inB4 rfl 0 (by decide) fl_X4_9 hc ho hv hd kk
theorem p_X4_9 {E : Ev} {X : Cx} {R : Room} {cc : ByteArray} {nL : Nat} {ret : Option FieldType} {k n : Nat} {Q : State → Prop} {B : Bool} {N pc : Nat} {lv : List (Nat × Value)} {st : List Value} {h h' : Hp} {o : Nat} {fs : List Value} {v : Value} (hin : X.2.2.2.2.2.2.1.name = "<init>") (hc : h o = .inr (4, fs)) (ho : o < N) (hn2 : narrow (.array .int) v = v) (hfit : fits (.array .int) v = true) (hl2 : 0 < fs.length) (hd : decode cc pc = .ok (.putfield 9, 3)) (hu : ∀ o', o' < N → h' o' = va_up h o (.inr (4, fs.set 0 v)) o') (kk : V E X R RX4 cc nL ret k n Q B N (pc + 3) lv st h') : V E X R RX4 cc nL ret k n Q B N pc lv (v :: .ref (Ez E + o) :: st) h := v_putF inB4 tyX4 tyX4_ok nmX4 rfl 0 (by decide) fl_X4_9 rfl hin rfl (by decide +kernel) hc ho hn2 hfit hl2 hd hu kk
theorem g_X4_15 {E : Ev} {X : Cx} {R : Room} {cc : ByteArray} {nL : Nat} {ret : Option FieldType} {k n : Nat} {Q : State → Prop} {B : Bool} {N pc : Nat} {lv : List (Nat × Value)} {st : List Value} {h h' : Hp} {o : Nat} {fs : List Value} {v : Value} (hc : h o = .inr (4, fs)) (ho : o < N) (hv : fs[1]? = some v) (hd : decode cc pc = .ok (.getfield 15, 3)) (kk : V E X R RX4 cc nL ret k n Q B N (pc + 3) lv (v :: st) h) : V E X R RX4 cc nL ret k n Q B N pc lv (.ref (Ez E + o) :: st) h := v_get inB4 rfl 1 (by decide) fl_X4_15 hc ho hv hd kk
theorem p_X4_15 {E : Ev} {X : Cx} {R : Room} {cc : ByteArray} {nL : Nat} {ret : Option FieldType} {k n : Nat} {Q : State → Prop} {B : Bool} {N pc : Nat} {lv : List (Nat × Value)} {st : List Value} {h h' : Hp} {o : Nat} {fs : List Value} {v : Value} (hin : X.2.2.2.2.2.2.1.name = "<init>") (hc : h o = .inr (4, fs)) (ho : o < N) (hn2 : narrow (.array .int) v = v) (hfit : fits (.array .int) v = true) (hl2 : 1 < fs.length) (hd : decode cc pc = .ok (.putfield 15, 3)) (hu : ∀ o', o' < N → h' o' = va_up h o (.inr (4, fs.set 1 v)) o') (kk : V E X R RX4 cc nL ret k n Q B N (pc + 3) lv st h') : V E X R RX4 cc nL ret k n Q B N pc lv (v :: .ref (Ez E + o) :: st) h := v_putF inB4 tyX4 tyX4_ok nmX4 rfl 1 (by decide) fl_X4_15 rfl hin rfl (by decide +kernel) hc ho hn2 hfit hl2 hd hu kk
theorem g_X3_9 {E : Ev} {X : Cx} {R : Room} {cc : ByteArray} {nL : Nat} {ret : Option FieldType} {k n : Nat} {Q : State → Prop} {B : Bool} {N pc : Nat} {lv : List (Nat × Value)} {st : List Value} {h h' : Hp} {o : Nat} {fs : List Value} {v : Value} (hc : h o = .inr (3, fs)) (ho : o < N) (hv : fs[0]? = some v) (hd : decode cc pc = .ok (.getfield 9, 3)) (kk : V E X R RX3 cc nL ret k n Q B N (pc + 3) lv (v :: st) h) : V E X R RX3 cc nL ret k n Q B N pc lv (.ref (Ez E + o) :: st) h := v_get inB3 rfl 0 (by decide) fl_X3_9 hc ho hv hd kk
theorem p_X3_9 {E : Ev} {X : Cx} {R : Room} {cc : ByteArray} {nL : Nat} {ret : Option FieldType} {k n : Nat} {Q : State → Prop} {B : Bool} {N pc : Nat} {lv : List (Nat × Value)} {st : List Value} {h h' : Hp} {o : Nat} {fs : List Value} {v : Value} (hin : X.2.2.2.2.2.2.1.name = "<init>") (hc : h o = .inr (3, fs)) (ho : o < N) (hn2 : narrow (.array .int) v = v) (hfit : fits (.array .int) v = true) (hl2 : 0 < fs.length) (hd : decode cc pc = .ok (.putfield 9, 3)) (hu : ∀ o', o' < N → h' o' = va_up h o (.inr (3, fs.set 0 v)) o') (kk : V E X R RX3 cc nL ret k n Q B N (pc + 3) lv st h') : V E X R RX3 cc nL ret k n Q B N pc lv (v :: .ref (Ez E + o) :: st) h := v_putF inB3 tyX3 tyX3_ok nmX3 rfl 0 (by decide) fl_X3_9 rfl hin rfl (by decide +kernel) hc ho hn2 hfit hl2 hd hu kk
theorem g_X3_15 {E : Ev} {X : Cx} {R : Room} {cc : ByteArray} {nL : Nat} {ret : Option FieldType} {k n : Nat} {Q : State → Prop} {B : Bool} {N pc : Nat} {lv : List (Nat × Value)} {st : List Value} {h h' : Hp} {o : Nat} {fs : List Value} {v : Value} (hc : h o = .inr (3, fs)) (ho : o < N) (hv : fs[1]? = some v) (hd : decode cc pc = .ok (.getfield 15, 3)) (kk : V E X R RX3 cc nL ret k n Q B N (pc + 3) lv (v :: st) h) : V E X R RX3 cc nL ret k n Q B N pc lv (.ref (Ez E + o) :: st) h := v_get inB3 rfl 1 (by decide) fl_X3_15 hc ho hv hd kk
theorem p_X3_15 {E : Ev} {X : Cx} {R : Room} {cc : ByteArray} {nL : Nat} {ret : Option FieldType} {k n : Nat} {Q : State → Prop} {B : Bool} {N pc : Nat} {lv : List (Nat × Value)} {st : List Value} {h h' : Hp} {o : Nat} {fs : List Value} {v : Value} (hin : X.2.2.2.2.2.2.1.name = "<init>") (hc : h o = .inr (3, fs)) (ho : o < N) (hn2 : narrow (.array .int) v = v) (hfit : fits (.array .int) v = true) (hl2 : 1 < fs.length) (hd : decode cc pc = .ok (.putfield 15, 3)) (hu : ∀ o', o' < N → h' o' = va_up h o (.inr (3, fs.set 1 v)) o') (kk : V E X R RX3 cc nL ret k n Q B N (pc + 3) lv st h') : V E X R RX3 cc nL ret k n Q B N pc lv (v :: .ref (Ez E + o) :: st) h := v_putF inB3 tyX3 tyX3_ok nmX3 rfl 1 (by decide) fl_X3_15 rfl hin rfl (by decide +kernel) hc ho hn2 hfit hl2 hd hu kk
theorem g_X3_18 {E : Ev} {X : Cx} {R : Room} {cc : ByteArray} {nL : Nat} {ret : Option FieldType} {k n : Nat} {Q : State → Prop} {B : Bool} {N pc : Nat} {lv : List (Nat × Value)} {st : List Value} {h h' : Hp} {o : Nat} {fs : List Value} {v : Value} (hc : h o = .inr (3, fs)) (ho : o < N) (hv : fs[2]? = some v) (hd : decode cc pc = .ok (.getfield 18, 3)) (kk : V E X R RX3 cc nL ret k n Q B N (pc + 3) lv (v :: st) h) : V E X R RX3 cc nL ret k n Q B N pc lv (.ref (Ez E + o) :: st) h := v_get inB3 rfl 2 (by decide) fl_X3_18 hc ho hv hd kk
theorem p_X3_18 {E : Ev} {X : Cx} {R : Room} {cc : ByteArray} {nL : Nat} {ret : Option FieldType} {k n : Nat} {Q : State → Prop} {B : Bool} {N pc : Nat} {lv : List (Nat × Value)} {st : List Value} {h h' : Hp} {o : Nat} {fs : List Value} {v : Value} (hin : X.2.2.2.2.2.2.1.name = "<init>") (hc : h o = .inr (3, fs)) (ho : o < N) (hn2 : narrow (.array .boolean) v = v) (hfit : fits (.array .boolean) v = true) (hl2 : 2 < fs.length) (hd : decode cc pc = .ok (.putfield 18, 3)) (hu : ∀ o', o' < N → h' o' = va_up h o (.inr (3, fs.set 2 v)) o') (kk : V E X R RX3 cc nL ret k n Q B N (pc + 3) lv st h') : V E X R RX3 cc nL ret k n Q B N pc lv (v :: .ref (Ez E + o) :: st) h := v_putF inB3 tyX3 tyX3_ok nmX3 rfl 2 (by decide) fl_X3_18 rfl hin rfl (by decide +kernel) hc ho hn2 hfit hl2 hd hu kk
theorem g_X3_22 {E : Ev} {X : Cx} {R : Room} {cc : ByteArray} {nL : Nat} {ret : Option FieldType} {k n : Nat} {Q : State → Prop} {B : Bool} {N pc : Nat} {lv : List (Nat × Value)} {st : List Value} {h h' : Hp} {o : Nat} {fs : List Value} {v : Value} (hc : h o = .inr (3, fs)) (ho : o < N) (hv : fs[3]? = some v) (hd : decode cc pc = .ok (.getfield 22, 3)) (kk : V E X R RX3 cc nL ret k n Q B N (pc + 3) lv (v :: st) h) : V E X R RX3 cc nL ret k n Q B N pc lv (.ref (Ez E + o) :: st) h := v_get inB3 rfl 3 (by decide) fl_X3_22 hc ho hv hd kk
theorem p_X3_22 {E : Ev} {X : Cx} {R : Room} {cc : ByteArray} {nL : Nat} {ret : Option FieldType} {k n : Nat} {Q : State → Prop} {B : Bool} {N pc : Nat} {lv : List (Nat × Value)} {st : List Value} {h h' : Hp} {o : Nat} {fs : List Value} {v : Value} (hin : X.2.2.2.2.2.2.1.name = "<init>") (hc : h o = .inr (3, fs)) (ho : o < N) (hn2 : narrow (.array .int) v = v) (hfit : fits (.array .int) v = true) (hl2 : 3 < fs.length) (hd : decode cc pc = .ok (.putfield 22, 3)) (hu : ∀ o', o' < N → h' o' = va_up h o (.inr (3, fs.set 3 v)) o') (kk : V E X R RX3 cc nL ret k n Q B N (pc + 3) lv st h') : V E X R RX3 cc nL ret k n Q B N pc lv (v :: .ref (Ez E + o) :: st) h := v_putF inB3 tyX3 tyX3_ok nmX3 rfl 3 (by decide) fl_X3_22 rfl hin rfl (by decide +kernel) hc ho hn2 hfit hl2 hd hu kk
theorem g_X3_25 {E : Ev} {X : Cx} {R : Room} {cc : ByteArray} {nL : Nat} {ret : Option FieldType} {k n : Nat} {Q : State → Prop} {B : Bool} {N pc : Nat} {lv : List (Nat × Value)} {st : List Value} {h h' : Hp} {o : Nat} {fs : List Value} {v : Value} (hc : h o = .inr (3, fs)) (ho : o < N) (hv : fs[4]? = some v) (hd : decode cc pc = .ok (.getfield 25, 3)) (kk : V E X R RX3 cc nL ret k n Q B N (pc + 3) lv (v :: st) h) : V E X R RX3 cc nL ret k n Q B N pc lv (.ref (Ez E + o) :: st) h := v_get inB3 rfl 4 (by decide) fl_X3_25 hc ho hv hd kk
theorem p_X3_25 {E : Ev} {X : Cx} {R : Room} {cc : ByteArray} {nL : Nat} {ret : Option FieldType} {k n : Nat} {Q : State → Prop} {B : Bool} {N pc : Nat} {lv : List (Nat × Value)} {st : List Value} {h h' : Hp} {o : Nat} {fs : List Value} {v : Value} (hin : X.2.2.2.2.2.2.1.name = "<init>") (hc : h o = .inr (3, fs)) (ho : o < N) (hn2 : narrow (.array .int) v = v) (hfit : fits (.array .int) v = true) (hl2 : 4 < fs.length) (hd : decode cc pc = .ok (.putfield 25, 3)) (hu : ∀ o', o' < N → h' o' = va_up h o (.inr (3, fs.set 4 v)) o') (kk : V E X R RX3 cc nL ret k n Q B N (pc + 3) lv st h') : V E X R RX3 cc nL ret k n Q B N pc lv (v :: .ref (Ez E + o) :: st) h := v_putF inB3 tyX3 tyX3_ok nmX3 rfl 4 (by decide) fl_X3_25 rfl hin rfl (by decide +kernel) hc ho hn2 hfit hl2 hd hu kk
theorem g_X3_28 {E : Ev} {X : Cx} {R : Room} {cc : ByteArray} {nL : Nat} {ret : Option FieldType} {k n : Nat} {Q : State → Prop} {B : Bool} {N pc : Nat} {lv : List (Nat × Value)} {st : List Value} {h h' : Hp} {o : Nat} {fs : List Value} {v : Value} (hc : h o = .inr (3, fs)) (ho : o < N) (hv : fs[5]? = some v) (hd : decode cc pc = .ok (.getfield 28, 3)) (kk : V E X R RX3 cc nL ret k n Q B N (pc + 3) lv (v :: st) h) : V E X R RX3 cc nL ret k n Q B N pc lv (.ref (Ez E + o) :: st) h := v_get inB3 rfl 5 (by decide) fl_X3_28 hc ho hv hd kk
theorem p_X3_28 {E : Ev} {X : Cx} {R : Room} {cc : ByteArray} {nL : Nat} {ret : Option FieldType} {k n : Nat} {Q : State → Prop} {B : Bool} {N pc : Nat} {lv : List (Nat × Value)} {st : List Value} {h h' : Hp} {o : Nat} {fs : List Value} {v : Value} (hc : h o = .inr (3, fs)) (ho : o < N) (hn2 : narrow .int v = v) (hfit : fits .int v = true) (hl2 : 5 < fs.length) (hd : decode cc pc = .ok (.putfield 28, 3)) (hu : ∀ o', o' < N → h' o' = va_up h o (.inr (3, fs.set 5 v)) o') (kk : V E X R RX3 cc nL ret k n Q B N (pc + 3) lv st h') : V E X R RX3 cc nL ret k n Q B N pc lv (v :: .ref (Ez E + o) :: st) h := v_put inB3 tyX3 tyX3_ok nmX3 rfl 5 (by decide) fl_X3_28 rfl (by decide +kernel) hc ho hn2 hfit hl2 hd hu kk
theorem g_X6_144 {E : Ev} {X : Cx} {R : Room} {cc : ByteArray} {nL : Nat} {ret : Option FieldType} {k n : Nat} {Q : State → Prop} {B : Bool} {N pc : Nat} {lv : List (Nat × Value)} {st : List Value} {h h' : Hp} {o : Nat} {fs : List Value} {v : Value} (hc : h o = .inr (3, fs)) (ho : o < N) (hv : fs[5]? = some v) (hd : decode cc pc = .ok (.getfield 144, 3)) (kk : V E X R RX6 cc nL ret k n Q B N (pc + 3) lv (v :: st) h) : V E X R RX6 cc nL ret k n Q B N pc lv (.ref (Ez E + o) :: st) h := v_get inB3 rfl 5 (by decide) fl_X6_144 hc ho hv hd kk
theorem p_X6_144 {E : Ev} {X : Cx} {R : Room} {cc : ByteArray} {nL : Nat} {ret : Option FieldType} {k n : Nat} {Q : State → Prop} {B : Bool} {N pc : Nat} {lv : List (Nat × Value)} {st : List Value} {h h' : Hp} {o : Nat} {fs : List Value} {v : Value} (hc : h o = .inr (3, fs)) (ho : o < N) (hn2 : narrow .int v = v) (hfit : fits .int v = true) (hl2 : 5 < fs.length) (hd : decode cc pc = .ok (.putfield 144, 3)) (hu : ∀ o', o' < N → h' o' = va_up h o (.inr (3, fs.set 5 v)) o') (kk : V E X R RX6 cc nL ret k n Q B N (pc + 3) lv st h') : V E X R RX6 cc nL ret k n Q B N pc lv (v :: .ref (Ez E + o) :: st) h := v_put inB3 tyX3 tyX3_ok nmX3 rfl 5 (by decide) fl_X6_144 rfl (by decide +kernel) hc ho hn2 hfit hl2 hd hu kk
theorem g_X3_32 {E : Ev} {X : Cx} {R : Room} {cc : ByteArray} {nL : Nat} {ret : Option FieldType} {k n : Nat} {Q : State → Prop} {B : Bool} {N pc : Nat} {lv : List (Nat × Value)} {st : List Value} {h h' : Hp} {o : Nat} {fs : List Value} {v : Value} (hc : h o = .inr (3, fs)) (ho : o < N) (hv : fs[6]? = some v) (hd : decode cc pc = .ok (.getfield 32, 3)) (kk : V E X R RX3 cc nL ret k n Q B N (pc + 3) lv (v :: st) h) : V E X R RX3 cc nL ret k n Q B N pc lv (.ref (Ez E + o) :: st) h := v_get inB3 rfl 6 (by decide) fl_X3_32 hc ho hv hd kk
theorem p_X3_32 {E : Ev} {X : Cx} {R : Room} {cc : ByteArray} {nL : Nat} {ret : Option FieldType} {k n : Nat} {Q : State → Prop} {B : Bool} {N pc : Nat} {lv : List (Nat × Value)} {st : List Value} {h h' : Hp} {o : Nat} {fs : List Value} {v : Value} (hc : h o = .inr (3, fs)) (ho : o < N) (hn2 : narrow .int v = v) (hfit : fits .int v = true) (hl2 : 6 < fs.length) (hd : decode cc pc = .ok (.putfield 32, 3)) (hu : ∀ o', o' < N → h' o' = va_up h o (.inr (3, fs.set 6 v)) o') (kk : V E X R RX3 cc nL ret k n Q B N (pc + 3) lv st h') : V E X R RX3 cc nL ret k n Q B N pc lv (v :: .ref (Ez E + o) :: st) h := v_put inB3 tyX3 tyX3_ok nmX3 rfl 6 (by decide) fl_X3_32 rfl (by decide +kernel) hc ho hn2 hfit hl2 hd hu kk
theorem g_X6_147 {E : Ev} {X : Cx} {R : Room} {cc : ByteArray} {nL : Nat} {ret : Option FieldType} {k n : Nat} {Q : State → Prop} {B : Bool} {N pc : Nat} {lv : List (Nat × Value)} {st : List Value} {h h' : Hp} {o : Nat} {fs : List Value} {v : Value} (hc : h o = .inr (3, fs)) (ho : o < N) (hv : fs[6]? = some v) (hd : decode cc pc = .ok (.getfield 147, 3)) (kk : V E X R RX6 cc nL ret k n Q B N (pc + 3) lv (v :: st) h) : V E X R RX6 cc nL ret k n Q B N pc lv (.ref (Ez E + o) :: st) h := v_get inB3 rfl 6 (by decide) fl_X6_147 hc ho hv hd kk
theorem p_X6_147 {E : Ev} {X : Cx} {R : Room} {cc : ByteArray} {nL : Nat} {ret : Option FieldType} {k n : Nat} {Q : State → Prop} {B : Bool} {N pc : Nat} {lv : List (Nat × Value)} {st : List Value} {h h' : Hp} {o : Nat} {fs : List Value} {v : Value} (hc : h o = .inr (3, fs)) (ho : o < N) (hn2 : narrow .int v = v) (hfit : fits .int v = true) (hl2 : 6 < fs.length) (hd : decode cc pc = .ok (.putfield 147, 3)) (hu : ∀ o', o' < N → h' o' = va_up h o (.inr (3, fs.set 6 v)) o') (kk : V E X R RX6 cc nL ret k n Q B N (pc + 3) lv st h') : V E X R RX6 cc nL ret k n Q B N pc lv (v :: .ref (Ez E + o) :: st) h := v_put inB3 tyX3 tyX3_ok nmX3 rfl 6 (by decide) fl_X6_147 rfl (by decide +kernel) hc ho hn2 hfit hl2 hd hu kk
theorem g_X3_35 {E : Ev} {X : Cx} {R : Room} {cc : ByteArray} {nL : Nat} {ret : Option FieldType} {k n : Nat} {Q : State → Prop} {B : Bool} {N pc : Nat} {lv : List (Nat × Value)} {st : List Value} {h h' : Hp} {o : Nat} {fs : List Value} {v : Value} (hc : h o = .inr (3, fs)) (ho : o < N) (hv : fs[7]? = some v) (hd : decode cc pc = .ok (.getfield 35, 3)) (kk : V E X R RX3 cc nL ret k n Q B N (pc + 3) lv (v :: st) h) : V E X R RX3 cc nL ret k n Q B N pc lv (.ref (Ez E + o) :: st) h := v_get inB3 rfl 7 (by decide) fl_X3_35 hc ho hv hd kk
theorem p_X3_35 {E : Ev} {X : Cx} {R : Room} {cc : ByteArray} {nL : Nat} {ret : Option FieldType} {k n : Nat} {Q : State → Prop} {B : Bool} {N pc : Nat} {lv : List (Nat × Value)} {st : List Value} {h h' : Hp} {o : Nat} {fs : List Value} {v : Value} (hc : h o = .inr (3, fs)) (ho : o < N) (hn2 : narrow .int v = v) (hfit : fits .int v = true) (hl2 : 7 < fs.length) (hd : decode cc pc = .ok (.putfield 35, 3)) (hu : ∀ o', o' < N → h' o' = va_up h o (.inr (3, fs.set 7 v)) o') (kk : V E X R RX3 cc nL ret k n Q B N (pc + 3) lv st h') : V E X R RX3 cc nL ret k n Q B N pc lv (v :: .ref (Ez E + o) :: st) h := v_put inB3 tyX3 tyX3_ok nmX3 rfl 7 (by decide) fl_X3_35 rfl (by decide +kernel) hc ho hn2 hfit hl2 hd hu kk
theorem g_X6_150 {E : Ev} {X : Cx} {R : Room} {cc : ByteArray} {nL : Nat} {ret : Option FieldType} {k n : Nat} {Q : State → Prop} {B : Bool} {N pc : Nat} {lv : List (Nat × Value)} {st : List Value} {h h' : Hp} {o : Nat} {fs : List Value} {v : Value} (hc : h o = .inr (3, fs)) (ho : o < N) (hv : fs[7]? = some v) (hd : decode cc pc = .ok (.getfield 150, 3)) (kk : V E X R RX6 cc nL ret k n Q B N (pc + 3) lv (v :: st) h) : V E X R RX6 cc nL ret k n Q B N pc lv (.ref (Ez E + o) :: st) h := v_get inB3 rfl 7 (by decide) fl_X6_150 hc ho hv hd kk
theorem p_X6_150 {E : Ev} {X : Cx} {R : Room} {cc : ByteArray} {nL : Nat} {ret : Option FieldType} {k n : Nat} {Q : State → Prop} {B : Bool} {N pc : Nat} {lv : List (Nat × Value)} {st : List Value} {h h' : Hp} {o : Nat} {fs : List Value} {v : Value} (hc : h o = .inr (3, fs)) (ho : o < N) (hn2 : narrow .int v = v) (hfit : fits .int v = true) (hl2 : 7 < fs.length) (hd : decode cc pc = .ok (.putfield 150, 3)) (hu : ∀ o', o' < N → h' o' = va_up h o (.inr (3, fs.set 7 v)) o') (kk : V E X R RX6 cc nL ret k n Q B N (pc + 3) lv st h') : V E X R RX6 cc nL ret k n Q B N pc lv (v :: .ref (Ez E + o) :: st) h := v_put inB3 tyX3 tyX3_ok nmX3 rfl 7 (by decide) fl_X6_150 rfl (by decide +kernel) hc ho hn2 hfit hl2 hd hu kk
theorem g_X6_10 {E : Ev} {X : Cx} {R : Room} {cc : ByteArray} {nL : Nat} {ret : Option FieldType} {k n : Nat} {Q : State → Prop} {B : Bool} {N pc : Nat} {lv : List (Nat × Value)} {st : List Value} {h h' : Hp} {o : Nat} {fs : List Value} {v : Value} (hc : h o = .inr (6, fs)) (ho : o < N) (hv : fs[0]? = some v) (hd : decode cc pc = .ok (.getfield 10, 3)) (kk : V E X R RX6 cc nL ret k n Q B N (pc + 3) lv (v :: st) h) : V E X R RX6 cc nL ret k n Q B N pc lv (.ref (Ez E + o) :: st) h := v_get inB6 rfl 0 (by decide) fl_X6_10 hc ho hv hd kk
theorem p_X6_10 {E : Ev} {X : Cx} {R : Room} {cc : ByteArray} {nL : Nat} {ret : Option FieldType} {k n : Nat} {Q : State → Prop} {B : Bool} {N pc : Nat} {lv : List (Nat × Value)} {st : List Value} {h h' : Hp} {o : Nat} {fs : List Value} {v : Value} (hin : X.2.2.2.2.2.2.1.name = "<init>") (hc : h o = .inr (6, fs)) (ho : o < N) (hn2 : narrow (.object "SparrowChange$Text") v = v) (hfit : fits (.object "SparrowChange$Text") v = true) (hl2 : 0 < fs.length) (hd : decode cc pc = .ok (.putfield 10, 3)) (hu : ∀ o', o' < N → h' o' = va_up h o (.inr (6, fs.set 0 v)) o') (kk : V E X R RX6 cc nL ret k n Q B N (pc + 3) lv st h') : V E X R RX6 cc nL ret k n Q B N pc lv (v :: .ref (Ez E + o) :: st) h := v_putF inB6 tyX6 tyX6_ok nmX6 rfl 0 (by decide) fl_X6_10 rfl hin rfl (by decide +kernel) hc ho hn2 hfit hl2 hd hu kk
theorem g_X6_19 {E : Ev} {X : Cx} {R : Room} {cc : ByteArray} {nL : Nat} {ret : Option FieldType} {k n : Nat} {Q : State → Prop} {B : Bool} {N pc : Nat} {lv : List (Nat × Value)} {st : List Value} {h h' : Hp} {o : Nat} {fs : List Value} {v : Value} (hc : h o = .inr (6, fs)) (ho : o < N) (hv : fs[1]? = some v) (hd : decode cc pc = .ok (.getfield 19, 3)) (kk : V E X R RX6 cc nL ret k n Q B N (pc + 3) lv (v :: st) h) : V E X R RX6 cc nL ret k n Q B N pc lv (.ref (Ez E + o) :: st) h := v_get inB6 rfl 1 (by decide) fl_X6_19 hc ho hv hd kk
theorem p_X6_19 {E : Ev} {X : Cx} {R : Room} {cc : ByteArray} {nL : Nat} {ret : Option FieldType} {k n : Nat} {Q : State → Prop} {B : Bool} {N pc : Nat} {lv : List (Nat × Value)} {st : List Value} {h h' : Hp} {o : Nat} {fs : List Value} {v : Value} (hc : h o = .inr (6, fs)) (ho : o < N) (hn2 : narrow (.object "SparrowChange$Parish") v = v) (hfit : fits (.object "SparrowChange$Parish") v = true) (hl2 : 1 < fs.length) (hd : decode cc pc = .ok (.putfield 19, 3)) (hu : ∀ o', o' < N → h' o' = va_up h o (.inr (6, fs.set 1 v)) o') (kk : V E X R RX6 cc nL ret k n Q B N (pc + 3) lv st h') : V E X R RX6 cc nL ret k n Q B N pc lv (v :: .ref (Ez E + o) :: st) h := v_put inB6 tyX6 tyX6_ok nmX6 rfl 1 (by decide) fl_X6_19 rfl (by decide +kernel) hc ho hn2 hfit hl2 hd hu kk
theorem g_X6_23 {E : Ev} {X : Cx} {R : Room} {cc : ByteArray} {nL : Nat} {ret : Option FieldType} {k n : Nat} {Q : State → Prop} {B : Bool} {N pc : Nat} {lv : List (Nat × Value)} {st : List Value} {h h' : Hp} {o : Nat} {fs : List Value} {v : Value} (hc : h o = .inr (6, fs)) (ho : o < N) (hv : fs[2]? = some v) (hd : decode cc pc = .ok (.getfield 23, 3)) (kk : V E X R RX6 cc nL ret k n Q B N (pc + 3) lv (v :: st) h) : V E X R RX6 cc nL ret k n Q B N pc lv (.ref (Ez E + o) :: st) h := v_get inB6 rfl 2 (by decide) fl_X6_23 hc ho hv hd kk
theorem p_X6_23 {E : Ev} {X : Cx} {R : Room} {cc : ByteArray} {nL : Nat} {ret : Option FieldType} {k n : Nat} {Q : State → Prop} {B : Bool} {N pc : Nat} {lv : List (Nat × Value)} {st : List Value} {h h' : Hp} {o : Nat} {fs : List Value} {v : Value} (hc : h o = .inr (6, fs)) (ho : o < N) (hn2 : narrow (.object "SparrowChange$Parish") v = v) (hfit : fits (.object "SparrowChange$Parish") v = true) (hl2 : 2 < fs.length) (hd : decode cc pc = .ok (.putfield 23, 3)) (hu : ∀ o', o' < N → h' o' = va_up h o (.inr (6, fs.set 2 v)) o') (kk : V E X R RX6 cc nL ret k n Q B N (pc + 3) lv st h') : V E X R RX6 cc nL ret k n Q B N pc lv (v :: .ref (Ez E + o) :: st) h := v_put inB6 tyX6 tyX6_ok nmX6 rfl 2 (by decide) fl_X6_23 rfl (by decide +kernel) hc ho hn2 hfit hl2 hd hu kk
theorem g_X6_29 {E : Ev} {X : Cx} {R : Room} {cc : ByteArray} {nL : Nat} {ret : Option FieldType} {k n : Nat} {Q : State → Prop} {B : Bool} {N pc : Nat} {lv : List (Nat × Value)} {st : List Value} {h h' : Hp} {o : Nat} {fs : List Value} {v : Value} (hc : h o = .inr (6, fs)) (ho : o < N) (hv : fs[3]? = some v) (hd : decode cc pc = .ok (.getfield 29, 3)) (kk : V E X R RX6 cc nL ret k n Q B N (pc + 3) lv (v :: st) h) : V E X R RX6 cc nL ret k n Q B N pc lv (.ref (Ez E + o) :: st) h := v_get inB6 rfl 3 (by decide) fl_X6_29 hc ho hv hd kk
theorem p_X6_29 {E : Ev} {X : Cx} {R : Room} {cc : ByteArray} {nL : Nat} {ret : Option FieldType} {k n : Nat} {Q : State → Prop} {B : Bool} {N pc : Nat} {lv : List (Nat × Value)} {st : List Value} {h h' : Hp} {o : Nat} {fs : List Value} {v : Value} (hin : X.2.2.2.2.2.2.1.name = "<init>") (hc : h o = .inr (6, fs)) (ho : o < N) (hn2 : narrow (.object "SparrowChange$Flock") v = v) (hfit : fits (.object "SparrowChange$Flock") v = true) (hl2 : 3 < fs.length) (hd : decode cc pc = .ok (.putfield 29, 3)) (hu : ∀ o', o' < N → h' o' = va_up h o (.inr (6, fs.set 3 v)) o') (kk : V E X R RX6 cc nL ret k n Q B N (pc + 3) lv st h') : V E X R RX6 cc nL ret k n Q B N pc lv (v :: .ref (Ez E + o) :: st) h := v_putF inB6 tyX6 tyX6_ok nmX6 rfl 3 (by decide) fl_X6_29 rfl hin rfl (by decide +kernel) hc ho hn2 hfit hl2 hd hu kk
theorem g_X6_33 {E : Ev} {X : Cx} {R : Room} {cc : ByteArray} {nL : Nat} {ret : Option FieldType} {k n : Nat} {Q : State → Prop} {B : Bool} {N pc : Nat} {lv : List (Nat × Value)} {st : List Value} {h h' : Hp} {o : Nat} {fs : List Value} {v : Value} (hc : h o = .inr (6, fs)) (ho : o < N) (hv : fs[4]? = some v) (hd : decode cc pc = .ok (.getfield 33, 3)) (kk : V E X R RX6 cc nL ret k n Q B N (pc + 3) lv (v :: st) h) : V E X R RX6 cc nL ret k n Q B N pc lv (.ref (Ez E + o) :: st) h := v_get inB6 rfl 4 (by decide) fl_X6_33 hc ho hv hd kk
theorem p_X6_33 {E : Ev} {X : Cx} {R : Room} {cc : ByteArray} {nL : Nat} {ret : Option FieldType} {k n : Nat} {Q : State → Prop} {B : Bool} {N pc : Nat} {lv : List (Nat × Value)} {st : List Value} {h h' : Hp} {o : Nat} {fs : List Value} {v : Value} (hin : X.2.2.2.2.2.2.1.name = "<init>") (hc : h o = .inr (6, fs)) (ho : o < N) (hn2 : narrow (.object "SparrowChange$Flock") v = v) (hfit : fits (.object "SparrowChange$Flock") v = true) (hl2 : 4 < fs.length) (hd : decode cc pc = .ok (.putfield 33, 3)) (hu : ∀ o', o' < N → h' o' = va_up h o (.inr (6, fs.set 4 v)) o') (kk : V E X R RX6 cc nL ret k n Q B N (pc + 3) lv st h') : V E X R RX6 cc nL ret k n Q B N pc lv (v :: .ref (Ez E + o) :: st) h := v_putF inB6 tyX6 tyX6_ok nmX6 rfl 4 (by decide) fl_X6_33 rfl hin rfl (by decide +kernel) hc ho hn2 hfit hl2 hd hu kk
theorem g_X6_39 {E : Ev} {X : Cx} {R : Room} {cc : ByteArray} {nL : Nat} {ret : Option FieldType} {k n : Nat} {Q : State → Prop} {B : Bool} {N pc : Nat} {lv : List (Nat × Value)} {st : List Value} {h h' : Hp} {o : Nat} {fs : List Value} {v : Value} (hc : h o = .inr (6, fs)) (ho : o < N) (hv : fs[5]? = some v) (hd : decode cc pc = .ok (.getfield 39, 3)) (kk : V E X R RX6 cc nL ret k n Q B N (pc + 3) lv (v :: st) h) : V E X R RX6 cc nL ret k n Q B N pc lv (.ref (Ez E + o) :: st) h := v_get inB6 rfl 5 (by decide) fl_X6_39 hc ho hv hd kk
theorem p_X6_39 {E : Ev} {X : Cx} {R : Room} {cc : ByteArray} {nL : Nat} {ret : Option FieldType} {k n : Nat} {Q : State → Prop} {B : Bool} {N pc : Nat} {lv : List (Nat × Value)} {st : List Value} {h h' : Hp} {o : Nat} {fs : List Value} {v : Value} (hin : X.2.2.2.2.2.2.1.name = "<init>") (hc : h o = .inr (6, fs)) (ho : o < N) (hn2 : narrow (.object "SparrowChange$Past") v = v) (hfit : fits (.object "SparrowChange$Past") v = true) (hl2 : 5 < fs.length) (hd : decode cc pc = .ok (.putfield 39, 3)) (hu : ∀ o', o' < N → h' o' = va_up h o (.inr (6, fs.set 5 v)) o') (kk : V E X R RX6 cc nL ret k n Q B N (pc + 3) lv st h') : V E X R RX6 cc nL ret k n Q B N pc lv (v :: .ref (Ez E + o) :: st) h := v_putF inB6 tyX6 tyX6_ok nmX6 rfl 5 (by decide) fl_X6_39 rfl hin rfl (by decide +kernel) hc ho hn2 hfit hl2 hd hu kk
theorem g_X6_43 {E : Ev} {X : Cx} {R : Room} {cc : ByteArray} {nL : Nat} {ret : Option FieldType} {k n : Nat} {Q : State → Prop} {B : Bool} {N pc : Nat} {lv : List (Nat × Value)} {st : List Value} {h h' : Hp} {o : Nat} {fs : List Value} {v : Value} (hc : h o = .inr (6, fs)) (ho : o < N) (hv : fs[6]? = some v) (hd : decode cc pc = .ok (.getfield 43, 3)) (kk : V E X R RX6 cc nL ret k n Q B N (pc + 3) lv (v :: st) h) : V E X R RX6 cc nL ret k n Q B N pc lv (.ref (Ez E + o) :: st) h := v_get inB6 rfl 6 (by decide) fl_X6_43 hc ho hv hd kk
theorem p_X6_43 {E : Ev} {X : Cx} {R : Room} {cc : ByteArray} {nL : Nat} {ret : Option FieldType} {k n : Nat} {Q : State → Prop} {B : Bool} {N pc : Nat} {lv : List (Nat × Value)} {st : List Value} {h h' : Hp} {o : Nat} {fs : List Value} {v : Value} (hin : X.2.2.2.2.2.2.1.name = "<init>") (hc : h o = .inr (6, fs)) (ho : o < N) (hn2 : narrow (.array (.object "SparrowChange$Flock")) v = v) (hfit : fits (.array (.object "SparrowChange$Flock")) v = true) (hl2 : 6 < fs.length) (hd : decode cc pc = .ok (.putfield 43, 3)) (hu : ∀ o', o' < N → h' o' = va_up h o (.inr (6, fs.set 6 v)) o') (kk : V E X R RX6 cc nL ret k n Q B N (pc + 3) lv st h') : V E X R RX6 cc nL ret k n Q B N pc lv (v :: .ref (Ez E + o) :: st) h := v_putF inB6 tyX6 tyX6_ok nmX6 rfl 6 (by decide) fl_X6_43 rfl hin rfl (by decide +kernel) hc ho hn2 hfit hl2 hd hu kk
theorem g_X6_47 {E : Ev} {X : Cx} {R : Room} {cc : ByteArray} {nL : Nat} {ret : Option FieldType} {k n : Nat} {Q : State → Prop} {B : Bool} {N pc : Nat} {lv : List (Nat × Value)} {st : List Value} {h h' : Hp} {o : Nat} {fs : List Value} {v : Value} (hc : h o = .inr (6, fs)) (ho : o < N) (hv : fs[7]? = some v) (hd : decode cc pc = .ok (.getfield 47, 3)) (kk : V E X R RX6 cc nL ret k n Q B N (pc + 3) lv (v :: st) h) : V E X R RX6 cc nL ret k n Q B N pc lv (.ref (Ez E + o) :: st) h := v_get inB6 rfl 7 (by decide) fl_X6_47 hc ho hv hd kk
theorem p_X6_47 {E : Ev} {X : Cx} {R : Room} {cc : ByteArray} {nL : Nat} {ret : Option FieldType} {k n : Nat} {Q : State → Prop} {B : Bool} {N pc : Nat} {lv : List (Nat × Value)} {st : List Value} {h h' : Hp} {o : Nat} {fs : List Value} {v : Value} (hin : X.2.2.2.2.2.2.1.name = "<init>") (hc : h o = .inr (6, fs)) (ho : o < N) (hn2 : narrow (.array .int) v = v) (hfit : fits (.array .int) v = true) (hl2 : 7 < fs.length) (hd : decode cc pc = .ok (.putfield 47, 3)) (hu : ∀ o', o' < N → h' o' = va_up h o (.inr (6, fs.set 7 v)) o') (kk : V E X R RX6 cc nL ret k n Q B N (pc + 3) lv st h') : V E X R RX6 cc nL ret k n Q B N pc lv (v :: .ref (Ez E + o) :: st) h := v_putF inB6 tyX6 tyX6_ok nmX6 rfl 7 (by decide) fl_X6_47 rfl hin rfl (by decide +kernel) hc ho hn2 hfit hl2 hd hu kk
theorem g_X6_51 {E : Ev} {X : Cx} {R : Room} {cc : ByteArray} {nL : Nat} {ret : Option FieldType} {k n : Nat} {Q : State → Prop} {B : Bool} {N pc : Nat} {lv : List (Nat × Value)} {st : List Value} {h h' : Hp} {o : Nat} {fs : List Value} {v : Value} (hc : h o = .inr (6, fs)) (ho : o < N) (hv : fs[8]? = some v) (hd : decode cc pc = .ok (.getfield 51, 3)) (kk : V E X R RX6 cc nL ret k n Q B N (pc + 3) lv (v :: st) h) : V E X R RX6 cc nL ret k n Q B N pc lv (.ref (Ez E + o) :: st) h := v_get inB6 rfl 8 (by decide) fl_X6_51 hc ho hv hd kk
theorem p_X6_51 {E : Ev} {X : Cx} {R : Room} {cc : ByteArray} {nL : Nat} {ret : Option FieldType} {k n : Nat} {Q : State → Prop} {B : Bool} {N pc : Nat} {lv : List (Nat × Value)} {st : List Value} {h h' : Hp} {o : Nat} {fs : List Value} {v : Value} (hin : X.2.2.2.2.2.2.1.name = "<init>") (hc : h o = .inr (6, fs)) (ho : o < N) (hn2 : narrow (.array .boolean) v = v) (hfit : fits (.array .boolean) v = true) (hl2 : 8 < fs.length) (hd : decode cc pc = .ok (.putfield 51, 3)) (hu : ∀ o', o' < N → h' o' = va_up h o (.inr (6, fs.set 8 v)) o') (kk : V E X R RX6 cc nL ret k n Q B N (pc + 3) lv st h') : V E X R RX6 cc nL ret k n Q B N pc lv (v :: .ref (Ez E + o) :: st) h := v_putF inB6 tyX6 tyX6_ok nmX6 rfl 8 (by decide) fl_X6_51 rfl hin rfl (by decide +kernel) hc ho hn2 hfit hl2 hd hu kk
theorem g_X6_58 {E : Ev} {X : Cx} {R : Room} {cc : ByteArray} {nL : Nat} {ret : Option FieldType} {k n : Nat} {Q : State → Prop} {B : Bool} {N pc : Nat} {lv : List (Nat × Value)} {st : List Value} {h h' : Hp} {o : Nat} {fs : List Value} {v : Value} (hc : h o = .inr (6, fs)) (ho : o < N) (hv : fs[9]? = some v) (hd : decode cc pc = .ok (.getfield 58, 3)) (kk : V E X R RX6 cc nL ret k n Q B N (pc + 3) lv (v :: st) h) : V E X R RX6 cc nL ret k n Q B N pc lv (.ref (Ez E + o) :: st) h := v_get inB6 rfl 9 (by decide) fl_X6_58 hc ho hv hd kk
theorem p_X6_58 {E : Ev} {X : Cx} {R : Room} {cc : ByteArray} {nL : Nat} {ret : Option FieldType} {k n : Nat} {Q : State → Prop} {B : Bool} {N pc : Nat} {lv : List (Nat × Value)} {st : List Value} {h h' : Hp} {o : Nat} {fs : List Value} {v : Value} (hin : X.2.2.2.2.2.2.1.name = "<init>") (hc : h o = .inr (6, fs)) (ho : o < N) (hn2 : narrow (.object "SparrowChange$Settling") v = v) (hfit : fits (.object "SparrowChange$Settling") v = true) (hl2 : 9 < fs.length) (hd : decode cc pc = .ok (.putfield 58, 3)) (hu : ∀ o', o' < N → h' o' = va_up h o (.inr (6, fs.set 9 v)) o') (kk : V E X R RX6 cc nL ret k n Q B N (pc + 3) lv st h') : V E X R RX6 cc nL ret k n Q B N pc lv (v :: .ref (Ez E + o) :: st) h := v_putF inB6 tyX6 tyX6_ok nmX6 rfl 9 (by decide) fl_X6_58 rfl hin rfl (by decide +kernel) hc ho hn2 hfit hl2 hd hu kk
theorem g_X6_65 {E : Ev} {X : Cx} {R : Room} {cc : ByteArray} {nL : Nat} {ret : Option FieldType} {k n : Nat} {Q : State → Prop} {B : Bool} {N pc : Nat} {lv : List (Nat × Value)} {st : List Value} {h h' : Hp} {o : Nat} {fs : List Value} {v : Value} (hc : h o = .inr (6, fs)) (ho : o < N) (hv : fs[10]? = some v) (hd : decode cc pc = .ok (.getfield 65, 3)) (kk : V E X R RX6 cc nL ret k n Q B N (pc + 3) lv (v :: st) h) : V E X R RX6 cc nL ret k n Q B N pc lv (.ref (Ez E + o) :: st) h := v_get inB6 rfl 10 (by decide) fl_X6_65 hc ho hv hd kk
theorem p_X6_65 {E : Ev} {X : Cx} {R : Room} {cc : ByteArray} {nL : Nat} {ret : Option FieldType} {k n : Nat} {Q : State → Prop} {B : Bool} {N pc : Nat} {lv : List (Nat × Value)} {st : List Value} {h h' : Hp} {o : Nat} {fs : List Value} {v : Value} (hin : X.2.2.2.2.2.2.1.name = "<init>") (hc : h o = .inr (6, fs)) (ho : o < N) (hn2 : narrow (.object "SparrowChange$Seen") v = v) (hfit : fits (.object "SparrowChange$Seen") v = true) (hl2 : 10 < fs.length) (hd : decode cc pc = .ok (.putfield 65, 3)) (hu : ∀ o', o' < N → h' o' = va_up h o (.inr (6, fs.set 10 v)) o') (kk : V E X R RX6 cc nL ret k n Q B N (pc + 3) lv st h') : V E X R RX6 cc nL ret k n Q B N pc lv (v :: .ref (Ez E + o) :: st) h := v_putF inB6 tyX6 tyX6_ok nmX6 rfl 10 (by decide) fl_X6_65 rfl hin rfl (by decide +kernel) hc ho hn2 hfit hl2 hd hu kk
theorem g_X6_69 {E : Ev} {X : Cx} {R : Room} {cc : ByteArray} {nL : Nat} {ret : Option FieldType} {k n : Nat} {Q : State → Prop} {B : Bool} {N pc : Nat} {lv : List (Nat × Value)} {st : List Value} {h h' : Hp} {o : Nat} {fs : List Value} {v : Value} (hc : h o = .inr (6, fs)) (ho : o < N) (hv : fs[11]? = some v) (hd : decode cc pc = .ok (.getfield 69, 3)) (kk : V E X R RX6 cc nL ret k n Q B N (pc + 3) lv (v :: st) h) : V E X R RX6 cc nL ret k n Q B N pc lv (.ref (Ez E + o) :: st) h := v_get inB6 rfl 11 (by decide) fl_X6_69 hc ho hv hd kk
theorem p_X6_69 {E : Ev} {X : Cx} {R : Room} {cc : ByteArray} {nL : Nat} {ret : Option FieldType} {k n : Nat} {Q : State → Prop} {B : Bool} {N pc : Nat} {lv : List (Nat × Value)} {st : List Value} {h h' : Hp} {o : Nat} {fs : List Value} {v : Value} (hin : X.2.2.2.2.2.2.1.name = "<init>") (hc : h o = .inr (6, fs)) (ho : o < N) (hn2 : narrow (.array .int) v = v) (hfit : fits (.array .int) v = true) (hl2 : 11 < fs.length) (hd : decode cc pc = .ok (.putfield 69, 3)) (hu : ∀ o', o' < N → h' o' = va_up h o (.inr (6, fs.set 11 v)) o') (kk : V E X R RX6 cc nL ret k n Q B N (pc + 3) lv st h') : V E X R RX6 cc nL ret k n Q B N pc lv (v :: .ref (Ez E + o) :: st) h := v_putF inB6 tyX6 tyX6_ok nmX6 rfl 11 (by decide) fl_X6_69 rfl hin rfl (by decide +kernel) hc ho hn2 hfit hl2 hd hu kk
theorem g_X6_72 {E : Ev} {X : Cx} {R : Room} {cc : ByteArray} {nL : Nat} {ret : Option FieldType} {k n : Nat} {Q : State → Prop} {B : Bool} {N pc : Nat} {lv : List (Nat × Value)} {st : List Value} {h h' : Hp} {o : Nat} {fs : List Value} {v : Value} (hc : h o = .inr (6, fs)) (ho : o < N) (hv : fs[12]? = some v) (hd : decode cc pc = .ok (.getfield 72, 3)) (kk : V E X R RX6 cc nL ret k n Q B N (pc + 3) lv (v :: st) h) : V E X R RX6 cc nL ret k n Q B N pc lv (.ref (Ez E + o) :: st) h := v_get inB6 rfl 12 (by decide) fl_X6_72 hc ho hv hd kk
theorem p_X6_72 {E : Ev} {X : Cx} {R : Room} {cc : ByteArray} {nL : Nat} {ret : Option FieldType} {k n : Nat} {Q : State → Prop} {B : Bool} {N pc : Nat} {lv : List (Nat × Value)} {st : List Value} {h h' : Hp} {o : Nat} {fs : List Value} {v : Value} (hc : h o = .inr (6, fs)) (ho : o < N) (hn2 : narrow .int v = v) (hfit : fits .int v = true) (hl2 : 12 < fs.length) (hd : decode cc pc = .ok (.putfield 72, 3)) (hu : ∀ o', o' < N → h' o' = va_up h o (.inr (6, fs.set 12 v)) o') (kk : V E X R RX6 cc nL ret k n Q B N (pc + 3) lv st h') : V E X R RX6 cc nL ret k n Q B N pc lv (v :: .ref (Ez E + o) :: st) h := v_put inB6 tyX6 tyX6_ok nmX6 rfl 12 (by decide) fl_X6_72 rfl (by decide +kernel) hc ho hn2 hfit hl2 hd hu kk
theorem g_X7_7 {E : Ev} {X : Cx} {R : Room} {cc : ByteArray} {nL : Nat} {ret : Option FieldType} {k n : Nat} {Q : State → Prop} {B : Bool} {N pc : Nat} {lv : List (Nat × Value)} {st : List Value} {h h' : Hp} {o : Nat} {fs : List Value} {v : Value} (hc : h o = .inr (7, fs)) (ho : o < N) (hv : fs[0]? = some v) (hd : decode cc pc = .ok (.getfield 7, 3)) (kk : V E X R RX7 cc nL ret k n Q B N (pc + 3) lv (v :: st) h) : V E X R RX7 cc nL ret k n Q B N pc lv (.ref (Ez E + o) :: st) h := v_get inB7 rfl 0 (by decide) fl_X7_7 hc ho hv hd kk
theorem p_X7_7 {E : Ev} {X : Cx} {R : Room} {cc : ByteArray} {nL : Nat} {ret : Option FieldType} {k n : Nat} {Q : State → Prop} {B : Bool} {N pc : Nat} {lv : List (Nat × Value)} {st : List Value} {h h' : Hp} {o : Nat} {fs : List Value} {v : Value} (hin : X.2.2.2.2.2.2.1.name = "<init>") (hc : h o = .inr (7, fs)) (ho : o < N) (hn2 : narrow (.array .int) v = v) (hfit : fits (.array .int) v = true) (hl2 : 0 < fs.length) (hd : decode cc pc = .ok (.putfield 7, 3)) (hu : ∀ o', o' < N → h' o' = va_up h o (.inr (7, fs.set 0 v)) o') (kk : V E X R RX7 cc nL ret k n Q B N (pc + 3) lv st h') : V E X R RX7 cc nL ret k n Q B N pc lv (v :: .ref (Ez E + o) :: st) h := v_putF inB7 tyX7 tyX7_ok nmX7 rfl 0 (by decide) fl_X7_7 rfl hin rfl (by decide +kernel) hc ho hn2 hfit hl2 hd hu kk
theorem g_X7_13 {E : Ev} {X : Cx} {R : Room} {cc : ByteArray} {nL : Nat} {ret : Option FieldType} {k n : Nat} {Q : State → Prop} {B : Bool} {N pc : Nat} {lv : List (Nat × Value)} {st : List Value} {h h' : Hp} {o : Nat} {fs : List Value} {v : Value} (hc : h o = .inr (7, fs)) (ho : o < N) (hv : fs[1]? = some v) (hd : decode cc pc = .ok (.getfield 13, 3)) (kk : V E X R RX7 cc nL ret k n Q B N (pc + 3) lv (v :: st) h) : V E X R RX7 cc nL ret k n Q B N pc lv (.ref (Ez E + o) :: st) h := v_get inB7 rfl 1 (by decide) fl_X7_13 hc ho hv hd kk
theorem p_X7_13 {E : Ev} {X : Cx} {R : Room} {cc : ByteArray} {nL : Nat} {ret : Option FieldType} {k n : Nat} {Q : State → Prop} {B : Bool} {N pc : Nat} {lv : List (Nat × Value)} {st : List Value} {h h' : Hp} {o : Nat} {fs : List Value} {v : Value} (hin : X.2.2.2.2.2.2.1.name = "<init>") (hc : h o = .inr (7, fs)) (ho : o < N) (hn2 : narrow (.array .int) v = v) (hfit : fits (.array .int) v = true) (hl2 : 1 < fs.length) (hd : decode cc pc = .ok (.putfield 13, 3)) (hu : ∀ o', o' < N → h' o' = va_up h o (.inr (7, fs.set 1 v)) o') (kk : V E X R RX7 cc nL ret k n Q B N (pc + 3) lv st h') : V E X R RX7 cc nL ret k n Q B N pc lv (v :: .ref (Ez E + o) :: st) h := v_putF inB7 tyX7 tyX7_ok nmX7 rfl 1 (by decide) fl_X7_13 rfl hin rfl (by decide +kernel) hc ho hn2 hfit hl2 hd hu kk
theorem g_X7_16 {E : Ev} {X : Cx} {R : Room} {cc : ByteArray} {nL : Nat} {ret : Option FieldType} {k n : Nat} {Q : State → Prop} {B : Bool} {N pc : Nat} {lv : List (Nat × Value)} {st : List Value} {h h' : Hp} {o : Nat} {fs : List Value} {v : Value} (hc : h o = .inr (7, fs)) (ho : o < N) (hv : fs[2]? = some v) (hd : decode cc pc = .ok (.getfield 16, 3)) (kk : V E X R RX7 cc nL ret k n Q B N (pc + 3) lv (v :: st) h) : V E X R RX7 cc nL ret k n Q B N pc lv (.ref (Ez E + o) :: st) h := v_get inB7 rfl 2 (by decide) fl_X7_16 hc ho hv hd kk
theorem p_X7_16 {E : Ev} {X : Cx} {R : Room} {cc : ByteArray} {nL : Nat} {ret : Option FieldType} {k n : Nat} {Q : State → Prop} {B : Bool} {N pc : Nat} {lv : List (Nat × Value)} {st : List Value} {h h' : Hp} {o : Nat} {fs : List Value} {v : Value} (hin : X.2.2.2.2.2.2.1.name = "<init>") (hc : h o = .inr (7, fs)) (ho : o < N) (hn2 : narrow (.array .int) v = v) (hfit : fits (.array .int) v = true) (hl2 : 2 < fs.length) (hd : decode cc pc = .ok (.putfield 16, 3)) (hu : ∀ o', o' < N → h' o' = va_up h o (.inr (7, fs.set 2 v)) o') (kk : V E X R RX7 cc nL ret k n Q B N (pc + 3) lv st h') : V E X R RX7 cc nL ret k n Q B N pc lv (v :: .ref (Ez E + o) :: st) h := v_putF inB7 tyX7 tyX7_ok nmX7 rfl 2 (by decide) fl_X7_16 rfl hin rfl (by decide +kernel) hc ho hn2 hfit hl2 hd hu kk
theorem g_X7_19 {E : Ev} {X : Cx} {R : Room} {cc : ByteArray} {nL : Nat} {ret : Option FieldType} {k n : Nat} {Q : State → Prop} {B : Bool} {N pc : Nat} {lv : List (Nat × Value)} {st : List Value} {h h' : Hp} {o : Nat} {fs : List Value} {v : Value} (hc : h o = .inr (7, fs)) (ho : o < N) (hv : fs[3]? = some v) (hd : decode cc pc = .ok (.getfield 19, 3)) (kk : V E X R RX7 cc nL ret k n Q B N (pc + 3) lv (v :: st) h) : V E X R RX7 cc nL ret k n Q B N pc lv (.ref (Ez E + o) :: st) h := v_get inB7 rfl 3 (by decide) fl_X7_19 hc ho hv hd kk
theorem p_X7_19 {E : Ev} {X : Cx} {R : Room} {cc : ByteArray} {nL : Nat} {ret : Option FieldType} {k n : Nat} {Q : State → Prop} {B : Bool} {N pc : Nat} {lv : List (Nat × Value)} {st : List Value} {h h' : Hp} {o : Nat} {fs : List Value} {v : Value} (hin : X.2.2.2.2.2.2.1.name = "<init>") (hc : h o = .inr (7, fs)) (ho : o < N) (hn2 : narrow (.array .int) v = v) (hfit : fits (.array .int) v = true) (hl2 : 3 < fs.length) (hd : decode cc pc = .ok (.putfield 19, 3)) (hu : ∀ o', o' < N → h' o' = va_up h o (.inr (7, fs.set 3 v)) o') (kk : V E X R RX7 cc nL ret k n Q B N (pc + 3) lv st h') : V E X R RX7 cc nL ret k n Q B N pc lv (v :: .ref (Ez E + o) :: st) h := v_putF inB7 tyX7 tyX7_ok nmX7 rfl 3 (by decide) fl_X7_19 rfl hin rfl (by decide +kernel) hc ho hn2 hfit hl2 hd hu kk
theorem g_X7_22 {E : Ev} {X : Cx} {R : Room} {cc : ByteArray} {nL : Nat} {ret : Option FieldType} {k n : Nat} {Q : State → Prop} {B : Bool} {N pc : Nat} {lv : List (Nat × Value)} {st : List Value} {h h' : Hp} {o : Nat} {fs : List Value} {v : Value} (hc : h o = .inr (7, fs)) (ho : o < N) (hv : fs[4]? = some v) (hd : decode cc pc = .ok (.getfield 22, 3)) (kk : V E X R RX7 cc nL ret k n Q B N (pc + 3) lv (v :: st) h) : V E X R RX7 cc nL ret k n Q B N pc lv (.ref (Ez E + o) :: st) h := v_get inB7 rfl 4 (by decide) fl_X7_22 hc ho hv hd kk
theorem p_X7_22 {E : Ev} {X : Cx} {R : Room} {cc : ByteArray} {nL : Nat} {ret : Option FieldType} {k n : Nat} {Q : State → Prop} {B : Bool} {N pc : Nat} {lv : List (Nat × Value)} {st : List Value} {h h' : Hp} {o : Nat} {fs : List Value} {v : Value} (hin : X.2.2.2.2.2.2.1.name = "<init>") (hc : h o = .inr (7, fs)) (ho : o < N) (hn2 : narrow (.array .int) v = v) (hfit : fits (.array .int) v = true) (hl2 : 4 < fs.length) (hd : decode cc pc = .ok (.putfield 22, 3)) (hu : ∀ o', o' < N → h' o' = va_up h o (.inr (7, fs.set 4 v)) o') (kk : V E X R RX7 cc nL ret k n Q B N (pc + 3) lv st h') : V E X R RX7 cc nL ret k n Q B N pc lv (v :: .ref (Ez E + o) :: st) h := v_putF inB7 tyX7 tyX7_ok nmX7 rfl 4 (by decide) fl_X7_22 rfl hin rfl (by decide +kernel) hc ho hn2 hfit hl2 hd hu kk
theorem g_X7_58 {E : Ev} {X : Cx} {R : Room} {cc : ByteArray} {nL : Nat} {ret : Option FieldType} {k n : Nat} {Q : State → Prop} {B : Bool} {N pc : Nat} {lv : List (Nat × Value)} {st : List Value} {h h' : Hp} {o : Nat} {fs : List Value} {v : Value} (hc : h o = .inr (7, fs)) (ho : o < N) (hv : fs[5]? = some v) (hd : decode cc pc = .ok (.getfield 58, 3)) (kk : V E X R RX7 cc nL ret k n Q B N (pc + 3) lv (v :: st) h) : V E X R RX7 cc nL ret k n Q B N pc lv (.ref (Ez E + o) :: st) h := v_get inB7 rfl 5 (by decide) fl_X7_58 hc ho hv hd kk
theorem p_X7_58 {E : Ev} {X : Cx} {R : Room} {cc : ByteArray} {nL : Nat} {ret : Option FieldType} {k n : Nat} {Q : State → Prop} {B : Bool} {N pc : Nat} {lv : List (Nat × Value)} {st : List Value} {h h' : Hp} {o : Nat} {fs : List Value} {v : Value} (hc : h o = .inr (7, fs)) (ho : o < N) (hn2 : narrow .int v = v) (hfit : fits .int v = true) (hl2 : 5 < fs.length) (hd : decode cc pc = .ok (.putfield 58, 3)) (hu : ∀ o', o' < N → h' o' = va_up h o (.inr (7, fs.set 5 v)) o') (kk : V E X R RX7 cc nL ret k n Q B N (pc + 3) lv st h') : V E X R RX7 cc nL ret k n Q B N pc lv (v :: .ref (Ez E + o) :: st) h := v_put inB7 tyX7 tyX7_ok nmX7 rfl 5 (by decide) fl_X7_58 rfl (by decide +kernel) hc ho hn2 hfit hl2 hd hu kk
theorem g_X7_25 {E : Ev} {X : Cx} {R : Room} {cc : ByteArray} {nL : Nat} {ret : Option FieldType} {k n : Nat} {Q : State → Prop} {B : Bool} {N pc : Nat} {lv : List (Nat × Value)} {st : List Value} {h h' : Hp} {o : Nat} {fs : List Value} {v : Value} (hc : h o = .inr (7, fs)) (ho : o < N) (hv : fs[6]? = some v) (hd : decode cc pc = .ok (.getfield 25, 3)) (kk : V E X R RX7 cc nL ret k n Q B N (pc + 3) lv (v :: st) h) : V E X R RX7 cc nL ret k n Q B N pc lv (.ref (Ez E + o) :: st) h := v_get inB7 rfl 6 (by decide) fl_X7_25 hc ho hv hd kk
theorem p_X7_25 {E : Ev} {X : Cx} {R : Room} {cc : ByteArray} {nL : Nat} {ret : Option FieldType} {k n : Nat} {Q : State → Prop} {B : Bool} {N pc : Nat} {lv : List (Nat × Value)} {st : List Value} {h h' : Hp} {o : Nat} {fs : List Value} {v : Value} (hin : X.2.2.2.2.2.2.1.name = "<init>") (hc : h o = .inr (7, fs)) (ho : o < N) (hn2 : narrow (.array .int) v = v) (hfit : fits (.array .int) v = true) (hl2 : 6 < fs.length) (hd : decode cc pc = .ok (.putfield 25, 3)) (hu : ∀ o', o' < N → h' o' = va_up h o (.inr (7, fs.set 6 v)) o') (kk : V E X R RX7 cc nL ret k n Q B N (pc + 3) lv st h') : V E X R RX7 cc nL ret k n Q B N pc lv (v :: .ref (Ez E + o) :: st) h := v_putF inB7 tyX7 tyX7_ok nmX7 rfl 6 (by decide) fl_X7_25 rfl hin rfl (by decide +kernel) hc ho hn2 hfit hl2 hd hu kk
theorem g_X7_28 {E : Ev} {X : Cx} {R : Room} {cc : ByteArray} {nL : Nat} {ret : Option FieldType} {k n : Nat} {Q : State → Prop} {B : Bool} {N pc : Nat} {lv : List (Nat × Value)} {st : List Value} {h h' : Hp} {o : Nat} {fs : List Value} {v : Value} (hc : h o = .inr (7, fs)) (ho : o < N) (hv : fs[7]? = some v) (hd : decode cc pc = .ok (.getfield 28, 3)) (kk : V E X R RX7 cc nL ret k n Q B N (pc + 3) lv (v :: st) h) : V E X R RX7 cc nL ret k n Q B N pc lv (.ref (Ez E + o) :: st) h := v_get inB7 rfl 7 (by decide) fl_X7_28 hc ho hv hd kk
theorem p_X7_28 {E : Ev} {X : Cx} {R : Room} {cc : ByteArray} {nL : Nat} {ret : Option FieldType} {k n : Nat} {Q : State → Prop} {B : Bool} {N pc : Nat} {lv : List (Nat × Value)} {st : List Value} {h h' : Hp} {o : Nat} {fs : List Value} {v : Value} (hin : X.2.2.2.2.2.2.1.name = "<init>") (hc : h o = .inr (7, fs)) (ho : o < N) (hn2 : narrow (.array .boolean) v = v) (hfit : fits (.array .boolean) v = true) (hl2 : 7 < fs.length) (hd : decode cc pc = .ok (.putfield 28, 3)) (hu : ∀ o', o' < N → h' o' = va_up h o (.inr (7, fs.set 7 v)) o') (kk : V E X R RX7 cc nL ret k n Q B N (pc + 3) lv st h') : V E X R RX7 cc nL ret k n Q B N pc lv (v :: .ref (Ez E + o) :: st) h := v_putF inB7 tyX7 tyX7_ok nmX7 rfl 7 (by decide) fl_X7_28 rfl hin rfl (by decide +kernel) hc ho hn2 hfit hl2 hd hu kk
theorem g_X7_212 {E : Ev} {X : Cx} {R : Room} {cc : ByteArray} {nL : Nat} {ret : Option FieldType} {k n : Nat} {Q : State → Prop} {B : Bool} {N pc : Nat} {lv : List (Nat × Value)} {st : List Value} {h h' : Hp} {o : Nat} {fs : List Value} {v : Value} (hc : h o = .inr (7, fs)) (ho : o < N) (hv : fs[8]? = some v) (hd : decode cc pc = .ok (.getfield 212, 3)) (kk : V E X R RX7 cc nL ret k n Q B N (pc + 3) lv (v :: st) h) : V E X R RX7 cc nL ret k n Q B N pc lv (.ref (Ez E + o) :: st) h := v_get inB7 rfl 8 (by decide) fl_X7_212 hc ho hv hd kk
theorem p_X7_212 {E : Ev} {X : Cx} {R : Room} {cc : ByteArray} {nL : Nat} {ret : Option FieldType} {k n : Nat} {Q : State → Prop} {B : Bool} {N pc : Nat} {lv : List (Nat × Value)} {st : List Value} {h h' : Hp} {o : Nat} {fs : List Value} {v : Value} (hc : h o = .inr (7, fs)) (ho : o < N) (hn2 : narrow .long v = v) (hfit : fits .long v = true) (hl2 : 8 < fs.length) (hd : decode cc pc = .ok (.putfield 212, 3)) (hu : ∀ o', o' < N → h' o' = va_up h o (.inr (7, fs.set 8 v)) o') (kk : V E X R RX7 cc nL ret k n Q B N (pc + 3) lv st h') : V E X R RX7 cc nL ret k n Q B N pc lv (v :: .ref (Ez E + o) :: st) h := v_put inB7 tyX7 tyX7_ok nmX7 rfl 8 (by decide) fl_X7_212 rfl (by decide +kernel) hc ho hn2 hfit hl2 hd hu kk
theorem g_X7_32 {E : Ev} {X : Cx} {R : Room} {cc : ByteArray} {nL : Nat} {ret : Option FieldType} {k n : Nat} {Q : State → Prop} {B : Bool} {N pc : Nat} {lv : List (Nat × Value)} {st : List Value} {h h' : Hp} {o : Nat} {fs : List Value} {v : Value} (hc : h o = .inr (7, fs)) (ho : o < N) (hv : fs[9]? = some v) (hd : decode cc pc = .ok (.getfield 32, 3)) (kk : V E X R RX7 cc nL ret k n Q B N (pc + 3) lv (v :: st) h) : V E X R RX7 cc nL ret k n Q B N pc lv (.ref (Ez E + o) :: st) h := v_get inB7 rfl 9 (by decide) fl_X7_32 hc ho hv hd kk
theorem p_X7_32 {E : Ev} {X : Cx} {R : Room} {cc : ByteArray} {nL : Nat} {ret : Option FieldType} {k n : Nat} {Q : State → Prop} {B : Bool} {N pc : Nat} {lv : List (Nat × Value)} {st : List Value} {h h' : Hp} {o : Nat} {fs : List Value} {v : Value} (hin : X.2.2.2.2.2.2.1.name = "<init>") (hc : h o = .inr (7, fs)) (ho : o < N) (hn2 : narrow (.array .int) v = v) (hfit : fits (.array .int) v = true) (hl2 : 9 < fs.length) (hd : decode cc pc = .ok (.putfield 32, 3)) (hu : ∀ o', o' < N → h' o' = va_up h o (.inr (7, fs.set 9 v)) o') (kk : V E X R RX7 cc nL ret k n Q B N (pc + 3) lv st h') : V E X R RX7 cc nL ret k n Q B N pc lv (v :: .ref (Ez E + o) :: st) h := v_putF inB7 tyX7 tyX7_ok nmX7 rfl 9 (by decide) fl_X7_32 rfl hin rfl (by decide +kernel) hc ho hn2 hfit hl2 hd hu kk
theorem g_X7_77 {E : Ev} {X : Cx} {R : Room} {cc : ByteArray} {nL : Nat} {ret : Option FieldType} {k n : Nat} {Q : State → Prop} {B : Bool} {N pc : Nat} {lv : List (Nat × Value)} {st : List Value} {h h' : Hp} {o : Nat} {fs : List Value} {v : Value} (hc : h o = .inr (7, fs)) (ho : o < N) (hv : fs[10]? = some v) (hd : decode cc pc = .ok (.getfield 77, 3)) (kk : V E X R RX7 cc nL ret k n Q B N (pc + 3) lv (v :: st) h) : V E X R RX7 cc nL ret k n Q B N pc lv (.ref (Ez E + o) :: st) h := v_get inB7 rfl 10 (by decide) fl_X7_77 hc ho hv hd kk
theorem p_X7_77 {E : Ev} {X : Cx} {R : Room} {cc : ByteArray} {nL : Nat} {ret : Option FieldType} {k n : Nat} {Q : State → Prop} {B : Bool} {N pc : Nat} {lv : List (Nat × Value)} {st : List Value} {h h' : Hp} {o : Nat} {fs : List Value} {v : Value} (hc : h o = .inr (7, fs)) (ho : o < N) (hn2 : narrow .int v = v) (hfit : fits .int v = true) (hl2 : 10 < fs.length) (hd : decode cc pc = .ok (.putfield 77, 3)) (hu : ∀ o', o' < N → h' o' = va_up h o (.inr (7, fs.set 10 v)) o') (kk : V E X R RX7 cc nL ret k n Q B N (pc + 3) lv st h') : V E X R RX7 cc nL ret k n Q B N pc lv (v :: .ref (Ez E + o) :: st) h := v_put inB7 tyX7 tyX7_ok nmX7 rfl 10 (by decide) fl_X7_77 rfl (by decide +kernel) hc ho hn2 hfit hl2 hd hu kk
theorem g_X7_35 {E : Ev} {X : Cx} {R : Room} {cc : ByteArray} {nL : Nat} {ret : Option FieldType} {k n : Nat} {Q : State → Prop} {B : Bool} {N pc : Nat} {lv : List (Nat × Value)} {st : List Value} {h h' : Hp} {o : Nat} {fs : List Value} {v : Value} (hc : h o = .inr (7, fs)) (ho : o < N) (hv : fs[11]? = some v) (hd : decode cc pc = .ok (.getfield 35, 3)) (kk : V E X R RX7 cc nL ret k n Q B N (pc + 3) lv (v :: st) h) : V E X R RX7 cc nL ret k n Q B N pc lv (.ref (Ez E + o) :: st) h := v_get inB7 rfl 11 (by decide) fl_X7_35 hc ho hv hd kk
theorem p_X7_35 {E : Ev} {X : Cx} {R : Room} {cc : ByteArray} {nL : Nat} {ret : Option FieldType} {k n : Nat} {Q : State → Prop} {B : Bool} {N pc : Nat} {lv : List (Nat × Value)} {st : List Value} {h h' : Hp} {o : Nat} {fs : List Value} {v : Value} (hc : h o = .inr (7, fs)) (ho : o < N) (hn2 : narrow .int v = v) (hfit : fits .int v = true) (hl2 : 11 < fs.length) (hd : decode cc pc = .ok (.putfield 35, 3)) (hu : ∀ o', o' < N → h' o' = va_up h o (.inr (7, fs.set 11 v)) o') (kk : V E X R RX7 cc nL ret k n Q B N (pc + 3) lv st h') : V E X R RX7 cc nL ret k n Q B N pc lv (v :: .ref (Ez E + o) :: st) h := v_put inB7 tyX7 tyX7_ok nmX7 rfl 11 (by decide) fl_X7_35 rfl (by decide +kernel) hc ho hn2 hfit hl2 hd hu kk
theorem g_X7_39 {E : Ev} {X : Cx} {R : Room} {cc : ByteArray} {nL : Nat} {ret : Option FieldType} {k n : Nat} {Q : State → Prop} {B : Bool} {N pc : Nat} {lv : List (Nat × Value)} {st : List Value} {h h' : Hp} {o : Nat} {fs : List Value} {v : Value} (hc : h o = .inr (7, fs)) (ho : o < N) (hv : fs[12]? = some v) (hd : decode cc pc = .ok (.getfield 39, 3)) (kk : V E X R RX7 cc nL ret k n Q B N (pc + 3) lv (v :: st) h) : V E X R RX7 cc nL ret k n Q B N pc lv (.ref (Ez E + o) :: st) h := v_get inB7 rfl 12 (by decide) fl_X7_39 hc ho hv hd kk
theorem p_X7_39 {E : Ev} {X : Cx} {R : Room} {cc : ByteArray} {nL : Nat} {ret : Option FieldType} {k n : Nat} {Q : State → Prop} {B : Bool} {N pc : Nat} {lv : List (Nat × Value)} {st : List Value} {h h' : Hp} {o : Nat} {fs : List Value} {v : Value} (hin : X.2.2.2.2.2.2.1.name = "<init>") (hc : h o = .inr (7, fs)) (ho : o < N) (hn2 : narrow (.array .int) v = v) (hfit : fits (.array .int) v = true) (hl2 : 12 < fs.length) (hd : decode cc pc = .ok (.putfield 39, 3)) (hu : ∀ o', o' < N → h' o' = va_up h o (.inr (7, fs.set 12 v)) o') (kk : V E X R RX7 cc nL ret k n Q B N (pc + 3) lv st h') : V E X R RX7 cc nL ret k n Q B N pc lv (v :: .ref (Ez E + o) :: st) h := v_putF inB7 tyX7 tyX7_ok nmX7 rfl 12 (by decide) fl_X7_39 rfl hin rfl (by decide +kernel) hc ho hn2 hfit hl2 hd hu kk
theorem g_X7_61 {E : Ev} {X : Cx} {R : Room} {cc : ByteArray} {nL : Nat} {ret : Option FieldType} {k n : Nat} {Q : State → Prop} {B : Bool} {N pc : Nat} {lv : List (Nat × Value)} {st : List Value} {h h' : Hp} {o : Nat} {fs : List Value} {v : Value} (hc : h o = .inr (7, fs)) (ho : o < N) (hv : fs[13]? = some v) (hd : decode cc pc = .ok (.getfield 61, 3)) (kk : V E X R RX7 cc nL ret k n Q B N (pc + 3) lv (v :: st) h) : V E X R RX7 cc nL ret k n Q B N pc lv (.ref (Ez E + o) :: st) h := v_get inB7 rfl 13 (by decide) fl_X7_61 hc ho hv hd kk
theorem p_X7_61 {E : Ev} {X : Cx} {R : Room} {cc : ByteArray} {nL : Nat} {ret : Option FieldType} {k n : Nat} {Q : State → Prop} {B : Bool} {N pc : Nat} {lv : List (Nat × Value)} {st : List Value} {h h' : Hp} {o : Nat} {fs : List Value} {v : Value} (hc : h o = .inr (7, fs)) (ho : o < N) (hn2 : narrow .int v = v) (hfit : fits .int v = true) (hl2 : 13 < fs.length) (hd : decode cc pc = .ok (.putfield 61, 3)) (hu : ∀ o', o' < N → h' o' = va_up h o (.inr (7, fs.set 13 v)) o') (kk : V E X R RX7 cc nL ret k n Q B N (pc + 3) lv st h') : V E X R RX7 cc nL ret k n Q B N pc lv (v :: .ref (Ez E + o) :: st) h := v_put inB7 tyX7 tyX7_ok nmX7 rfl 13 (by decide) fl_X7_61 rfl (by decide +kernel) hc ho hn2 hfit hl2 hd hu kk
theorem g_X7_42 {E : Ev} {X : Cx} {R : Room} {cc : ByteArray} {nL : Nat} {ret : Option FieldType} {k n : Nat} {Q : State → Prop} {B : Bool} {N pc : Nat} {lv : List (Nat × Value)} {st : List Value} {h h' : Hp} {o : Nat} {fs : List Value} {v : Value} (hc : h o = .inr (7, fs)) (ho : o < N) (hv : fs[14]? = some v) (hd : decode cc pc = .ok (.getfield 42, 3)) (kk : V E X R RX7 cc nL ret k n Q B N (pc + 3) lv (v :: st) h) : V E X R RX7 cc nL ret k n Q B N pc lv (.ref (Ez E + o) :: st) h := v_get inB7 rfl 14 (by decide) fl_X7_42 hc ho hv hd kk
theorem p_X7_42 {E : Ev} {X : Cx} {R : Room} {cc : ByteArray} {nL : Nat} {ret : Option FieldType} {k n : Nat} {Q : State → Prop} {B : Bool} {N pc : Nat} {lv : List (Nat × Value)} {st : List Value} {h h' : Hp} {o : Nat} {fs : List Value} {v : Value} (hin : X.2.2.2.2.2.2.1.name = "<init>") (hc : h o = .inr (7, fs)) (ho : o < N) (hn2 : narrow (.array .int) v = v) (hfit : fits (.array .int) v = true) (hl2 : 14 < fs.length) (hd : decode cc pc = .ok (.putfield 42, 3)) (hu : ∀ o', o' < N → h' o' = va_up h o (.inr (7, fs.set 14 v)) o') (kk : V E X R RX7 cc nL ret k n Q B N (pc + 3) lv st h') : V E X R RX7 cc nL ret k n Q B N pc lv (v :: .ref (Ez E + o) :: st) h := v_putF inB7 tyX7 tyX7_ok nmX7 rfl 14 (by decide) fl_X7_42 rfl hin rfl (by decide +kernel) hc ho hn2 hfit hl2 hd hu kk
theorem g_X7_64 {E : Ev} {X : Cx} {R : Room} {cc : ByteArray} {nL : Nat} {ret : Option FieldType} {k n : Nat} {Q : State → Prop} {B : Bool} {N pc : Nat} {lv : List (Nat × Value)} {st : List Value} {h h' : Hp} {o : Nat} {fs : List Value} {v : Value} (hc : h o = .inr (7, fs)) (ho : o < N) (hv : fs[15]? = some v) (hd : decode cc pc = .ok (.getfield 64, 3)) (kk : V E X R RX7 cc nL ret k n Q B N (pc + 3) lv (v :: st) h) : V E X R RX7 cc nL ret k n Q B N pc lv (.ref (Ez E + o) :: st) h := v_get inB7 rfl 15 (by decide) fl_X7_64 hc ho hv hd kk
theorem p_X7_64 {E : Ev} {X : Cx} {R : Room} {cc : ByteArray} {nL : Nat} {ret : Option FieldType} {k n : Nat} {Q : State → Prop} {B : Bool} {N pc : Nat} {lv : List (Nat × Value)} {st : List Value} {h h' : Hp} {o : Nat} {fs : List Value} {v : Value} (hc : h o = .inr (7, fs)) (ho : o < N) (hn2 : narrow .int v = v) (hfit : fits .int v = true) (hl2 : 15 < fs.length) (hd : decode cc pc = .ok (.putfield 64, 3)) (hu : ∀ o', o' < N → h' o' = va_up h o (.inr (7, fs.set 15 v)) o') (kk : V E X R RX7 cc nL ret k n Q B N (pc + 3) lv st h') : V E X R RX7 cc nL ret k n Q B N pc lv (v :: .ref (Ez E + o) :: st) h := v_put inB7 tyX7 tyX7_ok nmX7 rfl 15 (by decide) fl_X7_64 rfl (by decide +kernel) hc ho hn2 hfit hl2 hd hu kk
theorem g_X7_45 {E : Ev} {X : Cx} {R : Room} {cc : ByteArray} {nL : Nat} {ret : Option FieldType} {k n : Nat} {Q : State → Prop} {B : Bool} {N pc : Nat} {lv : List (Nat × Value)} {st : List Value} {h h' : Hp} {o : Nat} {fs : List Value} {v : Value} (hc : h o = .inr (7, fs)) (ho : o < N) (hv : fs[16]? = some v) (hd : decode cc pc = .ok (.getfield 45, 3)) (kk : V E X R RX7 cc nL ret k n Q B N (pc + 3) lv (v :: st) h) : V E X R RX7 cc nL ret k n Q B N pc lv (.ref (Ez E + o) :: st) h := v_get inB7 rfl 16 (by decide) fl_X7_45 hc ho hv hd kk
theorem p_X7_45 {E : Ev} {X : Cx} {R : Room} {cc : ByteArray} {nL : Nat} {ret : Option FieldType} {k n : Nat} {Q : State → Prop} {B : Bool} {N pc : Nat} {lv : List (Nat × Value)} {st : List Value} {h h' : Hp} {o : Nat} {fs : List Value} {v : Value} (hin : X.2.2.2.2.2.2.1.name = "<init>") (hc : h o = .inr (7, fs)) (ho : o < N) (hn2 : narrow (.array .int) v = v) (hfit : fits (.array .int) v = true) (hl2 : 16 < fs.length) (hd : decode cc pc = .ok (.putfield 45, 3)) (hu : ∀ o', o' < N → h' o' = va_up h o (.inr (7, fs.set 16 v)) o') (kk : V E X R RX7 cc nL ret k n Q B N (pc + 3) lv st h') : V E X R RX7 cc nL ret k n Q B N pc lv (v :: .ref (Ez E + o) :: st) h := v_putF inB7 tyX7 tyX7_ok nmX7 rfl 16 (by decide) fl_X7_45 rfl hin rfl (by decide +kernel) hc ho hn2 hfit hl2 hd hu kk
theorem g_X7_67 {E : Ev} {X : Cx} {R : Room} {cc : ByteArray} {nL : Nat} {ret : Option FieldType} {k n : Nat} {Q : State → Prop} {B : Bool} {N pc : Nat} {lv : List (Nat × Value)} {st : List Value} {h h' : Hp} {o : Nat} {fs : List Value} {v : Value} (hc : h o = .inr (7, fs)) (ho : o < N) (hv : fs[17]? = some v) (hd : decode cc pc = .ok (.getfield 67, 3)) (kk : V E X R RX7 cc nL ret k n Q B N (pc + 3) lv (v :: st) h) : V E X R RX7 cc nL ret k n Q B N pc lv (.ref (Ez E + o) :: st) h := v_get inB7 rfl 17 (by decide) fl_X7_67 hc ho hv hd kk
theorem p_X7_67 {E : Ev} {X : Cx} {R : Room} {cc : ByteArray} {nL : Nat} {ret : Option FieldType} {k n : Nat} {Q : State → Prop} {B : Bool} {N pc : Nat} {lv : List (Nat × Value)} {st : List Value} {h h' : Hp} {o : Nat} {fs : List Value} {v : Value} (hc : h o = .inr (7, fs)) (ho : o < N) (hn2 : narrow .int v = v) (hfit : fits .int v = true) (hl2 : 17 < fs.length) (hd : decode cc pc = .ok (.putfield 67, 3)) (hu : ∀ o', o' < N → h' o' = va_up h o (.inr (7, fs.set 17 v)) o') (kk : V E X R RX7 cc nL ret k n Q B N (pc + 3) lv st h') : V E X R RX7 cc nL ret k n Q B N pc lv (v :: .ref (Ez E + o) :: st) h := v_put inB7 tyX7 tyX7_ok nmX7 rfl 17 (by decide) fl_X7_67 rfl (by decide +kernel) hc ho hn2 hfit hl2 hd hu kk
theorem g_X7_81 {E : Ev} {X : Cx} {R : Room} {cc : ByteArray} {nL : Nat} {ret : Option FieldType} {k n : Nat} {Q : State → Prop} {B : Bool} {N pc : Nat} {lv : List (Nat × Value)} {st : List Value} {h h' : Hp} {o : Nat} {fs : List Value} {v : Value} (hc : h o = .inr (7, fs)) (ho : o < N) (hv : fs[18]? = some v) (hd : decode cc pc = .ok (.getfield 81, 3)) (kk : V E X R RX7 cc nL ret k n Q B N (pc + 3) lv (v :: st) h) : V E X R RX7 cc nL ret k n Q B N pc lv (.ref (Ez E + o) :: st) h := v_get inB7 rfl 18 (by decide) fl_X7_81 hc ho hv hd kk
theorem p_X7_81 {E : Ev} {X : Cx} {R : Room} {cc : ByteArray} {nL : Nat} {ret : Option FieldType} {k n : Nat} {Q : State → Prop} {B : Bool} {N pc : Nat} {lv : List (Nat × Value)} {st : List Value} {h h' : Hp} {o : Nat} {fs : List Value} {v : Value} (hc : h o = .inr (7, fs)) (ho : o < N) (hn2 : narrow .int v = v) (hfit : fits .int v = true) (hl2 : 18 < fs.length) (hd : decode cc pc = .ok (.putfield 81, 3)) (hu : ∀ o', o' < N → h' o' = va_up h o (.inr (7, fs.set 18 v)) o') (kk : V E X R RX7 cc nL ret k n Q B N (pc + 3) lv st h') : V E X R RX7 cc nL ret k n Q B N pc lv (v :: .ref (Ez E + o) :: st) h := v_put inB7 tyX7 tyX7_ok nmX7 rfl 18 (by decide) fl_X7_81 rfl (by decide +kernel) hc ho hn2 hfit hl2 hd hu kk
theorem g_X7_88 {E : Ev} {X : Cx} {R : Room} {cc : ByteArray} {nL : Nat} {ret : Option FieldType} {k n : Nat} {Q : State → Prop} {B : Bool} {N pc : Nat} {lv : List (Nat × Value)} {st : List Value} {h h' : Hp} {o : Nat} {fs : List Value} {v : Value} (hc : h o = .inr (7, fs)) (ho : o < N) (hv : fs[19]? = some v) (hd : decode cc pc = .ok (.getfield 88, 3)) (kk : V E X R RX7 cc nL ret k n Q B N (pc + 3) lv (v :: st) h) : V E X R RX7 cc nL ret k n Q B N pc lv (.ref (Ez E + o) :: st) h := v_get inB7 rfl 19 (by decide) fl_X7_88 hc ho hv hd kk
theorem p_X7_88 {E : Ev} {X : Cx} {R : Room} {cc : ByteArray} {nL : Nat} {ret : Option FieldType} {k n : Nat} {Q : State → Prop} {B : Bool} {N pc : Nat} {lv : List (Nat × Value)} {st : List Value} {h h' : Hp} {o : Nat} {fs : List Value} {v : Value} (hc : h o = .inr (7, fs)) (ho : o < N) (hn2 : narrow .int v = v) (hfit : fits .int v = true) (hl2 : 19 < fs.length) (hd : decode cc pc = .ok (.putfield 88, 3)) (hu : ∀ o', o' < N → h' o' = va_up h o (.inr (7, fs.set 19 v)) o') (kk : V E X R RX7 cc nL ret k n Q B N (pc + 3) lv st h') : V E X R RX7 cc nL ret k n Q B N pc lv (v :: .ref (Ez E + o) :: st) h := v_put inB7 tyX7 tyX7_ok nmX7 rfl 19 (by decide) fl_X7_88 rfl (by decide +kernel) hc ho hn2 hfit hl2 hd hu kk
theorem g_X7_91 {E : Ev} {X : Cx} {R : Room} {cc : ByteArray} {nL : Nat} {ret : Option FieldType} {k n : Nat} {Q : State → Prop} {B : Bool} {N pc : Nat} {lv : List (Nat × Value)} {st : List Value} {h h' : Hp} {o : Nat} {fs : List Value} {v : Value} (hc : h o = .inr (7, fs)) (ho : o < N) (hv : fs[20]? = some v) (hd : decode cc pc = .ok (.getfield 91, 3)) (kk : V E X R RX7 cc nL ret k n Q B N (pc + 3) lv (v :: st) h) : V E X R RX7 cc nL ret k n Q B N pc lv (.ref (Ez E + o) :: st) h := v_get inB7 rfl 20 (by decide) fl_X7_91 hc ho hv hd kk
theorem p_X7_91 {E : Ev} {X : Cx} {R : Room} {cc : ByteArray} {nL : Nat} {ret : Option FieldType} {k n : Nat} {Q : State → Prop} {B : Bool} {N pc : Nat} {lv : List (Nat × Value)} {st : List Value} {h h' : Hp} {o : Nat} {fs : List Value} {v : Value} (hc : h o = .inr (7, fs)) (ho : o < N) (hn2 : narrow .int v = v) (hfit : fits .int v = true) (hl2 : 20 < fs.length) (hd : decode cc pc = .ok (.putfield 91, 3)) (hu : ∀ o', o' < N → h' o' = va_up h o (.inr (7, fs.set 20 v)) o') (kk : V E X R RX7 cc nL ret k n Q B N (pc + 3) lv st h') : V E X R RX7 cc nL ret k n Q B N pc lv (v :: .ref (Ez E + o) :: st) h := v_put inB7 tyX7 tyX7_ok nmX7 rfl 20 (by decide) fl_X7_91 rfl (by decide +kernel) hc ho hn2 hfit hl2 hd hu kk
theorem g_X7_94 {E : Ev} {X : Cx} {R : Room} {cc : ByteArray} {nL : Nat} {ret : Option FieldType} {k n : Nat} {Q : State → Prop} {B : Bool} {N pc : Nat} {lv : List (Nat × Value)} {st : List Value} {h h' : Hp} {o : Nat} {fs : List Value} {v : Value} (hc : h o = .inr (7, fs)) (ho : o < N) (hv : fs[21]? = some v) (hd : decode cc pc = .ok (.getfield 94, 3)) (kk : V E X R RX7 cc nL ret k n Q B N (pc + 3) lv (v :: st) h) : V E X R RX7 cc nL ret k n Q B N pc lv (.ref (Ez E + o) :: st) h := v_get inB7 rfl 21 (by decide) fl_X7_94 hc ho hv hd kk
theorem p_X7_94 {E : Ev} {X : Cx} {R : Room} {cc : ByteArray} {nL : Nat} {ret : Option FieldType} {k n : Nat} {Q : State → Prop} {B : Bool} {N pc : Nat} {lv : List (Nat × Value)} {st : List Value} {h h' : Hp} {o : Nat} {fs : List Value} {v : Value} (hc : h o = .inr (7, fs)) (ho : o < N) (hn2 : narrow .int v = v) (hfit : fits .int v = true) (hl2 : 21 < fs.length) (hd : decode cc pc = .ok (.putfield 94, 3)) (hu : ∀ o', o' < N → h' o' = va_up h o (.inr (7, fs.set 21 v)) o') (kk : V E X R RX7 cc nL ret k n Q B N (pc + 3) lv st h') : V E X R RX7 cc nL ret k n Q B N pc lv (v :: .ref (Ez E + o) :: st) h := v_put inB7 tyX7 tyX7_ok nmX7 rfl 21 (by decide) fl_X7_94 rfl (by decide +kernel) hc ho hn2 hfit hl2 hd hu kk
theorem g_X7_97 {E : Ev} {X : Cx} {R : Room} {cc : ByteArray} {nL : Nat} {ret : Option FieldType} {k n : Nat} {Q : State → Prop} {B : Bool} {N pc : Nat} {lv : List (Nat × Value)} {st : List Value} {h h' : Hp} {o : Nat} {fs : List Value} {v : Value} (hc : h o = .inr (7, fs)) (ho : o < N) (hv : fs[22]? = some v) (hd : decode cc pc = .ok (.getfield 97, 3)) (kk : V E X R RX7 cc nL ret k n Q B N (pc + 3) lv (v :: st) h) : V E X R RX7 cc nL ret k n Q B N pc lv (.ref (Ez E + o) :: st) h := v_get inB7 rfl 22 (by decide) fl_X7_97 hc ho hv hd kk
theorem p_X7_97 {E : Ev} {X : Cx} {R : Room} {cc : ByteArray} {nL : Nat} {ret : Option FieldType} {k n : Nat} {Q : State → Prop} {B : Bool} {N pc : Nat} {lv : List (Nat × Value)} {st : List Value} {h h' : Hp} {o : Nat} {fs : List Value} {v : Value} (hc : h o = .inr (7, fs)) (ho : o < N) (hn2 : narrow .int v = v) (hfit : fits .int v = true) (hl2 : 22 < fs.length) (hd : decode cc pc = .ok (.putfield 97, 3)) (hu : ∀ o', o' < N → h' o' = va_up h o (.inr (7, fs.set 22 v)) o') (kk : V E X R RX7 cc nL ret k n Q B N (pc + 3) lv st h') : V E X R RX7 cc nL ret k n Q B N pc lv (v :: .ref (Ez E + o) :: st) h := v_put inB7 tyX7 tyX7_ok nmX7 rfl 22 (by decide) fl_X7_97 rfl (by decide +kernel) hc ho hn2 hfit hl2 hd hu kk
theorem g_X7_104 {E : Ev} {X : Cx} {R : Room} {cc : ByteArray} {nL : Nat} {ret : Option FieldType} {k n : Nat} {Q : State → Prop} {B : Bool} {N pc : Nat} {lv : List (Nat × Value)} {st : List Value} {h h' : Hp} {o : Nat} {fs : List Value} {v : Value} (hc : h o = .inr (7, fs)) (ho : o < N) (hv : fs[23]? = some v) (hd : decode cc pc = .ok (.getfield 104, 3)) (kk : V E X R RX7 cc nL ret k n Q B N (pc + 3) lv (v :: st) h) : V E X R RX7 cc nL ret k n Q B N pc lv (.ref (Ez E + o) :: st) h := v_get inB7 rfl 23 (by decide) fl_X7_104 hc ho hv hd kk
theorem p_X7_104 {E : Ev} {X : Cx} {R : Room} {cc : ByteArray} {nL : Nat} {ret : Option FieldType} {k n : Nat} {Q : State → Prop} {B : Bool} {N pc : Nat} {lv : List (Nat × Value)} {st : List Value} {h h' : Hp} {o : Nat} {fs : List Value} {v : Value} (hc : h o = .inr (7, fs)) (ho : o < N) (hn2 : narrow .int v = v) (hfit : fits .int v = true) (hl2 : 23 < fs.length) (hd : decode cc pc = .ok (.putfield 104, 3)) (hu : ∀ o', o' < N → h' o' = va_up h o (.inr (7, fs.set 23 v)) o') (kk : V E X R RX7 cc nL ret k n Q B N (pc + 3) lv st h') : V E X R RX7 cc nL ret k n Q B N pc lv (v :: .ref (Ez E + o) :: st) h := v_put inB7 tyX7 tyX7_ok nmX7 rfl 23 (by decide) fl_X7_104 rfl (by decide +kernel) hc ho hn2 hfit hl2 hd hu kk
theorem g_X7_48 {E : Ev} {X : Cx} {R : Room} {cc : ByteArray} {nL : Nat} {ret : Option FieldType} {k n : Nat} {Q : State → Prop} {B : Bool} {N pc : Nat} {lv : List (Nat × Value)} {st : List Value} {h h' : Hp} {o : Nat} {fs : List Value} {v : Value} (hc : h o = .inr (7, fs)) (ho : o < N) (hv : fs[24]? = some v) (hd : decode cc pc = .ok (.getfield 48, 3)) (kk : V E X R RX7 cc nL ret k n Q B N (pc + 3) lv (v :: st) h) : V E X R RX7 cc nL ret k n Q B N pc lv (.ref (Ez E + o) :: st) h := v_get inB7 rfl 24 (by decide) fl_X7_48 hc ho hv hd kk
theorem p_X7_48 {E : Ev} {X : Cx} {R : Room} {cc : ByteArray} {nL : Nat} {ret : Option FieldType} {k n : Nat} {Q : State → Prop} {B : Bool} {N pc : Nat} {lv : List (Nat × Value)} {st : List Value} {h h' : Hp} {o : Nat} {fs : List Value} {v : Value} (hin : X.2.2.2.2.2.2.1.name = "<init>") (hc : h o = .inr (7, fs)) (ho : o < N) (hn2 : narrow (.array .int) v = v) (hfit : fits (.array .int) v = true) (hl2 : 24 < fs.length) (hd : decode cc pc = .ok (.putfield 48, 3)) (hu : ∀ o', o' < N → h' o' = va_up h o (.inr (7, fs.set 24 v)) o') (kk : V E X R RX7 cc nL ret k n Q B N (pc + 3) lv st h') : V E X R RX7 cc nL ret k n Q B N pc lv (v :: .ref (Ez E + o) :: st) h := v_putF inB7 tyX7 tyX7_ok nmX7 rfl 24 (by decide) fl_X7_48 rfl hin rfl (by decide +kernel) hc ho hn2 hfit hl2 hd hu kk
theorem g_X7_51 {E : Ev} {X : Cx} {R : Room} {cc : ByteArray} {nL : Nat} {ret : Option FieldType} {k n : Nat} {Q : State → Prop} {B : Bool} {N pc : Nat} {lv : List (Nat × Value)} {st : List Value} {h h' : Hp} {o : Nat} {fs : List Value} {v : Value} (hc : h o = .inr (7, fs)) (ho : o < N) (hv : fs[25]? = some v) (hd : decode cc pc = .ok (.getfield 51, 3)) (kk : V E X R RX7 cc nL ret k n Q B N (pc + 3) lv (v :: st) h) : V E X R RX7 cc nL ret k n Q B N pc lv (.ref (Ez E + o) :: st) h := v_get inB7 rfl 25 (by decide) fl_X7_51 hc ho hv hd kk
theorem p_X7_51 {E : Ev} {X : Cx} {R : Room} {cc : ByteArray} {nL : Nat} {ret : Option FieldType} {k n : Nat} {Q : State → Prop} {B : Bool} {N pc : Nat} {lv : List (Nat × Value)} {st : List Value} {h h' : Hp} {o : Nat} {fs : List Value} {v : Value} (hin : X.2.2.2.2.2.2.1.name = "<init>") (hc : h o = .inr (7, fs)) (ho : o < N) (hn2 : narrow (.array .int) v = v) (hfit : fits (.array .int) v = true) (hl2 : 25 < fs.length) (hd : decode cc pc = .ok (.putfield 51, 3)) (hu : ∀ o', o' < N → h' o' = va_up h o (.inr (7, fs.set 25 v)) o') (kk : V E X R RX7 cc nL ret k n Q B N (pc + 3) lv st h') : V E X R RX7 cc nL ret k n Q B N pc lv (v :: .ref (Ez E + o) :: st) h := v_putF inB7 tyX7 tyX7_ok nmX7 rfl 25 (by decide) fl_X7_51 rfl hin rfl (by decide +kernel) hc ho hn2 hfit hl2 hd hu kk
theorem ds_X6_init : dscOk yX6_init 0 := by decide +kernel
theorem k_L_9 : LkI RL 9 yX6_init cX6_init 2 0 := ⟨ml_L_9, rfl, im_X6_init, in_X6, co_X6_init, ds_X6_init⟩
theorem ds_X5_init : dscOk yX5_init 0 := by decide +kernel
theorem k_X6_9 : LkIN RX6 9 yX5_init RX6 cX5_init 1 0 := ⟨by decide +kernel, rfl, im_X5_init, in_X5, co_X5_init, ds_X5_init⟩
theorem ds_X1_init : dscOk yX1_init 0 := by decide +kernel
theorem k_X6_18 : LkIN RX6 18 yX1_init RX6 cX1_init 1 0 := ⟨by decide +kernel, rfl, im_X1_init, in_X1, co_X1_init, ds_X1_init⟩
theorem ds_X0_init : dscOk yX0_init 0 := by decide +kernel
theorem k_X6_28 : LkIN RX6 28 yX0_init RX6 cX0_init 1 0 := ⟨by decide +kernel, rfl, im_X0_init, in_X0, co_X0_init, ds_X0_init⟩
theorem ds_X2_init : dscOk yX2_init 0 := by decide +kernel
theorem k_X6_38 : LkI RX6 38 yX2_init cX2_init 2 0 := ⟨ml_X6_38, rfl, im_X2_init, in_X2, co_X2_init, ds_X2_init⟩
theorem k_X2_24 : LkIN RX2 24 yX0_init RX6 cX0_init 1 0 := ⟨by decide +kernel, rfl, im_X0_init, in_X0, co_X0_init, ds_X0_init⟩
theorem ds_X4_init : dscOk yX4_init 0 := by decide +kernel
theorem k_X6_57 : LkIN RX6 57 yX4_init RX6 cX4_init 1 0 := ⟨by decide +kernel, rfl, im_X4_init, in_X4, co_X4_init, ds_X4_init⟩
theorem ds_X3_init : dscOk yX3_init 0 := by decide +kernel
theorem k_X6_64 : LkIN RX6 64 yX3_init RX6 cX3_init 1 0 := ⟨by decide +kernel, rfl, im_X3_init, in_X3, co_X3_init, ds_X3_init⟩
theorem ds_X6_feed : dscOk yX6_feed 1 := by decide +kernel
theorem k_L_13 : LkV RL 13 yX6_feed RX6 cX6_feed 2 (some .int) 1 := ⟨ml_L_13, im_X6_feed, se_X6_feed, in_X6, co_X6_feed, ds_X6_feed⟩
theorem ds_X6_isOutside : dscOk yX6_isOutside 3 := by decide +kernel
theorem k_X6_76 : LkS RX6 76 yX6_isOutside cX6_isOutside 3 (some .boolean) 3 := ⟨ml_X6_76, sm_X6_isOutside, in_X6, co_X6_isOutside, ds_X6_isOutside⟩
theorem ds_X5_append : dscOk yX5_append 1 := by decide +kernel
theorem k_X6_85 : LkV RX6 85 yX5_append RX5 cX5_append 2 (some .int) 1 := ⟨ml_X6_85, im_X5_append, se_X5_append, in_X5, co_X5_append, ds_X5_append⟩
theorem ds_X6_parish : dscOk yX6_parish 0 := by decide +kernel
theorem k_L_18 : LkV RL 18 yX6_parish RX6 cX6_parish 4 (some .int) 0 := ⟨ml_L_18, im_X6_parish, se_X6_parish, in_X6, co_X6_parish, ds_X6_parish⟩
theorem ds_X5_readInto : dscOk yX5_readInto 1 := by decide +kernel
theorem k_X6_89 : LkV RX6 89 yX5_readInto RX5 cX5_readInto 3 (some .int) 1 := ⟨ml_X6_89, im_X5_readInto, se_X5_readInto, in_X5, co_X5_readInto, ds_X5_readInto⟩
theorem ds_X1_clear : dscOk yX1_clear 0 := by decide +kernel
theorem k_X5_31 : LkV RX5 31 yX1_clear RX1 cX1_clear 1 none 0 := ⟨ml_X5_31, im_X1_clear, se_X1_clear, in_X1, co_X1_clear, ds_X1_clear⟩
theorem ds_X5_skipBlanks : dscOk yX5_skipBlanks 0 := by decide +kernel
theorem k_X5_36 : LkV RX5 36 yX5_skipBlanks RX5 cX5_skipBlanks 1 none 0 := ⟨ml_X5_36, im_X5_skipBlanks, se_X5_skipBlanks, in_X5, co_X5_skipBlanks, ds_X5_skipBlanks⟩
theorem ds_X5_readClause : dscOk yX5_readClause 1 := by decide +kernel
theorem k_X5_39 : LkV RX5 39 yX5_readClause RX5 cX5_readClause 4 none 1 := ⟨ml_X5_39, im_X5_readClause, se_X5_readClause, in_X5, co_X5_readClause, ds_X5_readClause⟩
theorem ds_X5_faultOfWord : dscOk yX5_faultOfWord 2 := by decide +kernel
theorem k_X5_43 : LkS RX5 43 yX5_faultOfWord cX5_faultOfWord 2 (some .int) 2 := ⟨ml_X5_43, sm_X5_faultOfWord, in_X5, co_X5_faultOfWord, ds_X5_faultOfWord⟩
theorem ds_X5_noteFault : dscOk yX5_noteFault 2 := by decide +kernel
theorem k_X5_47 : LkV RX5 47 yX5_noteFault RX5 cX5_noteFault 3 none 2 := ⟨ml_X5_47, im_X5_noteFault, se_X5_noteFault, in_X5, co_X5_noteFault, ds_X5_noteFault⟩
theorem ds_X5_readTree : dscOk yX5_readTree 1 := by decide +kernel
theorem k_X5_51 : LkV RX5 51 yX5_readTree RX5 cX5_readTree 4 none 1 := ⟨ml_X5_51, im_X5_readTree, se_X5_readTree, in_X5, co_X5_readTree, ds_X5_readTree⟩
theorem ds_X5_readNumber : dscOk yX5_readNumber 2 := by decide +kernel
theorem k_X5_70 : LkV RX5 70 yX5_readNumber RX5 cX5_readNumber 4 (some .int) 2 := ⟨ml_X5_70, im_X5_readNumber, se_X5_readNumber, in_X5, co_X5_readNumber, ds_X5_readNumber⟩
theorem k_X5_87 : LkSN RX5 87 yX6_isOutside RX6 cX6_isOutside 3 (some .boolean) 3 := ⟨by decide +kernel, sm_X6_isOutside, in_X6, co_X6_isOutside, ds_X6_isOutside⟩
theorem ds_X5_readEnd : dscOk yX5_readEnd 0 := by decide +kernel
theorem k_X5_74 : LkV RX5 74 yX5_readEnd RX5 cX5_readEnd 1 none 0 := ⟨ml_X5_74, im_X5_readEnd, se_X5_readEnd, in_X5, co_X5_readEnd, ds_X5_readEnd⟩
theorem ds_X1_setTree : dscOk yX1_setTree 2 := by decide +kernel
theorem k_X5_77 : LkV RX5 77 yX1_setTree RX1 cX1_setTree 3 none 2 := ⟨ml_X5_77, im_X1_setTree, se_X1_setTree, in_X1, co_X1_setTree, ds_X1_setTree⟩
theorem ds_X5_readPerson : dscOk yX5_readPerson 1 := by decide +kernel
theorem k_X5_54 : LkV RX5 54 yX5_readPerson RX5 cX5_readPerson 5 none 1 := ⟨ml_X5_54, im_X5_readPerson, se_X5_readPerson, in_X5, co_X5_readPerson, ds_X5_readPerson⟩
theorem ds_X1_addPerson : dscOk yX1_addPerson 3 := by decide +kernel
theorem k_X5_80 : LkV RX5 80 yX1_addPerson RX1 cX1_addPerson 4 none 3 := ⟨ml_X5_80, im_X1_addPerson, se_X1_addPerson, in_X1, co_X1_addPerson, ds_X1_addPerson⟩
theorem ds_X5_readDebt : dscOk yX5_readDebt 1 := by decide +kernel
theorem k_X5_57 : LkV RX5 57 yX5_readDebt RX5 cX5_readDebt 5 none 1 := ⟨ml_X5_57, im_X5_readDebt, se_X5_readDebt, in_X5, co_X5_readDebt, ds_X5_readDebt⟩
theorem ds_X1_addDebt : dscOk yX1_addDebt 3 := by decide +kernel
theorem k_X5_84 : LkV RX5 84 yX1_addDebt RX1 cX1_addDebt 4 none 3 := ⟨ml_X5_84, im_X1_addDebt, se_X1_addDebt, in_X1, co_X1_addDebt, ds_X1_addDebt⟩
theorem ds_X0_begin : dscOk yX0_begin 1 := by decide +kernel
theorem k_X6_93 : LkV RX6 93 yX0_begin RX0 cX0_begin 3 none 1 := ⟨ml_X6_93, im_X0_begin, se_X0_begin, in_X0, co_X0_begin, ds_X0_begin⟩
theorem ds_X1_hasPerson : dscOk yX1_hasPerson 1 := by decide +kernel
theorem k_X0_47 : LkV RX0 47 yX1_hasPerson RX1 cX1_hasPerson 2 (some .boolean) 1 := ⟨ml_X0_47, im_X1_hasPerson, se_X1_hasPerson, in_X1, co_X1_hasPerson, ds_X1_hasPerson⟩
theorem ds_X1_hasDebt : dscOk yX1_hasDebt 1 := by decide +kernel
theorem k_X0_52 : LkV RX0 52 yX1_hasDebt RX1 cX1_hasDebt 2 (some .boolean) 1 := ⟨ml_X0_52, im_X1_hasDebt, se_X1_hasDebt, in_X1, co_X1_hasDebt, ds_X1_hasDebt⟩
theorem ds_X0_notePlace : dscOk yX0_notePlace 0 := by decide +kernel
theorem k_X0_56 : LkV RX0 56 yX0_notePlace RX0 cX0_notePlace 1 none 0 := ⟨ml_X0_56, im_X0_notePlace, se_X0_notePlace, in_X0, co_X0_notePlace, ds_X0_notePlace⟩
theorem ds_J9_floorMod_7cf53 : dscOk yJ9_floorMod_7cf53 2 := by decide +kernel
theorem k_X0_69 : LkS RX0 69 yJ9_floorMod_7cf53 cJ9_floorMod_7cf53 3 (some .int) 2 := ⟨ml_X0_69, sm_J9_floorMod_7cf53, in_J9, co_J9_floorMod_7cf53, ds_J9_floorMod_7cf53⟩
theorem ds_X2_forget : dscOk yX2_forget 0 := by decide +kernel
theorem k_X6_97 : LkV RX6 97 yX2_forget RX2 cX2_forget 1 none 0 := ⟨ml_X6_97, im_X2_forget, se_X2_forget, in_X2, co_X2_forget, ds_X2_forget⟩
theorem ds_X3_forget : dscOk yX3_forget 0 := by decide +kernel
theorem k_X6_100 : LkV RX6 100 yX3_forget RX3 cX3_forget 1 none 0 := ⟨ml_X6_100, im_X3_forget, se_X3_forget, in_X3, co_X3_forget, ds_X3_forget⟩
theorem ds_X6_fault : dscOk yX6_fault 0 := by decide +kernel
theorem k_L_23 : LkV RL 23 yX6_fault RX6 cX6_fault 1 (some .int) 0 := ⟨ml_L_23, im_X6_fault, se_X6_fault, in_X6, co_X6_fault, ds_X6_fault⟩
theorem ds_X6_told : dscOk yX6_told 1 := by decide +kernel
theorem k_L_27 : LkV RL 27 yX6_told RX6 cX6_told 2 (some .int) 1 := ⟨ml_L_27, im_X6_told, se_X6_told, in_X6, co_X6_told, ds_X6_told⟩
theorem ds_X0_inAllHats : dscOk yX0_inAllHats 0 := by decide +kernel
theorem k_X6_119 : LkV RX6 119 yX0_inAllHats RX0 cX0_inAllHats 3 (some .int) 0 := ⟨ml_X6_119, im_X0_inAllHats, se_X0_inAllHats, in_X0, co_X0_inAllHats, ds_X0_inAllHats⟩
theorem ds_X0_placesKnown : dscOk yX0_placesKnown 0 := by decide +kernel
theorem k_X6_129 : LkV RX6 129 yX0_placesKnown RX0 cX0_placesKnown 1 (some .int) 0 := ⟨ml_X6_129, im_X0_placesKnown, se_X0_placesKnown, in_X0, co_X0_placesKnown, ds_X0_placesKnown⟩
theorem ds_J9_min_7cf53 : dscOk yJ9_min_7cf53 2 := by decide +kernel
theorem k_X0_75 : LkS RX0 75 yJ9_min_7cf53 cJ9_min_7cf53 2 (some .int) 2 := ⟨ml_X0_75, sm_J9_min_7cf53, in_J9, co_J9_min_7cf53, ds_J9_min_7cf53⟩
theorem ds_X6_richest : dscOk yX6_richest 0 := by decide +kernel
theorem k_X6_132 : LkV RX6 132 yX6_richest RX6 cX6_richest 4 (some .int) 0 := ⟨ml_X6_132, im_X6_richest, se_X6_richest, in_X6, co_X6_richest, ds_X6_richest⟩
theorem ds_X6_rings : dscOk yX6_rings 0 := by decide +kernel
theorem k_X6_135 : LkV RX6 135 yX6_rings RX6 cX6_rings 3 (some .int) 0 := ⟨ml_X6_135, im_X6_rings, se_X6_rings, in_X6, co_X6_rings, ds_X6_rings⟩
theorem ds_X6_creditorsOf : dscOk yX6_creditorsOf 1 := by decide +kernel
theorem k_X6_312 : LkV RX6 312 yX6_creditorsOf RX6 cX6_creditorsOf 4 (some .int) 1 := ⟨ml_X6_312, im_X6_creditorsOf, se_X6_creditorsOf, in_X6, co_X6_creditorsOf, ds_X6_creditorsOf⟩
theorem ds_X6_has : dscOk yX6_has 2 := by decide +kernel
theorem k_X6_315 : LkS RX6 315 yX6_has cX6_has 2 (some .boolean) 2 := ⟨ml_X6_315, sm_X6_has, in_X6, co_X6_has, ds_X6_has⟩
theorem ds_X6_owedInAll : dscOk yX6_owedInAll 0 := by decide +kernel
theorem k_X6_138 : LkV RX6 138 yX6_owedInAll RX6 cX6_owedInAll 3 (some .int) 0 := ⟨ml_X6_138, im_X6_owedInAll, se_X6_owedInAll, in_X6, co_X6_owedInAll, ds_X6_owedInAll⟩
theorem ds_X6_suspects : dscOk yX6_suspects 0 := by decide +kernel
theorem k_X6_141 : LkV RX6 141 yX6_suspects RX6 cX6_suspects 3 (some .int) 0 := ⟨ml_X6_141, im_X6_suspects, se_X6_suspects, in_X6, co_X6_suspects, ds_X6_suspects⟩
theorem ds_X0_drawnBy : dscOk yX0_drawnBy 2 := by decide +kernel
theorem k_X6_319 : LkV RX6 319 yX0_drawnBy RX0 cX0_drawnBy 5 (some .int) 2 := ⟨ml_X6_319, im_X0_drawnBy, se_X0_drawnBy, in_X0, co_X0_drawnBy, ds_X0_drawnBy⟩
theorem ds_X0_loss : dscOk yX0_loss 3 := by decide +kernel
theorem k_X0_115 : LkV RX0 115 yX0_loss RX0 cX0_loss 6 (some .int) 3 := ⟨ml_X0_115, im_X0_loss, se_X0_loss, in_X0, co_X0_loss, ds_X0_loss⟩
theorem ds_X0_hasNet : dscOk yX0_hasNet 1 := by decide +kernel
theorem k_X0_105 : LkV RX0 105 yX0_hasNet RX0 cX0_hasNet 2 (some .boolean) 1 := ⟨ml_X0_105, im_X0_hasNet, se_X0_hasNet, in_X0, co_X0_hasNet, ds_X0_hasNet⟩
theorem k_X0_65 : LkSN RX0 65 yX6_has RX6 cX6_has 2 (some .boolean) 2 := ⟨by decide +kernel, sm_X6_has, in_X6, co_X6_has, ds_X6_has⟩
theorem ds_X3_allWatchedAre : dscOk yX3_allWatchedAre 1 := by decide +kernel
theorem k_X6_323 : LkV RX6 323 yX3_allWatchedAre RX3 cX3_allWatchedAre 3 (some .boolean) 1 := ⟨ml_X6_323, im_X3_allWatchedAre, se_X3_allWatchedAre, in_X3, co_X3_allWatchedAre, ds_X3_allWatchedAre⟩
theorem ds_X6_person : dscOk yX6_person 2 := by decide +kernel
theorem k_L_31 : LkV RL 31 yX6_person RX6 cX6_person 3 (some .int) 2 := ⟨ml_L_31, im_X6_person, se_X6_person, in_X6, co_X6_person, ds_X6_person⟩
theorem k_X6_156 : LkV RX6 156 yX1_hasPerson RX1 cX1_hasPerson 2 (some .boolean) 1 := ⟨ml_X6_156, im_X1_hasPerson, se_X1_hasPerson, in_X1, co_X1_hasPerson, ds_X1_hasPerson⟩
theorem k_X6_173 : LkV RX6 173 yX0_hasNet RX0 cX0_hasNet 2 (some .boolean) 1 := ⟨ml_X6_173, im_X0_hasNet, se_X0_hasNet, in_X0, co_X0_hasNet, ds_X0_hasNet⟩
theorem ds_X6_owedBy : dscOk yX6_owedBy 1 := by decide +kernel
theorem k_X6_176 : LkV RX6 176 yX6_owedBy RX6 cX6_owedBy 4 (some .int) 1 := ⟨ml_X6_176, im_X6_owedBy, se_X6_owedBy, in_X6, co_X6_owedBy, ds_X6_owedBy⟩
theorem ds_X6_owedTo : dscOk yX6_owedTo 1 := by decide +kernel
theorem k_X6_179 : LkV RX6 179 yX6_owedTo RX6 cX6_owedTo 4 (some .int) 1 := ⟨ml_X6_179, im_X6_owedTo, se_X6_owedTo, in_X6, co_X6_owedTo, ds_X6_owedTo⟩
theorem k_X6_182 : LkV RX6 182 yX0_loss RX0 cX0_loss 6 (some .int) 3 := ⟨ml_X6_182, im_X0_loss, se_X0_loss, in_X0, co_X0_loss, ds_X0_loss⟩
theorem ds_X6_debt : dscOk yX6_debt 2 := by decide +kernel
theorem k_L_36 : LkV RL 36 yX6_debt RX6 cX6_debt 3 (some .int) 2 := ⟨ml_L_36, im_X6_debt, se_X6_debt, in_X6, co_X6_debt, ds_X6_debt⟩
theorem k_X6_186 : LkV RX6 186 yX1_hasDebt RX1 cX1_hasDebt 2 (some .boolean) 1 := ⟨ml_X6_186, im_X1_hasDebt, se_X1_hasDebt, in_X1, co_X1_hasDebt, ds_X1_hasDebt⟩
theorem ds_X6_trace : dscOk yX6_trace 1 := by decide +kernel
theorem k_L_40 : LkV RL 40 yX6_trace RX6 cX6_trace 2 (some .int) 1 := ⟨ml_L_40, im_X6_trace, se_X6_trace, in_X6, co_X6_trace, ds_X6_trace⟩
theorem ds_X0_placeBack : dscOk yX0_placeBack 1 := by decide +kernel
theorem k_X6_198 : LkV RX6 198 yX0_placeBack RX0 cX0_placeBack 2 (some .int) 1 := ⟨ml_X6_198, im_X0_placeBack, se_X0_placeBack, in_X0, co_X0_placeBack, ds_X0_placeBack⟩
theorem k_X0_78 : LkV RX0 78 yX0_placesKnown RX0 cX0_placesKnown 1 (some .int) 0 := ⟨ml_X0_78, im_X0_placesKnown, se_X0_placesKnown, in_X0, co_X0_placesKnown, ds_X0_placesKnown⟩
theorem ds_X6_count : dscOk yX6_count 2 := by decide +kernel
theorem k_L_44 : LkV RL 44 yX6_count RX6 cX6_count 3 (some .int) 2 := ⟨ml_L_44, im_X6_count, se_X6_count, in_X6, co_X6_count, ds_X6_count⟩
theorem ds_X2_remember : dscOk yX2_remember 1 := by decide +kernel
theorem k_X6_202 : LkV RX6 202 yX2_remember RX2 cX2_remember 2 none 1 := ⟨ml_X6_202, im_X2_remember, se_X2_remember, in_X2, co_X2_remember, ds_X2_remember⟩
theorem ds_X0_copyFrom : dscOk yX0_copyFrom 1 := by decide +kernel
theorem k_X2_25 : LkV RX2 25 yX0_copyFrom RX0 cX0_copyFrom 2 none 1 := ⟨ml_X2_25, im_X0_copyFrom, se_X0_copyFrom, in_X0, co_X0_copyFrom, ds_X0_copyFrom⟩
theorem k_X2_29 : LkS RX2 29 yJ9_min_7cf53 cJ9_min_7cf53 2 (some .int) 2 := ⟨ml_X2_29, sm_J9_min_7cf53, in_J9, co_J9_min_7cf53, ds_J9_min_7cf53⟩
theorem ds_X0_move : dscOk yX0_move 3 := by decide +kernel
theorem k_X6_206 : LkV RX6 206 yX0_move RX0 cX0_move 4 none 3 := ⟨ml_X6_206, im_X0_move, se_X0_move, in_X0, co_X0_move, ds_X0_move⟩
theorem ds_X0_changeBy : dscOk yX0_changeBy 2 := by decide +kernel
theorem k_X0_82 : LkV RX0 82 yX0_changeBy RX0 cX0_changeBy 3 none 2 := ⟨ml_X0_82, im_X0_changeBy, se_X0_changeBy, in_X0, co_X0_changeBy, ds_X0_changeBy⟩
theorem ds_X6_pay : dscOk yX6_pay 3 := by decide +kernel
theorem k_L_48 : LkV RL 48 yX6_pay RX6 cX6_pay 4 (some .int) 3 := ⟨ml_L_48, im_X6_pay, se_X6_pay, in_X6, co_X6_pay, ds_X6_pay⟩
theorem ds_X0_lessenDebts : dscOk yX0_lessenDebts 4 := by decide +kernel
theorem k_X6_210 : LkV RX6 210 yX0_lessenDebts RX0 cX0_lessenDebts 9 (some .int) 4 := ⟨ml_X6_210, im_X0_lessenDebts, se_X0_lessenDebts, in_X0, co_X0_lessenDebts, ds_X0_lessenDebts⟩
theorem ds_X6_strew : dscOk yX6_strew 2 := by decide +kernel
theorem k_L_53 : LkV RL 53 yX6_strew RX6 cX6_strew 3 (some .int) 2 := ⟨ml_L_53, im_X6_strew, se_X6_strew, in_X6, co_X6_strew, ds_X6_strew⟩
theorem ds_X0_addCrumbs : dscOk yX0_addCrumbs 2 := by decide +kernel
theorem k_X6_214 : LkV RX6 214 yX0_addCrumbs RX0 cX0_addCrumbs 3 none 2 := ⟨ml_X6_214, im_X0_addCrumbs, se_X0_addCrumbs, in_X0, co_X0_addCrumbs, ds_X0_addCrumbs⟩
theorem ds_X6_net : dscOk yX6_net 2 := by decide +kernel
theorem k_L_57 : LkV RL 57 yX6_net RX6 cX6_net 5 (some .int) 2 := ⟨ml_L_57, im_X6_net, se_X6_net, in_X6, co_X6_net, ds_X6_net⟩
theorem ds_X6_hawk : dscOk yX6_hawk 2 := by decide +kernel
theorem k_L_62 : LkV RL 62 yX6_hawk RX6 cX6_hawk 3 (some .int) 2 := ⟨ml_L_62, im_X6_hawk, se_X6_hawk, in_X6, co_X6_hawk, ds_X6_hawk⟩
theorem ds_X0_scare : dscOk yX0_scare 3 := by decide +kernel
theorem k_X6_222 : LkV RX6 222 yX0_scare RX0 cX0_scare 6 (some .int) 3 := ⟨ml_X6_222, im_X0_scare, se_X0_scare, in_X0, co_X0_scare, ds_X0_scare⟩
theorem ds_J9_abs_0f7a4 : dscOk yJ9_abs_0f7a4 1 := by decide +kernel
theorem k_X0_101 : LkS RX0 101 yJ9_abs_0f7a4 cJ9_abs_0f7a4 1 (some .int) 1 := ⟨ml_X0_101, sm_J9_abs_0f7a4, in_J9, co_J9_abs_0f7a4, ds_J9_abs_0f7a4⟩
theorem k_X0_108 : LkV RX0 108 yX0_move RX0 cX0_move 4 none 3 := ⟨ml_X0_108, im_X0_move, se_X0_move, in_X0, co_X0_move, ds_X0_move⟩
theorem ds_X6_hour : dscOk yX6_hour 1 := by decide +kernel
theorem k_L_66 : LkV RL 66 yX6_hour RX6 cX6_hour 4 (some .int) 1 := ⟨ml_L_66, im_X6_hour, se_X6_hour, in_X6, co_X6_hour, ds_X6_hour⟩
theorem ds_X6_refusalOfHours : dscOk yX6_refusalOfHours 1 := by decide +kernel
theorem k_X6_226 : LkV RX6 226 yX6_refusalOfHours RX6 cX6_refusalOfHours 2 (some .int) 1 := ⟨ml_X6_226, im_X6_refusalOfHours, se_X6_refusalOfHours, in_X6, co_X6_refusalOfHours, ds_X6_refusalOfHours⟩
theorem ds_X0_passHour : dscOk yX0_passHour 1 := by decide +kernel
theorem k_X6_229 : LkV RX6 229 yX0_passHour RX0 cX0_passHour 2 none 1 := ⟨ml_X6_229, im_X0_passHour, se_X0_passHour, in_X0, co_X0_passHour, ds_X0_passHour⟩
theorem ds_X0_flyForAnHour : dscOk yX0_flyForAnHour 1 := by decide +kernel
theorem k_X0_125 : LkV RX0 125 yX0_flyForAnHour RX0 cX0_flyForAnHour 4 none 1 := ⟨ml_X0_125, im_X0_flyForAnHour, se_X0_flyForAnHour, in_X0, co_X0_flyForAnHour, ds_X0_flyForAnHour⟩
theorem ds_X0_whoDraws : dscOk yX0_whoDraws 0 := by decide +kernel
theorem k_X0_119 : LkV RX0 119 yX0_whoDraws RX0 cX0_whoDraws 4 (some .int) 0 := ⟨ml_X0_119, im_X0_whoDraws, se_X0_whoDraws, in_X0, co_X0_whoDraws, ds_X0_whoDraws⟩
theorem ds_X0_isDusk : dscOk yX0_isDusk 1 := by decide +kernel
theorem k_X0_129 : LkV RX0 129 yX0_isDusk RX0 cX0_isDusk 2 (some .boolean) 1 := ⟨ml_X0_129, im_X0_isDusk, se_X0_isDusk, in_X0, co_X0_isDusk, ds_X0_isDusk⟩
theorem ds_X0_goHome : dscOk yX0_goHome 1 := by decide +kernel
theorem k_X0_133 : LkV RX0 133 yX0_goHome RX0 cX0_goHome 3 none 1 := ⟨ml_X0_133, im_X0_goHome, se_X0_goHome, in_X0, co_X0_goHome, ds_X0_goHome⟩
theorem ds_X6_drift : dscOk yX6_drift 1 := by decide +kernel
theorem k_L_70 : LkV RL 70 yX6_drift RX6 cX6_drift 4 (some .int) 1 := ⟨ml_L_70, im_X6_drift, se_X6_drift, in_X6, co_X6_drift, ds_X6_drift⟩
theorem ds_X6_doByDraw : dscOk yX6_doByDraw 0 := by decide +kernel
theorem k_X6_232 : LkV RX6 232 yX6_doByDraw RX6 cX6_doByDraw 3 none 0 := ⟨ml_X6_232, im_X6_doByDraw, se_X6_doByDraw, in_X6, co_X6_doByDraw, ds_X6_doByDraw⟩
theorem ds_X6_drawOf : dscOk yX6_drawOf 1 := by decide +kernel
theorem k_X6_306 : LkV RX6 306 yX6_drawOf RX6 cX6_drawOf 2 (some .int) 1 := ⟨ml_X6_306, im_X6_drawOf, se_X6_drawOf, in_X6, co_X6_drawOf, ds_X6_drawOf⟩
theorem k_X6_309 : LkS RX6 309 yJ9_min_7cf53 cJ9_min_7cf53 2 (some .int) 2 := ⟨ml_X6_309, sm_J9_min_7cf53, in_J9, co_J9_min_7cf53, ds_J9_min_7cf53⟩
theorem ds_X6_undo : dscOk yX6_undo 0 := by decide +kernel
theorem k_L_74 : LkV RL 74 yX6_undo RX6 cX6_undo 1 (some .int) 0 := ⟨ml_L_74, im_X6_undo, se_X6_undo, in_X6, co_X6_undo, ds_X6_undo⟩
theorem ds_X2_recallInto : dscOk yX2_recallInto 1 := by decide +kernel
theorem k_X6_235 : LkV RX6 235 yX2_recallInto RX2 cX2_recallInto 2 none 1 := ⟨ml_X6_235, im_X2_recallInto, se_X2_recallInto, in_X2, co_X2_recallInto, ds_X2_recallInto⟩
theorem ds_X6_hat : dscOk yX6_hat 2 := by decide +kernel
theorem k_L_78 : LkV RL 78 yX6_hat RX6 cX6_hat 4 (some .int) 2 := ⟨ml_L_78, im_X6_hat, se_X6_hat, in_X6, co_X6_hat, ds_X6_hat⟩
theorem k_X6_238 : LkV RX6 238 yX0_copyFrom RX0 cX0_copyFrom 2 none 1 := ⟨ml_X6_238, im_X0_copyFrom, se_X0_copyFrom, in_X0, co_X0_copyFrom, ds_X0_copyFrom⟩
theorem ds_X6_most : dscOk yX6_most 3 := by decide +kernel
theorem k_L_82 : LkV RL 82 yX6_most RX6 cX6_most 7 (some .int) 3 := ⟨ml_L_82, im_X6_most, se_X6_most, in_X6, co_X6_most, ds_X6_most⟩
theorem ds_X6_kept : dscOk yX6_kept 1 := by decide +kernel
theorem k_L_86 : LkV RL 86 yX6_kept RX6 cX6_kept 3 (some .int) 1 := ⟨ml_L_86, im_X6_kept, se_X6_kept, in_X6, co_X6_kept, ds_X6_kept⟩
theorem k_X6_241 : LkV RX6 241 yX0_flyForAnHour RX0 cX0_flyForAnHour 4 none 1 := ⟨ml_X6_241, im_X0_flyForAnHour, se_X0_flyForAnHour, in_X0, co_X0_flyForAnHour, ds_X0_flyForAnHour⟩
theorem k_X6_244 : LkV RX6 244 yX0_isDusk RX0 cX0_isDusk 2 (some .boolean) 1 := ⟨ml_X6_244, im_X0_isDusk, se_X0_isDusk, in_X0, co_X0_isDusk, ds_X0_isDusk⟩
theorem ds_X6_settled : dscOk yX6_settled 1 := by decide +kernel
theorem k_L_90 : LkV RL 90 yX6_settled RX6 cX6_settled 3 (some .int) 1 := ⟨ml_L_90, im_X6_settled, se_X6_settled, in_X6, co_X6_settled, ds_X6_settled⟩
theorem ds_X4_longestRow : dscOk yX4_longestRow 2 := by decide +kernel
theorem k_X6_248 : LkV RX6 248 yX4_longestRow RX4 cX4_longestRow 9 (some .int) 2 := ⟨ml_X6_248, im_X4_longestRow, se_X4_longestRow, in_X4, co_X4_longestRow, ds_X4_longestRow⟩
theorem ds_X4_beginSets : dscOk yX4_beginSets 0 := by decide +kernel
theorem k_X4_18 : LkV RX4 18 yX4_beginSets RX4 cX4_beginSets 2 none 0 := ⟨ml_X4_18, im_X4_beginSets, se_X4_beginSets, in_X4, co_X4_beginSets, ds_X4_beginSets⟩
theorem ds_J6_bitCount_0f7a4 : dscOk yJ6_bitCount_0f7a4 1 := by decide +kernel
theorem k_X4_27 : LkS RX4 27 yJ6_bitCount_0f7a4 cJ6_bitCount_0f7a4 1 (some .int) 1 := ⟨ml_X4_27, sm_J6_bitCount_0f7a4, in_J6, co_J6_bitCount_0f7a4, ds_J6_bitCount_0f7a4⟩
theorem ds_X4_fillHats : dscOk yX4_fillHats 3 := by decide +kernel
theorem k_X4_33 : LkV RX4 33 yX4_fillHats RX4 cX4_fillHats 5 none 3 := ⟨ml_X4_33, im_X4_fillHats, se_X4_fillHats, in_X4, co_X4_fillHats, ds_X4_fillHats⟩
theorem k_X4_63 : LkSN RX4 63 yX6_has RX6 cX6_has 2 (some .boolean) 2 := ⟨by decide +kernel, sm_X6_has, in_X6, co_X6_has, ds_X6_has⟩
theorem ds_X4_isOpen : dscOk yX4_isOpen 3 := by decide +kernel
theorem k_X4_37 : LkS RX4 37 yX4_isOpen cX4_isOpen 3 (some .boolean) 3 := ⟨ml_X4_37, sm_X4_isOpen, in_X4, co_X4_isOpen, ds_X4_isOpen⟩
theorem ds_X4_offer : dscOk yX4_offer 2 := by decide +kernel
theorem k_X4_49 : LkV RX4 49 yX4_offer RX4 cX4_offer 3 none 2 := ⟨ml_X4_49, im_X4_offer, se_X4_offer, in_X4, co_X4_offer, ds_X4_offer⟩
theorem ds_X6_figuresOf : dscOk yX6_figuresOf 1 := by decide +kernel
theorem k_X6_252 : LkS RX6 252 yX6_figuresOf cX6_figuresOf 3 (some .int) 1 := ⟨ml_X6_252, sm_X6_figuresOf, in_X6, co_X6_figuresOf, ds_X6_figuresOf⟩
theorem ds_X6_toFloat : dscOk yX6_toFloat 1 := by decide +kernel
theorem k_L_94 : LkV RL 94 yX6_toFloat RX6 cX6_toFloat 2 (some .int) 1 := ⟨ml_L_94, im_X6_toFloat, se_X6_toFloat, in_X6, co_X6_toFloat, ds_X6_toFloat⟩
theorem ds_X4_leastFloat : dscOk yX4_leastFloat 3 := by decide +kernel
theorem k_X6_255 : LkV RX6 255 yX4_leastFloat RX4 cX4_leastFloat 8 (some .int) 3 := ⟨ml_X6_255, im_X4_leastFloat, se_X4_leastFloat, in_X4, co_X4_leastFloat, ds_X4_leastFloat⟩
theorem ds_J9_max_7cf53 : dscOk yJ9_max_7cf53 2 := by decide +kernel
theorem k_X4_53 : LkS RX4 53 yJ9_max_7cf53 cJ9_max_7cf53 2 (some .int) 2 := ⟨ml_X4_53, sm_J9_max_7cf53, in_J9, co_J9_max_7cf53, ds_J9_max_7cf53⟩
theorem ds_X4_allOpen : dscOk yX4_allOpen 2 := by decide +kernel
theorem k_X4_59 : LkS RX4 59 yX4_allOpen cX4_allOpen 4 (some .int) 2 := ⟨ml_X4_59, sm_X4_allOpen, in_X4, co_X4_allOpen, ds_X4_allOpen⟩
theorem ds_X6_nets : dscOk yX6_nets 2 := by decide +kernel
theorem k_L_98 : LkV RL 98 yX6_nets RX6 cX6_nets 8 (some .int) 2 := ⟨ml_L_98, im_X6_nets, se_X6_nets, in_X6, co_X6_nets, ds_X6_nets⟩
theorem k_X6_259 : LkS RX6 259 yJ6_bitCount_0f7a4 cJ6_bitCount_0f7a4 1 (some .int) 1 := ⟨ml_X6_259, sm_J6_bitCount_0f7a4, in_J6, co_J6_bitCount_0f7a4, ds_J6_bitCount_0f7a4⟩
theorem ds_X6_birdsWithNets : dscOk yX6_birdsWithNets 2 := by decide +kernel
theorem k_X6_264 : LkV RX6 264 yX6_birdsWithNets RX6 cX6_birdsWithNets 4 (some .int) 2 := ⟨ml_X6_264, im_X6_birdsWithNets, se_X6_birdsWithNets, in_X6, co_X6_birdsWithNets, ds_X6_birdsWithNets⟩
theorem ds_X6_calm : dscOk yX6_calm 2 := by decide +kernel
theorem k_L_102 : LkV RL 102 yX6_calm RX6 cX6_calm 6 (some .int) 2 := ⟨ml_L_102, im_X6_calm, se_X6_calm, in_X6, co_X6_calm, ds_X6_calm⟩
theorem ds_X6_watch : dscOk yX6_watch 1 := by decide +kernel
theorem k_L_106 : LkV RL 106 yX6_watch RX6 cX6_watch 2 (some .int) 1 := ⟨ml_L_106, im_X6_watch, se_X6_watch, in_X6, co_X6_watch, ds_X6_watch⟩
theorem ds_X3_addWatched : dscOk yX3_addWatched 1 := by decide +kernel
theorem k_X6_272 : LkV RX6 272 yX3_addWatched RX3 cX3_addWatched 2 (some .int) 1 := ⟨ml_X6_272, im_X3_addWatched, se_X3_addWatched, in_X3, co_X3_addWatched, ds_X3_addWatched⟩
theorem ds_X6_feel : dscOk yX6_feel 3 := by decide +kernel
theorem k_L_110 : LkV RL 110 yX6_feel RX6 cX6_feel 4 (some .int) 3 := ⟨ml_L_110, im_X6_feel, se_X6_feel, in_X6, co_X6_feel, ds_X6_feel⟩
theorem k_X6_275 : LkS RX6 275 yJ9_abs_0f7a4 cJ9_abs_0f7a4 1 (some .int) 1 := ⟨ml_X6_275, sm_J9_abs_0f7a4, in_J9, co_J9_abs_0f7a4, ds_J9_abs_0f7a4⟩
theorem ds_X3_addFelt : dscOk yX3_addFelt 2 := by decide +kernel
theorem k_X6_280 : LkV RX6 280 yX3_addFelt RX3 cX3_addFelt 3 (some .int) 2 := ⟨ml_X6_280, im_X3_addFelt, se_X3_addFelt, in_X3, co_X3_addFelt, ds_X3_addFelt⟩
theorem ds_X6_reach : dscOk yX6_reach 1 := by decide +kernel
theorem k_L_115 : LkV RL 115 yX6_reach RX6 cX6_reach 2 (some .int) 1 := ⟨ml_L_115, im_X6_reach, se_X6_reach, in_X6, co_X6_reach, ds_X6_reach⟩
theorem ds_X3_reachesBelow : dscOk yX3_reachesBelow 1 := by decide +kernel
theorem k_X6_284 : LkV RX6 284 yX3_reachesBelow RX3 cX3_reachesBelow 4 (some .int) 1 := ⟨ml_X6_284, im_X3_reachesBelow, se_X3_reachesBelow, in_X3, co_X3_reachesBelow, ds_X3_reachesBelow⟩
theorem ds_X3_canReach : dscOk yX3_canReach 1 := by decide +kernel
theorem k_X3_43 : LkV RX3 43 yX3_canReach RX3 cX3_canReach 3 (some .boolean) 1 := ⟨ml_X3_43, im_X3_canReach, se_X3_canReach, in_X3, co_X3_canReach, ds_X3_canReach⟩
theorem ds_X3_leastReach : dscOk yX3_leastReach 0 := by decide +kernel
theorem k_X6_287 : LkV RX6 287 yX3_leastReach RX3 cX3_leastReach 2 (some .int) 0 := ⟨ml_X6_287, im_X3_leastReach, se_X3_leastReach, in_X3, co_X3_leastReach, ds_X3_leastReach⟩
theorem ds_X3_greatestReach : dscOk yX3_greatestReach 0 := by decide +kernel
theorem k_X6_290 : LkV RX6 290 yX3_greatestReach RX3 cX3_greatestReach 2 (some .int) 0 := ⟨ml_X6_290, im_X3_greatestReach, se_X3_greatestReach, in_X3, co_X3_greatestReach, ds_X3_greatestReach⟩
theorem ds_X3_bestDoorToPart : dscOk yX3_bestDoorToPart 0 := by decide +kernel
theorem k_X6_293 : LkV RX6 293 yX3_bestDoorToPart RX3 cX3_bestDoorToPart 7 (some .int) 0 := ⟨ml_X6_293, im_X3_bestDoorToPart, se_X3_bestDoorToPart, in_X3, co_X3_bestDoorToPart, ds_X3_bestDoorToPart⟩
theorem k_X3_47 : LkV RX3 47 yX3_reachesBelow RX3 cX3_reachesBelow 4 (some .int) 1 := ⟨ml_X3_47, im_X3_reachesBelow, se_X3_reachesBelow, in_X3, co_X3_reachesBelow, ds_X3_reachesBelow⟩
theorem k_X3_51 : LkS RX3 51 yJ9_max_7cf53 cJ9_max_7cf53 2 (some .int) 2 := ⟨ml_X3_51, sm_J9_max_7cf53, in_J9, co_J9_max_7cf53, ds_J9_max_7cf53⟩
theorem ds_X6_write : dscOk yX6_write 2 := by decide +kernel
theorem k_L_119 : LkV RL 119 yX6_write RX6 cX6_write 3 (some .int) 2 := ⟨ml_L_119, im_X6_write, se_X6_write, in_X6, co_X6_write, ds_X6_write⟩
theorem ds_X3_addEntry : dscOk yX3_addEntry 2 := by decide +kernel
theorem k_X6_296 : LkV RX6 296 yX3_addEntry RX3 cX3_addEntry 3 (some .int) 2 := ⟨ml_X6_296, im_X3_addEntry, se_X3_addEntry, in_X3, co_X3_addEntry, ds_X3_addEntry⟩
theorem ds_X6_tear : dscOk yX6_tear 0 := by decide +kernel
theorem k_L_123 : LkV RL 123 yX6_tear RX6 cX6_tear 2 (some .int) 0 := ⟨ml_L_123, im_X6_tear, se_X6_tear, in_X6, co_X6_tear, ds_X6_tear⟩
theorem ds_X6_judge : dscOk yX6_judge 0 := by decide +kernel
theorem k_L_127 : LkV RL 127 yX6_judge RX6 cX6_judge 1 (some .int) 0 := ⟨ml_L_127, im_X6_judge, se_X6_judge, in_X6, co_X6_judge, ds_X6_judge⟩
theorem ds_X3_firstWrong : dscOk yX3_firstWrong 1 := by decide +kernel
theorem k_X6_299 : LkV RX6 299 yX3_firstWrong RX3 cX3_firstWrong 3 (some .int) 1 := ⟨ml_X6_299, im_X3_firstWrong, se_X3_firstWrong, in_X3, co_X3_firstWrong, ds_X3_firstWrong⟩
theorem ds_X6_seed : dscOk yX6_seed 1 := by decide +kernel
theorem k_L_131 : LkV RL 131 yX6_seed RX6 cX6_seed 3 (some .int) 1 := ⟨ml_L_131, im_X6_seed, se_X6_seed, in_X6, co_X6_seed, ds_X6_seed⟩
theorem ds_X6_keep : dscOk yX6_keep 1 := by decide +kernel
theorem k_L_135 : LkV RL 135 yX6_keep RX6 cX6_keep 2 (some .int) 1 := ⟨ml_L_135, im_X6_keep, se_X6_keep, in_X6, co_X6_keep, ds_X6_keep⟩
theorem ds_X6_goBack : dscOk yX6_goBack 1 := by decide +kernel
theorem k_L_139 : LkV RL 139 yX6_goBack RX6 cX6_goBack 2 (some .int) 1 := ⟨ml_L_139, im_X6_goBack, se_X6_goBack, in_X6, co_X6_goBack, ds_X6_goBack⟩
theorem ds_X7_init : dscOk yX7_init 0 := by decide +kernel
theorem k_L_12 : LkI RL 12 yX7_init cX7_init 1 0 := ⟨ml_L_12, rfl, im_X7_init, in_X7, co_X7_init, ds_X7_init⟩
theorem ds_X7_feed : dscOk yX7_feed 1 := by decide +kernel
theorem k_L_17 : LkV RL 17 yX7_feed RX7 cX7_feed 2 (some .int) 1 := ⟨ml_L_17, im_X7_feed, se_X7_feed, in_X7, co_X7_feed, ds_X7_feed⟩
theorem ds_X7_in : dscOk yX7_in 3 := by decide +kernel
theorem k_X7_72 : LkS RX7 72 yX7_in cX7_in 6 (some .boolean) 3 := ⟨ml_X7_72, sm_X7_in, in_X7, co_X7_in, ds_X7_in⟩
theorem ds_X7_parish : dscOk yX7_parish 0 := by decide +kernel
theorem k_L_22 : LkV RL 22 yX7_parish RX7 cX7_parish 2 (some .int) 0 := ⟨ml_L_22, im_X7_parish, se_X7_parish, in_X7, co_X7_parish, ds_X7_parish⟩
theorem ds_X7_step : dscOk yX7_step 0 := by decide +kernel
theorem k_X7_107 : LkV RX7 107 yX7_step RX7 cX7_step 1 none 0 := ⟨ml_X7_107, im_X7_step, se_X7_step, in_X7, co_X7_step, ds_X7_step⟩
theorem ds_X7_here : dscOk yX7_here 0 := by decide +kernel
theorem k_X7_84 : LkV RX7 84 yX7_here RX7 cX7_here 1 (some .int) 0 := ⟨ml_X7_84, im_X7_here, se_X7_here, in_X7, co_X7_here, ds_X7_here⟩
theorem ds_X7_readsClause : dscOk yX7_readsClause 0 := by decide +kernel
theorem k_X7_128 : LkV RX7 128 yX7_readsClause RX7 cX7_readsClause 1 (some .boolean) 0 := ⟨ml_X7_128, im_X7_readsClause, se_X7_readsClause, in_X7, co_X7_readsClause, ds_X7_readsClause⟩
theorem ds_X7_fails : dscOk yX7_fails 1 := by decide +kernel
theorem k_X7_110 : LkV RX7 110 yX7_fails RX7 cX7_fails 2 (some .boolean) 1 := ⟨ml_X7_110, im_X7_fails, se_X7_fails, in_X7, co_X7_fails, ds_X7_fails⟩
theorem ds_X7_number : dscOk yX7_number 3 := by decide +kernel
theorem k_X7_114 : LkV RX7 114 yX7_number RX7 cX7_number 4 (some .boolean) 3 := ⟨ml_X7_114, im_X7_number, se_X7_number, in_X7, co_X7_number, ds_X7_number⟩
theorem ds_X7_ends : dscOk yX7_ends 0 := by decide +kernel
theorem k_X7_118 : LkV RX7 118 yX7_ends RX7 cX7_ends 1 (some .boolean) 0 := ⟨ml_X7_118, im_X7_ends, se_X7_ends, in_X7, co_X7_ends, ds_X7_ends⟩
theorem ds_X7_readsPerson : dscOk yX7_readsPerson 0 := by decide +kernel
theorem k_X7_122 : LkV RX7 122 yX7_readsPerson RX7 cX7_readsPerson 2 (some .boolean) 0 := ⟨ml_X7_122, im_X7_readsPerson, se_X7_readsPerson, in_X7, co_X7_readsPerson, ds_X7_readsPerson⟩
theorem ds_X7_readsDebt : dscOk yX7_readsDebt 0 := by decide +kernel
theorem k_X7_125 : LkV RX7 125 yX7_readsDebt RX7 cX7_readsDebt 3 (some .boolean) 0 := ⟨ml_X7_125, im_X7_readsDebt, se_X7_readsDebt, in_X7, co_X7_readsDebt, ds_X7_readsDebt⟩
theorem ds_X7_copies : dscOk yX7_copies 5 := by decide +kernel
theorem k_X7_54 : LkS RX7 54 yX7_copies cX7_copies 6 none 5 := ⟨ml_X7_54, sm_X7_copies, in_X7, co_X7_copies, ds_X7_copies⟩
theorem ds_X7_begins : dscOk yX7_begins 0 := by decide +kernel
theorem k_X7_131 : LkV RX7 131 yX7_begins RX7 cX7_begins 2 none 0 := ⟨ml_X7_131, im_X7_begins, se_X7_begins, in_X7, co_X7_begins, ds_X7_begins⟩
theorem ds_X7_fault : dscOk yX7_fault 0 := by decide +kernel
theorem k_L_26 : LkV RL 26 yX7_fault RX7 cX7_fault 1 (some .int) 0 := ⟨ml_L_26, im_X7_fault, se_X7_fault, in_X7, co_X7_fault, ds_X7_fault⟩
theorem ds_X7_told : dscOk yX7_told 1 := by decide +kernel
theorem k_L_30 : LkV RL 30 yX7_told RX7 cX7_told 2 (some .int) 1 := ⟨ml_L_30, im_X7_told, se_X7_told, in_X7, co_X7_told, ds_X7_told⟩
theorem ds_X7_hatsOn : dscOk yX7_hatsOn 1 := by decide +kernel
theorem k_X7_165 : LkV RX7 165 yX7_hatsOn RX7 cX7_hatsOn 4 (some .int) 1 := ⟨ml_X7_165, im_X7_hatsOn, se_X7_hatsOn, in_X7, co_X7_hatsOn, ds_X7_hatsOn⟩
theorem ds_X7_rich : dscOk yX7_rich 0 := by decide +kernel
theorem k_X7_168 : LkV RX7 168 yX7_rich RX7 cX7_rich 3 (some .int) 0 := ⟨ml_X7_168, im_X7_rich, se_X7_rich, in_X7, co_X7_rich, ds_X7_rich⟩
theorem ds_X7_rings : dscOk yX7_rings 0 := by decide +kernel
theorem k_X7_171 : LkV RX7 171 yX7_rings RX7 cX7_rings 7 (some .int) 0 := ⟨ml_X7_171, im_X7_rings, se_X7_rings, in_X7, co_X7_rings, ds_X7_rings⟩
theorem ds_X7_has : dscOk yX7_has 2 := by decide +kernel
theorem k_X7_142 : LkS RX7 142 yX7_has cX7_has 2 (some .boolean) 2 := ⟨ml_X7_142, sm_X7_has, in_X7, co_X7_has, ds_X7_has⟩
theorem ds_X7_owes : dscOk yX7_owes 2 := by decide +kernel
theorem k_X7_174 : LkV RX7 174 yX7_owes RX7 cX7_owes 6 (some .int) 2 := ⟨ml_X7_174, im_X7_owes, se_X7_owes, in_X7, co_X7_owes, ds_X7_owes⟩
theorem ds_X7_who : dscOk yX7_who 0 := by decide +kernel
theorem k_X7_177 : LkV RX7 177 yX7_who RX7 cX7_who 5 (some .int) 0 := ⟨ml_X7_177, im_X7_who, se_X7_who, in_X7, co_X7_who, ds_X7_who⟩
theorem ds_X7_drawnBy : dscOk yX7_drawnBy 1 := by decide +kernel
theorem k_X7_162 : LkV RX7 162 yX7_drawnBy RX7 cX7_drawnBy 4 (some .int) 1 := ⟨ml_X7_162, im_X7_drawnBy, se_X7_drawnBy, in_X7, co_X7_drawnBy, ds_X7_drawnBy⟩
theorem ds_X7_lossBy : dscOk yX7_lossBy 3 := by decide +kernel
theorem k_X7_146 : LkS RX7 146 yX7_lossBy cX7_lossBy 3 (some .int) 3 := ⟨ml_X7_146, sm_X7_lossBy, in_X7, co_X7_lossBy, ds_X7_lossBy⟩
theorem ds_X7_plainLoss : dscOk yX7_plainLoss 1 := by decide +kernel
theorem k_X7_134 : LkS RX7 134 yX7_plainLoss cX7_plainLoss 1 (some .int) 1 := ⟨ml_X7_134, sm_X7_plainLoss, in_X7, co_X7_plainLoss, ds_X7_plainLoss⟩
theorem ds_X7_lesser : dscOk yX7_lesser 2 := by decide +kernel
theorem k_X7_138 : LkS RX7 138 yX7_lesser cX7_lesser 2 (some .int) 2 := ⟨ml_X7_138, sm_X7_lesser, in_X7, co_X7_lesser, ds_X7_lesser⟩
theorem ds_X7_person : dscOk yX7_person 2 := by decide +kernel
theorem k_L_35 : LkV RL 35 yX7_person RX7 cX7_person 3 (some .int) 2 := ⟨ml_L_35, im_X7_person, se_X7_person, in_X7, co_X7_person, ds_X7_person⟩
theorem ds_X7_isPerson : dscOk yX7_isPerson 1 := by decide +kernel
theorem k_X7_180 : LkV RX7 180 yX7_isPerson RX7 cX7_isPerson 2 (some .boolean) 1 := ⟨ml_X7_180, im_X7_isPerson, se_X7_isPerson, in_X7, co_X7_isPerson, ds_X7_isPerson⟩
theorem ds_X7_lossOn : dscOk yX7_lossOn 2 := by decide +kernel
theorem k_X7_154 : LkV RX7 154 yX7_lossOn RX7 cX7_lossOn 3 (some .int) 2 := ⟨ml_X7_154, im_X7_lossOn, se_X7_lossOn, in_X7, co_X7_lossOn, ds_X7_lossOn⟩
theorem ds_X7_debt : dscOk yX7_debt 2 := by decide +kernel
theorem k_L_39 : LkV RL 39 yX7_debt RX7 cX7_debt 3 (some .int) 2 := ⟨ml_L_39, im_X7_debt, se_X7_debt, in_X7, co_X7_debt, ds_X7_debt⟩
theorem ds_X7_trace : dscOk yX7_trace 1 := by decide +kernel
theorem k_L_43 : LkV RL 43 yX7_trace RX7 cX7_trace 2 (some .int) 1 := ⟨ml_L_43, im_X7_trace, se_X7_trace, in_X7, co_X7_trace, ds_X7_trace⟩
theorem ds_X7_count : dscOk yX7_count 2 := by decide +kernel
theorem k_L_47 : LkV RL 47 yX7_count RX7 cX7_count 3 (some .int) 2 := ⟨ml_L_47, im_X7_count, se_X7_count, in_X7, co_X7_count, ds_X7_count⟩
theorem ds_X7_remember : dscOk yX7_remember 0 := by decide +kernel
theorem k_X7_189 : LkV RX7 189 yX7_remember RX7 cX7_remember 2 none 0 := ⟨ml_X7_189, im_X7_remember, se_X7_remember, in_X7, co_X7_remember, ds_X7_remember⟩
theorem ds_X7_flies : dscOk yX7_flies 4 := by decide +kernel
theorem k_X7_158 : LkS RX7 158 yX7_flies cX7_flies 5 none 4 := ⟨ml_X7_158, sm_X7_flies, in_X7, co_X7_flies, ds_X7_flies⟩
theorem ds_X7_pay : dscOk yX7_pay 3 := by decide +kernel
theorem k_L_52 : LkV RL 52 yX7_pay RX7 cX7_pay 7 (some .int) 3 := ⟨ml_L_52, im_X7_pay, se_X7_pay, in_X7, co_X7_pay, ds_X7_pay⟩
theorem ds_X7_strew : dscOk yX7_strew 2 := by decide +kernel
theorem k_L_56 : LkV RL 56 yX7_strew RX7 cX7_strew 3 (some .int) 2 := ⟨ml_L_56, im_X7_strew, se_X7_strew, in_X7, co_X7_strew, ds_X7_strew⟩
theorem ds_X7_strews : dscOk yX7_strews 2 := by decide +kernel
theorem k_X7_194 : LkV RX7 194 yX7_strews RX7 cX7_strews 3 none 2 := ⟨ml_X7_194, im_X7_strews, se_X7_strews, in_X7, co_X7_strews, ds_X7_strews⟩
theorem ds_X7_net : dscOk yX7_net 2 := by decide +kernel
theorem k_L_61 : LkV RL 61 yX7_net RX7 cX7_net 4 (some .int) 2 := ⟨ml_L_61, im_X7_net, se_X7_net, in_X7, co_X7_net, ds_X7_net⟩
theorem ds_X7_hawk : dscOk yX7_hawk 2 := by decide +kernel
theorem k_L_65 : LkV RL 65 yX7_hawk RX7 cX7_hawk 3 (some .int) 2 := ⟨ml_L_65, im_X7_hawk, se_X7_hawk, in_X7, co_X7_hawk, ds_X7_hawk⟩
theorem ds_X7_hawks : dscOk yX7_hawks 2 := by decide +kernel
theorem k_X7_200 : LkV RX7 200 yX7_hawks RX7 cX7_hawks 6 (some .int) 2 := ⟨ml_X7_200, im_X7_hawks, se_X7_hawks, in_X7, co_X7_hawks, ds_X7_hawks⟩
theorem ds_X7_hour : dscOk yX7_hour 1 := by decide +kernel
theorem k_L_69 : LkV RL 69 yX7_hour RX7 cX7_hour 4 (some .int) 1 := ⟨ml_L_69, im_X7_hour, se_X7_hour, in_X7, co_X7_hour, ds_X7_hour⟩
theorem ds_X7_refuses : dscOk yX7_refuses 1 := by decide +kernel
theorem k_X7_205 : LkV RX7 205 yX7_refuses RX7 cX7_refuses 2 (some .int) 1 := ⟨ml_X7_205, im_X7_refuses, se_X7_refuses, in_X7, co_X7_refuses, ds_X7_refuses⟩
theorem ds_X7_hourGoes : dscOk yX7_hourGoes 2 := by decide +kernel
theorem k_X7_208 : LkV RX7 208 yX7_hourGoes RX7 cX7_hourGoes 5 none 2 := ⟨ml_X7_208, im_X7_hourGoes, se_X7_hourGoes, in_X7, co_X7_hourGoes, ds_X7_hourGoes⟩
theorem ds_X7_drawerOn : dscOk yX7_drawerOn 1 := by decide +kernel
theorem k_X7_150 : LkV RX7 150 yX7_drawerOn RX7 cX7_drawerOn 4 (some .int) 1 := ⟨ml_X7_150, im_X7_drawerOn, se_X7_drawerOn, in_X7, co_X7_drawerOn, ds_X7_drawerOn⟩
theorem ds_X7_drift : dscOk yX7_drift 1 := by decide +kernel
theorem k_L_73 : LkV RL 73 yX7_drift RX7 cX7_drift 4 (some .int) 1 := ⟨ml_L_73, im_X7_drift, se_X7_drift, in_X7, co_X7_drift, ds_X7_drift⟩
theorem ds_X7_draws : dscOk yX7_draws 0 := by decide +kernel
theorem k_X7_227 : LkV RX7 227 yX7_draws RX7 cX7_draws 4 none 0 := ⟨ml_X7_227, im_X7_draws, se_X7_draws, in_X7, co_X7_draws, ds_X7_draws⟩
theorem ds_X7_draw : dscOk yX7_draw 1 := by decide +kernel
theorem k_X7_224 : LkV RX7 224 yX7_draw RX7 cX7_draw 2 (some .int) 1 := ⟨ml_X7_224, im_X7_draw, se_X7_draw, in_X7, co_X7_draw, ds_X7_draw⟩
theorem ds_X7_undo : dscOk yX7_undo 0 := by decide +kernel
theorem k_L_77 : LkV RL 77 yX7_undo RX7 cX7_undo 1 (some .int) 0 := ⟨ml_L_77, im_X7_undo, se_X7_undo, in_X7, co_X7_undo, ds_X7_undo⟩
theorem ds_X7_hat : dscOk yX7_hat 2 := by decide +kernel
theorem k_L_81 : LkV RL 81 yX7_hat RX7 cX7_hat 4 (some .int) 2 := ⟨ml_L_81, im_X7_hat, se_X7_hat, in_X7, co_X7_hat, ds_X7_hat⟩
theorem ds_X7_layAside : dscOk yX7_layAside 0 := by decide +kernel
theorem k_X7_232 : LkV RX7 232 yX7_layAside RX7 cX7_layAside 1 none 0 := ⟨ml_X7_232, im_X7_layAside, se_X7_layAside, in_X7, co_X7_layAside, ds_X7_layAside⟩
theorem ds_X7_most : dscOk yX7_most 3 := by decide +kernel
theorem k_L_85 : LkV RL 85 yX7_most RX7 cX7_most 7 (some .int) 3 := ⟨ml_L_85, im_X7_most, se_X7_most, in_X7, co_X7_most, ds_X7_most⟩
theorem ds_X7_greater : dscOk yX7_greater 2 := by decide +kernel
theorem k_X7_235 : LkS RX7 235 yX7_greater cX7_greater 2 (some .int) 2 := ⟨ml_X7_235, sm_X7_greater, in_X7, co_X7_greater, ds_X7_greater⟩
theorem ds_X7_kept : dscOk yX7_kept 1 := by decide +kernel
theorem k_L_89 : LkV RL 89 yX7_kept RX7 cX7_kept 2 (some .int) 1 := ⟨ml_L_89, im_X7_kept, se_X7_kept, in_X7, co_X7_kept, ds_X7_kept⟩
theorem ds_X7_settled : dscOk yX7_settled 1 := by decide +kernel
theorem k_L_93 : LkV RL 93 yX7_settled RX7 cX7_settled 6 (some .int) 1 := ⟨ml_L_93, im_X7_settled, se_X7_settled, in_X7, co_X7_settled, ds_X7_settled⟩
theorem ds_X7_laysDebts : dscOk yX7_laysDebts 2 := by decide +kernel
theorem k_X7_245 : LkV RX7 245 yX7_laysDebts RX7 cX7_laysDebts 5 (some .int) 2 := ⟨ml_X7_245, im_X7_laysDebts, se_X7_laysDebts, in_X7, co_X7_laysDebts, ds_X7_laysDebts⟩
theorem ds_X7_isOwed : dscOk yX7_isOwed 1 := by decide +kernel
theorem k_X7_238 : LkV RX7 238 yX7_isOwed RX7 cX7_isOwed 2 (some .boolean) 1 := ⟨ml_X7_238, im_X7_isOwed, se_X7_isOwed, in_X7, co_X7_isOwed, ds_X7_isOwed⟩
theorem ds_X7_mayPay : dscOk yX7_mayPay 4 := by decide +kernel
theorem k_X7_241 : LkV RX7 241 yX7_mayPay RX7 cX7_mayPay 8 (some .boolean) 4 := ⟨ml_X7_241, im_X7_mayPay, se_X7_mayPay, in_X7, co_X7_mayPay, ds_X7_mayPay⟩
theorem ds_X7_toFloat : dscOk yX7_toFloat 1 := by decide +kernel
theorem k_L_97 : LkV RL 97 yX7_toFloat RX7 cX7_toFloat 6 (some .int) 1 := ⟨ml_L_97, im_X7_toFloat, se_X7_toFloat, in_X7, co_X7_toFloat, ds_X7_toFloat⟩
theorem ds_X7_nets : dscOk yX7_nets 2 := by decide +kernel
theorem k_L_101 : LkV RL 101 yX7_nets RX7 cX7_nets 6 (some .int) 2 := ⟨ml_L_101, im_X7_nets, se_X7_nets, in_X7, co_X7_nets, ds_X7_nets⟩
theorem ds_X7_bits : dscOk yX7_bits 1 := by decide +kernel
theorem k_X7_252 : LkS RX7 252 yX7_bits cX7_bits 3 (some .int) 1 := ⟨ml_X7_252, sm_X7_bits, in_X7, co_X7_bits, ds_X7_bits⟩
theorem ds_X7_calm : dscOk yX7_calm 2 := by decide +kernel
theorem k_L_105 : LkV RL 105 yX7_calm RX7 cX7_calm 6 (some .int) 2 := ⟨ml_L_105, im_X7_calm, se_X7_calm, in_X7, co_X7_calm, ds_X7_calm⟩
theorem ds_X7_watch : dscOk yX7_watch 1 := by decide +kernel
theorem k_L_109 : LkV RL 109 yX7_watch RX7 cX7_watch 2 (some .int) 1 := ⟨ml_L_109, im_X7_watch, se_X7_watch, in_X7, co_X7_watch, ds_X7_watch⟩
theorem ds_X7_feel : dscOk yX7_feel 3 := by decide +kernel
theorem k_L_114 : LkV RL 114 yX7_feel RX7 cX7_feel 4 (some .int) 3 := ⟨ml_L_114, im_X7_feel, se_X7_feel, in_X7, co_X7_feel, ds_X7_feel⟩
theorem ds_X7_reach : dscOk yX7_reach 1 := by decide +kernel
theorem k_L_118 : LkV RL 118 yX7_reach RX7 cX7_reach 10 (some .int) 1 := ⟨ml_L_118, im_X7_reach, se_X7_reach, in_X7, co_X7_reach, ds_X7_reach⟩
theorem ds_X7_isSo : dscOk yX7_isSo 1 := by decide +kernel
theorem k_X7_259 : LkV RX7 259 yX7_isSo RX7 cX7_isSo 4 (some .boolean) 1 := ⟨ml_X7_259, im_X7_isSo, se_X7_isSo, in_X7, co_X7_isSo, ds_X7_isSo⟩
theorem ds_X7_write : dscOk yX7_write 2 := by decide +kernel
theorem k_L_122 : LkV RL 122 yX7_write RX7 cX7_write 3 (some .int) 2 := ⟨ml_L_122, im_X7_write, se_X7_write, in_X7, co_X7_write, ds_X7_write⟩
theorem ds_X7_tear : dscOk yX7_tear 0 := by decide +kernel
theorem k_L_126 : LkV RL 126 yX7_tear RX7 cX7_tear 2 (some .int) 0 := ⟨ml_L_126, im_X7_tear, se_X7_tear, in_X7, co_X7_tear, ds_X7_tear⟩
theorem ds_X7_judge : dscOk yX7_judge 0 := by decide +kernel
theorem k_L_130 : LkV RL 130 yX7_judge RX7 cX7_judge 2 (some .int) 0 := ⟨ml_L_130, im_X7_judge, se_X7_judge, in_X7, co_X7_judge, ds_X7_judge⟩
theorem ds_X7_seed : dscOk yX7_seed 1 := by decide +kernel
theorem k_L_134 : LkV RL 134 yX7_seed RX7 cX7_seed 3 (some .int) 1 := ⟨ml_L_134, im_X7_seed, se_X7_seed, in_X7, co_X7_seed, ds_X7_seed⟩
theorem ds_X7_keep : dscOk yX7_keep 1 := by decide +kernel
theorem k_L_138 : LkV RL 138 yX7_keep RX7 cX7_keep 2 (some .int) 1 := ⟨ml_L_138, im_X7_keep, se_X7_keep, in_X7, co_X7_keep, ds_X7_keep⟩
theorem ds_X7_goBack : dscOk yX7_goBack 1 := by decide +kernel
theorem k_L_142 : LkV RL 142 yX7_goBack RX7 cX7_goBack 2 (some .int) 1 := ⟨ml_L_142, im_X7_goBack, se_X7_goBack, in_X7, co_X7_goBack, ds_X7_goBack⟩
end
